section
-- ===== PART A: goes FIRST, ahead of the names: the tables' words, and 'selects' of the private methods out of them =====
/-- a private method of a class that the tables say can be made, by its rows of tables_1 -/
def lw_okq (q : MethodName × Nat) : Prop := (q.1.cls ≠ "java/lang/invoke/MethodHandle" ∧ q.1.cls ≠ "java/lang/invoke/VarHandle") ∧ Cond.instantiable q.1.cls q.2 ∈ tables_1 ∧ Cond.privateMethod q.1 ∈ tables_1 ∧ Cond.instanceMethod q.1 ∈ tables_1
theorem lw_p0 : lw_okq (⟨"TabText", "measure", "(LTabText$Layout;)V"⟩, 5) := ⟨⟨by decide +kernel, by decide +kernel⟩, List.mem_of_getElem? (i := 23) (by decide +kernel), List.mem_of_getElem? (i := 187) (by decide +kernel), List.mem_of_getElem? (i := 188) (by decide +kernel)⟩
theorem lw_p1 : lw_okq (⟨"TabText$Cells", "readCell", "(LTabText$Page;IIII)V"⟩, 7) := ⟨⟨by decide +kernel, by decide +kernel⟩, List.mem_of_getElem? (i := 106) (by decide +kernel), List.mem_of_getElem? (i := 207) (by decide +kernel), List.mem_of_getElem? (i := 208) (by decide +kernel)⟩
theorem lw_p2 : lw_okq (⟨"TabText$Blocks", "measureBlock", "(ILTabText$Cells;LTabText$Format;)V"⟩, 10) := ⟨⟨by decide +kernel, by decide +kernel⟩, List.mem_of_getElem? (i := 135) (by decide +kernel), List.mem_of_getElem? (i := 253) (by decide +kernel), List.mem_of_getElem? (i := 254) (by decide +kernel)⟩
theorem lw_p3 : lw_okq (⟨"TabText$Blocks", "addNumbers", "(ILTabText$Cells;)V"⟩, 10) := ⟨⟨by decide +kernel, by decide +kernel⟩, List.mem_of_getElem? (i := 135) (by decide +kernel), List.mem_of_getElem? (i := 257) (by decide +kernel), List.mem_of_getElem? (i := 258) (by decide +kernel)⟩
theorem lw_p4 : lw_okq (⟨"TabText$Blocks", "isDecimal", "(ILTabText$Cells;)Z"⟩, 10) := ⟨⟨by decide +kernel, by decide +kernel⟩, List.mem_of_getElem? (i := 135) (by decide +kernel), List.mem_of_getElem? (i := 277) (by decide +kernel), List.mem_of_getElem? (i := 278) (by decide +kernel)⟩
theorem lw_p5 : lw_okq (⟨"TabText$Blocks", "measureDecimal", "(ILTabText$Cells;)V"⟩, 10) := ⟨⟨by decide +kernel, by decide +kernel⟩, List.mem_of_getElem? (i := 135) (by decide +kernel), List.mem_of_getElem? (i := 281) (by decide +kernel), List.mem_of_getElem? (i := 282) (by decide +kernel)⟩
theorem lw_p6 : lw_okq (⟨"TabText$Blocks", "measurePlain", "(ILTabText$Cells;)V"⟩, 10) := ⟨⟨by decide +kernel, by decide +kernel⟩, List.mem_of_getElem? (i := 135) (by decide +kernel), List.mem_of_getElem? (i := 294) (by decide +kernel), List.mem_of_getElem? (i := 295) (by decide +kernel)⟩
theorem lw_p7 : lw_okq (⟨"TabText$Blocks", "has", "(I)Z"⟩, 10) := ⟨⟨by decide +kernel, by decide +kernel⟩, List.mem_of_getElem? (i := 135) (by decide +kernel), List.mem_of_getElem? (i := 321) (by decide +kernel), List.mem_of_getElem? (i := 322) (by decide +kernel)⟩
theorem lw_p8 : lw_okq (⟨"TabText$Layout", "placeCellsOf", "(I)V"⟩, 4) := ⟨⟨by decide +kernel, by decide +kernel⟩, List.mem_of_getElem? (i := 100) (by decide +kernel), List.mem_of_getElem? (i := 333) (by decide +kernel), List.mem_of_getElem? (i := 334) (by decide +kernel)⟩
theorem lw_p9 : lw_okq (⟨"TabText", "countFact", "(I)I"⟩, 5) := ⟨⟨by decide +kernel, by decide +kernel⟩, List.mem_of_getElem? (i := 23) (by decide +kernel), List.mem_of_getElem? (i := 370) (by decide +kernel), List.mem_of_getElem? (i := 371) (by decide +kernel)⟩
theorem lw_p10 : lw_okq (⟨"TabText", "cells", "()LTabText$Cells;"⟩, 5) := ⟨⟨by decide +kernel, by decide +kernel⟩, List.mem_of_getElem? (i := 23) (by decide +kernel), List.mem_of_getElem? (i := 374) (by decide +kernel), List.mem_of_getElem? (i := 375) (by decide +kernel)⟩
theorem lw_p11 : lw_okq (⟨"TabText$Layout", "shownLength", "(I)I"⟩, 4) := ⟨⟨by decide +kernel, by decide +kernel⟩, List.mem_of_getElem? (i := 100) (by decide +kernel), List.mem_of_getElem? (i := 403) (by decide +kernel), List.mem_of_getElem? (i := 404) (by decide +kernel)⟩
theorem lw_p12 : lw_okq (⟨"TabText", "mixLine", "(JI)J"⟩, 5) := ⟨⟨by decide +kernel, by decide +kernel⟩, List.mem_of_getElem? (i := 23) (by decide +kernel), List.mem_of_getElem? (i := 431) (by decide +kernel), List.mem_of_getElem? (i := 432) (by decide +kernel)⟩
theorem lw_p13 : lw_okq (⟨"TabText", "signAt", "(III)I"⟩, 5) := ⟨⟨by decide +kernel, by decide +kernel⟩, List.mem_of_getElem? (i := 23) (by decide +kernel), List.mem_of_getElem? (i := 473) (by decide +kernel), List.mem_of_getElem? (i := 474) (by decide +kernel)⟩
theorem lw_p14 : lw_okq (⟨"java/lang/Throwable", "fillInStackTrace", "(I)Ljava/lang/Throwable;"⟩, 6) := ⟨⟨by decide +kernel, by decide +kernel⟩, List.mem_of_getElem? (i := 543) (by decide +kernel), List.mem_of_getElem? (i := 541) (by decide +kernel), List.mem_of_getElem? (i := 542) (by decide +kernel)⟩
theorem lw_p15 : lw_okq (⟨"TabText", "requireInput", "(I)V"⟩, 5) := ⟨⟨by decide +kernel, by decide +kernel⟩, List.mem_of_getElem? (i := 23) (by decide +kernel), List.mem_of_getElem? (i := 620) (by decide +kernel), List.mem_of_getElem? (i := 621) (by decide +kernel)⟩
def lw_privs_1 : List (MethodName × Nat) := [(⟨"TabText", "measure", "(LTabText$Layout;)V"⟩, 5), (⟨"TabText$Cells", "readCell", "(LTabText$Page;IIII)V"⟩, 7), (⟨"TabText$Blocks", "measureBlock", "(ILTabText$Cells;LTabText$Format;)V"⟩, 10), (⟨"TabText$Blocks", "addNumbers", "(ILTabText$Cells;)V"⟩, 10), (⟨"TabText$Blocks", "isDecimal", "(ILTabText$Cells;)Z"⟩, 10), (⟨"TabText$Blocks", "measureDecimal", "(ILTabText$Cells;)V"⟩, 10), (⟨"TabText$Blocks", "measurePlain", "(ILTabText$Cells;)V"⟩, 10), (⟨"TabText$Blocks", "has", "(I)Z"⟩, 10), (⟨"TabText$Layout", "placeCellsOf", "(I)V"⟩, 4), (⟨"TabText", "countFact", "(I)I"⟩, 5), (⟨"TabText", "cells", "()LTabText$Cells;"⟩, 5), (⟨"TabText$Layout", "shownLength", "(I)I"⟩, 4), (⟨"TabText", "mixLine", "(JI)J"⟩, 5), (⟨"TabText", "signAt", "(III)I"⟩, 5), (⟨"java/lang/Throwable", "fillInStackTrace", "(I)Ljava/lang/Throwable;"⟩, 6), (⟨"TabText", "requireInput", "(I)V"⟩, 5)]
theorem lw_r1 : ∀ q ∈ lw_privs_1, lw_okq q := List.forall_mem_cons.mpr ⟨lw_p0, List.forall_mem_cons.mpr ⟨lw_p1, List.forall_mem_cons.mpr ⟨lw_p2, List.forall_mem_cons.mpr ⟨lw_p3, List.forall_mem_cons.mpr ⟨lw_p4, List.forall_mem_cons.mpr ⟨lw_p5, List.forall_mem_cons.mpr ⟨lw_p6, List.forall_mem_cons.mpr ⟨lw_p7, List.forall_mem_cons.mpr ⟨lw_p8, List.forall_mem_cons.mpr ⟨lw_p9, List.forall_mem_cons.mpr ⟨lw_p10, List.forall_mem_cons.mpr ⟨lw_p11, List.forall_mem_cons.mpr ⟨lw_p12, List.forall_mem_cons.mpr ⟨lw_p13, List.forall_mem_cons.mpr ⟨lw_p14, List.forall_mem_cons.mpr ⟨lw_p15, fun _ h => absurd h List.not_mem_nil⟩⟩⟩⟩⟩⟩⟩⟩⟩⟩⟩⟩⟩⟩⟩⟩
theorem lw_p16 : lw_okq (⟨"TabText$History", "placeBehind", "()I"⟩, 5) := ⟨⟨by decide +kernel, by decide +kernel⟩, List.mem_of_getElem? (i := 64) (by decide +kernel), List.mem_of_getElem? (i := 633) (by decide +kernel), List.mem_of_getElem? (i := 634) (by decide +kernel)⟩
theorem lw_p17 : lw_okq (⟨"TabText$Page", "open", "(II)Z"⟩, 2) := ⟨⟨by decide +kernel, by decide +kernel⟩, List.mem_of_getElem? (i := 71) (by decide +kernel), List.mem_of_getElem? (i := 656) (by decide +kernel), List.mem_of_getElem? (i := 657) (by decide +kernel)⟩
theorem lw_p18 : lw_okq (⟨"TabText", "requireTypable", "(IIII)V"⟩, 5) := ⟨⟨by decide +kernel, by decide +kernel⟩, List.mem_of_getElem? (i := 23) (by decide +kernel), List.mem_of_getElem? (i := 676) (by decide +kernel), List.mem_of_getElem? (i := 677) (by decide +kernel)⟩
theorem lw_p19 : lw_okq (⟨"TabText", "requireOffset", "(III)V"⟩, 5) := ⟨⟨by decide +kernel, by decide +kernel⟩, List.mem_of_getElem? (i := 23) (by decide +kernel), List.mem_of_getElem? (i := 680) (by decide +kernel), List.mem_of_getElem? (i := 681) (by decide +kernel)⟩
theorem lw_p20 : lw_okq (⟨"TabText", "requireCell", "(II)V"⟩, 5) := ⟨⟨by decide +kernel, by decide +kernel⟩, List.mem_of_getElem? (i := 23) (by decide +kernel), List.mem_of_getElem? (i := 684) (by decide +kernel), List.mem_of_getElem? (i := 685) (by decide +kernel)⟩
theorem lw_p21 : lw_okq (⟨"TabText", "requireLine", "(I)V"⟩, 5) := ⟨⟨by decide +kernel, by decide +kernel⟩, List.mem_of_getElem? (i := 23) (by decide +kernel), List.mem_of_getElem? (i := 766) (by decide +kernel), List.mem_of_getElem? (i := 767) (by decide +kernel)⟩
theorem lw_p22 : lw_okq (⟨"TabText", "arrange", "(LTabText$Order;)V"⟩, 5) := ⟨⟨by decide +kernel, by decide +kernel⟩, List.mem_of_getElem? (i := 23) (by decide +kernel), List.mem_of_getElem? (i := 802) (by decide +kernel), List.mem_of_getElem? (i := 803) (by decide +kernel)⟩
theorem lw_p23 : lw_okq (⟨"TabText", "requireBlock", "(I)V"⟩, 5) := ⟨⟨by decide +kernel, by decide +kernel⟩, List.mem_of_getElem? (i := 23) (by decide +kernel), List.mem_of_getElem? (i := 827) (by decide +kernel), List.mem_of_getElem? (i := 828) (by decide +kernel)⟩
theorem lw_p24 : lw_okq (⟨"TabText", "sortLines", "(LTabText$Order;IIIZ)V"⟩, 5) := ⟨⟨by decide +kernel, by decide +kernel⟩, List.mem_of_getElem? (i := 23) (by decide +kernel), List.mem_of_getElem? (i := 836) (by decide +kernel), List.mem_of_getElem? (i := 837) (by decide +kernel)⟩
theorem lw_p25 : lw_okq (⟨"TabText", "comesBefore", "(IIIZ)Z"⟩, 5) := ⟨⟨by decide +kernel, by decide +kernel⟩, List.mem_of_getElem? (i := 23) (by decide +kernel), List.mem_of_getElem? (i := 840) (by decide +kernel), List.mem_of_getElem? (i := 841) (by decide +kernel)⟩
theorem lw_p26 : lw_okq (⟨"TabText", "compareWords", "(III)I"⟩, 5) := ⟨⟨by decide +kernel, by decide +kernel⟩, List.mem_of_getElem? (i := 23) (by decide +kernel), List.mem_of_getElem? (i := 852) (by decide +kernel), List.mem_of_getElem? (i := 853) (by decide +kernel)⟩
theorem lw_p27 : lw_okq (⟨"TabText$Page", "runStart", "(II)I"⟩, 2) := ⟨⟨by decide +kernel, by decide +kernel⟩, List.mem_of_getElem? (i := 71) (by decide +kernel), List.mem_of_getElem? (i := 894) (by decide +kernel), List.mem_of_getElem? (i := 895) (by decide +kernel)⟩
theorem lw_p28 : lw_okq (⟨"TabText$History", "goTo", "(I)V"⟩, 5) := ⟨⟨by decide +kernel, by decide +kernel⟩, List.mem_of_getElem? (i := 64) (by decide +kernel), List.mem_of_getElem? (i := 917) (by decide +kernel), List.mem_of_getElem? (i := 918) (by decide +kernel)⟩
theorem lw_p29 : lw_okq (⟨"TabText", "requireShownPlace", "(II)V"⟩, 5) := ⟨⟨by decide +kernel, by decide +kernel⟩, List.mem_of_getElem? (i := 23) (by decide +kernel), List.mem_of_getElem? (i := 1000) (by decide +kernel), List.mem_of_getElem? (i := 1001) (by decide +kernel)⟩
theorem lw_p30 : lw_okq (⟨"TabText", "equalsInput", "(II)Z"⟩, 5) := ⟨⟨by decide +kernel, by decide +kernel⟩, List.mem_of_getElem? (i := 23) (by decide +kernel), List.mem_of_getElem? (i := 1025) (by decide +kernel), List.mem_of_getElem? (i := 1026) (by decide +kernel)⟩
theorem lw_p31 : lw_okq (⟨"TabTextModel", "rightLength", "(I)I"⟩, 24) := ⟨⟨by decide +kernel, by decide +kernel⟩, List.mem_of_getElem? (i := 1082) (by decide +kernel), List.mem_of_getElem? (i := 1189) (by decide +kernel), List.mem_of_getElem? (i := 1190) (by decide +kernel)⟩
def lw_privs_2 : List (MethodName × Nat) := [(⟨"TabText$History", "placeBehind", "()I"⟩, 5), (⟨"TabText$Page", "open", "(II)Z"⟩, 2), (⟨"TabText", "requireTypable", "(IIII)V"⟩, 5), (⟨"TabText", "requireOffset", "(III)V"⟩, 5), (⟨"TabText", "requireCell", "(II)V"⟩, 5), (⟨"TabText", "requireLine", "(I)V"⟩, 5), (⟨"TabText", "arrange", "(LTabText$Order;)V"⟩, 5), (⟨"TabText", "requireBlock", "(I)V"⟩, 5), (⟨"TabText", "sortLines", "(LTabText$Order;IIIZ)V"⟩, 5), (⟨"TabText", "comesBefore", "(IIIZ)Z"⟩, 5), (⟨"TabText", "compareWords", "(III)I"⟩, 5), (⟨"TabText$Page", "runStart", "(II)I"⟩, 2), (⟨"TabText$History", "goTo", "(I)V"⟩, 5), (⟨"TabText", "requireShownPlace", "(II)V"⟩, 5), (⟨"TabText", "equalsInput", "(II)Z"⟩, 5), (⟨"TabTextModel", "rightLength", "(I)I"⟩, 24)]
theorem lw_r2 : ∀ q ∈ lw_privs_2, lw_okq q := List.forall_mem_cons.mpr ⟨lw_p16, List.forall_mem_cons.mpr ⟨lw_p17, List.forall_mem_cons.mpr ⟨lw_p18, List.forall_mem_cons.mpr ⟨lw_p19, List.forall_mem_cons.mpr ⟨lw_p20, List.forall_mem_cons.mpr ⟨lw_p21, List.forall_mem_cons.mpr ⟨lw_p22, List.forall_mem_cons.mpr ⟨lw_p23, List.forall_mem_cons.mpr ⟨lw_p24, List.forall_mem_cons.mpr ⟨lw_p25, List.forall_mem_cons.mpr ⟨lw_p26, List.forall_mem_cons.mpr ⟨lw_p27, List.forall_mem_cons.mpr ⟨lw_p28, List.forall_mem_cons.mpr ⟨lw_p29, List.forall_mem_cons.mpr ⟨lw_p30, List.forall_mem_cons.mpr ⟨lw_p31, fun _ h => absurd h List.not_mem_nil⟩⟩⟩⟩⟩⟩⟩⟩⟩⟩⟩⟩⟩⟩⟩⟩
theorem lw_p32 : lw_okq (⟨"TabTextModel", "isRight", "(I)Z"⟩, 24) := ⟨⟨by decide +kernel, by decide +kernel⟩, List.mem_of_getElem? (i := 1082) (by decide +kernel), List.mem_of_getElem? (i := 1203) (by decide +kernel), List.mem_of_getElem? (i := 1204) (by decide +kernel)⟩
theorem lw_p33 : lw_okq (⟨"TabTextModel", "save", "()V"⟩, 24) := ⟨⟨by decide +kernel, by decide +kernel⟩, List.mem_of_getElem? (i := 1082) (by decide +kernel), List.mem_of_getElem? (i := 1207) (by decide +kernel), List.mem_of_getElem? (i := 1208) (by decide +kernel)⟩
theorem lw_p34 : lw_okq (⟨"TabTextModel", "setLength", "(III)V"⟩, 24) := ⟨⟨by decide +kernel, by decide +kernel⟩, List.mem_of_getElem? (i := 1082) (by decide +kernel), List.mem_of_getElem? (i := 1211) (by decide +kernel), List.mem_of_getElem? (i := 1212) (by decide +kernel)⟩
theorem lw_p35 : lw_okq (⟨"TabTextModel", "layBuffer", "(I)V"⟩, 24) := ⟨⟨by decide +kernel, by decide +kernel⟩, List.mem_of_getElem? (i := 1082) (by decide +kernel), List.mem_of_getElem? (i := 1215) (by decide +kernel), List.mem_of_getElem? (i := 1216) (by decide +kernel)⟩
theorem lw_p36 : lw_okq (⟨"TabTextModel", "cells", "(I)I"⟩, 24) := ⟨⟨by decide +kernel, by decide +kernel⟩, List.mem_of_getElem? (i := 1082) (by decide +kernel), List.mem_of_getElem? (i := 1219) (by decide +kernel), List.mem_of_getElem? (i := 1220) (by decide +kernel)⟩
theorem lw_p37 : lw_okq (⟨"TabTextModel", "lengthOf", "(II)I"⟩, 24) := ⟨⟨by decide +kernel, by decide +kernel⟩, List.mem_of_getElem? (i := 1082) (by decide +kernel), List.mem_of_getElem? (i := 1223) (by decide +kernel), List.mem_of_getElem? (i := 1224) (by decide +kernel)⟩
theorem lw_p38 : lw_okq (⟨"TabTextModel", "typing", "(IIII)I"⟩, 24) := ⟨⟨by decide +kernel, by decide +kernel⟩, List.mem_of_getElem? (i := 1082) (by decide +kernel), List.mem_of_getElem? (i := 1234) (by decide +kernel), List.mem_of_getElem? (i := 1235) (by decide +kernel)⟩
theorem lw_p39 : lw_okq (⟨"TabTextModel", "isPlace", "(III)Z"⟩, 24) := ⟨⟨by decide +kernel, by decide +kernel⟩, List.mem_of_getElem? (i := 1082) (by decide +kernel), List.mem_of_getElem? (i := 1238) (by decide +kernel), List.mem_of_getElem? (i := 1239) (by decide +kernel)⟩
theorem lw_p40 : lw_okq (⟨"TabTextModel", "isCell", "(II)Z"⟩, 24) := ⟨⟨by decide +kernel, by decide +kernel⟩, List.mem_of_getElem? (i := 1082) (by decide +kernel), List.mem_of_getElem? (i := 1242) (by decide +kernel), List.mem_of_getElem? (i := 1243) (by decide +kernel)⟩
theorem lw_p41 : lw_okq (⟨"TabTextModel", "isLine", "(I)Z"⟩, 24) := ⟨⟨by decide +kernel, by decide +kernel⟩, List.mem_of_getElem? (i := 1082) (by decide +kernel), List.mem_of_getElem? (i := 1246) (by decide +kernel), List.mem_of_getElem? (i := 1247) (by decide +kernel)⟩
theorem lw_p42 : lw_okq (⟨"TabTextModel", "isCode", "(I)Z"⟩, 24) := ⟨⟨by decide +kernel, by decide +kernel⟩, List.mem_of_getElem? (i := 1082) (by decide +kernel), List.mem_of_getElem? (i := 1250) (by decide +kernel), List.mem_of_getElem? (i := 1251) (by decide +kernel)⟩
theorem lw_p43 : lw_okq (⟨"TabTextModel", "put", "(IIII)I"⟩, 24) := ⟨⟨by decide +kernel, by decide +kernel⟩, List.mem_of_getElem? (i := 1082) (by decide +kernel), List.mem_of_getElem? (i := 1254) (by decide +kernel), List.mem_of_getElem? (i := 1255) (by decide +kernel)⟩
theorem lw_p44 : lw_okq (⟨"TabTextModel", "putTab", "(III)I"⟩, 24) := ⟨⟨by decide +kernel, by decide +kernel⟩, List.mem_of_getElem? (i := 1082) (by decide +kernel), List.mem_of_getElem? (i := 1258) (by decide +kernel), List.mem_of_getElem? (i := 1259) (by decide +kernel)⟩
theorem lw_p45 : lw_okq (⟨"TabTextModel", "openCell", "(II)V"⟩, 24) := ⟨⟨by decide +kernel, by decide +kernel⟩, List.mem_of_getElem? (i := 1082) (by decide +kernel), List.mem_of_getElem? (i := 1262) (by decide +kernel), List.mem_of_getElem? (i := 1263) (by decide +kernel)⟩
theorem lw_p46 : lw_okq (⟨"TabTextModel", "copyCell", "(IIII)V"⟩, 24) := ⟨⟨by decide +kernel, by decide +kernel⟩, List.mem_of_getElem? (i := 1082) (by decide +kernel), List.mem_of_getElem? (i := 1266) (by decide +kernel), List.mem_of_getElem? (i := 1267) (by decide +kernel)⟩
theorem lw_p47 : lw_okq (⟨"TabTextModel", "signOf", "(III)I"⟩, 24) := ⟨⟨by decide +kernel, by decide +kernel⟩, List.mem_of_getElem? (i := 1082) (by decide +kernel), List.mem_of_getElem? (i := 1270) (by decide +kernel), List.mem_of_getElem? (i := 1271) (by decide +kernel)⟩
def lw_privs_3 : List (MethodName × Nat) := [(⟨"TabTextModel", "isRight", "(I)Z"⟩, 24), (⟨"TabTextModel", "save", "()V"⟩, 24), (⟨"TabTextModel", "setLength", "(III)V"⟩, 24), (⟨"TabTextModel", "layBuffer", "(I)V"⟩, 24), (⟨"TabTextModel", "cells", "(I)I"⟩, 24), (⟨"TabTextModel", "lengthOf", "(II)I"⟩, 24), (⟨"TabTextModel", "typing", "(IIII)I"⟩, 24), (⟨"TabTextModel", "isPlace", "(III)Z"⟩, 24), (⟨"TabTextModel", "isCell", "(II)Z"⟩, 24), (⟨"TabTextModel", "isLine", "(I)Z"⟩, 24), (⟨"TabTextModel", "isCode", "(I)Z"⟩, 24), (⟨"TabTextModel", "put", "(IIII)I"⟩, 24), (⟨"TabTextModel", "putTab", "(III)I"⟩, 24), (⟨"TabTextModel", "openCell", "(II)V"⟩, 24), (⟨"TabTextModel", "copyCell", "(IIII)V"⟩, 24), (⟨"TabTextModel", "signOf", "(III)I"⟩, 24)]
theorem lw_r3 : ∀ q ∈ lw_privs_3, lw_okq q := List.forall_mem_cons.mpr ⟨lw_p32, List.forall_mem_cons.mpr ⟨lw_p33, List.forall_mem_cons.mpr ⟨lw_p34, List.forall_mem_cons.mpr ⟨lw_p35, List.forall_mem_cons.mpr ⟨lw_p36, List.forall_mem_cons.mpr ⟨lw_p37, List.forall_mem_cons.mpr ⟨lw_p38, List.forall_mem_cons.mpr ⟨lw_p39, List.forall_mem_cons.mpr ⟨lw_p40, List.forall_mem_cons.mpr ⟨lw_p41, List.forall_mem_cons.mpr ⟨lw_p42, List.forall_mem_cons.mpr ⟨lw_p43, List.forall_mem_cons.mpr ⟨lw_p44, List.forall_mem_cons.mpr ⟨lw_p45, List.forall_mem_cons.mpr ⟨lw_p46, List.forall_mem_cons.mpr ⟨lw_p47, fun _ h => absurd h List.not_mem_nil⟩⟩⟩⟩⟩⟩⟩⟩⟩⟩⟩⟩⟩⟩⟩⟩
theorem lw_p48 : lw_okq (⟨"TabTextModel", "giveTail", "(IIIII)V"⟩, 24) := ⟨⟨by decide +kernel, by decide +kernel⟩, List.mem_of_getElem? (i := 1082) (by decide +kernel), List.mem_of_getElem? (i := 1274) (by decide +kernel), List.mem_of_getElem? (i := 1275) (by decide +kernel)⟩
theorem lw_p49 : lw_okq (⟨"TabTextModel", "putEnd", "(III)I"⟩, 24) := ⟨⟨by decide +kernel, by decide +kernel⟩, List.mem_of_getElem? (i := 1082) (by decide +kernel), List.mem_of_getElem? (i := 1278) (by decide +kernel), List.mem_of_getElem? (i := 1279) (by decide +kernel)⟩
theorem lw_p50 : lw_okq (⟨"TabTextModel", "openLine", "(I)V"⟩, 24) := ⟨⟨by decide +kernel, by decide +kernel⟩, List.mem_of_getElem? (i := 1082) (by decide +kernel), List.mem_of_getElem? (i := 1282) (by decide +kernel), List.mem_of_getElem? (i := 1283) (by decide +kernel)⟩
theorem lw_p51 : lw_okq (⟨"TabTextModel", "copyLine", "(II)V"⟩, 24) := ⟨⟨by decide +kernel, by decide +kernel⟩, List.mem_of_getElem? (i := 1082) (by decide +kernel), List.mem_of_getElem? (i := 1286) (by decide +kernel), List.mem_of_getElem? (i := 1287) (by decide +kernel)⟩
theorem lw_p52 : lw_okq (⟨"TabTextModel", "putSign", "(IIII)I"⟩, 24) := ⟨⟨by decide +kernel, by decide +kernel⟩, List.mem_of_getElem? (i := 1082) (by decide +kernel), List.mem_of_getElem? (i := 1290) (by decide +kernel), List.mem_of_getElem? (i := 1291) (by decide +kernel)⟩
theorem lw_p53 : lw_okq (⟨"TabTextModel", "behind", "(III)I"⟩, 24) := ⟨⟨by decide +kernel, by decide +kernel⟩, List.mem_of_getElem? (i := 1082) (by decide +kernel), List.mem_of_getElem? (i := 1298) (by decide +kernel), List.mem_of_getElem? (i := 1299) (by decide +kernel)⟩
theorem lw_p54 : lw_okq (⟨"TabTextModel", "mayErase", "(III)Z"⟩, 24) := ⟨⟨by decide +kernel, by decide +kernel⟩, List.mem_of_getElem? (i := 1082) (by decide +kernel), List.mem_of_getElem? (i := 1302) (by decide +kernel), List.mem_of_getElem? (i := 1303) (by decide +kernel)⟩
theorem lw_p55 : lw_okq (⟨"TabTextModel", "closeCell", "(II)V"⟩, 24) := ⟨⟨by decide +kernel, by decide +kernel⟩, List.mem_of_getElem? (i := 1082) (by decide +kernel), List.mem_of_getElem? (i := 1306) (by decide +kernel), List.mem_of_getElem? (i := 1307) (by decide +kernel)⟩
theorem lw_p56 : lw_okq (⟨"TabTextModel", "takeEnd", "(II)V"⟩, 24) := ⟨⟨by decide +kernel, by decide +kernel⟩, List.mem_of_getElem? (i := 1082) (by decide +kernel), List.mem_of_getElem? (i := 1310) (by decide +kernel), List.mem_of_getElem? (i := 1311) (by decide +kernel)⟩
theorem lw_p57 : lw_okq (⟨"TabTextModel", "closeLine", "(I)V"⟩, 24) := ⟨⟨by decide +kernel, by decide +kernel⟩, List.mem_of_getElem? (i := 1082) (by decide +kernel), List.mem_of_getElem? (i := 1314) (by decide +kernel), List.mem_of_getElem? (i := 1315) (by decide +kernel)⟩
theorem lw_p58 : lw_okq (⟨"TabTextModel", "takeSign", "(III)V"⟩, 24) := ⟨⟨by decide +kernel, by decide +kernel⟩, List.mem_of_getElem? (i := 1082) (by decide +kernel), List.mem_of_getElem? (i := 1318) (by decide +kernel), List.mem_of_getElem? (i := 1319) (by decide +kernel)⟩
theorem lw_p59 : lw_okq (⟨"TabTextModel", "setAside", "()V"⟩, 24) := ⟨⟨by decide +kernel, by decide +kernel⟩, List.mem_of_getElem? (i := 1082) (by decide +kernel), List.mem_of_getElem? (i := 1338) (by decide +kernel), List.mem_of_getElem? (i := 1339) (by decide +kernel)⟩
theorem lw_p60 : lw_okq (⟨"TabTextModel", "takeAside", "(II)V"⟩, 24) := ⟨⟨by decide +kernel, by decide +kernel⟩, List.mem_of_getElem? (i := 1082) (by decide +kernel), List.mem_of_getElem? (i := 1342) (by decide +kernel), List.mem_of_getElem? (i := 1343) (by decide +kernel)⟩
theorem lw_p61 : lw_okq (⟨"TabTextModel", "layBlocks", "()I"⟩, 24) := ⟨⟨by decide +kernel, by decide +kernel⟩, List.mem_of_getElem? (i := 1082) (by decide +kernel), List.mem_of_getElem? (i := 1346) (by decide +kernel), List.mem_of_getElem? (i := 1347) (by decide +kernel)⟩
theorem lw_p62 : lw_okq (⟨"TabTextModel", "isEnded", "(II)Z"⟩, 24) := ⟨⟨by decide +kernel, by decide +kernel⟩, List.mem_of_getElem? (i := 1082) (by decide +kernel), List.mem_of_getElem? (i := 1350) (by decide +kernel), List.mem_of_getElem? (i := 1351) (by decide +kernel)⟩
theorem lw_p63 : lw_okq (⟨"TabTextModel", "measure", "(I)V"⟩, 24) := ⟨⟨by decide +kernel, by decide +kernel⟩, List.mem_of_getElem? (i := 1082) (by decide +kernel), List.mem_of_getElem? (i := 1354) (by decide +kernel), List.mem_of_getElem? (i := 1355) (by decide +kernel)⟩
def lw_privs_4 : List (MethodName × Nat) := [(⟨"TabTextModel", "giveTail", "(IIIII)V"⟩, 24), (⟨"TabTextModel", "putEnd", "(III)I"⟩, 24), (⟨"TabTextModel", "openLine", "(I)V"⟩, 24), (⟨"TabTextModel", "copyLine", "(II)V"⟩, 24), (⟨"TabTextModel", "putSign", "(IIII)I"⟩, 24), (⟨"TabTextModel", "behind", "(III)I"⟩, 24), (⟨"TabTextModel", "mayErase", "(III)Z"⟩, 24), (⟨"TabTextModel", "closeCell", "(II)V"⟩, 24), (⟨"TabTextModel", "takeEnd", "(II)V"⟩, 24), (⟨"TabTextModel", "closeLine", "(I)V"⟩, 24), (⟨"TabTextModel", "takeSign", "(III)V"⟩, 24), (⟨"TabTextModel", "setAside", "()V"⟩, 24), (⟨"TabTextModel", "takeAside", "(II)V"⟩, 24), (⟨"TabTextModel", "layBlocks", "()I"⟩, 24), (⟨"TabTextModel", "isEnded", "(II)Z"⟩, 24), (⟨"TabTextModel", "measure", "(I)V"⟩, 24)]
theorem lw_r4 : ∀ q ∈ lw_privs_4, lw_okq q := List.forall_mem_cons.mpr ⟨lw_p48, List.forall_mem_cons.mpr ⟨lw_p49, List.forall_mem_cons.mpr ⟨lw_p50, List.forall_mem_cons.mpr ⟨lw_p51, List.forall_mem_cons.mpr ⟨lw_p52, List.forall_mem_cons.mpr ⟨lw_p53, List.forall_mem_cons.mpr ⟨lw_p54, List.forall_mem_cons.mpr ⟨lw_p55, List.forall_mem_cons.mpr ⟨lw_p56, List.forall_mem_cons.mpr ⟨lw_p57, List.forall_mem_cons.mpr ⟨lw_p58, List.forall_mem_cons.mpr ⟨lw_p59, List.forall_mem_cons.mpr ⟨lw_p60, List.forall_mem_cons.mpr ⟨lw_p61, List.forall_mem_cons.mpr ⟨lw_p62, List.forall_mem_cons.mpr ⟨lw_p63, fun _ h => absurd h List.not_mem_nil⟩⟩⟩⟩⟩⟩⟩⟩⟩⟩⟩⟩⟩⟩⟩⟩
theorem lw_p64 : lw_okq (⟨"TabTextModel", "isDecimal", "(I)Z"⟩, 24) := ⟨⟨by decide +kernel, by decide +kernel⟩, List.mem_of_getElem? (i := 1082) (by decide +kernel), List.mem_of_getElem? (i := 1358) (by decide +kernel), List.mem_of_getElem? (i := 1359) (by decide +kernel)⟩
theorem lw_p65 : lw_okq (⟨"TabTextModel", "numbersIn", "(I)I"⟩, 24) := ⟨⟨by decide +kernel, by decide +kernel⟩, List.mem_of_getElem? (i := 1082) (by decide +kernel), List.mem_of_getElem? (i := 1362) (by decide +kernel), List.mem_of_getElem? (i := 1363) (by decide +kernel)⟩
theorem lw_p66 : lw_okq (⟨"TabTextModel", "kindOf", "(II)I"⟩, 24) := ⟨⟨by decide +kernel, by decide +kernel⟩, List.mem_of_getElem? (i := 1082) (by decide +kernel), List.mem_of_getElem? (i := 1366) (by decide +kernel), List.mem_of_getElem? (i := 1367) (by decide +kernel)⟩
theorem lw_p67 : lw_okq (⟨"TabTextModel", "isBlank", "(II)Z"⟩, 24) := ⟨⟨by decide +kernel, by decide +kernel⟩, List.mem_of_getElem? (i := 1082) (by decide +kernel), List.mem_of_getElem? (i := 1370) (by decide +kernel), List.mem_of_getElem? (i := 1371) (by decide +kernel)⟩
theorem lw_p68 : lw_okq (⟨"TabTextModel", "isNumber", "(II)Z"⟩, 24) := ⟨⟨by decide +kernel, by decide +kernel⟩, List.mem_of_getElem? (i := 1082) (by decide +kernel), List.mem_of_getElem? (i := 1374) (by decide +kernel), List.mem_of_getElem? (i := 1375) (by decide +kernel)⟩
theorem lw_p69 : lw_okq (⟨"TabTextModel", "figuresFrom", "(III)I"⟩, 24) := ⟨⟨by decide +kernel, by decide +kernel⟩, List.mem_of_getElem? (i := 1082) (by decide +kernel), List.mem_of_getElem? (i := 1378) (by decide +kernel), List.mem_of_getElem? (i := 1379) (by decide +kernel)⟩
theorem lw_p70 : lw_okq (⟨"TabTextModel", "wholeLength", "(II)I"⟩, 24) := ⟨⟨by decide +kernel, by decide +kernel⟩, List.mem_of_getElem? (i := 1082) (by decide +kernel), List.mem_of_getElem? (i := 1382) (by decide +kernel), List.mem_of_getElem? (i := 1383) (by decide +kernel)⟩
theorem lw_p71 : lw_okq (⟨"TabTextModel", "partLength", "(II)I"⟩, 24) := ⟨⟨by decide +kernel, by decide +kernel⟩, List.mem_of_getElem? (i := 1082) (by decide +kernel), List.mem_of_getElem? (i := 1386) (by decide +kernel), List.mem_of_getElem? (i := 1387) (by decide +kernel)⟩
theorem lw_p72 : lw_okq (⟨"TabTextModel", "isBlock", "(I)Z"⟩, 24) := ⟨⟨by decide +kernel, by decide +kernel⟩, List.mem_of_getElem? (i := 1082) (by decide +kernel), List.mem_of_getElem? (i := 1394) (by decide +kernel), List.mem_of_getElem? (i := 1395) (by decide +kernel)⟩
theorem lw_p73 : lw_okq (⟨"TabTextModel", "sortNow", "(IIZ)I"⟩, 24) := ⟨⟨by decide +kernel, by decide +kernel⟩, List.mem_of_getElem? (i := 1082) (by decide +kernel), List.mem_of_getElem? (i := 1398) (by decide +kernel), List.mem_of_getElem? (i := 1399) (by decide +kernel)⟩
theorem lw_p74 : lw_okq (⟨"TabTextModel", "isBehind", "(IIIZ)Z"⟩, 24) := ⟨⟨by decide +kernel, by decide +kernel⟩, List.mem_of_getElem? (i := 1082) (by decide +kernel), List.mem_of_getElem? (i := 1402) (by decide +kernel), List.mem_of_getElem? (i := 1403) (by decide +kernel)⟩
theorem lw_p75 : lw_okq (⟨"TabTextModel", "valueOf", "(II)J"⟩, 24) := ⟨⟨by decide +kernel, by decide +kernel⟩, List.mem_of_getElem? (i := 1082) (by decide +kernel), List.mem_of_getElem? (i := 1409) (by decide +kernel), List.mem_of_getElem? (i := 1410) (by decide +kernel)⟩
theorem lw_p76 : lw_okq (⟨"TabTextModel", "comparedWords", "(III)I"⟩, 24) := ⟨⟨by decide +kernel, by decide +kernel⟩, List.mem_of_getElem? (i := 1082) (by decide +kernel), List.mem_of_getElem? (i := 1415) (by decide +kernel), List.mem_of_getElem? (i := 1416) (by decide +kernel)⟩
theorem lw_p77 : lw_okq (⟨"TabTextModel", "hasRoom", "(I)Z"⟩, 24) := ⟨⟨by decide +kernel, by decide +kernel⟩, List.mem_of_getElem? (i := 1082) (by decide +kernel), List.mem_of_getElem? (i := 1423) (by decide +kernel), List.mem_of_getElem? (i := 1424) (by decide +kernel)⟩
theorem lw_p78 : lw_okq (⟨"TabTextModel", "runs", "(II)I"⟩, 24) := ⟨⟨by decide +kernel, by decide +kernel⟩, List.mem_of_getElem? (i := 1082) (by decide +kernel), List.mem_of_getElem? (i := 1435) (by decide +kernel), List.mem_of_getElem? (i := 1436) (by decide +kernel)⟩
theorem lw_p79 : lw_okq (⟨"TabTextModel", "runAt", "(III)I"⟩, 24) := ⟨⟨by decide +kernel, by decide +kernel⟩, List.mem_of_getElem? (i := 1082) (by decide +kernel), List.mem_of_getElem? (i := 1439) (by decide +kernel), List.mem_of_getElem? (i := 1440) (by decide +kernel)⟩
def lw_privs_5 : List (MethodName × Nat) := [(⟨"TabTextModel", "isDecimal", "(I)Z"⟩, 24), (⟨"TabTextModel", "numbersIn", "(I)I"⟩, 24), (⟨"TabTextModel", "kindOf", "(II)I"⟩, 24), (⟨"TabTextModel", "isBlank", "(II)Z"⟩, 24), (⟨"TabTextModel", "isNumber", "(II)Z"⟩, 24), (⟨"TabTextModel", "figuresFrom", "(III)I"⟩, 24), (⟨"TabTextModel", "wholeLength", "(II)I"⟩, 24), (⟨"TabTextModel", "partLength", "(II)I"⟩, 24), (⟨"TabTextModel", "isBlock", "(I)Z"⟩, 24), (⟨"TabTextModel", "sortNow", "(IIZ)I"⟩, 24), (⟨"TabTextModel", "isBehind", "(IIIZ)Z"⟩, 24), (⟨"TabTextModel", "valueOf", "(II)J"⟩, 24), (⟨"TabTextModel", "comparedWords", "(III)I"⟩, 24), (⟨"TabTextModel", "hasRoom", "(I)Z"⟩, 24), (⟨"TabTextModel", "runs", "(II)I"⟩, 24), (⟨"TabTextModel", "runAt", "(III)I"⟩, 24)]
theorem lw_r5 : ∀ q ∈ lw_privs_5, lw_okq q := List.forall_mem_cons.mpr ⟨lw_p64, List.forall_mem_cons.mpr ⟨lw_p65, List.forall_mem_cons.mpr ⟨lw_p66, List.forall_mem_cons.mpr ⟨lw_p67, List.forall_mem_cons.mpr ⟨lw_p68, List.forall_mem_cons.mpr ⟨lw_p69, List.forall_mem_cons.mpr ⟨lw_p70, List.forall_mem_cons.mpr ⟨lw_p71, List.forall_mem_cons.mpr ⟨lw_p72, List.forall_mem_cons.mpr ⟨lw_p73, List.forall_mem_cons.mpr ⟨lw_p74, List.forall_mem_cons.mpr ⟨lw_p75, List.forall_mem_cons.mpr ⟨lw_p76, List.forall_mem_cons.mpr ⟨lw_p77, List.forall_mem_cons.mpr ⟨lw_p78, List.forall_mem_cons.mpr ⟨lw_p79, fun _ h => absurd h List.not_mem_nil⟩⟩⟩⟩⟩⟩⟩⟩⟩⟩⟩⟩⟩⟩⟩⟩
theorem lw_p80 : lw_okq (⟨"TabTextModel", "makeTabs", "(II)V"⟩, 24) := ⟨⟨by decide +kernel, by decide +kernel⟩, List.mem_of_getElem? (i := 1082) (by decide +kernel), List.mem_of_getElem? (i := 1443) (by decide +kernel), List.mem_of_getElem? (i := 1444) (by decide +kernel)⟩
theorem lw_p81 : lw_okq (⟨"TabTextModel", "counted", "(I)I"⟩, 24) := ⟨⟨by decide +kernel, by decide +kernel⟩, List.mem_of_getElem? (i := 1082) (by decide +kernel), List.mem_of_getElem? (i := 1459) (by decide +kernel), List.mem_of_getElem? (i := 1460) (by decide +kernel)⟩
theorem lw_p82 : lw_okq (⟨"TabTextModel", "allCells", "()I"⟩, 24) := ⟨⟨by decide +kernel, by decide +kernel⟩, List.mem_of_getElem? (i := 1082) (by decide +kernel), List.mem_of_getElem? (i := 1463) (by decide +kernel), List.mem_of_getElem? (i := 1464) (by decide +kernel)⟩
theorem lw_p83 : lw_okq (⟨"TabTextModel", "allSigns", "()I"⟩, 24) := ⟨⟨by decide +kernel, by decide +kernel⟩, List.mem_of_getElem? (i := 1082) (by decide +kernel), List.mem_of_getElem? (i := 1467) (by decide +kernel), List.mem_of_getElem? (i := 1468) (by decide +kernel)⟩
theorem lw_p84 : lw_okq (⟨"TabTextModel", "signsIn", "(I)I"⟩, 24) := ⟨⟨by decide +kernel, by decide +kernel⟩, List.mem_of_getElem? (i := 1082) (by decide +kernel), List.mem_of_getElem? (i := 1471) (by decide +kernel), List.mem_of_getElem? (i := 1472) (by decide +kernel)⟩
theorem lw_p85 : lw_okq (⟨"TabTextModel", "ofKind", "(I)I"⟩, 24) := ⟨⟨by decide +kernel, by decide +kernel⟩, List.mem_of_getElem? (i := 1082) (by decide +kernel), List.mem_of_getElem? (i := 1475) (by decide +kernel), List.mem_of_getElem? (i := 1476) (by decide +kernel)⟩
theorem lw_p86 : lw_okq (⟨"TabTextModel", "longest", "()I"⟩, 24) := ⟨⟨by decide +kernel, by decide +kernel⟩, List.mem_of_getElem? (i := 1082) (by decide +kernel), List.mem_of_getElem? (i := 1479) (by decide +kernel), List.mem_of_getElem? (i := 1480) (by decide +kernel)⟩
theorem lw_p87 : lw_okq (⟨"TabTextModel", "shownLength", "(I)I"⟩, 24) := ⟨⟨by decide +kernel, by decide +kernel⟩, List.mem_of_getElem? (i := 1082) (by decide +kernel), List.mem_of_getElem? (i := 1483) (by decide +kernel), List.mem_of_getElem? (i := 1484) (by decide +kernel)⟩
theorem lw_p88 : lw_okq (⟨"TabTextModel", "xOf", "(II)I"⟩, 24) := ⟨⟨by decide +kernel, by decide +kernel⟩, List.mem_of_getElem? (i := 1082) (by decide +kernel), List.mem_of_getElem? (i := 1487) (by decide +kernel), List.mem_of_getElem? (i := 1488) (by decide +kernel)⟩
theorem lw_p89 : lw_okq (⟨"TabTextModel", "blockOf", "(II)I"⟩, 24) := ⟨⟨by decide +kernel, by decide +kernel⟩, List.mem_of_getElem? (i := 1082) (by decide +kernel), List.mem_of_getElem? (i := 1491) (by decide +kernel), List.mem_of_getElem? (i := 1492) (by decide +kernel)⟩
theorem lw_p90 : lw_okq (⟨"TabTextModel", "lineNow", "(II)I"⟩, 24) := ⟨⟨by decide +kernel, by decide +kernel⟩, List.mem_of_getElem? (i := 1082) (by decide +kernel), List.mem_of_getElem? (i := 1499) (by decide +kernel), List.mem_of_getElem? (i := 1500) (by decide +kernel)⟩
theorem lw_p91 : lw_okq (⟨"TabTextModel", "fixedLength", "(I)I"⟩, 24) := ⟨⟨by decide +kernel, by decide +kernel⟩, List.mem_of_getElem? (i := 1082) (by decide +kernel), List.mem_of_getElem? (i := 1503) (by decide +kernel), List.mem_of_getElem? (i := 1504) (by decide +kernel)⟩
theorem lw_p92 : lw_okq (⟨"TabTextModel", "cellNow", "(III)I"⟩, 24) := ⟨⟨by decide +kernel, by decide +kernel⟩, List.mem_of_getElem? (i := 1082) (by decide +kernel), List.mem_of_getElem? (i := 1511) (by decide +kernel), List.mem_of_getElem? (i := 1512) (by decide +kernel)⟩
theorem lw_p93 : lw_okq (⟨"TabTextModel", "shiftOf", "(II)I"⟩, 24) := ⟨⟨by decide +kernel, by decide +kernel⟩, List.mem_of_getElem? (i := 1082) (by decide +kernel), List.mem_of_getElem? (i := 1515) (by decide +kernel), List.mem_of_getElem? (i := 1516) (by decide +kernel)⟩
theorem lw_p94 : lw_okq (⟨"TabTextModel", "shownNow", "(II)I"⟩, 24) := ⟨⟨by decide +kernel, by decide +kernel⟩, List.mem_of_getElem? (i := 1082) (by decide +kernel), List.mem_of_getElem? (i := 1527) (by decide +kernel), List.mem_of_getElem? (i := 1528) (by decide +kernel)⟩
theorem lw_p95 : lw_okq (⟨"TabTextModel", "findNow", "(II)I"⟩, 24) := ⟨⟨by decide +kernel, by decide +kernel⟩, List.mem_of_getElem? (i := 1082) (by decide +kernel), List.mem_of_getElem? (i := 1539) (by decide +kernel), List.mem_of_getElem? (i := 1540) (by decide +kernel)⟩
def lw_privs_6 : List (MethodName × Nat) := [(⟨"TabTextModel", "makeTabs", "(II)V"⟩, 24), (⟨"TabTextModel", "counted", "(I)I"⟩, 24), (⟨"TabTextModel", "allCells", "()I"⟩, 24), (⟨"TabTextModel", "allSigns", "()I"⟩, 24), (⟨"TabTextModel", "signsIn", "(I)I"⟩, 24), (⟨"TabTextModel", "ofKind", "(I)I"⟩, 24), (⟨"TabTextModel", "longest", "()I"⟩, 24), (⟨"TabTextModel", "shownLength", "(I)I"⟩, 24), (⟨"TabTextModel", "xOf", "(II)I"⟩, 24), (⟨"TabTextModel", "blockOf", "(II)I"⟩, 24), (⟨"TabTextModel", "lineNow", "(II)I"⟩, 24), (⟨"TabTextModel", "fixedLength", "(I)I"⟩, 24), (⟨"TabTextModel", "cellNow", "(III)I"⟩, 24), (⟨"TabTextModel", "shiftOf", "(II)I"⟩, 24), (⟨"TabTextModel", "shownNow", "(II)I"⟩, 24), (⟨"TabTextModel", "findNow", "(II)I"⟩, 24)]
theorem lw_r6 : ∀ q ∈ lw_privs_6, lw_okq q := List.forall_mem_cons.mpr ⟨lw_p80, List.forall_mem_cons.mpr ⟨lw_p81, List.forall_mem_cons.mpr ⟨lw_p82, List.forall_mem_cons.mpr ⟨lw_p83, List.forall_mem_cons.mpr ⟨lw_p84, List.forall_mem_cons.mpr ⟨lw_p85, List.forall_mem_cons.mpr ⟨lw_p86, List.forall_mem_cons.mpr ⟨lw_p87, List.forall_mem_cons.mpr ⟨lw_p88, List.forall_mem_cons.mpr ⟨lw_p89, List.forall_mem_cons.mpr ⟨lw_p90, List.forall_mem_cons.mpr ⟨lw_p91, List.forall_mem_cons.mpr ⟨lw_p92, List.forall_mem_cons.mpr ⟨lw_p93, List.forall_mem_cons.mpr ⟨lw_p94, List.forall_mem_cons.mpr ⟨lw_p95, fun _ h => absurd h List.not_mem_nil⟩⟩⟩⟩⟩⟩⟩⟩⟩⟩⟩⟩⟩⟩⟩⟩
theorem lw_p96 : lw_okq (⟨"TabTextModel", "isBuffer", "(II)Z"⟩, 24) := ⟨⟨by decide +kernel, by decide +kernel⟩, List.mem_of_getElem? (i := 1082) (by decide +kernel), List.mem_of_getElem? (i := 1543) (by decide +kernel), List.mem_of_getElem? (i := 1544) (by decide +kernel)⟩
theorem lw_p97 : lw_okq (⟨"TabTextModel", "blockNow", "(II)I"⟩, 24) := ⟨⟨by decide +kernel, by decide +kernel⟩, List.mem_of_getElem? (i := 1082) (by decide +kernel), List.mem_of_getElem? (i := 1551) (by decide +kernel), List.mem_of_getElem? (i := 1552) (by decide +kernel)⟩
theorem lw_p98 : lw_okq (⟨"TabTextModel", "sumOf", "(I)J"⟩, 24) := ⟨⟨by decide +kernel, by decide +kernel⟩, List.mem_of_getElem? (i := 1082) (by decide +kernel), List.mem_of_getElem? (i := 1559) (by decide +kernel), List.mem_of_getElem? (i := 1560) (by decide +kernel)⟩
theorem lw_p99 : lw_okq (⟨"TabTextModel", "changedX", "(IIII)I"⟩, 24) := ⟨⟨by decide +kernel, by decide +kernel⟩, List.mem_of_getElem? (i := 1082) (by decide +kernel), List.mem_of_getElem? (i := 1575) (by decide +kernel), List.mem_of_getElem? (i := 1576) (by decide +kernel)⟩
theorem lw_p100 : lw_okq (⟨"TabTextModel", "mix", "(J)V"⟩, 24) := ⟨⟨by decide +kernel, by decide +kernel⟩, List.mem_of_getElem? (i := 1082) (by decide +kernel), List.mem_of_getElem? (i := 1584) (by decide +kernel), List.mem_of_getElem? (i := 1585) (by decide +kernel)⟩
theorem lw_p101 : lw_okq (⟨"TabTextModel", "mixLine", "(I)V"⟩, 24) := ⟨⟨by decide +kernel, by decide +kernel⟩, List.mem_of_getElem? (i := 1082) (by decide +kernel), List.mem_of_getElem? (i := 1589) (by decide +kernel), List.mem_of_getElem? (i := 1590) (by decide +kernel)⟩
def lw_privs_7 : List (MethodName × Nat) := [(⟨"TabTextModel", "isBuffer", "(II)Z"⟩, 24), (⟨"TabTextModel", "blockNow", "(II)I"⟩, 24), (⟨"TabTextModel", "sumOf", "(I)J"⟩, 24), (⟨"TabTextModel", "changedX", "(IIII)I"⟩, 24), (⟨"TabTextModel", "mix", "(J)V"⟩, 24), (⟨"TabTextModel", "mixLine", "(I)V"⟩, 24)]
theorem lw_r7 : ∀ q ∈ lw_privs_7, lw_okq q := List.forall_mem_cons.mpr ⟨lw_p96, List.forall_mem_cons.mpr ⟨lw_p97, List.forall_mem_cons.mpr ⟨lw_p98, List.forall_mem_cons.mpr ⟨lw_p99, List.forall_mem_cons.mpr ⟨lw_p100, List.forall_mem_cons.mpr ⟨lw_p101, fun _ h => absurd h List.not_mem_nil⟩⟩⟩⟩⟩⟩
def lw_privs : List (MethodName × Nat) := lw_privs_1 ++ (lw_privs_2 ++ (lw_privs_3 ++ (lw_privs_4 ++ (lw_privs_5 ++ (lw_privs_6 ++ (lw_privs_7))))))
def lw_tbl : List Cond := k2_sels lw_privs ++ tables_1
theorem lw_privs_ok : ∀ q ∈ lw_privs, lw_okq q := by
  show ∀ q ∈ lw_privs_1 ++ (lw_privs_2 ++ (lw_privs_3 ++ (lw_privs_4 ++ (lw_privs_5 ++ (lw_privs_6 ++ (lw_privs_7)))))), lw_okq q
  exact List.forall_mem_append.mpr ⟨lw_r1, List.forall_mem_append.mpr ⟨lw_r2, List.forall_mem_append.mpr ⟨lw_r3, List.forall_mem_append.mpr ⟨lw_r4, List.forall_mem_append.mpr ⟨lw_r5, List.forall_mem_append.mpr ⟨lw_r6, lw_r7⟩⟩⟩⟩⟩⟩
/-- the streams that the claim lets the run draw from -/
abbrev lw_cs : List Choice := [Jvm.Choice.named "NaN.bits"]
theorem lw_bits : nanBits ∈ lw_cs := by first | decide | exact List.mem_cons_self | simp [lw_cs, nanBits]
end
section
/-! ===== BEGIN words of one list among another's, by their places ===== -/
theorem goodIn_r {big : List Cond} (ws : List Cond) (ps : List Nat) (hp : ws = ps.filterMap (fun i => big[i]?)) (h : ws.all goodWord = true) : GoodIn big ws := by
  intro w hw
  have h1 := List.all_eq_true.mp h w hw
  rw [hp] at hw
  obtain ⟨i, -, hi⟩ := List.mem_filterMap.mp hw
  have hm : w ∈ big := by first | exact List.mem_of_getElem? hi | exact List.getElem?_mem hi
  exact ⟨hm, good_of_word h1⟩
theorem goodIn_app {big a b : List Cond} (ha : GoodIn big a) (hb : GoodIn big b) : GoodIn big (a ++ b) := fun w h => (List.mem_append.mp h).elim (ha w) (hb w)
theorem goodIn_ca {big a b : List Cond} {c : Cond} (ha : GoodIn big (c :: a)) (hb : GoodIn big b) : GoodIn big (c :: (a ++ b)) := fun w h => (List.mem_cons.mp h).elim (fun e => ha w (List.mem_cons.mpr (Or.inl e))) (fun h => (List.mem_append.mp h).elim (fun h => ha w (List.mem_cons.mpr (Or.inr h))) (hb w))
theorem goodIn_sub {big ws : List Cond} (hm : ∀ w ∈ ws, w ∈ big) (h : ws.all goodWord = true) : GoodIn big ws := fun w hw => ⟨hm w hw, good_of_word (List.all_eq_true.mp h w hw)⟩
/-! ===== END ===== -/
/-! ===== BEGIN exceptions that leave a method, and their catching by the caller (launches without stack traces) ===== -/
section VXA
/-! The laws vx_back, vx_callV, vx_callS, vx_callSW, vx_throw0, vx_throwS follow proofs of the library, with one case more: JvmDerived/Free/Laws.lean (Back.of_free), Shelf42/LK1.lean (callV, callS), Shelf/KitTraced.lean (throwNew0V, throwNewS). -/
/-- where a method has thrown q: the class by its name, the cell, what was written, the world -/
def vx_T (XC : String → State → State → Prop) (st : State) (q : Addr) (t : State) (mc ms : Nat) (free : Addr → Prop) : Prop :=
  ∃ (E : String) (ce : Cell) (L : List Loc), XC E st t ∧ t.heap[q]? = some ce ∧ ce.vm = .none ∧ st.vm.findClass E = some ce.cls ∧ st.WarmedH t.vm ∧ st.sameButNew ({ t with vm := st.vm } : State) L mc ms ∧ ∀ z ∈ L, free z.base
def vx_Q (Qc : Array Value → State → Outcome → State → Prop) (XC : String → State → State → Prop) (mc ms : Nat) (free : Addr → Prop) : Array Value → State → Outcome → State → Prop := fun a st o t =>
  (Qc a st o t ∧ ∃ L, FrameEnd st o t L mc ms ∧ ∀ q ∈ L, free q.base) ∨ ∃ q, o = .threw q ∧ vx_T XC st q t mc ms free
/-- a callee that returns or throws -/
def vx_Met (l : Launch) (y : MethodName) (ws : List Cond) (rm : Room) (Pc : Array Value → State → Prop) (Qc : Array Value → State → Outcome → State → Prop) (XC : String → State → State → Prop) (mc ms : Nat) (free : Addr → Prop) : Prop :=
  MetFree l y (headSpec ws rm) Pc (fun _ _ _ _ _ => True) (vx_Q Qc XC mc ms free)
def vx_Post (XC : String → State → State → Prop) (mc ms : Nat) (free : Addr → Prop) : Pt → Array Value → Addr → Pt → Prop := fun A a q B =>
  ∃ (g : JFrame) (mk : MethodId) (t : State) (L : List Loc) (E : String) (ce : Cell), B.U.heap = t.heap ∧ B.U.vm = t.vm ∧ XC E (A.U.calling g mk a) t ∧ t.heap[q]? = some ce ∧ ce.vm = .none ∧ A.U.vm.findClass E = some ce.cls ∧ B.locs = A.locs ++ L ∧ (∀ z ∈ L, free z.base) ∧ B.cells = A.cells + mc ∧ B.slots = A.slots + ms
def vx_Back (l : Launch) (R : Room) (p : Program) (e : Env) (below : List Frame) (s : State) (sargs : Array Value) (y : MethodName) (len W9 : Nat)
    (Pre : Pt → Array Value → Prop) (Post : Pt → Array Value → Option Value → Pt → Prop) (PostX : Pt → Array Value → Addr → Pt → Prop) : Prop :=
  ∀ (m : MethodId) (meth : Method) (c : Code) (A : Pt) (g : JFrame) (ig : Instr) (mk : MethodId) (a : Array Value),
    Stand p l e R s m sargs below meth c A.U A.locs A.cells A.slots → g.method = m → g.locals.size = c.maxLocals → decode c.code g.pc = .ok (ig, len) →
    2 * g.monitorRoom + (g.stack.map fun v => v.category).sum ≤ W9 → A.U.methodNamed? y = some mk → Pre A a →
    (∃ (v : Option Value) (B : Pt), Stand p l e R s m sargs below meth c B.U B.locs B.cells B.slots ∧ Post A a v B ∧
      Steps p.tables e below (doInvoke e (A.U.setTop g) [] mk a).1 (B.U.setTop { g with pc := g.pc + len, stack := v.toList ++ g.stack })) ∨
    (∃ (q : Addr) (B : Pt), Stand p l e R s m sargs below meth c B.U B.locs B.cells B.slots ∧ PostX A a q B ∧
      Steps p.tables e below (doInvoke e (A.U.setTop g) [] mk a).1 ((B.U.setTop g).pushFrame (.throwing q)))
section Payer
variable {l : Launch} {R : Room} {p : Program} {e : Env} {below : List Frame} {s : State} {sargs : Array Value} {y : MethodName} {len W9 : Nat}
theorem vx_back {ws : List Cond} {rm : Room} {Pc : Array Value → State → Prop} {Qc : Array Value → State → Outcome → State → Prop} {XC : String → State → State → Prop} {mc ms : Nat} {free : Addr → Prop} {bytes : ByteArray} {maxL : Nat} {ret : Option FieldType}
    (hM : vx_Met l y ws rm Pc Qc XC mc ms free) (hblind : FrameBlind Pc) (hrc : rm.cells = mc) (hrs : rm.slots = ms)
    (hframes : rm.frames + 1 ≤ R.frames) (hlocals : W9 + (maxL + 11) + rm.locals ≤ R.locals)
    (hws : ∀ w ∈ ws, ∀ a' U, s.WarmedH U.vm → w.before a' U = true) (hcode : Cond.code y bytes maxL ret ∈ ws) (hinit : ∀ a' U, s.WarmedH U.vm → (Cond.initialized y.cls).before a' U = true) :
    vx_Back l R p e below s sargs y len W9 (PreOf R mc ms Pc) (PostOf Qc mc ms free) (vx_Post XC mc ms free) := by
  intro m meth c A g ig mk a X hg hsize hdg hW hn hp
  have h1 : (headSpec ws rm).pre.before a A.U = true := atoms_intro fun w hw => hws w hw _ _ X.warmed
  have h2 : (Cond.code y bytes maxL ret).before a A.U = true := hws _ hcode _ _ X.warmed
  have h3 : (Cond.initialized y.cls).before a A.U = true := hinit _ _ X.warmed
  have h4 : A.cells + (headSpec ws rm).room.cells ≤ R.cells := by rw [show (headSpec ws rm).room.cells = mc from hrc]; exact hp.1
  have h5 : A.slots + (headSpec ws rm).room.slots ≤ R.slots := by rw [show (headSpec ws rm).room.slots = ms from hrs]; exact hp.2.1
  have hPc : Pc a (A.U.calling g mk a) := hblind _ _ _ _ hp.2.2
  obtain ⟨U, Ls, c0, s0⟩ := A
  dsimp only [Pt.U, Pt.locs, Pt.cells, Pt.slots] at h1 h2 h3 h4 h5 X hn hPc ⊢
  obtain ⟨methY, cY, hmY, hcY, -, hlY, -, -, -, -⟩ := Cond.code_spec hn h2
  obtain ⟨kY, hkY, -⟩ := className_of_methodNamed hn
  have hinitY : kY.init = .initialized := Cond.initialized_spec (findClass_of_methodNamed hn) hkY h3
  have h : At U g.method c below := by rw [hg]; exact X.here
  have hlocals9 : W9 + (maxL + 11) + (headSpec ws rm).room.locals ≤ R.locals := hlocals
  have happ : (headSpec ws rm).appliesLoose y e.platform (U.calling g mk a) = true :=
    Spec.appliesLoose_calling (g := g) h hdg hn hkY hinitY
      (X.room_calling (g := g) (R' := (headSpec ws rm).room) hsize hmY hcY hframes (by rw [hlY]; omega) h4 h5) h1
  obtain ⟨mid, hmid⟩ := h.above
  have hfr : (U.setTop g).frames = (.java g :: mid) ++ below := by rw [State.frames_setTop' g h.top, hmid]; rfl
  obtain ⟨o, s₂, hsteps, -, hend, hq⟩ := Steps.callFree hM p X.admits X.cas X.clock (acts := []) hfr happ hPc trivial
  have hq' : vx_Q Qc XC mc ms free a (U.calling g mk a) o s₂ := hq
  rw [State.frames_setTop' g h.top] at hend
  obtain ⟨g₀, hg0⟩ := Option.isSome_iff_exists.mp h.top
  obtain ⟨r, hr⟩ := State.topJava?_eq_some.mp hg0
  have hr' : (({ U with heap := s₂.heap, slotsUsed := s₂.slotsUsed } : State).setVm s₂.vm).frames = .java g₀ :: r := hr
  rcases hq' with ⟨hqc, L, hfe, hL⟩ | ⟨q, rfl, E, ce, L, hx, hce, hcv, hcl, hW₂, hsm, hL⟩
  · obtain ⟨⟨v, rfl⟩, hW₂, e2, q2, q3, q4, q5, q6⟩ := id hfe
    have e3 : s₂ = ({ (U.calling g mk a).setFrames s₂.frames with heap := s₂.heap, slotsUsed := s₂.slotsUsed } : State).setVm s₂.vm := by
      have : s₂ = ({ s₂ with vm := (U.calling g mk a).vm } : State).setVm s₂.vm := rfl
      rw [e2] at this
      exact this
    obtain ⟨c₂, i₂, len₂, hc₂, hd₂, hf₂⟩ := hend
    have hW' : U.WarmedH s₂.vm := hW₂
    have hcc : c₂ = c := by
      have h1 : s₂.code? g.method = U.code? g.method := by
        rw [State.code?_eq, State.code?_eq, hW'.alike.method?]
      exact Option.some.inj (hc₂.symm.trans (h1.trans h.code))
    subst hcc
    have hlen : len₂ = len := by rw [hdg] at hd₂; cases hd₂; rfl
    subst hlen
    have hs₂ : s₂ = (({ U with heap := s₂.heap, slotsUsed := s₂.slotsUsed } : State).setVm s₂.vm).setTop { g with pc := g.pc + len₂, stack := v.toList ++ g.stack } := by
      refine e3.trans ?_
      rw [hf₂, State.calling_eq h.top, State.setFrames_setFrames, State.setTop_of_frames _ hr', hr]
      rfl
    have hsame : U.sameButNew ({ U with heap := s₂.heap, slotsUsed := s₂.slotsUsed } : State) L mc ms := by
      refine ⟨?_, q2, q3, q4, q5, q6⟩
      obtain ⟨t, ht, -⟩ := State.frames_cons hr
      show ({ U with heap := s₂.heap, slotsUsed := s₂.slotsUsed } : State) = { U.setFrames U.frames with heap := s₂.heap, slotsUsed := s₂.slotsUsed }
      rw [State.setFrames_self ht]
    subst hg
    refine Or.inl ⟨v, ⟨(({ U with heap := s₂.heap, slotsUsed := s₂.slotsUsed } : State).setVm s₂.vm), Ls ++ L, c0 + mc, s0 + ms⟩,
      ⟨X.admits, X.cas, X.clock, X.frames, X.room, X.hears, X.method, X.code, (X.here.setHeapUsed s₂.heap s₂.slotsUsed).setVm hW'.alike, X.tail, State.WarmedH.trans X.warmed hW', X.limits, X.bytes, X.same.trans (hsame.setVm s.vm)⟩,
      ⟨g, mk, s₂, L, rfl, rfl, hqc, rfl, hL, rfl, rfl⟩, ?_⟩
    show Steps p.tables e below _ ((({ U with heap := s₂.heap, slotsUsed := s₂.slotsUsed } : State).setVm s₂.vm).setTop { g with pc := g.pc + len₂, stack := v.toList ++ g.stack })
    rw [← hs₂]
    exact hsteps
  · obtain ⟨e2, q2, q3, q4, q5, q6⟩ := id hsm
    have e3 : s₂ = ({ (U.calling g mk a).setFrames s₂.frames with heap := s₂.heap, slotsUsed := s₂.slotsUsed } : State).setVm s₂.vm := by
      have : s₂ = ({ s₂ with vm := (U.calling g mk a).vm } : State).setVm s₂.vm := rfl
      rw [e2] at this
      exact this
    have hf₂ : s₂.frames = .throwing q :: .java g :: U.frames.tail := hend
    have hW' : U.WarmedH s₂.vm := hW₂
    have hs₂ : s₂ = ((({ U with heap := s₂.heap, slotsUsed := s₂.slotsUsed } : State).setVm s₂.vm).setTop g).pushFrame (.throwing q) := by
      refine e3.trans ?_
      rw [hf₂, State.calling_eq h.top, State.setFrames_setFrames, State.pushFrame, State.frames_setTop _ hr', State.setTop_of_frames _ hr', State.setFrames_setFrames, hr]
      rfl
    have hsame : U.sameButNew ({ U with heap := s₂.heap, slotsUsed := s₂.slotsUsed } : State) L mc ms := by
      refine ⟨?_, q2, q3, q4, q5, q6⟩
      obtain ⟨t, ht, -⟩ := State.frames_cons hr
      show ({ U with heap := s₂.heap, slotsUsed := s₂.slotsUsed } : State) = { U.setFrames U.frames with heap := s₂.heap, slotsUsed := s₂.slotsUsed }
      rw [State.setFrames_self ht]
    subst hg
    refine Or.inr ⟨q, ⟨(({ U with heap := s₂.heap, slotsUsed := s₂.slotsUsed } : State).setVm s₂.vm), Ls ++ L, c0 + mc, s0 + ms⟩,
      ⟨X.admits, X.cas, X.clock, X.frames, X.room, X.hears, X.method, X.code, (X.here.setHeapUsed s₂.heap s₂.slotsUsed).setVm hW'.alike, X.tail, State.WarmedH.trans X.warmed hW', X.limits, X.bytes, X.same.trans (hsame.setVm s.vm)⟩,
      ⟨g, mk, s₂, L, E, ce, rfl, rfl, hx, hce, hcv, hcl, rfl, hL, rfl, rfl⟩, ?_⟩
    show Steps p.tables e below _ (((({ U with heap := s₂.heap, slotsUsed := s₂.slotsUsed } : State).setVm s₂.vm).setTop g).pushFrame (.throwing q))
    rw [← hs₂]
    exact hsteps
end Payer
section Calls
variable {p : Program} {l : Launch} {e : Env} {R : Room} {s : State} {m : MethodId} {args : Array Value} {below : List Frame} {meth : Method} {c : Code} {T : State} {locs : List Loc} {cells slots : Nat}
theorem vx_callV (X : Stand p l e R s m args below meth c T locs cells slots) (hexec : p.tables.exec = Jvm.exec) {own C : String} {index : Nat} {y : MethodName} {bytes : ByteArray} {maxL : Nat} {ret : Option FieldType}
    (hown : s.vm.findClass own = some m.cls) (hlink : (Cond.methodLink own index y).before args s = true) (hinst : (Cond.instanceMethod y).before args s = true) (hsel : (Cond.selects C y y).before args s = true)
    (hcode : (Cond.code y bytes maxL ret).before args s = true) (hy : y.cls ≠ "java/lang/invoke/MethodHandle" ∧ y.cls ≠ "java/lang/invoke/VarHandle")
    {W9 : Nat} {Pre : Pt → Array Value → Prop} {Post : Pt → Array Value → Option Value → Pt → Prop} {PostX : Pt → Array Value → Addr → Pt → Prop} (hK : vx_Back l R p e below s args y 3 W9 Pre Post PostX)
    {b : Addr} {cellB : Cell} (hcell : T.heap[b]? = some cellB) (hobj : cellB.vm.isStatics = false) (hcls : s.vm.findClass C = some cellB.cls)
    {g : JFrame} (hg : g.method = m) (hsize : g.locals.size = c.maxLocals) {argsL rest : List Value} (hlen : ∀ sig, parseMethodDescriptor y.desc = some sig → argsL.length = sig.parameters.length)
    (hstack : g.stack = argsL.reverse ++ .ref b :: rest) (hW : 2 * g.monitorRoom + (rest.map fun v => v.category).sum ≤ W9) (hdg : decode c.code g.pc = .ok (.invokevirtual index, 3))
    (hpre : ∀ vm₁, s.WarmedH vm₁ → Pre ⟨T.setVm vm₁, locs, cells, slots⟩ (Value.ref b :: argsL).toArray) :
    (∃ (v : Option Value) (vm₁ : Vm) (B : Pt), s.WarmedH vm₁ ∧ Stand p l e R s m args below meth c B.U B.locs B.cells B.slots ∧ Post ⟨T.setVm vm₁, locs, cells, slots⟩ (Value.ref b :: argsL).toArray v B ∧
      ∀ target, Steps p.tables e below (B.U.setTop { g with pc := g.pc + 3, stack := v.toList ++ rest }) target → Steps p.tables e below (T.setTop g) target) ∨
    (∃ (q : Addr) (vm₁ : Vm) (B : Pt), s.WarmedH vm₁ ∧ Stand p l e R s m args below meth c B.U B.locs B.cells B.slots ∧ PostX ⟨T.setVm vm₁, locs, cells, slots⟩ (Value.ref b :: argsL).toArray q B ∧
      Steps p.tables e below (T.setTop g) ((B.U.setTop { g with stack := rest }).pushFrame (.throwing q))) := by
  obtain ⟨mk, methM, hnamed, hmethM, hstM, habM⟩ := Cond.instanceMethod_spec hinst
  obtain ⟨methM', cM, hmethM', -, -, -, -, -, -, hsigM⟩ := Cond.code_spec hnamed hcode
  cases hmethM.symm.trans hmethM'
  obtain ⟨c2, r2, m2, q1, q2, q3, q4, kP, hkP, hkPi⟩ := Cond.selects_spec hsel
  cases hcls.symm.trans q1
  cases (State.methodFound?_of_named hnamed hy).symm.trans q2
  cases hnamed.symm.trans q3
  have hselP : selectMethod e.platform s.vm cellB.cls mk = .method mk := by rw [Launch.admits_selectMethod X.admits]; exact q4
  obtain ⟨vm₁, X₁, hstep₁⟩ := X.invokevirtual hexec hown hlink hnamed hmethM hstM hkP hkPi hy (a := b) (cell := cellB) hcell
    (fun z h => by rw [h] at hobj; cases hobj) hselP hmethM habM hkP hkPi (g := g) hg (argsL := argsL) (rest := rest) (hlen _ hsigM) hstack hdg
  rcases hK m meth c ⟨T.setVm vm₁, locs, cells, slots⟩ { g with stack := rest } (.invokevirtual index) mk (Value.ref b :: argsL).toArray X₁ hg hsize hdg hW (X₁.named hnamed) (hpre vm₁ X₁.warmed) with ⟨v, B, X', hpost, hsteps⟩ | ⟨q, B, X', hpost, hsteps⟩
  · exact Or.inl ⟨v, vm₁, B, X₁.warmed, X', hpost, fun target h => hstep₁ _ fun acts => by rw [doInvoke_state]; exact hsteps.trans h⟩
  · exact Or.inr ⟨q, vm₁, B, X₁.warmed, X', hpost, hstep₁ _ fun acts => by rw [doInvoke_state]; exact hsteps⟩
theorem vx_callS (X : Stand p l e R s m args below meth c T locs cells slots) (hexec : p.tables.exec = Jvm.exec) {own : String} {index : Nat} {y : MethodName} {bytes : ByteArray} {maxL : Nat} {ret : Option FieldType}
    (hown : s.vm.findClass own = some m.cls) (hlink : (Cond.methodLink own index y).before args s = true) (hstat : (Cond.static y).before args s = true) (hinit : (Cond.initialized y.cls).before args s = true)
    (hcode : (Cond.code y bytes maxL ret).before args s = true) (hy : y.cls ≠ "java/lang/invoke/MethodHandle" ∧ y.cls ≠ "java/lang/invoke/VarHandle")
    {W9 : Nat} {Pre : Pt → Array Value → Prop} {Post : Pt → Array Value → Option Value → Pt → Prop} {PostX : Pt → Array Value → Addr → Pt → Prop} (hK : vx_Back l R p e below s args y 3 W9 Pre Post PostX)
    {g : JFrame} (hg : g.method = m) (hsize : g.locals.size = c.maxLocals) {argsL rest : List Value} (hlen : ∀ sig, parseMethodDescriptor y.desc = some sig → argsL.length = sig.parameters.length)
    (hstack : g.stack = argsL.reverse ++ rest) (hW : 2 * g.monitorRoom + (rest.map fun v => v.category).sum ≤ W9) (hdg : decode c.code g.pc = .ok (.invokestatic index, 3))
    (hpre : ∀ vm₁, s.WarmedH vm₁ → Pre ⟨T.setVm vm₁, locs, cells, slots⟩ argsL.toArray) :
    (∃ (v : Option Value) (vm₁ : Vm) (B : Pt), s.WarmedH vm₁ ∧ Stand p l e R s m args below meth c B.U B.locs B.cells B.slots ∧ Post ⟨T.setVm vm₁, locs, cells, slots⟩ argsL.toArray v B ∧
      ∀ target, Steps p.tables e below (B.U.setTop { g with pc := g.pc + 3, stack := v.toList ++ rest }) target → Steps p.tables e below (T.setTop g) target) ∨
    (∃ (q : Addr) (vm₁ : Vm) (B : Pt), s.WarmedH vm₁ ∧ Stand p l e R s m args below meth c B.U B.locs B.cells B.slots ∧ PostX ⟨T.setVm vm₁, locs, cells, slots⟩ argsL.toArray q B ∧
      Steps p.tables e below (T.setTop g) ((B.U.setTop { g with stack := rest }).pushFrame (.throwing q))) := by
  obtain ⟨mk, hnamed⟩ := Cond.code_named hcode
  obtain ⟨methM, cM, hmethM, -, -, -, -, -, -, hsigM⟩ := Cond.code_spec hnamed hcode
  have hstatic : methM.isStatic = true := Cond.static_spec hnamed hmethM hstat
  obtain ⟨kP, hkP, -⟩ := className_of_methodNamed hnamed
  have hinitP : kP.init = .initialized := Cond.initialized_spec (findClass_of_methodNamed hnamed) hkP hinit
  obtain ⟨vm₁, X₁, hstep₁⟩ := X.invokestatic hexec hown hlink hnamed hmethM hstatic hkP hinitP hy (g := g) hg (argsL := argsL) (rest := rest) (hlen _ hsigM) hstack hdg
  rcases hK m meth c ⟨T.setVm vm₁, locs, cells, slots⟩ { g with stack := rest } (.invokestatic index) mk argsL.toArray X₁ hg hsize hdg hW (X₁.named hnamed) (hpre vm₁ X₁.warmed) with ⟨v, B, X', hpost, hsteps⟩ | ⟨q, B, X', hpost, hsteps⟩
  · exact Or.inl ⟨v, vm₁, B, X₁.warmed, X', hpost, fun target h => hstep₁ _ fun acts => by rw [doInvoke_state]; exact hsteps.trans h⟩
  · exact Or.inr ⟨q, vm₁, B, X₁.warmed, X', hpost, hstep₁ _ fun acts => by rw [doInvoke_state]; exact hsteps⟩
end Calls
theorem vx_cls {s : State} {T : State} {vm₁ : Vm} {E : String} {k : ClassId} (hW : s.WarmedH vm₁) (h : (T.setVm vm₁).vm.findClass E = some k) : s.vm.findClass E = some k := by
  have h1 : vm₁.findClass E = some k := h
  rw [hW.alike.findClass] at h1
  exact h1
/-- the method's frame g, with q thrown over it -/
def vx_W (p : Program) (l : Launch) (e : Env) (R : Room) (s : State) (m : MethodId) (args : Array Value) (below : List Frame) (meth : Method) (c : Code) (H : Heap) (locs : List Loc) (cells slots : Nat) (Q : State → Prop) (g : JFrame) (q : Addr) : Prop :=
  ∀ T : State, T.heap = H → Stand p l e R s m args below meth c T locs cells slots → ∃ t, Steps p.tables e below ((T.setTop g).pushFrame (.throwing q)) t ∧ Q t
def vx_Run (p : Program) (l : Launch) (e : Env) (R : Room) (s : State) (m : MethodId) (args : Array Value) (below : List Frame) (meth : Method) (c : Code) (H : Heap) (locs : List Loc) (cells slots mc ms : Nat) (g : JFrame) (rest : List Value) (Qa : State → Outcome → State → Prop) (XC : String → State → State → Prop) (free : Addr → Prop) : Prop :=
  ∀ T : State, T.heap = H → Stand p l e R s m args below meth c T locs cells slots →
    (∃ (v : Option Value) (st₀ t T' : State) (L : List Loc), st₀.heap = H ∧ Stand p l e R s m args below meth c T' (locs ++ L) (cells + mc) (slots + ms) ∧ (∀ q ∈ L, free q.base) ∧ T'.heap = t.heap ∧ T'.vm = t.vm ∧ Qa st₀ (.returned v) t ∧
      Goes p e below T g T' { g with pc := g.pc + 3, stack := v.toList ++ rest }) ∨
    (∃ (q : Addr) (st₀ t T' : State) (L : List Loc) (E : String) (ce : Cell), st₀.heap = H ∧ Stand p l e R s m args below meth c T' (locs ++ L) (cells + mc) (slots + ms) ∧ (∀ z ∈ L, free z.base) ∧ T'.heap = t.heap ∧ T'.vm = t.vm ∧ XC E st₀ t ∧ t.heap[q]? = some ce ∧ ce.vm = .none ∧ s.vm.findClass E = some ce.cls ∧
      Steps p.tables e below (T.setTop g) ((T'.setTop { g with stack := rest }).pushFrame (.throwing q)))
def vx_X {S : Type} (px : S → Prop) (B : String → S → State → Prop) (A : Nat → Prop) : String → State → State → Prop := fun E st t => ∃ u : S, px u ∧ B E u t ∧ va_F A st t
section Runs
variable {p : Program} {l : Launch} {e : Env} {R : Room} {s : State} {m : MethodId} {args : Array Value} {below : List Frame} {meth : Method} {c : Code} {H : Heap} {locs : List Loc} {cells slots : Nat}
variable {y : MethodName} {bytes cc : ByteArray} {maxL nL mc ms n index : Nat} {ret : Option FieldType} {ws : List Cond} {rm : Room} {Pc : Array Value → State → Prop} {Qc : Array Value → State → Outcome → State → Prop} {XC : String → State → State → Prop} {free : Addr → Prop} {Ts : List Cond} {own C : String} {b : Addr} {As rest : List Value} {g : JFrame}
theorem vx_callBack (cb : CallB R s args own index y bytes maxL ret ws rm mc ms n) (hM : vx_Met l y ws rm Pc Qc XC mc ms free) (hbl : FrameBlind Pc) : vx_Back l R p e below s args y 3 8 (PreOf R mc ms Pc) (PostOf Qc mc ms free) (vx_Post XC mc ms free) := by
  obtain ⟨hrc, hrs, hfr, hlo, hws, hcw, -, hini, -⟩ := cb
  exact vx_back (bytes := bytes) (maxL := maxL) (ret := ret) hM hbl hrc hrs hfr hlo hws hcw (fun a' U hW => word_at hW (Or.inl (by first | rfl | simp [Cond.onTables, Cond.keeps, Cond.steady])) hini)
theorem vx_runV (S : CallFix p m c cc nL s args Ts own) (hM : vx_Met l y ws rm Pc Qc XC mc ms free) (cw : CallW R s args own C index y bytes maxL ret ws rm mc ms n) (hp : PreV s H C b Pc As)
    (hg : g.method = m) (hn : As.length = n) (hsize : g.locals.size = nL) (hstack : g.stack = As.reverse ++ .ref b :: rest) (hW : 2 * g.monitorRoom + (rest.map fun v => v.category).sum ≤ 8) (hdg : decode cc g.pc = .ok (.invokevirtual index, 3)) (hf : cells + mc ≤ R.cells ∧ slots + ms ≤ R.slots) :
    vx_Run p l e R s m args below meth c H locs cells slots mc ms g rest (Qc (Value.ref b :: As).toArray) XC free := by
  have hK : vx_Back l R p e below s args y 3 8 (PreOf R mc ms Pc) (PostOf Qc mc ms free) (vx_Post XC mc ms free) := vx_callBack cw.1 hM hp.1
  obtain ⟨⟨-, -, -, -, -, -, hcode, -, hy, hlen, hl⟩, hin, hse⟩ := cw
  obtain ⟨hx, hb, hml, ho, -⟩ := S
  obtain ⟨-, ⟨cellB, hcB, hoB, hclB⟩, hPc⟩ := hp
  intro T hT X
  rcases vx_callV X hx (C := C) (bytes := bytes) (maxL := maxL) (ret := ret) ho hl hin hse hcode hy hK (by rw [hT]; exact hcB) hoB hclB hg (hsize.trans hml.symm) (argsL := As) (rest := rest) (fun sig h => hn.trans (hlen sig h)) hstack hW (by rw [hb]; exact hdg)
    (fun vm₁ hW₁ => ⟨hf.1, hf.2, hPc (T.setVm vm₁) hT hW₁⟩) with ⟨v, vm₁, ⟨U', l2, c2, s2⟩, hW₁, X', ⟨g', mk, t, L, e1, e2, hq, h1, hL, h2, h3⟩, st⟩ | ⟨q, vm₁, ⟨U', l2, c2, s2⟩, hW₁, X', ⟨g', mk, t, L, E, ce, e1, e2, hq, hce, hcv, hcl, h1, hL, h2, h3⟩, st⟩
  · dsimp only [Pt.U, Pt.locs, Pt.cells, Pt.slots] at X' e1 e2 h1 h2 h3 st
    subst h1; subst h2; subst h3
    exact Or.inl ⟨v, (T.setVm vm₁).calling g' mk (Value.ref b :: As).toArray, t, U', L, hT, X', hL, e1, e2, hq, st⟩
  · dsimp only [Pt.U, Pt.locs, Pt.cells, Pt.slots] at X' e1 e2 h1 h2 h3 st hcl
    subst h1; subst h2; subst h3
    exact Or.inr ⟨q, (T.setVm vm₁).calling g' mk (Value.ref b :: As).toArray, t, U', L, E, ce, hT, X', hL, e1, e2, hq, hce, hcv, vx_cls hW₁ hcl, st⟩
theorem vx_runS (S : CallFix p m c cc nL s args Ts own) (hM : vx_Met l y ws rm Pc Qc XC mc ms free) (cw : CallB R s args own index y bytes maxL ret ws rm mc ms n ∧ (Cond.static y).before args s = true) (hp : PreS s H Pc As)
    (hg : g.method = m) (hn : As.length = n) (hsize : g.locals.size = nL) (hstack : g.stack = As.reverse ++ rest) (hW : 2 * g.monitorRoom + (rest.map fun v => v.category).sum ≤ 8) (hdg : decode cc g.pc = .ok (.invokestatic index, 3)) (hf : cells + mc ≤ R.cells ∧ slots + ms ≤ R.slots) :
    vx_Run p l e R s m args below meth c H locs cells slots mc ms g rest (Qc As.toArray) XC free := by
  have hK : vx_Back l R p e below s args y 3 8 (PreOf R mc ms Pc) (PostOf Qc mc ms free) (vx_Post XC mc ms free) := vx_callBack cw.1 hM hp.1
  obtain ⟨⟨-, -, -, -, -, -, hcode, hini, hy, hlen, hl⟩, hstt⟩ := cw
  obtain ⟨hx, hb, hml, ho, -⟩ := S
  intro T hT X
  rcases vx_callS X hx (bytes := bytes) (maxL := maxL) (ret := ret) ho hl hstt hini hcode hy hK hg (hsize.trans hml.symm) (argsL := As) (rest := rest) (fun sig h => hn.trans (hlen sig h)) hstack hW (by rw [hb]; exact hdg)
    (fun vm₁ hW₁ => ⟨hf.1, hf.2, hp.2 (T.setVm vm₁) hT hW₁⟩) with ⟨v, vm₁, ⟨U', l2, c2, s2⟩, hW₁, X', ⟨g', mk, t, L, e1, e2, hq, h1, hL, h2, h3⟩, st⟩ | ⟨q, vm₁, ⟨U', l2, c2, s2⟩, hW₁, X', ⟨g', mk, t, L, E, ce, e1, e2, hq, hce, hcv, hcl, h1, hL, h2, h3⟩, st⟩
  · dsimp only [Pt.U, Pt.locs, Pt.cells, Pt.slots] at X' e1 e2 h1 h2 h3 st
    subst h1; subst h2; subst h3
    exact Or.inl ⟨v, (T.setVm vm₁).calling g' mk As.toArray, t, U', L, hT, X', hL, e1, e2, hq, st⟩
  · dsimp only [Pt.U, Pt.locs, Pt.cells, Pt.slots] at X' e1 e2 h1 h2 h3 st hcl
    subst h1; subst h2; subst h3
    exact Or.inr ⟨q, (T.setVm vm₁).calling g' mk As.toArray, t, U', L, E, ce, hT, X', hL, e1, e2, hq, hce, hcv, vx_cls hW₁ hcl, st⟩
end Runs
section Rows
variable {p : Program} {l : Launch} {e : Env} {R : Room} {s : State} {m : MethodId} {args : Array Value} {below : List Frame} {meth : Method} {c : Code} {H : Heap} {locs : List Loc} {cells slots : Nat} {Q : State → Prop}
variable {mc ms : Nat} {free : Addr → Prop} {A0 A1 : Nat → Prop} {H0 : Heap} {a : Array Value} {pc : Nat} {ls : Array Slot} {st0 rest : List Value}
theorem vx_keep {st₀ t T' : State} {L : List Loc} (h0 : st₀.heap = H) (e1 : T'.heap = t.heap) (hS : va_S A0 H0 H locs) (hA : ∀ q, q < H.size → A1 q → A0 q) (hf : ∀ q, free q → A0 q) (hL : ∀ q ∈ L, free q.base) (hF : va_F A1 st₀ t) :
    H.size ≤ T'.heap.size ∧ (∀ q : Nat, q < H.size → ¬ A1 q → T'.heap[q]? = H[q]?) ∧ va_S A0 H0 T'.heap (locs ++ L) := by
  obtain ⟨hz, hk⟩ := hF
  rw [h0] at hz hk
  exact ⟨by rw [e1]; exact hz, fun q h1 h2 => by rw [e1]; exact hk q h1 h2,
    ⟨Nat.le_trans hS.1 (by rw [e1]; exact hz), fun q h1 h2 => by rw [e1, hk q (Nat.lt_of_lt_of_le h1 hS.1) (fun z => h2 (hA q (Nat.lt_of_lt_of_le h1 hS.1) z))]; exact hS.2.1 q h1 h2, fun q hq => by
      rcases List.mem_append.mp hq with h | h
      · exact hS.2.2 q h
      · exact hf _ (hL q h)⟩⟩
theorem vx_calli {S SX : Type} {post : Int32 → S → Prop} {px : SX → Prop} {B : S → State → Prop} {BX : String → SX → State → Prop} {AX : Nat → Prop} (hr : vx_Run p l e R s m args below meth c H locs cells slots mc ms (F0 m pc ls st0) rest (va_Qi post B A1 a) (vx_X px BX AX) free) (hS : va_S A0 H0 H locs) (hA : ∀ q, q < H.size → A1 q → A0 q) (hf : ∀ q, free q → A0 q) (hAX : ∀ q, q < H.size → AX q → A0 q)
    (kx : ∀ (E : String) (ce : Cell) (q9 : Addr) (u : SX) (t : State) (H1 : Heap) (locs1 : List Loc), t.heap = H1 → s.vm.Alike t.vm → px u → BX E u t → H.size ≤ H1.size → (∀ q : Nat, q < H.size → ¬ AX q → H1[q]? = H[q]?) → va_S A0 H0 H1 locs1 → H1[q9]? = some ce → ce.vm = .none → s.vm.findClass E = some ce.cls → vx_W p l e R s m args below meth c H1 locs1 (cells + mc) (slots + ms) Q (F0 m pc ls rest) q9)
    (kk : ∀ (r : Int32) (u : S) (t : State) (H1 : Heap) (locs1 : List Loc), t.heap = H1 → s.vm.Alike t.vm → post r u → B u t → H.size ≤ H1.size → (∀ q : Nat, q < H.size → ¬ A1 q → H1[q]? = H[q]?) → va_S A0 H0 H1 locs1 → W p l e R s m args below meth c H1 locs1 (cells + mc) (slots + ms) Q (F0 m (pc + 3) ls (.int r :: rest))) : W p l e R s m args below meth c H locs cells slots Q (F0 m pc ls st0) := by
  intro T hT X
  rcases hr T hT X with ⟨v, st₀, t, T', L, h0, X', hL, e1, e2, ⟨⟨r, u, hv, hp, hb⟩, hF⟩, st⟩ | ⟨q, st₀, t, T', L, E, ce, h0, X', hL, e1, e2, ⟨u, hp, hb, hF⟩, hce, hcv, hcl, st⟩
  · cases hv
    obtain ⟨k1, k2, k3⟩ := vx_keep h0 e1 hS hA hf hL hF
    obtain ⟨t2, a1, b1⟩ := kk r u t T'.heap (locs ++ L) e1.symm (by rw [← e2]; exact X'.warmed.alike) hp hb k1 k2 k3 T' rfl X'
    exact ⟨t2, st t2 a1, b1⟩
  · obtain ⟨k1, k2, k3⟩ := vx_keep h0 e1 hS hAX hf hL hF
    obtain ⟨t2, a1, b1⟩ := kx E ce q u t T'.heap (locs ++ L) e1.symm (by rw [← e2]; exact X'.warmed.alike) hp hb k1 k2 k3 (by rw [e1]; exact hce) hcv hcl T' rfl X'
    exact ⟨t2, st.trans a1, b1⟩
theorem vx_calll {S SX : Type} {post : Int64 → S → Prop} {px : SX → Prop} {B : S → State → Prop} {BX : String → SX → State → Prop} {AX : Nat → Prop} (hr : vx_Run p l e R s m args below meth c H locs cells slots mc ms (F0 m pc ls st0) rest (va_Ql post B A1 a) (vx_X px BX AX) free) (hS : va_S A0 H0 H locs) (hA : ∀ q, q < H.size → A1 q → A0 q) (hf : ∀ q, free q → A0 q) (hAX : ∀ q, q < H.size → AX q → A0 q)
    (kx : ∀ (E : String) (ce : Cell) (q9 : Addr) (u : SX) (t : State) (H1 : Heap) (locs1 : List Loc), t.heap = H1 → s.vm.Alike t.vm → px u → BX E u t → H.size ≤ H1.size → (∀ q : Nat, q < H.size → ¬ AX q → H1[q]? = H[q]?) → va_S A0 H0 H1 locs1 → H1[q9]? = some ce → ce.vm = .none → s.vm.findClass E = some ce.cls → vx_W p l e R s m args below meth c H1 locs1 (cells + mc) (slots + ms) Q (F0 m pc ls rest) q9)
    (kk : ∀ (r : Int64) (u : S) (t : State) (H1 : Heap) (locs1 : List Loc), t.heap = H1 → s.vm.Alike t.vm → post r u → B u t → H.size ≤ H1.size → (∀ q : Nat, q < H.size → ¬ A1 q → H1[q]? = H[q]?) → va_S A0 H0 H1 locs1 → W p l e R s m args below meth c H1 locs1 (cells + mc) (slots + ms) Q (F0 m (pc + 3) ls (.long r :: rest))) : W p l e R s m args below meth c H locs cells slots Q (F0 m pc ls st0) := by
  intro T hT X
  rcases hr T hT X with ⟨v, st₀, t, T', L, h0, X', hL, e1, e2, ⟨⟨r, u, hv, hp, hb⟩, hF⟩, st⟩ | ⟨q, st₀, t, T', L, E, ce, h0, X', hL, e1, e2, ⟨u, hp, hb, hF⟩, hce, hcv, hcl, st⟩
  · cases hv
    obtain ⟨k1, k2, k3⟩ := vx_keep h0 e1 hS hA hf hL hF
    obtain ⟨t2, a1, b1⟩ := kk r u t T'.heap (locs ++ L) e1.symm (by rw [← e2]; exact X'.warmed.alike) hp hb k1 k2 k3 T' rfl X'
    exact ⟨t2, st t2 a1, b1⟩
  · obtain ⟨k1, k2, k3⟩ := vx_keep h0 e1 hS hAX hf hL hF
    obtain ⟨t2, a1, b1⟩ := kx E ce q u t T'.heap (locs ++ L) e1.symm (by rw [← e2]; exact X'.warmed.alike) hp hb k1 k2 k3 (by rw [e1]; exact hce) hcv hcl T' rfl X'
    exact ⟨t2, st.trans a1, b1⟩
theorem vx_callf {S SX : Type} {post : UInt32 → S → Prop} {px : SX → Prop} {B : S → State → Prop} {BX : String → SX → State → Prop} {AX : Nat → Prop} (hr : vx_Run p l e R s m args below meth c H locs cells slots mc ms (F0 m pc ls st0) rest (va_Qf post B A1 a) (vx_X px BX AX) free) (hS : va_S A0 H0 H locs) (hA : ∀ q, q < H.size → A1 q → A0 q) (hf : ∀ q, free q → A0 q) (hAX : ∀ q, q < H.size → AX q → A0 q)
    (kx : ∀ (E : String) (ce : Cell) (q9 : Addr) (u : SX) (t : State) (H1 : Heap) (locs1 : List Loc), t.heap = H1 → s.vm.Alike t.vm → px u → BX E u t → H.size ≤ H1.size → (∀ q : Nat, q < H.size → ¬ AX q → H1[q]? = H[q]?) → va_S A0 H0 H1 locs1 → H1[q9]? = some ce → ce.vm = .none → s.vm.findClass E = some ce.cls → vx_W p l e R s m args below meth c H1 locs1 (cells + mc) (slots + ms) Q (F0 m pc ls rest) q9)
    (kk : ∀ (r : UInt32) (u : S) (t : State) (H1 : Heap) (locs1 : List Loc), t.heap = H1 → s.vm.Alike t.vm → post r u → B u t → H.size ≤ H1.size → (∀ q : Nat, q < H.size → ¬ A1 q → H1[q]? = H[q]?) → va_S A0 H0 H1 locs1 → W p l e R s m args below meth c H1 locs1 (cells + mc) (slots + ms) Q (F0 m (pc + 3) ls (.float r :: rest))) : W p l e R s m args below meth c H locs cells slots Q (F0 m pc ls st0) := by
  intro T hT X
  rcases hr T hT X with ⟨v, st₀, t, T', L, h0, X', hL, e1, e2, ⟨⟨r, u, hv, hp, hb⟩, hF⟩, st⟩ | ⟨q, st₀, t, T', L, E, ce, h0, X', hL, e1, e2, ⟨u, hp, hb, hF⟩, hce, hcv, hcl, st⟩
  · cases hv
    obtain ⟨k1, k2, k3⟩ := vx_keep h0 e1 hS hA hf hL hF
    obtain ⟨t2, a1, b1⟩ := kk r u t T'.heap (locs ++ L) e1.symm (by rw [← e2]; exact X'.warmed.alike) hp hb k1 k2 k3 T' rfl X'
    exact ⟨t2, st t2 a1, b1⟩
  · obtain ⟨k1, k2, k3⟩ := vx_keep h0 e1 hS hAX hf hL hF
    obtain ⟨t2, a1, b1⟩ := kx E ce q u t T'.heap (locs ++ L) e1.symm (by rw [← e2]; exact X'.warmed.alike) hp hb k1 k2 k3 (by rw [e1]; exact hce) hcv hcl T' rfl X'
    exact ⟨t2, st.trans a1, b1⟩
theorem vx_calld {S SX : Type} {post : UInt64 → S → Prop} {px : SX → Prop} {B : S → State → Prop} {BX : String → SX → State → Prop} {AX : Nat → Prop} (hr : vx_Run p l e R s m args below meth c H locs cells slots mc ms (F0 m pc ls st0) rest (va_Qd post B A1 a) (vx_X px BX AX) free) (hS : va_S A0 H0 H locs) (hA : ∀ q, q < H.size → A1 q → A0 q) (hf : ∀ q, free q → A0 q) (hAX : ∀ q, q < H.size → AX q → A0 q)
    (kx : ∀ (E : String) (ce : Cell) (q9 : Addr) (u : SX) (t : State) (H1 : Heap) (locs1 : List Loc), t.heap = H1 → s.vm.Alike t.vm → px u → BX E u t → H.size ≤ H1.size → (∀ q : Nat, q < H.size → ¬ AX q → H1[q]? = H[q]?) → va_S A0 H0 H1 locs1 → H1[q9]? = some ce → ce.vm = .none → s.vm.findClass E = some ce.cls → vx_W p l e R s m args below meth c H1 locs1 (cells + mc) (slots + ms) Q (F0 m pc ls rest) q9)
    (kk : ∀ (r : UInt64) (u : S) (t : State) (H1 : Heap) (locs1 : List Loc), t.heap = H1 → s.vm.Alike t.vm → post r u → B u t → H.size ≤ H1.size → (∀ q : Nat, q < H.size → ¬ A1 q → H1[q]? = H[q]?) → va_S A0 H0 H1 locs1 → W p l e R s m args below meth c H1 locs1 (cells + mc) (slots + ms) Q (F0 m (pc + 3) ls (.double r :: rest))) : W p l e R s m args below meth c H locs cells slots Q (F0 m pc ls st0) := by
  intro T hT X
  rcases hr T hT X with ⟨v, st₀, t, T', L, h0, X', hL, e1, e2, ⟨⟨r, u, hv, hp, hb⟩, hF⟩, st⟩ | ⟨q, st₀, t, T', L, E, ce, h0, X', hL, e1, e2, ⟨u, hp, hb, hF⟩, hce, hcv, hcl, st⟩
  · cases hv
    obtain ⟨k1, k2, k3⟩ := vx_keep h0 e1 hS hA hf hL hF
    obtain ⟨t2, a1, b1⟩ := kk r u t T'.heap (locs ++ L) e1.symm (by rw [← e2]; exact X'.warmed.alike) hp hb k1 k2 k3 T' rfl X'
    exact ⟨t2, st t2 a1, b1⟩
  · obtain ⟨k1, k2, k3⟩ := vx_keep h0 e1 hS hAX hf hL hF
    obtain ⟨t2, a1, b1⟩ := kx E ce q u t T'.heap (locs ++ L) e1.symm (by rw [← e2]; exact X'.warmed.alike) hp hb k1 k2 k3 (by rw [e1]; exact hce) hcv hcl T' rfl X'
    exact ⟨t2, st.trans a1, b1⟩
theorem vx_callv {S SX : Type} {post : S → Prop} {px : SX → Prop} {B : S → State → Prop} {BX : String → SX → State → Prop} {AX : Nat → Prop} (hr : vx_Run p l e R s m args below meth c H locs cells slots mc ms (F0 m pc ls st0) rest (va_Qv post B A1 a) (vx_X px BX AX) free) (hS : va_S A0 H0 H locs) (hA : ∀ q, q < H.size → A1 q → A0 q) (hf : ∀ q, free q → A0 q) (hAX : ∀ q, q < H.size → AX q → A0 q)
    (kx : ∀ (E : String) (ce : Cell) (q9 : Addr) (u : SX) (t : State) (H1 : Heap) (locs1 : List Loc), t.heap = H1 → s.vm.Alike t.vm → px u → BX E u t → H.size ≤ H1.size → (∀ q : Nat, q < H.size → ¬ AX q → H1[q]? = H[q]?) → va_S A0 H0 H1 locs1 → H1[q9]? = some ce → ce.vm = .none → s.vm.findClass E = some ce.cls → vx_W p l e R s m args below meth c H1 locs1 (cells + mc) (slots + ms) Q (F0 m pc ls rest) q9)
    (kk : ∀ (u : S) (t : State) (H1 : Heap) (locs1 : List Loc), t.heap = H1 → s.vm.Alike t.vm → post u → B u t → H.size ≤ H1.size → (∀ q : Nat, q < H.size → ¬ A1 q → H1[q]? = H[q]?) → va_S A0 H0 H1 locs1 → W p l e R s m args below meth c H1 locs1 (cells + mc) (slots + ms) Q (F0 m (pc + 3) ls (rest))) : W p l e R s m args below meth c H locs cells slots Q (F0 m pc ls st0) := by
  intro T hT X
  rcases hr T hT X with ⟨v, st₀, t, T', L, h0, X', hL, e1, e2, ⟨⟨u, hv, hp, hb⟩, hF⟩, st⟩ | ⟨q, st₀, t, T', L, E, ce, h0, X', hL, e1, e2, ⟨u, hp, hb, hF⟩, hce, hcv, hcl, st⟩
  · cases hv
    obtain ⟨k1, k2, k3⟩ := vx_keep h0 e1 hS hA hf hL hF
    obtain ⟨t2, a1, b1⟩ := kk u t T'.heap (locs ++ L) e1.symm (by rw [← e2]; exact X'.warmed.alike) hp hb k1 k2 k3 T' rfl X'
    exact ⟨t2, st t2 a1, b1⟩
  · obtain ⟨k1, k2, k3⟩ := vx_keep h0 e1 hS hAX hf hL hF
    obtain ⟨t2, a1, b1⟩ := kx E ce q u t T'.heap (locs ++ L) e1.symm (by rw [← e2]; exact X'.warmed.alike) hp hb k1 k2 k3 (by rw [e1]; exact hce) hcv hcl T' rfl X'
    exact ⟨t2, st.trans a1, b1⟩
/-- caught by the row x of this method's table; the rows ahead don't take it -/
theorem vx_catch {own name : String} {E : String} {ce : Cell} {q : Addr} (hown : s.vm.findClass own = some m.cls) (pre : List ExceptionTableEntry) (x : ExceptionTableEntry) (suf : List ExceptionTableEntry) (hsplit : c.exceptionTable.toList = pre ++ x :: suf)
    (hpass : ∀ z ∈ pre, covers z pc = false ∨ (z.catchType ≠ 0 ∧ ∃ nm : String, (Cond.classLink own z.catchType nm).before args s = true ∧ va_Nc E nm s)) (hx : covers x pc = true) (h0 : x.catchType ≠ 0)
    (hlink : (Cond.classLink own x.catchType name).before args s = true) (hcast : (Cond.castable E name).before args s = true) (hcell : H[q]? = some ce) (hv : ce.vm = .none) (hcl : s.vm.findClass E = some ce.cls)
    (kk : W p l e R s m args below meth c H locs cells slots Q (F0 m x.handlerPc ls [.ref q])) : vx_W p l e R s m args below meth c H locs cells slots Q (F0 m pc ls rest) q := by
  intro T hT X
  have hpl : e.platform.magicAccessors = ({} : Platform).magicAccessors := by rw [X.admits.platform]
  obtain ⟨c3, c4, hc3, hc4, hasg⟩ := Cond.castable_spec hcast
  cases Option.some.inj (hc3.symm.trans hcl)
  obtain ⟨c5, hc5, hcl5⟩ := Cond.classLink_spec hown hlink e.platform hpl
  cases Option.some.inj (hc4.symm.trans hc5)
  obtain ⟨vm', X', st⟩ := X.thenCaughtThrough q (g := F0 m pc ls rest) rfl (Steps.refl _) (by rw [hT]; exact hcell) (by rw [hv]; rfl) (by obtain ⟨k9, h9, -⟩ := Vm.findClass_spec hcl; exact ⟨k9, h9⟩) pre x suf hsplit
    (fun z hz => by
      rcases hpass z hz with h | ⟨hz0, nm, hl1, hn1⟩
      · exact Or.inl h
      · obtain ⟨c6, hc6, hcl6⟩ := Cond.classLink_spec hown hl1 e.platform hpl
        obtain ⟨a8, b8, h1, h2, h3⟩ := hn1
        cases Option.some.inj (h1.symm.trans hcl)
        cases Option.some.inj (h2.symm.trans hc6)
        exact Or.inr ⟨hz0, _, hcl6, h3⟩) hx (Or.inr ⟨h0, c4, hcl5, hasg⟩)
  obtain ⟨t, a1, b1⟩ := kk (T.setVm vm') hT X'
  exact ⟨t, st.trans a1, b1⟩
end Rows
section Ends
variable {p : Program} {l : Launch} {e : Env} {R : Room} {s : State} {m : MethodId} {args : Array Value} {below : List Frame} {meth : Method} {c : Code} {H : Heap} {locs : List Loc} {cells slots : Nat} {Q : State → Prop}
variable {mc ms : Nat} {free : Addr → Prop} {A0 A1 : Nat → Prop} {H0 : Heap} {a : Array Value} {ls : Array Slot} {st0 rest : List Value}
variable {Qc : Array Value → State → Outcome → State → Prop} {XC : String → State → State → Prop}
/-- what a body that may throw owes at its end -/
def vx_MQ (below : List Frame) (Qc : Array Value → State → Outcome → State → Prop) (XC : String → State → State → Prop) (a : Array Value) (s : State) (mc ms : Nat) (free : Addr → Prop) : State → Prop := fun t =>
  ∃ o, t.status = .running ∧ Ended t below o ∧ vx_Q Qc XC mc ms free a s o t
theorem vx_ret {g : JFrame} {mc ms : Nat} (k : W p l e R s m args below meth c H locs cells slots (MQ below Qc args s mc ms free) g) : W p l e R s m args below meth c H locs cells slots (vx_MQ below Qc XC args s mc ms free) g := by
  intro T hT X
  obtain ⟨t, a1, o, b1, b2, b3, b4⟩ := k T hT X
  exact ⟨t, a1, o, b1, b2, Or.inl ⟨b3, b4⟩⟩
/-- not caught here: it goes on to the caller -/
theorem vx_widen {g : JFrame} {q : Addr} {k n : Nat} (h1 : cells ≤ k) (h2 : slots ≤ n) (kk : vx_W p l e R s m args below meth c H locs k n Q g q) : vx_W p l e R s m args below meth c H locs cells slots Q g q := fun T hT X => kk T hT (stand_widen X h1 h2)
theorem vx_out {pc : Nat} {E : String} {ce : Cell} {q : Addr} {mc ms : Nat} (hout : ∀ x ∈ c.exceptionTable.toList, covers x pc = false) (hlocks : meth.locks = false) (hcell : H[q]? = some ce) (hv : ce.vm = .none) (hcl : s.vm.findClass E = some ce.cls)
    (hx : ∀ t : State, t.heap = H → s.vm.Alike t.vm → XC E s t) (hf : ∀ z ∈ locs, free z.base) (hc : cells ≤ mc) (hs : slots ≤ ms) :
    vx_W p l e R s m args below meth c H locs cells slots (vx_MQ below Qc XC args s mc ms free) (F0 m pc ls rest) q := by
  intro T hT X
  obtain ⟨st1, hrun, hend, hW, hsm⟩ := X.leaveThrown q (g := F0 m pc ls rest) rfl rfl rfl hout hlocks
  have hcell9 : (T.setFrames (.throwing q :: below)).heap[q]? = some ce := by
    show T.heap[q]? = some ce
    rw [hT]; exact hcell
  exact ⟨_, st1, .threw q, hrun, hend, Or.inr ⟨q, rfl, E, ce, locs, hx _ hT hW.alike, hcell9, hv, hcl, hW, hsm.mono hc hs, hf⟩⟩
theorem vx_frame {U : State} {k n : Nat} (h : s.sameButNew ({ U with vm := s.vm } : State) locs k n) : s.heap.size ≤ U.heap.size ∧ ∀ q : Nat, q < s.heap.size → (∀ z ∈ locs, z.base ≠ q) → U.heap[q]? = s.heap[q]? := by
  obtain ⟨-, h2, -, -, -, h6⟩ := h
  refine ⟨h2, fun q hq hz => ?_⟩
  obtain ⟨c9, e1, e2, e3, e4⟩ := h6 q _ (Array.getElem?_eq_getElem hq)
  have hs : c9.slots = (s.heap[q]).slots := Array.ext_getElem? fun i => e4 i fun hm => hz _ hm rfl
  have h9 : c9 = s.heap[q] := by
    rw [hs] at e2
    exact e2
  have e5 : U.heap[q]? = some c9 := e1
  rw [e5, h9, Array.getElem?_eq_getElem hq]
/-- the words of a throw but the four that speak of the heap -/
def vx_no (w : Cond) : Bool := decide (w ≠ .isRef (.static Bundle.tN "UNASSIGNED_STACK" Bundle.steD)) && decide (w ≠ .isRef (.static Bundle.tN "SUPPRESSED_SENTINEL" Bundle.listD)) && decide (w ≠ .laysStatic Bundle.tN "UNASSIGNED_STACK" Bundle.steD) && decide (w ≠ .laysStatic Bundle.tN "SUPPRESSED_SENTINEL" Bundle.listD)
def vx_at0 (own : String) (ic : Nat) (X : String) (names : List String) : List Cond := (Bundle.ownAtoms0 own ic X names).filter vx_no
def vx_atS (own : String) (ic : Nat) (X : String) (names : List String) : List Cond := (Bundle.ownAtoms own ic X names).filter vx_no
/-- a word that the tables alone decide, or a good one -/
def vx_ot (w : Cond) : Bool := w.onTables || goodWord w
theorem vx_ot_at {args a' : Array Value} {s U : State} {w : Cond} (hW : s.WarmedH U.vm) (hvm : s.vm = U.vm) (hg : vx_ot w = true) (h : w.before args s = true) : w.before a' U = true := by
  simp only [vx_ot, Bool.or_eq_true] at hg
  rcases hg with hg | hg
  · exact va_tabs hg hvm h
  · exact word_at hW (good_of_word hg) h
/-- a list's words: the good ones out of the method's own list, the others by premises of their own -/
theorem vx_hat {args : Array Value} {s : State} {L B : List Cond} (h1 : ∀ w ∈ L.filter goodWord, w.before args s = true) (h2 : ∀ w ∈ L.filter (fun w => !goodWord w), w ∈ B) (h3 : ∀ w ∈ B, w.before args s = true) : ∀ w ∈ L, w.before args s = true := by
  intro w hw
  by_cases g : goodWord w = true
  · exact h1 w (List.mem_filter.mpr ⟨hw, g⟩)
  · refine h3 w (h2 w (List.mem_filter.mpr ⟨hw, ?_⟩))
    show (!goodWord w) = true
    cases hgw : goodWord w
    · rfl
    · exact absurd hgw g
theorem vx_c {args : Array Value} {s : State} {w : Cond} {B : List Cond} (h : w.before args s = true) (t : ∀ w ∈ B, w.before args s = true) : ∀ w' ∈ w :: B, w'.before args s = true := fun w' h' => (List.mem_cons.mp h').elim (fun e => by rw [e]; exact h) (t w')
theorem vx_n {args : Array Value} {s : State} : ∀ w ∈ ([] : List Cond), w.before args s = true := fun _ h => nomatch h
theorem vx_own {args : Array Value} {s : State} {L : List Cond} (h1 : ∀ w ∈ L.filter vx_no, w.before args s = true)
    (hU : (Cond.isRef (.static Bundle.tN "UNASSIGNED_STACK" Bundle.steD)).before args s = true) (hN : (Cond.isRef (.static Bundle.tN "SUPPRESSED_SENTINEL" Bundle.listD)).before args s = true)
    (lU : (Cond.laysStatic Bundle.tN "UNASSIGNED_STACK" Bundle.steD).before args s = true) (lN : (Cond.laysStatic Bundle.tN "SUPPRESSED_SENTINEL" Bundle.listD).before args s = true) : ∀ w ∈ L, w.before args s = true := by
  intro w hw
  by_cases e1 : w = .isRef (.static Bundle.tN "UNASSIGNED_STACK" Bundle.steD)
  · rw [e1]; exact hU
  · by_cases e2 : w = .isRef (.static Bundle.tN "SUPPRESSED_SENTINEL" Bundle.listD)
    · rw [e2]; exact hN
    · by_cases e3 : w = .laysStatic Bundle.tN "UNASSIGNED_STACK" Bundle.steD
      · rw [e3]; exact lU
      · by_cases e4 : w = .laysStatic Bundle.tN "SUPPRESSED_SENTINEL" Bundle.listD
        · rw [e4]; exact lN
        · exact h1 w (List.mem_filter.mpr ⟨hw, by unfold vx_no; rw [decide_eq_true e1, decide_eq_true e2, decide_eq_true e3, decide_eq_true e4]; rfl⟩)
/-- where a static field lies, its class's statics cell in H -/
def vx_L (C n d : String) (A : Nat → Prop) (U : State) (H : Heap) : Prop := ∃ (c : ClassId) (k : Class) (i : Nat) (f : Field) (a : Nat) (cell : Cell), U.vm.findClass C = some c ∧ U.fieldFound? C n d = some (c, k, i, f) ∧ f.isStatic = true ∧ k.statics = some a ∧ H[a]? = some cell ∧ cell.vm.isStatics = true ∧ cell.cls = c ∧ f.slot < cell.slots.size ∧ k.staticTypes[f.slot]? = some f.type ∧ ¬ A a
theorem vx_L.moved {C n d : String} {A : Nat → Prop} {u U : State} {H : Heap} (hvm : u.vm.Alike U.vm) (h : vx_L C n d A u H) : vx_L C n d A U H := by
  obtain ⟨c, k, i, f, a, cell, h1, h2, h3, h4, h5, h6, h7, h8, h9, h10⟩ := h
  obtain ⟨k', hi', he⟩ := State.fieldFound?_setVm hvm h2
  exact ⟨c, k', i, f, a, cell, by rw [hvm.findClass]; exact h1, hi', h3, by rw [he]; exact h4, h5, h6, h7, h8, by rw [he]; exact h9, h10⟩
theorem vx_L.kept {C n d : String} {A : Nat → Prop} {U : State} {H H1 : Heap} (h : vx_L C n d A U H) (hq : ∀ a : Nat, a < H.size → ¬ A a → H1[a]? = H[a]?) : vx_L C n d A U H1 := by
  obtain ⟨c, k, i, f, a, cell, h1, h2, h3, h4, h5, h6, h7, h8, h9, h10⟩ := h
  exact ⟨c, k, i, f, a, cell, h1, h2, h3, h4, by rw [hq a (Array.getElem?_eq_some_iff.mp h5).1 h10]; exact h5, h6, h7, h8, h9, h10⟩
theorem vx_L.narrow {C n d : String} {A B : Nat → Prop} {U : State} {H : Heap} (h : vx_L C n d A U H) (hAB : ∀ q, B q → A q) : vx_L C n d B U H := by
  obtain ⟨c, k, i, f, a, cell, h1, h2, h3, h4, h5, h6, h7, h8, h9, h10⟩ := h
  exact ⟨c, k, i, f, a, cell, h1, h2, h3, h4, h5, h6, h7, h8, h9, fun z => h10 (hAB _ z)⟩
theorem vx_L.word {C n d : String} {A : Nat → Prop} {s : State} {args : Array Value} (h : vx_L C n d A s s.heap) : (Cond.laysStatic C n d).before args s = true := by
  obtain ⟨c, k, i, f, a, cell, h1, h2, h3, h4, h5, h6, h7, h8, h9, -⟩ := h
  show (Cond.laysStatic C n d).holds args s none s [] = true
  exact Cond.laysStatic_of h1 h2 h3 h4 h5 h6 h7 h8 h9
/-- .. and what it holds: null or some reference -/
def vx_Zq (C n d : String) (A : Nat → Prop) (U : State) (H : Heap) : Prop := va_Zq C n d A U H ∧ vx_L C n d A U H
theorem vx_Zq.moved {C n d : String} {A : Nat → Prop} {u U : State} {H : Heap} (hvm : u.vm.Alike U.vm) (h : vx_Zq C n d A u H) : vx_Zq C n d A U H := ⟨va_Zq.moved hvm h.1, vx_L.moved hvm h.2⟩
theorem vx_Zq.kept {C n d : String} {A : Nat → Prop} {U : State} {H H1 : Heap} (h : vx_Zq C n d A U H) (hq : ∀ a : Nat, a < H.size → ¬ A a → H1[a]? = H[a]?) : vx_Zq C n d A U H1 := ⟨va_Zq.kept h.1 hq, vx_L.kept h.2 hq⟩
theorem vx_Zq.narrow {C n d : String} {A B : Nat → Prop} {U : State} {H : Heap} (h : vx_Zq C n d A U H) (hAB : ∀ q, B q → A q) : vx_Zq C n d B U H := ⟨va_Zq.narrow h.1 hAB, vx_L.narrow h.2 hAB⟩
theorem vx_Zqof {args : Array Value} {s : State} {C n d : String} {A : Nat → Prop} (hl : (Cond.laysStatic C n d).before args s = true) (hini : (Cond.initialized C).before args s = true) (h : (Cond.isRef (.static C n d)).before args s = true) (hA : ∀ a : Nat, a < s.heap.size → ¬ A a) : vx_Zq C n d A s s.heap := by
  refine ⟨va_Zqof hl hini h hA, ?_⟩
  obtain ⟨c, k, i, f, a, cell, h1, h2, h3, h4, h5, h6, h7, h8, h9⟩ := Cond.laysStatic_spec hl
  exact ⟨c, k, i, f, a, cell, h1, h2, h3, h4, h5, h6, h7, h8, h9, hA a (Array.getElem?_eq_some_iff.mp h5).1⟩
theorem vx_isRef {C n d : String} {v : Value} {A : Nat → Prop} {s : State} {args : Array Value} (h : va_Z C n d v A s s.heap) (hv : v.isRef = true) : (Cond.isRef (.static C n d)).before args s = true := by
  obtain ⟨cf, kf, fi, f, a, cell, h1, h2, h3, h4, h5, h6, h7, -⟩ := h
  have he : (Term.static C n d).eval args s none [] s = some v := by
    simp [Term.eval, State.fieldNamed?, h1, h2, h4, h5, h6, h7]
  simp only [Cond.before, Cond.holds, Cond.value, he]
  cases v <;> simp_all [Value.isRef]
theorem vx_isRefq {C n d : String} {A : Nat → Prop} {s : State} {args : Array Value} (h : va_Zq C n d A s s.heap) : (Cond.isRef (.static C n d)).before args s = true := by
  rcases h with h | ⟨t, h⟩
  · exact vx_isRef h rfl
  · exact vx_isRef h rfl
/-- the same frame, seen from here: as if the method were called anew in this heap -/
theorem vx_rebase {T : State} (X : Stand p l e R s m args below meth c T locs cells slots) {R' : Room} (hf : R'.frames ≤ R.frames) (hl : R'.locals ≤ R.locals) (hc : cells + R'.cells ≤ R.cells) (hs : slots + R'.slots ≤ R.slots) :
    Stand p l e R' ((T.setVm s.vm).setFrames (.invoking m args :: below)) m args below meth c T [] 0 0 := by
  have htop : (T.setVm s.vm).topJava?.isSome := X.here.top
  have hF : ((T.setVm s.vm).setFrames (.invoking m args :: below)).frames = .invoking m args :: below := State.frames_setFrames _ (State.cur_lt_of_top htop)
  obtain ⟨g₀, hg0⟩ := Option.isSome_iff_exists.mp htop
  obtain ⟨r, hr⟩ := State.topJava?_eq_some.mp hg0
  have hl9 : e.platform.stackLimits (T.setVm s.vm).me = e.platform.stackLimits s.me := X.limits
  have hb9 : (T.setVm s.vm).me.stackBytes = s.me.stackBytes := X.bytes
  refine ⟨X.admits, X.cas, X.clock, hF, ?_, X.hears, X.method, X.code, X.here, X.tail, X.warmed, ?_, ?_, ?_⟩
  · have h := X.room
    have hU : ((T.setVm s.vm).setFrames (.invoking m args :: below)).localsInUse = s.localsInUse := by
      rw [State.localsInUse_invoking hF (meth := meth) (c := c) X.method X.code, State.localsInUse_invoking X.frames X.method X.code]
    simp only [State.hasRoom, Bool.and_eq_true, decide_eq_true_eq] at h ⊢
    obtain ⟨⟨⟨⟨h1, h2, h3, h4, h5, h6⟩, h7⟩, h8⟩, h9⟩ := h
    rw [X.frames, List.length_cons] at h2 h3
    have q1 := X.heapSize
    have q2 := X.used
    simp only [hF, hU, List.length_cons, State.stackLimits_setFrames, State.stackBytes_setFrames, hl9, hb9]
    refine ⟨⟨⟨⟨by omega, by omega, by omega, by omega, by omega, h6⟩, ?_⟩, ?_⟩, X.book⟩
    · show T.heap.size + R'.cells ≤ e.platform.maxCells
      omega
    · show T.slotsUsed + R'.slots ≤ e.platform.maxSlots
      omega
  · rw [State.stackLimits_setFrames]; rfl
  · rw [State.stackBytes_setFrames]; rfl
  · refine ⟨?_, Nat.le_refl _, Nat.le_refl _, ?_, ?_, fun a c9 h9 => ⟨c9, h9, rfl, rfl, fun _ _ => rfl⟩⟩
    · obtain ⟨t, ht, -⟩ := State.frames_cons hr
      show T.setVm s.vm = { ((T.setVm s.vm).setFrames (.invoking m args :: below)).setFrames (T.setVm s.vm).frames with heap := T.heap, slotsUsed := T.slotsUsed }
      rw [State.setFrames_setFrames, State.setFrames_self ht]
      rfl
    · show T.slotsUsed = T.slotsUsed + ((T.heap.toList.drop T.heap.size).map (·.slots.size)).sum
      rw [List.drop_eq_nil_of_le (Nat.le_of_eq Array.length_toList)]
      rfl
    · show ((T.heap.toList.drop T.heap.size).map (·.slots.size)).sum ≤ 0
      rw [List.drop_eq_nil_of_le (Nat.le_of_eq Array.length_toList)]
      exact Nat.le_refl _
/-- 'throw new E()': new; dup; invokespecial; athrow -/
theorem vx_throw0 {cc : ByteArray} {pc : Nat} (hexec : p.tables.exec = Jvm.exec) (hb : c.code = cc) (hl : l.stackTraces = false) {own cls : String} {names : List String} {ik ic mc ms : Nat} {A : Nat → Prop}
    (hown : s.vm.findClass own = some m.cls) (hcls : Bundle.fit cls = true) (hnames : ∀ n ∈ names, Bundle.fit n = true)
    (hk : (Cond.classLink own ik cls).before args s = true) (hini : (Cond.initialized cls).before args s = true) (hat : ∀ w ∈ vx_at0 own ic cls names, w.before args s = true)
    (hgood : ∀ w ∈ Cond.classLink own ik cls :: Cond.initialized cls :: vx_at0 own ic cls names, vx_ot w = true)
    (hU : vx_Zq Bundle.tN "UNASSIGNED_STACK" Bundle.steD A s s.heap) (hN : vx_Zq Bundle.tN "SUPPRESSED_SENTINEL" Bundle.listD A s s.heap) (hS : va_S A s.heap H locs) (hsize : ls.size = c.maxLocals)
    (d0 : decode cc pc = .ok (.new ik, 3)) (d3 : decode cc (pc + 3) = .ok (.dup, 1)) (d4 : decode cc (pc + 4) = .ok (.invokespecial ic, 3)) (d7 : decode cc (pc + 7) = .ok (.athrow, 1))
    (hout : ∀ x ∈ c.exceptionTable.toList, covers x (pc + 7) = false)
    (hRframes : names.length + 3 < R.frames) (hRlocals : (rest.map fun v => v.category).sum + (13 * (names.length + 1) + 42) ≤ R.locals) (hRcells : cells + 1 ≤ R.cells) (hRslots : slots + 6 ≤ R.slots) (hlocks : meth.locks = false)
    (hx : ∀ t : State, s.vm.Alike t.vm → H.size ≤ t.heap.size → (∀ q : Nat, q < H.size → t.heap[q]? = H[q]?) → XC cls s t)
    (hf : ∀ z ∈ locs, free z.base) (hc : cells + 1 ≤ mc) (hs : slots + 6 ≤ ms) :
    W p l e R s m args below meth c H locs cells slots (vx_MQ below Qc XC args s mc ms free) (F0 m pc ls rest) := by
  intro T hT X
  have htr : e.platform.stackTraces = false := (show e.platform.stackTraces = l.stackTraces by rw [X.admits.platform]).trans hl
  have Y := vx_rebase X (R' := { frames := R.frames, locals := R.locals, cells := 1, slots := 6 }) (Nat.le_refl _) (Nat.le_refl _) hRcells hRslots
  obtain ⟨s', hA⟩ : ∃ z, z = (T.setVm s.vm).setFrames (.invoking m args :: below) := ⟨_, rfl⟩
  rw [← hA] at Y
  have hvm : s'.vm = s.vm := by rw [hA]; rfl
  have hhp : s'.heap = H := by rw [hA]; exact hT
  have hW0 : s.WarmedH s'.vm := by rw [hvm]; exact State.WarmedH.refl s
  have hat' : ∀ w ∈ vx_at0 own ic cls names, w.before args s' = true := fun w hw => vx_ot_at hW0 hvm.symm (hgood w (List.mem_cons_of_mem _ (List.mem_cons_of_mem _ hw))) (hat w hw)
  have hk' : (Cond.classLink own ik cls).before args s' = true := vx_ot_at hW0 hvm.symm (hgood _ List.mem_cons_self) hk
  have hini' : (Cond.initialized cls).before args s' = true := vx_ot_at hW0 hvm.symm (hgood _ (List.mem_cons_of_mem _ List.mem_cons_self)) hini
  have hU' : vx_Zq Bundle.tN "UNASSIGNED_STACK" Bundle.steD A s' s'.heap := by rw [hhp]; exact vx_Zq.moved hW0.alike (hU.kept hS.2.1)
  have hN' : vx_Zq Bundle.tN "SUPPRESSED_SENTINEL" Bundle.listD A s' s'.heap := by rw [hhp]; exact vx_Zq.moved hW0.alike (hN.kept hS.2.1)
  have h : ∀ w ∈ Bundle.ownAtoms0 own ic cls names, w.before args s' = true := vx_own hat' (vx_isRefq hU'.1) (vx_isRefq hN'.1) hU'.2.word hN'.2.word
  have hown' : s'.vm.findClass own = some m.cls := by rw [hvm]; exact hown
  have hins : (Cond.instantiable cls 6).before args s' = true := h _ (by simp [Bundle.ownAtoms0])
  obtain ⟨vm₁, cX, kX, hfX, hkX, -, -, X₁, st1⟩ := Y.newCold hexec (own := own) (C := cls) (index := ik) (n := 6) hown' hk' hins hini'
    (g := F0 m pc ls rest) rfl (by rw [hb]; exact d0) (Nat.le_refl _) (Nat.le_refl _)
  generalize hT1 : (T.setVm vm₁).pushCell { cls := cX, slots := kX.instanceTypes.map defaultValue, vm := .none } = T1 at X₁ st1
  have hcat : (Value.ref T.heap.size).category = 1 := rfl
  have hcellA : T1.heap[T.heap.size]? = some (freshCell cX kX) := by rw [← hT1]; exact State.heap_pushCell_size _ _
  have d3' : decode c.code (pc + 3) = .ok (.dup, 1) := by rw [hb]; exact d3
  obtain ⟨U, hsteps, hrun, hend, hW, hsame, ce, hce, hO⟩ := X₁.ctorThrow0 hexec htr (own := own) (cls := cls) (names := names) (ic := ic) hown' hcls hnames h (fun x hx => nomatch hx) hfX hkX hcellA (by rw [hhp, hT]; exact Nat.le_refl _)
    (g := { method := m, pc := pc + 4, locals := ls, stack := .ref T.heap.size :: .ref T.heap.size :: rest, locked := none }) rfl hsize rfl rfl (rest := rest) rfl
    (by rw [hb]; exact d4) (by rw [hb]; exact d7) hout hRframes (by simp only [List.map_cons, List.sum_cons, hcat]; omega) hlocks
  obtain ⟨f1, f2⟩ := vx_frame hsame
  rw [hhp] at f1 f2
  have hWs : s.WarmedH U.vm := State.WarmedH.trans hW0 hW
  have hcl : s.vm.findClass cls = some ce.cls := by
    have h9 := hO.cls
    rw [hvm] at h9
    exact h9
  have hall : s.sameButNew ({ U with vm := s.vm } : State) locs mc ms := by
    subst hA
    obtain ⟨e1, e2⟩ := hsame
    rw [State.setFrames_setFrames] at e1
    have h2 : (T.setVm s.vm).sameButNew ({ U with vm := s.vm } : State) [] (0 + 1) (0 + 6) := ⟨e1, e2⟩
    have h3 := X.same.trans h2
    rw [List.append_nil] at h3
    exact h3.mono hc hs
  refine ⟨U, ?_, .threw T.heap.size, hrun, hend, Or.inr ⟨T.heap.size, rfl, cls, ce, locs, hx U hWs.alike f1 (fun q hq => f2 q hq (fun z hz => nomatch hz)), hce, hO.vm, hcl, hWs, hall, hf⟩⟩
  refine st1 _ ?_
  show Steps p.tables e below (T1.setTop { method := m, pc := pc + 3, locals := ls, stack := .ref T.heap.size :: rest, locked := none }) _
  jvm_step X₁.here [X₁.here.top, hexec, d3', Value.category]
  exact hsteps
/-- 'throw new E("text")': new; dup; ldc; invokespecial; athrow -/
theorem vx_throwS {cc : ByteArray} {pc : Nat} (hexec : p.tables.exec = Jvm.exec) (hb : c.code = cc) (hl : l.stackTraces = false) {own cls text : String} {names : List String} {ik is ic mc ms sa : Nat} {A : Nat → Prop}
    (hown : s.vm.findClass own = some m.cls) (hcls : Bundle.fit cls = true) (hnames : ∀ n ∈ names, Bundle.fit n = true)
    (hk : (Cond.classLink own ik cls).before args s = true) (hini : (Cond.initialized cls).before args s = true) (hstr : vk_R own is text sa s) (hat : ∀ w ∈ vx_atS own ic cls names, w.before args s = true)
    (hgood : ∀ w ∈ Cond.classLink own ik cls :: Cond.initialized cls :: vx_atS own ic cls names, vx_ot w = true)
    (hU : vx_Zq Bundle.tN "UNASSIGNED_STACK" Bundle.steD A s s.heap) (hN : vx_Zq Bundle.tN "SUPPRESSED_SENTINEL" Bundle.listD A s s.heap) (hS : va_S A s.heap H locs) (hsize : ls.size = c.maxLocals)
    (d0 : decode cc pc = .ok (.new ik, 3)) (d3 : decode cc (pc + 3) = .ok (.dup, 1)) (d4 : decode cc (pc + 4) = .ok (.ldc is, 2)) (d6 : decode cc (pc + 6) = .ok (.invokespecial ic, 3)) (d9 : decode cc (pc + 9) = .ok (.athrow, 1))
    (hout : ∀ x ∈ c.exceptionTable.toList, covers x (pc + 9) = false)
    (hRframes : names.length + 3 < R.frames) (hRlocals : (rest.map fun v => v.category).sum + (13 * (names.length + 1) + 43) ≤ R.locals) (hRcells : cells + 1 ≤ R.cells) (hRslots : slots + 6 ≤ R.slots) (hlocks : meth.locks = false)
    (hx : ∀ t : State, s.vm.Alike t.vm → H.size ≤ t.heap.size → (∀ q : Nat, q < H.size → t.heap[q]? = H[q]?) → XC cls s t)
    (hf : ∀ z ∈ locs, free z.base) (hc : cells + 1 ≤ mc) (hs : slots + 6 ≤ ms) :
    W p l e R s m args below meth c H locs cells slots (vx_MQ below Qc XC args s mc ms free) (F0 m pc ls rest) := by
  intro T hT X
  have htr : e.platform.stackTraces = false := (show e.platform.stackTraces = l.stackTraces by rw [X.admits.platform]).trans hl
  have Y := vx_rebase X (R' := { frames := R.frames, locals := R.locals, cells := 1, slots := 6 }) (Nat.le_refl _) (Nat.le_refl _) hRcells hRslots
  obtain ⟨s', hA⟩ : ∃ z, z = (T.setVm s.vm).setFrames (.invoking m args :: below) := ⟨_, rfl⟩
  rw [← hA] at Y
  have hvm : s'.vm = s.vm := by rw [hA]; rfl
  have hhp : s'.heap = H := by rw [hA]; exact hT
  have hW0 : s.WarmedH s'.vm := by rw [hvm]; exact State.WarmedH.refl s
  have hat' : ∀ w ∈ vx_atS own ic cls names, w.before args s' = true := fun w hw => vx_ot_at hW0 hvm.symm (hgood w (List.mem_cons_of_mem _ (List.mem_cons_of_mem _ hw))) (hat w hw)
  have hk' : (Cond.classLink own ik cls).before args s' = true := vx_ot_at hW0 hvm.symm (hgood _ List.mem_cons_self) hk
  have hini' : (Cond.initialized cls).before args s' = true := vx_ot_at hW0 hvm.symm (hgood _ (List.mem_cons_of_mem _ List.mem_cons_self)) hini
  have hU' : vx_Zq Bundle.tN "UNASSIGNED_STACK" Bundle.steD A s' s'.heap := by rw [hhp]; exact vx_Zq.moved hW0.alike (hU.kept hS.2.1)
  have hN' : vx_Zq Bundle.tN "SUPPRESSED_SENTINEL" Bundle.listD A s' s'.heap := by rw [hhp]; exact vx_Zq.moved hW0.alike (hN.kept hS.2.1)
  have h : ∀ w ∈ Bundle.ownAtoms own ic cls names, w.before args s' = true := vx_own hat' (vx_isRefq hU'.1) (vx_isRefq hN'.1) hU'.2.word hN'.2.word
  have hown' : s'.vm.findClass own = some m.cls := by rw [hvm]; exact hown
  have hins : (Cond.instantiable cls 6).before args s' = true := h _ (by simp [Bundle.ownAtoms])
  obtain ⟨vm₁, cX, kX, hfX, hkX, -, -, X₁, st1⟩ := Y.newCold hexec (own := own) (C := cls) (index := ik) (n := 6) hown' hk' hins hini'
    (g := F0 m pc ls rest) rfl (by rw [hb]; exact d0) (Nat.le_refl _) (Nat.le_refl _)
  generalize hT1 : (T.setVm vm₁).pushCell { cls := cX, slots := kX.instanceTypes.map defaultValue, vm := .none } = T1 at X₁ st1
  have hcat : (Value.ref T.heap.size).category = 1 := rfl
  have hcellA : T1.heap[T.heap.size]? = some (freshCell cX kX) := by rw [← hT1]; exact State.heap_pushCell_size _ _
  have d3' : decode c.code (pc + 3) = .ok (.dup, 1) := by rw [hb]; exact d3
  have d4' : decode c.code (pc + 4) = .ok (.ldc is, 2) := by rw [hb]; exact d4
  have hstr' : vk_R own is text sa s' := vk_R.warm hW0 hstr
  obtain ⟨U, hsteps, hrun, hend, hW, hsame, ce, hce, hO⟩ := X₁.ctorThrowS hexec htr (own := own) (cls := cls) (names := names) (ic := ic) hown' hcls hnames h (fun x hx => nomatch hx) hfX hkX hcellA (by rw [hhp, hT]; exact Nat.le_refl _) (msg := .ref sa) rfl
    (g := { method := m, pc := pc + 6, locals := ls, stack := .ref sa :: .ref T.heap.size :: .ref T.heap.size :: rest, locked := none }) rfl hsize rfl rfl (rest := rest) rfl
    (by rw [hb]; exact d6) (by rw [hb]; exact d9) hout hRframes (by simp only [List.map_cons, List.sum_cons, hcat]; omega) hlocks
  obtain ⟨f1, f2⟩ := vx_frame hsame
  rw [hhp] at f1 f2
  have hWs : s.WarmedH U.vm := State.WarmedH.trans hW0 hW
  have hcl : s.vm.findClass cls = some ce.cls := by
    have h9 := hO.cls
    rw [hvm] at h9
    exact h9
  have hall : s.sameButNew ({ U with vm := s.vm } : State) locs mc ms := by
    subst hA
    obtain ⟨e1, e2⟩ := hsame
    rw [State.setFrames_setFrames] at e1
    have h2 : (T.setVm s.vm).sameButNew ({ U with vm := s.vm } : State) [] (0 + 1) (0 + 6) := ⟨e1, e2⟩
    have h3 := X.same.trans h2
    rw [List.append_nil] at h3
    exact h3.mono hc hs
  refine ⟨U, ?_, .threw T.heap.size, hrun, hend, Or.inr ⟨T.heap.size, rfl, cls, ce, locs, hx U hWs.alike f1 (fun q hq => f2 q hq (fun z hz => nomatch hz)), hce, hO.vm, hcl, hWs, hall, hf⟩⟩
  refine st1 _ ?_
  show Steps p.tables e below (T1.setTop { method := m, pc := pc + 3, locals := ls, stack := .ref T.heap.size :: rest, locked := none }) _
  jvm_step X₁.here [X₁.here.top, hexec, d3', Value.category]
  exact X₁.ldcString hexec (own := own) (text := text) (index := is) (a := sa) hown' hstr'.1 hstr'.2
    (g := { method := m, pc := pc + 4, locals := ls, stack := .ref T.heap.size :: .ref T.heap.size :: rest, locked := none }) rfl d4' _ hsteps
/-- 'throw new E("text")', the text by a wide index -/
theorem vx_throwSW {cc : ByteArray} {pc : Nat} (hexec : p.tables.exec = Jvm.exec) (hb : c.code = cc) (hl : l.stackTraces = false) {own cls text : String} {names : List String} {ik is ic mc ms sa : Nat} {A : Nat → Prop}
    (hown : s.vm.findClass own = some m.cls) (hcls : Bundle.fit cls = true) (hnames : ∀ n ∈ names, Bundle.fit n = true)
    (hk : (Cond.classLink own ik cls).before args s = true) (hini : (Cond.initialized cls).before args s = true) (hstr : vk_R own is text sa s) (hat : ∀ w ∈ vx_atS own ic cls names, w.before args s = true)
    (hgood : ∀ w ∈ Cond.classLink own ik cls :: Cond.initialized cls :: vx_atS own ic cls names, vx_ot w = true)
    (hU : vx_Zq Bundle.tN "UNASSIGNED_STACK" Bundle.steD A s s.heap) (hN : vx_Zq Bundle.tN "SUPPRESSED_SENTINEL" Bundle.listD A s s.heap) (hS : va_S A s.heap H locs) (hsize : ls.size = c.maxLocals)
    (d0 : decode cc pc = .ok (.new ik, 3)) (d3 : decode cc (pc + 3) = .ok (.dup, 1)) (d4 : decode cc (pc + 4) = .ok (.ldc_w is, 3)) (d7 : decode cc (pc + 7) = .ok (.invokespecial ic, 3)) (d10 : decode cc (pc + 10) = .ok (.athrow, 1))
    (hout : ∀ x ∈ c.exceptionTable.toList, covers x (pc + 10) = false)
    (hRframes : names.length + 3 < R.frames) (hRlocals : (rest.map fun v => v.category).sum + (13 * (names.length + 1) + 43) ≤ R.locals) (hRcells : cells + 1 ≤ R.cells) (hRslots : slots + 6 ≤ R.slots) (hlocks : meth.locks = false)
    (hx : ∀ t : State, s.vm.Alike t.vm → H.size ≤ t.heap.size → (∀ q : Nat, q < H.size → t.heap[q]? = H[q]?) → XC cls s t)
    (hf : ∀ z ∈ locs, free z.base) (hc : cells + 1 ≤ mc) (hs : slots + 6 ≤ ms) :
    W p l e R s m args below meth c H locs cells slots (vx_MQ below Qc XC args s mc ms free) (F0 m pc ls rest) := by
  intro T hT X
  have htr : e.platform.stackTraces = false := (show e.platform.stackTraces = l.stackTraces by rw [X.admits.platform]).trans hl
  have Y := vx_rebase X (R' := { frames := R.frames, locals := R.locals, cells := 1, slots := 6 }) (Nat.le_refl _) (Nat.le_refl _) hRcells hRslots
  obtain ⟨s', hA⟩ : ∃ z, z = (T.setVm s.vm).setFrames (.invoking m args :: below) := ⟨_, rfl⟩
  rw [← hA] at Y
  have hvm : s'.vm = s.vm := by rw [hA]; rfl
  have hhp : s'.heap = H := by rw [hA]; exact hT
  have hW0 : s.WarmedH s'.vm := by rw [hvm]; exact State.WarmedH.refl s
  have hat' : ∀ w ∈ vx_atS own ic cls names, w.before args s' = true := fun w hw => vx_ot_at hW0 hvm.symm (hgood w (List.mem_cons_of_mem _ (List.mem_cons_of_mem _ hw))) (hat w hw)
  have hk' : (Cond.classLink own ik cls).before args s' = true := vx_ot_at hW0 hvm.symm (hgood _ List.mem_cons_self) hk
  have hini' : (Cond.initialized cls).before args s' = true := vx_ot_at hW0 hvm.symm (hgood _ (List.mem_cons_of_mem _ List.mem_cons_self)) hini
  have hU' : vx_Zq Bundle.tN "UNASSIGNED_STACK" Bundle.steD A s' s'.heap := by rw [hhp]; exact vx_Zq.moved hW0.alike (hU.kept hS.2.1)
  have hN' : vx_Zq Bundle.tN "SUPPRESSED_SENTINEL" Bundle.listD A s' s'.heap := by rw [hhp]; exact vx_Zq.moved hW0.alike (hN.kept hS.2.1)
  have h : ∀ w ∈ Bundle.ownAtoms own ic cls names, w.before args s' = true := vx_own hat' (vx_isRefq hU'.1) (vx_isRefq hN'.1) hU'.2.word hN'.2.word
  have hown' : s'.vm.findClass own = some m.cls := by rw [hvm]; exact hown
  have hins : (Cond.instantiable cls 6).before args s' = true := h _ (by simp [Bundle.ownAtoms])
  obtain ⟨vm₁, cX, kX, hfX, hkX, -, -, X₁, st1⟩ := Y.newCold hexec (own := own) (C := cls) (index := ik) (n := 6) hown' hk' hins hini'
    (g := F0 m pc ls rest) rfl (by rw [hb]; exact d0) (Nat.le_refl _) (Nat.le_refl _)
  generalize hT1 : (T.setVm vm₁).pushCell { cls := cX, slots := kX.instanceTypes.map defaultValue, vm := .none } = T1 at X₁ st1
  have hcat : (Value.ref T.heap.size).category = 1 := rfl
  have hcellA : T1.heap[T.heap.size]? = some (freshCell cX kX) := by rw [← hT1]; exact State.heap_pushCell_size _ _
  have d3' : decode c.code (pc + 3) = .ok (.dup, 1) := by rw [hb]; exact d3
  have d4' : decode c.code (pc + 4) = .ok (.ldc_w is, 3) := by rw [hb]; exact d4
  have hstr' : vk_R own is text sa s' := vk_R.warm hW0 hstr
  obtain ⟨U, hsteps, hrun, hend, hW, hsame, ce, hce, hO⟩ := X₁.ctorThrowS hexec htr (own := own) (cls := cls) (names := names) (ic := ic) hown' hcls hnames h (fun x hx => nomatch hx) hfX hkX hcellA (by rw [hhp, hT]; exact Nat.le_refl _) (msg := .ref sa) rfl
    (g := { method := m, pc := pc + 7, locals := ls, stack := .ref sa :: .ref T.heap.size :: .ref T.heap.size :: rest, locked := none }) rfl hsize rfl rfl (rest := rest) rfl
    (by rw [hb]; exact d7) (by rw [hb]; exact d10) hout hRframes (by simp only [List.map_cons, List.sum_cons, hcat]; omega) hlocks
  obtain ⟨f1, f2⟩ := vx_frame hsame
  rw [hhp] at f1 f2
  have hWs : s.WarmedH U.vm := State.WarmedH.trans hW0 hW
  have hcl : s.vm.findClass cls = some ce.cls := by
    have h9 := hO.cls
    rw [hvm] at h9
    exact h9
  have hall : s.sameButNew ({ U with vm := s.vm } : State) locs mc ms := by
    subst hA
    obtain ⟨e1, e2⟩ := hsame
    rw [State.setFrames_setFrames] at e1
    have h2 : (T.setVm s.vm).sameButNew ({ U with vm := s.vm } : State) [] (0 + 1) (0 + 6) := ⟨e1, e2⟩
    have h3 := X.same.trans h2
    rw [List.append_nil] at h3
    exact h3.mono hc hs
  refine ⟨U, ?_, .threw T.heap.size, hrun, hend, Or.inr ⟨T.heap.size, rfl, cls, ce, locs, hx U hWs.alike f1 (fun q hq => f2 q hq (fun z hz => nomatch hz)), hce, hO.vm, hcl, hWs, hall, hf⟩⟩
  refine st1 _ ?_
  show Steps p.tables e below (T1.setTop { method := m, pc := pc + 3, locals := ls, stack := .ref T.heap.size :: rest, locked := none }) _
  jvm_step X₁.here [X₁.here.top, hexec, d3', Value.category]
  exact X₁.ldcStringW hexec (own := own) (text := text) (index := is) (a := sa) hown' hstr'.1 hstr'.2
    (g := { method := m, pc := pc + 4, locals := ls, stack := .ref T.heap.size :: .ref T.heap.size :: rest, locked := none }) rfl d4' _ hsteps
end Ends
section Bodies
variable {l : Launch}
theorem vx_ofW {y : MethodName} {ws ws' : List Cond} {rm : Room} {Pc : Array Value → State → Prop} {Qc : Array Value → State → Outcome → State → Prop} {XC : String → State → State → Prop} {mc ms : Nat} {free : Addr → Prop} {cc : ByteArray} {maxL : Nat} {ret : Option FieldType}
    (hy : plainName y.cls = true) (hw : ws = Cond.code y cc maxL ret :: ws')
    (body : ∀ p e s m args below meth c s₁, BodyLoose p l y (headSpec ws rm) cc maxL ret e s m args below meth c s₁ → c.maxLocals = maxL → (∀ x ∈ c.exceptionTable.toList, False) → Pc args s →
      W p l e (headSpec ws rm).room s m args below meth c s.heap [] 0 0 (vx_MQ below Qc XC args s mc ms free) (entryFrame m args maxL)) : vx_Met l y ws rm Pc Qc XC mc ms free := by
  refine MetFree.of_bodyS (code := cc) (maxLocals := maxL) (ret := ret) hy ?_ ?_
  · intro args s m h hn
    obtain ⟨meth, c, h1, h2, h3, h4, h5, h6, -, -⟩ := Cond.code_spec hn (atoms_spec (ws := ws) h _ (by rw [hw]; exact List.mem_cons_self))
    exact ⟨meth, c, h1, h2, h3, h4, h5, h6⟩
  · intro p e s m args below meth c s₁ B hml hP _
    have hh0 : s₁.heap = s.heap := by rw [B.state]; rfl
    have ht : ∀ x ∈ c.exceptionTable.toList, False := by
      obtain ⟨meth9, c9, h1, h2, -, -, -, -, h7, -⟩ := Cond.code_spec B.named (atoms_spec (ws := ws) B.pre _ (by rw [hw]; exact List.mem_cons_self))
      cases Option.some.inj (h1.symm.trans B.method)
      cases Option.some.inj (h2.symm.trans (Stand.of_body B).code)
      intro x hx
      rw [Array.isEmpty_iff.mp h7] at hx
      cases hx
    obtain ⟨t, a1, o, b1, b2, b3⟩ := body p e s m args below meth c s₁ B hml ht hP s₁ hh0 (Stand.of_body B)
    exact ⟨t, o, a1, b1, b2, b3⟩
/-- the table of a body with handlers -/
theorem vx_table {p : Program} {x y : MethodName} {S : Spec} {cc bytes : ByteArray} {maxL maxL' : Nat} {ret ret' : Option FieldType} {e : Env} {s s₁ : State} {m : MethodId} {args : Array Value} {below : List Frame} {meth : Method} {c : Code} {hh : List (Nat × Nat × Nat × Nat)}
    (B : BodyLoose p l y S cc maxL ret e s m args below meth c s₁) (h : (Cond.codeWith y bytes maxL' ret' hh).before args s = true) : c.exceptionTable.toList = tableOf hh := by
  obtain ⟨m9, meth9, c9, hn9, h1, h2, -, -, h6, -⟩ := Cond.codeWith_spec h
  cases Option.some.inj (hn9.symm.trans B.named)
  cases Option.some.inj (h1.symm.trans B.method)
  cases Option.some.inj (h2.symm.trans (Stand.of_body B).code)
  rw [← h6, table_eq]
end Bodies
end VXA
/-! ===== END ===== -/
/-! ===== BEGIN a static call of a method with an exception table ===== -/
section VXS
variable {p : Program} {l : Launch} {e : Env} {R : Room} {s : State} {m : MethodId} {args : Array Value} {below : List Frame} {meth : Method} {c : Code} {T : State} {H : Heap} {locs : List Loc} {cells slots : Nat}
abbrev vx_CSW (R : Room) (s : State) (args : Array Value) (own : String) (index : Nat) (y : MethodName) (bytes : ByteArray) (maxL : Nat) (ret : Option FieldType) (hh : List (Nat × Nat × Nat × Nat)) (ws : List Cond) (rm : Room) (mc ms n : Nat) : Prop :=
  (rm.cells = mc ∧ rm.slots = ms ∧ rm.frames + 1 ≤ R.frames ∧ 8 + (maxL + 11) + rm.locals ≤ R.locals ∧ (∀ w ∈ ws, ∀ (a' : Array Value) (U : State), s.WarmedH U.vm → w.before a' U = true) ∧ Cond.codeWith y bytes maxL ret hh ∈ ws) ∧
  (Cond.codeWith y bytes maxL ret hh).before args s = true ∧ (Cond.initialized y.cls).before args s = true ∧ (y.cls ≠ "java/lang/invoke/MethodHandle" ∧ y.cls ≠ "java/lang/invoke/VarHandle") ∧
  (∀ sig, parseMethodDescriptor y.desc = some sig → n = sig.parameters.length) ∧ (Cond.methodLink own index y).before args s = true ∧ (Cond.static y).before args s = true
theorem vx_cwSW {own : String} {index maxL mc ms : Nat} {y : MethodName} {bytes : ByteArray} {ret : Option FieldType} {hh : List (Nat × Nat × Nat × Nat)} {Ts ws ws' : List Cond} {rm : Room} (n : Nat) (ht : ∀ w ∈ Ts, w.before args s = true) (hT : GoodIn Ts (va_wsS own index y ws)) (hw : ws = Cond.codeWith y bytes maxL ret hh :: ws') (hrc : rm.cells = mc) (hrs : rm.slots = ms)
    (hd : y.cls ≠ "java/lang/invoke/MethodHandle" ∧ y.cls ≠ "java/lang/invoke/VarHandle" ∧ (parseMethodDescriptor y.desc).map (fun d => d.parameters.length) = some n) (hR : rm.frames + 1 ≤ R.frames ∧ 8 + (maxL + 11) + rm.locals ≤ R.locals) :
    vx_CSW R s args own index y bytes maxL ret hh ws rm mc ms n := by
  have ok : ∀ w ∈ va_wsS own index y ws, w.before args s = true := fun w h => ht w (hT w h).1
  have hG : GoodIn Ts ws := fun w h => hT w (by unfold va_wsS; exact List.mem_append_right _ h)
  have hc : Cond.codeWith y bytes maxL ret hh ∈ ws := by rw [hw]; exact List.mem_cons_self
  refine ⟨⟨hrc, hrs, hR.1, hR.2, pay_in ht hG, hc⟩, ht _ (hG _ hc).1, ok _ (by simp [va_wsS]), ⟨hd.1, hd.2.1⟩, fun sig h => ?_, ok _ (by simp [va_wsS]), ok _ (by simp [va_wsS])⟩
  have h2 := hd.2.2
  rw [h] at h2
  exact (Option.some.inj h2).symm
theorem vx_callSW (X : Stand p l e R s m args below meth c T locs cells slots) (hexec : p.tables.exec = Jvm.exec) {own : String} {index : Nat} {y : MethodName} {bytes : ByteArray} {maxL : Nat} {ret : Option FieldType} {hh : List (Nat × Nat × Nat × Nat)}
    (hown : s.vm.findClass own = some m.cls) (hlink : (Cond.methodLink own index y).before args s = true) (hstat : (Cond.static y).before args s = true) (hinit : (Cond.initialized y.cls).before args s = true)
    (hcode : (Cond.codeWith y bytes maxL ret hh).before args s = true) (hy : y.cls ≠ "java/lang/invoke/MethodHandle" ∧ y.cls ≠ "java/lang/invoke/VarHandle")
    {W9 : Nat} {Pre : Pt → Array Value → Prop} {Post : Pt → Array Value → Option Value → Pt → Prop} (hK : Back l R p e below s args y 3 W9 Pre Post)
    {g : JFrame} (hg : g.method = m) (hsize : g.locals.size = c.maxLocals) {argsL rest : List Value} (hlen : ∀ sig, parseMethodDescriptor y.desc = some sig → argsL.length = sig.parameters.length)
    (hstack : g.stack = argsL.reverse ++ rest) (hW : 2 * g.monitorRoom + (rest.map fun v => v.category).sum ≤ W9) (hdg : decode c.code g.pc = .ok (.invokestatic index, 3))
    (hpre : ∀ vm₁, s.WarmedH vm₁ → Pre ⟨T.setVm vm₁, locs, cells, slots⟩ argsL.toArray) :
    ∃ (v : Option Value) (vm₁ : Vm) (B : Pt), s.WarmedH vm₁ ∧ Stand p l e R s m args below meth c B.U B.locs B.cells B.slots ∧ Post ⟨T.setVm vm₁, locs, cells, slots⟩ argsL.toArray v B ∧
      ∀ target, Steps p.tables e below (B.U.setTop { g with pc := g.pc + 3, stack := v.toList ++ rest }) target → Steps p.tables e below (T.setTop g) target := by
  obtain ⟨mk, methM, cM, hnamed, hmethM, -, -, -, -, -, -, hsigM⟩ := Cond.codeWith_spec hcode
  have hstatic : methM.isStatic = true := Cond.static_spec hnamed hmethM hstat
  obtain ⟨kP, hkP, -⟩ := className_of_methodNamed hnamed
  have hinitP : kP.init = .initialized := Cond.initialized_spec (findClass_of_methodNamed hnamed) hkP hinit
  obtain ⟨vm₁, X₁, hstep₁⟩ := X.invokestatic hexec hown hlink hnamed hmethM hstatic hkP hinitP hy (g := g) hg (argsL := argsL) (rest := rest) (hlen _ hsigM) hstack hdg
  obtain ⟨v, B, X', hpost, hsteps⟩ := hK m meth c ⟨T.setVm vm₁, locs, cells, slots⟩ { g with stack := rest } (.invokestatic index) mk argsL.toArray X₁ hg hsize hdg hW (X₁.named hnamed) (hpre vm₁ X₁.warmed)
  exact ⟨v, vm₁, B, X₁.warmed, X', hpost, fun target h => hstep₁ _ fun acts => by rw [doInvoke_state]; exact hsteps.trans h⟩
theorem vx_runSW {y : MethodName} {bytes cc : ByteArray} {maxL nL mc ms n index : Nat} {ret : Option FieldType} {hh : List (Nat × Nat × Nat × Nat)} {ws : List Cond} {rm : Room} {Pc : Array Value → State → Prop} {Qc : Array Value → State → Outcome → State → Prop} {free : Addr → Prop} {Ts : List Cond} {own : String} {As rest : List Value} {g : JFrame}
    (S : CallFix p m c cc nL s args Ts own) (hM : Met l y ws rm Pc Qc mc ms free) (cw : vx_CSW R s args own index y bytes maxL ret hh ws rm mc ms n) (hp : PreS s H Pc As)
    (hg : g.method = m) (hn : As.length = n) (hsize : g.locals.size = nL) (hstack : g.stack = As.reverse ++ rest) (hW : 2 * g.monitorRoom + (rest.map fun v => v.category).sum ≤ 8) (hdg : decode cc g.pc = .ok (.invokestatic index, 3)) (hf : cells + mc ≤ R.cells ∧ slots + ms ≤ R.slots) :
    va_Run p l e R s m args below meth c H locs cells slots mc ms g rest (Qc As.toArray) (free) := by
  obtain ⟨⟨hrc, hrs, hfr, hlo, hws, hcw⟩, hcode, hini, hy, hlen, hl, hstt⟩ := cw
  have hK : Back l R p e below s args y 3 8 (PreOf R mc ms Pc) (PostOf Qc mc ms free) := va_backW (hh := hh) (bytes := bytes) (maxL := maxL) (ret := ret) hM hp.1 hrc hrs hfr hlo hws hcw (fun a' U hW => word_at hW (Or.inl (by first | rfl | simp [Cond.onTables, Cond.keeps, Cond.steady])) hini)
  obtain ⟨hx, hb, hml, ho, -⟩ := S
  intro T hT X
  obtain ⟨v, vm₁, ⟨U', l2, c2, s2⟩, hW₁, X', ⟨g', mk, t, L, e1, e2, hq, h1, hL, h2, h3⟩, st⟩ := vx_callSW X hx (hh := hh) (bytes := bytes) (maxL := maxL) (ret := ret) ho hl hstt hini hcode hy hK hg (hsize.trans hml.symm) (argsL := As) (rest := rest) (fun sig h => hn.trans (hlen sig h)) hstack hW (by rw [hb]; exact hdg)
    (fun vm₁ hW₁ => ⟨hf.1, hf.2, hp.2 (T.setVm vm₁) hT hW₁⟩)
  dsimp only [Pt.U, Pt.locs, Pt.cells, Pt.slots] at X' e1 e2 h1 h2 h3 st
  subst h1; subst h2; subst h3
  exact ⟨v, (T.setVm vm₁).calling g' mk As.toArray, t, U', L, hT, X', hL, e1, e2, hq, st⟩
/-- not caught here, past rows that name other classes: it goes on to the caller -/
theorem vx_outP {p : Program} {l : Launch} {e : Env} {R : Room} {s : State} {m : MethodId} {args : Array Value} {below : List Frame} {meth : Method} {c : Code} {H : Heap} {locs : List Loc} {cells slots : Nat} {free : Addr → Prop} {ls : Array Slot} {rest : List Value} {Qc : Array Value → State → Outcome → State → Prop} {XC : String → State → State → Prop}
    {pc : Nat} {own E : String} {ce : Cell} {q : Addr} {mc ms : Nat} (hown : s.vm.findClass own = some m.cls) (hlocks : meth.locks = false)
    (hpass : ∀ z ∈ c.exceptionTable.toList, covers z pc = false ∨ (z.catchType ≠ 0 ∧ ∃ nm : String, (Cond.classLink own z.catchType nm).before args s = true ∧ va_Nc E nm s)) (hcell : H[q]? = some ce) (hv : ce.vm = .none) (hcl : s.vm.findClass E = some ce.cls)
    (hx : ∀ t : State, t.heap = H → s.vm.Alike t.vm → XC E s t) (hf : ∀ z ∈ locs, free z.base) (hc : cells ≤ mc) (hs : slots ≤ ms) :
    vx_W p l e R s m args below meth c H locs cells slots (vx_MQ below Qc XC args s mc ms free) (F0 m pc ls rest) q := by
  intro T hT X
  have hpl : e.platform.magicAccessors = ({} : Platform).magicAccessors := by rw [X.admits.platform]
  obtain ⟨vm', hW', X', st⟩ := X.outThrough hlocks q (g := F0 m pc ls rest) rfl rfl rfl (cell := ce) (by rw [hT]; exact hcell) (by rw [hv]; rfl)
    (by obtain ⟨k9, h9, -⟩ := Vm.findClass_spec hcl; exact ⟨k9, h9⟩) (fun z hz => by
      rcases hpass z hz with h | ⟨hz0, nm, hl1, hn1⟩
      · exact Or.inl h
      · obtain ⟨c6, hc6, hcl6⟩ := Cond.classLink_spec hown hl1 e.platform hpl
        obtain ⟨a8, b8, h1, h2, h3⟩ := hn1
        cases Option.some.inj (h1.symm.trans hcl)
        cases Option.some.inj (h2.symm.trans hc6)
        exact Or.inr ⟨hz0, _, hcl6, h3⟩)
  obtain ⟨g₀, hfr⟩ := X'.frames_eq
  have hcell9 : ((T.setVm vm').setFrames (.throwing q :: below)).heap[q]? = some ce := by
    show T.heap[q]? = some ce
    rw [hT]; exact hcell
  have hend : Ended ((T.setVm vm').setFrames (.throwing q :: below)) below (.threw q) := State.frames_setFrames _ (State.cur_lt_of_frames hfr)
  refine ⟨(T.setVm vm').setFrames (.throwing q :: below), ?_, .threw q, X'.here.running, hend, Or.inr ⟨q, rfl, E, ce, locs, hx _ hT (X'.ends _).1.alike, hcell9, hv, hcl, (X'.ends _).1, (X'.ends _).2.mono hc hs, hf⟩⟩
  rw [X.pushThrowing_eq]
  exact st
/-- a thing of a world lies in the heap -/
theorem vx_lt {D : va_G} {cl : List vw_C} {ws : va_W} {H1 : Heap} (h : va_P D cl ws H1) {k : Nat} {q : Nat × va_E} (hk : ws[k]? = some q) : q.1 < H1.size := (h k q hk).lt
end VXS
/-! ===== END ===== -/
/-! ===== BEGIN methods with a table of their own: called by a name, returning or throwing ===== -/
section VXH
/-! vx_backW, vx_callVX, vx_callSX, vx_callVW, vx_runVW, vx_runVX, vx_runSX, vx_ofWH follow the same proofs as their sisters above (Free/Laws.lean, Shelf42/LK1.lean); vx_outP calls Shelf42/NT130.lean (outThrough). -/
section
variable {l : Launch} {R : Room} {p : Program} {e : Env} {below : List Frame} {s : State} {sargs : Array Value} {y : MethodName} {len W9 : Nat}
theorem vx_backW {ws : List Cond} {rm : Room} {Pc : Array Value → State → Prop} {Qc : Array Value → State → Outcome → State → Prop} {XC : String → State → State → Prop} {mc ms : Nat} {free : Addr → Prop} {bytes : ByteArray} {maxL : Nat} {ret : Option FieldType} {hh : List (Nat × Nat × Nat × Nat)}
    (hM : vx_Met l y ws rm Pc Qc XC mc ms free) (hblind : FrameBlind Pc) (hrc : rm.cells = mc) (hrs : rm.slots = ms)
    (hframes : rm.frames + 1 ≤ R.frames) (hlocals : W9 + (maxL + 11) + rm.locals ≤ R.locals)
    (hws : ∀ w ∈ ws, ∀ a' U, s.WarmedH U.vm → w.before a' U = true) (hcode : Cond.codeWith y bytes maxL ret hh ∈ ws) (hinit : ∀ a' U, s.WarmedH U.vm → (Cond.initialized y.cls).before a' U = true) :
    vx_Back l R p e below s sargs y len W9 (PreOf R mc ms Pc) (PostOf Qc mc ms free) (vx_Post XC mc ms free) := by
  intro m meth c A g ig mk a X hg hsize hdg hW hn hp
  have h1 : (headSpec ws rm).pre.before a A.U = true := atoms_intro fun w hw => hws w hw _ _ X.warmed
  have h2 : (Cond.codeWith y bytes maxL ret hh).before a A.U = true := hws _ hcode _ _ X.warmed
  have h3 : (Cond.initialized y.cls).before a A.U = true := hinit _ _ X.warmed
  have h4 : A.cells + (headSpec ws rm).room.cells ≤ R.cells := by rw [show (headSpec ws rm).room.cells = mc from hrc]; exact hp.1
  have h5 : A.slots + (headSpec ws rm).room.slots ≤ R.slots := by rw [show (headSpec ws rm).room.slots = ms from hrs]; exact hp.2.1
  have hPc : Pc a (A.U.calling g mk a) := hblind _ _ _ _ hp.2.2
  obtain ⟨U, Ls, c0, s0⟩ := A
  dsimp only [Pt.U, Pt.locs, Pt.cells, Pt.slots] at h1 h2 h3 h4 h5 X hn hPc ⊢
  obtain ⟨m9, methY, cY, hn9, hmY, hcY, -, hlY, -⟩ := Cond.codeWith_spec h2
  cases Option.some.inj (hn9.symm.trans hn)
  obtain ⟨kY, hkY, -⟩ := className_of_methodNamed hn
  have hinitY : kY.init = .initialized := Cond.initialized_spec (findClass_of_methodNamed hn) hkY h3
  have h : At U g.method c below := by rw [hg]; exact X.here
  have hlocals9 : W9 + (maxL + 11) + (headSpec ws rm).room.locals ≤ R.locals := hlocals
  have happ : (headSpec ws rm).appliesLoose y e.platform (U.calling g mk a) = true :=
    Spec.appliesLoose_calling (g := g) h hdg hn hkY hinitY
      (X.room_calling (g := g) (R' := (headSpec ws rm).room) hsize hmY hcY hframes (by rw [hlY]; omega) h4 h5) h1
  obtain ⟨mid, hmid⟩ := h.above
  have hfr : (U.setTop g).frames = (.java g :: mid) ++ below := by rw [State.frames_setTop' g h.top, hmid]; rfl
  obtain ⟨o, s₂, hsteps, -, hend, hq⟩ := Steps.callFree hM p X.admits X.cas X.clock (acts := []) hfr happ hPc trivial
  have hq' : vx_Q Qc XC mc ms free a (U.calling g mk a) o s₂ := hq
  rw [State.frames_setTop' g h.top] at hend
  obtain ⟨g₀, hg0⟩ := Option.isSome_iff_exists.mp h.top
  obtain ⟨r, hr⟩ := State.topJava?_eq_some.mp hg0
  have hr' : (({ U with heap := s₂.heap, slotsUsed := s₂.slotsUsed } : State).setVm s₂.vm).frames = .java g₀ :: r := hr
  rcases hq' with ⟨hqc, L, hfe, hL⟩ | ⟨q, rfl, E, ce, L, hx, hce, hcv, hcl, hW₂, hsm, hL⟩
  · obtain ⟨⟨v, rfl⟩, hW₂, e2, q2, q3, q4, q5, q6⟩ := id hfe
    have e3 : s₂ = ({ (U.calling g mk a).setFrames s₂.frames with heap := s₂.heap, slotsUsed := s₂.slotsUsed } : State).setVm s₂.vm := by
      have : s₂ = ({ s₂ with vm := (U.calling g mk a).vm } : State).setVm s₂.vm := rfl
      rw [e2] at this
      exact this
    obtain ⟨c₂, i₂, len₂, hc₂, hd₂, hf₂⟩ := hend
    have hW' : U.WarmedH s₂.vm := hW₂
    have hcc : c₂ = c := by
      have h1 : s₂.code? g.method = U.code? g.method := by
        rw [State.code?_eq, State.code?_eq, hW'.alike.method?]
      exact Option.some.inj (hc₂.symm.trans (h1.trans h.code))
    subst hcc
    have hlen : len₂ = len := by rw [hdg] at hd₂; cases hd₂; rfl
    subst hlen
    have hs₂ : s₂ = (({ U with heap := s₂.heap, slotsUsed := s₂.slotsUsed } : State).setVm s₂.vm).setTop { g with pc := g.pc + len₂, stack := v.toList ++ g.stack } := by
      refine e3.trans ?_
      rw [hf₂, State.calling_eq h.top, State.setFrames_setFrames, State.setTop_of_frames _ hr', hr]
      rfl
    have hsame : U.sameButNew ({ U with heap := s₂.heap, slotsUsed := s₂.slotsUsed } : State) L mc ms := by
      refine ⟨?_, q2, q3, q4, q5, q6⟩
      obtain ⟨t, ht, -⟩ := State.frames_cons hr
      show ({ U with heap := s₂.heap, slotsUsed := s₂.slotsUsed } : State) = { U.setFrames U.frames with heap := s₂.heap, slotsUsed := s₂.slotsUsed }
      rw [State.setFrames_self ht]
    subst hg
    refine Or.inl ⟨v, ⟨(({ U with heap := s₂.heap, slotsUsed := s₂.slotsUsed } : State).setVm s₂.vm), Ls ++ L, c0 + mc, s0 + ms⟩,
      ⟨X.admits, X.cas, X.clock, X.frames, X.room, X.hears, X.method, X.code, (X.here.setHeapUsed s₂.heap s₂.slotsUsed).setVm hW'.alike, X.tail, State.WarmedH.trans X.warmed hW', X.limits, X.bytes, X.same.trans (hsame.setVm s.vm)⟩,
      ⟨g, mk, s₂, L, rfl, rfl, hqc, rfl, hL, rfl, rfl⟩, ?_⟩
    show Steps p.tables e below _ ((({ U with heap := s₂.heap, slotsUsed := s₂.slotsUsed } : State).setVm s₂.vm).setTop { g with pc := g.pc + len₂, stack := v.toList ++ g.stack })
    rw [← hs₂]
    exact hsteps
  · obtain ⟨e2, q2, q3, q4, q5, q6⟩ := id hsm
    have e3 : s₂ = ({ (U.calling g mk a).setFrames s₂.frames with heap := s₂.heap, slotsUsed := s₂.slotsUsed } : State).setVm s₂.vm := by
      have : s₂ = ({ s₂ with vm := (U.calling g mk a).vm } : State).setVm s₂.vm := rfl
      rw [e2] at this
      exact this
    have hf₂ : s₂.frames = .throwing q :: .java g :: U.frames.tail := hend
    have hW' : U.WarmedH s₂.vm := hW₂
    have hs₂ : s₂ = ((({ U with heap := s₂.heap, slotsUsed := s₂.slotsUsed } : State).setVm s₂.vm).setTop g).pushFrame (.throwing q) := by
      refine e3.trans ?_
      rw [hf₂, State.calling_eq h.top, State.setFrames_setFrames, State.pushFrame, State.frames_setTop _ hr', State.setTop_of_frames _ hr', State.setFrames_setFrames, hr]
      rfl
    have hsame : U.sameButNew ({ U with heap := s₂.heap, slotsUsed := s₂.slotsUsed } : State) L mc ms := by
      refine ⟨?_, q2, q3, q4, q5, q6⟩
      obtain ⟨t, ht, -⟩ := State.frames_cons hr
      show ({ U with heap := s₂.heap, slotsUsed := s₂.slotsUsed } : State) = { U.setFrames U.frames with heap := s₂.heap, slotsUsed := s₂.slotsUsed }
      rw [State.setFrames_self ht]
    subst hg
    refine Or.inr ⟨q, ⟨(({ U with heap := s₂.heap, slotsUsed := s₂.slotsUsed } : State).setVm s₂.vm), Ls ++ L, c0 + mc, s0 + ms⟩,
      ⟨X.admits, X.cas, X.clock, X.frames, X.room, X.hears, X.method, X.code, (X.here.setHeapUsed s₂.heap s₂.slotsUsed).setVm hW'.alike, X.tail, State.WarmedH.trans X.warmed hW', X.limits, X.bytes, X.same.trans (hsame.setVm s.vm)⟩,
      ⟨g, mk, s₂, L, E, ce, rfl, rfl, hx, hce, hcv, hcl, rfl, hL, rfl, rfl⟩, ?_⟩
    show Steps p.tables e below _ (((({ U with heap := s₂.heap, slotsUsed := s₂.slotsUsed } : State).setVm s₂.vm).setTop g).pushFrame (.throwing q))
    rw [← hs₂]
    exact hsteps
end
variable {p : Program} {l : Launch} {e : Env} {R : Room} {s : State} {m : MethodId} {args : Array Value} {below : List Frame} {meth : Method} {c : Code} {T : State} {H : Heap} {locs : List Loc} {cells slots : Nat}
theorem vx_callVX (X : Stand p l e R s m args below meth c T locs cells slots) (hexec : p.tables.exec = Jvm.exec) {own C : String} {index : Nat} {y : MethodName} {bytes : ByteArray} {maxL : Nat} {ret : Option FieldType} {hh : List (Nat × Nat × Nat × Nat)}
    (hown : s.vm.findClass own = some m.cls) (hlink : (Cond.methodLink own index y).before args s = true) (hinst : (Cond.instanceMethod y).before args s = true) (hsel : (Cond.selects C y y).before args s = true)
    (hcode : (Cond.codeWith y bytes maxL ret hh).before args s = true) (hy : y.cls ≠ "java/lang/invoke/MethodHandle" ∧ y.cls ≠ "java/lang/invoke/VarHandle")
    {W9 : Nat} {Pre : Pt → Array Value → Prop} {Post : Pt → Array Value → Option Value → Pt → Prop} {PostX : Pt → Array Value → Addr → Pt → Prop} (hK : vx_Back l R p e below s args y 3 W9 Pre Post PostX)
    {b : Addr} {cellB : Cell} (hcell : T.heap[b]? = some cellB) (hobj : cellB.vm.isStatics = false) (hcls : s.vm.findClass C = some cellB.cls)
    {g : JFrame} (hg : g.method = m) (hsize : g.locals.size = c.maxLocals) {argsL rest : List Value} (hlen : ∀ sig, parseMethodDescriptor y.desc = some sig → argsL.length = sig.parameters.length)
    (hstack : g.stack = argsL.reverse ++ .ref b :: rest) (hW : 2 * g.monitorRoom + (rest.map fun v => v.category).sum ≤ W9) (hdg : decode c.code g.pc = .ok (.invokevirtual index, 3))
    (hpre : ∀ vm₁, s.WarmedH vm₁ → Pre ⟨T.setVm vm₁, locs, cells, slots⟩ (Value.ref b :: argsL).toArray) :
    (∃ (v : Option Value) (vm₁ : Vm) (B : Pt), s.WarmedH vm₁ ∧ Stand p l e R s m args below meth c B.U B.locs B.cells B.slots ∧ Post ⟨T.setVm vm₁, locs, cells, slots⟩ (Value.ref b :: argsL).toArray v B ∧
      ∀ target, Steps p.tables e below (B.U.setTop { g with pc := g.pc + 3, stack := v.toList ++ rest }) target → Steps p.tables e below (T.setTop g) target) ∨
    (∃ (q : Addr) (vm₁ : Vm) (B : Pt), s.WarmedH vm₁ ∧ Stand p l e R s m args below meth c B.U B.locs B.cells B.slots ∧ PostX ⟨T.setVm vm₁, locs, cells, slots⟩ (Value.ref b :: argsL).toArray q B ∧
      Steps p.tables e below (T.setTop g) ((B.U.setTop { g with stack := rest }).pushFrame (.throwing q))) := by
  obtain ⟨mk, methM, hnamed, hmethM, hstM, habM⟩ := Cond.instanceMethod_spec hinst
  obtain ⟨m8, methM', cM, hn8, hmethM', -, -, -, -, -, -, hsigM⟩ := Cond.codeWith_spec hcode
  cases Option.some.inj (hn8.symm.trans hnamed)
  cases hmethM.symm.trans hmethM'
  obtain ⟨c2, r2, m2, q1, q2, q3, q4, kP, hkP, hkPi⟩ := Cond.selects_spec hsel
  cases hcls.symm.trans q1
  cases (State.methodFound?_of_named hnamed hy).symm.trans q2
  cases hnamed.symm.trans q3
  have hselP : selectMethod e.platform s.vm cellB.cls mk = .method mk := by rw [Launch.admits_selectMethod X.admits]; exact q4
  obtain ⟨vm₁, X₁, hstep₁⟩ := X.invokevirtual hexec hown hlink hnamed hmethM hstM hkP hkPi hy (a := b) (cell := cellB) hcell
    (fun z h => by rw [h] at hobj; cases hobj) hselP hmethM habM hkP hkPi (g := g) hg (argsL := argsL) (rest := rest) (hlen _ hsigM) hstack hdg
  rcases hK m meth c ⟨T.setVm vm₁, locs, cells, slots⟩ { g with stack := rest } (.invokevirtual index) mk (Value.ref b :: argsL).toArray X₁ hg hsize hdg hW (X₁.named hnamed) (hpre vm₁ X₁.warmed) with ⟨v, B, X', hpost, hsteps⟩ | ⟨q, B, X', hpost, hsteps⟩
  · exact Or.inl ⟨v, vm₁, B, X₁.warmed, X', hpost, fun target h => hstep₁ _ fun acts => by rw [doInvoke_state]; exact hsteps.trans h⟩
  · exact Or.inr ⟨q, vm₁, B, X₁.warmed, X', hpost, hstep₁ _ fun acts => by rw [doInvoke_state]; exact hsteps⟩
theorem vx_callSX (X : Stand p l e R s m args below meth c T locs cells slots) (hexec : p.tables.exec = Jvm.exec) {own : String} {index : Nat} {y : MethodName} {bytes : ByteArray} {maxL : Nat} {ret : Option FieldType} {hh : List (Nat × Nat × Nat × Nat)}
    (hown : s.vm.findClass own = some m.cls) (hlink : (Cond.methodLink own index y).before args s = true) (hstat : (Cond.static y).before args s = true) (hinit : (Cond.initialized y.cls).before args s = true)
    (hcode : (Cond.codeWith y bytes maxL ret hh).before args s = true) (hy : y.cls ≠ "java/lang/invoke/MethodHandle" ∧ y.cls ≠ "java/lang/invoke/VarHandle")
    {W9 : Nat} {Pre : Pt → Array Value → Prop} {Post : Pt → Array Value → Option Value → Pt → Prop} {PostX : Pt → Array Value → Addr → Pt → Prop} (hK : vx_Back l R p e below s args y 3 W9 Pre Post PostX)
    {g : JFrame} (hg : g.method = m) (hsize : g.locals.size = c.maxLocals) {argsL rest : List Value} (hlen : ∀ sig, parseMethodDescriptor y.desc = some sig → argsL.length = sig.parameters.length)
    (hstack : g.stack = argsL.reverse ++ rest) (hW : 2 * g.monitorRoom + (rest.map fun v => v.category).sum ≤ W9) (hdg : decode c.code g.pc = .ok (.invokestatic index, 3))
    (hpre : ∀ vm₁, s.WarmedH vm₁ → Pre ⟨T.setVm vm₁, locs, cells, slots⟩ argsL.toArray) :
    (∃ (v : Option Value) (vm₁ : Vm) (B : Pt), s.WarmedH vm₁ ∧ Stand p l e R s m args below meth c B.U B.locs B.cells B.slots ∧ Post ⟨T.setVm vm₁, locs, cells, slots⟩ argsL.toArray v B ∧
      ∀ target, Steps p.tables e below (B.U.setTop { g with pc := g.pc + 3, stack := v.toList ++ rest }) target → Steps p.tables e below (T.setTop g) target) ∨
    (∃ (q : Addr) (vm₁ : Vm) (B : Pt), s.WarmedH vm₁ ∧ Stand p l e R s m args below meth c B.U B.locs B.cells B.slots ∧ PostX ⟨T.setVm vm₁, locs, cells, slots⟩ argsL.toArray q B ∧
      Steps p.tables e below (T.setTop g) ((B.U.setTop { g with stack := rest }).pushFrame (.throwing q))) := by
  obtain ⟨mk, methM, cM, hnamed, hmethM, -, -, -, -, -, -, hsigM⟩ := Cond.codeWith_spec hcode
  have hstatic : methM.isStatic = true := Cond.static_spec hnamed hmethM hstat
  obtain ⟨kP, hkP, -⟩ := className_of_methodNamed hnamed
  have hinitP : kP.init = .initialized := Cond.initialized_spec (findClass_of_methodNamed hnamed) hkP hinit
  obtain ⟨vm₁, X₁, hstep₁⟩ := X.invokestatic hexec hown hlink hnamed hmethM hstatic hkP hinitP hy (g := g) hg (argsL := argsL) (rest := rest) (hlen _ hsigM) hstack hdg
  rcases hK m meth c ⟨T.setVm vm₁, locs, cells, slots⟩ { g with stack := rest } (.invokestatic index) mk argsL.toArray X₁ hg hsize hdg hW (X₁.named hnamed) (hpre vm₁ X₁.warmed) with ⟨v, B, X', hpost, hsteps⟩ | ⟨q, B, X', hpost, hsteps⟩
  · exact Or.inl ⟨v, vm₁, B, X₁.warmed, X', hpost, fun target h => hstep₁ _ fun acts => by rw [doInvoke_state]; exact hsteps.trans h⟩
  · exact Or.inr ⟨q, vm₁, B, X₁.warmed, X', hpost, hstep₁ _ fun acts => by rw [doInvoke_state]; exact hsteps⟩
theorem vx_callVW (X : Stand p l e R s m args below meth c T locs cells slots) (hexec : p.tables.exec = Jvm.exec) {own C : String} {index : Nat} {y : MethodName} {bytes : ByteArray} {maxL : Nat} {ret : Option FieldType} {hh : List (Nat × Nat × Nat × Nat)}
    (hown : s.vm.findClass own = some m.cls) (hlink : (Cond.methodLink own index y).before args s = true) (hinst : (Cond.instanceMethod y).before args s = true) (hsel : (Cond.selects C y y).before args s = true)
    (hcode : (Cond.codeWith y bytes maxL ret hh).before args s = true) (hy : y.cls ≠ "java/lang/invoke/MethodHandle" ∧ y.cls ≠ "java/lang/invoke/VarHandle")
    {W9 : Nat} {Pre : Pt → Array Value → Prop} {Post : Pt → Array Value → Option Value → Pt → Prop} (hK : Back l R p e below s args y 3 W9 Pre Post)
    {b : Addr} {cellB : Cell} (hcell : T.heap[b]? = some cellB) (hobj : cellB.vm.isStatics = false) (hcls : s.vm.findClass C = some cellB.cls)
    {g : JFrame} (hg : g.method = m) (hsize : g.locals.size = c.maxLocals) {argsL rest : List Value} (hlen : ∀ sig, parseMethodDescriptor y.desc = some sig → argsL.length = sig.parameters.length)
    (hstack : g.stack = argsL.reverse ++ .ref b :: rest) (hW : 2 * g.monitorRoom + (rest.map fun v => v.category).sum ≤ W9) (hdg : decode c.code g.pc = .ok (.invokevirtual index, 3))
    (hpre : ∀ vm₁, s.WarmedH vm₁ → Pre ⟨T.setVm vm₁, locs, cells, slots⟩ (Value.ref b :: argsL).toArray) :
    ∃ (v : Option Value) (vm₁ : Vm) (B : Pt), s.WarmedH vm₁ ∧ Stand p l e R s m args below meth c B.U B.locs B.cells B.slots ∧ Post ⟨T.setVm vm₁, locs, cells, slots⟩ (Value.ref b :: argsL).toArray v B ∧
      ∀ target, Steps p.tables e below (B.U.setTop { g with pc := g.pc + 3, stack := v.toList ++ rest }) target → Steps p.tables e below (T.setTop g) target := by
  obtain ⟨mk, methM, hnamed, hmethM, hstM, habM⟩ := Cond.instanceMethod_spec hinst
  obtain ⟨m8, methM', cM, hn8, hmethM', -, -, -, -, -, -, hsigM⟩ := Cond.codeWith_spec hcode
  cases Option.some.inj (hn8.symm.trans hnamed)
  cases hmethM.symm.trans hmethM'
  obtain ⟨c2, r2, m2, q1, q2, q3, q4, kP, hkP, hkPi⟩ := Cond.selects_spec hsel
  cases hcls.symm.trans q1
  cases (State.methodFound?_of_named hnamed hy).symm.trans q2
  cases hnamed.symm.trans q3
  have hselP : selectMethod e.platform s.vm cellB.cls mk = .method mk := by rw [Launch.admits_selectMethod X.admits]; exact q4
  obtain ⟨vm₁, X₁, hstep₁⟩ := X.invokevirtual hexec hown hlink hnamed hmethM hstM hkP hkPi hy (a := b) (cell := cellB) hcell
    (fun z h => by rw [h] at hobj; cases hobj) hselP hmethM habM hkP hkPi (g := g) hg (argsL := argsL) (rest := rest) (hlen _ hsigM) hstack hdg
  obtain ⟨v, B, X', hpost, hsteps⟩ := hK m meth c ⟨T.setVm vm₁, locs, cells, slots⟩ { g with stack := rest } (.invokevirtual index) mk (Value.ref b :: argsL).toArray X₁ hg hsize hdg hW (X₁.named hnamed) (hpre vm₁ X₁.warmed)
  exact ⟨v, vm₁, B, X₁.warmed, X', hpost, fun target h => hstep₁ _ fun acts => by rw [doInvoke_state]; exact hsteps.trans h⟩
abbrev vx_CVW (R : Room) (s : State) (args : Array Value) (own C : String) (index : Nat) (y : MethodName) (bytes : ByteArray) (maxL : Nat) (ret : Option FieldType) (hh : List (Nat × Nat × Nat × Nat)) (ws : List Cond) (rm : Room) (mc ms n : Nat) : Prop :=
  (rm.cells = mc ∧ rm.slots = ms ∧ rm.frames + 1 ≤ R.frames ∧ 8 + (maxL + 11) + rm.locals ≤ R.locals ∧ (∀ w ∈ ws, ∀ (a' : Array Value) (U : State), s.WarmedH U.vm → w.before a' U = true) ∧ Cond.codeWith y bytes maxL ret hh ∈ ws) ∧
  (Cond.codeWith y bytes maxL ret hh).before args s = true ∧ (Cond.initialized y.cls).before args s = true ∧ (y.cls ≠ "java/lang/invoke/MethodHandle" ∧ y.cls ≠ "java/lang/invoke/VarHandle") ∧
  (∀ sig, parseMethodDescriptor y.desc = some sig → n = sig.parameters.length) ∧ (Cond.methodLink own index y).before args s = true ∧ (Cond.instanceMethod y).before args s = true ∧ (Cond.selects C y y).before args s = true
theorem vx_cwVW {own C : String} {index maxL mc ms : Nat} {y : MethodName} {bytes : ByteArray} {ret : Option FieldType} {hh : List (Nat × Nat × Nat × Nat)} {Ts ws ws' : List Cond} {rm : Room} (n : Nat) (ht : ∀ w ∈ Ts, w.before args s = true) (hT : GoodIn Ts (wsV own index C y ws)) (hw : ws = Cond.codeWith y bytes maxL ret hh :: ws') (hrc : rm.cells = mc) (hrs : rm.slots = ms)
    (hd : y.cls = C ∧ y.cls ≠ "java/lang/invoke/MethodHandle" ∧ y.cls ≠ "java/lang/invoke/VarHandle" ∧ (parseMethodDescriptor y.desc).map (fun d => d.parameters.length) = some n) (hR : rm.frames + 1 ≤ R.frames ∧ 8 + (maxL + 11) + rm.locals ≤ R.locals) :
    vx_CVW R s args own C index y bytes maxL ret hh ws rm mc ms n := by
  obtain ⟨hC, hd⟩ := hd
  subst hC
  have ok : ∀ w ∈ wsV own index y.cls y ws, w.before args s = true := fun w h => ht w (hT w h).1
  have hG : GoodIn Ts ws := fun w h => hT w (by unfold wsV; exact List.mem_append_right _ h)
  have hc : Cond.codeWith y bytes maxL ret hh ∈ ws := by rw [hw]; exact List.mem_cons_self
  refine ⟨⟨hrc, hrs, hR.1, hR.2, pay_in ht hG, hc⟩, ht _ (hG _ hc).1, ok _ (by simp [wsV]), ⟨hd.1, hd.2.1⟩, fun sig h => ?_, ok _ (by simp [wsV]), ok _ (by simp [wsV]), ok _ (by simp [wsV])⟩
  have h2 := hd.2.2
  rw [h] at h2
  exact (Option.some.inj h2).symm
theorem vx_runVW {y : MethodName} {bytes cc : ByteArray} {maxL nL mc ms n index : Nat} {ret : Option FieldType} {hh : List (Nat × Nat × Nat × Nat)} {ws : List Cond} {rm : Room} {Pc : Array Value → State → Prop} {Qc : Array Value → State → Outcome → State → Prop} {free : Addr → Prop} {Ts : List Cond} {own C : String} {b : Addr} {As rest : List Value} {g : JFrame}
    (S : CallFix p m c cc nL s args Ts own) (hM : Met l y ws rm Pc Qc mc ms free) (cw : vx_CVW R s args own C index y bytes maxL ret hh ws rm mc ms n) (hp : PreV s H C b Pc As)
    (hg : g.method = m) (hn : As.length = n) (hsize : g.locals.size = nL) (hstack : g.stack = As.reverse ++ .ref b :: rest) (hW : 2 * g.monitorRoom + (rest.map fun v => v.category).sum ≤ 8) (hdg : decode cc g.pc = .ok (.invokevirtual index, 3)) (hf : cells + mc ≤ R.cells ∧ slots + ms ≤ R.slots) :
    va_Run p l e R s m args below meth c H locs cells slots mc ms g rest (Qc (Value.ref b :: As).toArray) free := by
  obtain ⟨⟨hrc, hrs, hfr, hlo, hws, hcw⟩, hcode, hini, hy, hlen, hl, hin, hse⟩ := cw
  have hK : Back l R p e below s args y 3 8 (PreOf R mc ms Pc) (PostOf Qc mc ms free) := va_backW (hh := hh) (bytes := bytes) (maxL := maxL) (ret := ret) hM hp.1 hrc hrs hfr hlo hws hcw (fun a' U hW => word_at hW (Or.inl (by first | rfl | simp [Cond.onTables, Cond.keeps, Cond.steady])) hini)
  obtain ⟨hx, hb, hml, ho, -⟩ := S
  obtain ⟨-, ⟨cellB, hcB, hoB, hclB⟩, hPc⟩ := hp
  intro T hT X
  obtain ⟨v, vm₁, ⟨U', l2, c2, s2⟩, hW₁, X', ⟨g', mk, t, L, e1, e2, hq, h1, hL, h2, h3⟩, st⟩ := vx_callVW X hx (C := C) (hh := hh) (bytes := bytes) (maxL := maxL) (ret := ret) ho hl hin hse hcode hy hK (by rw [hT]; exact hcB) hoB hclB hg (hsize.trans hml.symm) (argsL := As) (rest := rest) (fun sig h => hn.trans (hlen sig h)) hstack hW (by rw [hb]; exact hdg)
    (fun vm₁ hW₁ => ⟨hf.1, hf.2, hPc (T.setVm vm₁) hT hW₁⟩)
  dsimp only [Pt.U, Pt.locs, Pt.cells, Pt.slots] at X' e1 e2 h1 h2 h3 st
  subst h1; subst h2; subst h3
  exact ⟨v, (T.setVm vm₁).calling g' mk (Value.ref b :: As).toArray, t, U', L, hT, X', hL, e1, e2, hq, st⟩
section
variable {y : MethodName} {bytes cc : ByteArray} {maxL nL mc ms n index : Nat} {ret : Option FieldType} {ws : List Cond} {rm : Room} {Pc : Array Value → State → Prop} {Qc : Array Value → State → Outcome → State → Prop} {XC : String → State → State → Prop} {free : Addr → Prop} {Ts : List Cond} {own C : String} {b : Addr} {As rest : List Value} {g : JFrame}
theorem vx_runVX {hh : List (Nat × Nat × Nat × Nat)} (S : CallFix p m c cc nL s args Ts own) (hM : vx_Met l y ws rm Pc Qc XC mc ms free) (cw : vx_CVW R s args own C index y bytes maxL ret hh ws rm mc ms n) (hp : PreV s H C b Pc As)
    (hg : g.method = m) (hn : As.length = n) (hsize : g.locals.size = nL) (hstack : g.stack = As.reverse ++ .ref b :: rest) (hW : 2 * g.monitorRoom + (rest.map fun v => v.category).sum ≤ 8) (hdg : decode cc g.pc = .ok (.invokevirtual index, 3)) (hf : cells + mc ≤ R.cells ∧ slots + ms ≤ R.slots) :
    vx_Run p l e R s m args below meth c H locs cells slots mc ms g rest (Qc (Value.ref b :: As).toArray) XC free := by
  obtain ⟨⟨hrc, hrs, hfr, hlo, hws, hcw⟩, hcode, hini, hy, hlen, hl, hin, hse⟩ := cw
  have hK : vx_Back l R p e below s args y 3 8 (PreOf R mc ms Pc) (PostOf Qc mc ms free) (vx_Post XC mc ms free) := vx_backW (hh := hh) (bytes := bytes) (maxL := maxL) (ret := ret) hM hp.1 hrc hrs hfr hlo hws hcw (fun a' U hW => word_at hW (Or.inl (by first | rfl | simp [Cond.onTables, Cond.keeps, Cond.steady])) hini)
  obtain ⟨hx, hb, hml, ho, -⟩ := S
  obtain ⟨-, ⟨cellB, hcB, hoB, hclB⟩, hPc⟩ := hp
  intro T hT X
  rcases vx_callVX X hx (C := C) (hh := hh) (bytes := bytes) (maxL := maxL) (ret := ret) ho hl hin hse hcode hy hK (by rw [hT]; exact hcB) hoB hclB hg (hsize.trans hml.symm) (argsL := As) (rest := rest) (fun sig h => hn.trans (hlen sig h)) hstack hW (by rw [hb]; exact hdg)
    (fun vm₁ hW₁ => ⟨hf.1, hf.2, hPc (T.setVm vm₁) hT hW₁⟩) with ⟨v, vm₁, ⟨U', l2, c2, s2⟩, hW₁, X', ⟨g', mk, t, L, e1, e2, hq, h1, hL, h2, h3⟩, st⟩ | ⟨q, vm₁, ⟨U', l2, c2, s2⟩, hW₁, X', ⟨g', mk, t, L, E, ce, e1, e2, hq, hce, hcv, hcl, h1, hL, h2, h3⟩, st⟩
  · dsimp only [Pt.U, Pt.locs, Pt.cells, Pt.slots] at X' e1 e2 h1 h2 h3 st
    subst h1; subst h2; subst h3
    exact Or.inl ⟨v, (T.setVm vm₁).calling g' mk (Value.ref b :: As).toArray, t, U', L, hT, X', hL, e1, e2, hq, st⟩
  · dsimp only [Pt.U, Pt.locs, Pt.cells, Pt.slots] at X' e1 e2 h1 h2 h3 st hcl
    subst h1; subst h2; subst h3
    exact Or.inr ⟨q, (T.setVm vm₁).calling g' mk (Value.ref b :: As).toArray, t, U', L, E, ce, hT, X', hL, e1, e2, hq, hce, hcv, vx_cls hW₁ hcl, st⟩
theorem vx_runSX {hh : List (Nat × Nat × Nat × Nat)} (S : CallFix p m c cc nL s args Ts own) (hM : vx_Met l y ws rm Pc Qc XC mc ms free) (cw : vx_CSW R s args own index y bytes maxL ret hh ws rm mc ms n) (hp : PreS s H Pc As)
    (hg : g.method = m) (hn : As.length = n) (hsize : g.locals.size = nL) (hstack : g.stack = As.reverse ++ rest) (hW : 2 * g.monitorRoom + (rest.map fun v => v.category).sum ≤ 8) (hdg : decode cc g.pc = .ok (.invokestatic index, 3)) (hf : cells + mc ≤ R.cells ∧ slots + ms ≤ R.slots) :
    vx_Run p l e R s m args below meth c H locs cells slots mc ms g rest (Qc As.toArray) XC free := by
  obtain ⟨⟨hrc, hrs, hfr, hlo, hws, hcw⟩, hcode, hini, hy, hlen, hl, hstt⟩ := cw
  have hK : vx_Back l R p e below s args y 3 8 (PreOf R mc ms Pc) (PostOf Qc mc ms free) (vx_Post XC mc ms free) := vx_backW (hh := hh) (bytes := bytes) (maxL := maxL) (ret := ret) hM hp.1 hrc hrs hfr hlo hws hcw (fun a' U hW => word_at hW (Or.inl (by first | rfl | simp [Cond.onTables, Cond.keeps, Cond.steady])) hini)
  obtain ⟨hx, hb, hml, ho, -⟩ := S
  intro T hT X
  rcases vx_callSX X hx (hh := hh) (bytes := bytes) (maxL := maxL) (ret := ret) ho hl hstt hini hcode hy hK hg (hsize.trans hml.symm) (argsL := As) (rest := rest) (fun sig h => hn.trans (hlen sig h)) hstack hW (by rw [hb]; exact hdg)
    (fun vm₁ hW₁ => ⟨hf.1, hf.2, hp.2 (T.setVm vm₁) hT hW₁⟩) with ⟨v, vm₁, ⟨U', l2, c2, s2⟩, hW₁, X', ⟨g', mk, t, L, e1, e2, hq, h1, hL, h2, h3⟩, st⟩ | ⟨q, vm₁, ⟨U', l2, c2, s2⟩, hW₁, X', ⟨g', mk, t, L, E, ce, e1, e2, hq, hce, hcv, hcl, h1, hL, h2, h3⟩, st⟩
  · dsimp only [Pt.U, Pt.locs, Pt.cells, Pt.slots] at X' e1 e2 h1 h2 h3 st
    subst h1; subst h2; subst h3
    exact Or.inl ⟨v, (T.setVm vm₁).calling g' mk As.toArray, t, U', L, hT, X', hL, e1, e2, hq, st⟩
  · dsimp only [Pt.U, Pt.locs, Pt.cells, Pt.slots] at X' e1 e2 h1 h2 h3 st hcl
    subst h1; subst h2; subst h3
    exact Or.inr ⟨q, (T.setVm vm₁).calling g' mk As.toArray, t, U', L, E, ce, hT, X', hL, e1, e2, hq, hce, hcv, vx_cls hW₁ hcl, st⟩
end
end VXH
theorem vx_ofWH {l : Launch} {y : MethodName} {ws ws' : List Cond} {rm : Room} {Pc : Array Value → State → Prop} {Qc : Array Value → State → Outcome → State → Prop} {XC : String → State → State → Prop} {mc ms : Nat} {free : Addr → Prop} {cc : ByteArray} {maxL : Nat} {ret : Option FieldType} {hh : List (Nat × Nat × Nat × Nat)}
    (hy : plainName y.cls = true) (hw : ws = Cond.codeWith y cc maxL ret hh :: ws')
    (body : ∀ p e s m args below meth c s₁, BodyLoose p l y (headSpec ws rm) cc maxL ret e s m args below meth c s₁ → c.maxLocals = maxL → Pc args s →
      W p l e (headSpec ws rm).room s m args below meth c s.heap [] 0 0 (vx_MQ below Qc XC args s mc ms free) (entryFrame m args maxL)) : vx_Met l y ws rm Pc Qc XC mc ms free := by
  refine MetFree.of_bodyS (code := cc) (maxLocals := maxL) (ret := ret) hy ?_ ?_
  · intro args s m h hn
    obtain ⟨m9, meth, c, hn9, h1, h2, h3, h4, -, h5, h6, -⟩ := Cond.codeWith_spec (atoms_spec (ws := ws) h _ (by rw [hw]; exact List.mem_cons_self))
    cases hn.symm.trans hn9
    exact ⟨meth, c, h1, h2, h3, h4, h5, h6⟩
  · intro p e s m args below meth c s₁ B hml hP _
    have hh0 : s₁.heap = s.heap := by rw [B.state]; rfl
    obtain ⟨t, a1, o, b1, b2, b3⟩ := body p e s m args below meth c s₁ B hml hP s₁ hh0 (Stand.of_body B)
    exact ⟨t, o, a1, b1, b2, b3⟩
/-! ===== END ===== -/
end
section
def RX0 : String := "TabText$Blocks"
def TX0 : u_T := fun k => match k with
  | 0 => ("TabText$Blocks", "count", "I", false)
  | 1 => ("TabText$Blocks", "columns", "[I", true)
  | 2 => ("TabText$Blocks", "firsts", "[I", true)
  | 3 => ("TabText$Blocks", "lasts", "[I", true)
  | 4 => ("TabText$Blocks", "widths", "[I", true)
  | 5 => ("TabText$Blocks", "alignments", "[I", true)
  | 6 => ("TabText$Blocks", "contents", "[I", true)
  | 7 => ("TabText$Blocks", "numbers", "[I", true)
  | 8 => ("TabText$Blocks", "fractions", "[I", true)
  | _ => ("TabText$Blocks", "totals", "[J", true)
def tyX0 : Nat → FieldType := fun k => match k with
  | 0 => .int
  | 1 => .array .int
  | 2 => .array .int
  | 3 => .array .int
  | 4 => .array .int
  | 5 => .array .int
  | 6 => .array .int
  | 7 => .array .int
  | 8 => .array .int
  | _ => .array .long
abbrev wsX00 : List Cond := u_ws RX0 TX0 10
theorem nmX0 : ∀ a, a < 10 → ∀ b, b < 10 → a ≠ b → (TX0 a).2.1 ≠ (TX0 b).2.1 := by decide +kernel
theorem tyX0_ok : ∀ k, k < 10 → parseFieldDescriptor (TX0 k).2.2.1 = some (tyX0 k) := by decide +kernel
abbrev cX0_init : ByteArray := prog_2_method_1_code
def yX0_init : MethodName := ⟨RX0, "<init>", "()V"⟩
abbrev cX0_collect : ByteArray := prog_2_method_2_code
def yX0_collect : MethodName := ⟨RX0, "collect", "(LTabText$Cells;LTabText$Format;)V"⟩
abbrev cX0_lastLine : ByteArray := prog_2_method_3_code
def yX0_lastLine : MethodName := ⟨RX0, "lastLine", "(LTabText$Cells;II)I"⟩
abbrev cX0_measureBlock : ByteArray := prog_2_method_4_code
def yX0_measureBlock : MethodName := ⟨RX0, "measureBlock", "(ILTabText$Cells;LTabText$Format;)V"⟩
abbrev cX0_addNumbers : ByteArray := prog_2_method_5_code
def yX0_addNumbers : MethodName := ⟨RX0, "addNumbers", "(ILTabText$Cells;)V"⟩
abbrev cX0_isDecimal : ByteArray := prog_2_method_6_code
def yX0_isDecimal : MethodName := ⟨RX0, "isDecimal", "(ILTabText$Cells;)Z"⟩
abbrev cX0_measureDecimal : ByteArray := prog_2_method_7_code
def yX0_measureDecimal : MethodName := ⟨RX0, "measureDecimal", "(ILTabText$Cells;)V"⟩
abbrev cX0_measurePlain : ByteArray := prog_2_method_8_code
def yX0_measurePlain : MethodName := ⟨RX0, "measurePlain", "(ILTabText$Cells;)V"⟩
abbrev cX0_size : ByteArray := prog_2_method_9_code
def yX0_size : MethodName := ⟨RX0, "size", "()I"⟩
abbrev cX0_has : ByteArray := prog_2_method_10_code
def yX0_has : MethodName := ⟨RX0, "has", "(I)Z"⟩
abbrev cX0_fact : ByteArray := prog_2_method_11_code
def yX0_fact : MethodName := ⟨RX0, "fact", "(II)I"⟩
abbrev cX0_column : ByteArray := prog_2_method_12_code
def yX0_column : MethodName := ⟨RX0, "column", "(I)I"⟩
abbrev cX0_first : ByteArray := prog_2_method_13_code
def yX0_first : MethodName := ⟨RX0, "first", "(I)I"⟩
abbrev cX0_last : ByteArray := prog_2_method_14_code
def yX0_last : MethodName := ⟨RX0, "last", "(I)I"⟩
abbrev cX0_width : ByteArray := prog_2_method_15_code
def yX0_width : MethodName := ⟨RX0, "width", "(I)I"⟩
abbrev cX0_alignment : ByteArray := prog_2_method_16_code
def yX0_alignment : MethodName := ⟨RX0, "alignment", "(I)I"⟩
abbrev cX0_numbers : ByteArray := prog_2_method_17_code
def yX0_numbers : MethodName := ⟨RX0, "numbers", "(I)I"⟩
abbrev cX0_fractionWidth : ByteArray := prog_2_method_18_code
def yX0_fractionWidth : MethodName := ⟨RX0, "fractionWidth", "(I)I"⟩
abbrev cX0_total : ByteArray := prog_2_method_19_code
def yX0_total : MethodName := ⟨RX0, "total", "(I)J"⟩
abbrev cX0_countBetween : ByteArray := prog_2_method_20_code
def yX0_countBetween : MethodName := ⟨RX0, "countBetween", "(II)I"⟩
abbrev cX0_mixInto : ByteArray := prog_2_method_21_code
def yX0_mixInto : MethodName := ⟨RX0, "mixInto", "(J)J"⟩
def RX1 : String := "TabText$Cells"
def TX1 : u_T := fun k => match k with
  | 0 => ("TabText$Cells", "lines", "I", false)
  | 1 => ("TabText$Cells", "cells", "[I", true)
  | 2 => ("TabText$Cells", "starts", "[I", true)
  | 3 => ("TabText$Cells", "lengths", "[I", true)
  | 4 => ("TabText$Cells", "kinds", "[I", true)
  | 5 => ("TabText$Cells", "wholes", "[I", true)
  | _ => ("TabText$Cells", "values", "[J", true)
def tyX1 : Nat → FieldType := fun k => match k with
  | 0 => .int
  | 1 => .array .int
  | 2 => .array .int
  | 3 => .array .int
  | 4 => .array .int
  | 5 => .array .int
  | _ => .array .long
abbrev wsX10 : List Cond := u_ws RX1 TX1 7
theorem nmX1 : ∀ a, a < 7 → ∀ b, b < 7 → a ≠ b → (TX1 a).2.1 ≠ (TX1 b).2.1 := by decide +kernel
theorem tyX1_ok : ∀ k, k < 7 → parseFieldDescriptor (TX1 k).2.2.1 = some (tyX1 k) := by decide +kernel
abbrev cX1_init : ByteArray := prog_3_method_1_code
def yX1_init : MethodName := ⟨RX1, "<init>", "()V"⟩
abbrev cX1_read : ByteArray := prog_3_method_2_code
def yX1_read : MethodName := ⟨RX1, "read", "(LTabText$Page;)V"⟩
abbrev cX1_readCell : ByteArray := prog_3_method_3_code
def yX1_readCell : MethodName := ⟨RX1, "readCell", "(LTabText$Page;IIII)V"⟩
abbrev cX1_slot : ByteArray := prog_3_method_4_code
def yX1_slot : MethodName := ⟨RX1, "slot", "(II)I"⟩
abbrev cX1_lines : ByteArray := prog_3_method_5_code
def yX1_lines : MethodName := ⟨RX1, "lines", "()I"⟩
abbrev cX1_hasLine : ByteArray := prog_3_method_6_code
def yX1_hasLine : MethodName := ⟨RX1, "hasLine", "(I)Z"⟩
abbrev cX1_hasCell : ByteArray := prog_3_method_7_code
def yX1_hasCell : MethodName := ⟨RX1, "hasCell", "(II)Z"⟩
abbrev cX1_endsWithTab : ByteArray := prog_3_method_8_code
def yX1_endsWithTab : MethodName := ⟨RX1, "endsWithTab", "(II)Z"⟩
abbrev cX1_cellsOf : ByteArray := prog_3_method_9_code
def yX1_cellsOf : MethodName := ⟨RX1, "cellsOf", "(I)I"⟩
abbrev cX1_start : ByteArray := prog_3_method_10_code
def yX1_start : MethodName := ⟨RX1, "start", "(II)I"⟩
abbrev cX1_length : ByteArray := prog_3_method_11_code
def yX1_length : MethodName := ⟨RX1, "length", "(II)I"⟩
abbrev cX1_kind : ByteArray := prog_3_method_12_code
def yX1_kind : MethodName := ⟨RX1, "kind", "(II)I"⟩
abbrev cX1_whole : ByteArray := prog_3_method_13_code
def yX1_whole : MethodName := ⟨RX1, "whole", "(II)I"⟩
abbrev cX1_value : ByteArray := prog_3_method_14_code
def yX1_value : MethodName := ⟨RX1, "value", "(II)J"⟩
abbrev cX1_lineStart : ByteArray := prog_3_method_15_code
def yX1_lineStart : MethodName := ⟨RX1, "lineStart", "(I)I"⟩
abbrev cX1_lineEnd : ByteArray := prog_3_method_16_code
def yX1_lineEnd : MethodName := ⟨RX1, "lineEnd", "(I)I"⟩
abbrev cX1_hasRoomFor : ByteArray := prog_3_method_17_code
def yX1_hasRoomFor : MethodName := ⟨RX1, "hasRoomFor", "(III)Z"⟩
abbrev cX1_canErase : ByteArray := prog_3_method_18_code
def yX1_canErase : MethodName := ⟨RX1, "canErase", "(III)Z"⟩
abbrev cX1_hasFullLine : ByteArray := prog_3_method_19_code
def yX1_hasFullLine : MethodName := ⟨RX1, "hasFullLine", "(II)Z"⟩
abbrev cX1_cellCount : ByteArray := prog_3_method_20_code
def yX1_cellCount : MethodName := ⟨RX1, "cellCount", "()I"⟩
abbrev cX1_signCount : ByteArray := prog_3_method_21_code
def yX1_signCount : MethodName := ⟨RX1, "signCount", "()I"⟩
abbrev cX1_signsOf : ByteArray := prog_3_method_22_code
def yX1_signsOf : MethodName := ⟨RX1, "signsOf", "(I)I"⟩
abbrev cX1_countKind : ByteArray := prog_3_method_23_code
def yX1_countKind : MethodName := ⟨RX1, "countKind", "(I)I"⟩
abbrev cX1_fixedLength : ByteArray := prog_3_method_24_code
def yX1_fixedLength : MethodName := ⟨RX1, "fixedLength", "(I)I"⟩
def RX2 : String := "TabText$Format"
def TX2 : u_T := fun k => match k with
  | 0 => ("TabText$Format", "alignments", "[I", true)
  | 1 => ("TabText$Format", "padding", "I", false)
  | 2 => ("TabText$Format", "leastWidth", "I", false)
  | _ => ("TabText$Format", "grid", "I", false)
def tyX2 : Nat → FieldType := fun k => match k with
  | 0 => .array .int
  | 1 => .int
  | 2 => .int
  | _ => .int
abbrev wsX20 : List Cond := u_ws RX2 TX2 4
theorem nmX2 : ∀ a, a < 4 → ∀ b, b < 4 → a ≠ b → (TX2 a).2.1 ≠ (TX2 b).2.1 := by decide +kernel
theorem tyX2_ok : ∀ k, k < 4 → parseFieldDescriptor (TX2 k).2.2.1 = some (tyX2 k) := by decide +kernel
abbrev cX2_init : ByteArray := prog_4_method_1_code
def yX2_init : MethodName := ⟨RX2, "<init>", "()V"⟩
abbrev cX2_alignment : ByteArray := prog_4_method_2_code
def yX2_alignment : MethodName := ⟨RX2, "alignment", "(I)I"⟩
abbrev cX2_padding : ByteArray := prog_4_method_3_code
def yX2_padding : MethodName := ⟨RX2, "padding", "()I"⟩
abbrev cX2_changeAlignment : ByteArray := prog_4_method_4_code
def yX2_changeAlignment : MethodName := ⟨RX2, "changeAlignment", "(II)I"⟩
abbrev cX2_allowsSpacing : ByteArray := prog_4_method_5_code
def yX2_allowsSpacing : MethodName := ⟨RX2, "allowsSpacing", "(II)Z"⟩
abbrev cX2_changeSpacing : ByteArray := prog_4_method_6_code
def yX2_changeSpacing : MethodName := ⟨RX2, "changeSpacing", "(II)I"⟩
abbrev cX2_widthFor : ByteArray := prog_4_method_7_code
def yX2_widthFor : MethodName := ⟨RX2, "widthFor", "(I)I"⟩
abbrev cX2_mixInto : ByteArray := prog_4_method_8_code
def yX2_mixInto : MethodName := ⟨RX2, "mixInto", "(J)J"⟩
def RX3 : String := "TabText$History"
def TX3 : u_T := fun k => match k with
  | 0 => ("TabText$History", "pages", "[LTabText$Page;", true)
  | 1 => ("TabText$History", "page", "LTabText$Page;", false)
  | 2 => ("TabText$History", "now", "I", false)
  | 3 => ("TabText$History", "undos", "I", false)
  | _ => ("TabText$History", "redos", "I", false)
def tyX3 : Nat → FieldType := fun k => match k with
  | 0 => .array (.object "TabText$Page")
  | 1 => .object "TabText$Page"
  | 2 => .int
  | 3 => .int
  | _ => .int
abbrev wsX30 : List Cond := u_ws RX3 TX3 5
theorem nmX3 : ∀ a, a < 5 → ∀ b, b < 5 → a ≠ b → (TX3 a).2.1 ≠ (TX3 b).2.1 := by decide +kernel
theorem tyX3_ok : ∀ k, k < 5 → parseFieldDescriptor (TX3 k).2.2.1 = some (tyX3 k) := by decide +kernel
abbrev cX3_init : ByteArray := prog_5_method_1_code
def yX3_init : MethodName := ⟨RX3, "<init>", "()V"⟩
abbrev cX3_page : ByteArray := prog_5_method_2_code
def yX3_page : MethodName := ⟨RX3, "page", "()LTabText$Page;"⟩
abbrev cX3_undos : ByteArray := prog_5_method_3_code
def yX3_undos : MethodName := ⟨RX3, "undos", "()I"⟩
abbrev cX3_redos : ByteArray := prog_5_method_4_code
def yX3_redos : MethodName := ⟨RX3, "redos", "()I"⟩
abbrev cX3_save : ByteArray := prog_5_method_5_code
def yX3_save : MethodName := ⟨RX3, "save", "()LTabText$Page;"⟩
abbrev cX3_stepBack : ByteArray := prog_5_method_6_code
def yX3_stepBack : MethodName := ⟨RX3, "stepBack", "()V"⟩
abbrev cX3_stepForward : ByteArray := prog_5_method_7_code
def yX3_stepForward : MethodName := ⟨RX3, "stepForward", "()V"⟩
abbrev cX3_placeBehind : ByteArray := prog_5_method_8_code
def yX3_placeBehind : MethodName := ⟨RX3, "placeBehind", "()I"⟩
abbrev cX3_goTo : ByteArray := prog_5_method_9_code
def yX3_goTo : MethodName := ⟨RX3, "goTo", "(I)V"⟩
def RX4 : String := "TabText$Input"
def TX4 : u_T := fun k => match k with
  | 0 => ("TabText$Input", "codes", "[I", true)
  | _ => ("TabText$Input", "length", "I", false)
def tyX4 : Nat → FieldType := fun k => match k with
  | 0 => .array .int
  | _ => .int
abbrev wsX40 : List Cond := u_ws RX4 TX4 2
theorem nmX4 : ∀ a, a < 2 → ∀ b, b < 2 → a ≠ b → (TX4 a).2.1 ≠ (TX4 b).2.1 := by decide +kernel
theorem tyX4_ok : ∀ k, k < 2 → parseFieldDescriptor (TX4 k).2.2.1 = some (tyX4 k) := by decide +kernel
abbrev cX4_init : ByteArray := prog_6_method_1_code
def yX4_init : MethodName := ⟨RX4, "<init>", "()V"⟩
abbrev cX4_length : ByteArray := prog_6_method_2_code
def yX4_length : MethodName := ⟨RX4, "length", "()I"⟩
abbrev cX4_isFull : ByteArray := prog_6_method_3_code
def yX4_isFull : MethodName := ⟨RX4, "isFull", "()Z"⟩
abbrev cX4_add : ByteArray := prog_6_method_4_code
def yX4_add : MethodName := ⟨RX4, "add", "(I)I"⟩
abbrev cX4_empty : ByteArray := prog_6_method_5_code
def yX4_empty : MethodName := ⟨RX4, "empty", "()I"⟩
abbrev cX4_codeAt : ByteArray := prog_6_method_6_code
def yX4_codeAt : MethodName := ⟨RX4, "codeAt", "(I)I"⟩
abbrev cX4_pageCodeAt : ByteArray := prog_6_method_7_code
def yX4_pageCodeAt : MethodName := ⟨RX4, "pageCodeAt", "(I)I"⟩
abbrev cX4_firstFault : ByteArray := prog_6_method_8_code
def yX4_firstFault : MethodName := ⟨RX4, "firstFault", "(I)I"⟩
abbrev cX4_mixInto : ByteArray := prog_6_method_9_code
def yX4_mixInto : MethodName := ⟨RX4, "mixInto", "(J)J"⟩
def RX5 : String := "TabText$Layout"
def TX5 : u_T := fun k => match k with
  | 0 => ("TabText$Layout", "cells", "LTabText$Cells;", true)
  | 1 => ("TabText$Layout", "blocks", "LTabText$Blocks;", true)
  | 2 => ("TabText$Layout", "xs", "[I", true)
  | _ => ("TabText$Layout", "blockNumbers", "[I", true)
def tyX5 : Nat → FieldType := fun k => match k with
  | 0 => .object "TabText$Cells"
  | 1 => .object "TabText$Blocks"
  | 2 => .array .int
  | _ => .array .int
abbrev wsX50 : List Cond := u_ws RX5 TX5 4
theorem nmX5 : ∀ a, a < 4 → ∀ b, b < 4 → a ≠ b → (TX5 a).2.1 ≠ (TX5 b).2.1 := by decide +kernel
theorem tyX5_ok : ∀ k, k < 4 → parseFieldDescriptor (TX5 k).2.2.1 = some (tyX5 k) := by decide +kernel
abbrev cX5_init : ByteArray := prog_7_method_1_code
def yX5_init : MethodName := ⟨RX5, "<init>", "()V"⟩
abbrev cX5_placeCells : ByteArray := prog_7_method_2_code
def yX5_placeCells : MethodName := ⟨RX5, "placeCells", "()V"⟩
abbrev cX5_placeCellsOf : ByteArray := prog_7_method_3_code
def yX5_placeCellsOf : MethodName := ⟨RX5, "placeCellsOf", "(I)V"⟩
abbrev cX5_x : ByteArray := prog_7_method_4_code
def yX5_x : MethodName := ⟨RX5, "x", "(II)I"⟩
abbrev cX5_blockNumber : ByteArray := prog_7_method_5_code
def yX5_blockNumber : MethodName := ⟨RX5, "blockNumber", "(II)I"⟩
abbrev cX5_shift : ByteArray := prog_7_method_6_code
def yX5_shift : MethodName := ⟨RX5, "shift", "(IILTabText$Format;)I"⟩
abbrev cX5_cellFact : ByteArray := prog_7_method_7_code
def yX5_cellFact : MethodName := ⟨RX5, "cellFact", "(IIILTabText$Format;)I"⟩
abbrev cX5_lineFact : ByteArray := prog_7_method_8_code
def yX5_lineFact : MethodName := ⟨RX5, "lineFact", "(II)I"⟩
abbrev cX5_shownLength : ByteArray := prog_7_method_9_code
def yX5_shownLength : MethodName := ⟨RX5, "shownLength", "(I)I"⟩
abbrev cX5_greatestShownLength : ByteArray := prog_7_method_10_code
def yX5_greatestShownLength : MethodName := ⟨RX5, "greatestShownLength", "()I"⟩
abbrev cX5_cellAt : ByteArray := prog_7_method_11_code
def yX5_cellAt : MethodName := ⟨RX5, "cellAt", "(II)I"⟩
abbrev cX5_countOtherX : ByteArray := prog_7_method_12_code
def yX5_countOtherX : MethodName := ⟨RX5, "countOtherX", "(LTabText$Layout;)I"⟩
def RX6 : String := "TabText$Order"
def TX6 : u_T := fun k => match k with
  | 0 => ("TabText$Order", "lines", "[I", true)
  | _ => ("TabText$Order", "count", "I", true)
def tyX6 : Nat → FieldType := fun k => match k with
  | 0 => .array .int
  | _ => .int
abbrev wsX60 : List Cond := u_ws RX6 TX6 2
theorem nmX6 : ∀ a, a < 2 → ∀ b, b < 2 → a ≠ b → (TX6 a).2.1 ≠ (TX6 b).2.1 := by decide +kernel
theorem tyX6_ok : ∀ k, k < 2 → parseFieldDescriptor (TX6 k).2.2.1 = some (tyX6 k) := by decide +kernel
abbrev cX6_init : ByteArray := prog_8_method_1_code
def yX6_init : MethodName := ⟨RX6, "<init>", "(I)V"⟩
abbrev cX6_lineAt : ByteArray := prog_8_method_2_code
def yX6_lineAt : MethodName := ⟨RX6, "lineAt", "(I)I"⟩
abbrev cX6_move : ByteArray := prog_8_method_3_code
def yX6_move : MethodName := ⟨RX6, "move", "(II)V"⟩
abbrev cX6_moved : ByteArray := prog_8_method_4_code
def yX6_moved : MethodName := ⟨RX6, "moved", "()I"⟩
def RX7 : String := "TabText$Page"
def TX7 : u_T := fun k => match k with
  | 0 => ("TabText$Page", "codes", "[I", true)
  | _ => ("TabText$Page", "size", "I", false)
def tyX7 : Nat → FieldType := fun k => match k with
  | 0 => .array .int
  | _ => .int
abbrev wsX70 : List Cond := u_ws RX7 TX7 2
theorem nmX7 : ∀ a, a < 2 → ∀ b, b < 2 → a ≠ b → (TX7 a).2.1 ≠ (TX7 b).2.1 := by decide +kernel
theorem tyX7_ok : ∀ k, k < 2 → parseFieldDescriptor (TX7 k).2.2.1 = some (tyX7 k) := by decide +kernel
abbrev cX7_init : ByteArray := prog_9_method_1_code
def yX7_init : MethodName := ⟨RX7, "<init>", "()V"⟩
abbrev cX7_size : ByteArray := prog_9_method_2_code
def yX7_size : MethodName := ⟨RX7, "size", "()I"⟩
abbrev cX7_codeAt : ByteArray := prog_9_method_3_code
def yX7_codeAt : MethodName := ⟨RX7, "codeAt", "(I)I"⟩
abbrev cX7_clear : ByteArray := prog_9_method_4_code
def yX7_clear : MethodName := ⟨RX7, "clear", "()V"⟩
abbrev cX7_add : ByteArray := prog_9_method_5_code
def yX7_add : MethodName := ⟨RX7, "add", "(I)V"⟩
abbrev cX7_addFrom : ByteArray := prog_9_method_6_code
def yX7_addFrom : MethodName := ⟨RX7, "addFrom", "(LTabText$Page;II)V"⟩
abbrev cX7_becomeCopyOf : ByteArray := prog_9_method_7_code
def yX7_becomeCopyOf : MethodName := ⟨RX7, "becomeCopyOf", "(LTabText$Page;)V"⟩
abbrev cX7_put : ByteArray := prog_9_method_8_code
def yX7_put : MethodName := ⟨RX7, "put", "(II)V"⟩
abbrev cX7_putInput : ByteArray := prog_9_method_9_code
def yX7_putInput : MethodName := ⟨RX7, "putInput", "(ILTabText$Input;)V"⟩
abbrev cX7_open : ByteArray := prog_9_method_10_code
def yX7_open : MethodName := ⟨RX7, "open", "(II)Z"⟩
abbrev cX7_cut : ByteArray := prog_9_method_11_code
def yX7_cut : MethodName := ⟨RX7, "cut", "(II)V"⟩
abbrev cX7_runStart : ByteArray := prog_9_method_12_code
def yX7_runStart : MethodName := ⟨RX7, "runStart", "(II)I"⟩
abbrev cX7_countRuns : ByteArray := prog_9_method_13_code
def yX7_countRuns : MethodName := ⟨RX7, "countRuns", "(III)I"⟩
abbrev cX7_replaceRuns : ByteArray := prog_9_method_14_code
def yX7_replaceRuns : MethodName := ⟨RX7, "replaceRuns", "(III)V"⟩
def RX8 : String := "TabText$Reading"
def TX8 : u_T := fun k => match k with
  | _ => ("", "", "", false)
def tyX8 : Nat → FieldType := fun k => match k with
  | _ => .int
abbrev wsX80 : List Cond := u_ws RX8 TX8 0
theorem nmX8 : ∀ a, a < 0 → ∀ b, b < 0 → a ≠ b → (TX8 a).2.1 ≠ (TX8 b).2.1 := by decide +kernel
theorem tyX8_ok : ∀ k, k < 0 → parseFieldDescriptor (TX8 k).2.2.1 = some (tyX8 k) := by decide +kernel
abbrev cX8_kindOf : ByteArray := prog_10_method_2_code
def yX8_kindOf : MethodName := ⟨RX8, "kindOf", "(LTabText$Page;II)I"⟩
abbrev cX8_isBlank : ByteArray := prog_10_method_3_code
def yX8_isBlank : MethodName := ⟨RX8, "isBlank", "(LTabText$Page;II)Z"⟩
abbrev cX8_isNumber : ByteArray := prog_10_method_4_code
def yX8_isNumber : MethodName := ⟨RX8, "isNumber", "(LTabText$Page;II)Z"⟩
abbrev cX8_wholeLength : ByteArray := prog_10_method_5_code
def yX8_wholeLength : MethodName := ⟨RX8, "wholeLength", "(LTabText$Page;II)I"⟩
abbrev cX8_valueOf : ByteArray := prog_10_method_6_code
def yX8_valueOf : MethodName := ⟨RX8, "valueOf", "(LTabText$Page;II)J"⟩
def RX9 : String := "TabText"
def TX9 : u_T := fun k => match k with
  | 0 => ("TabText", "input", "LTabText$Input;", true)
  | 1 => ("TabText", "format", "LTabText$Format;", true)
  | 2 => ("TabText", "history", "LTabText$History;", true)
  | 3 => ("TabText", "layout", "LTabText$Layout;", true)
  | _ => ("TabText", "trial", "LTabText$Layout;", true)
def tyX9 : Nat → FieldType := fun k => match k with
  | 0 => .object "TabText$Input"
  | 1 => .object "TabText$Format"
  | 2 => .object "TabText$History"
  | 3 => .object "TabText$Layout"
  | _ => .object "TabText$Layout"
abbrev wsX90 : List Cond := u_ws RX9 TX9 5
theorem nmX9 : ∀ a, a < 5 → ∀ b, b < 5 → a ≠ b → (TX9 a).2.1 ≠ (TX9 b).2.1 := by decide +kernel
theorem tyX9_ok : ∀ k, k < 5 → parseFieldDescriptor (TX9 k).2.2.1 = some (tyX9 k) := by decide +kernel
abbrev cX9_init : ByteArray := prog_1_method_1_code
def yX9_init : MethodName := ⟨RX9, "<init>", "()V"⟩
abbrev cX9_append : ByteArray := prog_1_method_2_code
def yX9_append : MethodName := ⟨RX9, "append", "(I)I"⟩
abbrev cX9_clearInput : ByteArray := prog_1_method_3_code
def yX9_clearInput : MethodName := ⟨RX9, "clearInput", "()I"⟩
abbrev cX9_firstError : ByteArray := prog_1_method_4_code
def yX9_firstError : MethodName := ⟨RX9, "firstError", "(I)I"⟩
abbrev cX9_load : ByteArray := prog_1_method_5_code
def yX9_load : MethodName := ⟨RX9, "load", "()I"⟩
abbrev cX9_type : ByteArray := prog_1_method_6_code
def yX9_type : MethodName := ⟨RX9, "type", "(IIII)I"⟩
abbrev cX9_erase : ByteArray := prog_1_method_7_code
def yX9_erase : MethodName := ⟨RX9, "erase", "(III)I"⟩
abbrev cX9_setCell : ByteArray := prog_1_method_8_code
def yX9_setCell : MethodName := ⟨RX9, "setCell", "(II)I"⟩
abbrev cX9_insertLine : ByteArray := prog_1_method_9_code
def yX9_insertLine : MethodName := ⟨RX9, "insertLine", "(I)I"⟩
abbrev cX9_removeLine : ByteArray := prog_1_method_10_code
def yX9_removeLine : MethodName := ⟨RX9, "removeLine", "(I)I"⟩
abbrev cX9_moveLine : ByteArray := prog_1_method_11_code
def yX9_moveLine : MethodName := ⟨RX9, "moveLine", "(II)I"⟩
abbrev cX9_sort : ByteArray := prog_1_method_12_code
def yX9_sort : MethodName := ⟨RX9, "sort", "(IIZ)I"⟩
abbrev cX9_insertColumn : ByteArray := prog_1_method_13_code
def yX9_insertColumn : MethodName := ⟨RX9, "insertColumn", "(I)I"⟩
abbrev cX9_removeColumn : ByteArray := prog_1_method_14_code
def yX9_removeColumn : MethodName := ⟨RX9, "removeColumn", "(I)I"⟩
abbrev cX9_retab : ByteArray := prog_1_method_15_code
def yX9_retab : MethodName := ⟨RX9, "retab", "(II)I"⟩
abbrev cX9_undo : ByteArray := prog_1_method_16_code
def yX9_undo : MethodName := ⟨RX9, "undo", "()I"⟩
abbrev cX9_redo : ByteArray := prog_1_method_17_code
def yX9_redo : MethodName := ⟨RX9, "redo", "()I"⟩
abbrev cX9_setAlignment : ByteArray := prog_1_method_18_code
def yX9_setAlignment : MethodName := ⟨RX9, "setAlignment", "(II)I"⟩
abbrev cX9_setSpacing : ByteArray := prog_1_method_19_code
def yX9_setSpacing : MethodName := ⟨RX9, "setSpacing", "(II)I"⟩
abbrev cX9_count : ByteArray := prog_1_method_20_code
def yX9_count : MethodName := ⟨RX9, "count", "(I)I"⟩
abbrev cX9_line : ByteArray := prog_1_method_21_code
def yX9_line : MethodName := ⟨RX9, "line", "(II)I"⟩
abbrev cX9_cell : ByteArray := prog_1_method_22_code
def yX9_cell : MethodName := ⟨RX9, "cell", "(III)I"⟩
abbrev cX9_letter : ByteArray := prog_1_method_23_code
def yX9_letter : MethodName := ⟨RX9, "letter", "(III)I"⟩
abbrev cX9_shown : ByteArray := prog_1_method_24_code
def yX9_shown : MethodName := ⟨RX9, "shown", "(II)I"⟩
abbrev cX9_hit : ByteArray := prog_1_method_25_code
def yX9_hit : MethodName := ⟨RX9, "hit", "(II)I"⟩
abbrev cX9_find : ByteArray := prog_1_method_26_code
def yX9_find : MethodName := ⟨RX9, "find", "(II)I"⟩
abbrev cX9_block : ByteArray := prog_1_method_27_code
def yX9_block : MethodName := ⟨RX9, "block", "(II)I"⟩
abbrev cX9_sum : ByteArray := prog_1_method_28_code
def yX9_sum : MethodName := ⟨RX9, "sum", "(I)J"⟩
abbrev cX9_mean : ByteArray := prog_1_method_29_code
def yX9_mean : MethodName := ⟨RX9, "mean", "(I)D"⟩
abbrev cX9_touched : ByteArray := prog_1_method_30_code
def yX9_touched : MethodName := ⟨RX9, "touched", "(I)I"⟩
abbrev cX9_ifTyped : ByteArray := prog_1_method_31_code
def yX9_ifTyped : MethodName := ⟨RX9, "ifTyped", "(IIII)I"⟩
abbrev cX9_digest : ByteArray := prog_1_method_32_code
def yX9_digest : MethodName := ⟨RX9, "digest", "()J"⟩
abbrev cX9_cells : ByteArray := prog_1_method_33_code
def yX9_cells : MethodName := ⟨RX9, "cells", "()LTabText$Cells;"⟩
abbrev cX9_measure : ByteArray := prog_1_method_34_code
def yX9_measure : MethodName := ⟨RX9, "measure", "(LTabText$Layout;)V"⟩
abbrev cX9_requireLine : ByteArray := prog_1_method_35_code
def yX9_requireLine : MethodName := ⟨RX9, "requireLine", "(I)V"⟩
abbrev cX9_requireCell : ByteArray := prog_1_method_36_code
def yX9_requireCell : MethodName := ⟨RX9, "requireCell", "(II)V"⟩
abbrev cX9_requireOffset : ByteArray := prog_1_method_37_code
def yX9_requireOffset : MethodName := ⟨RX9, "requireOffset", "(III)V"⟩
abbrev cX9_requireTypable : ByteArray := prog_1_method_38_code
def yX9_requireTypable : MethodName := ⟨RX9, "requireTypable", "(IIII)V"⟩
abbrev cX9_requireShownPlace : ByteArray := prog_1_method_39_code
def yX9_requireShownPlace : MethodName := ⟨RX9, "requireShownPlace", "(II)V"⟩
abbrev cX9_requireBlock : ByteArray := prog_1_method_40_code
def yX9_requireBlock : MethodName := ⟨RX9, "requireBlock", "(I)V"⟩
abbrev cX9_requireInput : ByteArray := prog_1_method_41_code
def yX9_requireInput : MethodName := ⟨RX9, "requireInput", "(I)V"⟩
abbrev cX9_signAt : ByteArray := prog_1_method_42_code
def yX9_signAt : MethodName := ⟨RX9, "signAt", "(III)I"⟩
abbrev cX9_equalsInput : ByteArray := prog_1_method_43_code
def yX9_equalsInput : MethodName := ⟨RX9, "equalsInput", "(II)Z"⟩
abbrev cX9_arrange : ByteArray := prog_1_method_44_code
def yX9_arrange : MethodName := ⟨RX9, "arrange", "(LTabText$Order;)V"⟩
abbrev cX9_sortLines : ByteArray := prog_1_method_45_code
def yX9_sortLines : MethodName := ⟨RX9, "sortLines", "(LTabText$Order;IIIZ)V"⟩
abbrev cX9_comesBefore : ByteArray := prog_1_method_46_code
def yX9_comesBefore : MethodName := ⟨RX9, "comesBefore", "(IIIZ)Z"⟩
abbrev cX9_sortRank : ByteArray := prog_1_method_47_code
def yX9_sortRank : MethodName := ⟨RX9, "sortRank", "(I)I"⟩
abbrev cX9_compareWords : ByteArray := prog_1_method_48_code
def yX9_compareWords : MethodName := ⟨RX9, "compareWords", "(III)I"⟩
abbrev cX9_countFact : ByteArray := prog_1_method_49_code
def yX9_countFact : MethodName := ⟨RX9, "countFact", "(I)I"⟩
abbrev cX9_mixLine : ByteArray := prog_1_method_50_code
def yX9_mixLine : MethodName := ⟨RX9, "mixLine", "(JI)J"⟩
abbrev cX9_mix : ByteArray := prog_1_method_51_code
def yX9_mix : MethodName := ⟨RX9, "mix", "(JJ)J"⟩
abbrev cX9_isSign : ByteArray := prog_1_method_52_code
def yX9_isSign : MethodName := ⟨RX9, "isSign", "(I)Z"⟩
abbrev cX9_isDigit : ByteArray := prog_1_method_53_code
def yX9_isDigit : MethodName := ⟨RX9, "isDigit", "(I)Z"⟩
def RX10 : String := "TabTextModel"
def TX10 : u_T := fun k => match k with
  | 0 => ("TabTextModel", "thrown", "I", false)
  | 1 => ("TabTextModel", "z", "[I", true)
  | 2 => ("TabTextModel", "spare", "[I", true)
  | 3 => ("TabTextModel", "undos", "[I", true)
  | 4 => ("TabTextModel", "redos", "[I", true)
  | 5 => ("TabTextModel", "undoable", "I", false)
  | 6 => ("TabTextModel", "redoable", "I", false)
  | 7 => ("TabTextModel", "alignments", "[I", true)
  | 8 => ("TabTextModel", "padding", "I", false)
  | 9 => ("TabTextModel", "leastWidth", "I", false)
  | 10 => ("TabTextModel", "grid", "I", false)
  | 11 => ("TabTextModel", "size", "I", false)
  | 12 => ("TabTextModel", "buffer", "[I", true)
  | 13 => ("TabTextModel", "blocks", "I", false)
  | 14 => ("TabTextModel", "column", "[I", true)
  | 15 => ("TabTextModel", "first", "[I", true)
  | 16 => ("TabTextModel", "last", "[I", true)
  | 17 => ("TabTextModel", "align", "[I", true)
  | 18 => ("TabTextModel", "content", "[I", true)
  | 19 => ("TabTextModel", "part", "[I", true)
  | 20 => ("TabTextModel", "widths", "[I", true)
  | 21 => ("TabTextModel", "order", "[I", true)
  | 22 => ("TabTextModel", "oldX", "[I", true)
  | _ => ("TabTextModel", "hash", "J", false)
def tyX10 : Nat → FieldType := fun k => match k with
  | 0 => .int
  | 1 => .array .int
  | 2 => .array .int
  | 3 => .array .int
  | 4 => .array .int
  | 5 => .int
  | 6 => .int
  | 7 => .array .int
  | 8 => .int
  | 9 => .int
  | 10 => .int
  | 11 => .int
  | 12 => .array .int
  | 13 => .int
  | 14 => .array .int
  | 15 => .array .int
  | 16 => .array .int
  | 17 => .array .int
  | 18 => .array .int
  | 19 => .array .int
  | 20 => .array .int
  | 21 => .array .int
  | 22 => .array .int
  | _ => .long
abbrev wsX100 : List Cond := u_ws RX10 TX10 24
theorem nmX10 : ∀ a, a < 24 → ∀ b, b < 24 → a ≠ b → (TX10 a).2.1 ≠ (TX10 b).2.1 := by decide +kernel
theorem tyX10_ok : ∀ k, k < 24 → parseFieldDescriptor (TX10 k).2.2.1 = some (tyX10 k) := by decide +kernel
abbrev cX10_init : ByteArray := prog_12_method_1_code
def yX10_init : MethodName := ⟨RX10, "<init>", "()V"⟩
abbrev cX10_thrown : ByteArray := prog_12_method_2_code
def yX10_thrown : MethodName := ⟨RX10, "thrown", "()I"⟩
abbrev cX10_within : ByteArray := prog_12_method_3_code
def yX10_within : MethodName := ⟨RX10, "within", "(III)Z"⟩
abbrev cX10_cells : ByteArray := prog_12_method_4_code
def yX10_cells : MethodName := ⟨RX10, "cells", "(I)I"⟩
abbrev cX10_lengthOf : ByteArray := prog_12_method_5_code
def yX10_lengthOf : MethodName := ⟨RX10, "lengthOf", "(II)I"⟩
abbrev cX10_setLength : ByteArray := prog_12_method_6_code
def yX10_setLength : MethodName := ⟨RX10, "setLength", "(III)V"⟩
abbrev cX10_place : ByteArray := prog_12_method_7_code
def yX10_place : MethodName := ⟨RX10, "place", "(III)I"⟩
abbrev cX10_signOf : ByteArray := prog_12_method_8_code
def yX10_signOf : MethodName := ⟨RX10, "signOf", "(III)I"⟩
abbrev cX10_isLine : ByteArray := prog_12_method_9_code
def yX10_isLine : MethodName := ⟨RX10, "isLine", "(I)Z"⟩
abbrev cX10_isCell : ByteArray := prog_12_method_10_code
def yX10_isCell : MethodName := ⟨RX10, "isCell", "(II)Z"⟩
abbrev cX10_isPlace : ByteArray := prog_12_method_11_code
def yX10_isPlace : MethodName := ⟨RX10, "isPlace", "(III)Z"⟩
abbrev cX10_copyCell : ByteArray := prog_12_method_12_code
def yX10_copyCell : MethodName := ⟨RX10, "copyCell", "(IIII)V"⟩
abbrev cX10_copyLine : ByteArray := prog_12_method_13_code
def yX10_copyLine : MethodName := ⟨RX10, "copyLine", "(II)V"⟩
abbrev cX10_openLine : ByteArray := prog_12_method_14_code
def yX10_openLine : MethodName := ⟨RX10, "openLine", "(I)V"⟩
abbrev cX10_closeLine : ByteArray := prog_12_method_15_code
def yX10_closeLine : MethodName := ⟨RX10, "closeLine", "(I)V"⟩
abbrev cX10_openCell : ByteArray := prog_12_method_16_code
def yX10_openCell : MethodName := ⟨RX10, "openCell", "(II)V"⟩
abbrev cX10_closeCell : ByteArray := prog_12_method_17_code
def yX10_closeCell : MethodName := ⟨RX10, "closeCell", "(II)V"⟩
abbrev cX10_giveTail : ByteArray := prog_12_method_18_code
def yX10_giveTail : MethodName := ⟨RX10, "giveTail", "(IIIII)V"⟩
abbrev cX10_save : ByteArray := prog_12_method_19_code
def yX10_save : MethodName := ⟨RX10, "save", "()V"⟩
abbrev cX10_undo : ByteArray := prog_12_method_20_code
def yX10_undo : MethodName := ⟨RX10, "undo", "()I"⟩
abbrev cX10_redo : ByteArray := prog_12_method_21_code
def yX10_redo : MethodName := ⟨RX10, "redo", "()I"⟩
abbrev cX10_append : ByteArray := prog_12_method_22_code
def yX10_append : MethodName := ⟨RX10, "append", "(I)I"⟩
abbrev cX10_clearInput : ByteArray := prog_12_method_23_code
def yX10_clearInput : MethodName := ⟨RX10, "clearInput", "()I"⟩
abbrev cX10_isFigure : ByteArray := prog_12_method_24_code
def yX10_isFigure : MethodName := ⟨RX10, "isFigure", "(I)Z"⟩
abbrev cX10_isSign : ByteArray := prog_12_method_25_code
def yX10_isSign : MethodName := ⟨RX10, "isSign", "(I)Z"⟩
abbrev cX10_rightLength : ByteArray := prog_12_method_26_code
def yX10_rightLength : MethodName := ⟨RX10, "rightLength", "(I)I"⟩
abbrev cX10_isRight : ByteArray := prog_12_method_27_code
def yX10_isRight : MethodName := ⟨RX10, "isRight", "(I)Z"⟩
abbrev cX10_firstError : ByteArray := prog_12_method_28_code
def yX10_firstError : MethodName := ⟨RX10, "firstError", "(I)I"⟩
abbrev cX10_layBuffer : ByteArray := prog_12_method_29_code
def yX10_layBuffer : MethodName := ⟨RX10, "layBuffer", "(I)V"⟩
abbrev cX10_load : ByteArray := prog_12_method_30_code
def yX10_load : MethodName := ⟨RX10, "load", "()I"⟩
abbrev cX10_isCode : ByteArray := prog_12_method_31_code
def yX10_isCode : MethodName := ⟨RX10, "isCode", "(I)Z"⟩
abbrev cX10_typing : ByteArray := prog_12_method_32_code
def yX10_typing : MethodName := ⟨RX10, "typing", "(IIII)I"⟩
abbrev cX10_putSign : ByteArray := prog_12_method_33_code
def yX10_putSign : MethodName := ⟨RX10, "putSign", "(IIII)I"⟩
abbrev cX10_putTab : ByteArray := prog_12_method_34_code
def yX10_putTab : MethodName := ⟨RX10, "putTab", "(III)I"⟩
abbrev cX10_putEnd : ByteArray := prog_12_method_35_code
def yX10_putEnd : MethodName := ⟨RX10, "putEnd", "(III)I"⟩
abbrev cX10_put : ByteArray := prog_12_method_36_code
def yX10_put : MethodName := ⟨RX10, "put", "(IIII)I"⟩
abbrev cX10_type : ByteArray := prog_12_method_37_code
def yX10_type : MethodName := ⟨RX10, "type", "(IIII)I"⟩
abbrev cX10_behind : ByteArray := prog_12_method_38_code
def yX10_behind : MethodName := ⟨RX10, "behind", "(III)I"⟩
abbrev cX10_mayErase : ByteArray := prog_12_method_39_code
def yX10_mayErase : MethodName := ⟨RX10, "mayErase", "(III)Z"⟩
abbrev cX10_takeSign : ByteArray := prog_12_method_40_code
def yX10_takeSign : MethodName := ⟨RX10, "takeSign", "(III)V"⟩
abbrev cX10_takeEnd : ByteArray := prog_12_method_41_code
def yX10_takeEnd : MethodName := ⟨RX10, "takeEnd", "(II)V"⟩
abbrev cX10_erase : ByteArray := prog_12_method_42_code
def yX10_erase : MethodName := ⟨RX10, "erase", "(III)I"⟩
abbrev cX10_setCell : ByteArray := prog_12_method_43_code
def yX10_setCell : MethodName := ⟨RX10, "setCell", "(II)I"⟩
abbrev cX10_insertLine : ByteArray := prog_12_method_44_code
def yX10_insertLine : MethodName := ⟨RX10, "insertLine", "(I)I"⟩
abbrev cX10_removeLine : ByteArray := prog_12_method_45_code
def yX10_removeLine : MethodName := ⟨RX10, "removeLine", "(I)I"⟩
abbrev cX10_setAside : ByteArray := prog_12_method_46_code
def yX10_setAside : MethodName := ⟨RX10, "setAside", "()V"⟩
abbrev cX10_takeAside : ByteArray := prog_12_method_47_code
def yX10_takeAside : MethodName := ⟨RX10, "takeAside", "(II)V"⟩
abbrev cX10_moveLine : ByteArray := prog_12_method_48_code
def yX10_moveLine : MethodName := ⟨RX10, "moveLine", "(II)I"⟩
abbrev cX10_isBlank : ByteArray := prog_12_method_49_code
def yX10_isBlank : MethodName := ⟨RX10, "isBlank", "(II)Z"⟩
abbrev cX10_figuresFrom : ByteArray := prog_12_method_50_code
def yX10_figuresFrom : MethodName := ⟨RX10, "figuresFrom", "(III)I"⟩
abbrev cX10_isNumber : ByteArray := prog_12_method_51_code
def yX10_isNumber : MethodName := ⟨RX10, "isNumber", "(II)Z"⟩
abbrev cX10_kindOf : ByteArray := prog_12_method_52_code
def yX10_kindOf : MethodName := ⟨RX10, "kindOf", "(II)I"⟩
abbrev cX10_wholeLength : ByteArray := prog_12_method_53_code
def yX10_wholeLength : MethodName := ⟨RX10, "wholeLength", "(II)I"⟩
abbrev cX10_partLength : ByteArray := prog_12_method_54_code
def yX10_partLength : MethodName := ⟨RX10, "partLength", "(II)I"⟩
abbrev cX10_valueOf : ByteArray := prog_12_method_55_code
def yX10_valueOf : MethodName := ⟨RX10, "valueOf", "(II)J"⟩
abbrev cX10_isEnded : ByteArray := prog_12_method_56_code
def yX10_isEnded : MethodName := ⟨RX10, "isEnded", "(II)Z"⟩
abbrev cX10_numbersIn : ByteArray := prog_12_method_57_code
def yX10_numbersIn : MethodName := ⟨RX10, "numbersIn", "(I)I"⟩
abbrev cX10_isDecimal : ByteArray := prog_12_method_58_code
def yX10_isDecimal : MethodName := ⟨RX10, "isDecimal", "(I)Z"⟩
abbrev cX10_measure : ByteArray := prog_12_method_59_code
def yX10_measure : MethodName := ⟨RX10, "measure", "(I)V"⟩
abbrev cX10_layBlocks : ByteArray := prog_12_method_60_code
def yX10_layBlocks : MethodName := ⟨RX10, "layBlocks", "()I"⟩
abbrev cX10_blockOf : ByteArray := prog_12_method_61_code
def yX10_blockOf : MethodName := ⟨RX10, "blockOf", "(II)I"⟩
abbrev cX10_xOf : ByteArray := prog_12_method_62_code
def yX10_xOf : MethodName := ⟨RX10, "xOf", "(II)I"⟩
abbrev cX10_shiftOf : ByteArray := prog_12_method_63_code
def yX10_shiftOf : MethodName := ⟨RX10, "shiftOf", "(II)I"⟩
abbrev cX10_shownLength : ByteArray := prog_12_method_64_code
def yX10_shownLength : MethodName := ⟨RX10, "shownLength", "(I)I"⟩
abbrev cX10_isBlock : ByteArray := prog_12_method_65_code
def yX10_isBlock : MethodName := ⟨RX10, "isBlock", "(I)Z"⟩
abbrev cX10_comparedWords : ByteArray := prog_12_method_66_code
def yX10_comparedWords : MethodName := ⟨RX10, "comparedWords", "(III)I"⟩
abbrev cX10_rankOf : ByteArray := prog_12_method_67_code
def yX10_rankOf : MethodName := ⟨RX10, "rankOf", "(I)I"⟩
abbrev cX10_isBehind : ByteArray := prog_12_method_68_code
def yX10_isBehind : MethodName := ⟨RX10, "isBehind", "(IIIZ)Z"⟩
abbrev cX10_sortNow : ByteArray := prog_12_method_69_code
def yX10_sortNow : MethodName := ⟨RX10, "sortNow", "(IIZ)I"⟩
abbrev cX10_sort : ByteArray := prog_12_method_70_code
def yX10_sort : MethodName := ⟨RX10, "sort", "(IIZ)I"⟩
abbrev cX10_hasRoom : ByteArray := prog_12_method_71_code
def yX10_hasRoom : MethodName := ⟨RX10, "hasRoom", "(I)Z"⟩
abbrev cX10_insertColumn : ByteArray := prog_12_method_72_code
def yX10_insertColumn : MethodName := ⟨RX10, "insertColumn", "(I)I"⟩
abbrev cX10_removeColumn : ByteArray := prog_12_method_73_code
def yX10_removeColumn : MethodName := ⟨RX10, "removeColumn", "(I)I"⟩
abbrev cX10_runAt : ByteArray := prog_12_method_74_code
def yX10_runAt : MethodName := ⟨RX10, "runAt", "(III)I"⟩
abbrev cX10_runs : ByteArray := prog_12_method_75_code
def yX10_runs : MethodName := ⟨RX10, "runs", "(II)I"⟩
abbrev cX10_makeTabs : ByteArray := prog_12_method_76_code
def yX10_makeTabs : MethodName := ⟨RX10, "makeTabs", "(II)V"⟩
abbrev cX10_retab : ByteArray := prog_12_method_77_code
def yX10_retab : MethodName := ⟨RX10, "retab", "(II)I"⟩
abbrev cX10_setAlignment : ByteArray := prog_12_method_78_code
def yX10_setAlignment : MethodName := ⟨RX10, "setAlignment", "(II)I"⟩
abbrev cX10_setSpacing : ByteArray := prog_12_method_79_code
def yX10_setSpacing : MethodName := ⟨RX10, "setSpacing", "(II)I"⟩
abbrev cX10_allCells : ByteArray := prog_12_method_80_code
def yX10_allCells : MethodName := ⟨RX10, "allCells", "()I"⟩
abbrev cX10_signsIn : ByteArray := prog_12_method_81_code
def yX10_signsIn : MethodName := ⟨RX10, "signsIn", "(I)I"⟩
abbrev cX10_allSigns : ByteArray := prog_12_method_82_code
def yX10_allSigns : MethodName := ⟨RX10, "allSigns", "()I"⟩
abbrev cX10_ofKind : ByteArray := prog_12_method_83_code
def yX10_ofKind : MethodName := ⟨RX10, "ofKind", "(I)I"⟩
abbrev cX10_longest : ByteArray := prog_12_method_84_code
def yX10_longest : MethodName := ⟨RX10, "longest", "()I"⟩
abbrev cX10_counted : ByteArray := prog_12_method_85_code
def yX10_counted : MethodName := ⟨RX10, "counted", "(I)I"⟩
abbrev cX10_count : ByteArray := prog_12_method_86_code
def yX10_count : MethodName := ⟨RX10, "count", "(I)I"⟩
abbrev cX10_fixedLength : ByteArray := prog_12_method_87_code
def yX10_fixedLength : MethodName := ⟨RX10, "fixedLength", "(I)I"⟩
abbrev cX10_lineNow : ByteArray := prog_12_method_88_code
def yX10_lineNow : MethodName := ⟨RX10, "lineNow", "(II)I"⟩
abbrev cX10_line : ByteArray := prog_12_method_89_code
def yX10_line : MethodName := ⟨RX10, "line", "(II)I"⟩
abbrev cX10_cellNow : ByteArray := prog_12_method_90_code
def yX10_cellNow : MethodName := ⟨RX10, "cellNow", "(III)I"⟩
abbrev cX10_cell : ByteArray := prog_12_method_91_code
def yX10_cell : MethodName := ⟨RX10, "cell", "(III)I"⟩
abbrev cX10_letter : ByteArray := prog_12_method_92_code
def yX10_letter : MethodName := ⟨RX10, "letter", "(III)I"⟩
abbrev cX10_shownNow : ByteArray := prog_12_method_93_code
def yX10_shownNow : MethodName := ⟨RX10, "shownNow", "(II)I"⟩
abbrev cX10_shown : ByteArray := prog_12_method_94_code
def yX10_shown : MethodName := ⟨RX10, "shown", "(II)I"⟩
abbrev cX10_hit : ByteArray := prog_12_method_95_code
def yX10_hit : MethodName := ⟨RX10, "hit", "(II)I"⟩
abbrev cX10_isBuffer : ByteArray := prog_12_method_96_code
def yX10_isBuffer : MethodName := ⟨RX10, "isBuffer", "(II)Z"⟩
abbrev cX10_findNow : ByteArray := prog_12_method_97_code
def yX10_findNow : MethodName := ⟨RX10, "findNow", "(II)I"⟩
abbrev cX10_find : ByteArray := prog_12_method_98_code
def yX10_find : MethodName := ⟨RX10, "find", "(II)I"⟩
abbrev cX10_blockNow : ByteArray := prog_12_method_99_code
def yX10_blockNow : MethodName := ⟨RX10, "blockNow", "(II)I"⟩
abbrev cX10_block : ByteArray := prog_12_method_100_code
def yX10_block : MethodName := ⟨RX10, "block", "(II)I"⟩
abbrev cX10_sumOf : ByteArray := prog_12_method_101_code
def yX10_sumOf : MethodName := ⟨RX10, "sumOf", "(I)J"⟩
abbrev cX10_sum : ByteArray := prog_12_method_102_code
def yX10_sum : MethodName := ⟨RX10, "sum", "(I)J"⟩
abbrev cX10_mean : ByteArray := prog_12_method_103_code
def yX10_mean : MethodName := ⟨RX10, "mean", "(I)D"⟩
abbrev cX10_touched : ByteArray := prog_12_method_104_code
def yX10_touched : MethodName := ⟨RX10, "touched", "(I)I"⟩
abbrev cX10_changedX : ByteArray := prog_12_method_105_code
def yX10_changedX : MethodName := ⟨RX10, "changedX", "(IIII)I"⟩
abbrev cX10_ifTyped : ByteArray := prog_12_method_106_code
def yX10_ifTyped : MethodName := ⟨RX10, "ifTyped", "(IIII)I"⟩
abbrev cX10_mix : ByteArray := prog_12_method_107_code
def yX10_mix : MethodName := ⟨RX10, "mix", "(J)V"⟩
abbrev cX10_mixLine : ByteArray := prog_12_method_108_code
def yX10_mixLine : MethodName := ⟨RX10, "mixLine", "(I)V"⟩
abbrev cX10_digest : ByteArray := prog_12_method_109_code
def yX10_digest : MethodName := ⟨RX10, "digest", "()J"⟩
def RJ6 : String := "java/lang/Integer"
def TJ6 : u_T := fun k => match k with
  | _ => ("", "", "", false)
def tyJ6 : Nat → FieldType := fun k => match k with
  | _ => .int
abbrev wsJ60 : List Cond := u_ws RJ6 TJ6 0
theorem nmJ6 : ∀ a, a < 0 → ∀ b, b < 0 → a ≠ b → (TJ6 a).2.1 ≠ (TJ6 b).2.1 := by decide +kernel
theorem tyJ6_ok : ∀ k, k < 0 → parseFieldDescriptor (TJ6 k).2.2.1 = some (tyJ6 k) := by decide +kernel
abbrev cJ6_compare_7cf53 : ByteArray := prog_17_method_40_code
def yJ6_compare_7cf53 : MethodName := ⟨RJ6, "compare", "(II)I"⟩
def RJ13 : String := "java/lang/Long"
def TJ13 : u_T := fun k => match k with
  | _ => ("", "", "", false)
def tyJ13 : Nat → FieldType := fun k => match k with
  | _ => .int
abbrev wsJ130 : List Cond := u_ws RJ13 TJ13 0
theorem nmJ13 : ∀ a, a < 0 → ∀ b, b < 0 → a ≠ b → (TJ13 a).2.1 ≠ (TJ13 b).2.1 := by decide +kernel
theorem tyJ13_ok : ∀ k, k < 0 → parseFieldDescriptor (TJ13 k).2.2.1 = some (tyJ13 k) := by decide +kernel
abbrev cJ13_compare_74951 : ByteArray := prog_18_method_42_code
def yJ13_compare_74951 : MethodName := ⟨RJ13, "compare", "(JJ)I"⟩
def RJ9 : String := "java/lang/Math"
def TJ9 : u_T := fun k => match k with
  | _ => ("", "", "", false)
def tyJ9 : Nat → FieldType := fun k => match k with
  | _ => .int
abbrev wsJ90 : List Cond := u_ws RJ9 TJ9 0
theorem nmJ9 : ∀ a, a < 0 → ∀ b, b < 0 → a ≠ b → (TJ9 a).2.1 ≠ (TJ9 b).2.1 := by decide +kernel
theorem tyJ9_ok : ∀ k, k < 0 → parseFieldDescriptor (TJ9 k).2.2.1 = some (tyJ9 k) := by decide +kernel
abbrev cJ9_max_7cf53 : ByteArray := prog_19_method_65_code
def yJ9_max_7cf53 : MethodName := ⟨RJ9, "max", "(II)I"⟩
abbrev cJ9_min_7cf53 : ByteArray := prog_19_method_69_code
def yJ9_min_7cf53 : MethodName := ⟨RJ9, "min", "(II)I"⟩
def RJ0 : String := "java/lang/String"
def TJ0 : u_T := fun k => match k with
  | _ => ("", "", "", false)
def tyJ0 : Nat → FieldType := fun k => match k with
  | _ => .int
abbrev wsJ00 : List Cond := u_ws RJ0 TJ0 0
theorem nmJ0 : ∀ a, a < 0 → ∀ b, b < 0 → a ≠ b → (TJ0 a).2.1 ≠ (TJ0 b).2.1 := by decide +kernel
theorem tyJ0_ok : ∀ k, k < 0 → parseFieldDescriptor (TJ0 k).2.2.1 = some (tyJ0 k) := by decide +kernel
def RJ10 : String := "java/lang/System"
def TJ10 : u_T := fun k => match k with
  | _ => ("", "", "", false)
def tyJ10 : Nat → FieldType := fun k => match k with
  | _ => .int
abbrev wsJ100 : List Cond := u_ws RJ10 TJ10 0
theorem nmJ10 : ∀ a, a < 0 → ∀ b, b < 0 → a ≠ b → (TJ10 a).2.1 ≠ (TJ10 b).2.1 := by decide +kernel
theorem tyJ10_ok : ∀ k, k < 0 → parseFieldDescriptor (TJ10 k).2.2.1 = some (tyJ10 k) := by decide +kernel
def RL : String := "TabTextLaw"
abbrev cL_append : ByteArray := method_3_code
def yL_append : MethodName := ⟨RL, "append", "(LTabText;I[J)I"⟩
abbrev cL_firstError : ByteArray := method_4_code
def yL_firstError : MethodName := ⟨RL, "firstError", "(LTabText;I[J)I"⟩
abbrev cL_load : ByteArray := method_5_code
def yL_load : MethodName := ⟨RL, "load", "(LTabText;[J)I"⟩
abbrev cL_type : ByteArray := method_6_code
def yL_type : MethodName := ⟨RL, "type", "(LTabText;IIII[J)I"⟩
abbrev cL_erase : ByteArray := method_7_code
def yL_erase : MethodName := ⟨RL, "erase", "(LTabText;III[J)I"⟩
abbrev cL_setCell : ByteArray := method_8_code
def yL_setCell : MethodName := ⟨RL, "setCell", "(LTabText;II[J)I"⟩
abbrev cL_insertLine : ByteArray := method_9_code
def yL_insertLine : MethodName := ⟨RL, "insertLine", "(LTabText;I[J)I"⟩
abbrev cL_removeLine : ByteArray := method_10_code
def yL_removeLine : MethodName := ⟨RL, "removeLine", "(LTabText;I[J)I"⟩
abbrev cL_moveLine : ByteArray := method_11_code
def yL_moveLine : MethodName := ⟨RL, "moveLine", "(LTabText;II[J)I"⟩
abbrev cL_sort : ByteArray := method_12_code
def yL_sort : MethodName := ⟨RL, "sort", "(LTabText;IIZ[J)I"⟩
abbrev cL_insertColumn : ByteArray := method_13_code
def yL_insertColumn : MethodName := ⟨RL, "insertColumn", "(LTabText;I[J)I"⟩
abbrev cL_removeColumn : ByteArray := method_14_code
def yL_removeColumn : MethodName := ⟨RL, "removeColumn", "(LTabText;I[J)I"⟩
abbrev cL_retab : ByteArray := method_15_code
def yL_retab : MethodName := ⟨RL, "retab", "(LTabText;II[J)I"⟩
abbrev cL_undo : ByteArray := method_16_code
def yL_undo : MethodName := ⟨RL, "undo", "(LTabText;[J)I"⟩
abbrev cL_redo : ByteArray := method_17_code
def yL_redo : MethodName := ⟨RL, "redo", "(LTabText;[J)I"⟩
abbrev cL_setAlignment : ByteArray := method_18_code
def yL_setAlignment : MethodName := ⟨RL, "setAlignment", "(LTabText;II[J)I"⟩
abbrev cL_setSpacing : ByteArray := method_19_code
def yL_setSpacing : MethodName := ⟨RL, "setSpacing", "(LTabText;II[J)I"⟩
abbrev cL_count : ByteArray := method_20_code
def yL_count : MethodName := ⟨RL, "count", "(LTabText;I[J)I"⟩
abbrev cL_line : ByteArray := method_21_code
def yL_line : MethodName := ⟨RL, "line", "(LTabText;II[J)I"⟩
abbrev cL_cell : ByteArray := method_22_code
def yL_cell : MethodName := ⟨RL, "cell", "(LTabText;III[J)I"⟩
abbrev cL_letter : ByteArray := method_23_code
def yL_letter : MethodName := ⟨RL, "letter", "(LTabText;III[J)I"⟩
abbrev cL_shown : ByteArray := method_24_code
def yL_shown : MethodName := ⟨RL, "shown", "(LTabText;II[J)I"⟩
abbrev cL_hit : ByteArray := method_25_code
def yL_hit : MethodName := ⟨RL, "hit", "(LTabText;II[J)I"⟩
abbrev cL_find : ByteArray := method_26_code
def yL_find : MethodName := ⟨RL, "find", "(LTabText;II[J)I"⟩
abbrev cL_block : ByteArray := method_27_code
def yL_block : MethodName := ⟨RL, "block", "(LTabText;II[J)I"⟩
abbrev cL_sum : ByteArray := method_28_code
def yL_sum : MethodName := ⟨RL, "sum", "(LTabText;I[J)I"⟩
abbrev cL_mean : ByteArray := method_29_code
def yL_mean : MethodName := ⟨RL, "mean", "(LTabText;I[D)I"⟩
abbrev cL_touched : ByteArray := method_30_code
def yL_touched : MethodName := ⟨RL, "touched", "(LTabText;I[J)I"⟩
abbrev cL_ifTyped : ByteArray := method_31_code
def yL_ifTyped : MethodName := ⟨RL, "ifTyped", "(LTabText;IIII[J)I"⟩
abbrev cL_law : ByteArray := code
def yL_law : MethodName := ⟨RL, "law", "([I)Z"⟩
abbrev vwCl : List vw_C := [(RX0, TX0, 10), (RX1, TX1, 7), (RX2, TX2, 4), (RX3, TX3, 5), (RX4, TX4, 2), (RX5, TX5, 4), (RX6, TX6, 2), (RX7, TX7, 2), (RX9, TX9, 5), (RX10, TX10, 24)]
end
section
/-! THE PURE LAYER: objects by numbers (0: the script; i: the i-th thing made since the law's start, at zg1 + i), a heap as a function of numbers, and 'Zn': the method I at pc comes to an end with Q, whatever machine it stands in. -/
abbrev zO : Type := vp_A ⊕ (Nat × List Value)
abbrev zH : Type := (Nat → Option zO) × Nat
abbrev zL : Type := List (Option Value)
abbrev zR : Type := Option Value ⊕ Nat
abbrev zRow : Type := Nat × Instr × Nat × Nat × Nat
abbrev zI : Type := MethodName × ByteArray × Nat × Option FieldType × List zRow × List (Nat × Nat × Nat × Nat) × Nat × Nat
def zNm (I : zI) : MethodName := I.1
def zBy (I : zI) : ByteArray := I.2.1
def zMx (I : zI) : Nat := I.2.2.1
def zRt (I : zI) : Option FieldType := I.2.2.2.1
def zTb (I : zI) : List zRow := I.2.2.2.2.1
def zEx (I : zI) : List (Nat × Nat × Nat × Nat) := I.2.2.2.2.2.1
def zFr (I : zI) : Nat := I.2.2.2.2.2.2.1
def zLo (I : zI) : Nat := I.2.2.2.2.2.2.2
def zF (I : zI) (pc : Nat) : Option (Instr × Nat × Nat × Nat) := (zTb I).lookup pc
abbrev zG : Type := Launch × Nat × Nat × Heap × va_G × (ClassId × ClassId × ClassId × ClassId) × Nat × (Nat → Int32)
def zgl (g : zG) : Launch := g.1
def zgb (g : zG) : Nat := g.2.1
def zg1 (g : zG) : Nat := g.2.2.1
def zgH (g : zG) : Heap := g.2.2.2.1
def zgD (g : zG) : va_G := g.2.2.2.2.1
def zgI (g : zG) : ClassId := g.2.2.2.2.2.1.1
def zgJ (g : zG) : ClassId := g.2.2.2.2.2.1.2.1
def zgK (g : zG) : ClassId := g.2.2.2.2.2.1.2.2.1
def zgP (g : zG) : ClassId := g.2.2.2.2.2.1.2.2.2
def zgn (g : zG) : Nat := g.2.2.2.2.2.2.1
def zgx (g : zG) : Nat → Int32 := g.2.2.2.2.2.2.2
def zad (g : zG) (i : Nat) : Nat := if i = 0 then zgb g else zg1 g + i
theorem zad_pos (g : zG) {i : Nat} (h : 0 < i) : zad g i = zg1 g + i := by unfold zad; rw [if_neg (by omega)]
def zt (g : zG) : Value → Value
  | .ref i => .ref (zad g i)
  | .int x => .int x
  | .long x => .long x
  | .float x => .float x
  | .double x => .double x
  | .null => .null
  | .retAddr x => .retAddr x
theorem zt_cat (g : zG) (v : Value) : (zt g v).category = v.category := by cases v <;> rfl
def zE (g : zG) : zO → va_E
  | .inl (n, .inl f) => .inl (zgI g, n, .inl f)
  | .inl (n, .inr (.inl f)) => .inl (zgJ g, n, .inr (.inl f))
  | .inl (n, .inr (.inr (.inl f))) => .inl (zgI g, n, .inr (.inr (.inl f)))
  | .inl (n, .inr (.inr (.inr (.inl f)))) => .inl (zgK g, n, .inr (.inr (.inr (.inl f))))
  | .inl (n, .inr (.inr (.inr (.inr f)))) => .inl (zgP g, n, .inr (.inr (.inr (.inr (fun j => (f j).map (zad g))))))
  | .inr (ci, fs) => .inr (ci, fs.map (zt g))
def ztys (g : zG) : List (ClassId × FieldType) := [(zgI g, .int), (zgJ g, .long), (zgK g, .double), (zgP g, .object RX7)]
def zup (h : zH) (i : Nat) (o : zO) : zH := (fun j => if j = i then some o else h.1 j, h.2)
def znew (h : zH) (o : zO) : zH := (fun j => if j = h.2 then some o else h.1 j, h.2 + 1)
def zthr (h : zH) : zH := (h.1, h.2 + 1)
def zRel (g : zG) (h : zH) (H : Heap) : Prop :=
  1 ≤ h.2 ∧ H.size = zg1 g + h.2 ∧ (zgH g).size = zg1 g + 1 ∧ (∀ q : Nat, q ≤ zg1 g → H[q]? = (zgH g)[q]?) ∧
  ∀ (i : Nat) (o : zO), h.1 i = some o → i < h.2 ∧ (i = 0 → o = .inl (zgn g, .inl (zgx g))) ∧ (0 < i → va_at (zgD g) vwCl (zad g i, zE g o) H)
theorem zRel.at {g : zG} {h : zH} {H : Heap} (hR : zRel g h H) {i : Nat} {o : zO} (ho : h.1 i = some o) (hi : 0 < i) : va_at (zgD g) vwCl (zad g i, zE g o) H := (hR.2.2.2.2 i o ho).2.2 hi
theorem zRel.P {g : zG} {h : zH} {H : Heap} (hR : zRel g h H) {i : Nat} {o : zO} (ho : h.1 i = some o) (hi : 0 < i) : va_P (zgD g) vwCl [(zad g i, zE g o)] H := by
  intro k q hk
  have := List.mem_of_getElem? hk
  rw [List.mem_singleton.mp this]
  exact hR.at ho hi
theorem zRel.put {g : zG} {h : zH} {H H' : Heap} (hR : zRel g h H) {i : Nat} {o o' : zO} (ho : h.1 i = some o) (hi : 0 < i) (e1 : va_at (zgD g) vwCl (zad g i, zE g o') H') (e2 : H'.size = H.size) (e3 : ∀ q : Nat, q ≠ zad g i → H'[q]? = H[q]?) : zRel g (zup h i o') H' := by
  obtain ⟨a1, a2, a3, a4, a5⟩ := hR
  refine ⟨a1, by rw [e2]; exact a2, a3, fun q hq => ?_, fun j oj hj => ?_⟩
  · rw [e3 q (by rw [zad_pos g hi]; omega)]
    exact a4 q hq
  · by_cases hji : j = i
    · subst hji
      have he : oj = o' := by
        have : (zup h j o').1 j = some o' := by simp [zup]
        rw [this] at hj
        exact (Option.some.inj hj).symm
      subst he
      exact ⟨(a5 j o ho).1, fun z => absurd z (by omega), fun _ => e1⟩
    · have hj' : h.1 j = some oj := by simpa [zup, hji] using hj
      obtain ⟨b1, b2, b3⟩ := a5 j oj hj'
      refine ⟨b1, b2, fun hp => (b3 hp).kept (e3 _ ?_)⟩
      show zad g j ≠ zad g i
      rw [zad_pos g hp, zad_pos g hi]
      omega
theorem zRel.new {g : zG} {h : zH} {H H' : Heap} (hR : zRel g h H) {o : zO} (e1 : va_at (zgD g) vwCl (H.size, zE g o) H') (e2 : H'.size = H.size + 1) (e3 : ∀ q : Nat, q < H.size → H'[q]? = H[q]?) : zRel g (znew h o) H' := by
  obtain ⟨a1, a2, a3, a4, a5⟩ := hR
  refine ⟨by simp [znew], by rw [e2, a2]; simp [znew]; omega, a3, fun q hq => ?_, fun j oj hj => ?_⟩
  · rw [e3 q (by omega)]
    exact a4 q hq
  · by_cases hji : j = h.2
    · subst hji
      have he : oj = o := by
        have : (znew h o).1 h.2 = some o := by simp [znew]
        rw [this] at hj
        exact (Option.some.inj hj).symm
      subst he
      refine ⟨by simp [znew], fun z => absurd z (by omega), fun hp => ?_⟩
      rw [zad_pos g hp, ← a2]
      exact e1
    · have hj' : h.1 j = some oj := by simpa [znew, hji] using hj
      obtain ⟨b1, b2, b3⟩ := a5 j oj hj'
      exact ⟨by simp [znew]; omega, b2, fun hp => (b3 hp).kept (e3 _ (b3 hp).lt)⟩
theorem zRel.thr {g : zG} {h : zH} {H H' : Heap} (hR : zRel g h H) (e2 : H'.size = H.size + 1) (e3 : ∀ q : Nat, q < H.size → H'[q]? = H[q]?) : zRel g (zthr h) H' := by
  obtain ⟨a1, a2, a3, a4, a5⟩ := hR
  refine ⟨by simp [zthr], by rw [e2, a2]; simp [zthr]; omega, a3, fun q hq => ?_, fun j oj hj => ?_⟩
  · rw [e3 q (by omega)]
    exact a4 q hq
  · obtain ⟨b1, b2, b3⟩ := a5 j oj hj
    exact ⟨by simp [zthr]; omega, b2, fun hp => (b3 hp).kept (e3 _ (b3 hp).lt)⟩
theorem zRel.top {g : zG} {h : zH} {H : Heap} (hR : zRel g h H) : zad g h.2 = H.size := by
  rw [zad_pos g (by have := hR.1; omega)]
  exact hR.2.1.symm
/-! locals -/
def zkill (L : zL) : Nat → zL
  | 0 => L
  | j + 1 => match L[j]? with
    | some (some w) => if w.category = 2 then L.set j none else L
    | _ => L
def zset1 (L : zL) (i : Nat) (v : Value) : zL := (zkill L i).set i (some v)
def zset2 (L : zL) (i : Nat) (v : Value) : zL := ((zkill L i).set i (some v)).set (i + 1) none
def zlv (g : zG) (L : zL) : List (Nat × Value) := (List.range L.length).filterMap fun i => match L[i]? with
  | some (some v) => some (i, zt g v)
  | _ => none
theorem zlv_mem {g : zG} {L : zL} {i : Nat} {v : Value} (h : L[i]? = some (some v)) : (i, zt g v) ∈ zlv g L := by
  refine List.mem_filterMap.mpr ⟨i, List.mem_range.mpr (List.getElem?_eq_some_iff.mp h).1, ?_⟩
  simp only [h]
theorem zkill_get {L : zL} {i j : Nat} {v : Value} (h : (zkill L i)[j]? = some (some v)) : L[j]? = some (some v) ∧ ¬ (j + 1 = i ∧ v.category = 2) := by
  cases i with
  | zero => exact ⟨h, fun z => absurd z.1 (by omega)⟩
  | succ k =>
    simp only [zkill] at h
    cases hk : L[k]? with
    | none =>
      rw [hk] at h
      refine ⟨h, fun z => ?_⟩
      have : j = k := by omega
      subst this
      simp only at h
      rw [hk] at h
      cases h
    | some o =>
      rw [hk] at h
      cases o with
      | none =>
        simp only at h
        refine ⟨h, fun z => ?_⟩
        have : j = k := by omega
        subst this
        rw [hk] at h
        cases h
      | some w =>
        simp only at h
        by_cases hc : w.category = 2
        · rw [if_pos hc] at h
          by_cases hj : j = k
          · subst hj
            rw [List.getElem?_set_self (List.getElem?_eq_some_iff.mp hk).1] at h
            cases h
          · rw [List.getElem?_set_ne (Ne.symm hj)] at h
            exact ⟨h, fun z => hj (by omega)⟩
        · rw [if_neg hc] at h
          refine ⟨h, fun z => ?_⟩
          have : j = k := by omega
          subst this
          rw [hk] at h
          cases h
          exact hc z.2
def zHas (g : zG) (ls : Array Slot) (n : Nat) (L : zL) : Prop := lv_has ls n (zlv g L)
theorem zHas.at {g : zG} {ls : Array Slot} {n : Nat} {L : zL} (h : zHas g ls n L) {i : Nat} {v : Value} (hv : L[i]? = some (some v)) : ls[i]? = some (.val (zt g v)) := h.2.2 _ (zlv_mem hv)
theorem zHas.of {g : zG} {ls : Array Slot} {n : Nat} {L : zL} (h1 : ls.size = n) (h2 : lv_wf ls) (h3 : ∀ (i : Nat) (v : Value), L[i]? = some (some v) → ls[i]? = some (.val (zt g v))) : zHas g ls n L := by
  refine ⟨h1, h2, fun q hq => ?_⟩
  obtain ⟨i, -, hi⟩ := List.mem_filterMap.mp hq
  cases ho : L[i]? with
  | none => rw [ho] at hi; cases hi
  | some o =>
    cases o with
    | none => rw [ho] at hi; cases hi
    | some v =>
      rw [ho] at hi
      cases hi
      exact h3 i v ho
theorem zHas.sub {g : zG} {ls : Array Slot} {n : Nat} {L L' : zL} (h : zHas g ls n L) (hs : ∀ (i : Nat) (v : Value), L'[i]? = some (some v) → L[i]? = some (some v)) : zHas g ls n L' := zHas.of h.1 h.2.1 fun i v hv => h.at (hs i v hv)
theorem zHas.s1 {g : zG} {ls' : Array Slot} {n i : Nat} {L : zL} {v : Value} (h : lv_has ls' n ((i, zt g v) :: (zlv g L).filter (fun q => !(q.1 == i) && !(q.1 + 1 == i && q.2.category == 2)))) : zHas g ls' n (zset1 L i v) := by
  refine zHas.of h.1 h.2.1 fun j w hw => ?_
  by_cases hj : j = i
  · subst hj
    have : w = v := by
      unfold zset1 at hw
      by_cases hl : j < (zkill L j).length
      · rw [List.getElem?_set_self hl] at hw
        cases hw; rfl
      · rw [List.getElem?_eq_none (by rw [List.length_set]; omega)] at hw
        cases hw
    subst this
    exact h.2.2 _ List.mem_cons_self
  · unfold zset1 at hw
    rw [List.getElem?_set_ne (Ne.symm hj)] at hw
    obtain ⟨h1, h2⟩ := zkill_get hw
    refine h.2.2 (j, zt g w) (List.mem_cons_of_mem _ (List.mem_filter.mpr ⟨zlv_mem h1, ?_⟩))
    simp only [zt_cat]
    by_cases hk : j + 1 = i
    · have : ¬ w.category = 2 := fun z => h2 ⟨hk, z⟩
      simp [hj, this]
    · simp [hj, hk]
theorem zHas.s2 {g : zG} {ls' : Array Slot} {n i : Nat} {L : zL} {v : Value} (h : lv_has ls' n ((i, zt g v) :: (zlv g L).filter (fun q => !(q.1 == i) && (!(q.1 == i + 1) && !(q.1 + 1 == i && q.2.category == 2))))) : zHas g ls' n (zset2 L i v) := by
  refine zHas.of h.1 h.2.1 fun j w hw => ?_
  unfold zset2 at hw
  by_cases hj1 : j = i + 1
  · subst hj1
    by_cases hl : i + 1 < ((zkill L i).set i (some v)).length
    · rw [List.getElem?_set_self hl] at hw
      cases hw
    · rw [List.getElem?_eq_none (by rw [List.length_set]; omega)] at hw
      cases hw
  · rw [List.getElem?_set_ne (Ne.symm hj1)] at hw
    by_cases hj : j = i
    · subst hj
      have : w = v := by
        by_cases hl : j < (zkill L j).length
        · rw [List.getElem?_set_self hl] at hw
          cases hw; rfl
        · rw [List.getElem?_eq_none (by rw [List.length_set]; omega)] at hw
          cases hw
      subst this
      exact h.2.2 _ List.mem_cons_self
    · rw [List.getElem?_set_ne (Ne.symm hj)] at hw
      obtain ⟨h1, h2⟩ := zkill_get hw
      refine h.2.2 (j, zt g w) (List.mem_cons_of_mem _ (List.mem_filter.mpr ⟨zlv_mem h1, ?_⟩))
      simp only [zt_cat]
      by_cases hk : j + 1 = i
      · have : ¬ w.category = 2 := fun z => h2 ⟨hk, z⟩
        simp [hj, hj1, this]
      · simp [hj, hj1, hk]
end
section
/-! THE PROGRAM AS DATA, by program (wip/whole/gen_tab.py): a method's name, bytes, locals, answer's type, rows (pc, instruction, length, what its link names), handlers, frames, room of locals -/
def zX0_init : zI := (yX0_init, cX0_init, 1, none, [(0, .aload_n 0, 1, 0, 0), (1, .invokespecial 3, 3, 5001, 0), (4, .aload_n 0, 1, 0, 0), (5, .iconst 0, 1, 0, 0), (6, .putfield 9, 3, 0, 0), (9, .aload_n 0, 1, 0, 0), (10, .bipush 84, 2, 0, 0), (12, .newarray .int, 2, 0, 0), (14, .putfield 15, 3, 0, 1), (17, .aload_n 0, 1, 0, 0), (18, .bipush 84, 2, 0, 0), (20, .newarray .int, 2, 0, 0), (22, .putfield 19, 3, 0, 2), (25, .aload_n 0, 1, 0, 0), (26, .bipush 84, 2, 0, 0), (28, .newarray .int, 2, 0, 0), (30, .putfield 22, 3, 0, 3), (33, .aload_n 0, 1, 0, 0), (34, .bipush 84, 2, 0, 0), (36, .newarray .int, 2, 0, 0), (38, .putfield 25, 3, 0, 4), (41, .aload_n 0, 1, 0, 0), (42, .bipush 84, 2, 0, 0), (44, .newarray .int, 2, 0, 0), (46, .putfield 28, 3, 0, 5), (49, .aload_n 0, 1, 0, 0), (50, .bipush 84, 2, 0, 0), (52, .newarray .int, 2, 0, 0), (54, .putfield 31, 3, 0, 6), (57, .aload_n 0, 1, 0, 0), (58, .bipush 84, 2, 0, 0), (60, .newarray .int, 2, 0, 0), (62, .putfield 34, 3, 0, 7), (65, .aload_n 0, 1, 0, 0), (66, .bipush 84, 2, 0, 0), (68, .newarray .int, 2, 0, 0), (70, .putfield 37, 3, 0, 8), (73, .aload_n 0, 1, 0, 0), (74, .bipush 84, 2, 0, 0), (76, .newarray .long, 2, 0, 0), (78, .putfield 40, 3, 0, 9), (81, .return_, 1, 0, 0)], [], 1, 24)
def zX0_collect : zI := (yX0_collect, cX0_collect, 6, none, [(0, .aload_n 0, 1, 0, 0), (1, .iconst 0, 1, 0, 0), (2, .putfield 9, 3, 0, 0), (5, .iconst 0, 1, 0, 0), (6, .istore_n 3, 1, 0, 0), (7, .iload_n 3, 1, 0, 0), (8, .bipush 7, 2, 0, 0), (10, .if_icmp .ge 127, 3, 0, 0), (13, .iconst 0, 1, 0, 0), (14, .istore 4, 2, 0, 0), (16, .iload 4, 2, 0, 0), (18, .aload_n 1, 1, 0, 0), (19, .invokevirtual 44, 3, 25, 0), (22, .if_icmp .ge 109, 3, 0, 0), (25, .aload_n 1, 1, 0, 0), (26, .iload 4, 2, 0, 0), (28, .iload_n 3, 1, 0, 0), (29, .invokevirtual 50, 3, 28, 2), (32, .ifCond .eq 19, 3, 0, 0), (35, .aload_n 1, 1, 0, 0), (36, .iload 4, 2, 0, 0), (38, .iconst 1, 1, 0, 0), (39, .isub, 1, 0, 0), (40, .iload_n 3, 1, 0, 0), (41, .invokevirtual 50, 3, 28, 2), (44, .ifCond .ne 7, 3, 0, 0), (47, .iconst 1, 1, 0, 0), (48, .goto 4, 3, 0, 0), (51, .iconst 0, 1, 0, 0), (52, .istore 5, 2, 0, 0), (54, .iload 5, 2, 0, 0), (56, .ifCond .eq 69, 3, 0, 0), (59, .aload_n 0, 1, 0, 0), (60, .getfield 9, 3, 0, 0), (63, .bipush 84, 2, 0, 0), (65, .if_icmp .ge 60, 3, 0, 0), (68, .aload_n 0, 1, 0, 0), (69, .getfield 15, 3, 0, 1), (72, .aload_n 0, 1, 0, 0), (73, .getfield 9, 3, 0, 0), (76, .iload_n 3, 1, 0, 0), (77, .iastore, 1, 0, 0), (78, .aload_n 0, 1, 0, 0), (79, .getfield 19, 3, 0, 2), (82, .aload_n 0, 1, 0, 0), (83, .getfield 9, 3, 0, 0), (86, .iload 4, 2, 0, 0), (88, .iastore, 1, 0, 0), (89, .aload_n 0, 1, 0, 0), (90, .getfield 22, 3, 0, 3), (93, .aload_n 0, 1, 0, 0), (94, .getfield 9, 3, 0, 0), (97, .aload_n 1, 1, 0, 0), (98, .iload_n 3, 1, 0, 0), (99, .iload 4, 2, 0, 0), (101, .invokestatic 54, 3, 2, 3), (104, .iastore, 1, 0, 0), (105, .aload_n 0, 1, 0, 0), (106, .aload_n 0, 1, 0, 0), (107, .getfield 9, 3, 0, 0), (110, .aload_n 1, 1, 0, 0), (111, .aload_n 2, 1, 0, 0), (112, .invokevirtual 58, 3, 3, 3), (115, .aload_n 0, 1, 0, 0), (116, .dup, 1, 0, 0), (117, .getfield 9, 3, 0, 0), (120, .iconst 1, 1, 0, 0), (121, .iadd, 1, 0, 0), (122, .putfield 9, 3, 0, 0), (125, .iinc 4 1, 3, 0, 0), (128, .goto (-112), 3, 0, 0), (131, .iinc 3 1, 3, 0, 0), (134, .goto (-127), 3, 0, 0), (137, .return_, 1, 0, 0)], [], 4, 96)
def zX0_lastLine : zI := (yX0_lastLine, cX0_lastLine, 4, (some .int), [(0, .iload_n 2, 1, 0, 0), (1, .istore_n 3, 1, 0, 0), (2, .iload_n 3, 1, 0, 0), (3, .iconst 1, 1, 0, 0), (4, .iadd, 1, 0, 0), (5, .aload_n 0, 1, 0, 0), (6, .invokevirtual 44, 3, 25, 0), (9, .if_icmp .ge 20, 3, 0, 0), (12, .aload_n 0, 1, 0, 0), (13, .iload_n 3, 1, 0, 0), (14, .iconst 1, 1, 0, 0), (15, .iadd, 1, 0, 0), (16, .iload_n 1, 1, 0, 0), (17, .invokevirtual 50, 3, 28, 2), (20, .ifCond .eq 9, 3, 0, 0), (23, .iinc 3 1, 3, 0, 0), (26, .goto (-24), 3, 0, 0), (29, .iload_n 3, 1, 0, 0), (30, .ireturn, 1, 0, 0)], [], 1, 22)
def zX0_measureBlock : zI := (yX0_measureBlock, cX0_measureBlock, 5, none, [(0, .aload_n 0, 1, 0, 0), (1, .iload_n 1, 1, 0, 0), (2, .aload_n 2, 1, 0, 0), (3, .invokevirtual 62, 3, 4, 2), (6, .aload_n 3, 1, 0, 0), (7, .aload_n 0, 1, 0, 0), (8, .getfield 15, 3, 0, 1), (11, .iload_n 1, 1, 0, 0), (12, .iaload, 1, 0, 0), (13, .invokevirtual 66, 3, 46, 1), (16, .istore 4, 2, 0, 0), (18, .iload 4, 2, 0, 0), (20, .iconst 3, 1, 0, 0), (21, .if_icmp .ne 28, 3, 0, 0), (24, .aload_n 0, 1, 0, 0), (25, .iload_n 1, 1, 0, 0), (26, .aload_n 2, 1, 0, 0), (27, .invokevirtual 72, 3, 5, 2), (30, .ifCond .eq 19, 3, 0, 0), (33, .aload_n 0, 1, 0, 0), (34, .getfield 28, 3, 0, 5), (37, .iload_n 1, 1, 0, 0), (38, .iconst 3, 1, 0, 0), (39, .iastore, 1, 0, 0), (40, .aload_n 0, 1, 0, 0), (41, .iload_n 1, 1, 0, 0), (42, .aload_n 2, 1, 0, 0), (43, .invokevirtual 76, 3, 6, 2), (46, .goto 27, 3, 0, 0), (49, .aload_n 0, 1, 0, 0), (50, .getfield 28, 3, 0, 5), (53, .iload_n 1, 1, 0, 0), (54, .iload 4, 2, 0, 0), (56, .iconst 3, 1, 0, 0), (57, .if_icmp .ne 7, 3, 0, 0), (60, .iconst 0, 1, 0, 0), (61, .goto 5, 3, 0, 0), (64, .iload 4, 2, 0, 0), (66, .iastore, 1, 0, 0), (67, .aload_n 0, 1, 0, 0), (68, .iload_n 1, 1, 0, 0), (69, .aload_n 2, 1, 0, 0), (70, .invokevirtual 79, 3, 7, 2), (73, .aload_n 0, 1, 0, 0), (74, .getfield 25, 3, 0, 4), (77, .iload_n 1, 1, 0, 0), (78, .aload_n 3, 1, 0, 0), (79, .aload_n 0, 1, 0, 0), (80, .getfield 31, 3, 0, 6), (83, .iload_n 1, 1, 0, 0), (84, .iaload, 1, 0, 0), (85, .invokevirtual 82, 3, 51, 1), (88, .iastore, 1, 0, 0), (89, .return_, 1, 0, 0)], [], 3, 72)
def zX0_addNumbers : zI := (yX0_addNumbers, cX0_addNumbers, 4, none, [(0, .aload_n 0, 1, 0, 0), (1, .getfield 34, 3, 0, 7), (4, .iload_n 1, 1, 0, 0), (5, .iconst 0, 1, 0, 0), (6, .iastore, 1, 0, 0), (7, .aload_n 0, 1, 0, 0), (8, .getfield 40, 3, 0, 9), (11, .iload_n 1, 1, 0, 0), (12, .lconst 0, 1, 0, 0), (13, .lastore, 1, 0, 0), (14, .aload_n 0, 1, 0, 0), (15, .getfield 19, 3, 0, 2), (18, .iload_n 1, 1, 0, 0), (19, .iaload, 1, 0, 0), (20, .istore_n 3, 1, 0, 0), (21, .iload_n 3, 1, 0, 0), (22, .aload_n 0, 1, 0, 0), (23, .getfield 22, 3, 0, 3), (26, .iload_n 1, 1, 0, 0), (27, .iaload, 1, 0, 0), (28, .if_icmp .gt 54, 3, 0, 0), (31, .aload_n 2, 1, 0, 0), (32, .iload_n 3, 1, 0, 0), (33, .aload_n 0, 1, 0, 0), (34, .getfield 15, 3, 0, 1), (37, .iload_n 1, 1, 0, 0), (38, .iaload, 1, 0, 0), (39, .invokevirtual 85, 3, 32, 2), (42, .iconst 1, 1, 0, 0), (43, .if_icmp .ne 33, 3, 0, 0), (46, .aload_n 0, 1, 0, 0), (47, .getfield 34, 3, 0, 7), (50, .iload_n 1, 1, 0, 0), (51, .dup2, 1, 0, 0), (52, .iaload, 1, 0, 0), (53, .iconst 1, 1, 0, 0), (54, .iadd, 1, 0, 0), (55, .iastore, 1, 0, 0), (56, .aload_n 0, 1, 0, 0), (57, .getfield 40, 3, 0, 9), (60, .iload_n 1, 1, 0, 0), (61, .dup2, 1, 0, 0), (62, .laload, 1, 0, 0), (63, .aload_n 2, 1, 0, 0), (64, .iload_n 3, 1, 0, 0), (65, .aload_n 0, 1, 0, 0), (66, .getfield 15, 3, 0, 1), (69, .iload_n 1, 1, 0, 0), (70, .iaload, 1, 0, 0), (71, .invokevirtual 89, 3, 34, 2), (74, .ladd, 1, 0, 0), (75, .lastore, 1, 0, 0), (76, .iinc 3 1, 3, 0, 0), (79, .goto (-58), 3, 0, 0), (82, .return_, 1, 0, 0)], [], 2, 44)
def zX0_isDecimal : zI := (yX0_isDecimal, cX0_isDecimal, 4, (some .boolean), [(0, .aload_n 0, 1, 0, 0), (1, .getfield 19, 3, 0, 2), (4, .iload_n 1, 1, 0, 0), (5, .iaload, 1, 0, 0), (6, .iconst 1, 1, 0, 0), (7, .iadd, 1, 0, 0), (8, .istore_n 3, 1, 0, 0), (9, .iload_n 3, 1, 0, 0), (10, .aload_n 0, 1, 0, 0), (11, .getfield 22, 3, 0, 3), (14, .iload_n 1, 1, 0, 0), (15, .iaload, 1, 0, 0), (16, .if_icmp .gt 26, 3, 0, 0), (19, .aload_n 2, 1, 0, 0), (20, .iload_n 3, 1, 0, 0), (21, .aload_n 0, 1, 0, 0), (22, .getfield 15, 3, 0, 1), (25, .iload_n 1, 1, 0, 0), (26, .iaload, 1, 0, 0), (27, .invokevirtual 85, 3, 32, 2), (30, .iconst 2, 1, 0, 0), (31, .if_icmp .ne 5, 3, 0, 0), (34, .iconst 0, 1, 0, 0), (35, .ireturn, 1, 0, 0), (36, .iinc 3 1, 3, 0, 0), (39, .goto (-30), 3, 0, 0), (42, .aload_n 0, 1, 0, 0), (43, .getfield 34, 3, 0, 7), (46, .iload_n 1, 1, 0, 0), (47, .iaload, 1, 0, 0), (48, .ifCond .le 7, 3, 0, 0), (51, .iconst 1, 1, 0, 0), (52, .goto 4, 3, 0, 0), (55, .iconst 0, 1, 0, 0), (56, .ireturn, 1, 0, 0)], [], 2, 44)
def zX0_measureDecimal : zI := (yX0_measureDecimal, cX0_measureDecimal, 9, none, [(0, .aload_n 0, 1, 0, 0), (1, .getfield 15, 3, 0, 1), (4, .iload_n 1, 1, 0, 0), (5, .iaload, 1, 0, 0), (6, .istore_n 3, 1, 0, 0), (7, .iconst 0, 1, 0, 0), (8, .istore 4, 2, 0, 0), (10, .iconst 0, 1, 0, 0), (11, .istore 5, 2, 0, 0), (13, .iconst 0, 1, 0, 0), (14, .istore 6, 2, 0, 0), (16, .aload_n 0, 1, 0, 0), (17, .getfield 19, 3, 0, 2), (20, .iload_n 1, 1, 0, 0), (21, .iaload, 1, 0, 0), (22, .istore 7, 2, 0, 0), (24, .iload 7, 2, 0, 0), (26, .aload_n 0, 1, 0, 0), (27, .getfield 22, 3, 0, 3), (30, .iload_n 1, 1, 0, 0), (31, .iaload, 1, 0, 0), (32, .if_icmp .gt 72, 3, 0, 0), (35, .aload_n 2, 1, 0, 0), (36, .iload 7, 2, 0, 0), (38, .iload_n 3, 1, 0, 0), (39, .invokevirtual 93, 3, 31, 2), (42, .istore 8, 2, 0, 0), (44, .aload_n 2, 1, 0, 0), (45, .iload 7, 2, 0, 0), (47, .iload_n 3, 1, 0, 0), (48, .invokevirtual 85, 3, 32, 2), (51, .iconst 1, 1, 0, 0), (52, .if_icmp .ne 37, 3, 0, 0), (55, .iload 4, 2, 0, 0), (57, .aload_n 2, 1, 0, 0), (58, .iload 7, 2, 0, 0), (60, .iload_n 3, 1, 0, 0), (61, .invokevirtual 96, 3, 33, 2), (64, .invokestatic 99, 3, 5002, 2), (67, .istore 4, 2, 0, 0), (69, .iload 5, 2, 0, 0), (71, .iload 8, 2, 0, 0), (73, .aload_n 2, 1, 0, 0), (74, .iload 7, 2, 0, 0), (76, .iload_n 3, 1, 0, 0), (77, .invokevirtual 96, 3, 33, 2), (80, .isub, 1, 0, 0), (81, .invokestatic 99, 3, 5002, 2), (84, .istore 5, 2, 0, 0), (86, .goto 12, 3, 0, 0), (89, .iload 6, 2, 0, 0), (91, .iload 8, 2, 0, 0), (93, .invokestatic 99, 3, 5002, 2), (96, .istore 6, 2, 0, 0), (98, .iinc 7 1, 3, 0, 0), (101, .goto (-77), 3, 0, 0), (104, .aload_n 0, 1, 0, 0), (105, .getfield 37, 3, 0, 8), (108, .iload_n 1, 1, 0, 0), (109, .iload 5, 2, 0, 0), (111, .iastore, 1, 0, 0), (112, .aload_n 0, 1, 0, 0), (113, .getfield 31, 3, 0, 6), (116, .iload_n 1, 1, 0, 0), (117, .iload 4, 2, 0, 0), (119, .iload 5, 2, 0, 0), (121, .iadd, 1, 0, 0), (122, .iload 6, 2, 0, 0), (124, .invokestatic 99, 3, 5002, 2), (127, .iastore, 1, 0, 0), (128, .return_, 1, 0, 0)], [], 2, 44)
def zX0_measurePlain : zI := (yX0_measurePlain, cX0_measurePlain, 5, none, [(0, .iconst 0, 1, 0, 0), (1, .istore_n 3, 1, 0, 0), (2, .aload_n 0, 1, 0, 0), (3, .getfield 19, 3, 0, 2), (6, .iload_n 1, 1, 0, 0), (7, .iaload, 1, 0, 0), (8, .istore 4, 2, 0, 0), (10, .iload 4, 2, 0, 0), (12, .aload_n 0, 1, 0, 0), (13, .getfield 22, 3, 0, 3), (16, .iload_n 1, 1, 0, 0), (17, .iaload, 1, 0, 0), (18, .if_icmp .gt 26, 3, 0, 0), (21, .iload_n 3, 1, 0, 0), (22, .aload_n 2, 1, 0, 0), (23, .iload 4, 2, 0, 0), (25, .aload_n 0, 1, 0, 0), (26, .getfield 15, 3, 0, 1), (29, .iload_n 1, 1, 0, 0), (30, .iaload, 1, 0, 0), (31, .invokevirtual 93, 3, 31, 2), (34, .invokestatic 99, 3, 5002, 2), (37, .istore_n 3, 1, 0, 0), (38, .iinc 4 1, 3, 0, 0), (41, .goto (-31), 3, 0, 0), (44, .aload_n 0, 1, 0, 0), (45, .getfield 37, 3, 0, 8), (48, .iload_n 1, 1, 0, 0), (49, .iconst 0, 1, 0, 0), (50, .iastore, 1, 0, 0), (51, .aload_n 0, 1, 0, 0), (52, .getfield 31, 3, 0, 6), (55, .iload_n 1, 1, 0, 0), (56, .iload_n 3, 1, 0, 0), (57, .iastore, 1, 0, 0), (58, .return_, 1, 0, 0)], [], 2, 44)
def zX0_size : zI := (yX0_size, cX0_size, 1, (some .int), [(0, .aload_n 0, 1, 0, 0), (1, .getfield 9, 3, 0, 0), (4, .ireturn, 1, 0, 0)], [], 0, 0)
def zX0_has : zI := (yX0_has, cX0_has, 2, (some .boolean), [(0, .iload_n 1, 1, 0, 0), (1, .ifCond .lt 15, 3, 0, 0), (4, .iload_n 1, 1, 0, 0), (5, .aload_n 0, 1, 0, 0), (6, .getfield 9, 3, 0, 0), (9, .if_icmp .ge 7, 3, 0, 0), (12, .iconst 1, 1, 0, 0), (13, .goto 4, 3, 0, 0), (16, .iconst 0, 1, 0, 0), (17, .ireturn, 1, 0, 0)], [], 0, 0)
def zX0_fact : zI := (yX0_fact, cX0_fact, 3, (some .int), [(0, .aload_n 0, 1, 0, 0), (1, .iload_n 1, 1, 0, 0), (2, .invokevirtual 104, 3, 9, 1), (5, .ifCond .ne 5, 3, 0, 0), (8, .iconst 0, 1, 0, 0), (9, .ireturn, 1, 0, 0), (10, .iload_n 2, 1, 0, 0), (11, .tableswitch 90 0 6 #[41, 48, 55, 62, 69, 76, 83], 41, 0, 0), (52, .aload_n 0, 1, 0, 0), (53, .getfield 15, 3, 0, 1), (56, .iload_n 1, 1, 0, 0), (57, .iaload, 1, 0, 0), (58, .ireturn, 1, 0, 0), (59, .aload_n 0, 1, 0, 0), (60, .getfield 19, 3, 0, 2), (63, .iload_n 1, 1, 0, 0), (64, .iaload, 1, 0, 0), (65, .ireturn, 1, 0, 0), (66, .aload_n 0, 1, 0, 0), (67, .getfield 22, 3, 0, 3), (70, .iload_n 1, 1, 0, 0), (71, .iaload, 1, 0, 0), (72, .ireturn, 1, 0, 0), (73, .aload_n 0, 1, 0, 0), (74, .getfield 25, 3, 0, 4), (77, .iload_n 1, 1, 0, 0), (78, .iaload, 1, 0, 0), (79, .ireturn, 1, 0, 0), (80, .aload_n 0, 1, 0, 0), (81, .getfield 28, 3, 0, 5), (84, .iload_n 1, 1, 0, 0), (85, .iaload, 1, 0, 0), (86, .ireturn, 1, 0, 0), (87, .aload_n 0, 1, 0, 0), (88, .getfield 31, 3, 0, 6), (91, .iload_n 1, 1, 0, 0), (92, .iaload, 1, 0, 0), (93, .ireturn, 1, 0, 0), (94, .aload_n 0, 1, 0, 0), (95, .getfield 34, 3, 0, 7), (98, .iload_n 1, 1, 0, 0), (99, .iaload, 1, 0, 0), (100, .ireturn, 1, 0, 0), (101, .aload_n 0, 1, 0, 0), (102, .getfield 37, 3, 0, 8), (105, .iload_n 1, 1, 0, 0), (106, .iaload, 1, 0, 0), (107, .ireturn, 1, 0, 0)], [], 1, 21)
def zX0_column : zI := (yX0_column, cX0_column, 2, (some .int), [(0, .aload_n 0, 1, 0, 0), (1, .iload_n 1, 1, 0, 0), (2, .invokevirtual 104, 3, 9, 1), (5, .ifCond .eq 12, 3, 0, 0), (8, .aload_n 0, 1, 0, 0), (9, .getfield 15, 3, 0, 1), (12, .iload_n 1, 1, 0, 0), (13, .iaload, 1, 0, 0), (14, .goto 4, 3, 0, 0), (17, .iconst 0, 1, 0, 0), (18, .ireturn, 1, 0, 0)], [], 1, 21)
def zX0_first : zI := (yX0_first, cX0_first, 2, (some .int), [(0, .aload_n 0, 1, 0, 0), (1, .iload_n 1, 1, 0, 0), (2, .invokevirtual 104, 3, 9, 1), (5, .ifCond .eq 12, 3, 0, 0), (8, .aload_n 0, 1, 0, 0), (9, .getfield 19, 3, 0, 2), (12, .iload_n 1, 1, 0, 0), (13, .iaload, 1, 0, 0), (14, .goto 4, 3, 0, 0), (17, .iconst 0, 1, 0, 0), (18, .ireturn, 1, 0, 0)], [], 1, 21)
def zX0_last : zI := (yX0_last, cX0_last, 2, (some .int), [(0, .aload_n 0, 1, 0, 0), (1, .iload_n 1, 1, 0, 0), (2, .invokevirtual 104, 3, 9, 1), (5, .ifCond .eq 12, 3, 0, 0), (8, .aload_n 0, 1, 0, 0), (9, .getfield 22, 3, 0, 3), (12, .iload_n 1, 1, 0, 0), (13, .iaload, 1, 0, 0), (14, .goto 4, 3, 0, 0), (17, .iconst 0, 1, 0, 0), (18, .ireturn, 1, 0, 0)], [], 1, 21)
def zX0_width : zI := (yX0_width, cX0_width, 2, (some .int), [(0, .aload_n 0, 1, 0, 0), (1, .iload_n 1, 1, 0, 0), (2, .invokevirtual 104, 3, 9, 1), (5, .ifCond .eq 12, 3, 0, 0), (8, .aload_n 0, 1, 0, 0), (9, .getfield 25, 3, 0, 4), (12, .iload_n 1, 1, 0, 0), (13, .iaload, 1, 0, 0), (14, .goto 4, 3, 0, 0), (17, .iconst 0, 1, 0, 0), (18, .ireturn, 1, 0, 0)], [], 1, 21)
def zX0_alignment : zI := (yX0_alignment, cX0_alignment, 2, (some .int), [(0, .aload_n 0, 1, 0, 0), (1, .iload_n 1, 1, 0, 0), (2, .invokevirtual 104, 3, 9, 1), (5, .ifCond .eq 12, 3, 0, 0), (8, .aload_n 0, 1, 0, 0), (9, .getfield 28, 3, 0, 5), (12, .iload_n 1, 1, 0, 0), (13, .iaload, 1, 0, 0), (14, .goto 4, 3, 0, 0), (17, .iconst 0, 1, 0, 0), (18, .ireturn, 1, 0, 0)], [], 1, 21)
def zX0_numbers : zI := (yX0_numbers, cX0_numbers, 2, (some .int), [(0, .aload_n 0, 1, 0, 0), (1, .iload_n 1, 1, 0, 0), (2, .invokevirtual 104, 3, 9, 1), (5, .ifCond .eq 12, 3, 0, 0), (8, .aload_n 0, 1, 0, 0), (9, .getfield 34, 3, 0, 7), (12, .iload_n 1, 1, 0, 0), (13, .iaload, 1, 0, 0), (14, .goto 4, 3, 0, 0), (17, .iconst 0, 1, 0, 0), (18, .ireturn, 1, 0, 0)], [], 1, 21)
def zX0_fractionWidth : zI := (yX0_fractionWidth, cX0_fractionWidth, 2, (some .int), [(0, .aload_n 0, 1, 0, 0), (1, .iload_n 1, 1, 0, 0), (2, .invokevirtual 104, 3, 9, 1), (5, .ifCond .eq 12, 3, 0, 0), (8, .aload_n 0, 1, 0, 0), (9, .getfield 37, 3, 0, 8), (12, .iload_n 1, 1, 0, 0), (13, .iaload, 1, 0, 0), (14, .goto 4, 3, 0, 0), (17, .iconst 0, 1, 0, 0), (18, .ireturn, 1, 0, 0)], [], 1, 21)
def zX0_total : zI := (yX0_total, cX0_total, 2, (some .long), [(0, .aload_n 0, 1, 0, 0), (1, .iload_n 1, 1, 0, 0), (2, .invokevirtual 104, 3, 9, 1), (5, .ifCond .eq 12, 3, 0, 0), (8, .aload_n 0, 1, 0, 0), (9, .getfield 40, 3, 0, 9), (12, .iload_n 1, 1, 0, 0), (13, .laload, 1, 0, 0), (14, .goto 4, 3, 0, 0), (17, .lconst 0, 1, 0, 0), (18, .lreturn, 1, 0, 0)], [], 1, 21)
def zX0_countBetween : zI := (yX0_countBetween, cX0_countBetween, 5, (some .int), [(0, .iconst 0, 1, 0, 0), (1, .istore_n 3, 1, 0, 0), (2, .iconst 0, 1, 0, 0), (3, .istore 4, 2, 0, 0), (5, .iload 4, 2, 0, 0), (7, .aload_n 0, 1, 0, 0), (8, .getfield 9, 3, 0, 0), (11, .if_icmp .ge 39, 3, 0, 0), (14, .iload_n 3, 1, 0, 0), (15, .aload_n 0, 1, 0, 0), (16, .getfield 19, 3, 0, 2), (19, .iload 4, 2, 0, 0), (21, .iaload, 1, 0, 0), (22, .iload_n 2, 1, 0, 0), (23, .if_icmp .gt 18, 3, 0, 0), (26, .aload_n 0, 1, 0, 0), (27, .getfield 22, 3, 0, 3), (30, .iload 4, 2, 0, 0), (32, .iaload, 1, 0, 0), (33, .iload_n 1, 1, 0, 0), (34, .if_icmp .lt 7, 3, 0, 0), (37, .iconst 1, 1, 0, 0), (38, .goto 4, 3, 0, 0), (41, .iconst 0, 1, 0, 0), (42, .iadd, 1, 0, 0), (43, .istore_n 3, 1, 0, 0), (44, .iinc 4 1, 3, 0, 0), (47, .goto (-42), 3, 0, 0), (50, .iload_n 3, 1, 0, 0), (51, .ireturn, 1, 0, 0)], [], 0, 0)
def zX0_mixInto : zI := (yX0_mixInto, cX0_mixInto, 7, (some .long), [(0, .lload_n 1, 1, 0, 0), (1, .lstore_n 3, 1, 0, 0), (2, .iconst 0, 1, 0, 0), (3, .istore 5, 2, 0, 0), (5, .iload 5, 2, 0, 0), (7, .aload_n 0, 1, 0, 0), (8, .getfield 9, 3, 0, 0), (11, .if_icmp .ge 51, 3, 0, 0), (14, .iconst 0, 1, 0, 0), (15, .istore 6, 2, 0, 0), (17, .iload 6, 2, 0, 0), (19, .bipush 7, 2, 0, 0), (21, .if_icmp .gt 23, 3, 0, 0), (24, .lload_n 3, 1, 0, 0), (25, .aload_n 0, 1, 0, 0), (26, .iload 5, 2, 0, 0), (28, .iload 6, 2, 0, 0), (30, .invokevirtual 108, 3, 10, 2), (33, .i2l, 1, 0, 0), (34, .invokestatic 111, 3, 156, 2), (37, .lstore_n 3, 1, 0, 0), (38, .iinc 6 1, 3, 0, 0), (41, .goto (-24), 3, 0, 0), (44, .lload_n 3, 1, 0, 0), (45, .aload_n 0, 1, 0, 0), (46, .getfield 40, 3, 0, 9), (49, .iload 5, 2, 0, 0), (51, .laload, 1, 0, 0), (52, .invokestatic 111, 3, 156, 2), (55, .lstore_n 3, 1, 0, 0), (56, .iinc 5 1, 3, 0, 0), (59, .goto (-54), 3, 0, 0), (62, .lload_n 3, 1, 0, 0), (63, .lreturn, 1, 0, 0)], [], 2, 43)
def zX1_init : zI := (yX1_init, cX1_init, 1, none, [(0, .aload_n 0, 1, 0, 0), (1, .invokespecial 3, 3, 5001, 0), (4, .aload_n 0, 1, 0, 0), (5, .iconst 0, 1, 0, 0), (6, .putfield 9, 3, 1, 0), (9, .aload_n 0, 1, 0, 0), (10, .bipush 24, 2, 0, 0), (12, .newarray .int, 2, 0, 0), (14, .putfield 15, 3, 1, 1), (17, .aload_n 0, 1, 0, 0), (18, .sipush 192, 3, 0, 0), (21, .newarray .int, 2, 0, 0), (23, .putfield 19, 3, 1, 2), (26, .aload_n 0, 1, 0, 0), (27, .sipush 192, 3, 0, 0), (30, .newarray .int, 2, 0, 0), (32, .putfield 22, 3, 1, 3), (35, .aload_n 0, 1, 0, 0), (36, .sipush 192, 3, 0, 0), (39, .newarray .int, 2, 0, 0), (41, .putfield 25, 3, 1, 4), (44, .aload_n 0, 1, 0, 0), (45, .sipush 192, 3, 0, 0), (48, .newarray .int, 2, 0, 0), (50, .putfield 28, 3, 1, 5), (53, .aload_n 0, 1, 0, 0), (54, .sipush 192, 3, 0, 0), (57, .newarray .long, 2, 0, 0), (59, .putfield 31, 3, 1, 6), (62, .return_, 1, 0, 0)], [], 1, 24)
def zX1_read : zI := (yX1_read, cX1_read, 7, none, [(0, .iconst 0, 1, 0, 0), (1, .istore_n 2, 1, 0, 0), (2, .iconst 0, 1, 0, 0), (3, .istore_n 3, 1, 0, 0), (4, .iconst 0, 1, 0, 0), (5, .istore 4, 2, 0, 0), (7, .iconst 0, 1, 0, 0), (8, .istore 5, 2, 0, 0), (10, .iload 5, 2, 0, 0), (12, .aload_n 1, 1, 0, 0), (13, .invokevirtual 35, 3, 88, 0), (16, .if_icmp .gt 81, 3, 0, 0), (19, .aload_n 1, 1, 0, 0), (20, .iload 5, 2, 0, 0), (22, .invokevirtual 41, 3, 89, 1), (25, .istore 6, 2, 0, 0), (27, .iload 6, 2, 0, 0), (29, .bipush 9, 2, 0, 0), (31, .if_icmp .ne 26, 3, 0, 0), (34, .aload_n 0, 1, 0, 0), (35, .aload_n 1, 1, 0, 0), (36, .iload_n 2, 1, 0, 0), (37, .iload_n 3, 1, 0, 0), (38, .iload 4, 2, 0, 0), (40, .iload 5, 2, 0, 0), (42, .invokevirtual 45, 3, 23, 5), (45, .iinc 3 1, 3, 0, 0), (48, .iload 5, 2, 0, 0), (50, .iconst 1, 1, 0, 0), (51, .iadd, 1, 0, 0), (52, .istore 4, 2, 0, 0), (54, .goto 37, 3, 0, 0), (57, .iload 6, 2, 0, 0), (59, .bipush 10, 2, 0, 0), (61, .if_icmp .eq 8, 3, 0, 0), (64, .iload 6, 2, 0, 0), (66, .ifCond .ne 25, 3, 0, 0), (69, .aload_n 0, 1, 0, 0), (70, .aload_n 1, 1, 0, 0), (71, .iload_n 2, 1, 0, 0), (72, .iload_n 3, 1, 0, 0), (73, .iload 4, 2, 0, 0), (75, .iload 5, 2, 0, 0), (77, .invokevirtual 45, 3, 23, 5), (80, .iinc 2 1, 3, 0, 0), (83, .iconst 0, 1, 0, 0), (84, .istore_n 3, 1, 0, 0), (85, .iload 5, 2, 0, 0), (87, .iconst 1, 1, 0, 0), (88, .iadd, 1, 0, 0), (89, .istore 4, 2, 0, 0), (91, .iinc 5 1, 3, 0, 0), (94, .goto (-84), 3, 0, 0), (97, .return_, 1, 0, 0)], [], 4, 98)
def zX1_readCell : zI := (yX1_readCell, cX1_readCell, 8, none, [(0, .iload_n 2, 1, 0, 0), (1, .bipush 24, 2, 0, 0), (3, .if_icmp .ge 9, 3, 0, 0), (6, .iload_n 3, 1, 0, 0), (7, .bipush 8, 2, 0, 0), (9, .if_icmp .lt 4, 3, 0, 0), (12, .return_, 1, 0, 0), (13, .iload_n 2, 1, 0, 0), (14, .iload_n 3, 1, 0, 0), (15, .invokestatic 49, 3, 24, 2), (18, .istore 6, 2, 0, 0), (20, .aload_n 1, 1, 0, 0), (21, .iload 4, 2, 0, 0), (23, .iload 5, 2, 0, 0), (25, .invokestatic 53, 3, 101, 3), (28, .istore 7, 2, 0, 0), (30, .aload_n 0, 1, 0, 0), (31, .getfield 19, 3, 1, 2), (34, .iload 6, 2, 0, 0), (36, .iload 4, 2, 0, 0), (38, .iastore, 1, 0, 0), (39, .aload_n 0, 1, 0, 0), (40, .getfield 22, 3, 1, 3), (43, .iload 6, 2, 0, 0), (45, .iload 5, 2, 0, 0), (47, .iload 4, 2, 0, 0), (49, .isub, 1, 0, 0), (50, .iastore, 1, 0, 0), (51, .aload_n 0, 1, 0, 0), (52, .getfield 25, 3, 1, 4), (55, .iload 6, 2, 0, 0), (57, .iload 7, 2, 0, 0), (59, .iastore, 1, 0, 0), (60, .aload_n 0, 1, 0, 0), (61, .getfield 28, 3, 1, 5), (64, .iload 6, 2, 0, 0), (66, .iload 7, 2, 0, 0), (68, .iconst 1, 1, 0, 0), (69, .if_icmp .ne 14, 3, 0, 0), (72, .aload_n 1, 1, 0, 0), (73, .iload 4, 2, 0, 0), (75, .iload 5, 2, 0, 0), (77, .invokestatic 59, 3, 104, 3), (80, .goto 4, 3, 0, 0), (83, .iconst 0, 1, 0, 0), (84, .iastore, 1, 0, 0), (85, .aload_n 0, 1, 0, 0), (86, .getfield 31, 3, 1, 6), (89, .iload 6, 2, 0, 0), (91, .iload 7, 2, 0, 0), (93, .iconst 1, 1, 0, 0), (94, .if_icmp .ne 14, 3, 0, 0), (97, .aload_n 1, 1, 0, 0), (98, .iload 4, 2, 0, 0), (100, .iload 5, 2, 0, 0), (102, .invokestatic 62, 3, 105, 3), (105, .goto 4, 3, 0, 0), (108, .lconst 0, 1, 0, 0), (109, .lastore, 1, 0, 0), (110, .aload_n 0, 1, 0, 0), (111, .getfield 15, 3, 1, 1), (114, .iload_n 2, 1, 0, 0), (115, .iload_n 3, 1, 0, 0), (116, .iconst 1, 1, 0, 0), (117, .iadd, 1, 0, 0), (118, .iastore, 1, 0, 0), (119, .aload_n 0, 1, 0, 0), (120, .iload_n 2, 1, 0, 0), (121, .iconst 1, 1, 0, 0), (122, .iadd, 1, 0, 0), (123, .putfield 9, 3, 1, 0), (126, .return_, 1, 0, 0)], [], 3, 71)
def zX1_slot : zI := (yX1_slot, cX1_slot, 2, (some .int), [(0, .iload_n 0, 1, 0, 0), (1, .bipush 8, 2, 0, 0), (3, .imul, 1, 0, 0), (4, .iload_n 1, 1, 0, 0), (5, .iadd, 1, 0, 0), (6, .ireturn, 1, 0, 0)], [], 0, 0)
def zX1_lines : zI := (yX1_lines, cX1_lines, 1, (some .int), [(0, .aload_n 0, 1, 0, 0), (1, .getfield 9, 3, 1, 0), (4, .ireturn, 1, 0, 0)], [], 0, 0)
def zX1_hasLine : zI := (yX1_hasLine, cX1_hasLine, 2, (some .boolean), [(0, .iload_n 1, 1, 0, 0), (1, .ifCond .lt 15, 3, 0, 0), (4, .iload_n 1, 1, 0, 0), (5, .aload_n 0, 1, 0, 0), (6, .getfield 9, 3, 1, 0), (9, .if_icmp .ge 7, 3, 0, 0), (12, .iconst 1, 1, 0, 0), (13, .goto 4, 3, 0, 0), (16, .iconst 0, 1, 0, 0), (17, .ireturn, 1, 0, 0)], [], 0, 0)
def zX1_hasCell : zI := (yX1_hasCell, cX1_hasCell, 3, (some .boolean), [(0, .iload_n 1, 1, 0, 0), (1, .ifCond .lt 29, 3, 0, 0), (4, .iload_n 1, 1, 0, 0), (5, .aload_n 0, 1, 0, 0), (6, .getfield 9, 3, 1, 0), (9, .if_icmp .ge 21, 3, 0, 0), (12, .iload_n 2, 1, 0, 0), (13, .ifCond .lt 17, 3, 0, 0), (16, .iload_n 2, 1, 0, 0), (17, .aload_n 0, 1, 0, 0), (18, .getfield 15, 3, 1, 1), (21, .iload_n 1, 1, 0, 0), (22, .iaload, 1, 0, 0), (23, .if_icmp .ge 7, 3, 0, 0), (26, .iconst 1, 1, 0, 0), (27, .goto 4, 3, 0, 0), (30, .iconst 0, 1, 0, 0), (31, .ireturn, 1, 0, 0)], [], 0, 0)
def zX1_endsWithTab : zI := (yX1_endsWithTab, cX1_endsWithTab, 3, (some .boolean), [(0, .iload_n 1, 1, 0, 0), (1, .ifCond .lt 31, 3, 0, 0), (4, .iload_n 1, 1, 0, 0), (5, .aload_n 0, 1, 0, 0), (6, .getfield 9, 3, 1, 0), (9, .if_icmp .ge 23, 3, 0, 0), (12, .iload_n 2, 1, 0, 0), (13, .ifCond .lt 19, 3, 0, 0), (16, .iload_n 2, 1, 0, 0), (17, .aload_n 0, 1, 0, 0), (18, .getfield 15, 3, 1, 1), (21, .iload_n 1, 1, 0, 0), (22, .iaload, 1, 0, 0), (23, .iconst 1, 1, 0, 0), (24, .isub, 1, 0, 0), (25, .if_icmp .ge 7, 3, 0, 0), (28, .iconst 1, 1, 0, 0), (29, .goto 4, 3, 0, 0), (32, .iconst 0, 1, 0, 0), (33, .ireturn, 1, 0, 0)], [], 0, 0)
def zX1_cellsOf : zI := (yX1_cellsOf, cX1_cellsOf, 2, (some .int), [(0, .iload_n 1, 1, 0, 0), (1, .ifCond .lt 20, 3, 0, 0), (4, .iload_n 1, 1, 0, 0), (5, .aload_n 0, 1, 0, 0), (6, .getfield 9, 3, 1, 0), (9, .if_icmp .ge 12, 3, 0, 0), (12, .aload_n 0, 1, 0, 0), (13, .getfield 15, 3, 1, 1), (16, .iload_n 1, 1, 0, 0), (17, .iaload, 1, 0, 0), (18, .goto 4, 3, 0, 0), (21, .iconst 0, 1, 0, 0), (22, .ireturn, 1, 0, 0)], [], 0, 0)
def zX1_start : zI := (yX1_start, cX1_start, 3, (some .int), [(0, .aload_n 0, 1, 0, 0), (1, .iload_n 1, 1, 0, 0), (2, .iload_n 2, 1, 0, 0), (3, .invokevirtual 66, 3, 27, 2), (6, .ifCond .eq 16, 3, 0, 0), (9, .aload_n 0, 1, 0, 0), (10, .getfield 19, 3, 1, 2), (13, .iload_n 1, 1, 0, 0), (14, .iload_n 2, 1, 0, 0), (15, .invokestatic 49, 3, 24, 2), (18, .iaload, 1, 0, 0), (19, .goto 4, 3, 0, 0), (22, .iconst 0, 1, 0, 0), (23, .ireturn, 1, 0, 0)], [], 1, 22)
def zX1_length : zI := (yX1_length, cX1_length, 3, (some .int), [(0, .aload_n 0, 1, 0, 0), (1, .iload_n 1, 1, 0, 0), (2, .iload_n 2, 1, 0, 0), (3, .invokevirtual 66, 3, 27, 2), (6, .ifCond .eq 16, 3, 0, 0), (9, .aload_n 0, 1, 0, 0), (10, .getfield 22, 3, 1, 3), (13, .iload_n 1, 1, 0, 0), (14, .iload_n 2, 1, 0, 0), (15, .invokestatic 49, 3, 24, 2), (18, .iaload, 1, 0, 0), (19, .goto 4, 3, 0, 0), (22, .iconst 0, 1, 0, 0), (23, .ireturn, 1, 0, 0)], [], 1, 22)
def zX1_kind : zI := (yX1_kind, cX1_kind, 3, (some .int), [(0, .aload_n 0, 1, 0, 0), (1, .iload_n 1, 1, 0, 0), (2, .iload_n 2, 1, 0, 0), (3, .invokevirtual 66, 3, 27, 2), (6, .ifCond .eq 16, 3, 0, 0), (9, .aload_n 0, 1, 0, 0), (10, .getfield 25, 3, 1, 4), (13, .iload_n 1, 1, 0, 0), (14, .iload_n 2, 1, 0, 0), (15, .invokestatic 49, 3, 24, 2), (18, .iaload, 1, 0, 0), (19, .goto 4, 3, 0, 0), (22, .iconst 0, 1, 0, 0), (23, .ireturn, 1, 0, 0)], [], 1, 22)
def zX1_whole : zI := (yX1_whole, cX1_whole, 3, (some .int), [(0, .aload_n 0, 1, 0, 0), (1, .iload_n 1, 1, 0, 0), (2, .iload_n 2, 1, 0, 0), (3, .invokevirtual 66, 3, 27, 2), (6, .ifCond .eq 16, 3, 0, 0), (9, .aload_n 0, 1, 0, 0), (10, .getfield 28, 3, 1, 5), (13, .iload_n 1, 1, 0, 0), (14, .iload_n 2, 1, 0, 0), (15, .invokestatic 49, 3, 24, 2), (18, .iaload, 1, 0, 0), (19, .goto 4, 3, 0, 0), (22, .iconst 0, 1, 0, 0), (23, .ireturn, 1, 0, 0)], [], 1, 22)
def zX1_value : zI := (yX1_value, cX1_value, 3, (some .long), [(0, .aload_n 0, 1, 0, 0), (1, .iload_n 1, 1, 0, 0), (2, .iload_n 2, 1, 0, 0), (3, .invokevirtual 66, 3, 27, 2), (6, .ifCond .eq 16, 3, 0, 0), (9, .aload_n 0, 1, 0, 0), (10, .getfield 31, 3, 1, 6), (13, .iload_n 1, 1, 0, 0), (14, .iload_n 2, 1, 0, 0), (15, .invokestatic 49, 3, 24, 2), (18, .laload, 1, 0, 0), (19, .goto 4, 3, 0, 0), (22, .lconst 0, 1, 0, 0), (23, .lreturn, 1, 0, 0)], [], 1, 22)
def zX1_lineStart : zI := (yX1_lineStart, cX1_lineStart, 2, (some .int), [(0, .aload_n 0, 1, 0, 0), (1, .iload_n 1, 1, 0, 0), (2, .iconst 0, 1, 0, 0), (3, .invokevirtual 70, 3, 30, 2), (6, .ireturn, 1, 0, 0)], [], 2, 44)
def zX1_lineEnd : zI := (yX1_lineEnd, cX1_lineEnd, 3, (some .int), [(0, .aload_n 0, 1, 0, 0), (1, .iload_n 1, 1, 0, 0), (2, .invokevirtual 73, 3, 29, 1), (5, .iconst 1, 1, 0, 0), (6, .isub, 1, 0, 0), (7, .istore_n 2, 1, 0, 0), (8, .aload_n 0, 1, 0, 0), (9, .iload_n 1, 1, 0, 0), (10, .iload_n 2, 1, 0, 0), (11, .invokevirtual 70, 3, 30, 2), (14, .aload_n 0, 1, 0, 0), (15, .iload_n 1, 1, 0, 0), (16, .iload_n 2, 1, 0, 0), (17, .invokevirtual 76, 3, 31, 2), (20, .iadd, 1, 0, 0), (21, .ireturn, 1, 0, 0)], [], 2, 44)
def zX1_hasRoomFor : zI := (yX1_hasRoomFor, cX1_hasRoomFor, 4, (some .boolean), [(0, .iload_n 3, 1, 0, 0), (1, .bipush 10, 2, 0, 0), (3, .if_icmp .ne 18, 3, 0, 0), (6, .aload_n 0, 1, 0, 0), (7, .getfield 9, 3, 1, 0), (10, .bipush 24, 2, 0, 0), (12, .if_icmp .ge 7, 3, 0, 0), (15, .iconst 1, 1, 0, 0), (16, .goto 4, 3, 0, 0), (19, .iconst 0, 1, 0, 0), (20, .ireturn, 1, 0, 0), (21, .iload_n 3, 1, 0, 0), (22, .bipush 9, 2, 0, 0), (24, .if_icmp .ne 21, 3, 0, 0), (27, .aload_n 0, 1, 0, 0), (28, .iload_n 1, 1, 0, 0), (29, .invokevirtual 73, 3, 29, 1), (32, .bipush 8, 2, 0, 0), (34, .if_icmp .ge 7, 3, 0, 0), (37, .iconst 1, 1, 0, 0), (38, .goto 23, 3, 0, 0), (41, .iconst 0, 1, 0, 0), (42, .goto 19, 3, 0, 0), (45, .aload_n 0, 1, 0, 0), (46, .iload_n 1, 1, 0, 0), (47, .iload_n 2, 1, 0, 0), (48, .invokevirtual 76, 3, 31, 2), (51, .bipush 16, 2, 0, 0), (53, .if_icmp .ge 7, 3, 0, 0), (56, .iconst 1, 1, 0, 0), (57, .goto 4, 3, 0, 0), (60, .iconst 0, 1, 0, 0), (61, .ireturn, 1, 0, 0)], [], 2, 44)
def zX1_canErase : zI := (yX1_canErase, cX1_canErase, 5, (some .boolean), [(0, .aload_n 0, 1, 0, 0), (1, .iload_n 1, 1, 0, 0), (2, .iload_n 2, 1, 0, 0), (3, .invokevirtual 76, 3, 31, 2), (6, .istore 4, 2, 0, 0), (8, .iload_n 3, 1, 0, 0), (9, .iload 4, 2, 0, 0), (11, .if_icmp .ge 5, 3, 0, 0), (14, .iconst 1, 1, 0, 0), (15, .ireturn, 1, 0, 0), (16, .aload_n 0, 1, 0, 0), (17, .iload_n 1, 1, 0, 0), (18, .iload_n 2, 1, 0, 0), (19, .invokevirtual 79, 3, 28, 2), (22, .ifCond .eq 25, 3, 0, 0), (25, .iload 4, 2, 0, 0), (27, .aload_n 0, 1, 0, 0), (28, .iload_n 1, 1, 0, 0), (29, .iload_n 2, 1, 0, 0), (30, .iconst 1, 1, 0, 0), (31, .iadd, 1, 0, 0), (32, .invokevirtual 76, 3, 31, 2), (35, .iadd, 1, 0, 0), (36, .bipush 16, 2, 0, 0), (38, .if_icmp .gt 7, 3, 0, 0), (41, .iconst 1, 1, 0, 0), (42, .goto 4, 3, 0, 0), (45, .iconst 0, 1, 0, 0), (46, .ireturn, 1, 0, 0), (47, .aload_n 0, 1, 0, 0), (48, .iload_n 1, 1, 0, 0), (49, .iconst 1, 1, 0, 0), (50, .iadd, 1, 0, 0), (51, .invokevirtual 82, 3, 26, 1), (54, .ifCond .eq 43, 3, 0, 0), (57, .iload 4, 2, 0, 0), (59, .aload_n 0, 1, 0, 0), (60, .iload_n 1, 1, 0, 0), (61, .iconst 1, 1, 0, 0), (62, .iadd, 1, 0, 0), (63, .iconst 0, 1, 0, 0), (64, .invokevirtual 76, 3, 31, 2), (67, .iadd, 1, 0, 0), (68, .bipush 16, 2, 0, 0), (70, .if_icmp .gt 27, 3, 0, 0), (73, .aload_n 0, 1, 0, 0), (74, .iload_n 1, 1, 0, 0), (75, .invokevirtual 73, 3, 29, 1), (78, .aload_n 0, 1, 0, 0), (79, .iload_n 1, 1, 0, 0), (80, .iconst 1, 1, 0, 0), (81, .iadd, 1, 0, 0), (82, .invokevirtual 73, 3, 29, 1), (85, .iadd, 1, 0, 0), (86, .iconst 1, 1, 0, 0), (87, .isub, 1, 0, 0), (88, .bipush 8, 2, 0, 0), (90, .if_icmp .gt 7, 3, 0, 0), (93, .iconst 1, 1, 0, 0), (94, .goto 4, 3, 0, 0), (97, .iconst 0, 1, 0, 0), (98, .ireturn, 1, 0, 0)], [], 2, 44)
def zX1_hasFullLine : zI := (yX1_hasFullLine, cX1_hasFullLine, 4, (some .boolean), [(0, .iload_n 1, 1, 0, 0), (1, .istore_n 3, 1, 0, 0), (2, .iload_n 3, 1, 0, 0), (3, .iload_n 2, 1, 0, 0), (4, .if_icmp .gt 21, 3, 0, 0), (7, .aload_n 0, 1, 0, 0), (8, .iload_n 3, 1, 0, 0), (9, .invokevirtual 73, 3, 29, 1), (12, .bipush 8, 2, 0, 0), (14, .if_icmp .lt 5, 3, 0, 0), (17, .iconst 1, 1, 0, 0), (18, .ireturn, 1, 0, 0), (19, .iinc 3 1, 3, 0, 0), (22, .goto (-20), 3, 0, 0), (25, .iconst 0, 1, 0, 0), (26, .ireturn, 1, 0, 0)], [], 1, 21)
def zX1_cellCount : zI := (yX1_cellCount, cX1_cellCount, 3, (some .int), [(0, .iconst 0, 1, 0, 0), (1, .istore_n 1, 1, 0, 0), (2, .iconst 0, 1, 0, 0), (3, .istore_n 2, 1, 0, 0), (4, .iload_n 2, 1, 0, 0), (5, .aload_n 0, 1, 0, 0), (6, .getfield 9, 3, 1, 0), (9, .if_icmp .ge 17, 3, 0, 0), (12, .iload_n 1, 1, 0, 0), (13, .aload_n 0, 1, 0, 0), (14, .iload_n 2, 1, 0, 0), (15, .invokevirtual 73, 3, 29, 1), (18, .iadd, 1, 0, 0), (19, .istore_n 1, 1, 0, 0), (20, .iinc 2 1, 3, 0, 0), (23, .goto (-19), 3, 0, 0), (26, .iload_n 1, 1, 0, 0), (27, .ireturn, 1, 0, 0)], [], 1, 21)
def zX1_signCount : zI := (yX1_signCount, cX1_signCount, 3, (some .int), [(0, .iconst 0, 1, 0, 0), (1, .istore_n 1, 1, 0, 0), (2, .iconst 0, 1, 0, 0), (3, .istore_n 2, 1, 0, 0), (4, .iload_n 2, 1, 0, 0), (5, .aload_n 0, 1, 0, 0), (6, .getfield 9, 3, 1, 0), (9, .if_icmp .ge 17, 3, 0, 0), (12, .iload_n 1, 1, 0, 0), (13, .aload_n 0, 1, 0, 0), (14, .iload_n 2, 1, 0, 0), (15, .invokevirtual 86, 3, 42, 1), (18, .iadd, 1, 0, 0), (19, .istore_n 1, 1, 0, 0), (20, .iinc 2 1, 3, 0, 0), (23, .goto (-19), 3, 0, 0), (26, .iload_n 1, 1, 0, 0), (27, .ireturn, 1, 0, 0)], [], 3, 67)
def zX1_signsOf : zI := (yX1_signsOf, cX1_signsOf, 4, (some .int), [(0, .iconst 0, 1, 0, 0), (1, .istore_n 2, 1, 0, 0), (2, .iconst 0, 1, 0, 0), (3, .istore_n 3, 1, 0, 0), (4, .iload_n 3, 1, 0, 0), (5, .aload_n 0, 1, 0, 0), (6, .iload_n 1, 1, 0, 0), (7, .invokevirtual 73, 3, 29, 1), (10, .if_icmp .ge 18, 3, 0, 0), (13, .iload_n 2, 1, 0, 0), (14, .aload_n 0, 1, 0, 0), (15, .iload_n 1, 1, 0, 0), (16, .iload_n 3, 1, 0, 0), (17, .invokevirtual 76, 3, 31, 2), (20, .iadd, 1, 0, 0), (21, .istore_n 2, 1, 0, 0), (22, .iinc 3 1, 3, 0, 0), (25, .goto (-21), 3, 0, 0), (28, .iload_n 2, 1, 0, 0), (29, .ireturn, 1, 0, 0)], [], 2, 44)
def zX1_countKind : zI := (yX1_countKind, cX1_countKind, 5, (some .int), [(0, .iconst 0, 1, 0, 0), (1, .istore_n 2, 1, 0, 0), (2, .iconst 0, 1, 0, 0), (3, .istore_n 3, 1, 0, 0), (4, .iload_n 3, 1, 0, 0), (5, .aload_n 0, 1, 0, 0), (6, .getfield 9, 3, 1, 0), (9, .if_icmp .ge 47, 3, 0, 0), (12, .iconst 0, 1, 0, 0), (13, .istore 4, 2, 0, 0), (15, .iload 4, 2, 0, 0), (17, .aload_n 0, 1, 0, 0), (18, .iload_n 3, 1, 0, 0), (19, .invokevirtual 73, 3, 29, 1), (22, .if_icmp .ge 28, 3, 0, 0), (25, .iload_n 2, 1, 0, 0), (26, .aload_n 0, 1, 0, 0), (27, .iload_n 3, 1, 0, 0), (28, .iload 4, 2, 0, 0), (30, .invokevirtual 89, 3, 32, 2), (33, .iload_n 1, 1, 0, 0), (34, .if_icmp .ne 7, 3, 0, 0), (37, .iconst 1, 1, 0, 0), (38, .goto 4, 3, 0, 0), (41, .iconst 0, 1, 0, 0), (42, .iadd, 1, 0, 0), (43, .istore_n 2, 1, 0, 0), (44, .iinc 4 1, 3, 0, 0), (47, .goto (-32), 3, 0, 0), (50, .iinc 3 1, 3, 0, 0), (53, .goto (-49), 3, 0, 0), (56, .iload_n 2, 1, 0, 0), (57, .ireturn, 1, 0, 0)], [], 2, 44)
def zX1_fixedLength : zI := (yX1_fixedLength, cX1_fixedLength, 4, (some .int), [(0, .iconst 0, 1, 0, 0), (1, .istore_n 2, 1, 0, 0), (2, .iconst 0, 1, 0, 0), (3, .istore_n 3, 1, 0, 0), (4, .iload_n 3, 1, 0, 0), (5, .aload_n 0, 1, 0, 0), (6, .iload_n 1, 1, 0, 0), (7, .invokevirtual 73, 3, 29, 1), (10, .if_icmp .ge 37, 3, 0, 0), (13, .iload_n 2, 1, 0, 0), (14, .aload_n 0, 1, 0, 0), (15, .iload_n 1, 1, 0, 0), (16, .iload_n 3, 1, 0, 0), (17, .invokevirtual 76, 3, 31, 2), (20, .iadd, 1, 0, 0), (21, .istore_n 2, 1, 0, 0), (22, .aload_n 0, 1, 0, 0), (23, .iload_n 1, 1, 0, 0), (24, .iload_n 3, 1, 0, 0), (25, .invokevirtual 79, 3, 28, 2), (28, .ifCond .eq 13, 3, 0, 0), (31, .iload_n 2, 1, 0, 0), (32, .iload_n 2, 1, 0, 0), (33, .bipush 8, 2, 0, 0), (35, .irem, 1, 0, 0), (36, .isub, 1, 0, 0), (37, .bipush 8, 2, 0, 0), (39, .iadd, 1, 0, 0), (40, .istore_n 2, 1, 0, 0), (41, .iinc 3 1, 3, 0, 0), (44, .goto (-40), 3, 0, 0), (47, .iload_n 2, 1, 0, 0), (48, .ireturn, 1, 0, 0)], [], 2, 44)
def zX2_init : zI := (yX2_init, cX2_init, 1, none, [(0, .aload_n 0, 1, 0, 0), (1, .invokespecial 3, 3, 5001, 0), (4, .aload_n 0, 1, 0, 0), (5, .bipush 7, 2, 0, 0), (7, .newarray .int, 2, 0, 0), (9, .dup, 1, 0, 0), (10, .iconst 0, 1, 0, 0), (11, .iconst 3, 1, 0, 0), (12, .iastore, 1, 0, 0), (13, .dup, 1, 0, 0), (14, .iconst 1, 1, 0, 0), (15, .iconst 3, 1, 0, 0), (16, .iastore, 1, 0, 0), (17, .dup, 1, 0, 0), (18, .iconst 2, 1, 0, 0), (19, .iconst 3, 1, 0, 0), (20, .iastore, 1, 0, 0), (21, .dup, 1, 0, 0), (22, .iconst 3, 1, 0, 0), (23, .iconst 3, 1, 0, 0), (24, .iastore, 1, 0, 0), (25, .dup, 1, 0, 0), (26, .iconst 4, 1, 0, 0), (27, .iconst 3, 1, 0, 0), (28, .iastore, 1, 0, 0), (29, .dup, 1, 0, 0), (30, .iconst 5, 1, 0, 0), (31, .iconst 3, 1, 0, 0), (32, .iastore, 1, 0, 0), (33, .dup, 1, 0, 0), (34, .bipush 6, 2, 0, 0), (36, .iconst 3, 1, 0, 0), (37, .iastore, 1, 0, 0), (38, .putfield 9, 3, 2, 0), (41, .aload_n 0, 1, 0, 0), (42, .iconst 2, 1, 0, 0), (43, .putfield 15, 3, 2, 1), (46, .aload_n 0, 1, 0, 0), (47, .iconst 0, 1, 0, 0), (48, .putfield 19, 3, 2, 2), (51, .aload_n 0, 1, 0, 0), (52, .iconst 1, 1, 0, 0), (53, .putfield 22, 3, 2, 3), (56, .return_, 1, 0, 0)], [], 1, 24)
def zX2_alignment : zI := (yX2_alignment, cX2_alignment, 2, (some .int), [(0, .iload_n 1, 1, 0, 0), (1, .ifCond .lt 21, 3, 0, 0), (4, .iload_n 1, 1, 0, 0), (5, .aload_n 0, 1, 0, 0), (6, .getfield 9, 3, 2, 0), (9, .arraylength, 1, 0, 0), (10, .if_icmp .ge 12, 3, 0, 0), (13, .aload_n 0, 1, 0, 0), (14, .getfield 9, 3, 2, 0), (17, .iload_n 1, 1, 0, 0), (18, .iaload, 1, 0, 0), (19, .goto 4, 3, 0, 0), (22, .iconst 3, 1, 0, 0), (23, .ireturn, 1, 0, 0)], [], 0, 0)
def zX2_padding : zI := (yX2_padding, cX2_padding, 1, (some .int), [(0, .aload_n 0, 1, 0, 0), (1, .getfield 15, 3, 2, 1), (4, .ireturn, 1, 0, 0)], [], 0, 0)
def zX2_changeAlignment : zI := (yX2_changeAlignment, cX2_changeAlignment, 4, (some .int), [(0, .aload_n 0, 1, 0, 0), (1, .iload_n 1, 1, 0, 0), (2, .invokevirtual 25, 3, 46, 1), (5, .istore_n 3, 1, 0, 0), (6, .iload_n 1, 1, 0, 0), (7, .ifCond .lt 19, 3, 0, 0), (10, .iload_n 1, 1, 0, 0), (11, .aload_n 0, 1, 0, 0), (12, .getfield 9, 3, 2, 0), (15, .arraylength, 1, 0, 0), (16, .if_icmp .ge 10, 3, 0, 0), (19, .aload_n 0, 1, 0, 0), (20, .getfield 9, 3, 2, 0), (23, .iload_n 1, 1, 0, 0), (24, .iload_n 2, 1, 0, 0), (25, .iastore, 1, 0, 0), (26, .iload_n 3, 1, 0, 0), (27, .ireturn, 1, 0, 0)], [], 1, 21)
def zX2_allowsSpacing : zI := (yX2_allowsSpacing, cX2_allowsSpacing, 3, (some .boolean), [(0, .iload_n 1, 1, 0, 0), (1, .tableswitch 76 0 2 #[27, 43, 59], 27, 0, 0), (28, .iload_n 2, 1, 0, 0), (29, .ifCond .lt 13, 3, 0, 0), (32, .iload_n 2, 1, 0, 0), (33, .bipush 8, 2, 0, 0), (35, .if_icmp .gt 7, 3, 0, 0), (38, .iconst 1, 1, 0, 0), (39, .goto 4, 3, 0, 0), (42, .iconst 0, 1, 0, 0), (43, .ireturn, 1, 0, 0), (44, .iload_n 2, 1, 0, 0), (45, .ifCond .lt 13, 3, 0, 0), (48, .iload_n 2, 1, 0, 0), (49, .bipush 20, 2, 0, 0), (51, .if_icmp .gt 7, 3, 0, 0), (54, .iconst 1, 1, 0, 0), (55, .goto 4, 3, 0, 0), (58, .iconst 0, 1, 0, 0), (59, .ireturn, 1, 0, 0), (60, .iload_n 2, 1, 0, 0), (61, .iconst 1, 1, 0, 0), (62, .if_icmp .lt 13, 3, 0, 0), (65, .iload_n 2, 1, 0, 0), (66, .bipush 8, 2, 0, 0), (68, .if_icmp .gt 7, 3, 0, 0), (71, .iconst 1, 1, 0, 0), (72, .goto 4, 3, 0, 0), (75, .iconst 0, 1, 0, 0), (76, .ireturn, 1, 0, 0), (77, .iconst 0, 1, 0, 0), (78, .ireturn, 1, 0, 0)], [], 0, 0)
def zX2_changeSpacing : zI := (yX2_changeSpacing, cX2_changeSpacing, 4, (some .int), [(0, .iload_n 1, 1, 0, 0), (1, .ifCond .ne 16, 3, 0, 0), (4, .aload_n 0, 1, 0, 0), (5, .getfield 15, 3, 2, 1), (8, .istore_n 3, 1, 0, 0), (9, .aload_n 0, 1, 0, 0), (10, .iload_n 2, 1, 0, 0), (11, .putfield 15, 3, 2, 1), (14, .goto 31, 3, 0, 0), (17, .iload_n 1, 1, 0, 0), (18, .iconst 1, 1, 0, 0), (19, .if_icmp .ne 16, 3, 0, 0), (22, .aload_n 0, 1, 0, 0), (23, .getfield 19, 3, 2, 2), (26, .istore_n 3, 1, 0, 0), (27, .aload_n 0, 1, 0, 0), (28, .iload_n 2, 1, 0, 0), (29, .putfield 19, 3, 2, 2), (32, .goto 13, 3, 0, 0), (35, .aload_n 0, 1, 0, 0), (36, .getfield 22, 3, 2, 3), (39, .istore_n 3, 1, 0, 0), (40, .aload_n 0, 1, 0, 0), (41, .iload_n 2, 1, 0, 0), (42, .putfield 22, 3, 2, 3), (45, .iload_n 3, 1, 0, 0), (46, .ireturn, 1, 0, 0)], [], 0, 0)
def zX2_widthFor : zI := (yX2_widthFor, cX2_widthFor, 3, (some .int), [(0, .iload_n 1, 1, 0, 0), (1, .aload_n 0, 1, 0, 0), (2, .getfield 19, 3, 2, 2), (5, .invokestatic 29, 3, 5002, 2), (8, .aload_n 0, 1, 0, 0), (9, .getfield 15, 3, 2, 1), (12, .iadd, 1, 0, 0), (13, .istore_n 2, 1, 0, 0), (14, .aload_n 0, 1, 0, 0), (15, .getfield 22, 3, 2, 3), (18, .iconst 1, 1, 0, 0), (19, .if_icmp .gt 5, 3, 0, 0), (22, .iload_n 2, 1, 0, 0), (23, .ireturn, 1, 0, 0), (24, .iload_n 2, 1, 0, 0), (25, .aload_n 0, 1, 0, 0), (26, .getfield 22, 3, 2, 3), (29, .iadd, 1, 0, 0), (30, .iconst 1, 1, 0, 0), (31, .isub, 1, 0, 0), (32, .aload_n 0, 1, 0, 0), (33, .getfield 22, 3, 2, 3), (36, .idiv, 1, 0, 0), (37, .aload_n 0, 1, 0, 0), (38, .getfield 22, 3, 2, 3), (41, .imul, 1, 0, 0), (42, .ireturn, 1, 0, 0)], [], 1, 24)
def zX2_mixInto : zI := (yX2_mixInto, cX2_mixInto, 9, (some .long), [(0, .lload_n 1, 1, 0, 0), (1, .lstore_n 3, 1, 0, 0), (2, .aload_n 0, 1, 0, 0), (3, .getfield 9, 3, 2, 0), (6, .astore 5, 2, 0, 0), (8, .aload 5, 2, 0, 0), (10, .arraylength, 1, 0, 0), (11, .istore 6, 2, 0, 0), (13, .iconst 0, 1, 0, 0), (14, .istore 7, 2, 0, 0), (16, .iload 7, 2, 0, 0), (18, .iload 6, 2, 0, 0), (20, .if_icmp .ge 24, 3, 0, 0), (23, .aload 5, 2, 0, 0), (25, .iload 7, 2, 0, 0), (27, .iaload, 1, 0, 0), (28, .istore 8, 2, 0, 0), (30, .lload_n 3, 1, 0, 0), (31, .iload 8, 2, 0, 0), (33, .i2l, 1, 0, 0), (34, .invokestatic 35, 3, 156, 2), (37, .lstore_n 3, 1, 0, 0), (38, .iinc 7 1, 3, 0, 0), (41, .goto (-25), 3, 0, 0), (44, .lload_n 3, 1, 0, 0), (45, .aload_n 0, 1, 0, 0), (46, .getfield 15, 3, 2, 1), (49, .i2l, 1, 0, 0), (50, .invokestatic 35, 3, 156, 2), (53, .lstore_n 3, 1, 0, 0), (54, .lload_n 3, 1, 0, 0), (55, .aload_n 0, 1, 0, 0), (56, .getfield 19, 3, 2, 2), (59, .i2l, 1, 0, 0), (60, .invokestatic 35, 3, 156, 2), (63, .lstore_n 3, 1, 0, 0), (64, .lload_n 3, 1, 0, 0), (65, .aload_n 0, 1, 0, 0), (66, .getfield 22, 3, 2, 3), (69, .i2l, 1, 0, 0), (70, .invokestatic 35, 3, 156, 2), (73, .lreturn, 1, 0, 0)], [], 1, 23)
def zX3_init : zI := (yX3_init, cX3_init, 1, none, [(0, .aload_n 0, 1, 0, 0), (1, .invokespecial 3, 3, 5001, 0), (4, .aload_n 0, 1, 0, 0), (5, .bipush 11, 2, 0, 0), (7, .anewarray 9, 3, 0, 0), (10, .putfield 11, 3, 3, 0), (13, .aload_n 0, 1, 0, 0), (14, .new 9, 3, 7, 0), (17, .dup, 1, 0, 0), (18, .invokespecial 17, 3, 87, 0), (21, .putfield 18, 3, 3, 1), (24, .aload_n 0, 1, 0, 0), (25, .iconst 0, 1, 0, 0), (26, .putfield 22, 3, 3, 2), (29, .aload_n 0, 1, 0, 0), (30, .iconst 0, 1, 0, 0), (31, .putfield 26, 3, 3, 3), (34, .aload_n 0, 1, 0, 0), (35, .iconst 0, 1, 0, 0), (36, .putfield 29, 3, 3, 4), (39, .aload_n 0, 1, 0, 0), (40, .getfield 11, 3, 3, 0), (43, .iconst 0, 1, 0, 0), (44, .aload_n 0, 1, 0, 0), (45, .getfield 18, 3, 3, 1), (48, .aastore, 1, 0, 0), (49, .return_, 1, 0, 0)], [], 2, 44)
def zX3_page : zI := (yX3_page, cX3_page, 1, (some (.object "TabText$Page")), [(0, .aload_n 0, 1, 0, 0), (1, .getfield 18, 3, 3, 1), (4, .areturn, 1, 0, 0)], [], 0, 0)
def zX3_undos : zI := (yX3_undos, cX3_undos, 1, (some .int), [(0, .aload_n 0, 1, 0, 0), (1, .getfield 26, 3, 3, 3), (4, .ireturn, 1, 0, 0)], [], 0, 0)
def zX3_redos : zI := (yX3_redos, cX3_redos, 1, (some .int), [(0, .aload_n 0, 1, 0, 0), (1, .getfield 29, 3, 3, 4), (4, .ireturn, 1, 0, 0)], [], 0, 0)
def zX3_save : zI := (yX3_save, cX3_save, 3, (some (.object "TabText$Page")), [(0, .aload_n 0, 1, 0, 0), (1, .invokevirtual 32, 3, 60, 0), (4, .istore_n 1, 1, 0, 0), (5, .aload_n 0, 1, 0, 0), (6, .getfield 11, 3, 3, 0), (9, .iload_n 1, 1, 0, 0), (10, .aaload, 1, 0, 0), (11, .astore_n 2, 1, 0, 0), (12, .aload_n 2, 1, 0, 0), (13, .ifnonnull 18, 3, 0, 0), (16, .new 9, 3, 7, 0), (19, .dup, 1, 0, 0), (20, .invokespecial 17, 3, 87, 0), (23, .astore_n 2, 1, 0, 0), (24, .aload_n 0, 1, 0, 0), (25, .getfield 11, 3, 3, 0), (28, .iload_n 1, 1, 0, 0), (29, .aload_n 2, 1, 0, 0), (30, .aastore, 1, 0, 0), (31, .aload_n 2, 1, 0, 0), (32, .aload_n 0, 1, 0, 0), (33, .getfield 18, 3, 3, 1), (36, .invokevirtual 36, 3, 93, 1), (39, .aload_n 0, 1, 0, 0), (40, .aload_n 2, 1, 0, 0), (41, .putfield 18, 3, 3, 1), (44, .aload_n 0, 1, 0, 0), (45, .iload_n 1, 1, 0, 0), (46, .putfield 22, 3, 3, 2), (49, .aload_n 0, 1, 0, 0), (50, .aload_n 0, 1, 0, 0), (51, .getfield 26, 3, 3, 3), (54, .iconst 1, 1, 0, 0), (55, .iadd, 1, 0, 0), (56, .bipush 10, 2, 0, 0), (58, .invokestatic 40, 3, 5003, 2), (61, .putfield 26, 3, 3, 3), (64, .aload_n 0, 1, 0, 0), (65, .iconst 0, 1, 0, 0), (66, .putfield 29, 3, 3, 4), (69, .aload_n 2, 1, 0, 0), (70, .areturn, 1, 0, 0)], [], 2, 81)
def zX3_stepBack : zI := (yX3_stepBack, cX3_stepBack, 1, none, [(0, .aload_n 0, 1, 0, 0), (1, .getfield 26, 3, 3, 3), (4, .ifCond .le 45, 3, 0, 0), (7, .aload_n 0, 1, 0, 0), (8, .aload_n 0, 1, 0, 0), (9, .getfield 22, 3, 3, 2), (12, .ifCond .le 12, 3, 0, 0), (15, .aload_n 0, 1, 0, 0), (16, .getfield 22, 3, 3, 2), (19, .iconst 1, 1, 0, 0), (20, .isub, 1, 0, 0), (21, .goto 5, 3, 0, 0), (24, .bipush 10, 2, 0, 0), (26, .invokevirtual 46, 3, 61, 1), (29, .aload_n 0, 1, 0, 0), (30, .dup, 1, 0, 0), (31, .getfield 26, 3, 3, 3), (34, .iconst 1, 1, 0, 0), (35, .isub, 1, 0, 0), (36, .putfield 26, 3, 3, 3), (39, .aload_n 0, 1, 0, 0), (40, .dup, 1, 0, 0), (41, .getfield 29, 3, 3, 4), (44, .iconst 1, 1, 0, 0), (45, .iadd, 1, 0, 0), (46, .putfield 29, 3, 3, 4), (49, .return_, 1, 0, 0)], [], 1, 22)
def zX3_stepForward : zI := (yX3_stepForward, cX3_stepForward, 1, none, [(0, .aload_n 0, 1, 0, 0), (1, .getfield 29, 3, 3, 4), (4, .ifCond .le 31, 3, 0, 0), (7, .aload_n 0, 1, 0, 0), (8, .aload_n 0, 1, 0, 0), (9, .invokevirtual 32, 3, 60, 0), (12, .invokevirtual 46, 3, 61, 1), (15, .aload_n 0, 1, 0, 0), (16, .dup, 1, 0, 0), (17, .getfield 29, 3, 3, 4), (20, .iconst 1, 1, 0, 0), (21, .isub, 1, 0, 0), (22, .putfield 29, 3, 3, 4), (25, .aload_n 0, 1, 0, 0), (26, .dup, 1, 0, 0), (27, .getfield 26, 3, 3, 3), (30, .iconst 1, 1, 0, 0), (31, .iadd, 1, 0, 0), (32, .putfield 26, 3, 3, 3), (35, .return_, 1, 0, 0)], [], 1, 22)
def zX3_placeBehind : zI := (yX3_placeBehind, cX3_placeBehind, 1, (some .int), [(0, .aload_n 0, 1, 0, 0), (1, .getfield 22, 3, 3, 2), (4, .bipush 10, 2, 0, 0), (6, .if_icmp .ge 12, 3, 0, 0), (9, .aload_n 0, 1, 0, 0), (10, .getfield 22, 3, 3, 2), (13, .iconst 1, 1, 0, 0), (14, .iadd, 1, 0, 0), (15, .goto 4, 3, 0, 0), (18, .iconst 0, 1, 0, 0), (19, .ireturn, 1, 0, 0)], [], 0, 0)
def zX3_goTo : zI := (yX3_goTo, cX3_goTo, 3, none, [(0, .aload_n 0, 1, 0, 0), (1, .getfield 11, 3, 3, 0), (4, .iload_n 1, 1, 0, 0), (5, .aaload, 1, 0, 0), (6, .astore_n 2, 1, 0, 0), (7, .aload_n 2, 1, 0, 0), (8, .ifnull 13, 3, 0, 0), (11, .aload_n 0, 1, 0, 0), (12, .aload_n 2, 1, 0, 0), (13, .putfield 18, 3, 3, 1), (16, .aload_n 0, 1, 0, 0), (17, .iload_n 1, 1, 0, 0), (18, .putfield 22, 3, 3, 2), (21, .return_, 1, 0, 0)], [], 0, 0)
def zX4_init : zI := (yX4_init, cX4_init, 1, none, [(0, .aload_n 0, 1, 0, 0), (1, .invokespecial 3, 3, 5001, 0), (4, .aload_n 0, 1, 0, 0), (5, .bipush 120, 2, 0, 0), (7, .newarray .int, 2, 0, 0), (9, .putfield 9, 3, 4, 0), (12, .aload_n 0, 1, 0, 0), (13, .iconst 0, 1, 0, 0), (14, .putfield 15, 3, 4, 1), (17, .return_, 1, 0, 0)], [], 1, 24)
def zX4_length : zI := (yX4_length, cX4_length, 1, (some .int), [(0, .aload_n 0, 1, 0, 0), (1, .getfield 15, 3, 4, 1), (4, .ireturn, 1, 0, 0)], [], 0, 0)
def zX4_isFull : zI := (yX4_isFull, cX4_isFull, 1, (some .boolean), [(0, .aload_n 0, 1, 0, 0), (1, .getfield 15, 3, 4, 1), (4, .aload_n 0, 1, 0, 0), (5, .getfield 9, 3, 4, 0), (8, .arraylength, 1, 0, 0), (9, .if_icmp .lt 7, 3, 0, 0), (12, .iconst 1, 1, 0, 0), (13, .goto 4, 3, 0, 0), (16, .iconst 0, 1, 0, 0), (17, .ireturn, 1, 0, 0)], [], 0, 0)
def zX4_add : zI := (yX4_add, cX4_add, 2, (some .int), [(0, .aload_n 0, 1, 0, 0), (1, .getfield 15, 3, 4, 1), (4, .aload_n 0, 1, 0, 0), (5, .getfield 9, 3, 4, 0), (8, .arraylength, 1, 0, 0), (9, .if_icmp .ge 23, 3, 0, 0), (12, .aload_n 0, 1, 0, 0), (13, .getfield 9, 3, 4, 0), (16, .aload_n 0, 1, 0, 0), (17, .getfield 15, 3, 4, 1), (20, .iload_n 1, 1, 0, 0), (21, .iastore, 1, 0, 0), (22, .aload_n 0, 1, 0, 0), (23, .dup, 1, 0, 0), (24, .getfield 15, 3, 4, 1), (27, .iconst 1, 1, 0, 0), (28, .iadd, 1, 0, 0), (29, .putfield 15, 3, 4, 1), (32, .aload_n 0, 1, 0, 0), (33, .getfield 15, 3, 4, 1), (36, .ireturn, 1, 0, 0)], [], 0, 0)
def zX4_empty : zI := (yX4_empty, cX4_empty, 2, (some .int), [(0, .aload_n 0, 1, 0, 0), (1, .getfield 15, 3, 4, 1), (4, .istore_n 1, 1, 0, 0), (5, .aload_n 0, 1, 0, 0), (6, .iconst 0, 1, 0, 0), (7, .putfield 15, 3, 4, 1), (10, .iload_n 1, 1, 0, 0), (11, .ireturn, 1, 0, 0)], [], 0, 0)
def zX4_codeAt : zI := (yX4_codeAt, cX4_codeAt, 2, (some .int), [(0, .iload_n 1, 1, 0, 0), (1, .ifCond .lt 20, 3, 0, 0), (4, .iload_n 1, 1, 0, 0), (5, .aload_n 0, 1, 0, 0), (6, .getfield 15, 3, 4, 1), (9, .if_icmp .ge 12, 3, 0, 0), (12, .aload_n 0, 1, 0, 0), (13, .getfield 9, 3, 4, 0), (16, .iload_n 1, 1, 0, 0), (17, .iaload, 1, 0, 0), (18, .goto 4, 3, 0, 0), (21, .iconst 0, 1, 0, 0), (22, .ireturn, 1, 0, 0)], [], 0, 0)
def zX4_pageCodeAt : zI := (yX4_pageCodeAt, cX4_pageCodeAt, 3, (some .int), [(0, .aload_n 0, 1, 0, 0), (1, .iload_n 1, 1, 0, 0), (2, .invokevirtual 19, 3, 67, 1), (5, .istore_n 2, 1, 0, 0), (6, .iload_n 2, 1, 0, 0), (7, .bipush 124, 2, 0, 0), (9, .if_icmp .ne 6, 3, 0, 0), (12, .bipush 9, 2, 0, 0), (14, .ireturn, 1, 0, 0), (15, .iload_n 2, 1, 0, 0), (16, .bipush 47, 2, 0, 0), (18, .if_icmp .ne 8, 3, 0, 0), (21, .bipush 10, 2, 0, 0), (23, .goto 4, 3, 0, 0), (26, .iload_n 2, 1, 0, 0), (27, .ireturn, 1, 0, 0)], [], 1, 21)
def zX4_firstFault : zI := (yX4_firstFault, cX4_firstFault, 7, (some .int), [(0, .iconst 0, 1, 0, 0), (1, .istore_n 2, 1, 0, 0), (2, .iconst 1, 1, 0, 0), (3, .istore_n 3, 1, 0, 0), (4, .iconst 1, 1, 0, 0), (5, .istore 4, 2, 0, 0), (7, .iconst 0, 1, 0, 0), (8, .istore 5, 2, 0, 0), (10, .iload 5, 2, 0, 0), (12, .aload_n 0, 1, 0, 0), (13, .getfield 15, 3, 4, 1), (16, .if_icmp .ge 96, 3, 0, 0), (19, .aload_n 0, 1, 0, 0), (20, .getfield 9, 3, 4, 0), (23, .iload 5, 2, 0, 0), (25, .iaload, 1, 0, 0), (26, .istore 6, 2, 0, 0), (28, .iload 6, 2, 0, 0), (30, .bipush 124, 2, 0, 0), (32, .if_icmp .ne 22, 3, 0, 0), (35, .iload_n 1, 1, 0, 0), (36, .iconst 1, 1, 0, 0), (37, .if_icmp .lt 17, 3, 0, 0), (40, .iload_n 3, 1, 0, 0), (41, .bipush 8, 2, 0, 0), (43, .if_icmp .ge 11, 3, 0, 0), (46, .iinc 3 1, 3, 0, 0), (49, .iconst 0, 1, 0, 0), (50, .istore_n 2, 1, 0, 0), (51, .goto 55, 3, 0, 0), (54, .iload 6, 2, 0, 0), (56, .bipush 47, 2, 0, 0), (58, .if_icmp .ne 25, 3, 0, 0), (61, .iload_n 1, 1, 0, 0), (62, .iconst 2, 1, 0, 0), (63, .if_icmp .lt 20, 3, 0, 0), (66, .iload 4, 2, 0, 0), (68, .bipush 24, 2, 0, 0), (70, .if_icmp .ge 13, 3, 0, 0), (73, .iinc 4 1, 3, 0, 0), (76, .iconst 1, 1, 0, 0), (77, .istore_n 3, 1, 0, 0), (78, .iconst 0, 1, 0, 0), (79, .istore_n 2, 1, 0, 0), (80, .goto 26, 3, 0, 0), (83, .iload 6, 2, 0, 0), (85, .invokestatic 23, 3, 157, 1), (88, .ifCond .eq 15, 3, 0, 0), (91, .iload_n 2, 1, 0, 0), (92, .bipush 16, 2, 0, 0), (94, .if_icmp .ge 9, 3, 0, 0), (97, .iinc 2 1, 3, 0, 0), (100, .goto 6, 3, 0, 0), (103, .iload 5, 2, 0, 0), (105, .ireturn, 1, 0, 0), (106, .iinc 5 1, 3, 0, 0), (109, .goto (-99), 3, 0, 0), (112, .aload_n 0, 1, 0, 0), (113, .getfield 15, 3, 4, 1), (116, .ireturn, 1, 0, 0)], [], 2, 40)
def zX4_mixInto : zI := (yX4_mixInto, cX4_mixInto, 6, (some .long), [(0, .lload_n 1, 1, 0, 0), (1, .aload_n 0, 1, 0, 0), (2, .getfield 15, 3, 4, 1), (5, .i2l, 1, 0, 0), (6, .invokestatic 27, 3, 156, 2), (9, .lstore_n 3, 1, 0, 0), (10, .iconst 0, 1, 0, 0), (11, .istore 5, 2, 0, 0), (13, .iload 5, 2, 0, 0), (15, .aload_n 0, 1, 0, 0), (16, .getfield 15, 3, 4, 1), (19, .if_icmp .ge 22, 3, 0, 0), (22, .lload_n 3, 1, 0, 0), (23, .aload_n 0, 1, 0, 0), (24, .getfield 9, 3, 4, 0), (27, .iload 5, 2, 0, 0), (29, .iaload, 1, 0, 0), (30, .i2l, 1, 0, 0), (31, .invokestatic 27, 3, 156, 2), (34, .lstore_n 3, 1, 0, 0), (35, .iinc 5 1, 3, 0, 0), (38, .goto (-25), 3, 0, 0), (41, .lload_n 3, 1, 0, 0), (42, .lreturn, 1, 0, 0)], [], 1, 23)
def zX5_init : zI := (yX5_init, cX5_init, 1, none, [(0, .aload_n 0, 1, 0, 0), (1, .invokespecial 3, 3, 5001, 0), (4, .aload_n 0, 1, 0, 0), (5, .new 9, 3, 1, 0), (8, .dup, 1, 0, 0), (9, .invokespecial 11, 3, 21, 0), (12, .putfield 12, 3, 5, 0), (15, .aload_n 0, 1, 0, 0), (16, .new 18, 3, 0, 0), (19, .dup, 1, 0, 0), (20, .invokespecial 20, 3, 0, 0), (23, .putfield 21, 3, 5, 1), (26, .aload_n 0, 1, 0, 0), (27, .sipush 192, 3, 0, 0), (30, .newarray .int, 2, 0, 0), (32, .putfield 25, 3, 5, 2), (35, .aload_n 0, 1, 0, 0), (36, .sipush 192, 3, 0, 0), (39, .newarray .int, 2, 0, 0), (41, .putfield 29, 3, 5, 3), (44, .return_, 1, 0, 0)], [], 2, 44)
def zX5_placeCells : zI := (yX5_placeCells, cX5_placeCells, 3, none, [(0, .iconst 0, 1, 0, 0), (1, .istore_n 1, 1, 0, 0), (2, .iload_n 1, 1, 0, 0), (3, .aload_n 0, 1, 0, 0), (4, .getfield 12, 3, 5, 0), (7, .invokevirtual 32, 3, 25, 0), (10, .if_icmp .ge 40, 3, 0, 0), (13, .iconst 0, 1, 0, 0), (14, .istore_n 2, 1, 0, 0), (15, .iload_n 2, 1, 0, 0), (16, .aload_n 0, 1, 0, 0), (17, .getfield 12, 3, 5, 0), (20, .iload_n 1, 1, 0, 0), (21, .invokevirtual 36, 3, 29, 1), (24, .if_icmp .ge 20, 3, 0, 0), (27, .aload_n 0, 1, 0, 0), (28, .getfield 29, 3, 5, 3), (31, .iload_n 1, 1, 0, 0), (32, .iload_n 2, 1, 0, 0), (33, .invokestatic 40, 3, 24, 2), (36, .iconst (-1), 1, 0, 0), (37, .iastore, 1, 0, 0), (38, .iinc 2 1, 3, 0, 0), (41, .goto (-26), 3, 0, 0), (44, .iinc 1 1, 3, 0, 0), (47, .goto (-45), 3, 0, 0), (50, .iconst 0, 1, 0, 0), (51, .istore_n 1, 1, 0, 0), (52, .iload_n 1, 1, 0, 0), (53, .aload_n 0, 1, 0, 0), (54, .getfield 21, 3, 5, 1), (57, .invokevirtual 44, 3, 8, 0), (60, .if_icmp .ge 54, 3, 0, 0), (63, .aload_n 0, 1, 0, 0), (64, .getfield 21, 3, 5, 1), (67, .iload_n 1, 1, 0, 0), (68, .invokevirtual 47, 3, 12, 1), (71, .istore_n 2, 1, 0, 0), (72, .iload_n 2, 1, 0, 0), (73, .aload_n 0, 1, 0, 0), (74, .getfield 21, 3, 5, 1), (77, .iload_n 1, 1, 0, 0), (78, .invokevirtual 50, 3, 13, 1), (81, .if_icmp .gt 27, 3, 0, 0), (84, .aload_n 0, 1, 0, 0), (85, .getfield 29, 3, 5, 3), (88, .iload_n 2, 1, 0, 0), (89, .aload_n 0, 1, 0, 0), (90, .getfield 21, 3, 5, 1), (93, .iload_n 1, 1, 0, 0), (94, .invokevirtual 53, 3, 11, 1), (97, .invokestatic 40, 3, 24, 2), (100, .iload_n 1, 1, 0, 0), (101, .iastore, 1, 0, 0), (102, .iinc 2 1, 3, 0, 0), (105, .goto (-33), 3, 0, 0), (108, .iinc 1 1, 3, 0, 0), (111, .goto (-59), 3, 0, 0), (114, .iconst 0, 1, 0, 0), (115, .istore_n 1, 1, 0, 0), (116, .iload_n 1, 1, 0, 0), (117, .aload_n 0, 1, 0, 0), (118, .getfield 12, 3, 5, 0), (121, .invokevirtual 32, 3, 25, 0), (124, .if_icmp .ge 14, 3, 0, 0), (127, .aload_n 0, 1, 0, 0), (128, .iload_n 1, 1, 0, 0), (129, .invokevirtual 56, 3, 73, 1), (132, .iinc 1 1, 3, 0, 0), (135, .goto (-19), 3, 0, 0), (138, .return_, 1, 0, 0)], [], 3, 66)
def zX5_placeCellsOf : zI := (yX5_placeCellsOf, cX5_placeCellsOf, 5, none, [(0, .iconst 0, 1, 0, 0), (1, .istore_n 2, 1, 0, 0), (2, .iconst 0, 1, 0, 0), (3, .istore_n 3, 1, 0, 0), (4, .iload_n 3, 1, 0, 0), (5, .aload_n 0, 1, 0, 0), (6, .getfield 12, 3, 5, 0), (9, .iload_n 1, 1, 0, 0), (10, .invokevirtual 36, 3, 29, 1), (13, .if_icmp .ge 41, 3, 0, 0), (16, .iload_n 1, 1, 0, 0), (17, .iload_n 3, 1, 0, 0), (18, .invokestatic 40, 3, 24, 2), (21, .istore 4, 2, 0, 0), (23, .aload_n 0, 1, 0, 0), (24, .getfield 25, 3, 5, 2), (27, .iload 4, 2, 0, 0), (29, .iload_n 2, 1, 0, 0), (30, .iastore, 1, 0, 0), (31, .iload_n 2, 1, 0, 0), (32, .aload_n 0, 1, 0, 0), (33, .getfield 21, 3, 5, 1), (36, .aload_n 0, 1, 0, 0), (37, .getfield 29, 3, 5, 3), (40, .iload 4, 2, 0, 0), (42, .iaload, 1, 0, 0), (43, .invokevirtual 60, 3, 14, 1), (46, .iadd, 1, 0, 0), (47, .istore_n 2, 1, 0, 0), (48, .iinc 3 1, 3, 0, 0), (51, .goto (-47), 3, 0, 0), (54, .return_, 1, 0, 0)], [], 2, 42)
def zX5_x : zI := (yX5_x, cX5_x, 3, (some .int), [(0, .aload_n 0, 1, 0, 0), (1, .getfield 12, 3, 5, 0), (4, .iload_n 1, 1, 0, 0), (5, .iload_n 2, 1, 0, 0), (6, .invokevirtual 63, 3, 27, 2), (9, .ifCond .eq 16, 3, 0, 0), (12, .aload_n 0, 1, 0, 0), (13, .getfield 25, 3, 5, 2), (16, .iload_n 1, 1, 0, 0), (17, .iload_n 2, 1, 0, 0), (18, .invokestatic 40, 3, 24, 2), (21, .iaload, 1, 0, 0), (22, .goto 4, 3, 0, 0), (25, .iconst 0, 1, 0, 0), (26, .ireturn, 1, 0, 0)], [], 1, 22)
def zX5_blockNumber : zI := (yX5_blockNumber, cX5_blockNumber, 3, (some .int), [(0, .aload_n 0, 1, 0, 0), (1, .getfield 12, 3, 5, 0), (4, .iload_n 1, 1, 0, 0), (5, .iload_n 2, 1, 0, 0), (6, .invokevirtual 63, 3, 27, 2), (9, .ifCond .eq 16, 3, 0, 0), (12, .aload_n 0, 1, 0, 0), (13, .getfield 29, 3, 5, 3), (16, .iload_n 1, 1, 0, 0), (17, .iload_n 2, 1, 0, 0), (18, .invokestatic 40, 3, 24, 2), (21, .iaload, 1, 0, 0), (22, .goto 4, 3, 0, 0), (25, .iconst (-1), 1, 0, 0), (26, .ireturn, 1, 0, 0)], [], 1, 22)
def zX5_shift : zI := (yX5_shift, cX5_shift, 7, (some .int), [(0, .aload_n 0, 1, 0, 0), (1, .iload_n 1, 1, 0, 0), (2, .iload_n 2, 1, 0, 0), (3, .invokevirtual 67, 3, 75, 2), (6, .istore 4, 2, 0, 0), (8, .iload 4, 2, 0, 0), (10, .iconst (-1), 1, 0, 0), (11, .if_icmp .ne 5, 3, 0, 0), (14, .iconst 0, 1, 0, 0), (15, .ireturn, 1, 0, 0), (16, .aload_n 0, 1, 0, 0), (17, .getfield 21, 3, 5, 1), (20, .iload 4, 2, 0, 0), (22, .invokevirtual 60, 3, 14, 1), (25, .aload_n 3, 1, 0, 0), (26, .invokevirtual 70, 3, 47, 0), (29, .isub, 1, 0, 0), (30, .istore 5, 2, 0, 0), (32, .iload 5, 2, 0, 0), (34, .aload_n 0, 1, 0, 0), (35, .getfield 12, 3, 5, 0), (38, .iload_n 1, 1, 0, 0), (39, .iload_n 2, 1, 0, 0), (40, .invokevirtual 75, 3, 31, 2), (43, .isub, 1, 0, 0), (44, .istore 6, 2, 0, 0), (46, .aload_n 0, 1, 0, 0), (47, .getfield 21, 3, 5, 1), (50, .iload 4, 2, 0, 0), (52, .invokevirtual 78, 3, 15, 1), (55, .tableswitch 74 1 3 #[25, 28, 33], 25, 0, 0), (80, .iload 6, 2, 0, 0), (82, .ireturn, 1, 0, 0), (83, .iload 6, 2, 0, 0), (85, .iconst 2, 1, 0, 0), (86, .idiv, 1, 0, 0), (87, .ireturn, 1, 0, 0), (88, .aload_n 0, 1, 0, 0), (89, .getfield 12, 3, 5, 0), (92, .iload_n 1, 1, 0, 0), (93, .iload_n 2, 1, 0, 0), (94, .invokevirtual 81, 3, 32, 2), (97, .iconst 1, 1, 0, 0), (98, .if_icmp .ne 28, 3, 0, 0), (101, .iload 5, 2, 0, 0), (103, .aload_n 0, 1, 0, 0), (104, .getfield 21, 3, 5, 1), (107, .iload 4, 2, 0, 0), (109, .invokevirtual 84, 3, 17, 1), (112, .isub, 1, 0, 0), (113, .aload_n 0, 1, 0, 0), (114, .getfield 12, 3, 5, 0), (117, .iload_n 1, 1, 0, 0), (118, .iload_n 2, 1, 0, 0), (119, .invokevirtual 87, 3, 33, 2), (122, .isub, 1, 0, 0), (123, .goto 5, 3, 0, 0), (126, .iload 6, 2, 0, 0), (128, .ireturn, 1, 0, 0), (129, .iconst 0, 1, 0, 0), (130, .ireturn, 1, 0, 0)], [], 2, 44)
def zX5_cellFact : zI := (yX5_cellFact, cX5_cellFact, 5, (some .int), [(0, .iload_n 3, 1, 0, 0), (1, .tableswitch 67 0 3 #[31, 41, 51, 58], 31, 0, 0), (32, .aload_n 0, 1, 0, 0), (33, .getfield 12, 3, 5, 0), (36, .iload_n 1, 1, 0, 0), (37, .iload_n 2, 1, 0, 0), (38, .invokevirtual 75, 3, 31, 2), (41, .ireturn, 1, 0, 0), (42, .aload_n 0, 1, 0, 0), (43, .getfield 12, 3, 5, 0), (46, .iload_n 1, 1, 0, 0), (47, .iload_n 2, 1, 0, 0), (48, .invokevirtual 81, 3, 32, 2), (51, .ireturn, 1, 0, 0), (52, .aload_n 0, 1, 0, 0), (53, .iload_n 1, 1, 0, 0), (54, .iload_n 2, 1, 0, 0), (55, .invokevirtual 90, 3, 74, 2), (58, .ireturn, 1, 0, 0), (59, .aload_n 0, 1, 0, 0), (60, .iload_n 1, 1, 0, 0), (61, .iload_n 2, 1, 0, 0), (62, .aload 4, 2, 0, 0), (64, .invokevirtual 93, 3, 76, 3), (67, .ireturn, 1, 0, 0), (68, .aload_n 0, 1, 0, 0), (69, .iload_n 1, 1, 0, 0), (70, .iload_n 2, 1, 0, 0), (71, .invokevirtual 67, 3, 75, 2), (74, .ireturn, 1, 0, 0)], [], 3, 70)
def zX5_lineFact : zI := (yX5_lineFact, cX5_lineFact, 3, (some .int), [(0, .iload_n 2, 1, 0, 0), (1, .tableswitch 51 0 2 #[27, 36, 42], 27, 0, 0), (28, .aload_n 0, 1, 0, 0), (29, .getfield 12, 3, 5, 0), (32, .iload_n 1, 1, 0, 0), (33, .invokevirtual 36, 3, 29, 1), (36, .ireturn, 1, 0, 0), (37, .aload_n 0, 1, 0, 0), (38, .iload_n 1, 1, 0, 0), (39, .invokevirtual 97, 3, 79, 1), (42, .ireturn, 1, 0, 0), (43, .aload_n 0, 1, 0, 0), (44, .getfield 12, 3, 5, 0), (47, .iload_n 1, 1, 0, 0), (48, .invokevirtual 100, 3, 42, 1), (51, .ireturn, 1, 0, 0), (52, .aload_n 0, 1, 0, 0), (53, .getfield 12, 3, 5, 0), (56, .iload_n 1, 1, 0, 0), (57, .invokevirtual 103, 3, 44, 1), (60, .ireturn, 1, 0, 0)], [], 3, 67)
def zX5_shownLength : zI := (yX5_shownLength, cX5_shownLength, 3, (some .int), [(0, .aload_n 0, 1, 0, 0), (1, .getfield 12, 3, 5, 0), (4, .iload_n 1, 1, 0, 0), (5, .invokevirtual 36, 3, 29, 1), (8, .iconst 1, 1, 0, 0), (9, .isub, 1, 0, 0), (10, .istore_n 2, 1, 0, 0), (11, .aload_n 0, 1, 0, 0), (12, .iload_n 1, 1, 0, 0), (13, .iload_n 2, 1, 0, 0), (14, .invokevirtual 90, 3, 74, 2), (17, .aload_n 0, 1, 0, 0), (18, .getfield 12, 3, 5, 0), (21, .iload_n 1, 1, 0, 0), (22, .iload_n 2, 1, 0, 0), (23, .invokevirtual 75, 3, 31, 2), (26, .iadd, 1, 0, 0), (27, .ireturn, 1, 0, 0)], [], 2, 44)
def zX5_greatestShownLength : zI := (yX5_greatestShownLength, cX5_greatestShownLength, 3, (some .int), [(0, .iconst 0, 1, 0, 0), (1, .istore_n 1, 1, 0, 0), (2, .iconst 0, 1, 0, 0), (3, .istore_n 2, 1, 0, 0), (4, .iload_n 2, 1, 0, 0), (5, .aload_n 0, 1, 0, 0), (6, .getfield 12, 3, 5, 0), (9, .invokevirtual 32, 3, 25, 0), (12, .if_icmp .ge 19, 3, 0, 0), (15, .iload_n 1, 1, 0, 0), (16, .aload_n 0, 1, 0, 0), (17, .iload_n 2, 1, 0, 0), (18, .invokevirtual 97, 3, 79, 1), (21, .invokestatic 106, 3, 5002, 2), (24, .istore_n 1, 1, 0, 0), (25, .iinc 2 1, 3, 0, 0), (28, .goto (-24), 3, 0, 0), (31, .iload_n 1, 1, 0, 0), (32, .ireturn, 1, 0, 0)], [], 3, 66)
def zX5_cellAt : zI := (yX5_cellAt, cX5_cellAt, 5, (some .int), [(0, .iconst 0, 1, 0, 0), (1, .istore_n 3, 1, 0, 0), (2, .iconst 1, 1, 0, 0), (3, .istore 4, 2, 0, 0), (5, .iload 4, 2, 0, 0), (7, .aload_n 0, 1, 0, 0), (8, .getfield 12, 3, 5, 0), (11, .iload_n 1, 1, 0, 0), (12, .invokevirtual 36, 3, 29, 1), (15, .if_icmp .ge 23, 3, 0, 0), (18, .aload_n 0, 1, 0, 0), (19, .iload_n 1, 1, 0, 0), (20, .iload 4, 2, 0, 0), (22, .invokevirtual 90, 3, 74, 2), (25, .iload_n 2, 1, 0, 0), (26, .if_icmp .gt 6, 3, 0, 0), (29, .iload 4, 2, 0, 0), (31, .istore_n 3, 1, 0, 0), (32, .iinc 4 1, 3, 0, 0), (35, .goto (-30), 3, 0, 0), (38, .iload_n 3, 1, 0, 0), (39, .ireturn, 1, 0, 0)], [], 2, 44)
def zX5_countOtherX : zI := (yX5_countOtherX, cX5_countOtherX, 6, (some .int), [(0, .iconst 0, 1, 0, 0), (1, .istore_n 2, 1, 0, 0), (2, .iconst 0, 1, 0, 0), (3, .istore_n 3, 1, 0, 0), (4, .iload_n 3, 1, 0, 0), (5, .aload_n 0, 1, 0, 0), (6, .getfield 12, 3, 5, 0), (9, .invokevirtual 32, 3, 25, 0), (12, .if_icmp .ge 81, 3, 0, 0), (15, .iconst 0, 1, 0, 0), (16, .istore 4, 2, 0, 0), (18, .iload 4, 2, 0, 0), (20, .aload_n 0, 1, 0, 0), (21, .getfield 12, 3, 5, 0), (24, .iload_n 3, 1, 0, 0), (25, .invokevirtual 36, 3, 29, 1), (28, .if_icmp .ge 59, 3, 0, 0), (31, .aload_n 1, 1, 0, 0), (32, .getfield 12, 3, 5, 0), (35, .iload_n 3, 1, 0, 0), (36, .iload 4, 2, 0, 0), (38, .invokevirtual 63, 3, 27, 2), (41, .ifCond .eq 24, 3, 0, 0), (44, .aload_n 1, 1, 0, 0), (45, .iload_n 3, 1, 0, 0), (46, .iload 4, 2, 0, 0), (48, .invokevirtual 90, 3, 74, 2), (51, .aload_n 0, 1, 0, 0), (52, .iload_n 3, 1, 0, 0), (53, .iload 4, 2, 0, 0), (55, .invokevirtual 90, 3, 74, 2), (58, .if_icmp .eq 7, 3, 0, 0), (61, .iconst 1, 1, 0, 0), (62, .goto 4, 3, 0, 0), (65, .iconst 0, 1, 0, 0), (66, .istore 5, 2, 0, 0), (68, .iload_n 2, 1, 0, 0), (69, .iload 5, 2, 0, 0), (71, .ifCond .eq 7, 3, 0, 0), (74, .iconst 1, 1, 0, 0), (75, .goto 4, 3, 0, 0), (78, .iconst 0, 1, 0, 0), (79, .iadd, 1, 0, 0), (80, .istore_n 2, 1, 0, 0), (81, .iinc 4 1, 3, 0, 0), (84, .goto (-66), 3, 0, 0), (87, .iinc 3 1, 3, 0, 0), (90, .goto (-86), 3, 0, 0), (93, .iload_n 2, 1, 0, 0), (94, .ireturn, 1, 0, 0)], [], 2, 44)
def zX6_init : zI := (yX6_init, cX6_init, 3, none, [(0, .aload_n 0, 1, 0, 0), (1, .invokespecial 3, 3, 5001, 0), (4, .aload_n 0, 1, 0, 0), (5, .bipush 24, 2, 0, 0), (7, .newarray .int, 2, 0, 0), (9, .putfield 9, 3, 6, 0), (12, .aload_n 0, 1, 0, 0), (13, .iload_n 1, 1, 0, 0), (14, .bipush 24, 2, 0, 0), (16, .invokestatic 15, 3, 5003, 2), (19, .putfield 21, 3, 6, 1), (22, .iconst 0, 1, 0, 0), (23, .istore_n 2, 1, 0, 0), (24, .iload_n 2, 1, 0, 0), (25, .aload_n 0, 1, 0, 0), (26, .getfield 21, 3, 6, 1), (29, .if_icmp .ge 16, 3, 0, 0), (32, .aload_n 0, 1, 0, 0), (33, .getfield 9, 3, 6, 0), (36, .iload_n 2, 1, 0, 0), (37, .iload_n 2, 1, 0, 0), (38, .iastore, 1, 0, 0), (39, .iinc 2 1, 3, 0, 0), (42, .goto (-18), 3, 0, 0), (45, .return_, 1, 0, 0)], [], 1, 24)
def zX6_lineAt : zI := (yX6_lineAt, cX6_lineAt, 2, (some .int), [(0, .iload_n 1, 1, 0, 0), (1, .ifCond .lt 20, 3, 0, 0), (4, .iload_n 1, 1, 0, 0), (5, .aload_n 0, 1, 0, 0), (6, .getfield 21, 3, 6, 1), (9, .if_icmp .ge 12, 3, 0, 0), (12, .aload_n 0, 1, 0, 0), (13, .getfield 9, 3, 6, 0), (16, .iload_n 1, 1, 0, 0), (17, .iaload, 1, 0, 0), (18, .goto 4, 3, 0, 0), (21, .iconst 0, 1, 0, 0), (22, .ireturn, 1, 0, 0)], [], 0, 0)
def zX6_move : zI := (yX6_move, cX6_move, 5, none, [(0, .iload_n 1, 1, 0, 0), (1, .ifCond .lt 23, 3, 0, 0), (4, .iload_n 1, 1, 0, 0), (5, .aload_n 0, 1, 0, 0), (6, .getfield 21, 3, 6, 1), (9, .if_icmp .ge 15, 3, 0, 0), (12, .iload_n 2, 1, 0, 0), (13, .ifCond .lt 11, 3, 0, 0), (16, .iload_n 2, 1, 0, 0), (17, .aload_n 0, 1, 0, 0), (18, .getfield 21, 3, 6, 1), (21, .if_icmp .lt 4, 3, 0, 0), (24, .return_, 1, 0, 0), (25, .aload_n 0, 1, 0, 0), (26, .getfield 9, 3, 6, 0), (29, .iload_n 1, 1, 0, 0), (30, .iaload, 1, 0, 0), (31, .istore_n 3, 1, 0, 0), (32, .iload_n 1, 1, 0, 0), (33, .istore 4, 2, 0, 0), (35, .iload 4, 2, 0, 0), (37, .iload_n 2, 1, 0, 0), (38, .if_icmp .ge 25, 3, 0, 0), (41, .aload_n 0, 1, 0, 0), (42, .getfield 9, 3, 6, 0), (45, .iload 4, 2, 0, 0), (47, .aload_n 0, 1, 0, 0), (48, .getfield 9, 3, 6, 0), (51, .iload 4, 2, 0, 0), (53, .iconst 1, 1, 0, 0), (54, .iadd, 1, 0, 0), (55, .iaload, 1, 0, 0), (56, .iastore, 1, 0, 0), (57, .iinc 4 1, 3, 0, 0), (60, .goto (-25), 3, 0, 0), (63, .iload_n 1, 1, 0, 0), (64, .istore 4, 2, 0, 0), (66, .iload 4, 2, 0, 0), (68, .iload_n 2, 1, 0, 0), (69, .if_icmp .le 25, 3, 0, 0), (72, .aload_n 0, 1, 0, 0), (73, .getfield 9, 3, 6, 0), (76, .iload 4, 2, 0, 0), (78, .aload_n 0, 1, 0, 0), (79, .getfield 9, 3, 6, 0), (82, .iload 4, 2, 0, 0), (84, .iconst 1, 1, 0, 0), (85, .isub, 1, 0, 0), (86, .iaload, 1, 0, 0), (87, .iastore, 1, 0, 0), (88, .iinc 4 (-1), 3, 0, 0), (91, .goto (-25), 3, 0, 0), (94, .aload_n 0, 1, 0, 0), (95, .getfield 9, 3, 6, 0), (98, .iload_n 2, 1, 0, 0), (99, .iload_n 3, 1, 0, 0), (100, .iastore, 1, 0, 0), (101, .return_, 1, 0, 0)], [], 0, 0)
def zX6_moved : zI := (yX6_moved, cX6_moved, 3, (some .int), [(0, .iconst 0, 1, 0, 0), (1, .istore_n 1, 1, 0, 0), (2, .iconst 0, 1, 0, 0), (3, .istore_n 2, 1, 0, 0), (4, .iload_n 2, 1, 0, 0), (5, .aload_n 0, 1, 0, 0), (6, .getfield 21, 3, 6, 1), (9, .if_icmp .ge 27, 3, 0, 0), (12, .iload_n 1, 1, 0, 0), (13, .aload_n 0, 1, 0, 0), (14, .getfield 9, 3, 6, 0), (17, .iload_n 2, 1, 0, 0), (18, .iaload, 1, 0, 0), (19, .iload_n 2, 1, 0, 0), (20, .if_icmp .ne 7, 3, 0, 0), (23, .iconst 0, 1, 0, 0), (24, .goto 4, 3, 0, 0), (27, .iconst 1, 1, 0, 0), (28, .iadd, 1, 0, 0), (29, .istore_n 1, 1, 0, 0), (30, .iinc 2 1, 3, 0, 0), (33, .goto (-29), 3, 0, 0), (36, .iload_n 1, 1, 0, 0), (37, .ireturn, 1, 0, 0)], [], 0, 0)
def zX7_init : zI := (yX7_init, cX7_init, 1, none, [(0, .aload_n 0, 1, 0, 0), (1, .invokespecial 3, 3, 5001, 0), (4, .aload_n 0, 1, 0, 0), (5, .sipush 3264, 3, 0, 0), (8, .newarray .int, 2, 0, 0), (10, .putfield 9, 3, 7, 0), (13, .aload_n 0, 1, 0, 0), (14, .iconst 0, 1, 0, 0), (15, .putfield 15, 3, 7, 1), (18, .return_, 1, 0, 0)], [], 1, 24)
def zX7_size : zI := (yX7_size, cX7_size, 1, (some .int), [(0, .aload_n 0, 1, 0, 0), (1, .getfield 15, 3, 7, 1), (4, .ireturn, 1, 0, 0)], [], 0, 0)
def zX7_codeAt : zI := (yX7_codeAt, cX7_codeAt, 2, (some .int), [(0, .iload_n 1, 1, 0, 0), (1, .ifCond .lt 20, 3, 0, 0), (4, .iload_n 1, 1, 0, 0), (5, .aload_n 0, 1, 0, 0), (6, .getfield 15, 3, 7, 1), (9, .if_icmp .ge 12, 3, 0, 0), (12, .aload_n 0, 1, 0, 0), (13, .getfield 9, 3, 7, 0), (16, .iload_n 1, 1, 0, 0), (17, .iaload, 1, 0, 0), (18, .goto 4, 3, 0, 0), (21, .iconst 0, 1, 0, 0), (22, .ireturn, 1, 0, 0)], [], 0, 0)
def zX7_clear : zI := (yX7_clear, cX7_clear, 1, none, [(0, .aload_n 0, 1, 0, 0), (1, .iconst 0, 1, 0, 0), (2, .putfield 15, 3, 7, 1), (5, .return_, 1, 0, 0)], [], 0, 0)
def zX7_add : zI := (yX7_add, cX7_add, 2, none, [(0, .aload_n 0, 1, 0, 0), (1, .getfield 15, 3, 7, 1), (4, .aload_n 0, 1, 0, 0), (5, .getfield 9, 3, 7, 0), (8, .arraylength, 1, 0, 0), (9, .if_icmp .ge 23, 3, 0, 0), (12, .aload_n 0, 1, 0, 0), (13, .getfield 9, 3, 7, 0), (16, .aload_n 0, 1, 0, 0), (17, .getfield 15, 3, 7, 1), (20, .iload_n 1, 1, 0, 0), (21, .iastore, 1, 0, 0), (22, .aload_n 0, 1, 0, 0), (23, .dup, 1, 0, 0), (24, .getfield 15, 3, 7, 1), (27, .iconst 1, 1, 0, 0), (28, .iadd, 1, 0, 0), (29, .putfield 15, 3, 7, 1), (32, .return_, 1, 0, 0)], [], 0, 0)
def zX7_addFrom : zI := (yX7_addFrom, cX7_addFrom, 5, none, [(0, .iload_n 2, 1, 0, 0), (1, .istore 4, 2, 0, 0), (3, .iload 4, 2, 0, 0), (5, .iload_n 3, 1, 0, 0), (6, .if_icmp .ge 19, 3, 0, 0), (9, .aload_n 0, 1, 0, 0), (10, .aload_n 1, 1, 0, 0), (11, .iload 4, 2, 0, 0), (13, .invokevirtual 19, 3, 89, 1), (16, .invokevirtual 23, 3, 91, 1), (19, .iinc 4 1, 3, 0, 0), (22, .goto (-19), 3, 0, 0), (25, .return_, 1, 0, 0)], [], 1, 21)
def zX7_becomeCopyOf : zI := (yX7_becomeCopyOf, cX7_becomeCopyOf, 2, none, [(0, .aload_n 1, 1, 0, 0), (1, .getfield 9, 3, 7, 0), (4, .iconst 0, 1, 0, 0), (5, .aload_n 0, 1, 0, 0), (6, .getfield 9, 3, 7, 0), (9, .iconst 0, 1, 0, 0), (10, .aload_n 1, 1, 0, 0), (11, .getfield 15, 3, 7, 1), (14, .invokestatic 27, 3, 5000, 5), (17, .aload_n 0, 1, 0, 0), (18, .aload_n 1, 1, 0, 0), (19, .getfield 15, 3, 7, 1), (22, .putfield 15, 3, 7, 1), (25, .return_, 1, 0, 0)], [], 1, 60)
def zX7_put : zI := (yX7_put, cX7_put, 3, none, [(0, .aload_n 0, 1, 0, 0), (1, .iload_n 1, 1, 0, 0), (2, .iconst 1, 1, 0, 0), (3, .invokevirtual 33, 3, 96, 2), (6, .ifCond .eq 10, 3, 0, 0), (9, .aload_n 0, 1, 0, 0), (10, .getfield 9, 3, 7, 0), (13, .iload_n 1, 1, 0, 0), (14, .iload_n 2, 1, 0, 0), (15, .iastore, 1, 0, 0), (16, .return_, 1, 0, 0)], [], 2, 82)
def zX7_putInput : zI := (yX7_putInput, cX7_putInput, 4, none, [(0, .aload_n 0, 1, 0, 0), (1, .iload_n 1, 1, 0, 0), (2, .aload_n 2, 1, 0, 0), (3, .invokevirtual 37, 3, 63, 0), (6, .invokevirtual 33, 3, 96, 2), (9, .ifCond .eq 32, 3, 0, 0), (12, .iconst 0, 1, 0, 0), (13, .istore_n 3, 1, 0, 0), (14, .iload_n 3, 1, 0, 0), (15, .aload_n 2, 1, 0, 0), (16, .invokevirtual 37, 3, 63, 0), (19, .if_icmp .ge 22, 3, 0, 0), (22, .aload_n 0, 1, 0, 0), (23, .getfield 9, 3, 7, 0), (26, .iload_n 1, 1, 0, 0), (27, .iload_n 3, 1, 0, 0), (28, .iadd, 1, 0, 0), (29, .aload_n 2, 1, 0, 0), (30, .iload_n 3, 1, 0, 0), (31, .invokevirtual 43, 3, 68, 1), (34, .iastore, 1, 0, 0), (35, .iinc 3 1, 3, 0, 0), (38, .goto (-24), 3, 0, 0), (41, .return_, 1, 0, 0)], [], 2, 82)
def zX7_open : zI := (yX7_open, cX7_open, 3, (some .boolean), [(0, .iload_n 1, 1, 0, 0), (1, .ifCond .lt 29, 3, 0, 0), (4, .iload_n 1, 1, 0, 0), (5, .aload_n 0, 1, 0, 0), (6, .getfield 15, 3, 7, 1), (9, .if_icmp .gt 21, 3, 0, 0), (12, .iload_n 2, 1, 0, 0), (13, .ifCond .lt 17, 3, 0, 0), (16, .iload_n 2, 1, 0, 0), (17, .aload_n 0, 1, 0, 0), (18, .getfield 9, 3, 7, 0), (21, .arraylength, 1, 0, 0), (22, .aload_n 0, 1, 0, 0), (23, .getfield 15, 3, 7, 1), (26, .isub, 1, 0, 0), (27, .if_icmp .le 5, 3, 0, 0), (30, .iconst 0, 1, 0, 0), (31, .ireturn, 1, 0, 0), (32, .aload_n 0, 1, 0, 0), (33, .getfield 9, 3, 7, 0), (36, .iload_n 1, 1, 0, 0), (37, .aload_n 0, 1, 0, 0), (38, .getfield 9, 3, 7, 0), (41, .iload_n 1, 1, 0, 0), (42, .iload_n 2, 1, 0, 0), (43, .iadd, 1, 0, 0), (44, .aload_n 0, 1, 0, 0), (45, .getfield 15, 3, 7, 1), (48, .iload_n 1, 1, 0, 0), (49, .isub, 1, 0, 0), (50, .invokestatic 27, 3, 5000, 5), (53, .aload_n 0, 1, 0, 0), (54, .dup, 1, 0, 0), (55, .getfield 15, 3, 7, 1), (58, .iload_n 2, 1, 0, 0), (59, .iadd, 1, 0, 0), (60, .putfield 15, 3, 7, 1), (63, .iconst 1, 1, 0, 0), (64, .ireturn, 1, 0, 0)], [], 1, 60)
def zX7_cut : zI := (yX7_cut, cX7_cut, 3, none, [(0, .iload_n 1, 1, 0, 0), (1, .ifCond .lt 25, 3, 0, 0), (4, .iload_n 2, 1, 0, 0), (5, .ifCond .lt 21, 3, 0, 0), (8, .iload_n 1, 1, 0, 0), (9, .aload_n 0, 1, 0, 0), (10, .getfield 15, 3, 7, 1), (13, .if_icmp .gt 13, 3, 0, 0), (16, .iload_n 2, 1, 0, 0), (17, .aload_n 0, 1, 0, 0), (18, .getfield 15, 3, 7, 1), (21, .iload_n 1, 1, 0, 0), (22, .isub, 1, 0, 0), (23, .if_icmp .le 4, 3, 0, 0), (26, .return_, 1, 0, 0), (27, .aload_n 0, 1, 0, 0), (28, .getfield 9, 3, 7, 0), (31, .iload_n 1, 1, 0, 0), (32, .iload_n 2, 1, 0, 0), (33, .iadd, 1, 0, 0), (34, .aload_n 0, 1, 0, 0), (35, .getfield 9, 3, 7, 0), (38, .iload_n 1, 1, 0, 0), (39, .aload_n 0, 1, 0, 0), (40, .getfield 15, 3, 7, 1), (43, .iload_n 1, 1, 0, 0), (44, .isub, 1, 0, 0), (45, .iload_n 2, 1, 0, 0), (46, .isub, 1, 0, 0), (47, .invokestatic 27, 3, 5000, 5), (50, .aload_n 0, 1, 0, 0), (51, .dup, 1, 0, 0), (52, .getfield 15, 3, 7, 1), (55, .iload_n 2, 1, 0, 0), (56, .isub, 1, 0, 0), (57, .putfield 15, 3, 7, 1), (60, .return_, 1, 0, 0)], [], 1, 60)
def zX7_runStart : zI := (yX7_runStart, cX7_runStart, 4, (some .int), [(0, .iload_n 2, 1, 0, 0), (1, .istore_n 3, 1, 0, 0), (2, .iload_n 3, 1, 0, 0), (3, .iload_n 1, 1, 0, 0), (4, .if_icmp .le 21, 3, 0, 0), (7, .aload_n 0, 1, 0, 0), (8, .iload_n 3, 1, 0, 0), (9, .iconst 1, 1, 0, 0), (10, .isub, 1, 0, 0), (11, .invokevirtual 19, 3, 89, 1), (14, .bipush 32, 2, 0, 0), (16, .if_icmp .ne 9, 3, 0, 0), (19, .iinc 3 (-1), 3, 0, 0), (22, .goto (-20), 3, 0, 0), (25, .iload_n 3, 1, 0, 0), (26, .ireturn, 1, 0, 0)], [], 1, 21)
def zX7_countRuns : zI := (yX7_countRuns, cX7_countRuns, 7, (some .int), [(0, .iconst 0, 1, 0, 0), (1, .istore 4, 2, 0, 0), (3, .iload_n 2, 1, 0, 0), (4, .istore 5, 2, 0, 0), (6, .iload 5, 2, 0, 0), (8, .iload_n 1, 1, 0, 0), (9, .if_icmp .le 45, 3, 0, 0), (12, .aload_n 0, 1, 0, 0), (13, .iload_n 1, 1, 0, 0), (14, .iload 5, 2, 0, 0), (16, .invokevirtual 46, 3, 98, 2), (19, .istore 6, 2, 0, 0), (21, .iload 5, 2, 0, 0), (23, .iload 6, 2, 0, 0), (25, .isub, 1, 0, 0), (26, .iload_n 3, 1, 0, 0), (27, .if_icmp .lt 6, 3, 0, 0), (30, .iinc 4 1, 3, 0, 0), (33, .iload 6, 2, 0, 0), (35, .iload 5, 2, 0, 0), (37, .if_icmp .ge 8, 3, 0, 0), (40, .iload 6, 2, 0, 0), (42, .goto 7, 3, 0, 0), (45, .iload 5, 2, 0, 0), (47, .iconst 1, 1, 0, 0), (48, .isub, 1, 0, 0), (49, .istore 5, 2, 0, 0), (51, .goto (-45), 3, 0, 0), (54, .iload 4, 2, 0, 0), (56, .ireturn, 1, 0, 0)], [], 2, 44)
def zX7_replaceRuns : zI := (yX7_replaceRuns, cX7_replaceRuns, 6, none, [(0, .iload_n 2, 1, 0, 0), (1, .istore 4, 2, 0, 0), (3, .iload 4, 2, 0, 0), (5, .iload_n 1, 1, 0, 0), (6, .if_icmp .le 61, 3, 0, 0), (9, .aload_n 0, 1, 0, 0), (10, .iload_n 1, 1, 0, 0), (11, .iload 4, 2, 0, 0), (13, .invokevirtual 46, 3, 98, 2), (16, .istore 5, 2, 0, 0), (18, .iload 4, 2, 0, 0), (20, .iload 5, 2, 0, 0), (22, .isub, 1, 0, 0), (23, .iload_n 3, 1, 0, 0), (24, .if_icmp .lt 22, 3, 0, 0), (27, .aload_n 0, 1, 0, 0), (28, .iload 5, 2, 0, 0), (30, .iload 4, 2, 0, 0), (32, .iload 5, 2, 0, 0), (34, .isub, 1, 0, 0), (35, .invokevirtual 50, 3, 97, 2), (38, .aload_n 0, 1, 0, 0), (39, .iload 5, 2, 0, 0), (41, .bipush 9, 2, 0, 0), (43, .invokevirtual 54, 3, 94, 2), (46, .iload 5, 2, 0, 0), (48, .iload 4, 2, 0, 0), (50, .if_icmp .ge 8, 3, 0, 0), (53, .iload 5, 2, 0, 0), (55, .goto 7, 3, 0, 0), (58, .iload 4, 2, 0, 0), (60, .iconst 1, 1, 0, 0), (61, .isub, 1, 0, 0), (62, .istore 4, 2, 0, 0), (64, .goto (-61), 3, 0, 0), (67, .return_, 1, 0, 0)], [], 3, 104)
def zX8_kindOf : zI := (yX8_kindOf, cX8_kindOf, 3, (some .int), [(0, .aload_n 0, 1, 0, 0), (1, .iload_n 1, 1, 0, 0), (2, .iload_n 2, 1, 0, 0), (3, .invokestatic 9, 3, 102, 3), (6, .ifCond .eq 5, 3, 0, 0), (9, .iconst 0, 1, 0, 0), (10, .ireturn, 1, 0, 0), (11, .aload_n 0, 1, 0, 0), (12, .iload_n 1, 1, 0, 0), (13, .iload_n 2, 1, 0, 0), (14, .invokestatic 15, 3, 103, 3), (17, .ifCond .eq 7, 3, 0, 0), (20, .iconst 1, 1, 0, 0), (21, .goto 4, 3, 0, 0), (24, .iconst 2, 1, 0, 0), (25, .ireturn, 1, 0, 0)], [], 2, 48)
def zX8_isBlank : zI := (yX8_isBlank, cX8_isBlank, 4, (some .boolean), [(0, .iload_n 1, 1, 0, 0), (1, .istore_n 3, 1, 0, 0), (2, .iload_n 3, 1, 0, 0), (3, .iload_n 2, 1, 0, 0), (4, .if_icmp .ge 21, 3, 0, 0), (7, .aload_n 0, 1, 0, 0), (8, .iload_n 3, 1, 0, 0), (9, .invokevirtual 18, 3, 89, 1), (12, .bipush 32, 2, 0, 0), (14, .if_icmp .eq 5, 3, 0, 0), (17, .iconst 0, 1, 0, 0), (18, .ireturn, 1, 0, 0), (19, .iinc 3 1, 3, 0, 0), (22, .goto (-20), 3, 0, 0), (25, .iconst 1, 1, 0, 0), (26, .ireturn, 1, 0, 0)], [], 1, 21)
def zX8_isNumber : zI := (yX8_isNumber, cX8_isNumber, 8, (some .boolean), [(0, .iconst 0, 1, 0, 0), (1, .istore_n 3, 1, 0, 0), (2, .iconst 0, 1, 0, 0), (3, .istore 4, 2, 0, 0), (5, .iconst 0, 1, 0, 0), (6, .istore 5, 2, 0, 0), (8, .iload_n 1, 1, 0, 0), (9, .istore 6, 2, 0, 0), (11, .iload 6, 2, 0, 0), (13, .iload_n 2, 1, 0, 0), (14, .if_icmp .ge 89, 3, 0, 0), (17, .aload_n 0, 1, 0, 0), (18, .iload 6, 2, 0, 0), (20, .invokevirtual 18, 3, 89, 1), (23, .istore 7, 2, 0, 0), (25, .iload 7, 2, 0, 0), (27, .invokestatic 24, 3, 158, 1), (30, .ifCond .eq 34, 3, 0, 0), (33, .iload_n 3, 1, 0, 0), (34, .iload 5, 2, 0, 0), (36, .ifCond .eq 7, 3, 0, 0), (39, .iconst 0, 1, 0, 0), (40, .goto 4, 3, 0, 0), (43, .iconst 1, 1, 0, 0), (44, .iadd, 1, 0, 0), (45, .istore_n 3, 1, 0, 0), (46, .iload 4, 2, 0, 0), (48, .iload 5, 2, 0, 0), (50, .ifCond .eq 7, 3, 0, 0), (53, .iconst 1, 1, 0, 0), (54, .goto 4, 3, 0, 0), (57, .iconst 0, 1, 0, 0), (58, .iadd, 1, 0, 0), (59, .istore 4, 2, 0, 0), (61, .goto 36, 3, 0, 0), (64, .iload 7, 2, 0, 0), (66, .bipush 46, 2, 0, 0), (68, .if_icmp .ne 14, 3, 0, 0), (71, .iload 5, 2, 0, 0), (73, .ifCond .ne 9, 3, 0, 0), (76, .iconst 1, 1, 0, 0), (77, .istore 5, 2, 0, 0), (79, .goto 18, 3, 0, 0), (82, .iload 7, 2, 0, 0), (84, .bipush 45, 2, 0, 0), (86, .if_icmp .ne 9, 3, 0, 0), (89, .iload 6, 2, 0, 0), (91, .iload_n 1, 1, 0, 0), (92, .if_icmp .le 5, 3, 0, 0), (95, .iconst 0, 1, 0, 0), (96, .ireturn, 1, 0, 0), (97, .iinc 6 1, 3, 0, 0), (100, .goto (-89), 3, 0, 0), (103, .iload 5, 2, 0, 0), (105, .ifCond .eq 15, 3, 0, 0), (108, .iload 4, 2, 0, 0), (110, .iconst 1, 1, 0, 0), (111, .if_icmp .lt 13, 3, 0, 0), (114, .iload 4, 2, 0, 0), (116, .iconst 4, 1, 0, 0), (117, .if_icmp .gt 7, 3, 0, 0), (120, .iconst 1, 1, 0, 0), (121, .goto 4, 3, 0, 0), (124, .iconst 0, 1, 0, 0), (125, .istore 6, 2, 0, 0), (127, .iload_n 3, 1, 0, 0), (128, .iconst 1, 1, 0, 0), (129, .if_icmp .lt 18, 3, 0, 0), (132, .iload_n 3, 1, 0, 0), (133, .bipush 9, 2, 0, 0), (135, .if_icmp .gt 12, 3, 0, 0), (138, .iload 6, 2, 0, 0), (140, .ifCond .eq 7, 3, 0, 0), (143, .iconst 1, 1, 0, 0), (144, .goto 4, 3, 0, 0), (147, .iconst 0, 1, 0, 0), (148, .ireturn, 1, 0, 0)], [], 1, 21)
def zX8_wholeLength : zI := (yX8_wholeLength, cX8_wholeLength, 4, (some .int), [(0, .iload_n 1, 1, 0, 0), (1, .istore_n 3, 1, 0, 0), (2, .iload_n 3, 1, 0, 0), (3, .iload_n 2, 1, 0, 0), (4, .if_icmp .ge 19, 3, 0, 0), (7, .aload_n 0, 1, 0, 0), (8, .iload_n 3, 1, 0, 0), (9, .invokevirtual 18, 3, 89, 1), (12, .bipush 46, 2, 0, 0), (14, .if_icmp .eq 9, 3, 0, 0), (17, .iinc 3 1, 3, 0, 0), (20, .goto (-18), 3, 0, 0), (23, .iload_n 3, 1, 0, 0), (24, .iload_n 1, 1, 0, 0), (25, .isub, 1, 0, 0), (26, .ireturn, 1, 0, 0)], [], 1, 21)
def zX8_valueOf : zI := (yX8_valueOf, cX8_valueOf, 8, (some .long), [(0, .lconst 0, 1, 0, 0), (1, .lstore_n 3, 1, 0, 0), (2, .iload_n 1, 1, 0, 0), (3, .istore 5, 2, 0, 0), (5, .iload 5, 2, 0, 0), (7, .iload_n 2, 1, 0, 0), (8, .if_icmp .ge 38, 3, 0, 0), (11, .aload_n 0, 1, 0, 0), (12, .iload 5, 2, 0, 0), (14, .invokevirtual 18, 3, 89, 1), (17, .istore 6, 2, 0, 0), (19, .iload 6, 2, 0, 0), (21, .invokestatic 24, 3, 158, 1), (24, .ifCond .eq 16, 3, 0, 0), (27, .ldc2_w 28, 3, 10, 0), (30, .lload_n 3, 1, 0, 0), (31, .lmul, 1, 0, 0), (32, .iload 6, 2, 0, 0), (34, .bipush 48, 2, 0, 0), (36, .isub, 1, 0, 0), (37, .i2l, 1, 0, 0), (38, .ladd, 1, 0, 0), (39, .lstore_n 3, 1, 0, 0), (40, .iinc 5 1, 3, 0, 0), (43, .goto (-38), 3, 0, 0), (46, .iload_n 1, 1, 0, 0), (47, .aload_n 0, 1, 0, 0), (48, .iload_n 1, 1, 0, 0), (49, .iload_n 2, 1, 0, 0), (50, .invokestatic 30, 3, 104, 3), (53, .iadd, 1, 0, 0), (54, .istore 5, 2, 0, 0), (56, .iconst 0, 1, 0, 0), (57, .iload_n 2, 1, 0, 0), (58, .iload 5, 2, 0, 0), (60, .isub, 1, 0, 0), (61, .iconst 1, 1, 0, 0), (62, .isub, 1, 0, 0), (63, .invokestatic 34, 3, 5002, 2), (66, .istore 6, 2, 0, 0), (68, .iload 6, 2, 0, 0), (70, .istore 7, 2, 0, 0), (72, .iload 7, 2, 0, 0), (74, .iconst 4, 1, 0, 0), (75, .if_icmp .ge 15, 3, 0, 0), (78, .lload_n 3, 1, 0, 0), (79, .ldc2_w 28, 3, 10, 0), (82, .lmul, 1, 0, 0), (83, .lstore_n 3, 1, 0, 0), (84, .iinc 7 1, 3, 0, 0), (87, .goto (-15), 3, 0, 0), (90, .aload_n 0, 1, 0, 0), (91, .iload_n 1, 1, 0, 0), (92, .invokevirtual 18, 3, 89, 1), (95, .bipush 45, 2, 0, 0), (97, .if_icmp .ne 8, 3, 0, 0), (100, .lload_n 3, 1, 0, 0), (101, .lneg, 1, 0, 0), (102, .goto 4, 3, 0, 0), (105, .lload_n 3, 1, 0, 0), (106, .lreturn, 1, 0, 0)], [], 2, 44)
def zX9_init : zI := (yX9_init, cX9_init, 1, none, [(0, .aload_n 0, 1, 0, 0), (1, .invokespecial 3, 3, 5001, 0), (4, .aload_n 0, 1, 0, 0), (5, .new 9, 3, 4, 0), (8, .dup, 1, 0, 0), (9, .invokespecial 11, 3, 62, 0), (12, .putfield 12, 3, 8, 0), (15, .aload_n 0, 1, 0, 0), (16, .new 16, 3, 2, 0), (19, .dup, 1, 0, 0), (20, .invokespecial 18, 3, 45, 0), (23, .putfield 19, 3, 8, 1), (26, .aload_n 0, 1, 0, 0), (27, .new 23, 3, 3, 0), (30, .dup, 1, 0, 0), (31, .invokespecial 25, 3, 53, 0), (34, .putfield 26, 3, 8, 2), (37, .aload_n 0, 1, 0, 0), (38, .new 30, 3, 5, 0), (41, .dup, 1, 0, 0), (42, .invokespecial 32, 3, 71, 0), (45, .putfield 33, 3, 8, 3), (48, .aload_n 0, 1, 0, 0), (49, .new 30, 3, 5, 0), (52, .dup, 1, 0, 0), (53, .invokespecial 32, 3, 71, 0), (56, .putfield 37, 3, 8, 4), (59, .aload_n 0, 1, 0, 0), (60, .aload_n 0, 1, 0, 0), (61, .getfield 33, 3, 8, 3), (64, .invokevirtual 40, 3, 139, 1), (67, .return_, 1, 0, 0)], [], 6, 145)
def zX9_append : zI := (yX9_append, cX9_append, 2, (some .int), [(0, .iload_n 1, 1, 0, 0), (1, .bipush 32, 2, 0, 0), (3, .if_icmp .lt 9, 3, 0, 0), (6, .iload_n 1, 1, 0, 0), (7, .bipush 126, 2, 0, 0), (9, .if_icmp .le 13, 3, 0, 0), (12, .new 44, 3, 0, 1), (22, .aload_n 0, 1, 0, 0), (23, .getfield 12, 3, 8, 0), (26, .invokevirtual 51, 3, 64, 0), (29, .ifCond .eq 13, 3, 0, 0), (32, .new 55, 3, 1, 1), (42, .aload_n 0, 1, 0, 0), (43, .getfield 12, 3, 8, 0), (46, .iload_n 1, 1, 0, 0), (47, .invokevirtual 60, 3, 65, 1), (50, .ireturn, 1, 0, 0)], [], 6, 100)
def zX9_clearInput : zI := (yX9_clearInput, cX9_clearInput, 1, (some .int), [(0, .aload_n 0, 1, 0, 0), (1, .getfield 12, 3, 8, 0), (4, .invokevirtual 64, 3, 66, 0), (7, .ireturn, 1, 0, 0)], [], 1, 21)
def zX9_firstError : zI := (yX9_firstError, cX9_firstError, 2, (some .int), [(0, .iload_n 1, 1, 0, 0), (1, .ifCond .lt 8, 3, 0, 0), (4, .iload_n 1, 1, 0, 0), (5, .iconst 2, 1, 0, 0), (6, .if_icmp .le 13, 3, 0, 0), (9, .new 44, 3, 0, 1), (19, .aload_n 0, 1, 0, 0), (20, .getfield 12, 3, 8, 0), (23, .iload_n 1, 1, 0, 0), (24, .invokevirtual 70, 3, 69, 1), (27, .ireturn, 1, 0, 0)], [], 6, 100)
def zX9_load : zI := (yX9_load, cX9_load, 2, (some .int), [(0, .aload_n 0, 1, 0, 0), (1, .iconst 2, 1, 0, 0), (2, .invokevirtual 73, 3, 146, 1), (5, .aload_n 0, 1, 0, 0), (6, .getfield 26, 3, 8, 2), (9, .invokevirtual 77, 3, 57, 0), (12, .astore_n 1, 1, 0, 0), (13, .aload_n 1, 1, 0, 0), (14, .invokevirtual 81, 3, 90, 0), (17, .aload_n 1, 1, 0, 0), (18, .iconst 0, 1, 0, 0), (19, .aload_n 0, 1, 0, 0), (20, .getfield 12, 3, 8, 0), (23, .invokevirtual 86, 3, 95, 2), (26, .aload_n 0, 1, 0, 0), (27, .getfield 12, 3, 8, 0), (30, .invokevirtual 64, 3, 66, 0), (33, .pop, 1, 0, 0), (34, .aload_n 0, 1, 0, 0), (35, .aload_n 0, 1, 0, 0), (36, .getfield 33, 3, 8, 3), (39, .invokevirtual 40, 3, 139, 1), (42, .aload_n 0, 1, 0, 0), (43, .invokevirtual 90, 3, 138, 0), (46, .invokevirtual 94, 3, 25, 0), (49, .ireturn, 1, 0, 0)], [], 7, 145)
def zX9_type : zI := (yX9_type, cX9_type, 6, (some .int), [(0, .aload_n 0, 1, 0, 0), (1, .iload_n 1, 1, 0, 0), (2, .iload_n 2, 1, 0, 0), (3, .iload_n 3, 1, 0, 0), (4, .iload 4, 2, 0, 0), (6, .invokevirtual 99, 3, 143, 4), (9, .aload_n 0, 1, 0, 0), (10, .invokevirtual 90, 3, 138, 0), (13, .iload_n 1, 1, 0, 0), (14, .iload_n 2, 1, 0, 0), (15, .invokevirtual 103, 3, 30, 2), (18, .iload_n 3, 1, 0, 0), (19, .iadd, 1, 0, 0), (20, .istore 5, 2, 0, 0), (22, .aload_n 0, 1, 0, 0), (23, .getfield 26, 3, 8, 2), (26, .invokevirtual 77, 3, 57, 0), (29, .iload 5, 2, 0, 0), (31, .iload 4, 2, 0, 0), (33, .invokevirtual 107, 3, 94, 2), (36, .aload_n 0, 1, 0, 0), (37, .aload_n 0, 1, 0, 0), (38, .getfield 33, 3, 8, 3), (41, .invokevirtual 40, 3, 139, 1), (44, .iload 4, 2, 0, 0), (46, .bipush 10, 2, 0, 0), (48, .if_icmp .ne 11, 3, 0, 0), (51, .aload_n 0, 1, 0, 0), (52, .invokevirtual 90, 3, 138, 0), (55, .invokevirtual 94, 3, 25, 0), (58, .ireturn, 1, 0, 0), (59, .iload 4, 2, 0, 0), (61, .bipush 9, 2, 0, 0), (63, .if_icmp .ne 14, 3, 0, 0), (66, .aload_n 0, 1, 0, 0), (67, .invokevirtual 90, 3, 138, 0), (70, .iload_n 1, 1, 0, 0), (71, .invokevirtual 111, 3, 29, 1), (74, .goto 12, 3, 0, 0), (77, .aload_n 0, 1, 0, 0), (78, .invokevirtual 90, 3, 138, 0), (81, .iload_n 1, 1, 0, 0), (82, .iload_n 2, 1, 0, 0), (83, .invokevirtual 114, 3, 31, 2), (86, .ireturn, 1, 0, 0)], [], 9, 169)
def zX9_erase : zI := (yX9_erase, cX9_erase, 6, (some .int), [(0, .aload_n 0, 1, 0, 0), (1, .iload_n 1, 1, 0, 0), (2, .iload_n 2, 1, 0, 0), (3, .iload_n 3, 1, 0, 0), (4, .invokevirtual 117, 3, 142, 3), (7, .aload_n 0, 1, 0, 0), (8, .invokevirtual 90, 3, 138, 0), (11, .iload_n 1, 1, 0, 0), (12, .iload_n 2, 1, 0, 0), (13, .iload_n 3, 1, 0, 0), (14, .invokevirtual 121, 3, 38, 3), (17, .ifCond .ne 13, 3, 0, 0), (20, .new 55, 3, 1, 1), (30, .aload_n 0, 1, 0, 0), (31, .invokevirtual 90, 3, 138, 0), (34, .iload_n 1, 1, 0, 0), (35, .iload_n 2, 1, 0, 0), (36, .invokevirtual 103, 3, 30, 2), (39, .iload_n 3, 1, 0, 0), (40, .iadd, 1, 0, 0), (41, .istore 4, 2, 0, 0), (43, .aload_n 0, 1, 0, 0), (44, .getfield 26, 3, 8, 2), (47, .invokevirtual 127, 3, 54, 0), (50, .iload 4, 2, 0, 0), (52, .invokevirtual 130, 3, 89, 1), (55, .istore 5, 2, 0, 0), (57, .aload_n 0, 1, 0, 0), (58, .getfield 26, 3, 8, 2), (61, .invokevirtual 77, 3, 57, 0), (64, .iload 4, 2, 0, 0), (66, .iconst 1, 1, 0, 0), (67, .invokevirtual 133, 3, 97, 2), (70, .aload_n 0, 1, 0, 0), (71, .aload_n 0, 1, 0, 0), (72, .getfield 33, 3, 8, 3), (75, .invokevirtual 40, 3, 139, 1), (78, .iload 5, 2, 0, 0), (80, .ireturn, 1, 0, 0)], [], 8, 145)
def zX9_setCell : zI := (yX9_setCell, cX9_setCell, 6, (some .int), [(0, .aload_n 0, 1, 0, 0), (1, .iload_n 1, 1, 0, 0), (2, .iload_n 2, 1, 0, 0), (3, .invokevirtual 136, 3, 141, 2), (6, .aload_n 0, 1, 0, 0), (7, .iconst 0, 1, 0, 0), (8, .invokevirtual 73, 3, 146, 1), (11, .aload_n 0, 1, 0, 0), (12, .invokevirtual 90, 3, 138, 0), (15, .iload_n 1, 1, 0, 0), (16, .iload_n 2, 1, 0, 0), (17, .invokevirtual 103, 3, 30, 2), (20, .istore_n 3, 1, 0, 0), (21, .aload_n 0, 1, 0, 0), (22, .invokevirtual 90, 3, 138, 0), (25, .iload_n 1, 1, 0, 0), (26, .iload_n 2, 1, 0, 0), (27, .invokevirtual 114, 3, 31, 2), (30, .istore 4, 2, 0, 0), (32, .aload_n 0, 1, 0, 0), (33, .getfield 26, 3, 8, 2), (36, .invokevirtual 77, 3, 57, 0), (39, .astore 5, 2, 0, 0), (41, .aload 5, 2, 0, 0), (43, .iload_n 3, 1, 0, 0), (44, .iload 4, 2, 0, 0), (46, .invokevirtual 133, 3, 97, 2), (49, .aload 5, 2, 0, 0), (51, .iload_n 3, 1, 0, 0), (52, .aload_n 0, 1, 0, 0), (53, .getfield 12, 3, 8, 0), (56, .invokevirtual 86, 3, 95, 2), (59, .aload_n 0, 1, 0, 0), (60, .getfield 12, 3, 8, 0), (63, .invokevirtual 64, 3, 66, 0), (66, .pop, 1, 0, 0), (67, .aload_n 0, 1, 0, 0), (68, .aload_n 0, 1, 0, 0), (69, .getfield 33, 3, 8, 3), (72, .invokevirtual 40, 3, 139, 1), (75, .iload 4, 2, 0, 0), (77, .ireturn, 1, 0, 0)], [], 7, 145)
def zX9_insertLine : zI := (yX9_insertLine, cX9_insertLine, 6, (some .int), [(0, .aload_n 0, 1, 0, 0), (1, .invokevirtual 90, 3, 138, 0), (4, .invokevirtual 94, 3, 25, 0), (7, .istore_n 2, 1, 0, 0), (8, .iload_n 1, 1, 0, 0), (9, .ifCond .lt 8, 3, 0, 0), (12, .iload_n 1, 1, 0, 0), (13, .iload_n 2, 1, 0, 0), (14, .if_icmp .le 13, 3, 0, 0), (17, .new 139, 3, 2, 1), (27, .aload_n 0, 1, 0, 0), (28, .iconst 1, 1, 0, 0), (29, .invokevirtual 73, 3, 146, 1), (32, .iload_n 2, 1, 0, 0), (33, .bipush 24, 2, 0, 0), (35, .if_icmp .lt 13, 3, 0, 0), (38, .new 55, 3, 1, 1), (48, .iload_n 1, 1, 0, 0), (49, .iload_n 2, 1, 0, 0), (50, .if_icmp .ne 7, 3, 0, 0), (53, .iconst 1, 1, 0, 0), (54, .goto 4, 3, 0, 0), (57, .iconst 0, 1, 0, 0), (58, .istore_n 3, 1, 0, 0), (59, .iload_n 3, 1, 0, 0), (60, .ifCond .eq 16, 3, 0, 0), (63, .aload_n 0, 1, 0, 0), (64, .getfield 26, 3, 8, 2), (67, .invokevirtual 127, 3, 54, 0), (70, .invokevirtual 146, 3, 88, 0), (73, .goto 11, 3, 0, 0), (76, .aload_n 0, 1, 0, 0), (77, .invokevirtual 90, 3, 138, 0), (80, .iload_n 1, 1, 0, 0), (81, .invokevirtual 149, 3, 35, 1), (84, .istore 4, 2, 0, 0), (86, .aload_n 0, 1, 0, 0), (87, .getfield 26, 3, 8, 2), (90, .invokevirtual 77, 3, 57, 0), (93, .astore 5, 2, 0, 0), (95, .aload 5, 2, 0, 0), (97, .iload 4, 2, 0, 0), (99, .bipush 10, 2, 0, 0), (101, .invokevirtual 107, 3, 94, 2), (104, .aload 5, 2, 0, 0), (106, .iload_n 3, 1, 0, 0), (107, .ifCond .eq 10, 3, 0, 0), (110, .iload 4, 2, 0, 0), (112, .iconst 1, 1, 0, 0), (113, .iadd, 1, 0, 0), (114, .goto 5, 3, 0, 0), (117, .iload 4, 2, 0, 0), (119, .aload_n 0, 1, 0, 0), (120, .getfield 12, 3, 8, 0), (123, .invokevirtual 86, 3, 95, 2), (126, .aload_n 0, 1, 0, 0), (127, .getfield 12, 3, 8, 0), (130, .invokevirtual 64, 3, 66, 0), (133, .pop, 1, 0, 0), (134, .aload_n 0, 1, 0, 0), (135, .aload_n 0, 1, 0, 0), (136, .getfield 33, 3, 8, 3), (139, .invokevirtual 40, 3, 139, 1), (142, .aload_n 0, 1, 0, 0), (143, .invokevirtual 90, 3, 138, 0), (146, .invokevirtual 94, 3, 25, 0), (149, .ireturn, 1, 0, 0)], [], 7, 145)
def zX9_removeLine : zI := (yX9_removeLine, cX9_removeLine, 5, (some .int), [(0, .aload_n 0, 1, 0, 0), (1, .iload_n 1, 1, 0, 0), (2, .invokevirtual 152, 3, 140, 1), (5, .aload_n 0, 1, 0, 0), (6, .invokevirtual 90, 3, 138, 0), (9, .invokevirtual 94, 3, 25, 0), (12, .iconst 1, 1, 0, 0), (13, .if_icmp .gt 13, 3, 0, 0), (16, .new 55, 3, 1, 1), (26, .iload_n 1, 1, 0, 0), (27, .aload_n 0, 1, 0, 0), (28, .invokevirtual 90, 3, 138, 0), (31, .invokevirtual 94, 3, 25, 0), (34, .iconst 1, 1, 0, 0), (35, .isub, 1, 0, 0), (36, .if_icmp .ne 7, 3, 0, 0), (39, .iconst 1, 1, 0, 0), (40, .goto 4, 3, 0, 0), (43, .iconst 0, 1, 0, 0), (44, .istore_n 2, 1, 0, 0), (45, .aload_n 0, 1, 0, 0), (46, .invokevirtual 90, 3, 138, 0), (49, .iload_n 1, 1, 0, 0), (50, .invokevirtual 149, 3, 35, 1), (53, .istore_n 3, 1, 0, 0), (54, .aload_n 0, 1, 0, 0), (55, .invokevirtual 90, 3, 138, 0), (58, .iload_n 1, 1, 0, 0), (59, .invokevirtual 157, 3, 36, 1), (62, .iload_n 3, 1, 0, 0), (63, .isub, 1, 0, 0), (64, .istore 4, 2, 0, 0), (66, .aload_n 0, 1, 0, 0), (67, .getfield 26, 3, 8, 2), (70, .invokevirtual 77, 3, 57, 0), (73, .iload_n 2, 1, 0, 0), (74, .ifCond .eq 9, 3, 0, 0), (77, .iload_n 3, 1, 0, 0), (78, .iconst 1, 1, 0, 0), (79, .isub, 1, 0, 0), (80, .goto 4, 3, 0, 0), (83, .iload_n 3, 1, 0, 0), (84, .iload 4, 2, 0, 0), (86, .iconst 1, 1, 0, 0), (87, .iadd, 1, 0, 0), (88, .invokevirtual 133, 3, 97, 2), (91, .aload_n 0, 1, 0, 0), (92, .aload_n 0, 1, 0, 0), (93, .getfield 33, 3, 8, 3), (96, .invokevirtual 40, 3, 139, 1), (99, .aload_n 0, 1, 0, 0), (100, .invokevirtual 90, 3, 138, 0), (103, .invokevirtual 94, 3, 25, 0), (106, .ireturn, 1, 0, 0)], [], 7, 145)
def zX9_moveLine : zI := (yX9_moveLine, cX9_moveLine, 4, (some .int), [(0, .aload_n 0, 1, 0, 0), (1, .iload_n 1, 1, 0, 0), (2, .invokevirtual 152, 3, 140, 1), (5, .aload_n 0, 1, 0, 0), (6, .iload_n 2, 1, 0, 0), (7, .invokevirtual 152, 3, 140, 1), (10, .new 160, 3, 6, 0), (13, .dup, 1, 0, 0), (14, .aload_n 0, 1, 0, 0), (15, .invokevirtual 90, 3, 138, 0), (18, .invokevirtual 94, 3, 25, 0), (21, .invokespecial 162, 3, 83, 1), (24, .astore_n 3, 1, 0, 0), (25, .aload_n 3, 1, 0, 0), (26, .iload_n 1, 1, 0, 0), (27, .iload_n 2, 1, 0, 0), (28, .invokevirtual 164, 3, 85, 2), (31, .aload_n 0, 1, 0, 0), (32, .aload_n 3, 1, 0, 0), (33, .invokevirtual 167, 3, 149, 1), (36, .aload_n 0, 1, 0, 0), (37, .aload_n 0, 1, 0, 0), (38, .getfield 33, 3, 8, 3), (41, .invokevirtual 40, 3, 139, 1), (44, .aload_n 0, 1, 0, 0), (45, .getfield 33, 3, 8, 3), (48, .getfield 171, 3, 5, 1), (51, .invokevirtual 175, 3, 8, 0), (54, .ireturn, 1, 0, 0)], [], 7, 145)
def zX9_sort : zI := (yX9_sort, cX9_sort, 8, (some .int), [(0, .aload_n 0, 1, 0, 0), (1, .iload_n 1, 1, 0, 0), (2, .invokevirtual 178, 3, 145, 1), (5, .aload_n 0, 1, 0, 0), (6, .getfield 33, 3, 8, 3), (9, .getfield 171, 3, 5, 1), (12, .iload_n 1, 1, 0, 0), (13, .invokevirtual 181, 3, 12, 1), (16, .istore 4, 2, 0, 0), (18, .aload_n 0, 1, 0, 0), (19, .getfield 33, 3, 8, 3), (22, .getfield 171, 3, 5, 1), (25, .iload_n 1, 1, 0, 0), (26, .invokevirtual 184, 3, 13, 1), (29, .istore 5, 2, 0, 0), (31, .iload_n 2, 1, 0, 0), (32, .ifCond .lt 14, 3, 0, 0), (35, .iload_n 2, 1, 0, 0), (36, .iload 5, 2, 0, 0), (38, .iload 4, 2, 0, 0), (40, .isub, 1, 0, 0), (41, .iconst 1, 1, 0, 0), (42, .iadd, 1, 0, 0), (43, .if_icmp .le 13, 3, 0, 0), (46, .new 44, 3, 0, 1), (56, .new 160, 3, 6, 0), (59, .dup, 1, 0, 0), (60, .aload_n 0, 1, 0, 0), (61, .invokevirtual 90, 3, 138, 0), (64, .invokevirtual 94, 3, 25, 0), (67, .invokespecial 162, 3, 83, 1), (70, .astore 6, 2, 0, 0), (72, .aload_n 0, 1, 0, 0), (73, .getfield 33, 3, 8, 3), (76, .getfield 171, 3, 5, 1), (79, .iload_n 1, 1, 0, 0), (80, .invokevirtual 189, 3, 11, 1), (83, .istore 7, 2, 0, 0), (85, .aload_n 0, 1, 0, 0), (86, .aload 6, 2, 0, 0), (88, .iload 4, 2, 0, 0), (90, .iload_n 2, 1, 0, 0), (91, .iadd, 1, 0, 0), (92, .iload 5, 2, 0, 0), (94, .iload 7, 2, 0, 0), (96, .iload_n 3, 1, 0, 0), (97, .invokevirtual 192, 3, 150, 5), (100, .aload_n 0, 1, 0, 0), (101, .aload 6, 2, 0, 0), (103, .invokevirtual 167, 3, 149, 1), (106, .aload_n 0, 1, 0, 0), (107, .aload_n 0, 1, 0, 0), (108, .getfield 33, 3, 8, 3), (111, .invokevirtual 40, 3, 139, 1), (114, .aload 6, 2, 0, 0), (116, .invokevirtual 196, 3, 86, 0), (119, .ireturn, 1, 0, 0)], [], 7, 148)
def zX9_insertColumn : zI := (yX9_insertColumn, cX9_insertColumn, 7, (some .int), [(0, .aload_n 0, 1, 0, 0), (1, .iload_n 1, 1, 0, 0), (2, .invokevirtual 178, 3, 145, 1), (5, .aload_n 0, 1, 0, 0), (6, .getfield 33, 3, 8, 3), (9, .getfield 171, 3, 5, 1), (12, .iload_n 1, 1, 0, 0), (13, .invokevirtual 181, 3, 12, 1), (16, .istore_n 2, 1, 0, 0), (17, .aload_n 0, 1, 0, 0), (18, .getfield 33, 3, 8, 3), (21, .getfield 171, 3, 5, 1), (24, .iload_n 1, 1, 0, 0), (25, .invokevirtual 184, 3, 13, 1), (28, .istore_n 3, 1, 0, 0), (29, .aload_n 0, 1, 0, 0), (30, .invokevirtual 90, 3, 138, 0), (33, .iload_n 2, 1, 0, 0), (34, .iload_n 3, 1, 0, 0), (35, .invokevirtual 199, 3, 39, 2), (38, .ifCond .eq 13, 3, 0, 0), (41, .new 55, 3, 1, 1), (51, .aload_n 0, 1, 0, 0), (52, .getfield 33, 3, 8, 3), (55, .getfield 171, 3, 5, 1), (58, .iload_n 1, 1, 0, 0), (59, .invokevirtual 189, 3, 11, 1), (62, .istore 4, 2, 0, 0), (64, .aload_n 0, 1, 0, 0), (65, .getfield 26, 3, 8, 2), (68, .invokevirtual 77, 3, 57, 0), (71, .astore 5, 2, 0, 0), (73, .iload_n 3, 1, 0, 0), (74, .istore 6, 2, 0, 0), (76, .iload 6, 2, 0, 0), (78, .iload_n 2, 1, 0, 0), (79, .if_icmp .lt 27, 3, 0, 0), (82, .aload 5, 2, 0, 0), (84, .aload_n 0, 1, 0, 0), (85, .invokevirtual 90, 3, 138, 0), (88, .iload 6, 2, 0, 0), (90, .iload 4, 2, 0, 0), (92, .invokevirtual 103, 3, 30, 2), (95, .bipush 9, 2, 0, 0), (97, .invokevirtual 107, 3, 94, 2), (100, .iinc 6 (-1), 3, 0, 0), (103, .goto (-27), 3, 0, 0), (106, .aload_n 0, 1, 0, 0), (107, .aload_n 0, 1, 0, 0), (108, .getfield 33, 3, 8, 3), (111, .invokevirtual 40, 3, 139, 1), (114, .iload_n 3, 1, 0, 0), (115, .iload_n 2, 1, 0, 0), (116, .isub, 1, 0, 0), (117, .iconst 1, 1, 0, 0), (118, .iadd, 1, 0, 0), (119, .ireturn, 1, 0, 0)], [], 7, 145)
def zX9_removeColumn : zI := (yX9_removeColumn, cX9_removeColumn, 8, (some .int), [(0, .aload_n 0, 1, 0, 0), (1, .iload_n 1, 1, 0, 0), (2, .invokevirtual 178, 3, 145, 1), (5, .aload_n 0, 1, 0, 0), (6, .getfield 33, 3, 8, 3), (9, .getfield 171, 3, 5, 1), (12, .iload_n 1, 1, 0, 0), (13, .invokevirtual 181, 3, 12, 1), (16, .istore_n 2, 1, 0, 0), (17, .aload_n 0, 1, 0, 0), (18, .getfield 33, 3, 8, 3), (21, .getfield 171, 3, 5, 1), (24, .iload_n 1, 1, 0, 0), (25, .invokevirtual 184, 3, 13, 1), (28, .istore_n 3, 1, 0, 0), (29, .aload_n 0, 1, 0, 0), (30, .getfield 33, 3, 8, 3), (33, .getfield 171, 3, 5, 1), (36, .iload_n 1, 1, 0, 0), (37, .invokevirtual 189, 3, 11, 1), (40, .istore 4, 2, 0, 0), (42, .iconst 0, 1, 0, 0), (43, .istore 5, 2, 0, 0), (45, .aload_n 0, 1, 0, 0), (46, .getfield 26, 3, 8, 2), (49, .invokevirtual 77, 3, 57, 0), (52, .astore 6, 2, 0, 0), (54, .iload_n 3, 1, 0, 0), (55, .istore 7, 2, 0, 0), (57, .iload 7, 2, 0, 0), (59, .iload_n 2, 1, 0, 0), (60, .if_icmp .lt 62, 3, 0, 0), (63, .iload 5, 2, 0, 0), (65, .aload_n 0, 1, 0, 0), (66, .invokevirtual 90, 3, 138, 0), (69, .iload 7, 2, 0, 0), (71, .iload 4, 2, 0, 0), (73, .invokevirtual 205, 3, 32, 2), (76, .ifCond .ne 7, 3, 0, 0), (79, .iconst 0, 1, 0, 0), (80, .goto 4, 3, 0, 0), (83, .iconst 1, 1, 0, 0), (84, .iadd, 1, 0, 0), (85, .istore 5, 2, 0, 0), (87, .aload 6, 2, 0, 0), (89, .aload_n 0, 1, 0, 0), (90, .invokevirtual 90, 3, 138, 0), (93, .iload 7, 2, 0, 0), (95, .iload 4, 2, 0, 0), (97, .invokevirtual 103, 3, 30, 2), (100, .aload_n 0, 1, 0, 0), (101, .invokevirtual 90, 3, 138, 0), (104, .iload 7, 2, 0, 0), (106, .iload 4, 2, 0, 0), (108, .invokevirtual 114, 3, 31, 2), (111, .iconst 1, 1, 0, 0), (112, .iadd, 1, 0, 0), (113, .invokevirtual 133, 3, 97, 2), (116, .iinc 7 (-1), 3, 0, 0), (119, .goto (-62), 3, 0, 0), (122, .aload_n 0, 1, 0, 0), (123, .aload_n 0, 1, 0, 0), (124, .getfield 33, 3, 8, 3), (127, .invokevirtual 40, 3, 139, 1), (130, .iload 5, 2, 0, 0), (132, .ireturn, 1, 0, 0)], [], 7, 145)
def zX9_retab : zI := (yX9_retab, cX9_retab, 6, (some .int), [(0, .aload_n 0, 1, 0, 0), (1, .iload_n 1, 1, 0, 0), (2, .invokevirtual 152, 3, 140, 1), (5, .iload_n 2, 1, 0, 0), (6, .iconst 1, 1, 0, 0), (7, .if_icmp .lt 9, 3, 0, 0), (10, .iload_n 2, 1, 0, 0), (11, .bipush 16, 2, 0, 0), (13, .if_icmp .le 13, 3, 0, 0), (16, .new 44, 3, 0, 1), (26, .aload_n 0, 1, 0, 0), (27, .invokevirtual 90, 3, 138, 0), (30, .iload_n 1, 1, 0, 0), (31, .invokevirtual 149, 3, 35, 1), (34, .istore_n 3, 1, 0, 0), (35, .aload_n 0, 1, 0, 0), (36, .invokevirtual 90, 3, 138, 0), (39, .iload_n 1, 1, 0, 0), (40, .invokevirtual 157, 3, 36, 1), (43, .istore 4, 2, 0, 0), (45, .aload_n 0, 1, 0, 0), (46, .getfield 26, 3, 8, 2), (49, .invokevirtual 127, 3, 54, 0), (52, .iload_n 3, 1, 0, 0), (53, .iload 4, 2, 0, 0), (55, .iload_n 2, 1, 0, 0), (56, .invokevirtual 210, 3, 99, 3), (59, .istore 5, 2, 0, 0), (61, .aload_n 0, 1, 0, 0), (62, .invokevirtual 90, 3, 138, 0), (65, .iload_n 1, 1, 0, 0), (66, .invokevirtual 111, 3, 29, 1), (69, .iload 5, 2, 0, 0), (71, .iadd, 1, 0, 0), (72, .bipush 8, 2, 0, 0), (74, .if_icmp .le 13, 3, 0, 0), (77, .new 55, 3, 1, 1), (87, .aload_n 0, 1, 0, 0), (88, .getfield 26, 3, 8, 2), (91, .invokevirtual 77, 3, 57, 0), (94, .iload_n 3, 1, 0, 0), (95, .iload 4, 2, 0, 0), (97, .iload_n 2, 1, 0, 0), (98, .invokevirtual 216, 3, 100, 3), (101, .aload_n 0, 1, 0, 0), (102, .aload_n 0, 1, 0, 0), (103, .getfield 33, 3, 8, 3), (106, .invokevirtual 40, 3, 139, 1), (109, .iload 5, 2, 0, 0), (111, .ireturn, 1, 0, 0)], [], 7, 145)
def zX9_undo : zI := (yX9_undo, cX9_undo, 1, (some .int), [(0, .aload_n 0, 1, 0, 0), (1, .getfield 26, 3, 8, 2), (4, .invokevirtual 219, 3, 55, 0), (7, .ifCond .gt 13, 3, 0, 0), (10, .new 55, 3, 1, 1), (20, .aload_n 0, 1, 0, 0), (21, .getfield 26, 3, 8, 2), (24, .invokevirtual 224, 3, 58, 0), (27, .aload_n 0, 1, 0, 0), (28, .aload_n 0, 1, 0, 0), (29, .getfield 33, 3, 8, 3), (32, .invokevirtual 40, 3, 139, 1), (35, .aload_n 0, 1, 0, 0), (36, .getfield 26, 3, 8, 2), (39, .invokevirtual 219, 3, 55, 0), (42, .ireturn, 1, 0, 0)], [], 6, 145)
def zX9_redo : zI := (yX9_redo, cX9_redo, 1, (some .int), [(0, .aload_n 0, 1, 0, 0), (1, .getfield 26, 3, 8, 2), (4, .invokevirtual 227, 3, 56, 0), (7, .ifCond .gt 13, 3, 0, 0), (10, .new 55, 3, 1, 1), (20, .aload_n 0, 1, 0, 0), (21, .getfield 26, 3, 8, 2), (24, .invokevirtual 232, 3, 59, 0), (27, .aload_n 0, 1, 0, 0), (28, .aload_n 0, 1, 0, 0), (29, .getfield 33, 3, 8, 3), (32, .invokevirtual 40, 3, 139, 1), (35, .aload_n 0, 1, 0, 0), (36, .getfield 26, 3, 8, 2), (39, .invokevirtual 227, 3, 56, 0), (42, .ireturn, 1, 0, 0)], [], 6, 145)
def zX9_setAlignment : zI := (yX9_setAlignment, cX9_setAlignment, 4, (some .int), [(0, .iload_n 1, 1, 0, 0), (1, .ifCond .lt 18, 3, 0, 0), (4, .iload_n 1, 1, 0, 0), (5, .bipush 7, 2, 0, 0), (7, .if_icmp .ge 12, 3, 0, 0), (10, .iload_n 2, 1, 0, 0), (11, .ifCond .lt 8, 3, 0, 0), (14, .iload_n 2, 1, 0, 0), (15, .iconst 3, 1, 0, 0), (16, .if_icmp .le 13, 3, 0, 0), (19, .new 44, 3, 0, 1), (29, .aload_n 0, 1, 0, 0), (30, .getfield 19, 3, 8, 1), (33, .iload_n 1, 1, 0, 0), (34, .iload_n 2, 1, 0, 0), (35, .invokevirtual 237, 3, 48, 2), (38, .istore_n 3, 1, 0, 0), (39, .aload_n 0, 1, 0, 0), (40, .aload_n 0, 1, 0, 0), (41, .getfield 33, 3, 8, 3), (44, .invokevirtual 40, 3, 139, 1), (47, .iload_n 3, 1, 0, 0), (48, .ireturn, 1, 0, 0)], [], 6, 145)
def zX9_setSpacing : zI := (yX9_setSpacing, cX9_setSpacing, 4, (some .int), [(0, .aload_n 0, 1, 0, 0), (1, .getfield 19, 3, 8, 1), (4, .iload_n 1, 1, 0, 0), (5, .iload_n 2, 1, 0, 0), (6, .invokevirtual 240, 3, 49, 2), (9, .ifCond .ne 13, 3, 0, 0), (12, .new 44, 3, 0, 1), (22, .aload_n 0, 1, 0, 0), (23, .getfield 19, 3, 8, 1), (26, .iload_n 1, 1, 0, 0), (27, .iload_n 2, 1, 0, 0), (28, .invokevirtual 245, 3, 50, 2), (31, .istore_n 3, 1, 0, 0), (32, .aload_n 0, 1, 0, 0), (33, .aload_n 0, 1, 0, 0), (34, .getfield 33, 3, 8, 3), (37, .invokevirtual 40, 3, 139, 1), (40, .iload_n 3, 1, 0, 0), (41, .ireturn, 1, 0, 0)], [], 6, 145)
def zX9_count : zI := (yX9_count, cX9_count, 2, (some .int), [(0, .iload_n 1, 1, 0, 0), (1, .ifCond .lt 9, 3, 0, 0), (4, .iload_n 1, 1, 0, 0), (5, .bipush 8, 2, 0, 0), (7, .if_icmp .le 13, 3, 0, 0), (10, .new 44, 3, 0, 1), (20, .aload_n 0, 1, 0, 0), (21, .iload_n 1, 1, 0, 0), (22, .invokevirtual 250, 3, 154, 1), (25, .ireturn, 1, 0, 0)], [], 6, 110)
def zX9_line : zI := (yX9_line, cX9_line, 3, (some .int), [(0, .aload_n 0, 1, 0, 0), (1, .iload_n 1, 1, 0, 0), (2, .invokevirtual 152, 3, 140, 1), (5, .iload_n 2, 1, 0, 0), (6, .ifCond .lt 8, 3, 0, 0), (9, .iload_n 2, 1, 0, 0), (10, .iconst 3, 1, 0, 0), (11, .if_icmp .le 13, 3, 0, 0), (14, .new 44, 3, 0, 1), (24, .aload_n 0, 1, 0, 0), (25, .getfield 33, 3, 8, 3), (28, .iload_n 1, 1, 0, 0), (29, .iload_n 2, 1, 0, 0), (30, .invokevirtual 255, 3, 78, 2), (33, .ireturn, 1, 0, 0)], [], 7, 121)
def zX9_cell : zI := (yX9_cell, cX9_cell, 4, (some .int), [(0, .aload_n 0, 1, 0, 0), (1, .iload_n 1, 1, 0, 0), (2, .iload_n 2, 1, 0, 0), (3, .invokevirtual 136, 3, 141, 2), (6, .iload_n 3, 1, 0, 0), (7, .ifCond .lt 8, 3, 0, 0), (10, .iload_n 3, 1, 0, 0), (11, .iconst 4, 1, 0, 0), (12, .if_icmp .le 13, 3, 0, 0), (15, .new 44, 3, 0, 1), (25, .aload_n 0, 1, 0, 0), (26, .getfield 33, 3, 8, 3), (29, .iload_n 1, 1, 0, 0), (30, .iload_n 2, 1, 0, 0), (31, .iload_n 3, 1, 0, 0), (32, .aload_n 0, 1, 0, 0), (33, .getfield 19, 3, 8, 1), (36, .invokevirtual 258, 3, 77, 4), (39, .ireturn, 1, 0, 0)], [], 7, 122)
def zX9_letter : zI := (yX9_letter, cX9_letter, 4, (some .int), [(0, .aload_n 0, 1, 0, 0), (1, .iload_n 1, 1, 0, 0), (2, .iload_n 2, 1, 0, 0), (3, .invokevirtual 136, 3, 141, 2), (6, .iload_n 3, 1, 0, 0), (7, .ifCond .lt 16, 3, 0, 0), (10, .iload_n 3, 1, 0, 0), (11, .aload_n 0, 1, 0, 0), (12, .invokevirtual 90, 3, 138, 0), (15, .iload_n 1, 1, 0, 0), (16, .iload_n 2, 1, 0, 0), (17, .invokevirtual 114, 3, 31, 2), (20, .if_icmp .lt 14, 3, 0, 0), (23, .new 139, 3, 2, 1), (34, .aload_n 0, 1, 0, 0), (35, .iload_n 1, 1, 0, 0), (36, .iload_n 2, 1, 0, 0), (37, .iload_n 3, 1, 0, 0), (38, .invokevirtual 264, 3, 147, 3), (41, .ireturn, 1, 0, 0)], [], 7, 122)
def zX9_shown : zI := (yX9_shown, cX9_shown, 5, (some .int), [(0, .aload_n 0, 1, 0, 0), (1, .iload_n 1, 1, 0, 0), (2, .iload_n 2, 1, 0, 0), (3, .invokevirtual 267, 3, 144, 2), (6, .aload_n 0, 1, 0, 0), (7, .getfield 33, 3, 8, 3), (10, .iload_n 1, 1, 0, 0), (11, .iload_n 2, 1, 0, 0), (12, .invokevirtual 270, 3, 81, 2), (15, .istore_n 3, 1, 0, 0), (16, .iload_n 2, 1, 0, 0), (17, .aload_n 0, 1, 0, 0), (18, .getfield 33, 3, 8, 3), (21, .iload_n 1, 1, 0, 0), (22, .iload_n 3, 1, 0, 0), (23, .invokevirtual 273, 3, 74, 2), (26, .isub, 1, 0, 0), (27, .aload_n 0, 1, 0, 0), (28, .getfield 33, 3, 8, 3), (31, .iload_n 1, 1, 0, 0), (32, .iload_n 3, 1, 0, 0), (33, .aload_n 0, 1, 0, 0), (34, .getfield 19, 3, 8, 1), (37, .invokevirtual 276, 3, 76, 3), (40, .isub, 1, 0, 0), (41, .istore 4, 2, 0, 0), (43, .iload 4, 2, 0, 0), (45, .ifCond .lt 17, 3, 0, 0), (48, .iload 4, 2, 0, 0), (50, .aload_n 0, 1, 0, 0), (51, .invokevirtual 90, 3, 138, 0), (54, .iload_n 1, 1, 0, 0), (55, .iload_n 3, 1, 0, 0), (56, .invokevirtual 114, 3, 31, 2), (59, .if_icmp .lt 6, 3, 0, 0), (62, .bipush 32, 2, 0, 0), (64, .ireturn, 1, 0, 0), (65, .aload_n 0, 1, 0, 0), (66, .iload_n 1, 1, 0, 0), (67, .iload_n 3, 1, 0, 0), (68, .iload 4, 2, 0, 0), (70, .invokevirtual 264, 3, 147, 3), (73, .ireturn, 1, 0, 0)], [], 8, 143)
def zX9_hit : zI := (yX9_hit, cX9_hit, 3, (some .int), [(0, .aload_n 0, 1, 0, 0), (1, .iload_n 1, 1, 0, 0), (2, .iload_n 2, 1, 0, 0), (3, .invokevirtual 267, 3, 144, 2), (6, .aload_n 0, 1, 0, 0), (7, .getfield 33, 3, 8, 3), (10, .iload_n 1, 1, 0, 0), (11, .iload_n 2, 1, 0, 0), (12, .invokevirtual 270, 3, 81, 2), (15, .ireturn, 1, 0, 0)], [], 8, 143)
def zX9_find : zI := (yX9_find, cX9_find, 6, (some .int), [(0, .aload_n 0, 1, 0, 0), (1, .iload_n 1, 1, 0, 0), (2, .iload_n 2, 1, 0, 0), (3, .invokevirtual 136, 3, 141, 2), (6, .aload_n 0, 1, 0, 0), (7, .iconst 0, 1, 0, 0), (8, .invokevirtual 73, 3, 146, 1), (11, .iload_n 2, 1, 0, 0), (12, .iconst 1, 1, 0, 0), (13, .iadd, 1, 0, 0), (14, .istore_n 3, 1, 0, 0), (15, .iload_n 1, 1, 0, 0), (16, .istore 4, 2, 0, 0), (18, .iload 4, 2, 0, 0), (20, .aload_n 0, 1, 0, 0), (21, .invokevirtual 90, 3, 138, 0), (24, .invokevirtual 94, 3, 25, 0), (27, .if_icmp .ge 54, 3, 0, 0), (30, .iload_n 3, 1, 0, 0), (31, .istore 5, 2, 0, 0), (33, .iload 5, 2, 0, 0), (35, .aload_n 0, 1, 0, 0), (36, .invokevirtual 90, 3, 138, 0), (39, .iload 4, 2, 0, 0), (41, .invokevirtual 111, 3, 29, 1), (44, .if_icmp .ge 29, 3, 0, 0), (47, .aload_n 0, 1, 0, 0), (48, .iload 4, 2, 0, 0), (50, .iload 5, 2, 0, 0), (52, .invokevirtual 280, 3, 148, 2), (55, .ifCond .eq 12, 3, 0, 0), (58, .bipush 100, 2, 0, 0), (60, .iload 4, 2, 0, 0), (62, .imul, 1, 0, 0), (63, .iload 5, 2, 0, 0), (65, .iadd, 1, 0, 0), (66, .ireturn, 1, 0, 0), (67, .iinc 5 1, 3, 0, 0), (70, .goto (-37), 3, 0, 0), (73, .iconst 0, 1, 0, 0), (74, .istore_n 3, 1, 0, 0), (75, .iinc 4 1, 3, 0, 0), (78, .goto (-60), 3, 0, 0), (81, .iconst (-1), 1, 0, 0), (82, .ireturn, 1, 0, 0)], [], 7, 122)
def zX9_block : zI := (yX9_block, cX9_block, 3, (some .int), [(0, .aload_n 0, 1, 0, 0), (1, .iload_n 1, 1, 0, 0), (2, .invokevirtual 178, 3, 145, 1), (5, .iload_n 2, 1, 0, 0), (6, .ifCond .lt 9, 3, 0, 0), (9, .iload_n 2, 1, 0, 0), (10, .bipush 7, 2, 0, 0), (12, .if_icmp .le 13, 3, 0, 0), (15, .new 44, 3, 0, 1), (25, .aload_n 0, 1, 0, 0), (26, .getfield 33, 3, 8, 3), (29, .getfield 171, 3, 5, 1), (32, .iload_n 1, 1, 0, 0), (33, .iload_n 2, 1, 0, 0), (34, .invokevirtual 283, 3, 10, 2), (37, .ireturn, 1, 0, 0)], [], 7, 121)
def zX9_sum : zI := (yX9_sum, cX9_sum, 2, (some .long), [(0, .aload_n 0, 1, 0, 0), (1, .iload_n 1, 1, 0, 0), (2, .invokevirtual 178, 3, 145, 1), (5, .aload_n 0, 1, 0, 0), (6, .getfield 33, 3, 8, 3), (9, .getfield 171, 3, 5, 1), (12, .iload_n 1, 1, 0, 0), (13, .invokevirtual 286, 3, 18, 1), (16, .lreturn, 1, 0, 0)], [], 7, 121)
def zX9_mean : zI := (yX9_mean, cX9_mean, 3, (some .double), [(0, .aload_n 0, 1, 0, 0), (1, .iload_n 1, 1, 0, 0), (2, .invokevirtual 178, 3, 145, 1), (5, .aload_n 0, 1, 0, 0), (6, .getfield 33, 3, 8, 3), (9, .getfield 171, 3, 5, 1), (12, .iload_n 1, 1, 0, 0), (13, .invokevirtual 290, 3, 16, 1), (16, .istore_n 2, 1, 0, 0), (17, .iload_n 2, 1, 0, 0), (18, .ifCond .gt 5, 3, 0, 0), (21, .dconst 0, 1, 0, 0), (22, .dreturn, 1, 0, 0), (23, .aload_n 0, 1, 0, 0), (24, .getfield 33, 3, 8, 3), (27, .getfield 171, 3, 5, 1), (30, .iload_n 1, 1, 0, 0), (31, .invokevirtual 286, 3, 18, 1), (34, .l2d, 1, 0, 0), (35, .sipush 10000, 3, 0, 0), (38, .iload_n 2, 1, 0, 0), (39, .imul, 1, 0, 0), (40, .i2d, 1, 0, 0), (41, .ddiv, 1, 0, 0), (42, .dreturn, 1, 0, 0)], [], 7, 121)
def zX9_touched : zI := (yX9_touched, cX9_touched, 2, (some .int), [(0, .aload_n 0, 1, 0, 0), (1, .iload_n 1, 1, 0, 0), (2, .invokevirtual 152, 3, 140, 1), (5, .aload_n 0, 1, 0, 0), (6, .getfield 33, 3, 8, 3), (9, .getfield 171, 3, 5, 1), (12, .iload_n 1, 1, 0, 0), (13, .iconst 1, 1, 0, 0), (14, .isub, 1, 0, 0), (15, .iload_n 1, 1, 0, 0), (16, .iconst 1, 1, 0, 0), (17, .iadd, 1, 0, 0), (18, .invokevirtual 293, 3, 19, 2), (21, .ireturn, 1, 0, 0)], [], 7, 121)
def zX9_ifTyped : zI := (yX9_ifTyped, cX9_ifTyped, 6, (some .int), [(0, .aload_n 0, 1, 0, 0), (1, .iload_n 1, 1, 0, 0), (2, .iload_n 2, 1, 0, 0), (3, .iload_n 3, 1, 0, 0), (4, .iload 4, 2, 0, 0), (6, .invokevirtual 99, 3, 143, 4), (9, .aload_n 0, 1, 0, 0), (10, .invokevirtual 90, 3, 138, 0), (13, .iload_n 1, 1, 0, 0), (14, .iload_n 2, 1, 0, 0), (15, .invokevirtual 103, 3, 30, 2), (18, .iload_n 3, 1, 0, 0), (19, .iadd, 1, 0, 0), (20, .istore 5, 2, 0, 0), (22, .aload_n 0, 1, 0, 0), (23, .getfield 26, 3, 8, 2), (26, .invokevirtual 127, 3, 54, 0), (29, .iload 5, 2, 0, 0), (31, .iload 4, 2, 0, 0), (33, .invokevirtual 107, 3, 94, 2), (36, .aload_n 0, 1, 0, 0), (37, .aload_n 0, 1, 0, 0), (38, .getfield 37, 3, 8, 4), (41, .invokevirtual 40, 3, 139, 1), (44, .aload_n 0, 1, 0, 0), (45, .getfield 26, 3, 8, 2), (48, .invokevirtual 127, 3, 54, 0), (51, .iload 5, 2, 0, 0), (53, .iconst 1, 1, 0, 0), (54, .invokevirtual 133, 3, 97, 2), (57, .aload_n 0, 1, 0, 0), (58, .getfield 33, 3, 8, 3), (61, .aload_n 0, 1, 0, 0), (62, .getfield 37, 3, 8, 4), (65, .invokevirtual 296, 3, 82, 1), (68, .ireturn, 1, 0, 0)], [], 9, 169)
def zX9_digest : zI := (yX9_digest, cX9_digest, 4, (some .long), [(0, .ldc2_w 300, 3, 1949, 0), (3, .lstore_n 1, 1, 0, 0), (4, .iconst 0, 1, 0, 0), (5, .istore_n 3, 1, 0, 0), (6, .iload_n 3, 1, 0, 0), (7, .bipush 8, 2, 0, 0), (9, .if_icmp .gt 20, 3, 0, 0), (12, .lload_n 1, 1, 0, 0), (13, .aload_n 0, 1, 0, 0), (14, .iload_n 3, 1, 0, 0), (15, .invokevirtual 250, 3, 154, 1), (18, .i2l, 1, 0, 0), (19, .invokestatic 302, 3, 156, 2), (22, .lstore_n 1, 1, 0, 0), (23, .iinc 3 1, 3, 0, 0), (26, .goto (-20), 3, 0, 0), (29, .aload_n 0, 1, 0, 0), (30, .getfield 19, 3, 8, 1), (33, .lload_n 1, 1, 0, 0), (34, .invokevirtual 306, 3, 52, 1), (37, .lstore_n 1, 1, 0, 0), (38, .iconst 0, 1, 0, 0), (39, .istore_n 3, 1, 0, 0), (40, .iload_n 3, 1, 0, 0), (41, .aload_n 0, 1, 0, 0), (42, .invokevirtual 90, 3, 138, 0), (45, .invokevirtual 94, 3, 25, 0), (48, .if_icmp .ge 16, 3, 0, 0), (51, .aload_n 0, 1, 0, 0), (52, .lload_n 1, 1, 0, 0), (53, .iload_n 3, 1, 0, 0), (54, .invokevirtual 310, 3, 155, 2), (57, .lstore_n 1, 1, 0, 0), (58, .iinc 3 1, 3, 0, 0), (61, .goto (-21), 3, 0, 0), (64, .aload_n 0, 1, 0, 0), (65, .getfield 33, 3, 8, 3), (68, .getfield 171, 3, 5, 1), (71, .lload_n 1, 1, 0, 0), (72, .invokevirtual 314, 3, 20, 1), (75, .lstore_n 1, 1, 0, 0), (76, .aload_n 0, 1, 0, 0), (77, .getfield 12, 3, 8, 0), (80, .lload_n 1, 1, 0, 0), (81, .invokevirtual 315, 3, 70, 1), (84, .lreturn, 1, 0, 0)], [], 5, 121)
def zX9_cells : zI := (yX9_cells, cX9_cells, 1, (some (.object "TabText$Cells")), [(0, .aload_n 0, 1, 0, 0), (1, .getfield 33, 3, 8, 3), (4, .getfield 316, 3, 5, 0), (7, .areturn, 1, 0, 0)], [], 0, 0)
def zX9_measure : zI := (yX9_measure, cX9_measure, 2, none, [(0, .aload_n 1, 1, 0, 0), (1, .getfield 316, 3, 5, 0), (4, .aload_n 0, 1, 0, 0), (5, .getfield 26, 3, 8, 2), (8, .invokevirtual 127, 3, 54, 0), (11, .invokevirtual 319, 3, 22, 1), (14, .aload_n 1, 1, 0, 0), (15, .getfield 171, 3, 5, 1), (18, .aload_n 1, 1, 0, 0), (19, .getfield 316, 3, 5, 0), (22, .aload_n 0, 1, 0, 0), (23, .getfield 19, 3, 8, 1), (26, .invokevirtual 323, 3, 1, 2), (29, .aload_n 1, 1, 0, 0), (30, .invokevirtual 327, 3, 72, 0), (33, .return_, 1, 0, 0)], [], 5, 124)
def zX9_requireLine : zI := (yX9_requireLine, cX9_requireLine, 2, none, [(0, .aload_n 0, 1, 0, 0), (1, .invokevirtual 90, 3, 138, 0), (4, .iload_n 1, 1, 0, 0), (5, .invokevirtual 330, 3, 26, 1), (8, .ifCond .ne 14, 3, 0, 0), (11, .new 139, 3, 2, 1), (22, .return_, 1, 0, 0)], [], 6, 100)
def zX9_requireCell : zI := (yX9_requireCell, cX9_requireCell, 3, none, [(0, .aload_n 0, 1, 0, 0), (1, .invokevirtual 90, 3, 138, 0), (4, .iload_n 1, 1, 0, 0), (5, .iload_n 2, 1, 0, 0), (6, .invokevirtual 336, 3, 27, 2), (9, .ifCond .ne 14, 3, 0, 0), (12, .new 139, 3, 2, 1), (23, .return_, 1, 0, 0)], [], 6, 100)
def zX9_requireOffset : zI := (yX9_requireOffset, cX9_requireOffset, 4, none, [(0, .aload_n 0, 1, 0, 0), (1, .iload_n 1, 1, 0, 0), (2, .iload_n 2, 1, 0, 0), (3, .invokevirtual 136, 3, 141, 2), (6, .iload_n 3, 1, 0, 0), (7, .ifCond .lt 16, 3, 0, 0), (10, .iload_n 3, 1, 0, 0), (11, .aload_n 0, 1, 0, 0), (12, .invokevirtual 90, 3, 138, 0), (15, .iload_n 1, 1, 0, 0), (16, .iload_n 2, 1, 0, 0), (17, .invokevirtual 114, 3, 31, 2), (20, .if_icmp .le 14, 3, 0, 0), (23, .new 139, 3, 2, 1), (34, .return_, 1, 0, 0)], [], 7, 122)
def zX9_requireTypable : zI := (yX9_requireTypable, cX9_requireTypable, 5, none, [(0, .aload_n 0, 1, 0, 0), (1, .iload_n 1, 1, 0, 0), (2, .iload_n 2, 1, 0, 0), (3, .iload_n 3, 1, 0, 0), (4, .invokevirtual 117, 3, 142, 3), (7, .iload 4, 2, 0, 0), (9, .bipush 9, 2, 0, 0), (11, .if_icmp .eq 29, 3, 0, 0), (14, .iload 4, 2, 0, 0), (16, .bipush 10, 2, 0, 0), (18, .if_icmp .eq 22, 3, 0, 0), (21, .iload 4, 2, 0, 0), (23, .invokestatic 343, 3, 157, 1), (26, .ifCond .ne 14, 3, 0, 0), (29, .new 44, 3, 0, 1), (40, .aload_n 0, 1, 0, 0), (41, .invokevirtual 90, 3, 138, 0), (44, .iload_n 1, 1, 0, 0), (45, .iload_n 2, 1, 0, 0), (46, .iload 4, 2, 0, 0), (48, .invokevirtual 348, 3, 37, 3), (51, .ifCond .ne 14, 3, 0, 0), (54, .new 55, 3, 1, 1), (65, .return_, 1, 0, 0)], [], 8, 145)
def zX9_requireShownPlace : zI := (yX9_requireShownPlace, cX9_requireShownPlace, 3, none, [(0, .aload_n 0, 1, 0, 0), (1, .iload_n 1, 1, 0, 0), (2, .invokevirtual 152, 3, 140, 1), (5, .iload_n 2, 1, 0, 0), (6, .ifCond .ge 14, 3, 0, 0), (9, .new 139, 3, 2, 1), (20, .return_, 1, 0, 0)], [], 7, 121)
def zX9_requireBlock : zI := (yX9_requireBlock, cX9_requireBlock, 2, none, [(0, .iload_n 1, 1, 0, 0), (1, .ifCond .lt 17, 3, 0, 0), (4, .iload_n 1, 1, 0, 0), (5, .aload_n 0, 1, 0, 0), (6, .getfield 33, 3, 8, 3), (9, .getfield 171, 3, 5, 1), (12, .invokevirtual 175, 3, 8, 0), (15, .if_icmp .lt 14, 3, 0, 0), (18, .new 139, 3, 2, 1), (29, .return_, 1, 0, 0)], [], 6, 100)
def zX9_requireInput : zI := (yX9_requireInput, cX9_requireInput, 2, none, [(0, .aload_n 0, 1, 0, 0), (1, .getfield 12, 3, 8, 0), (4, .iload_n 1, 1, 0, 0), (5, .invokevirtual 70, 3, 69, 1), (8, .aload_n 0, 1, 0, 0), (9, .getfield 12, 3, 8, 0), (12, .invokevirtual 357, 3, 63, 0), (15, .if_icmp .eq 14, 3, 0, 0), (18, .new 55, 3, 1, 1), (29, .return_, 1, 0, 0)], [], 6, 100)
def zX9_signAt : zI := (yX9_signAt, cX9_signAt, 4, (some .int), [(0, .aload_n 0, 1, 0, 0), (1, .getfield 26, 3, 8, 2), (4, .invokevirtual 127, 3, 54, 0), (7, .aload_n 0, 1, 0, 0), (8, .invokevirtual 90, 3, 138, 0), (11, .iload_n 1, 1, 0, 0), (12, .iload_n 2, 1, 0, 0), (13, .invokevirtual 103, 3, 30, 2), (16, .iload_n 3, 1, 0, 0), (17, .iadd, 1, 0, 0), (18, .invokevirtual 130, 3, 89, 1), (21, .ireturn, 1, 0, 0)], [], 2, 44)
def zX9_equalsInput : zI := (yX9_equalsInput, cX9_equalsInput, 4, (some .boolean), [(0, .aload_n 0, 1, 0, 0), (1, .invokevirtual 90, 3, 138, 0), (4, .iload_n 1, 1, 0, 0), (5, .iload_n 2, 1, 0, 0), (6, .invokevirtual 114, 3, 31, 2), (9, .aload_n 0, 1, 0, 0), (10, .getfield 12, 3, 8, 0), (13, .invokevirtual 357, 3, 63, 0), (16, .if_icmp .eq 5, 3, 0, 0), (19, .iconst 0, 1, 0, 0), (20, .ireturn, 1, 0, 0), (21, .iconst 0, 1, 0, 0), (22, .istore_n 3, 1, 0, 0), (23, .iload_n 3, 1, 0, 0), (24, .aload_n 0, 1, 0, 0), (25, .getfield 12, 3, 8, 0), (28, .invokevirtual 357, 3, 63, 0), (31, .if_icmp .ge 29, 3, 0, 0), (34, .aload_n 0, 1, 0, 0), (35, .iload_n 1, 1, 0, 0), (36, .iload_n 2, 1, 0, 0), (37, .iload_n 3, 1, 0, 0), (38, .invokevirtual 264, 3, 147, 3), (41, .aload_n 0, 1, 0, 0), (42, .getfield 12, 3, 8, 0), (45, .iload_n 3, 1, 0, 0), (46, .invokevirtual 361, 3, 67, 1), (49, .if_icmp .eq 5, 3, 0, 0), (52, .iconst 0, 1, 0, 0), (53, .ireturn, 1, 0, 0), (54, .iinc 3 1, 3, 0, 0), (57, .goto (-34), 3, 0, 0), (60, .iconst 1, 1, 0, 0), (61, .ireturn, 1, 0, 0)], [], 3, 67)
def zX9_arrange : zI := (yX9_arrange, cX9_arrange, 6, none, [(0, .aload_n 0, 1, 0, 0), (1, .getfield 26, 3, 8, 2), (4, .invokevirtual 127, 3, 54, 0), (7, .astore_n 2, 1, 0, 0), (8, .aload_n 0, 1, 0, 0), (9, .getfield 26, 3, 8, 2), (12, .invokevirtual 77, 3, 57, 0), (15, .astore_n 3, 1, 0, 0), (16, .aload_n 3, 1, 0, 0), (17, .invokevirtual 81, 3, 90, 0), (20, .iconst 0, 1, 0, 0), (21, .istore 4, 2, 0, 0), (23, .iload 4, 2, 0, 0), (25, .aload_n 0, 1, 0, 0), (26, .invokevirtual 90, 3, 138, 0), (29, .invokevirtual 94, 3, 25, 0), (32, .if_icmp .ge 51, 3, 0, 0), (35, .aload_n 1, 1, 0, 0), (36, .iload 4, 2, 0, 0), (38, .invokevirtual 362, 3, 84, 1), (41, .istore 5, 2, 0, 0), (43, .iload 4, 2, 0, 0), (45, .ifCond .le 9, 3, 0, 0), (48, .aload_n 3, 1, 0, 0), (49, .bipush 10, 2, 0, 0), (51, .invokevirtual 365, 3, 91, 1), (54, .aload_n 3, 1, 0, 0), (55, .aload_n 2, 1, 0, 0), (56, .aload_n 0, 1, 0, 0), (57, .invokevirtual 90, 3, 138, 0), (60, .iload 5, 2, 0, 0), (62, .invokevirtual 149, 3, 35, 1), (65, .aload_n 0, 1, 0, 0), (66, .invokevirtual 90, 3, 138, 0), (69, .iload 5, 2, 0, 0), (71, .invokevirtual 157, 3, 36, 1), (74, .invokevirtual 367, 3, 92, 3), (77, .iinc 4 1, 3, 0, 0), (80, .goto (-57), 3, 0, 0), (83, .return_, 1, 0, 0)], [], 3, 103)
def zX9_sortLines : zI := (yX9_sortLines, cX9_sortLines, 8, none, [(0, .iload_n 2, 1, 0, 0), (1, .iconst 1, 1, 0, 0), (2, .iadd, 1, 0, 0), (3, .istore 6, 2, 0, 0), (5, .iload 6, 2, 0, 0), (7, .iload_n 3, 1, 0, 0), (8, .if_icmp .gt 58, 3, 0, 0), (11, .iload 6, 2, 0, 0), (13, .istore 7, 2, 0, 0), (15, .iload 7, 2, 0, 0), (17, .iload_n 2, 1, 0, 0), (18, .if_icmp .le 34, 3, 0, 0), (21, .aload_n 0, 1, 0, 0), (22, .aload_n 1, 1, 0, 0), (23, .iload 6, 2, 0, 0), (25, .invokevirtual 362, 3, 84, 1), (28, .aload_n 1, 1, 0, 0), (29, .iload 7, 2, 0, 0), (31, .iconst 1, 1, 0, 0), (32, .isub, 1, 0, 0), (33, .invokevirtual 362, 3, 84, 1), (36, .iload 4, 2, 0, 0), (38, .iload 5, 2, 0, 0), (40, .invokevirtual 371, 3, 151, 4), (43, .ifCond .eq 9, 3, 0, 0), (46, .iinc 7 (-1), 3, 0, 0), (49, .goto (-34), 3, 0, 0), (52, .aload_n 1, 1, 0, 0), (53, .iload 6, 2, 0, 0), (55, .iload 7, 2, 0, 0), (57, .invokevirtual 164, 3, 85, 2), (60, .iinc 6 1, 3, 0, 0), (63, .goto (-58), 3, 0, 0), (66, .return_, 1, 0, 0)], [], 5, 121)
def zX9_comesBefore : zI := (yX9_comesBefore, cX9_comesBefore, 8, (some .boolean), [(0, .aload_n 0, 1, 0, 0), (1, .invokevirtual 90, 3, 138, 0), (4, .iload_n 1, 1, 0, 0), (5, .iload_n 3, 1, 0, 0), (6, .invokevirtual 205, 3, 32, 2), (9, .istore 5, 2, 0, 0), (11, .aload_n 0, 1, 0, 0), (12, .invokevirtual 90, 3, 138, 0), (15, .iload_n 2, 1, 0, 0), (16, .iload_n 3, 1, 0, 0), (17, .invokevirtual 205, 3, 32, 2), (20, .istore 6, 2, 0, 0), (22, .iload 5, 2, 0, 0), (24, .iload 6, 2, 0, 0), (26, .if_icmp .eq 22, 3, 0, 0), (29, .iload 5, 2, 0, 0), (31, .invokestatic 375, 3, 152, 1), (34, .iload 6, 2, 0, 0), (36, .invokestatic 375, 3, 152, 1), (39, .if_icmp .ge 7, 3, 0, 0), (42, .iconst 1, 1, 0, 0), (43, .goto 4, 3, 0, 0), (46, .iconst 0, 1, 0, 0), (47, .ireturn, 1, 0, 0), (48, .iconst 0, 1, 0, 0), (49, .istore 7, 2, 0, 0), (51, .iload 5, 2, 0, 0), (53, .iconst 1, 1, 0, 0), (54, .if_icmp .ne 29, 3, 0, 0), (57, .aload_n 0, 1, 0, 0), (58, .invokevirtual 90, 3, 138, 0), (61, .iload_n 1, 1, 0, 0), (62, .iload_n 3, 1, 0, 0), (63, .invokevirtual 378, 3, 34, 2), (66, .aload_n 0, 1, 0, 0), (67, .invokevirtual 90, 3, 138, 0), (70, .iload_n 2, 1, 0, 0), (71, .iload_n 3, 1, 0, 0), (72, .invokevirtual 378, 3, 34, 2), (75, .invokestatic 382, 3, 269, 2), (78, .istore 7, 2, 0, 0), (80, .goto 18, 3, 0, 0), (83, .iload 5, 2, 0, 0), (85, .iconst 2, 1, 0, 0), (86, .if_icmp .ne 12, 3, 0, 0), (89, .aload_n 0, 1, 0, 0), (90, .iload_n 1, 1, 0, 0), (91, .iload_n 2, 1, 0, 0), (92, .iload_n 3, 1, 0, 0), (93, .invokevirtual 388, 3, 153, 3), (96, .istore 7, 2, 0, 0), (98, .iload 4, 2, 0, 0), (100, .ifCond .eq 16, 3, 0, 0), (103, .iload 7, 2, 0, 0), (105, .ifCond .le 7, 3, 0, 0), (108, .iconst 1, 1, 0, 0), (109, .goto 17, 3, 0, 0), (112, .iconst 0, 1, 0, 0), (113, .goto 13, 3, 0, 0), (116, .iload 7, 2, 0, 0), (118, .ifCond .ge 7, 3, 0, 0), (121, .iconst 1, 1, 0, 0), (122, .goto 4, 3, 0, 0), (125, .iconst 0, 1, 0, 0), (126, .ireturn, 1, 0, 0)], [], 4, 94)
def zX9_sortRank : zI := (yX9_sortRank, cX9_sortRank, 1, (some .int), [(0, .iload_n 0, 1, 0, 0), (1, .iconst 1, 1, 0, 0), (2, .if_icmp .ne 5, 3, 0, 0), (5, .iconst 0, 1, 0, 0), (6, .ireturn, 1, 0, 0), (7, .iload_n 0, 1, 0, 0), (8, .iconst 2, 1, 0, 0), (9, .if_icmp .ne 7, 3, 0, 0), (12, .iconst 1, 1, 0, 0), (13, .goto 4, 3, 0, 0), (16, .iconst 2, 1, 0, 0), (17, .ireturn, 1, 0, 0)], [], 0, 0)
def zX9_compareWords : zI := (yX9_compareWords, cX9_compareWords, 8, (some .int), [(0, .aload_n 0, 1, 0, 0), (1, .invokevirtual 90, 3, 138, 0), (4, .iload_n 1, 1, 0, 0), (5, .iload_n 3, 1, 0, 0), (6, .invokevirtual 114, 3, 31, 2), (9, .istore 4, 2, 0, 0), (11, .aload_n 0, 1, 0, 0), (12, .invokevirtual 90, 3, 138, 0), (15, .iload_n 2, 1, 0, 0), (16, .iload_n 3, 1, 0, 0), (17, .invokevirtual 114, 3, 31, 2), (20, .istore 5, 2, 0, 0), (22, .iconst 0, 1, 0, 0), (23, .istore 6, 2, 0, 0), (25, .iload 6, 2, 0, 0), (27, .iload 4, 2, 0, 0), (29, .if_icmp .ge 45, 3, 0, 0), (32, .iload 6, 2, 0, 0), (34, .iload 5, 2, 0, 0), (36, .if_icmp .ge 38, 3, 0, 0), (39, .aload_n 0, 1, 0, 0), (40, .iload_n 1, 1, 0, 0), (41, .iload_n 3, 1, 0, 0), (42, .iload 6, 2, 0, 0), (44, .invokevirtual 264, 3, 147, 3), (47, .aload_n 0, 1, 0, 0), (48, .iload_n 2, 1, 0, 0), (49, .iload_n 3, 1, 0, 0), (50, .iload 6, 2, 0, 0), (52, .invokevirtual 264, 3, 147, 3), (55, .invokestatic 391, 3, 268, 2), (58, .istore 7, 2, 0, 0), (60, .iload 7, 2, 0, 0), (62, .ifCond .eq 6, 3, 0, 0), (65, .iload 7, 2, 0, 0), (67, .ireturn, 1, 0, 0), (68, .iinc 6 1, 3, 0, 0), (71, .goto (-46), 3, 0, 0), (74, .iload 4, 2, 0, 0), (76, .iload 5, 2, 0, 0), (78, .invokestatic 391, 3, 268, 2), (81, .ireturn, 1, 0, 0)], [], 3, 67)
def zX9_countFact : zI := (yX9_countFact, cX9_countFact, 2, (some .int), [(0, .iload_n 1, 1, 0, 0), (1, .tableswitch 116 0 7 #[47, 55, 63, 71, 82, 91, 100, 108], 47, 0, 0), (48, .aload_n 0, 1, 0, 0), (49, .invokevirtual 90, 3, 138, 0), (52, .invokevirtual 94, 3, 25, 0), (55, .ireturn, 1, 0, 0), (56, .aload_n 0, 1, 0, 0), (57, .invokevirtual 90, 3, 138, 0), (60, .invokevirtual 395, 3, 40, 0), (63, .ireturn, 1, 0, 0), (64, .aload_n 0, 1, 0, 0), (65, .invokevirtual 90, 3, 138, 0), (68, .invokevirtual 398, 3, 41, 0), (71, .ireturn, 1, 0, 0), (72, .aload_n 0, 1, 0, 0), (73, .getfield 33, 3, 8, 3), (76, .getfield 171, 3, 5, 1), (79, .invokevirtual 175, 3, 8, 0), (82, .ireturn, 1, 0, 0), (83, .aload_n 0, 1, 0, 0), (84, .invokevirtual 90, 3, 138, 0), (87, .iconst 1, 1, 0, 0), (88, .invokevirtual 401, 3, 43, 1), (91, .ireturn, 1, 0, 0), (92, .aload_n 0, 1, 0, 0), (93, .invokevirtual 90, 3, 138, 0), (96, .iconst 0, 1, 0, 0), (97, .invokevirtual 401, 3, 43, 1), (100, .ireturn, 1, 0, 0), (101, .aload_n 0, 1, 0, 0), (102, .getfield 33, 3, 8, 3), (105, .invokevirtual 404, 3, 80, 0), (108, .ireturn, 1, 0, 0), (109, .aload_n 0, 1, 0, 0), (110, .getfield 26, 3, 8, 2), (113, .invokevirtual 219, 3, 55, 0), (116, .ireturn, 1, 0, 0), (117, .aload_n 0, 1, 0, 0), (118, .getfield 26, 3, 8, 2), (121, .invokevirtual 227, 3, 56, 0), (124, .ireturn, 1, 0, 0)], [], 4, 89)
def zX9_mixLine : zI := (yX9_mixLine, cX9_mixLine, 8, (some .long), [(0, .lload_n 1, 1, 0, 0), (1, .lstore 4, 2, 0, 0), (3, .iconst 0, 1, 0, 0), (4, .istore 6, 2, 0, 0), (6, .iload 6, 2, 0, 0), (8, .iconst 3, 1, 0, 0), (9, .if_icmp .gt 27, 3, 0, 0), (12, .lload 4, 2, 0, 0), (14, .aload_n 0, 1, 0, 0), (15, .getfield 33, 3, 8, 3), (18, .iload_n 3, 1, 0, 0), (19, .iload 6, 2, 0, 0), (21, .invokevirtual 255, 3, 78, 2), (24, .i2l, 1, 0, 0), (25, .invokestatic 302, 3, 156, 2), (28, .lstore 4, 2, 0, 0), (30, .iinc 6 1, 3, 0, 0), (33, .goto (-27), 3, 0, 0), (36, .iconst 0, 1, 0, 0), (37, .istore 6, 2, 0, 0), (39, .iload 6, 2, 0, 0), (41, .aload_n 0, 1, 0, 0), (42, .invokevirtual 90, 3, 138, 0), (45, .iload_n 3, 1, 0, 0), (46, .invokevirtual 111, 3, 29, 1), (49, .if_icmp .ge 89, 3, 0, 0), (52, .iconst 0, 1, 0, 0), (53, .istore 7, 2, 0, 0), (55, .iload 7, 2, 0, 0), (57, .iconst 4, 1, 0, 0), (58, .if_icmp .gt 33, 3, 0, 0), (61, .lload 4, 2, 0, 0), (63, .aload_n 0, 1, 0, 0), (64, .getfield 33, 3, 8, 3), (67, .iload_n 3, 1, 0, 0), (68, .iload 6, 2, 0, 0), (70, .iload 7, 2, 0, 0), (72, .aload_n 0, 1, 0, 0), (73, .getfield 19, 3, 8, 1), (76, .invokevirtual 258, 3, 77, 4), (79, .i2l, 1, 0, 0), (80, .invokestatic 302, 3, 156, 2), (83, .lstore 4, 2, 0, 0), (85, .iinc 7 1, 3, 0, 0), (88, .goto (-33), 3, 0, 0), (91, .iconst 0, 1, 0, 0), (92, .istore 7, 2, 0, 0), (94, .iload 7, 2, 0, 0), (96, .aload_n 0, 1, 0, 0), (97, .invokevirtual 90, 3, 138, 0), (100, .iload_n 3, 1, 0, 0), (101, .iload 6, 2, 0, 0), (103, .invokevirtual 114, 3, 31, 2), (106, .if_icmp .ge 26, 3, 0, 0), (109, .lload 4, 2, 0, 0), (111, .aload_n 0, 1, 0, 0), (112, .iload_n 3, 1, 0, 0), (113, .iload 6, 2, 0, 0), (115, .iload 7, 2, 0, 0), (117, .invokevirtual 264, 3, 147, 3), (120, .i2l, 1, 0, 0), (121, .invokestatic 302, 3, 156, 2), (124, .lstore 4, 2, 0, 0), (126, .iinc 7 1, 3, 0, 0), (129, .goto (-35), 3, 0, 0), (132, .iinc 6 1, 3, 0, 0), (135, .goto (-96), 3, 0, 0), (138, .lload 4, 2, 0, 0), (140, .lreturn, 1, 0, 0)], [], 4, 94)
def zX9_mix : zI := (yX9_mix, cX9_mix, 4, (some .long), [(0, .ldc2_w 407, 3, 31, 0), (3, .lload_n 0, 1, 0, 0), (4, .lmul, 1, 0, 0), (5, .lload_n 2, 1, 0, 0), (6, .ladd, 1, 0, 0), (7, .lreturn, 1, 0, 0)], [], 0, 0)
def zX9_isSign : zI := (yX9_isSign, cX9_isSign, 1, (some .boolean), [(0, .iload_n 0, 1, 0, 0), (1, .bipush 97, 2, 0, 0), (3, .if_icmp .lt 9, 3, 0, 0), (6, .iload_n 0, 1, 0, 0), (7, .bipush 122, 2, 0, 0), (9, .if_icmp .le 22, 3, 0, 0), (12, .iload_n 0, 1, 0, 0), (13, .bipush 65, 2, 0, 0), (15, .if_icmp .lt 9, 3, 0, 0), (18, .iload_n 0, 1, 0, 0), (19, .bipush 90, 2, 0, 0), (21, .if_icmp .le 10, 3, 0, 0), (24, .iload_n 0, 1, 0, 0), (25, .invokestatic 409, 3, 158, 1), (28, .ifCond .eq 5, 3, 0, 0), (31, .iconst 1, 1, 0, 0), (32, .ireturn, 1, 0, 0), (33, .iload_n 0, 1, 0, 0), (34, .tableswitch 124 32 58 #[122, 124, 124, 124, 124, 122, 124, 124, 122, 122, 124, 122, 122, 122, 122, 124, 124, 124, 124, 124, 124, 124, 124, 124, 124, 124, 122], 122, 0, 0), (156, .iconst 1, 1, 0, 0), (157, .ireturn, 1, 0, 0), (158, .iconst 0, 1, 0, 0), (159, .ireturn, 1, 0, 0)], [], 1, 20)
def zX9_isDigit : zI := (yX9_isDigit, cX9_isDigit, 1, (some .boolean), [(0, .iload_n 0, 1, 0, 0), (1, .bipush 48, 2, 0, 0), (3, .if_icmp .lt 13, 3, 0, 0), (6, .iload_n 0, 1, 0, 0), (7, .bipush 57, 2, 0, 0), (9, .if_icmp .gt 7, 3, 0, 0), (12, .iconst 1, 1, 0, 0), (13, .goto 4, 3, 0, 0), (16, .iconst 0, 1, 0, 0), (17, .ireturn, 1, 0, 0)], [], 0, 0)
def zX10_init : zI := (yX10_init, cX10_init, 2, none, [(0, .aload_n 0, 1, 0, 0), (1, .invokespecial 1, 3, 5001, 0), (4, .aload_n 0, 1, 0, 0), (5, .sipush 3289, 3, 0, 0), (8, .newarray .int, 2, 0, 0), (10, .putfield 7, 3, 9, 1), (13, .aload_n 0, 1, 0, 0), (14, .sipush 3289, 3, 0, 0), (17, .newarray .int, 2, 0, 0), (19, .putfield 13, 3, 9, 2), (22, .aload_n 0, 1, 0, 0), (23, .ldc 16, 2, 32890, 0), (25, .newarray .int, 2, 0, 0), (27, .putfield 17, 3, 9, 3), (30, .aload_n 0, 1, 0, 0), (31, .ldc 16, 2, 32890, 0), (33, .newarray .int, 2, 0, 0), (35, .putfield 20, 3, 9, 4), (38, .aload_n 0, 1, 0, 0), (39, .bipush 7, 2, 0, 0), (41, .newarray .int, 2, 0, 0), (43, .putfield 23, 3, 9, 7), (46, .aload_n 0, 1, 0, 0), (47, .iconst 2, 1, 0, 0), (48, .putfield 26, 3, 9, 8), (51, .aload_n 0, 1, 0, 0), (52, .iconst 1, 1, 0, 0), (53, .putfield 30, 3, 9, 10), (56, .aload_n 0, 1, 0, 0), (57, .bipush 120, 2, 0, 0), (59, .newarray .int, 2, 0, 0), (61, .putfield 33, 3, 9, 12), (64, .aload_n 0, 1, 0, 0), (65, .sipush 168, 3, 0, 0), (68, .newarray .int, 2, 0, 0), (70, .putfield 36, 3, 9, 14), (73, .aload_n 0, 1, 0, 0), (74, .sipush 168, 3, 0, 0), (77, .newarray .int, 2, 0, 0), (79, .putfield 39, 3, 9, 15), (82, .aload_n 0, 1, 0, 0), (83, .sipush 168, 3, 0, 0), (86, .newarray .int, 2, 0, 0), (88, .putfield 42, 3, 9, 16), (91, .aload_n 0, 1, 0, 0), (92, .sipush 168, 3, 0, 0), (95, .newarray .int, 2, 0, 0), (97, .putfield 45, 3, 9, 17), (100, .aload_n 0, 1, 0, 0), (101, .sipush 168, 3, 0, 0), (104, .newarray .int, 2, 0, 0), (106, .putfield 48, 3, 9, 18), (109, .aload_n 0, 1, 0, 0), (110, .sipush 168, 3, 0, 0), (113, .newarray .int, 2, 0, 0), (115, .putfield 51, 3, 9, 19), (118, .aload_n 0, 1, 0, 0), (119, .sipush 168, 3, 0, 0), (122, .newarray .int, 2, 0, 0), (124, .putfield 54, 3, 9, 20), (127, .aload_n 0, 1, 0, 0), (128, .bipush 24, 2, 0, 0), (130, .newarray .int, 2, 0, 0), (132, .putfield 57, 3, 9, 21), (135, .aload_n 0, 1, 0, 0), (136, .sipush 192, 3, 0, 0), (139, .newarray .int, 2, 0, 0), (141, .putfield 60, 3, 9, 22), (144, .aload_n 0, 1, 0, 0), (145, .getfield 7, 3, 9, 1), (148, .iconst 0, 1, 0, 0), (149, .iconst 1, 1, 0, 0), (150, .iastore, 1, 0, 0), (151, .aload_n 0, 1, 0, 0), (152, .getfield 7, 3, 9, 1), (155, .iconst 1, 1, 0, 0), (156, .iconst 1, 1, 0, 0), (157, .iastore, 1, 0, 0), (158, .iconst 0, 1, 0, 0), (159, .istore_n 1, 1, 0, 0), (160, .iload_n 1, 1, 0, 0), (161, .bipush 7, 2, 0, 0), (163, .if_icmp .ge 16, 3, 0, 0), (166, .aload_n 0, 1, 0, 0), (167, .getfield 23, 3, 9, 7), (170, .iload_n 1, 1, 0, 0), (171, .iconst 3, 1, 0, 0), (172, .iastore, 1, 0, 0), (173, .iinc 1 1, 3, 0, 0), (176, .goto (-16), 3, 0, 0), (179, .return_, 1, 0, 0)], [], 1, 24)
def zX10_thrown : zI := (yX10_thrown, cX10_thrown, 1, (some .int), [(0, .aload_n 0, 1, 0, 0), (1, .getfield 63, 3, 9, 0), (4, .ireturn, 1, 0, 0)], [], 0, 0)
def zX10_within : zI := (yX10_within, cX10_within, 3, (some .boolean), [(0, .iload_n 0, 1, 0, 0), (1, .iload_n 1, 1, 0, 0), (2, .if_icmp .lt 12, 3, 0, 0), (5, .iload_n 0, 1, 0, 0), (6, .iload_n 2, 1, 0, 0), (7, .if_icmp .gt 7, 3, 0, 0), (10, .iconst 1, 1, 0, 0), (11, .goto 4, 3, 0, 0), (14, .iconst 0, 1, 0, 0), (15, .ireturn, 1, 0, 0)], [], 0, 0)
def zX10_cells : zI := (yX10_cells, cX10_cells, 2, (some .int), [(0, .aload_n 0, 1, 0, 0), (1, .getfield 7, 3, 9, 1), (4, .iconst 1, 1, 0, 0), (5, .iload_n 1, 1, 0, 0), (6, .iadd, 1, 0, 0), (7, .iaload, 1, 0, 0), (8, .ireturn, 1, 0, 0)], [], 0, 0)
def zX10_lengthOf : zI := (yX10_lengthOf, cX10_lengthOf, 3, (some .int), [(0, .aload_n 0, 1, 0, 0), (1, .getfield 7, 3, 9, 1), (4, .bipush 25, 2, 0, 0), (6, .bipush 8, 2, 0, 0), (8, .iload_n 1, 1, 0, 0), (9, .imul, 1, 0, 0), (10, .iadd, 1, 0, 0), (11, .iload_n 2, 1, 0, 0), (12, .iadd, 1, 0, 0), (13, .iaload, 1, 0, 0), (14, .ireturn, 1, 0, 0)], [], 0, 0)
def zX10_setLength : zI := (yX10_setLength, cX10_setLength, 4, none, [(0, .aload_n 0, 1, 0, 0), (1, .getfield 7, 3, 9, 1), (4, .bipush 25, 2, 0, 0), (6, .bipush 8, 2, 0, 0), (8, .iload_n 1, 1, 0, 0), (9, .imul, 1, 0, 0), (10, .iadd, 1, 0, 0), (11, .iload_n 2, 1, 0, 0), (12, .iadd, 1, 0, 0), (13, .iload_n 3, 1, 0, 0), (14, .iastore, 1, 0, 0), (15, .return_, 1, 0, 0)], [], 0, 0)
def zX10_place : zI := (yX10_place, cX10_place, 3, (some .int), [(0, .sipush 217, 3, 0, 0), (3, .bipush 16, 2, 0, 0), (5, .bipush 8, 2, 0, 0), (7, .iload_n 0, 1, 0, 0), (8, .imul, 1, 0, 0), (9, .iload_n 1, 1, 0, 0), (10, .iadd, 1, 0, 0), (11, .imul, 1, 0, 0), (12, .iadd, 1, 0, 0), (13, .iload_n 2, 1, 0, 0), (14, .iadd, 1, 0, 0), (15, .ireturn, 1, 0, 0)], [], 0, 0)
def zX10_signOf : zI := (yX10_signOf, cX10_signOf, 4, (some .int), [(0, .aload_n 0, 1, 0, 0), (1, .getfield 7, 3, 9, 1), (4, .iload_n 1, 1, 0, 0), (5, .iload_n 2, 1, 0, 0), (6, .iload_n 3, 1, 0, 0), (7, .invokestatic 66, 3, 165, 3), (10, .iaload, 1, 0, 0), (11, .ireturn, 1, 0, 0)], [], 1, 22)
def zX10_isLine : zI := (yX10_isLine, cX10_isLine, 2, (some .boolean), [(0, .iload_n 1, 1, 0, 0), (1, .iconst 0, 1, 0, 0), (2, .aload_n 0, 1, 0, 0), (3, .getfield 7, 3, 9, 1), (6, .iconst 0, 1, 0, 0), (7, .iaload, 1, 0, 0), (8, .iconst 1, 1, 0, 0), (9, .isub, 1, 0, 0), (10, .invokestatic 70, 3, 161, 3), (13, .ireturn, 1, 0, 0)], [], 1, 22)
def zX10_isCell : zI := (yX10_isCell, cX10_isCell, 3, (some .boolean), [(0, .aload_n 0, 1, 0, 0), (1, .iload_n 1, 1, 0, 0), (2, .invokevirtual 74, 3, 167, 1), (5, .ifCond .eq 22, 3, 0, 0), (8, .iload_n 2, 1, 0, 0), (9, .iconst 0, 1, 0, 0), (10, .aload_n 0, 1, 0, 0), (11, .iload_n 1, 1, 0, 0), (12, .invokevirtual 78, 3, 162, 1), (15, .iconst 1, 1, 0, 0), (16, .isub, 1, 0, 0), (17, .invokestatic 70, 3, 161, 3), (20, .ifCond .eq 7, 3, 0, 0), (23, .iconst 1, 1, 0, 0), (24, .goto 4, 3, 0, 0), (27, .iconst 0, 1, 0, 0), (28, .ireturn, 1, 0, 0)], [], 2, 43)
def zX10_isPlace : zI := (yX10_isPlace, cX10_isPlace, 4, (some .boolean), [(0, .aload_n 0, 1, 0, 0), (1, .iload_n 1, 1, 0, 0), (2, .iload_n 2, 1, 0, 0), (3, .invokevirtual 82, 3, 168, 2), (6, .ifCond .eq 21, 3, 0, 0), (9, .iload_n 3, 1, 0, 0), (10, .iconst 0, 1, 0, 0), (11, .aload_n 0, 1, 0, 0), (12, .iload_n 1, 1, 0, 0), (13, .iload_n 2, 1, 0, 0), (14, .invokevirtual 86, 3, 163, 2), (17, .invokestatic 70, 3, 161, 3), (20, .ifCond .eq 7, 3, 0, 0), (23, .iconst 1, 1, 0, 0), (24, .goto 4, 3, 0, 0), (27, .iconst 0, 1, 0, 0), (28, .ireturn, 1, 0, 0)], [], 3, 65)
def zX10_copyCell : zI := (yX10_copyCell, cX10_copyCell, 6, none, [(0, .aload_n 0, 1, 0, 0), (1, .iload_n 1, 1, 0, 0), (2, .iload_n 2, 1, 0, 0), (3, .aload_n 0, 1, 0, 0), (4, .iload_n 3, 1, 0, 0), (5, .iload 4, 2, 0, 0), (7, .invokevirtual 86, 3, 163, 2), (10, .invokevirtual 90, 3, 164, 3), (13, .iconst 0, 1, 0, 0), (14, .istore 5, 2, 0, 0), (16, .iload 5, 2, 0, 0), (18, .bipush 16, 2, 0, 0), (20, .if_icmp .ge 30, 3, 0, 0), (23, .aload_n 0, 1, 0, 0), (24, .getfield 7, 3, 9, 1), (27, .iload_n 1, 1, 0, 0), (28, .iload_n 2, 1, 0, 0), (29, .iload 5, 2, 0, 0), (31, .invokestatic 66, 3, 165, 3), (34, .aload_n 0, 1, 0, 0), (35, .iload_n 3, 1, 0, 0), (36, .iload 4, 2, 0, 0), (38, .iload 5, 2, 0, 0), (40, .invokevirtual 94, 3, 166, 3), (43, .iastore, 1, 0, 0), (44, .iinc 5 1, 3, 0, 0), (47, .goto (-31), 3, 0, 0), (50, .return_, 1, 0, 0)], [], 2, 45)
def zX10_copyLine : zI := (yX10_copyLine, cX10_copyLine, 4, none, [(0, .aload_n 0, 1, 0, 0), (1, .getfield 7, 3, 9, 1), (4, .iconst 1, 1, 0, 0), (5, .iload_n 1, 1, 0, 0), (6, .iadd, 1, 0, 0), (7, .aload_n 0, 1, 0, 0), (8, .iload_n 2, 1, 0, 0), (9, .invokevirtual 78, 3, 162, 1), (12, .iastore, 1, 0, 0), (13, .iconst 0, 1, 0, 0), (14, .istore_n 3, 1, 0, 0), (15, .iload_n 3, 1, 0, 0), (16, .bipush 8, 2, 0, 0), (18, .if_icmp .ge 17, 3, 0, 0), (21, .aload_n 0, 1, 0, 0), (22, .iload_n 1, 1, 0, 0), (23, .iload_n 3, 1, 0, 0), (24, .iload_n 2, 1, 0, 0), (25, .iload_n 3, 1, 0, 0), (26, .invokevirtual 97, 3, 170, 4), (29, .iinc 3 1, 3, 0, 0), (32, .goto (-17), 3, 0, 0), (35, .return_, 1, 0, 0)], [], 3, 70)
def zX10_openLine : zI := (yX10_openLine, cX10_openLine, 3, none, [(0, .aload_n 0, 1, 0, 0), (1, .getfield 7, 3, 9, 1), (4, .iconst 0, 1, 0, 0), (5, .iaload, 1, 0, 0), (6, .iconst 1, 1, 0, 0), (7, .isub, 1, 0, 0), (8, .istore_n 2, 1, 0, 0), (9, .iload_n 2, 1, 0, 0), (10, .iload_n 1, 1, 0, 0), (11, .if_icmp .lt 17, 3, 0, 0), (14, .aload_n 0, 1, 0, 0), (15, .iload_n 2, 1, 0, 0), (16, .iconst 1, 1, 0, 0), (17, .iadd, 1, 0, 0), (18, .iload_n 2, 1, 0, 0), (19, .invokevirtual 101, 3, 171, 2), (22, .iinc 2 (-1), 3, 0, 0), (25, .goto (-16), 3, 0, 0), (28, .aload_n 0, 1, 0, 0), (29, .getfield 7, 3, 9, 1), (32, .iconst 0, 1, 0, 0), (33, .dup2, 1, 0, 0), (34, .iaload, 1, 0, 0), (35, .iconst 1, 1, 0, 0), (36, .iadd, 1, 0, 0), (37, .iastore, 1, 0, 0), (38, .aload_n 0, 1, 0, 0), (39, .getfield 7, 3, 9, 1), (42, .iconst 1, 1, 0, 0), (43, .iload_n 1, 1, 0, 0), (44, .iadd, 1, 0, 0), (45, .iconst 1, 1, 0, 0), (46, .iastore, 1, 0, 0), (47, .aload_n 0, 1, 0, 0), (48, .iload_n 1, 1, 0, 0), (49, .iconst 0, 1, 0, 0), (50, .iconst 0, 1, 0, 0), (51, .invokevirtual 90, 3, 164, 3), (54, .return_, 1, 0, 0)], [], 4, 93)
def zX10_closeLine : zI := (yX10_closeLine, cX10_closeLine, 3, none, [(0, .iload_n 1, 1, 0, 0), (1, .istore_n 2, 1, 0, 0), (2, .iload_n 2, 1, 0, 0), (3, .iconst 1, 1, 0, 0), (4, .iadd, 1, 0, 0), (5, .aload_n 0, 1, 0, 0), (6, .getfield 7, 3, 9, 1), (9, .iconst 0, 1, 0, 0), (10, .iaload, 1, 0, 0), (11, .if_icmp .ge 17, 3, 0, 0), (14, .aload_n 0, 1, 0, 0), (15, .iload_n 2, 1, 0, 0), (16, .iload_n 2, 1, 0, 0), (17, .iconst 1, 1, 0, 0), (18, .iadd, 1, 0, 0), (19, .invokevirtual 101, 3, 171, 2), (22, .iinc 2 1, 3, 0, 0), (25, .goto (-23), 3, 0, 0), (28, .aload_n 0, 1, 0, 0), (29, .getfield 7, 3, 9, 1), (32, .iconst 0, 1, 0, 0), (33, .dup2, 1, 0, 0), (34, .iaload, 1, 0, 0), (35, .iconst 1, 1, 0, 0), (36, .isub, 1, 0, 0), (37, .iastore, 1, 0, 0), (38, .return_, 1, 0, 0)], [], 4, 93)
def zX10_openCell : zI := (yX10_openCell, cX10_openCell, 4, none, [(0, .aload_n 0, 1, 0, 0), (1, .iload_n 1, 1, 0, 0), (2, .invokevirtual 78, 3, 162, 1), (5, .iconst 1, 1, 0, 0), (6, .isub, 1, 0, 0), (7, .istore_n 3, 1, 0, 0), (8, .iload_n 3, 1, 0, 0), (9, .iload_n 2, 1, 0, 0), (10, .if_icmp .lt 19, 3, 0, 0), (13, .aload_n 0, 1, 0, 0), (14, .iload_n 1, 1, 0, 0), (15, .iload_n 3, 1, 0, 0), (16, .iconst 1, 1, 0, 0), (17, .iadd, 1, 0, 0), (18, .iload_n 1, 1, 0, 0), (19, .iload_n 3, 1, 0, 0), (20, .invokevirtual 97, 3, 170, 4), (23, .iinc 3 (-1), 3, 0, 0), (26, .goto (-18), 3, 0, 0), (29, .aload_n 0, 1, 0, 0), (30, .getfield 7, 3, 9, 1), (33, .iconst 1, 1, 0, 0), (34, .iload_n 1, 1, 0, 0), (35, .iadd, 1, 0, 0), (36, .dup2, 1, 0, 0), (37, .iaload, 1, 0, 0), (38, .iconst 1, 1, 0, 0), (39, .iadd, 1, 0, 0), (40, .iastore, 1, 0, 0), (41, .aload_n 0, 1, 0, 0), (42, .iload_n 1, 1, 0, 0), (43, .iload_n 2, 1, 0, 0), (44, .iconst 0, 1, 0, 0), (45, .invokevirtual 90, 3, 164, 3), (48, .return_, 1, 0, 0)], [], 3, 70)
def zX10_closeCell : zI := (yX10_closeCell, cX10_closeCell, 4, none, [(0, .iload_n 2, 1, 0, 0), (1, .istore_n 3, 1, 0, 0), (2, .iload_n 3, 1, 0, 0), (3, .iconst 1, 1, 0, 0), (4, .iadd, 1, 0, 0), (5, .aload_n 0, 1, 0, 0), (6, .iload_n 1, 1, 0, 0), (7, .invokevirtual 78, 3, 162, 1), (10, .if_icmp .ge 19, 3, 0, 0), (13, .aload_n 0, 1, 0, 0), (14, .iload_n 1, 1, 0, 0), (15, .iload_n 3, 1, 0, 0), (16, .iload_n 1, 1, 0, 0), (17, .iload_n 3, 1, 0, 0), (18, .iconst 1, 1, 0, 0), (19, .iadd, 1, 0, 0), (20, .invokevirtual 97, 3, 170, 4), (23, .iinc 3 1, 3, 0, 0), (26, .goto (-24), 3, 0, 0), (29, .aload_n 0, 1, 0, 0), (30, .getfield 7, 3, 9, 1), (33, .iconst 1, 1, 0, 0), (34, .iload_n 1, 1, 0, 0), (35, .iadd, 1, 0, 0), (36, .dup2, 1, 0, 0), (37, .iaload, 1, 0, 0), (38, .iconst 1, 1, 0, 0), (39, .isub, 1, 0, 0), (40, .iastore, 1, 0, 0), (41, .return_, 1, 0, 0)], [], 3, 70)
def zX10_giveTail : zI := (yX10_giveTail, cX10_giveTail, 8, none, [(0, .aload_n 0, 1, 0, 0), (1, .iload 4, 2, 0, 0), (3, .iload 5, 2, 0, 0), (5, .invokevirtual 86, 3, 163, 2), (8, .istore 6, 2, 0, 0), (10, .iload_n 3, 1, 0, 0), (11, .istore 7, 2, 0, 0), (13, .iload 7, 2, 0, 0), (15, .aload_n 0, 1, 0, 0), (16, .iload_n 1, 1, 0, 0), (17, .iload_n 2, 1, 0, 0), (18, .invokevirtual 86, 3, 163, 2), (21, .if_icmp .ge 34, 3, 0, 0), (24, .aload_n 0, 1, 0, 0), (25, .getfield 7, 3, 9, 1), (28, .iload 4, 2, 0, 0), (30, .iload 5, 2, 0, 0), (32, .iload 6, 2, 0, 0), (34, .invokestatic 66, 3, 165, 3), (37, .aload_n 0, 1, 0, 0), (38, .iload_n 1, 1, 0, 0), (39, .iload_n 2, 1, 0, 0), (40, .iload 7, 2, 0, 0), (42, .invokevirtual 94, 3, 166, 3), (45, .iastore, 1, 0, 0), (46, .iinc 6 1, 3, 0, 0), (49, .iinc 7 1, 3, 0, 0), (52, .goto (-39), 3, 0, 0), (55, .aload_n 0, 1, 0, 0), (56, .iload 4, 2, 0, 0), (58, .iload 5, 2, 0, 0), (60, .iload 6, 2, 0, 0), (62, .invokevirtual 90, 3, 164, 3), (65, .aload_n 0, 1, 0, 0), (66, .iload_n 1, 1, 0, 0), (67, .iload_n 2, 1, 0, 0), (68, .iload_n 3, 1, 0, 0), (69, .invokevirtual 90, 3, 164, 3), (72, .return_, 1, 0, 0)], [], 2, 45)
def zX10_save : zI := (yX10_save, cX10_save, 2, none, [(0, .aload_n 0, 1, 0, 0), (1, .getfield 105, 3, 9, 5), (4, .bipush 10, 2, 0, 0), (6, .if_icmp .ne 45, 3, 0, 0), (9, .sipush 3289, 3, 0, 0), (12, .istore_n 1, 1, 0, 0), (13, .iload_n 1, 1, 0, 0), (14, .ldc 16, 2, 32890, 0), (16, .if_icmp .ge 25, 3, 0, 0), (19, .aload_n 0, 1, 0, 0), (20, .getfield 17, 3, 9, 3), (23, .iload_n 1, 1, 0, 0), (24, .sipush 3289, 3, 0, 0), (27, .isub, 1, 0, 0), (28, .aload_n 0, 1, 0, 0), (29, .getfield 17, 3, 9, 3), (32, .iload_n 1, 1, 0, 0), (33, .iaload, 1, 0, 0), (34, .iastore, 1, 0, 0), (35, .iinc 1 1, 3, 0, 0), (38, .goto (-25), 3, 0, 0), (41, .aload_n 0, 1, 0, 0), (42, .dup, 1, 0, 0), (43, .getfield 105, 3, 9, 5), (46, .iconst 1, 1, 0, 0), (47, .isub, 1, 0, 0), (48, .putfield 105, 3, 9, 5), (51, .iconst 0, 1, 0, 0), (52, .istore_n 1, 1, 0, 0), (53, .iload_n 1, 1, 0, 0), (54, .sipush 3289, 3, 0, 0), (57, .if_icmp .ge 30, 3, 0, 0), (60, .aload_n 0, 1, 0, 0), (61, .getfield 17, 3, 9, 3), (64, .sipush 3289, 3, 0, 0), (67, .aload_n 0, 1, 0, 0), (68, .getfield 105, 3, 9, 5), (71, .imul, 1, 0, 0), (72, .iload_n 1, 1, 0, 0), (73, .iadd, 1, 0, 0), (74, .aload_n 0, 1, 0, 0), (75, .getfield 7, 3, 9, 1), (78, .iload_n 1, 1, 0, 0), (79, .iaload, 1, 0, 0), (80, .iastore, 1, 0, 0), (81, .iinc 1 1, 3, 0, 0), (84, .goto (-31), 3, 0, 0), (87, .aload_n 0, 1, 0, 0), (88, .dup, 1, 0, 0), (89, .getfield 105, 3, 9, 5), (92, .iconst 1, 1, 0, 0), (93, .iadd, 1, 0, 0), (94, .putfield 105, 3, 9, 5), (97, .aload_n 0, 1, 0, 0), (98, .iconst 0, 1, 0, 0), (99, .putfield 108, 3, 9, 6), (102, .return_, 1, 0, 0)], [], 0, 0)
def zX10_undo : zI := (yX10_undo, cX10_undo, 2, (some .int), [(0, .aload_n 0, 1, 0, 0), (1, .aload_n 0, 1, 0, 0), (2, .getfield 105, 3, 9, 5), (5, .ifCond .le 7, 3, 0, 0), (8, .iconst 0, 1, 0, 0), (9, .goto 4, 3, 0, 0), (12, .iconst 1, 1, 0, 0), (13, .putfield 63, 3, 9, 0), (16, .aload_n 0, 1, 0, 0), (17, .getfield 63, 3, 9, 0), (20, .ifCond .le 5, 3, 0, 0), (23, .iconst 0, 1, 0, 0), (24, .ireturn, 1, 0, 0), (25, .aload_n 0, 1, 0, 0), (26, .dup, 1, 0, 0), (27, .getfield 105, 3, 9, 5), (30, .iconst 1, 1, 0, 0), (31, .isub, 1, 0, 0), (32, .putfield 105, 3, 9, 5), (35, .iconst 0, 1, 0, 0), (36, .istore_n 1, 1, 0, 0), (37, .iload_n 1, 1, 0, 0), (38, .sipush 3289, 3, 0, 0), (41, .if_icmp .ge 51, 3, 0, 0), (44, .aload_n 0, 1, 0, 0), (45, .getfield 20, 3, 9, 4), (48, .sipush 3289, 3, 0, 0), (51, .aload_n 0, 1, 0, 0), (52, .getfield 108, 3, 9, 6), (55, .imul, 1, 0, 0), (56, .iload_n 1, 1, 0, 0), (57, .iadd, 1, 0, 0), (58, .aload_n 0, 1, 0, 0), (59, .getfield 7, 3, 9, 1), (62, .iload_n 1, 1, 0, 0), (63, .iaload, 1, 0, 0), (64, .iastore, 1, 0, 0), (65, .aload_n 0, 1, 0, 0), (66, .getfield 7, 3, 9, 1), (69, .iload_n 1, 1, 0, 0), (70, .aload_n 0, 1, 0, 0), (71, .getfield 17, 3, 9, 3), (74, .sipush 3289, 3, 0, 0), (77, .aload_n 0, 1, 0, 0), (78, .getfield 105, 3, 9, 5), (81, .imul, 1, 0, 0), (82, .iload_n 1, 1, 0, 0), (83, .iadd, 1, 0, 0), (84, .iaload, 1, 0, 0), (85, .iastore, 1, 0, 0), (86, .iinc 1 1, 3, 0, 0), (89, .goto (-52), 3, 0, 0), (92, .aload_n 0, 1, 0, 0), (93, .dup, 1, 0, 0), (94, .getfield 108, 3, 9, 6), (97, .iconst 1, 1, 0, 0), (98, .iadd, 1, 0, 0), (99, .putfield 108, 3, 9, 6), (102, .aload_n 0, 1, 0, 0), (103, .getfield 105, 3, 9, 5), (106, .ireturn, 1, 0, 0)], [], 0, 0)
def zX10_redo : zI := (yX10_redo, cX10_redo, 2, (some .int), [(0, .aload_n 0, 1, 0, 0), (1, .aload_n 0, 1, 0, 0), (2, .getfield 108, 3, 9, 6), (5, .ifCond .le 7, 3, 0, 0), (8, .iconst 0, 1, 0, 0), (9, .goto 4, 3, 0, 0), (12, .iconst 1, 1, 0, 0), (13, .putfield 63, 3, 9, 0), (16, .aload_n 0, 1, 0, 0), (17, .getfield 63, 3, 9, 0), (20, .ifCond .le 5, 3, 0, 0), (23, .iconst 0, 1, 0, 0), (24, .ireturn, 1, 0, 0), (25, .aload_n 0, 1, 0, 0), (26, .dup, 1, 0, 0), (27, .getfield 108, 3, 9, 6), (30, .iconst 1, 1, 0, 0), (31, .isub, 1, 0, 0), (32, .putfield 108, 3, 9, 6), (35, .iconst 0, 1, 0, 0), (36, .istore_n 1, 1, 0, 0), (37, .iload_n 1, 1, 0, 0), (38, .sipush 3289, 3, 0, 0), (41, .if_icmp .ge 51, 3, 0, 0), (44, .aload_n 0, 1, 0, 0), (45, .getfield 17, 3, 9, 3), (48, .sipush 3289, 3, 0, 0), (51, .aload_n 0, 1, 0, 0), (52, .getfield 105, 3, 9, 5), (55, .imul, 1, 0, 0), (56, .iload_n 1, 1, 0, 0), (57, .iadd, 1, 0, 0), (58, .aload_n 0, 1, 0, 0), (59, .getfield 7, 3, 9, 1), (62, .iload_n 1, 1, 0, 0), (63, .iaload, 1, 0, 0), (64, .iastore, 1, 0, 0), (65, .aload_n 0, 1, 0, 0), (66, .getfield 7, 3, 9, 1), (69, .iload_n 1, 1, 0, 0), (70, .aload_n 0, 1, 0, 0), (71, .getfield 20, 3, 9, 4), (74, .sipush 3289, 3, 0, 0), (77, .aload_n 0, 1, 0, 0), (78, .getfield 108, 3, 9, 6), (81, .imul, 1, 0, 0), (82, .iload_n 1, 1, 0, 0), (83, .iadd, 1, 0, 0), (84, .iaload, 1, 0, 0), (85, .iastore, 1, 0, 0), (86, .iinc 1 1, 3, 0, 0), (89, .goto (-52), 3, 0, 0), (92, .aload_n 0, 1, 0, 0), (93, .dup, 1, 0, 0), (94, .getfield 105, 3, 9, 5), (97, .iconst 1, 1, 0, 0), (98, .iadd, 1, 0, 0), (99, .putfield 105, 3, 9, 5), (102, .aload_n 0, 1, 0, 0), (103, .getfield 108, 3, 9, 6), (106, .ireturn, 1, 0, 0)], [], 0, 0)
def zX10_append : zI := (yX10_append, cX10_append, 2, (some .int), [(0, .aload_n 0, 1, 0, 0), (1, .iload_n 1, 1, 0, 0), (2, .bipush 32, 2, 0, 0), (4, .bipush 126, 2, 0, 0), (6, .invokestatic 70, 3, 161, 3), (9, .ifCond .ne 7, 3, 0, 0), (12, .iconst 1, 1, 0, 0), (13, .goto 17, 3, 0, 0), (16, .aload_n 0, 1, 0, 0), (17, .getfield 111, 3, 9, 11), (20, .bipush 120, 2, 0, 0), (22, .if_icmp .ne 7, 3, 0, 0), (25, .iconst 2, 1, 0, 0), (26, .goto 4, 3, 0, 0), (29, .iconst 0, 1, 0, 0), (30, .putfield 63, 3, 9, 0), (33, .aload_n 0, 1, 0, 0), (34, .getfield 63, 3, 9, 0), (37, .ifCond .le 5, 3, 0, 0), (40, .iconst 0, 1, 0, 0), (41, .ireturn, 1, 0, 0), (42, .aload_n 0, 1, 0, 0), (43, .getfield 33, 3, 9, 12), (46, .aload_n 0, 1, 0, 0), (47, .getfield 111, 3, 9, 11), (50, .iload_n 1, 1, 0, 0), (51, .iastore, 1, 0, 0), (52, .aload_n 0, 1, 0, 0), (53, .dup, 1, 0, 0), (54, .getfield 111, 3, 9, 11), (57, .iconst 1, 1, 0, 0), (58, .iadd, 1, 0, 0), (59, .putfield 111, 3, 9, 11), (62, .aload_n 0, 1, 0, 0), (63, .getfield 111, 3, 9, 11), (66, .ireturn, 1, 0, 0)], [], 1, 22)
def zX10_clearInput : zI := (yX10_clearInput, cX10_clearInput, 2, (some .int), [(0, .aload_n 0, 1, 0, 0), (1, .iconst 0, 1, 0, 0), (2, .putfield 63, 3, 9, 0), (5, .aload_n 0, 1, 0, 0), (6, .getfield 111, 3, 9, 11), (9, .istore_n 1, 1, 0, 0), (10, .aload_n 0, 1, 0, 0), (11, .iconst 0, 1, 0, 0), (12, .putfield 111, 3, 9, 11), (15, .iload_n 1, 1, 0, 0), (16, .ireturn, 1, 0, 0)], [], 0, 0)
def zX10_isFigure : zI := (yX10_isFigure, cX10_isFigure, 1, (some .boolean), [(0, .iload_n 0, 1, 0, 0), (1, .bipush 48, 2, 0, 0), (3, .bipush 57, 2, 0, 0), (5, .invokestatic 70, 3, 161, 3), (8, .ireturn, 1, 0, 0)], [], 1, 22)
def zX10_isSign : zI := (yX10_isSign, cX10_isSign, 2, (some .boolean), [(0, .iload_n 0, 1, 0, 0), (1, .bipush 46, 2, 0, 0), (3, .if_icmp .eq 45, 3, 0, 0), (6, .iload_n 0, 1, 0, 0), (7, .bipush 44, 2, 0, 0), (9, .if_icmp .eq 39, 3, 0, 0), (12, .iload_n 0, 1, 0, 0), (13, .bipush 45, 2, 0, 0), (15, .if_icmp .eq 33, 3, 0, 0), (18, .iload_n 0, 1, 0, 0), (19, .bipush 43, 2, 0, 0), (21, .if_icmp .eq 27, 3, 0, 0), (24, .iload_n 0, 1, 0, 0), (25, .bipush 58, 2, 0, 0), (27, .if_icmp .eq 21, 3, 0, 0), (30, .iload_n 0, 1, 0, 0), (31, .bipush 37, 2, 0, 0), (33, .if_icmp .eq 15, 3, 0, 0), (36, .iload_n 0, 1, 0, 0), (37, .bipush 40, 2, 0, 0), (39, .if_icmp .eq 9, 3, 0, 0), (42, .iload_n 0, 1, 0, 0), (43, .bipush 41, 2, 0, 0), (45, .if_icmp .ne 7, 3, 0, 0), (48, .iconst 1, 1, 0, 0), (49, .goto 4, 3, 0, 0), (52, .iconst 0, 1, 0, 0), (53, .istore_n 1, 1, 0, 0), (54, .iload_n 0, 1, 0, 0), (55, .bipush 97, 2, 0, 0), (57, .bipush 122, 2, 0, 0), (59, .invokestatic 70, 3, 161, 3), (62, .ifCond .ne 31, 3, 0, 0), (65, .iload_n 0, 1, 0, 0), (66, .bipush 65, 2, 0, 0), (68, .bipush 90, 2, 0, 0), (70, .invokestatic 70, 3, 161, 3), (73, .ifCond .ne 20, 3, 0, 0), (76, .iload_n 0, 1, 0, 0), (77, .invokestatic 114, 3, 182, 1), (80, .ifCond .ne 13, 3, 0, 0), (83, .iload_n 0, 1, 0, 0), (84, .bipush 32, 2, 0, 0), (86, .if_icmp .eq 7, 3, 0, 0), (89, .iload_n 1, 1, 0, 0), (90, .ifCond .eq 7, 3, 0, 0), (93, .iconst 1, 1, 0, 0), (94, .goto 4, 3, 0, 0), (97, .iconst 0, 1, 0, 0), (98, .ireturn, 1, 0, 0)], [], 2, 42)
def zX10_rightLength : zI := (yX10_rightLength, cX10_rightLength, 10, (some .int), [(0, .iconst 0, 1, 0, 0), (1, .istore_n 2, 1, 0, 0), (2, .iconst 0, 1, 0, 0), (3, .istore_n 3, 1, 0, 0), (4, .iconst 0, 1, 0, 0), (5, .istore 4, 2, 0, 0), (7, .iconst 0, 1, 0, 0), (8, .istore 5, 2, 0, 0), (10, .iconst 1, 1, 0, 0), (11, .istore 6, 2, 0, 0), (13, .iload 5, 2, 0, 0), (15, .aload_n 0, 1, 0, 0), (16, .getfield 111, 3, 9, 11), (19, .if_icmp .ge 171, 3, 0, 0), (22, .iload 6, 2, 0, 0), (24, .ifCond .eq 166, 3, 0, 0), (27, .aload_n 0, 1, 0, 0), (28, .getfield 33, 3, 9, 12), (31, .iload 5, 2, 0, 0), (33, .iaload, 1, 0, 0), (34, .istore 7, 2, 0, 0), (36, .iload 7, 2, 0, 0), (38, .bipush 124, 2, 0, 0), (40, .if_icmp .ne 17, 3, 0, 0), (43, .iload_n 1, 1, 0, 0), (44, .ifCond .le 13, 3, 0, 0), (47, .iload_n 3, 1, 0, 0), (48, .bipush 7, 2, 0, 0), (50, .if_icmp .ge 7, 3, 0, 0), (53, .iconst 1, 1, 0, 0), (54, .goto 4, 3, 0, 0), (57, .iconst 0, 1, 0, 0), (58, .istore 8, 2, 0, 0), (60, .iload 7, 2, 0, 0), (62, .bipush 47, 2, 0, 0), (64, .if_icmp .ne 19, 3, 0, 0), (67, .iload_n 1, 1, 0, 0), (68, .iconst 1, 1, 0, 0), (69, .if_icmp .le 14, 3, 0, 0), (72, .iload 4, 2, 0, 0), (74, .bipush 23, 2, 0, 0), (76, .if_icmp .ge 7, 3, 0, 0), (79, .iconst 1, 1, 0, 0), (80, .goto 4, 3, 0, 0), (83, .iconst 0, 1, 0, 0), (84, .istore 9, 2, 0, 0), (86, .iload 8, 2, 0, 0), (88, .ifCond .ne 22, 3, 0, 0), (91, .iload 9, 2, 0, 0), (93, .ifCond .ne 17, 3, 0, 0), (96, .iload 7, 2, 0, 0), (98, .invokestatic 117, 3, 183, 1), (101, .ifCond .eq 13, 3, 0, 0), (104, .iload_n 2, 1, 0, 0), (105, .bipush 16, 2, 0, 0), (107, .if_icmp .ge 7, 3, 0, 0), (110, .iconst 1, 1, 0, 0), (111, .goto 4, 3, 0, 0), (114, .iconst 0, 1, 0, 0), (115, .istore 6, 2, 0, 0), (117, .iload 8, 2, 0, 0), (119, .ifCond .ne 8, 3, 0, 0), (122, .iload 9, 2, 0, 0), (124, .ifCond .eq 7, 3, 0, 0), (127, .iconst 0, 1, 0, 0), (128, .goto 6, 3, 0, 0), (131, .iload_n 2, 1, 0, 0), (132, .iconst 1, 1, 0, 0), (133, .iadd, 1, 0, 0), (134, .istore_n 2, 1, 0, 0), (135, .iload 9, 2, 0, 0), (137, .ifCond .eq 7, 3, 0, 0), (140, .iconst 0, 1, 0, 0), (141, .goto 15, 3, 0, 0), (144, .iload 8, 2, 0, 0), (146, .ifCond .eq 9, 3, 0, 0), (149, .iload_n 3, 1, 0, 0), (150, .iconst 1, 1, 0, 0), (151, .iadd, 1, 0, 0), (152, .goto 4, 3, 0, 0), (155, .iload_n 3, 1, 0, 0), (156, .istore_n 3, 1, 0, 0), (157, .iload 4, 2, 0, 0), (159, .iload 9, 2, 0, 0), (161, .ifCond .eq 7, 3, 0, 0), (164, .iconst 1, 1, 0, 0), (165, .goto 4, 3, 0, 0), (168, .iconst 0, 1, 0, 0), (169, .iadd, 1, 0, 0), (170, .istore 4, 2, 0, 0), (172, .iload 5, 2, 0, 0), (174, .iload 6, 2, 0, 0), (176, .ifCond .eq 7, 3, 0, 0), (179, .iconst 1, 1, 0, 0), (180, .goto 4, 3, 0, 0), (183, .iconst 0, 1, 0, 0), (184, .iadd, 1, 0, 0), (185, .istore 5, 2, 0, 0), (187, .goto (-174), 3, 0, 0), (190, .iload 5, 2, 0, 0), (192, .ireturn, 1, 0, 0)], [], 3, 63)
def zX10_isRight : zI := (yX10_isRight, cX10_isRight, 2, (some .boolean), [(0, .aload_n 0, 1, 0, 0), (1, .iload_n 1, 1, 0, 0), (2, .invokevirtual 120, 3, 184, 1), (5, .aload_n 0, 1, 0, 0), (6, .getfield 111, 3, 9, 11), (9, .if_icmp .ne 7, 3, 0, 0), (12, .iconst 1, 1, 0, 0), (13, .goto 4, 3, 0, 0), (16, .iconst 0, 1, 0, 0), (17, .ireturn, 1, 0, 0)], [], 4, 92)
def zX10_firstError : zI := (yX10_firstError, cX10_firstError, 2, (some .int), [(0, .aload_n 0, 1, 0, 0), (1, .iload_n 1, 1, 0, 0), (2, .iconst 0, 1, 0, 0), (3, .iconst 2, 1, 0, 0), (4, .invokestatic 70, 3, 161, 3), (7, .ifCond .eq 7, 3, 0, 0), (10, .iconst 0, 1, 0, 0), (11, .goto 4, 3, 0, 0), (14, .iconst 1, 1, 0, 0), (15, .putfield 63, 3, 9, 0), (18, .aload_n 0, 1, 0, 0), (19, .getfield 63, 3, 9, 0), (22, .ifCond .le 7, 3, 0, 0), (25, .iconst 0, 1, 0, 0), (26, .goto 8, 3, 0, 0), (29, .aload_n 0, 1, 0, 0), (30, .iload_n 1, 1, 0, 0), (31, .invokevirtual 120, 3, 184, 1), (34, .ireturn, 1, 0, 0)], [], 4, 92)
def zX10_layBuffer : zI := (yX10_layBuffer, cX10_layBuffer, 5, none, [(0, .iload_n 1, 1, 0, 0), (1, .istore_n 2, 1, 0, 0), (2, .iconst 0, 1, 0, 0), (3, .istore_n 3, 1, 0, 0), (4, .iload_n 3, 1, 0, 0), (5, .aload_n 0, 1, 0, 0), (6, .getfield 111, 3, 9, 11), (9, .if_icmp .ge 137, 3, 0, 0), (12, .aload_n 0, 1, 0, 0), (13, .iload_n 2, 1, 0, 0), (14, .invokevirtual 78, 3, 162, 1), (17, .iconst 1, 1, 0, 0), (18, .isub, 1, 0, 0), (19, .istore 4, 2, 0, 0), (21, .aload_n 0, 1, 0, 0), (22, .getfield 33, 3, 9, 12), (25, .iload_n 3, 1, 0, 0), (26, .iaload, 1, 0, 0), (27, .bipush 124, 2, 0, 0), (29, .if_icmp .ne 28, 3, 0, 0), (32, .aload_n 0, 1, 0, 0), (33, .getfield 7, 3, 9, 1), (36, .iconst 1, 1, 0, 0), (37, .iload_n 2, 1, 0, 0), (38, .iadd, 1, 0, 0), (39, .dup2, 1, 0, 0), (40, .iaload, 1, 0, 0), (41, .iconst 1, 1, 0, 0), (42, .iadd, 1, 0, 0), (43, .iastore, 1, 0, 0), (44, .aload_n 0, 1, 0, 0), (45, .iload_n 2, 1, 0, 0), (46, .iload 4, 2, 0, 0), (48, .iconst 1, 1, 0, 0), (49, .iadd, 1, 0, 0), (50, .iconst 0, 1, 0, 0), (51, .invokevirtual 90, 3, 164, 3), (54, .goto 86, 3, 0, 0), (57, .aload_n 0, 1, 0, 0), (58, .getfield 33, 3, 9, 12), (61, .iload_n 3, 1, 0, 0), (62, .iaload, 1, 0, 0), (63, .bipush 47, 2, 0, 0), (65, .if_icmp .ne 35, 3, 0, 0), (68, .iinc 2 1, 3, 0, 0), (71, .aload_n 0, 1, 0, 0), (72, .getfield 7, 3, 9, 1), (75, .iconst 0, 1, 0, 0), (76, .dup2, 1, 0, 0), (77, .iaload, 1, 0, 0), (78, .iconst 1, 1, 0, 0), (79, .iadd, 1, 0, 0), (80, .iastore, 1, 0, 0), (81, .aload_n 0, 1, 0, 0), (82, .getfield 7, 3, 9, 1), (85, .iconst 1, 1, 0, 0), (86, .iload_n 2, 1, 0, 0), (87, .iadd, 1, 0, 0), (88, .iconst 1, 1, 0, 0), (89, .iastore, 1, 0, 0), (90, .aload_n 0, 1, 0, 0), (91, .iload_n 2, 1, 0, 0), (92, .iconst 0, 1, 0, 0), (93, .iconst 0, 1, 0, 0), (94, .invokevirtual 90, 3, 164, 3), (97, .goto 43, 3, 0, 0), (100, .aload_n 0, 1, 0, 0), (101, .getfield 7, 3, 9, 1), (104, .iload_n 2, 1, 0, 0), (105, .iload 4, 2, 0, 0), (107, .aload_n 0, 1, 0, 0), (108, .iload_n 2, 1, 0, 0), (109, .iload 4, 2, 0, 0), (111, .invokevirtual 86, 3, 163, 2), (114, .invokestatic 66, 3, 165, 3), (117, .aload_n 0, 1, 0, 0), (118, .getfield 33, 3, 9, 12), (121, .iload_n 3, 1, 0, 0), (122, .iaload, 1, 0, 0), (123, .iastore, 1, 0, 0), (124, .aload_n 0, 1, 0, 0), (125, .iload_n 2, 1, 0, 0), (126, .iload 4, 2, 0, 0), (128, .aload_n 0, 1, 0, 0), (129, .iload_n 2, 1, 0, 0), (130, .iload 4, 2, 0, 0), (132, .invokevirtual 86, 3, 163, 2), (135, .iconst 1, 1, 0, 0), (136, .iadd, 1, 0, 0), (137, .invokevirtual 90, 3, 164, 3), (140, .iinc 3 1, 3, 0, 0), (143, .goto (-139), 3, 0, 0), (146, .aload_n 0, 1, 0, 0), (147, .iconst 0, 1, 0, 0), (148, .putfield 111, 3, 9, 11), (151, .return_, 1, 0, 0)], [], 1, 23)
def zX10_load : zI := (yX10_load, cX10_load, 1, (some .int), [(0, .aload_n 0, 1, 0, 0), (1, .aload_n 0, 1, 0, 0), (2, .iconst 2, 1, 0, 0), (3, .invokevirtual 123, 3, 185, 1), (6, .ifCond .eq 7, 3, 0, 0), (9, .iconst 0, 1, 0, 0), (10, .goto 4, 3, 0, 0), (13, .iconst 1, 1, 0, 0), (14, .putfield 63, 3, 9, 0), (17, .aload_n 0, 1, 0, 0), (18, .getfield 63, 3, 9, 0), (21, .ifCond .le 5, 3, 0, 0), (24, .iconst 0, 1, 0, 0), (25, .ireturn, 1, 0, 0), (26, .aload_n 0, 1, 0, 0), (27, .invokevirtual 126, 3, 177, 0), (30, .aload_n 0, 1, 0, 0), (31, .getfield 7, 3, 9, 1), (34, .iconst 0, 1, 0, 0), (35, .iconst 1, 1, 0, 0), (36, .iastore, 1, 0, 0), (37, .aload_n 0, 1, 0, 0), (38, .getfield 7, 3, 9, 1), (41, .iconst 1, 1, 0, 0), (42, .iconst 1, 1, 0, 0), (43, .iastore, 1, 0, 0), (44, .aload_n 0, 1, 0, 0), (45, .iconst 0, 1, 0, 0), (46, .iconst 0, 1, 0, 0), (47, .iconst 0, 1, 0, 0), (48, .invokevirtual 90, 3, 164, 3), (51, .aload_n 0, 1, 0, 0), (52, .iconst 0, 1, 0, 0), (53, .invokevirtual 129, 3, 187, 1), (56, .aload_n 0, 1, 0, 0), (57, .getfield 7, 3, 9, 1), (60, .iconst 0, 1, 0, 0), (61, .iaload, 1, 0, 0), (62, .ireturn, 1, 0, 0)], [], 5, 113)
def zX10_isCode : zI := (yX10_isCode, cX10_isCode, 2, (some .boolean), [(0, .iload_n 1, 1, 0, 0), (1, .bipush 9, 2, 0, 0), (3, .if_icmp .eq 16, 3, 0, 0), (6, .iload_n 1, 1, 0, 0), (7, .bipush 10, 2, 0, 0), (9, .if_icmp .eq 10, 3, 0, 0), (12, .iload_n 1, 1, 0, 0), (13, .invokestatic 117, 3, 183, 1), (16, .ifCond .eq 7, 3, 0, 0), (19, .iconst 1, 1, 0, 0), (20, .goto 4, 3, 0, 0), (23, .iconst 0, 1, 0, 0), (24, .ireturn, 1, 0, 0)], [], 3, 63)
def zX10_typing : zI := (yX10_typing, cX10_typing, 6, (some .int), [(0, .aload_n 0, 1, 0, 0), (1, .iload_n 1, 1, 0, 0), (2, .iload_n 2, 1, 0, 0), (3, .iload_n 3, 1, 0, 0), (4, .invokevirtual 133, 3, 169, 3), (7, .ifCond .ne 5, 3, 0, 0), (10, .iconst 1, 1, 0, 0), (11, .ireturn, 1, 0, 0), (12, .aload_n 0, 1, 0, 0), (13, .iload 4, 2, 0, 0), (15, .invokevirtual 136, 3, 189, 1), (18, .ifCond .ne 5, 3, 0, 0), (21, .iconst 2, 1, 0, 0), (22, .ireturn, 1, 0, 0), (23, .iload 4, 2, 0, 0), (25, .bipush 9, 2, 0, 0), (27, .if_icmp .ne 21, 3, 0, 0), (30, .aload_n 0, 1, 0, 0), (31, .iload_n 1, 1, 0, 0), (32, .invokevirtual 78, 3, 162, 1), (35, .bipush 8, 2, 0, 0), (37, .if_icmp .ge 7, 3, 0, 0), (40, .iconst 1, 1, 0, 0), (41, .goto 49, 3, 0, 0), (44, .iconst 0, 1, 0, 0), (45, .goto 45, 3, 0, 0), (48, .iload 4, 2, 0, 0), (50, .bipush 10, 2, 0, 0), (52, .if_icmp .ne 22, 3, 0, 0), (55, .aload_n 0, 1, 0, 0), (56, .getfield 7, 3, 9, 1), (59, .iconst 0, 1, 0, 0), (60, .iaload, 1, 0, 0), (61, .bipush 24, 2, 0, 0), (63, .if_icmp .ge 7, 3, 0, 0), (66, .iconst 1, 1, 0, 0), (67, .goto 23, 3, 0, 0), (70, .iconst 0, 1, 0, 0), (71, .goto 19, 3, 0, 0), (74, .aload_n 0, 1, 0, 0), (75, .iload_n 1, 1, 0, 0), (76, .iload_n 2, 1, 0, 0), (77, .invokevirtual 86, 3, 163, 2), (80, .bipush 16, 2, 0, 0), (82, .if_icmp .ge 7, 3, 0, 0), (85, .iconst 1, 1, 0, 0), (86, .goto 4, 3, 0, 0), (89, .iconst 0, 1, 0, 0), (90, .istore 5, 2, 0, 0), (92, .iload 5, 2, 0, 0), (94, .ifCond .eq 7, 3, 0, 0), (97, .iconst 0, 1, 0, 0), (98, .goto 4, 3, 0, 0), (101, .iconst 3, 1, 0, 0), (102, .ireturn, 1, 0, 0)], [], 4, 88)
def zX10_putSign : zI := (yX10_putSign, cX10_putSign, 6, (some .int), [(0, .aload_n 0, 1, 0, 0), (1, .iload_n 1, 1, 0, 0), (2, .iload_n 2, 1, 0, 0), (3, .invokevirtual 86, 3, 163, 2), (6, .istore 5, 2, 0, 0), (8, .iload 5, 2, 0, 0), (10, .iload_n 3, 1, 0, 0), (11, .if_icmp .le 31, 3, 0, 0), (14, .aload_n 0, 1, 0, 0), (15, .getfield 7, 3, 9, 1), (18, .iload_n 1, 1, 0, 0), (19, .iload_n 2, 1, 0, 0), (20, .iload 5, 2, 0, 0), (22, .invokestatic 66, 3, 165, 3), (25, .aload_n 0, 1, 0, 0), (26, .iload_n 1, 1, 0, 0), (27, .iload_n 2, 1, 0, 0), (28, .iload 5, 2, 0, 0), (30, .iconst 1, 1, 0, 0), (31, .isub, 1, 0, 0), (32, .invokevirtual 94, 3, 166, 3), (35, .iastore, 1, 0, 0), (36, .iinc 5 (-1), 3, 0, 0), (39, .goto (-31), 3, 0, 0), (42, .aload_n 0, 1, 0, 0), (43, .getfield 7, 3, 9, 1), (46, .iload_n 1, 1, 0, 0), (47, .iload_n 2, 1, 0, 0), (48, .iload_n 3, 1, 0, 0), (49, .invokestatic 66, 3, 165, 3), (52, .iload 4, 2, 0, 0), (54, .iastore, 1, 0, 0), (55, .aload_n 0, 1, 0, 0), (56, .iload_n 1, 1, 0, 0), (57, .iload_n 2, 1, 0, 0), (58, .aload_n 0, 1, 0, 0), (59, .iload_n 1, 1, 0, 0), (60, .iload_n 2, 1, 0, 0), (61, .invokevirtual 86, 3, 163, 2), (64, .iconst 1, 1, 0, 0), (65, .iadd, 1, 0, 0), (66, .invokevirtual 90, 3, 164, 3), (69, .aload_n 0, 1, 0, 0), (70, .iload_n 1, 1, 0, 0), (71, .iload_n 2, 1, 0, 0), (72, .invokevirtual 86, 3, 163, 2), (75, .ireturn, 1, 0, 0)], [], 2, 45)
def zX10_putTab : zI := (yX10_putTab, cX10_putTab, 4, (some .int), [(0, .aload_n 0, 1, 0, 0), (1, .iload_n 1, 1, 0, 0), (2, .iload_n 2, 1, 0, 0), (3, .iconst 1, 1, 0, 0), (4, .iadd, 1, 0, 0), (5, .invokevirtual 139, 3, 174, 2), (8, .aload_n 0, 1, 0, 0), (9, .iload_n 1, 1, 0, 0), (10, .iload_n 2, 1, 0, 0), (11, .iload_n 3, 1, 0, 0), (12, .iload_n 1, 1, 0, 0), (13, .iload_n 2, 1, 0, 0), (14, .iconst 1, 1, 0, 0), (15, .iadd, 1, 0, 0), (16, .invokevirtual 142, 3, 176, 5), (19, .aload_n 0, 1, 0, 0), (20, .iload_n 1, 1, 0, 0), (21, .invokevirtual 78, 3, 162, 1), (24, .ireturn, 1, 0, 0)], [], 4, 93)
def zX10_putEnd : zI := (yX10_putEnd, cX10_putEnd, 5, (some .int), [(0, .aload_n 0, 1, 0, 0), (1, .iload_n 1, 1, 0, 0), (2, .iconst 1, 1, 0, 0), (3, .iadd, 1, 0, 0), (4, .invokevirtual 146, 3, 172, 1), (7, .aload_n 0, 1, 0, 0), (8, .iload_n 1, 1, 0, 0), (9, .iload_n 2, 1, 0, 0), (10, .iload_n 3, 1, 0, 0), (11, .iload_n 1, 1, 0, 0), (12, .iconst 1, 1, 0, 0), (13, .iadd, 1, 0, 0), (14, .iconst 0, 1, 0, 0), (15, .invokevirtual 142, 3, 176, 5), (18, .iload_n 2, 1, 0, 0), (19, .iconst 1, 1, 0, 0), (20, .iadd, 1, 0, 0), (21, .istore 4, 2, 0, 0), (23, .iload 4, 2, 0, 0), (25, .aload_n 0, 1, 0, 0), (26, .iload_n 1, 1, 0, 0), (27, .invokevirtual 78, 3, 162, 1), (30, .if_icmp .ge 23, 3, 0, 0), (33, .aload_n 0, 1, 0, 0), (34, .iload_n 1, 1, 0, 0), (35, .iconst 1, 1, 0, 0), (36, .iadd, 1, 0, 0), (37, .iload 4, 2, 0, 0), (39, .iload_n 2, 1, 0, 0), (40, .isub, 1, 0, 0), (41, .iload_n 1, 1, 0, 0), (42, .iload 4, 2, 0, 0), (44, .invokevirtual 97, 3, 170, 4), (47, .iinc 4 1, 3, 0, 0), (50, .goto (-27), 3, 0, 0), (53, .aload_n 0, 1, 0, 0), (54, .getfield 7, 3, 9, 1), (57, .iconst 2, 1, 0, 0), (58, .iload_n 1, 1, 0, 0), (59, .iadd, 1, 0, 0), (60, .aload_n 0, 1, 0, 0), (61, .iload_n 1, 1, 0, 0), (62, .invokevirtual 78, 3, 162, 1), (65, .iload_n 2, 1, 0, 0), (66, .isub, 1, 0, 0), (67, .iastore, 1, 0, 0), (68, .aload_n 0, 1, 0, 0), (69, .getfield 7, 3, 9, 1), (72, .iconst 1, 1, 0, 0), (73, .iload_n 1, 1, 0, 0), (74, .iadd, 1, 0, 0), (75, .iload_n 2, 1, 0, 0), (76, .iconst 1, 1, 0, 0), (77, .iadd, 1, 0, 0), (78, .iastore, 1, 0, 0), (79, .aload_n 0, 1, 0, 0), (80, .getfield 7, 3, 9, 1), (83, .iconst 0, 1, 0, 0), (84, .iaload, 1, 0, 0), (85, .ireturn, 1, 0, 0)], [], 5, 115)
def zX10_put : zI := (yX10_put, cX10_put, 5, (some .int), [(0, .iload 4, 2, 0, 0), (2, .bipush 9, 2, 0, 0), (4, .if_icmp .ne 13, 3, 0, 0), (7, .aload_n 0, 1, 0, 0), (8, .iload_n 1, 1, 0, 0), (9, .iload_n 2, 1, 0, 0), (10, .iload_n 3, 1, 0, 0), (11, .invokevirtual 149, 3, 192, 3), (14, .goto 29, 3, 0, 0), (17, .iload 4, 2, 0, 0), (19, .bipush 10, 2, 0, 0), (21, .if_icmp .ne 13, 3, 0, 0), (24, .aload_n 0, 1, 0, 0), (25, .iload_n 1, 1, 0, 0), (26, .iload_n 2, 1, 0, 0), (27, .iload_n 3, 1, 0, 0), (28, .invokevirtual 152, 3, 193, 3), (31, .goto 12, 3, 0, 0), (34, .aload_n 0, 1, 0, 0), (35, .iload_n 1, 1, 0, 0), (36, .iload_n 2, 1, 0, 0), (37, .iload_n 3, 1, 0, 0), (38, .iload 4, 2, 0, 0), (40, .invokevirtual 155, 3, 191, 4), (43, .ireturn, 1, 0, 0)], [], 6, 139)
def zX10_type : zI := (yX10_type, cX10_type, 5, (some .int), [(0, .aload_n 0, 1, 0, 0), (1, .aload_n 0, 1, 0, 0), (2, .iload_n 1, 1, 0, 0), (3, .iload_n 2, 1, 0, 0), (4, .iload_n 3, 1, 0, 0), (5, .iload 4, 2, 0, 0), (7, .invokevirtual 159, 3, 190, 4), (10, .putfield 63, 3, 9, 0), (13, .aload_n 0, 1, 0, 0), (14, .getfield 63, 3, 9, 0), (17, .ifCond .le 5, 3, 0, 0), (20, .iconst 0, 1, 0, 0), (21, .ireturn, 1, 0, 0), (22, .aload_n 0, 1, 0, 0), (23, .invokevirtual 126, 3, 177, 0), (26, .aload_n 0, 1, 0, 0), (27, .iload_n 1, 1, 0, 0), (28, .iload_n 2, 1, 0, 0), (29, .iload_n 3, 1, 0, 0), (30, .iload 4, 2, 0, 0), (32, .invokevirtual 162, 3, 194, 4), (35, .ireturn, 1, 0, 0)], [], 7, 163)
def zX10_behind : zI := (yX10_behind, cX10_behind, 4, (some .int), [(0, .iload_n 3, 1, 0, 0), (1, .aload_n 0, 1, 0, 0), (2, .iload_n 1, 1, 0, 0), (3, .iload_n 2, 1, 0, 0), (4, .invokevirtual 86, 3, 163, 2), (7, .if_icmp .ge 13, 3, 0, 0), (10, .aload_n 0, 1, 0, 0), (11, .iload_n 1, 1, 0, 0), (12, .iload_n 2, 1, 0, 0), (13, .iload_n 3, 1, 0, 0), (14, .invokevirtual 94, 3, 166, 3), (17, .goto 37, 3, 0, 0), (20, .iload_n 2, 1, 0, 0), (21, .iconst 1, 1, 0, 0), (22, .iadd, 1, 0, 0), (23, .aload_n 0, 1, 0, 0), (24, .iload_n 1, 1, 0, 0), (25, .invokevirtual 78, 3, 162, 1), (28, .if_icmp .ge 8, 3, 0, 0), (31, .bipush 9, 2, 0, 0), (33, .goto 21, 3, 0, 0), (36, .iload_n 1, 1, 0, 0), (37, .iconst 1, 1, 0, 0), (38, .iadd, 1, 0, 0), (39, .aload_n 0, 1, 0, 0), (40, .getfield 7, 3, 9, 1), (43, .iconst 0, 1, 0, 0), (44, .iaload, 1, 0, 0), (45, .if_icmp .ge 8, 3, 0, 0), (48, .bipush 10, 2, 0, 0), (50, .goto 4, 3, 0, 0), (53, .iconst (-1), 1, 0, 0), (54, .ireturn, 1, 0, 0)], [], 2, 45)
def zX10_mayErase : zI := (yX10_mayErase, cX10_mayErase, 4, (some .boolean), [(0, .iload_n 3, 1, 0, 0), (1, .bipush 9, 2, 0, 0), (3, .if_icmp .ne 29, 3, 0, 0), (6, .aload_n 0, 1, 0, 0), (7, .iload_n 1, 1, 0, 0), (8, .iload_n 2, 1, 0, 0), (9, .invokevirtual 86, 3, 163, 2), (12, .aload_n 0, 1, 0, 0), (13, .iload_n 1, 1, 0, 0), (14, .iload_n 2, 1, 0, 0), (15, .iconst 1, 1, 0, 0), (16, .iadd, 1, 0, 0), (17, .invokevirtual 86, 3, 163, 2), (20, .iadd, 1, 0, 0), (21, .bipush 16, 2, 0, 0), (23, .if_icmp .gt 7, 3, 0, 0), (26, .iconst 1, 1, 0, 0), (27, .goto 4, 3, 0, 0), (30, .iconst 0, 1, 0, 0), (31, .ireturn, 1, 0, 0), (32, .iload_n 3, 1, 0, 0), (33, .bipush 10, 2, 0, 0), (35, .if_icmp .ne 49, 3, 0, 0), (38, .aload_n 0, 1, 0, 0), (39, .iload_n 1, 1, 0, 0), (40, .iload_n 2, 1, 0, 0), (41, .invokevirtual 86, 3, 163, 2), (44, .aload_n 0, 1, 0, 0), (45, .iload_n 1, 1, 0, 0), (46, .iconst 1, 1, 0, 0), (47, .iadd, 1, 0, 0), (48, .iconst 0, 1, 0, 0), (49, .invokevirtual 86, 3, 163, 2), (52, .iadd, 1, 0, 0), (53, .bipush 16, 2, 0, 0), (55, .if_icmp .gt 27, 3, 0, 0), (58, .aload_n 0, 1, 0, 0), (59, .iload_n 1, 1, 0, 0), (60, .invokevirtual 78, 3, 162, 1), (63, .aload_n 0, 1, 0, 0), (64, .iload_n 1, 1, 0, 0), (65, .iconst 1, 1, 0, 0), (66, .iadd, 1, 0, 0), (67, .invokevirtual 78, 3, 162, 1), (70, .iadd, 1, 0, 0), (71, .iconst 1, 1, 0, 0), (72, .isub, 1, 0, 0), (73, .bipush 8, 2, 0, 0), (75, .if_icmp .gt 7, 3, 0, 0), (78, .iconst 1, 1, 0, 0), (79, .goto 4, 3, 0, 0), (82, .iconst 0, 1, 0, 0), (83, .ireturn, 1, 0, 0), (84, .iload_n 3, 1, 0, 0), (85, .iconst (-1), 1, 0, 0), (86, .if_icmp .eq 7, 3, 0, 0), (89, .iconst 1, 1, 0, 0), (90, .goto 4, 3, 0, 0), (93, .iconst 0, 1, 0, 0), (94, .ireturn, 1, 0, 0)], [], 1, 22)
def zX10_takeSign : zI := (yX10_takeSign, cX10_takeSign, 5, none, [(0, .iload_n 3, 1, 0, 0), (1, .istore 4, 2, 0, 0), (3, .iload 4, 2, 0, 0), (5, .iconst 1, 1, 0, 0), (6, .iadd, 1, 0, 0), (7, .aload_n 0, 1, 0, 0), (8, .iload_n 1, 1, 0, 0), (9, .iload_n 2, 1, 0, 0), (10, .invokevirtual 86, 3, 163, 2), (13, .if_icmp .ge 31, 3, 0, 0), (16, .aload_n 0, 1, 0, 0), (17, .getfield 7, 3, 9, 1), (20, .iload_n 1, 1, 0, 0), (21, .iload_n 2, 1, 0, 0), (22, .iload 4, 2, 0, 0), (24, .invokestatic 66, 3, 165, 3), (27, .aload_n 0, 1, 0, 0), (28, .iload_n 1, 1, 0, 0), (29, .iload_n 2, 1, 0, 0), (30, .iload 4, 2, 0, 0), (32, .iconst 1, 1, 0, 0), (33, .iadd, 1, 0, 0), (34, .invokevirtual 94, 3, 166, 3), (37, .iastore, 1, 0, 0), (38, .iinc 4 1, 3, 0, 0), (41, .goto (-38), 3, 0, 0), (44, .aload_n 0, 1, 0, 0), (45, .iload_n 1, 1, 0, 0), (46, .iload_n 2, 1, 0, 0), (47, .aload_n 0, 1, 0, 0), (48, .iload_n 1, 1, 0, 0), (49, .iload_n 2, 1, 0, 0), (50, .invokevirtual 86, 3, 163, 2), (53, .iconst 1, 1, 0, 0), (54, .isub, 1, 0, 0), (55, .invokevirtual 90, 3, 164, 3), (58, .return_, 1, 0, 0)], [], 2, 45)
def zX10_takeEnd : zI := (yX10_takeEnd, cX10_takeEnd, 4, none, [(0, .aload_n 0, 1, 0, 0), (1, .iload_n 1, 1, 0, 0), (2, .iconst 1, 1, 0, 0), (3, .iadd, 1, 0, 0), (4, .iconst 0, 1, 0, 0), (5, .iconst 0, 1, 0, 0), (6, .iload_n 1, 1, 0, 0), (7, .iload_n 2, 1, 0, 0), (8, .invokevirtual 142, 3, 176, 5), (11, .iconst 1, 1, 0, 0), (12, .istore_n 3, 1, 0, 0), (13, .iload_n 3, 1, 0, 0), (14, .aload_n 0, 1, 0, 0), (15, .iload_n 1, 1, 0, 0), (16, .iconst 1, 1, 0, 0), (17, .iadd, 1, 0, 0), (18, .invokevirtual 78, 3, 162, 1), (21, .if_icmp .ge 21, 3, 0, 0), (24, .aload_n 0, 1, 0, 0), (25, .iload_n 1, 1, 0, 0), (26, .iload_n 2, 1, 0, 0), (27, .iload_n 3, 1, 0, 0), (28, .iadd, 1, 0, 0), (29, .iload_n 1, 1, 0, 0), (30, .iconst 1, 1, 0, 0), (31, .iadd, 1, 0, 0), (32, .iload_n 3, 1, 0, 0), (33, .invokevirtual 97, 3, 170, 4), (36, .iinc 3 1, 3, 0, 0), (39, .goto (-26), 3, 0, 0), (42, .aload_n 0, 1, 0, 0), (43, .getfield 7, 3, 9, 1), (46, .iconst 1, 1, 0, 0), (47, .iload_n 1, 1, 0, 0), (48, .iadd, 1, 0, 0), (49, .dup2, 1, 0, 0), (50, .iaload, 1, 0, 0), (51, .aload_n 0, 1, 0, 0), (52, .iload_n 1, 1, 0, 0), (53, .iconst 1, 1, 0, 0), (54, .iadd, 1, 0, 0), (55, .invokevirtual 78, 3, 162, 1), (58, .iconst 1, 1, 0, 0), (59, .isub, 1, 0, 0), (60, .iadd, 1, 0, 0), (61, .iastore, 1, 0, 0), (62, .aload_n 0, 1, 0, 0), (63, .iload_n 1, 1, 0, 0), (64, .iconst 1, 1, 0, 0), (65, .iadd, 1, 0, 0), (66, .invokevirtual 165, 3, 173, 1), (69, .return_, 1, 0, 0)], [], 5, 115)
def zX10_erase : zI := (yX10_erase, cX10_erase, 6, (some .int), [(0, .aload_n 0, 1, 0, 0), (1, .iload_n 1, 1, 0, 0), (2, .iload_n 2, 1, 0, 0), (3, .iload_n 3, 1, 0, 0), (4, .invokevirtual 133, 3, 169, 3), (7, .istore 4, 2, 0, 0), (9, .iload 4, 2, 0, 0), (11, .ifCond .eq 13, 3, 0, 0), (14, .aload_n 0, 1, 0, 0), (15, .iload_n 1, 1, 0, 0), (16, .iload_n 2, 1, 0, 0), (17, .iload_n 3, 1, 0, 0), (18, .invokevirtual 168, 3, 196, 3), (21, .goto 4, 3, 0, 0), (24, .iconst (-1), 1, 0, 0), (25, .istore 5, 2, 0, 0), (27, .aload_n 0, 1, 0, 0), (28, .iload 4, 2, 0, 0), (30, .ifCond .ne 7, 3, 0, 0), (33, .iconst 1, 1, 0, 0), (34, .goto 19, 3, 0, 0), (37, .aload_n 0, 1, 0, 0), (38, .iload_n 1, 1, 0, 0), (39, .iload_n 2, 1, 0, 0), (40, .iload 5, 2, 0, 0), (42, .invokevirtual 171, 3, 197, 3), (45, .ifCond .eq 7, 3, 0, 0), (48, .iconst 0, 1, 0, 0), (49, .goto 4, 3, 0, 0), (52, .iconst 2, 1, 0, 0), (53, .putfield 63, 3, 9, 0), (56, .aload_n 0, 1, 0, 0), (57, .getfield 63, 3, 9, 0), (60, .ifCond .le 5, 3, 0, 0), (63, .iconst 0, 1, 0, 0), (64, .ireturn, 1, 0, 0), (65, .aload_n 0, 1, 0, 0), (66, .invokevirtual 126, 3, 177, 0), (69, .iload 5, 2, 0, 0), (71, .bipush 9, 2, 0, 0), (73, .if_icmp .ne 25, 3, 0, 0), (76, .aload_n 0, 1, 0, 0), (77, .iload_n 1, 1, 0, 0), (78, .iload_n 2, 1, 0, 0), (79, .iconst 1, 1, 0, 0), (80, .iadd, 1, 0, 0), (81, .iconst 0, 1, 0, 0), (82, .iload_n 1, 1, 0, 0), (83, .iload_n 2, 1, 0, 0), (84, .invokevirtual 142, 3, 176, 5), (87, .aload_n 0, 1, 0, 0), (88, .iload_n 1, 1, 0, 0), (89, .iload_n 2, 1, 0, 0), (90, .iconst 1, 1, 0, 0), (91, .iadd, 1, 0, 0), (92, .invokevirtual 174, 3, 175, 2), (95, .goto 26, 3, 0, 0), (98, .iload 5, 2, 0, 0), (100, .bipush 10, 2, 0, 0), (102, .if_icmp .ne 12, 3, 0, 0), (105, .aload_n 0, 1, 0, 0), (106, .iload_n 1, 1, 0, 0), (107, .iload_n 2, 1, 0, 0), (108, .invokevirtual 177, 3, 199, 2), (111, .goto 10, 3, 0, 0), (114, .aload_n 0, 1, 0, 0), (115, .iload_n 1, 1, 0, 0), (116, .iload_n 2, 1, 0, 0), (117, .iload_n 3, 1, 0, 0), (118, .invokevirtual 180, 3, 198, 3), (121, .iload 5, 2, 0, 0), (123, .ireturn, 1, 0, 0)], [], 6, 138)
def zX10_setCell : zI := (yX10_setCell, cX10_setCell, 5, (some .int), [(0, .aload_n 0, 1, 0, 0), (1, .aload_n 0, 1, 0, 0), (2, .iload_n 1, 1, 0, 0), (3, .iload_n 2, 1, 0, 0), (4, .invokevirtual 82, 3, 168, 2), (7, .ifCond .ne 7, 3, 0, 0), (10, .iconst 1, 1, 0, 0), (11, .goto 16, 3, 0, 0), (14, .aload_n 0, 1, 0, 0), (15, .iconst 0, 1, 0, 0), (16, .invokevirtual 123, 3, 185, 1), (19, .ifCond .eq 7, 3, 0, 0), (22, .iconst 0, 1, 0, 0), (23, .goto 4, 3, 0, 0), (26, .iconst 2, 1, 0, 0), (27, .putfield 63, 3, 9, 0), (30, .aload_n 0, 1, 0, 0), (31, .getfield 63, 3, 9, 0), (34, .ifCond .le 5, 3, 0, 0), (37, .iconst 0, 1, 0, 0), (38, .ireturn, 1, 0, 0), (39, .aload_n 0, 1, 0, 0), (40, .invokevirtual 126, 3, 177, 0), (43, .aload_n 0, 1, 0, 0), (44, .iload_n 1, 1, 0, 0), (45, .iload_n 2, 1, 0, 0), (46, .invokevirtual 86, 3, 163, 2), (49, .istore_n 3, 1, 0, 0), (50, .iconst 0, 1, 0, 0), (51, .istore 4, 2, 0, 0), (53, .iload 4, 2, 0, 0), (55, .aload_n 0, 1, 0, 0), (56, .getfield 111, 3, 9, 11), (59, .if_icmp .ge 28, 3, 0, 0), (62, .aload_n 0, 1, 0, 0), (63, .getfield 7, 3, 9, 1), (66, .iload_n 1, 1, 0, 0), (67, .iload_n 2, 1, 0, 0), (68, .iload 4, 2, 0, 0), (70, .invokestatic 66, 3, 165, 3), (73, .aload_n 0, 1, 0, 0), (74, .getfield 33, 3, 9, 12), (77, .iload 4, 2, 0, 0), (79, .iaload, 1, 0, 0), (80, .iastore, 1, 0, 0), (81, .iinc 4 1, 3, 0, 0), (84, .goto (-31), 3, 0, 0), (87, .aload_n 0, 1, 0, 0), (88, .iload_n 1, 1, 0, 0), (89, .iload_n 2, 1, 0, 0), (90, .aload_n 0, 1, 0, 0), (91, .getfield 111, 3, 9, 11), (94, .invokevirtual 90, 3, 164, 3), (97, .aload_n 0, 1, 0, 0), (98, .iconst 0, 1, 0, 0), (99, .putfield 111, 3, 9, 11), (102, .iload_n 3, 1, 0, 0), (103, .ireturn, 1, 0, 0)], [], 5, 113)
def zX10_insertLine : zI := (yX10_insertLine, cX10_insertLine, 2, (some .int), [(0, .aload_n 0, 1, 0, 0), (1, .iload_n 1, 1, 0, 0), (2, .iconst 0, 1, 0, 0), (3, .aload_n 0, 1, 0, 0), (4, .getfield 7, 3, 9, 1), (7, .iconst 0, 1, 0, 0), (8, .iaload, 1, 0, 0), (9, .invokestatic 70, 3, 161, 3), (12, .ifCond .ne 7, 3, 0, 0), (15, .iconst 1, 1, 0, 0), (16, .goto 27, 3, 0, 0), (19, .aload_n 0, 1, 0, 0), (20, .iconst 1, 1, 0, 0), (21, .invokevirtual 123, 3, 185, 1), (24, .ifCond .eq 18, 3, 0, 0), (27, .aload_n 0, 1, 0, 0), (28, .getfield 7, 3, 9, 1), (31, .iconst 0, 1, 0, 0), (32, .iaload, 1, 0, 0), (33, .bipush 24, 2, 0, 0), (35, .if_icmp .ge 7, 3, 0, 0), (38, .iconst 0, 1, 0, 0), (39, .goto 4, 3, 0, 0), (42, .iconst 2, 1, 0, 0), (43, .putfield 63, 3, 9, 0), (46, .aload_n 0, 1, 0, 0), (47, .getfield 63, 3, 9, 0), (50, .ifCond .le 5, 3, 0, 0), (53, .iconst 0, 1, 0, 0), (54, .ireturn, 1, 0, 0), (55, .aload_n 0, 1, 0, 0), (56, .invokevirtual 126, 3, 177, 0), (59, .aload_n 0, 1, 0, 0), (60, .iload_n 1, 1, 0, 0), (61, .invokevirtual 146, 3, 172, 1), (64, .aload_n 0, 1, 0, 0), (65, .iload_n 1, 1, 0, 0), (66, .invokevirtual 129, 3, 187, 1), (69, .aload_n 0, 1, 0, 0), (70, .getfield 7, 3, 9, 1), (73, .iconst 0, 1, 0, 0), (74, .iaload, 1, 0, 0), (75, .ireturn, 1, 0, 0)], [], 5, 115)
def zX10_removeLine : zI := (yX10_removeLine, cX10_removeLine, 2, (some .int), [(0, .aload_n 0, 1, 0, 0), (1, .aload_n 0, 1, 0, 0), (2, .iload_n 1, 1, 0, 0), (3, .invokevirtual 74, 3, 167, 1), (6, .ifCond .ne 7, 3, 0, 0), (9, .iconst 1, 1, 0, 0), (10, .goto 18, 3, 0, 0), (13, .aload_n 0, 1, 0, 0), (14, .getfield 7, 3, 9, 1), (17, .iconst 0, 1, 0, 0), (18, .iaload, 1, 0, 0), (19, .iconst 1, 1, 0, 0), (20, .if_icmp .le 7, 3, 0, 0), (23, .iconst 0, 1, 0, 0), (24, .goto 4, 3, 0, 0), (27, .iconst 2, 1, 0, 0), (28, .putfield 63, 3, 9, 0), (31, .aload_n 0, 1, 0, 0), (32, .getfield 63, 3, 9, 0), (35, .ifCond .le 5, 3, 0, 0), (38, .iconst 0, 1, 0, 0), (39, .ireturn, 1, 0, 0), (40, .aload_n 0, 1, 0, 0), (41, .invokevirtual 126, 3, 177, 0), (44, .aload_n 0, 1, 0, 0), (45, .iload_n 1, 1, 0, 0), (46, .invokevirtual 165, 3, 173, 1), (49, .aload_n 0, 1, 0, 0), (50, .getfield 7, 3, 9, 1), (53, .iconst 0, 1, 0, 0), (54, .iaload, 1, 0, 0), (55, .ireturn, 1, 0, 0)], [], 5, 115)
def zX10_setAside : zI := (yX10_setAside, cX10_setAside, 2, none, [(0, .iconst 0, 1, 0, 0), (1, .istore_n 1, 1, 0, 0), (2, .iload_n 1, 1, 0, 0), (3, .sipush 3289, 3, 0, 0), (6, .if_icmp .ge 21, 3, 0, 0), (9, .aload_n 0, 1, 0, 0), (10, .getfield 13, 3, 9, 2), (13, .iload_n 1, 1, 0, 0), (14, .aload_n 0, 1, 0, 0), (15, .getfield 7, 3, 9, 1), (18, .iload_n 1, 1, 0, 0), (19, .iaload, 1, 0, 0), (20, .iastore, 1, 0, 0), (21, .iinc 1 1, 3, 0, 0), (24, .goto (-22), 3, 0, 0), (27, .return_, 1, 0, 0)], [], 0, 0)
def zX10_takeAside : zI := (yX10_takeAside, cX10_takeAside, 4, none, [(0, .aload_n 0, 1, 0, 0), (1, .getfield 7, 3, 9, 1), (4, .iconst 1, 1, 0, 0), (5, .iload_n 1, 1, 0, 0), (6, .iadd, 1, 0, 0), (7, .aload_n 0, 1, 0, 0), (8, .getfield 13, 3, 9, 2), (11, .iconst 1, 1, 0, 0), (12, .iload_n 2, 1, 0, 0), (13, .iadd, 1, 0, 0), (14, .iaload, 1, 0, 0), (15, .iastore, 1, 0, 0), (16, .iconst 0, 1, 0, 0), (17, .istore_n 3, 1, 0, 0), (18, .iload_n 3, 1, 0, 0), (19, .bipush 8, 2, 0, 0), (21, .if_icmp .ge 37, 3, 0, 0), (24, .aload_n 0, 1, 0, 0), (25, .getfield 7, 3, 9, 1), (28, .bipush 25, 2, 0, 0), (30, .bipush 8, 2, 0, 0), (32, .iload_n 1, 1, 0, 0), (33, .imul, 1, 0, 0), (34, .iadd, 1, 0, 0), (35, .iload_n 3, 1, 0, 0), (36, .iadd, 1, 0, 0), (37, .aload_n 0, 1, 0, 0), (38, .getfield 13, 3, 9, 2), (41, .bipush 25, 2, 0, 0), (43, .bipush 8, 2, 0, 0), (45, .iload_n 2, 1, 0, 0), (46, .imul, 1, 0, 0), (47, .iadd, 1, 0, 0), (48, .iload_n 3, 1, 0, 0), (49, .iadd, 1, 0, 0), (50, .iaload, 1, 0, 0), (51, .iastore, 1, 0, 0), (52, .iinc 3 1, 3, 0, 0), (55, .goto (-37), 3, 0, 0), (58, .iconst 0, 1, 0, 0), (59, .istore_n 3, 1, 0, 0), (60, .iload_n 3, 1, 0, 0), (61, .sipush 128, 3, 0, 0), (64, .if_icmp .ge 31, 3, 0, 0), (67, .aload_n 0, 1, 0, 0), (68, .getfield 7, 3, 9, 1), (71, .iload_n 1, 1, 0, 0), (72, .iconst 0, 1, 0, 0), (73, .iload_n 3, 1, 0, 0), (74, .invokestatic 66, 3, 165, 3), (77, .aload_n 0, 1, 0, 0), (78, .getfield 13, 3, 9, 2), (81, .iload_n 2, 1, 0, 0), (82, .iconst 0, 1, 0, 0), (83, .iload_n 3, 1, 0, 0), (84, .invokestatic 66, 3, 165, 3), (87, .iaload, 1, 0, 0), (88, .iastore, 1, 0, 0), (89, .iinc 3 1, 3, 0, 0), (92, .goto (-32), 3, 0, 0), (95, .return_, 1, 0, 0)], [], 1, 22)
def zX10_moveLine : zI := (yX10_moveLine, cX10_moveLine, 3, (some .int), [(0, .aload_n 0, 1, 0, 0), (1, .aload_n 0, 1, 0, 0), (2, .iload_n 1, 1, 0, 0), (3, .invokevirtual 74, 3, 167, 1), (6, .ifCond .eq 15, 3, 0, 0), (9, .aload_n 0, 1, 0, 0), (10, .iload_n 2, 1, 0, 0), (11, .invokevirtual 74, 3, 167, 1), (14, .ifCond .eq 7, 3, 0, 0), (17, .iconst 0, 1, 0, 0), (18, .goto 4, 3, 0, 0), (21, .iconst 1, 1, 0, 0), (22, .putfield 63, 3, 9, 0), (25, .aload_n 0, 1, 0, 0), (26, .getfield 63, 3, 9, 0), (29, .ifCond .le 5, 3, 0, 0), (32, .iconst 0, 1, 0, 0), (33, .ireturn, 1, 0, 0), (34, .aload_n 0, 1, 0, 0), (35, .invokevirtual 126, 3, 177, 0), (38, .aload_n 0, 1, 0, 0), (39, .invokevirtual 183, 3, 204, 0), (42, .aload_n 0, 1, 0, 0), (43, .iload_n 1, 1, 0, 0), (44, .invokevirtual 165, 3, 173, 1), (47, .aload_n 0, 1, 0, 0), (48, .iload_n 2, 1, 0, 0), (49, .invokevirtual 146, 3, 172, 1), (52, .aload_n 0, 1, 0, 0), (53, .iload_n 2, 1, 0, 0), (54, .iload_n 1, 1, 0, 0), (55, .invokevirtual 186, 3, 205, 2), (58, .aload_n 0, 1, 0, 0), (59, .invokevirtual 189, 3, 218, 0), (62, .ireturn, 1, 0, 0)], [], 9, 213)
def zX10_isBlank : zI := (yX10_isBlank, cX10_isBlank, 5, (some .boolean), [(0, .iconst 1, 1, 0, 0), (1, .istore_n 3, 1, 0, 0), (2, .iconst 0, 1, 0, 0), (3, .istore 4, 2, 0, 0), (5, .iload 4, 2, 0, 0), (7, .aload_n 0, 1, 0, 0), (8, .iload_n 1, 1, 0, 0), (9, .iload_n 2, 1, 0, 0), (10, .invokevirtual 86, 3, 163, 2), (13, .if_icmp .ge 32, 3, 0, 0), (16, .iload_n 3, 1, 0, 0), (17, .ifCond .eq 20, 3, 0, 0), (20, .aload_n 0, 1, 0, 0), (21, .iload_n 1, 1, 0, 0), (22, .iload_n 2, 1, 0, 0), (23, .iload 4, 2, 0, 0), (25, .invokevirtual 94, 3, 166, 3), (28, .bipush 32, 2, 0, 0), (30, .if_icmp .ne 7, 3, 0, 0), (33, .iconst 1, 1, 0, 0), (34, .goto 4, 3, 0, 0), (37, .iconst 0, 1, 0, 0), (38, .istore_n 3, 1, 0, 0), (39, .iinc 4 1, 3, 0, 0), (42, .goto (-37), 3, 0, 0), (45, .iload_n 3, 1, 0, 0), (46, .ireturn, 1, 0, 0)], [], 2, 45)
def zX10_figuresFrom : zI := (yX10_figuresFrom, cX10_figuresFrom, 5, (some .int), [(0, .iload_n 3, 1, 0, 0), (1, .istore 4, 2, 0, 0), (3, .iload 4, 2, 0, 0), (5, .aload_n 0, 1, 0, 0), (6, .iload_n 1, 1, 0, 0), (7, .iload_n 2, 1, 0, 0), (8, .invokevirtual 86, 3, 163, 2), (11, .if_icmp .ge 23, 3, 0, 0), (14, .aload_n 0, 1, 0, 0), (15, .iload_n 1, 1, 0, 0), (16, .iload_n 2, 1, 0, 0), (17, .iload 4, 2, 0, 0), (19, .invokevirtual 94, 3, 166, 3), (22, .invokestatic 114, 3, 182, 1), (25, .ifCond .eq 9, 3, 0, 0), (28, .iinc 4 1, 3, 0, 0), (31, .goto (-28), 3, 0, 0), (34, .iload 4, 2, 0, 0), (36, .iload_n 3, 1, 0, 0), (37, .isub, 1, 0, 0), (38, .ireturn, 1, 0, 0)], [], 2, 45)
def zX10_isNumber : zI := (yX10_isNumber, cX10_isNumber, 7, (some .boolean), [(0, .aload_n 0, 1, 0, 0), (1, .iload_n 1, 1, 0, 0), (2, .iload_n 2, 1, 0, 0), (3, .invokevirtual 86, 3, 163, 2), (6, .ifCond .le 19, 3, 0, 0), (9, .aload_n 0, 1, 0, 0), (10, .iload_n 1, 1, 0, 0), (11, .iload_n 2, 1, 0, 0), (12, .iconst 0, 1, 0, 0), (13, .invokevirtual 94, 3, 166, 3), (16, .bipush 45, 2, 0, 0), (18, .if_icmp .ne 7, 3, 0, 0), (21, .iconst 1, 1, 0, 0), (22, .goto 4, 3, 0, 0), (25, .iconst 0, 1, 0, 0), (26, .istore_n 3, 1, 0, 0), (27, .aload_n 0, 1, 0, 0), (28, .iload_n 1, 1, 0, 0), (29, .iload_n 2, 1, 0, 0), (30, .iload_n 3, 1, 0, 0), (31, .invokevirtual 193, 3, 208, 3), (34, .istore 4, 2, 0, 0), (36, .iload_n 3, 1, 0, 0), (37, .iload 4, 2, 0, 0), (39, .iadd, 1, 0, 0), (40, .istore 5, 2, 0, 0), (42, .iload 4, 2, 0, 0), (44, .iconst 1, 1, 0, 0), (45, .bipush 9, 2, 0, 0), (47, .invokestatic 70, 3, 161, 3), (50, .ifCond .eq 14, 3, 0, 0), (53, .iload 5, 2, 0, 0), (55, .aload_n 0, 1, 0, 0), (56, .iload_n 1, 1, 0, 0), (57, .iload_n 2, 1, 0, 0), (58, .invokevirtual 86, 3, 163, 2), (61, .if_icmp .ne 12, 3, 0, 0), (64, .iload 4, 2, 0, 0), (66, .iconst 1, 1, 0, 0), (67, .bipush 9, 2, 0, 0), (69, .invokestatic 70, 3, 161, 3), (72, .ireturn, 1, 0, 0), (73, .aload_n 0, 1, 0, 0), (74, .iload_n 1, 1, 0, 0), (75, .iload_n 2, 1, 0, 0), (76, .iload 5, 2, 0, 0), (78, .iconst 1, 1, 0, 0), (79, .iadd, 1, 0, 0), (80, .invokevirtual 193, 3, 208, 3), (83, .istore 6, 2, 0, 0), (85, .aload_n 0, 1, 0, 0), (86, .iload_n 1, 1, 0, 0), (87, .iload_n 2, 1, 0, 0), (88, .iload 5, 2, 0, 0), (90, .invokevirtual 94, 3, 166, 3), (93, .bipush 46, 2, 0, 0), (95, .if_icmp .ne 33, 3, 0, 0), (98, .iload 6, 2, 0, 0), (100, .iconst 1, 1, 0, 0), (101, .iconst 4, 1, 0, 0), (102, .invokestatic 70, 3, 161, 3), (105, .ifCond .eq 23, 3, 0, 0), (108, .iload 5, 2, 0, 0), (110, .iconst 1, 1, 0, 0), (111, .iadd, 1, 0, 0), (112, .iload 6, 2, 0, 0), (114, .iadd, 1, 0, 0), (115, .aload_n 0, 1, 0, 0), (116, .iload_n 1, 1, 0, 0), (117, .iload_n 2, 1, 0, 0), (118, .invokevirtual 86, 3, 163, 2), (121, .if_icmp .ne 7, 3, 0, 0), (124, .iconst 1, 1, 0, 0), (125, .goto 4, 3, 0, 0), (128, .iconst 0, 1, 0, 0), (129, .ireturn, 1, 0, 0)], [], 3, 69)
def zX10_kindOf : zI := (yX10_kindOf, cX10_kindOf, 3, (some .int), [(0, .aload_n 0, 1, 0, 0), (1, .iload_n 1, 1, 0, 0), (2, .iload_n 2, 1, 0, 0), (3, .invokevirtual 196, 3, 207, 2), (6, .ifCond .eq 7, 3, 0, 0), (9, .iconst 0, 1, 0, 0), (10, .goto 17, 3, 0, 0), (13, .aload_n 0, 1, 0, 0), (14, .iload_n 1, 1, 0, 0), (15, .iload_n 2, 1, 0, 0), (16, .invokevirtual 199, 3, 209, 2), (19, .ifCond .eq 7, 3, 0, 0), (22, .iconst 1, 1, 0, 0), (23, .goto 4, 3, 0, 0), (26, .iconst 2, 1, 0, 0), (27, .ireturn, 1, 0, 0)], [], 4, 95)
def zX10_wholeLength : zI := (yX10_wholeLength, cX10_wholeLength, 4, (some .int), [(0, .iconst 0, 1, 0, 0), (1, .istore_n 3, 1, 0, 0), (2, .iload_n 3, 1, 0, 0), (3, .aload_n 0, 1, 0, 0), (4, .iload_n 1, 1, 0, 0), (5, .iload_n 2, 1, 0, 0), (6, .invokevirtual 86, 3, 163, 2), (9, .if_icmp .ge 21, 3, 0, 0), (12, .aload_n 0, 1, 0, 0), (13, .iload_n 1, 1, 0, 0), (14, .iload_n 2, 1, 0, 0), (15, .iload_n 3, 1, 0, 0), (16, .invokevirtual 94, 3, 166, 3), (19, .bipush 46, 2, 0, 0), (21, .if_icmp .eq 9, 3, 0, 0), (24, .iinc 3 1, 3, 0, 0), (27, .goto (-25), 3, 0, 0), (30, .iload_n 3, 1, 0, 0), (31, .ireturn, 1, 0, 0)], [], 2, 45)
def zX10_partLength : zI := (yX10_partLength, cX10_partLength, 3, (some .int), [(0, .aload_n 0, 1, 0, 0), (1, .iload_n 1, 1, 0, 0), (2, .iload_n 2, 1, 0, 0), (3, .invokevirtual 86, 3, 163, 2), (6, .aload_n 0, 1, 0, 0), (7, .iload_n 1, 1, 0, 0), (8, .iload_n 2, 1, 0, 0), (9, .invokevirtual 202, 3, 211, 2), (12, .isub, 1, 0, 0), (13, .ireturn, 1, 0, 0)], [], 3, 68)
def zX10_valueOf : zI := (yX10_valueOf, cX10_valueOf, 9, (some .long), [(0, .lconst 0, 1, 0, 0), (1, .lstore_n 3, 1, 0, 0), (2, .iconst 0, 1, 0, 0), (3, .istore 5, 2, 0, 0), (5, .iconst 0, 1, 0, 0), (6, .istore 6, 2, 0, 0), (8, .iconst 0, 1, 0, 0), (9, .istore 7, 2, 0, 0), (11, .iload 7, 2, 0, 0), (13, .aload_n 0, 1, 0, 0), (14, .iload_n 1, 1, 0, 0), (15, .iload_n 2, 1, 0, 0), (16, .invokevirtual 86, 3, 163, 2), (19, .if_icmp .ge 87, 3, 0, 0), (22, .aload_n 0, 1, 0, 0), (23, .iload_n 1, 1, 0, 0), (24, .iload_n 2, 1, 0, 0), (25, .iload 7, 2, 0, 0), (27, .invokevirtual 94, 3, 166, 3), (30, .istore 8, 2, 0, 0), (32, .iload 8, 2, 0, 0), (34, .invokestatic 114, 3, 182, 1), (37, .ifCond .eq 19, 3, 0, 0), (40, .ldc2_w 205, 3, 10, 0), (43, .lload_n 3, 1, 0, 0), (44, .lmul, 1, 0, 0), (45, .iload 8, 2, 0, 0), (47, .i2l, 1, 0, 0), (48, .ladd, 1, 0, 0), (49, .ldc2_w 207, 3, 48, 0), (52, .lsub, 1, 0, 0), (53, .goto 4, 3, 0, 0), (56, .lload_n 3, 1, 0, 0), (57, .lstore_n 3, 1, 0, 0), (58, .iload 5, 2, 0, 0), (60, .iload 6, 2, 0, 0), (62, .ifCond .eq 15, 3, 0, 0), (65, .iload 8, 2, 0, 0), (67, .invokestatic 114, 3, 182, 1), (70, .ifCond .eq 7, 3, 0, 0), (73, .iconst 1, 1, 0, 0), (74, .goto 4, 3, 0, 0), (77, .iconst 0, 1, 0, 0), (78, .iadd, 1, 0, 0), (79, .istore 5, 2, 0, 0), (81, .iload 6, 2, 0, 0), (83, .ifCond .ne 10, 3, 0, 0), (86, .iload 8, 2, 0, 0), (88, .bipush 46, 2, 0, 0), (90, .if_icmp .ne 7, 3, 0, 0), (93, .iconst 1, 1, 0, 0), (94, .goto 4, 3, 0, 0), (97, .iconst 0, 1, 0, 0), (98, .istore 6, 2, 0, 0), (100, .iinc 7 1, 3, 0, 0), (103, .goto (-92), 3, 0, 0), (106, .iload 5, 2, 0, 0), (108, .istore 7, 2, 0, 0), (110, .iload 7, 2, 0, 0), (112, .iconst 4, 1, 0, 0), (113, .if_icmp .ge 15, 3, 0, 0), (116, .lload_n 3, 1, 0, 0), (117, .ldc2_w 205, 3, 10, 0), (120, .lmul, 1, 0, 0), (121, .lstore_n 3, 1, 0, 0), (122, .iinc 7 1, 3, 0, 0), (125, .goto (-15), 3, 0, 0), (128, .aload_n 0, 1, 0, 0), (129, .iload_n 1, 1, 0, 0), (130, .iload_n 2, 1, 0, 0), (131, .iconst 0, 1, 0, 0), (132, .invokevirtual 94, 3, 166, 3), (135, .bipush 45, 2, 0, 0), (137, .if_icmp .ne 8, 3, 0, 0), (140, .lload_n 3, 1, 0, 0), (141, .lneg, 1, 0, 0), (142, .goto 4, 3, 0, 0), (145, .lload_n 3, 1, 0, 0), (146, .lreturn, 1, 0, 0)], [], 2, 45)
def zX10_isEnded : zI := (yX10_isEnded, cX10_isEnded, 3, (some .boolean), [(0, .aload_n 0, 1, 0, 0), (1, .iload_n 1, 1, 0, 0), (2, .invokevirtual 74, 3, 167, 1), (5, .ifCond .eq 18, 3, 0, 0), (8, .iload_n 2, 1, 0, 0), (9, .iconst 1, 1, 0, 0), (10, .iadd, 1, 0, 0), (11, .aload_n 0, 1, 0, 0), (12, .iload_n 1, 1, 0, 0), (13, .invokevirtual 78, 3, 162, 1), (16, .if_icmp .ge 7, 3, 0, 0), (19, .iconst 1, 1, 0, 0), (20, .goto 4, 3, 0, 0), (23, .iconst 0, 1, 0, 0), (24, .ireturn, 1, 0, 0)], [], 2, 43)
def zX10_numbersIn : zI := (yX10_numbersIn, cX10_numbersIn, 4, (some .int), [(0, .iconst 0, 1, 0, 0), (1, .istore_n 2, 1, 0, 0), (2, .aload_n 0, 1, 0, 0), (3, .getfield 39, 3, 9, 15), (6, .iload_n 1, 1, 0, 0), (7, .iaload, 1, 0, 0), (8, .istore_n 3, 1, 0, 0), (9, .iload_n 3, 1, 0, 0), (10, .aload_n 0, 1, 0, 0), (11, .getfield 42, 3, 9, 16), (14, .iload_n 1, 1, 0, 0), (15, .iaload, 1, 0, 0), (16, .if_icmp .gt 32, 3, 0, 0), (19, .iload_n 2, 1, 0, 0), (20, .aload_n 0, 1, 0, 0), (21, .iload_n 3, 1, 0, 0), (22, .aload_n 0, 1, 0, 0), (23, .getfield 36, 3, 9, 14), (26, .iload_n 1, 1, 0, 0), (27, .iaload, 1, 0, 0), (28, .invokevirtual 209, 3, 210, 2), (31, .iconst 1, 1, 0, 0), (32, .if_icmp .ne 7, 3, 0, 0), (35, .iconst 1, 1, 0, 0), (36, .goto 4, 3, 0, 0), (39, .iconst 0, 1, 0, 0), (40, .iadd, 1, 0, 0), (41, .istore_n 2, 1, 0, 0), (42, .iinc 3 1, 3, 0, 0), (45, .goto (-36), 3, 0, 0), (48, .iload_n 2, 1, 0, 0), (49, .ireturn, 1, 0, 0)], [], 5, 117)
def zX10_isDecimal : zI := (yX10_isDecimal, cX10_isDecimal, 5, (some .boolean), [(0, .aload_n 0, 1, 0, 0), (1, .iload_n 1, 1, 0, 0), (2, .invokevirtual 212, 3, 215, 1), (5, .ifCond .le 7, 3, 0, 0), (8, .iconst 1, 1, 0, 0), (9, .goto 4, 3, 0, 0), (12, .iconst 0, 1, 0, 0), (13, .istore_n 2, 1, 0, 0), (14, .aload_n 0, 1, 0, 0), (15, .getfield 39, 3, 9, 15), (18, .iload_n 1, 1, 0, 0), (19, .iaload, 1, 0, 0), (20, .istore_n 3, 1, 0, 0), (21, .iload_n 3, 1, 0, 0), (22, .aload_n 0, 1, 0, 0), (23, .getfield 42, 3, 9, 16), (26, .iload_n 1, 1, 0, 0), (27, .iaload, 1, 0, 0), (28, .if_icmp .gt 71, 3, 0, 0), (31, .iload_n 3, 1, 0, 0), (32, .aload_n 0, 1, 0, 0), (33, .getfield 39, 3, 9, 15), (36, .iload_n 1, 1, 0, 0), (37, .iaload, 1, 0, 0), (38, .if_icmp .ne 22, 3, 0, 0), (41, .aload_n 0, 1, 0, 0), (42, .getfield 42, 3, 9, 16), (45, .iload_n 1, 1, 0, 0), (46, .iaload, 1, 0, 0), (47, .aload_n 0, 1, 0, 0), (48, .getfield 39, 3, 9, 15), (51, .iload_n 1, 1, 0, 0), (52, .iaload, 1, 0, 0), (53, .if_icmp .le 7, 3, 0, 0), (56, .iconst 1, 1, 0, 0), (57, .goto 4, 3, 0, 0), (60, .iconst 0, 1, 0, 0), (61, .istore 4, 2, 0, 0), (63, .iload_n 2, 1, 0, 0), (64, .ifCond .eq 27, 3, 0, 0), (67, .iload 4, 2, 0, 0), (69, .ifCond .ne 18, 3, 0, 0), (72, .aload_n 0, 1, 0, 0), (73, .iload_n 3, 1, 0, 0), (74, .aload_n 0, 1, 0, 0), (75, .getfield 36, 3, 9, 14), (78, .iload_n 1, 1, 0, 0), (79, .iaload, 1, 0, 0), (80, .invokevirtual 209, 3, 210, 2), (83, .iconst 2, 1, 0, 0), (84, .if_icmp .ge 7, 3, 0, 0), (87, .iconst 1, 1, 0, 0), (88, .goto 4, 3, 0, 0), (91, .iconst 0, 1, 0, 0), (92, .istore_n 2, 1, 0, 0), (93, .iinc 3 1, 3, 0, 0), (96, .goto (-75), 3, 0, 0), (99, .iload_n 2, 1, 0, 0), (100, .ireturn, 1, 0, 0)], [], 6, 140)
def zX10_measure : zI := (yX10_measure, cX10_measure, 7, none, [(0, .aload_n 0, 1, 0, 0), (1, .getfield 36, 3, 9, 14), (4, .iload_n 1, 1, 0, 0), (5, .iaload, 1, 0, 0), (6, .istore_n 2, 1, 0, 0), (7, .iconst 0, 1, 0, 0), (8, .istore_n 3, 1, 0, 0), (9, .iconst 0, 1, 0, 0), (10, .istore 4, 2, 0, 0), (12, .aload_n 0, 1, 0, 0), (13, .getfield 45, 3, 9, 17), (16, .iload_n 1, 1, 0, 0), (17, .aload_n 0, 1, 0, 0), (18, .getfield 23, 3, 9, 7), (21, .iload_n 2, 1, 0, 0), (22, .iaload, 1, 0, 0), (23, .iconst 3, 1, 0, 0), (24, .if_icmp .ge 12, 3, 0, 0), (27, .aload_n 0, 1, 0, 0), (28, .getfield 23, 3, 9, 7), (31, .iload_n 2, 1, 0, 0), (32, .iaload, 1, 0, 0), (33, .goto 16, 3, 0, 0), (36, .aload_n 0, 1, 0, 0), (37, .iload_n 1, 1, 0, 0), (38, .invokevirtual 215, 3, 216, 1), (41, .ifCond .eq 7, 3, 0, 0), (44, .iconst 3, 1, 0, 0), (45, .goto 4, 3, 0, 0), (48, .iconst 0, 1, 0, 0), (49, .iastore, 1, 0, 0), (50, .aload_n 0, 1, 0, 0), (51, .getfield 51, 3, 9, 19), (54, .iload_n 1, 1, 0, 0), (55, .iconst 0, 1, 0, 0), (56, .iastore, 1, 0, 0), (57, .aload_n 0, 1, 0, 0), (58, .getfield 39, 3, 9, 15), (61, .iload_n 1, 1, 0, 0), (62, .iaload, 1, 0, 0), (63, .istore 5, 2, 0, 0), (65, .iload 5, 2, 0, 0), (67, .aload_n 0, 1, 0, 0), (68, .getfield 42, 3, 9, 16), (71, .iload_n 1, 1, 0, 0), (72, .iaload, 1, 0, 0), (73, .if_icmp .gt 139, 3, 0, 0), (76, .aload_n 0, 1, 0, 0), (77, .getfield 45, 3, 9, 17), (80, .iload_n 1, 1, 0, 0), (81, .iaload, 1, 0, 0), (82, .iconst 3, 1, 0, 0), (83, .if_icmp .ne 18, 3, 0, 0), (86, .aload_n 0, 1, 0, 0), (87, .iload 5, 2, 0, 0), (89, .iload_n 2, 1, 0, 0), (90, .invokevirtual 209, 3, 210, 2), (93, .iconst 1, 1, 0, 0), (94, .if_icmp .ne 7, 3, 0, 0), (97, .iconst 1, 1, 0, 0), (98, .goto 4, 3, 0, 0), (101, .iconst 0, 1, 0, 0), (102, .istore 6, 2, 0, 0), (104, .iload 6, 2, 0, 0), (106, .ifCond .ne 24, 3, 0, 0), (109, .aload_n 0, 1, 0, 0), (110, .iload 5, 2, 0, 0), (112, .iload_n 2, 1, 0, 0), (113, .invokevirtual 86, 3, 163, 2), (116, .iload_n 3, 1, 0, 0), (117, .if_icmp .le 13, 3, 0, 0), (120, .aload_n 0, 1, 0, 0), (121, .iload 5, 2, 0, 0), (123, .iload_n 2, 1, 0, 0), (124, .invokevirtual 86, 3, 163, 2), (127, .goto 4, 3, 0, 0), (130, .iload_n 3, 1, 0, 0), (131, .istore_n 3, 1, 0, 0), (132, .iload 6, 2, 0, 0), (134, .ifCond .eq 25, 3, 0, 0), (137, .aload_n 0, 1, 0, 0), (138, .iload 5, 2, 0, 0), (140, .iload_n 2, 1, 0, 0), (141, .invokevirtual 202, 3, 211, 2), (144, .iload 4, 2, 0, 0), (146, .if_icmp .le 13, 3, 0, 0), (149, .aload_n 0, 1, 0, 0), (150, .iload 5, 2, 0, 0), (152, .iload_n 2, 1, 0, 0), (153, .invokevirtual 202, 3, 211, 2), (156, .goto 5, 3, 0, 0), (159, .iload 4, 2, 0, 0), (161, .istore 4, 2, 0, 0), (163, .aload_n 0, 1, 0, 0), (164, .getfield 51, 3, 9, 19), (167, .iload_n 1, 1, 0, 0), (168, .iload 6, 2, 0, 0), (170, .ifCond .eq 29, 3, 0, 0), (173, .aload_n 0, 1, 0, 0), (174, .iload 5, 2, 0, 0), (176, .iload_n 2, 1, 0, 0), (177, .invokevirtual 218, 3, 212, 2), (180, .aload_n 0, 1, 0, 0), (181, .getfield 51, 3, 9, 19), (184, .iload_n 1, 1, 0, 0), (185, .iaload, 1, 0, 0), (186, .if_icmp .le 13, 3, 0, 0), (189, .aload_n 0, 1, 0, 0), (190, .iload 5, 2, 0, 0), (192, .iload_n 2, 1, 0, 0), (193, .invokevirtual 218, 3, 212, 2), (196, .goto 9, 3, 0, 0), (199, .aload_n 0, 1, 0, 0), (200, .getfield 51, 3, 9, 19), (203, .iload_n 1, 1, 0, 0), (204, .iaload, 1, 0, 0), (205, .iastore, 1, 0, 0), (206, .iinc 5 1, 3, 0, 0), (209, .goto (-144), 3, 0, 0), (212, .aload_n 0, 1, 0, 0), (213, .getfield 48, 3, 9, 18), (216, .iload_n 1, 1, 0, 0), (217, .iload 4, 2, 0, 0), (219, .aload_n 0, 1, 0, 0), (220, .getfield 51, 3, 9, 19), (223, .iload_n 1, 1, 0, 0), (224, .iaload, 1, 0, 0), (225, .iadd, 1, 0, 0), (226, .iload_n 3, 1, 0, 0), (227, .if_icmp .le 15, 3, 0, 0), (230, .iload 4, 2, 0, 0), (232, .aload_n 0, 1, 0, 0), (233, .getfield 51, 3, 9, 19), (236, .iload_n 1, 1, 0, 0), (237, .iaload, 1, 0, 0), (238, .iadd, 1, 0, 0), (239, .goto 4, 3, 0, 0), (242, .iload_n 3, 1, 0, 0), (243, .iastore, 1, 0, 0), (244, .aload_n 0, 1, 0, 0), (245, .getfield 48, 3, 9, 18), (248, .iload_n 1, 1, 0, 0), (249, .iaload, 1, 0, 0), (250, .aload_n 0, 1, 0, 0), (251, .getfield 221, 3, 9, 9), (254, .if_icmp .le 12, 3, 0, 0), (257, .aload_n 0, 1, 0, 0), (258, .getfield 48, 3, 9, 18), (261, .iload_n 1, 1, 0, 0), (262, .iaload, 1, 0, 0), (263, .goto 7, 3, 0, 0), (266, .aload_n 0, 1, 0, 0), (267, .getfield 221, 3, 9, 9), (270, .aload_n 0, 1, 0, 0), (271, .getfield 26, 3, 9, 8), (274, .iadd, 1, 0, 0), (275, .istore 5, 2, 0, 0), (277, .aload_n 0, 1, 0, 0), (278, .getfield 54, 3, 9, 20), (281, .iload_n 1, 1, 0, 0), (282, .iload 5, 2, 0, 0), (284, .aload_n 0, 1, 0, 0), (285, .getfield 30, 3, 9, 10), (288, .iadd, 1, 0, 0), (289, .iconst 1, 1, 0, 0), (290, .isub, 1, 0, 0), (291, .aload_n 0, 1, 0, 0), (292, .getfield 30, 3, 9, 10), (295, .idiv, 1, 0, 0), (296, .aload_n 0, 1, 0, 0), (297, .getfield 30, 3, 9, 10), (300, .imul, 1, 0, 0), (301, .iastore, 1, 0, 0), (302, .return_, 1, 0, 0)], [], 7, 164)
def zX10_layBlocks : zI := (yX10_layBlocks, cX10_layBlocks, 4, (some .int), [(0, .aload_n 0, 1, 0, 0), (1, .iconst 0, 1, 0, 0), (2, .putfield 224, 3, 9, 13), (5, .iconst 0, 1, 0, 0), (6, .istore_n 1, 1, 0, 0), (7, .iload_n 1, 1, 0, 0), (8, .bipush 7, 2, 0, 0), (10, .if_icmp .ge 114, 3, 0, 0), (13, .iconst 0, 1, 0, 0), (14, .istore_n 2, 1, 0, 0), (15, .iload_n 2, 1, 0, 0), (16, .aload_n 0, 1, 0, 0), (17, .getfield 7, 3, 9, 1), (20, .iconst 0, 1, 0, 0), (21, .iaload, 1, 0, 0), (22, .if_icmp .ge 96, 3, 0, 0), (25, .aload_n 0, 1, 0, 0), (26, .iload_n 2, 1, 0, 0), (27, .iload_n 1, 1, 0, 0), (28, .invokevirtual 227, 3, 214, 2), (31, .ifCond .eq 81, 3, 0, 0), (34, .aload_n 0, 1, 0, 0), (35, .iload_n 2, 1, 0, 0), (36, .iconst 1, 1, 0, 0), (37, .isub, 1, 0, 0), (38, .iload_n 1, 1, 0, 0), (39, .invokevirtual 227, 3, 214, 2), (42, .ifCond .ne 70, 3, 0, 0), (45, .aload_n 0, 1, 0, 0), (46, .getfield 36, 3, 9, 14), (49, .aload_n 0, 1, 0, 0), (50, .getfield 224, 3, 9, 13), (53, .iload_n 1, 1, 0, 0), (54, .iastore, 1, 0, 0), (55, .aload_n 0, 1, 0, 0), (56, .getfield 39, 3, 9, 15), (59, .aload_n 0, 1, 0, 0), (60, .getfield 224, 3, 9, 13), (63, .iload_n 2, 1, 0, 0), (64, .iastore, 1, 0, 0), (65, .iload_n 2, 1, 0, 0), (66, .istore_n 3, 1, 0, 0), (67, .aload_n 0, 1, 0, 0), (68, .iload_n 3, 1, 0, 0), (69, .iconst 1, 1, 0, 0), (70, .iadd, 1, 0, 0), (71, .iload_n 1, 1, 0, 0), (72, .invokevirtual 227, 3, 214, 2), (75, .ifCond .eq 9, 3, 0, 0), (78, .iinc 3 1, 3, 0, 0), (81, .goto (-14), 3, 0, 0), (84, .aload_n 0, 1, 0, 0), (85, .getfield 42, 3, 9, 16), (88, .aload_n 0, 1, 0, 0), (89, .getfield 224, 3, 9, 13), (92, .iload_n 3, 1, 0, 0), (93, .iastore, 1, 0, 0), (94, .aload_n 0, 1, 0, 0), (95, .aload_n 0, 1, 0, 0), (96, .getfield 224, 3, 9, 13), (99, .invokevirtual 230, 3, 217, 1), (102, .aload_n 0, 1, 0, 0), (103, .dup, 1, 0, 0), (104, .getfield 224, 3, 9, 13), (107, .iconst 1, 1, 0, 0), (108, .iadd, 1, 0, 0), (109, .putfield 224, 3, 9, 13), (112, .iinc 2 1, 3, 0, 0), (115, .goto (-100), 3, 0, 0), (118, .iinc 1 1, 3, 0, 0), (121, .goto (-114), 3, 0, 0), (124, .aload_n 0, 1, 0, 0), (125, .getfield 224, 3, 9, 13), (128, .ireturn, 1, 0, 0)], [], 8, 190)
def zX10_blockOf : zI := (yX10_blockOf, cX10_blockOf, 5, (some .int), [(0, .iconst (-1), 1, 0, 0), (1, .istore_n 3, 1, 0, 0), (2, .iconst 0, 1, 0, 0), (3, .istore 4, 2, 0, 0), (5, .iload 4, 2, 0, 0), (7, .aload_n 0, 1, 0, 0), (8, .getfield 224, 3, 9, 13), (11, .if_icmp .ge 57, 3, 0, 0), (14, .aload_n 0, 1, 0, 0), (15, .iload_n 1, 1, 0, 0), (16, .iload_n 2, 1, 0, 0), (17, .invokevirtual 227, 3, 214, 2), (20, .ifCond .eq 40, 3, 0, 0), (23, .aload_n 0, 1, 0, 0), (24, .getfield 36, 3, 9, 14), (27, .iload 4, 2, 0, 0), (29, .iaload, 1, 0, 0), (30, .iload_n 2, 1, 0, 0), (31, .if_icmp .ne 29, 3, 0, 0), (34, .iload_n 1, 1, 0, 0), (35, .aload_n 0, 1, 0, 0), (36, .getfield 39, 3, 9, 15), (39, .iload 4, 2, 0, 0), (41, .iaload, 1, 0, 0), (42, .aload_n 0, 1, 0, 0), (43, .getfield 42, 3, 9, 16), (46, .iload 4, 2, 0, 0), (48, .iaload, 1, 0, 0), (49, .invokestatic 70, 3, 161, 3), (52, .ifCond .eq 8, 3, 0, 0), (55, .iload 4, 2, 0, 0), (57, .goto 4, 3, 0, 0), (60, .iload_n 3, 1, 0, 0), (61, .istore_n 3, 1, 0, 0), (62, .iinc 4 1, 3, 0, 0), (65, .goto (-60), 3, 0, 0), (68, .iload_n 3, 1, 0, 0), (69, .ireturn, 1, 0, 0)], [], 3, 65)
def zX10_xOf : zI := (yX10_xOf, cX10_xOf, 5, (some .int), [(0, .iconst 0, 1, 0, 0), (1, .istore_n 3, 1, 0, 0), (2, .iconst 0, 1, 0, 0), (3, .istore 4, 2, 0, 0), (5, .iload 4, 2, 0, 0), (7, .iload_n 2, 1, 0, 0), (8, .if_icmp .ge 24, 3, 0, 0), (11, .iload_n 3, 1, 0, 0), (12, .aload_n 0, 1, 0, 0), (13, .getfield 54, 3, 9, 20), (16, .aload_n 0, 1, 0, 0), (17, .iload_n 1, 1, 0, 0), (18, .iload 4, 2, 0, 0), (20, .invokevirtual 233, 3, 219, 2), (23, .iaload, 1, 0, 0), (24, .iadd, 1, 0, 0), (25, .istore_n 3, 1, 0, 0), (26, .iinc 4 1, 3, 0, 0), (29, .goto (-24), 3, 0, 0), (32, .iload_n 3, 1, 0, 0), (33, .ireturn, 1, 0, 0)], [], 4, 89)
def zX10_shiftOf : zI := (yX10_shiftOf, cX10_shiftOf, 5, (some .int), [(0, .aload_n 0, 1, 0, 0), (1, .iload_n 1, 1, 0, 0), (2, .iload_n 2, 1, 0, 0), (3, .invokevirtual 233, 3, 219, 2), (6, .istore_n 3, 1, 0, 0), (7, .iload_n 3, 1, 0, 0), (8, .iconst (-1), 1, 0, 0), (9, .if_icmp .eq 12, 3, 0, 0), (12, .aload_n 0, 1, 0, 0), (13, .getfield 45, 3, 9, 17), (16, .iload_n 3, 1, 0, 0), (17, .iaload, 1, 0, 0), (18, .ifCond .ne 5, 3, 0, 0), (21, .iconst 0, 1, 0, 0), (22, .ireturn, 1, 0, 0), (23, .aload_n 0, 1, 0, 0), (24, .getfield 54, 3, 9, 20), (27, .iload_n 3, 1, 0, 0), (28, .iaload, 1, 0, 0), (29, .aload_n 0, 1, 0, 0), (30, .getfield 26, 3, 9, 8), (33, .isub, 1, 0, 0), (34, .istore 4, 2, 0, 0), (36, .aload_n 0, 1, 0, 0), (37, .getfield 45, 3, 9, 17), (40, .iload_n 3, 1, 0, 0), (41, .iaload, 1, 0, 0), (42, .iconst 3, 1, 0, 0), (43, .if_icmp .ne 30, 3, 0, 0), (46, .aload_n 0, 1, 0, 0), (47, .iload_n 1, 1, 0, 0), (48, .iload_n 2, 1, 0, 0), (49, .invokevirtual 209, 3, 210, 2), (52, .iconst 1, 1, 0, 0), (53, .if_icmp .ne 20, 3, 0, 0), (56, .iload 4, 2, 0, 0), (58, .aload_n 0, 1, 0, 0), (59, .getfield 51, 3, 9, 19), (62, .iload_n 3, 1, 0, 0), (63, .iaload, 1, 0, 0), (64, .isub, 1, 0, 0), (65, .aload_n 0, 1, 0, 0), (66, .iload_n 1, 1, 0, 0), (67, .iload_n 2, 1, 0, 0), (68, .invokevirtual 202, 3, 211, 2), (71, .isub, 1, 0, 0), (72, .ireturn, 1, 0, 0), (73, .aload_n 0, 1, 0, 0), (74, .getfield 45, 3, 9, 17), (77, .iload_n 3, 1, 0, 0), (78, .iaload, 1, 0, 0), (79, .iconst 2, 1, 0, 0), (80, .if_icmp .ne 17, 3, 0, 0), (83, .iload 4, 2, 0, 0), (85, .aload_n 0, 1, 0, 0), (86, .iload_n 1, 1, 0, 0), (87, .iload_n 2, 1, 0, 0), (88, .invokevirtual 86, 3, 163, 2), (91, .isub, 1, 0, 0), (92, .iconst 2, 1, 0, 0), (93, .idiv, 1, 0, 0), (94, .goto 12, 3, 0, 0), (97, .iload 4, 2, 0, 0), (99, .aload_n 0, 1, 0, 0), (100, .iload_n 1, 1, 0, 0), (101, .iload_n 2, 1, 0, 0), (102, .invokevirtual 86, 3, 163, 2), (105, .isub, 1, 0, 0), (106, .ireturn, 1, 0, 0)], [], 5, 117)
def zX10_shownLength : zI := (yX10_shownLength, cX10_shownLength, 2, (some .int), [(0, .aload_n 0, 1, 0, 0), (1, .iload_n 1, 1, 0, 0), (2, .aload_n 0, 1, 0, 0), (3, .iload_n 1, 1, 0, 0), (4, .invokevirtual 78, 3, 162, 1), (7, .iconst 1, 1, 0, 0), (8, .isub, 1, 0, 0), (9, .invokevirtual 236, 3, 220, 2), (12, .aload_n 0, 1, 0, 0), (13, .iload_n 1, 1, 0, 0), (14, .aload_n 0, 1, 0, 0), (15, .iload_n 1, 1, 0, 0), (16, .invokevirtual 78, 3, 162, 1), (19, .iconst 1, 1, 0, 0), (20, .isub, 1, 0, 0), (21, .invokevirtual 86, 3, 163, 2), (24, .iadd, 1, 0, 0), (25, .ireturn, 1, 0, 0)], [], 5, 113)
def zX10_isBlock : zI := (yX10_isBlock, cX10_isBlock, 2, (some .boolean), [(0, .iload_n 1, 1, 0, 0), (1, .iconst 0, 1, 0, 0), (2, .aload_n 0, 1, 0, 0), (3, .invokevirtual 189, 3, 218, 0), (6, .iconst 1, 1, 0, 0), (7, .isub, 1, 0, 0), (8, .invokestatic 70, 3, 161, 3), (11, .ireturn, 1, 0, 0)], [], 9, 213)
def zX10_comparedWords : zI := (yX10_comparedWords, cX10_comparedWords, 7, (some .int), [(0, .iconst 0, 1, 0, 0), (1, .istore 4, 2, 0, 0), (3, .iload 4, 2, 0, 0), (5, .aload_n 0, 1, 0, 0), (6, .iload_n 1, 1, 0, 0), (7, .iload_n 3, 1, 0, 0), (8, .invokevirtual 86, 3, 163, 2), (11, .if_icmp .ge 39, 3, 0, 0), (14, .iload 4, 2, 0, 0), (16, .aload_n 0, 1, 0, 0), (17, .iload_n 2, 1, 0, 0), (18, .iload_n 3, 1, 0, 0), (19, .invokevirtual 86, 3, 163, 2), (22, .if_icmp .ge 28, 3, 0, 0), (25, .aload_n 0, 1, 0, 0), (26, .iload_n 1, 1, 0, 0), (27, .iload_n 3, 1, 0, 0), (28, .iload 4, 2, 0, 0), (30, .invokevirtual 94, 3, 166, 3), (33, .aload_n 0, 1, 0, 0), (34, .iload_n 2, 1, 0, 0), (35, .iload_n 3, 1, 0, 0), (36, .iload 4, 2, 0, 0), (38, .invokevirtual 94, 3, 166, 3), (41, .if_icmp .ne 9, 3, 0, 0), (44, .iinc 4 1, 3, 0, 0), (47, .goto (-44), 3, 0, 0), (50, .iload 4, 2, 0, 0), (52, .aload_n 0, 1, 0, 0), (53, .iload_n 1, 1, 0, 0), (54, .iload_n 3, 1, 0, 0), (55, .invokevirtual 86, 3, 163, 2), (58, .if_icmp .ne 7, 3, 0, 0), (61, .iconst 1, 1, 0, 0), (62, .goto 4, 3, 0, 0), (65, .iconst 0, 1, 0, 0), (66, .istore 5, 2, 0, 0), (68, .iload 4, 2, 0, 0), (70, .aload_n 0, 1, 0, 0), (71, .iload_n 2, 1, 0, 0), (72, .iload_n 3, 1, 0, 0), (73, .invokevirtual 86, 3, 163, 2), (76, .if_icmp .ne 7, 3, 0, 0), (79, .iconst 1, 1, 0, 0), (80, .goto 4, 3, 0, 0), (83, .iconst 0, 1, 0, 0), (84, .istore 6, 2, 0, 0), (86, .iload 5, 2, 0, 0), (88, .ifCond .ne 8, 3, 0, 0), (91, .iload 6, 2, 0, 0), (93, .ifCond .eq 27, 3, 0, 0), (96, .iload 5, 2, 0, 0), (98, .ifCond .eq 7, 3, 0, 0), (101, .iconst 0, 1, 0, 0), (102, .goto 4, 3, 0, 0), (105, .iconst 1, 1, 0, 0), (106, .iload 6, 2, 0, 0), (108, .ifCond .eq 7, 3, 0, 0), (111, .iconst 0, 1, 0, 0), (112, .goto 4, 3, 0, 0), (115, .iconst 1, 1, 0, 0), (116, .isub, 1, 0, 0), (117, .goto 20, 3, 0, 0), (120, .aload_n 0, 1, 0, 0), (121, .iload_n 1, 1, 0, 0), (122, .iload_n 3, 1, 0, 0), (123, .iload 4, 2, 0, 0), (125, .invokevirtual 94, 3, 166, 3), (128, .aload_n 0, 1, 0, 0), (129, .iload_n 2, 1, 0, 0), (130, .iload_n 3, 1, 0, 0), (131, .iload 4, 2, 0, 0), (133, .invokevirtual 94, 3, 166, 3), (136, .isub, 1, 0, 0), (137, .ireturn, 1, 0, 0)], [], 2, 45)
def zX10_rankOf : zI := (yX10_rankOf, cX10_rankOf, 1, (some .int), [(0, .iload_n 0, 1, 0, 0), (1, .iconst 1, 1, 0, 0), (2, .if_icmp .ne 7, 3, 0, 0), (5, .iconst 0, 1, 0, 0), (6, .goto 13, 3, 0, 0), (9, .iload_n 0, 1, 0, 0), (10, .iconst 2, 1, 0, 0), (11, .if_icmp .ne 7, 3, 0, 0), (14, .iconst 1, 1, 0, 0), (15, .goto 4, 3, 0, 0), (18, .iconst 2, 1, 0, 0), (19, .ireturn, 1, 0, 0)], [], 0, 0)
def zX10_isBehind : zI := (yX10_isBehind, cX10_isBehind, 9, (some .boolean), [(0, .aload_n 0, 1, 0, 0), (1, .iload_n 1, 1, 0, 0), (2, .iload_n 3, 1, 0, 0), (3, .invokevirtual 209, 3, 210, 2), (6, .invokestatic 239, 3, 225, 1), (9, .istore 5, 2, 0, 0), (11, .aload_n 0, 1, 0, 0), (12, .iload_n 2, 1, 0, 0), (13, .iload_n 3, 1, 0, 0), (14, .invokevirtual 209, 3, 210, 2), (17, .invokestatic 239, 3, 225, 1), (20, .istore 6, 2, 0, 0), (22, .iload 5, 2, 0, 0), (24, .iload 6, 2, 0, 0), (26, .if_icmp .ne 9, 3, 0, 0), (29, .iload 5, 2, 0, 0), (31, .iconst 2, 1, 0, 0), (32, .if_icmp .ne 16, 3, 0, 0), (35, .iload 5, 2, 0, 0), (37, .iload 6, 2, 0, 0), (39, .if_icmp .le 7, 3, 0, 0), (42, .iconst 1, 1, 0, 0), (43, .goto 4, 3, 0, 0), (46, .iconst 0, 1, 0, 0), (47, .ireturn, 1, 0, 0), (48, .iload 5, 2, 0, 0), (50, .ifCond .ne 19, 3, 0, 0), (53, .aload_n 0, 1, 0, 0), (54, .iload_n 1, 1, 0, 0), (55, .iload_n 3, 1, 0, 0), (56, .invokevirtual 242, 3, 213, 2), (59, .aload_n 0, 1, 0, 0), (60, .iload_n 2, 1, 0, 0), (61, .iload_n 3, 1, 0, 0), (62, .invokevirtual 242, 3, 213, 2), (65, .lsub, 1, 0, 0), (66, .goto 11, 3, 0, 0), (69, .aload_n 0, 1, 0, 0), (70, .iload_n 1, 1, 0, 0), (71, .iload_n 2, 1, 0, 0), (72, .iload_n 3, 1, 0, 0), (73, .invokevirtual 246, 3, 224, 3), (76, .i2l, 1, 0, 0), (77, .lstore 7, 2, 0, 0), (79, .iload 4, 2, 0, 0), (81, .ifCond .eq 18, 3, 0, 0), (84, .lload 7, 2, 0, 0), (86, .lconst 0, 1, 0, 0), (87, .lcmp, 1, 0, 0), (88, .ifCond .ge 7, 3, 0, 0), (91, .iconst 1, 1, 0, 0), (92, .goto 19, 3, 0, 0), (95, .iconst 0, 1, 0, 0), (96, .goto 15, 3, 0, 0), (99, .lload 7, 2, 0, 0), (101, .lconst 0, 1, 0, 0), (102, .lcmp, 1, 0, 0), (103, .ifCond .le 7, 3, 0, 0), (106, .iconst 1, 1, 0, 0), (107, .goto 4, 3, 0, 0), (110, .iconst 0, 1, 0, 0), (111, .ireturn, 1, 0, 0)], [], 5, 117)
def zX10_sortNow : zI := (yX10_sortNow, cX10_sortNow, 7, (some .int), [(0, .aload_n 0, 1, 0, 0), (1, .getfield 42, 3, 9, 16), (4, .iload_n 1, 1, 0, 0), (5, .iaload, 1, 0, 0), (6, .iconst 1, 1, 0, 0), (7, .iadd, 1, 0, 0), (8, .iload_n 2, 1, 0, 0), (9, .isub, 1, 0, 0), (10, .istore 4, 2, 0, 0), (12, .iconst 0, 1, 0, 0), (13, .istore 5, 2, 0, 0), (15, .iload 5, 2, 0, 0), (17, .iload 4, 2, 0, 0), (19, .if_icmp .ge 78, 3, 0, 0), (22, .iload 5, 2, 0, 0), (24, .istore 6, 2, 0, 0), (26, .iload 6, 2, 0, 0), (28, .ifCond .le 52, 3, 0, 0), (31, .aload_n 0, 1, 0, 0), (32, .aload_n 0, 1, 0, 0), (33, .getfield 57, 3, 9, 21), (36, .iload 6, 2, 0, 0), (38, .iconst 1, 1, 0, 0), (39, .isub, 1, 0, 0), (40, .iaload, 1, 0, 0), (41, .iload_n 2, 1, 0, 0), (42, .iload 5, 2, 0, 0), (44, .iadd, 1, 0, 0), (45, .aload_n 0, 1, 0, 0), (46, .getfield 36, 3, 9, 14), (49, .iload_n 1, 1, 0, 0), (50, .iaload, 1, 0, 0), (51, .iload_n 3, 1, 0, 0), (52, .invokevirtual 249, 3, 226, 4), (55, .ifCond .eq 25, 3, 0, 0), (58, .aload_n 0, 1, 0, 0), (59, .getfield 57, 3, 9, 21), (62, .iload 6, 2, 0, 0), (64, .aload_n 0, 1, 0, 0), (65, .getfield 57, 3, 9, 21), (68, .iload 6, 2, 0, 0), (70, .iconst 1, 1, 0, 0), (71, .isub, 1, 0, 0), (72, .iaload, 1, 0, 0), (73, .iastore, 1, 0, 0), (74, .iinc 6 (-1), 3, 0, 0), (77, .goto (-51), 3, 0, 0), (80, .aload_n 0, 1, 0, 0), (81, .getfield 57, 3, 9, 21), (84, .iload 6, 2, 0, 0), (86, .iload_n 2, 1, 0, 0), (87, .iload 5, 2, 0, 0), (89, .iadd, 1, 0, 0), (90, .iastore, 1, 0, 0), (91, .iinc 5 1, 3, 0, 0), (94, .goto (-79), 3, 0, 0), (97, .aload_n 0, 1, 0, 0), (98, .invokevirtual 183, 3, 204, 0), (101, .iconst 0, 1, 0, 0), (102, .istore 5, 2, 0, 0), (104, .iconst 0, 1, 0, 0), (105, .istore 6, 2, 0, 0), (107, .iload 6, 2, 0, 0), (109, .iload 4, 2, 0, 0), (111, .if_icmp .ge 48, 3, 0, 0), (114, .aload_n 0, 1, 0, 0), (115, .iload_n 2, 1, 0, 0), (116, .iload 6, 2, 0, 0), (118, .iadd, 1, 0, 0), (119, .aload_n 0, 1, 0, 0), (120, .getfield 57, 3, 9, 21), (123, .iload 6, 2, 0, 0), (125, .iaload, 1, 0, 0), (126, .invokevirtual 186, 3, 205, 2), (129, .iload 5, 2, 0, 0), (131, .aload_n 0, 1, 0, 0), (132, .getfield 57, 3, 9, 21), (135, .iload 6, 2, 0, 0), (137, .iaload, 1, 0, 0), (138, .iload_n 2, 1, 0, 0), (139, .iload 6, 2, 0, 0), (141, .iadd, 1, 0, 0), (142, .if_icmp .ne 7, 3, 0, 0), (145, .iconst 0, 1, 0, 0), (146, .goto 4, 3, 0, 0), (149, .iconst 1, 1, 0, 0), (150, .iadd, 1, 0, 0), (151, .istore 5, 2, 0, 0), (153, .iinc 6 1, 3, 0, 0), (156, .goto (-49), 3, 0, 0), (159, .iload 5, 2, 0, 0), (161, .ireturn, 1, 0, 0)], [], 6, 145)
def zX10_sort : zI := (yX10_sort, cX10_sort, 5, (some .int), [(0, .aload_n 0, 1, 0, 0), (1, .iload_n 1, 1, 0, 0), (2, .invokevirtual 253, 3, 223, 1), (5, .istore 4, 2, 0, 0), (7, .aload_n 0, 1, 0, 0), (8, .iload 4, 2, 0, 0), (10, .ifCond .ne 7, 3, 0, 0), (13, .iconst 1, 1, 0, 0), (14, .goto 31, 3, 0, 0), (17, .iload_n 2, 1, 0, 0), (18, .iconst 0, 1, 0, 0), (19, .aload_n 0, 1, 0, 0), (20, .getfield 42, 3, 9, 16), (23, .iload_n 1, 1, 0, 0), (24, .iaload, 1, 0, 0), (25, .aload_n 0, 1, 0, 0), (26, .getfield 39, 3, 9, 15), (29, .iload_n 1, 1, 0, 0), (30, .iaload, 1, 0, 0), (31, .isub, 1, 0, 0), (32, .iconst 1, 1, 0, 0), (33, .iadd, 1, 0, 0), (34, .invokestatic 70, 3, 161, 3), (37, .ifCond .eq 7, 3, 0, 0), (40, .iconst 0, 1, 0, 0), (41, .goto 4, 3, 0, 0), (44, .iconst 2, 1, 0, 0), (45, .putfield 63, 3, 9, 0), (48, .aload_n 0, 1, 0, 0), (49, .getfield 63, 3, 9, 0), (52, .ifCond .le 5, 3, 0, 0), (55, .iconst 0, 1, 0, 0), (56, .ireturn, 1, 0, 0), (57, .aload_n 0, 1, 0, 0), (58, .invokevirtual 126, 3, 177, 0), (61, .aload_n 0, 1, 0, 0), (62, .iload_n 1, 1, 0, 0), (63, .aload_n 0, 1, 0, 0), (64, .getfield 39, 3, 9, 15), (67, .iload_n 1, 1, 0, 0), (68, .iaload, 1, 0, 0), (69, .iload_n 2, 1, 0, 0), (70, .iadd, 1, 0, 0), (71, .iload_n 3, 1, 0, 0), (72, .invokevirtual 256, 3, 227, 3), (75, .ireturn, 1, 0, 0)], [], 10, 234)
def zX10_hasRoom : zI := (yX10_hasRoom, cX10_hasRoom, 4, (some .boolean), [(0, .iconst 1, 1, 0, 0), (1, .istore_n 2, 1, 0, 0), (2, .aload_n 0, 1, 0, 0), (3, .getfield 39, 3, 9, 15), (6, .iload_n 1, 1, 0, 0), (7, .iaload, 1, 0, 0), (8, .istore_n 3, 1, 0, 0), (9, .iload_n 3, 1, 0, 0), (10, .aload_n 0, 1, 0, 0), (11, .getfield 42, 3, 9, 16), (14, .iload_n 1, 1, 0, 0), (15, .iaload, 1, 0, 0), (16, .if_icmp .gt 29, 3, 0, 0), (19, .iload_n 2, 1, 0, 0), (20, .ifCond .eq 17, 3, 0, 0), (23, .aload_n 0, 1, 0, 0), (24, .iload_n 3, 1, 0, 0), (25, .invokevirtual 78, 3, 162, 1), (28, .bipush 8, 2, 0, 0), (30, .if_icmp .ge 7, 3, 0, 0), (33, .iconst 1, 1, 0, 0), (34, .goto 4, 3, 0, 0), (37, .iconst 0, 1, 0, 0), (38, .istore_n 2, 1, 0, 0), (39, .iinc 3 1, 3, 0, 0), (42, .goto (-33), 3, 0, 0), (45, .iload_n 2, 1, 0, 0), (46, .ireturn, 1, 0, 0)], [], 1, 21)
def zX10_insertColumn : zI := (yX10_insertColumn, cX10_insertColumn, 3, (some .int), [(0, .aload_n 0, 1, 0, 0), (1, .aload_n 0, 1, 0, 0), (2, .iload_n 1, 1, 0, 0), (3, .invokevirtual 253, 3, 223, 1), (6, .ifCond .ne 7, 3, 0, 0), (9, .iconst 1, 1, 0, 0), (10, .goto 16, 3, 0, 0), (13, .aload_n 0, 1, 0, 0), (14, .iload_n 1, 1, 0, 0), (15, .invokevirtual 260, 3, 229, 1), (18, .ifCond .eq 7, 3, 0, 0), (21, .iconst 0, 1, 0, 0), (22, .goto 4, 3, 0, 0), (25, .iconst 2, 1, 0, 0), (26, .putfield 63, 3, 9, 0), (29, .aload_n 0, 1, 0, 0), (30, .getfield 63, 3, 9, 0), (33, .ifCond .le 5, 3, 0, 0), (36, .iconst 0, 1, 0, 0), (37, .ireturn, 1, 0, 0), (38, .aload_n 0, 1, 0, 0), (39, .invokevirtual 126, 3, 177, 0), (42, .aload_n 0, 1, 0, 0), (43, .getfield 39, 3, 9, 15), (46, .iload_n 1, 1, 0, 0), (47, .iaload, 1, 0, 0), (48, .istore_n 2, 1, 0, 0), (49, .iload_n 2, 1, 0, 0), (50, .aload_n 0, 1, 0, 0), (51, .getfield 42, 3, 9, 16), (54, .iload_n 1, 1, 0, 0), (55, .iaload, 1, 0, 0), (56, .if_icmp .gt 20, 3, 0, 0), (59, .aload_n 0, 1, 0, 0), (60, .iload_n 2, 1, 0, 0), (61, .aload_n 0, 1, 0, 0), (62, .getfield 36, 3, 9, 14), (65, .iload_n 1, 1, 0, 0), (66, .iaload, 1, 0, 0), (67, .invokevirtual 139, 3, 174, 2), (70, .iinc 2 1, 3, 0, 0), (73, .goto (-24), 3, 0, 0), (76, .aload_n 0, 1, 0, 0), (77, .getfield 42, 3, 9, 16), (80, .iload_n 1, 1, 0, 0), (81, .iaload, 1, 0, 0), (82, .aload_n 0, 1, 0, 0), (83, .getfield 39, 3, 9, 15), (86, .iload_n 1, 1, 0, 0), (87, .iaload, 1, 0, 0), (88, .isub, 1, 0, 0), (89, .iconst 1, 1, 0, 0), (90, .iadd, 1, 0, 0), (91, .ireturn, 1, 0, 0)], [], 10, 234)
def zX10_removeColumn : zI := (yX10_removeColumn, cX10_removeColumn, 4, (some .int), [(0, .aload_n 0, 1, 0, 0), (1, .aload_n 0, 1, 0, 0), (2, .iload_n 1, 1, 0, 0), (3, .invokevirtual 253, 3, 223, 1), (6, .ifCond .eq 7, 3, 0, 0), (9, .iconst 0, 1, 0, 0), (10, .goto 4, 3, 0, 0), (13, .iconst 1, 1, 0, 0), (14, .putfield 63, 3, 9, 0), (17, .aload_n 0, 1, 0, 0), (18, .getfield 63, 3, 9, 0), (21, .ifCond .le 5, 3, 0, 0), (24, .iconst 0, 1, 0, 0), (25, .ireturn, 1, 0, 0), (26, .aload_n 0, 1, 0, 0), (27, .invokevirtual 126, 3, 177, 0), (30, .iconst 0, 1, 0, 0), (31, .istore_n 2, 1, 0, 0), (32, .aload_n 0, 1, 0, 0), (33, .getfield 39, 3, 9, 15), (36, .iload_n 1, 1, 0, 0), (37, .iaload, 1, 0, 0), (38, .istore_n 3, 1, 0, 0), (39, .iload_n 3, 1, 0, 0), (40, .aload_n 0, 1, 0, 0), (41, .getfield 42, 3, 9, 16), (44, .iload_n 1, 1, 0, 0), (45, .iaload, 1, 0, 0), (46, .if_icmp .gt 42, 3, 0, 0), (49, .iload_n 2, 1, 0, 0), (50, .aload_n 0, 1, 0, 0), (51, .iload_n 3, 1, 0, 0), (52, .aload_n 0, 1, 0, 0), (53, .getfield 36, 3, 9, 14), (56, .iload_n 1, 1, 0, 0), (57, .iaload, 1, 0, 0), (58, .invokevirtual 196, 3, 207, 2), (61, .ifCond .eq 7, 3, 0, 0), (64, .iconst 0, 1, 0, 0), (65, .goto 4, 3, 0, 0), (68, .iconst 1, 1, 0, 0), (69, .iadd, 1, 0, 0), (70, .istore_n 2, 1, 0, 0), (71, .aload_n 0, 1, 0, 0), (72, .iload_n 3, 1, 0, 0), (73, .aload_n 0, 1, 0, 0), (74, .getfield 36, 3, 9, 14), (77, .iload_n 1, 1, 0, 0), (78, .iaload, 1, 0, 0), (79, .invokevirtual 174, 3, 175, 2), (82, .iinc 3 1, 3, 0, 0), (85, .goto (-46), 3, 0, 0), (88, .iload_n 2, 1, 0, 0), (89, .ireturn, 1, 0, 0)], [], 10, 234)
def zX10_runAt : zI := (yX10_runAt, cX10_runAt, 5, (some .int), [(0, .iload_n 3, 1, 0, 0), (1, .istore 4, 2, 0, 0), (3, .iload 4, 2, 0, 0), (5, .aload_n 0, 1, 0, 0), (6, .iload_n 1, 1, 0, 0), (7, .iload_n 2, 1, 0, 0), (8, .invokevirtual 86, 3, 163, 2), (11, .if_icmp .ge 22, 3, 0, 0), (14, .aload_n 0, 1, 0, 0), (15, .iload_n 1, 1, 0, 0), (16, .iload_n 2, 1, 0, 0), (17, .iload 4, 2, 0, 0), (19, .invokevirtual 94, 3, 166, 3), (22, .bipush 32, 2, 0, 0), (24, .if_icmp .ne 9, 3, 0, 0), (27, .iinc 4 1, 3, 0, 0), (30, .goto (-27), 3, 0, 0), (33, .iload 4, 2, 0, 0), (35, .iload_n 3, 1, 0, 0), (36, .isub, 1, 0, 0), (37, .ireturn, 1, 0, 0)], [], 2, 45)
def zX10_runs : zI := (yX10_runs, cX10_runs, 7, (some .int), [(0, .iconst 0, 1, 0, 0), (1, .istore_n 3, 1, 0, 0), (2, .iconst 0, 1, 0, 0), (3, .istore 4, 2, 0, 0), (5, .iload 4, 2, 0, 0), (7, .aload_n 0, 1, 0, 0), (8, .iload_n 1, 1, 0, 0), (9, .invokevirtual 78, 3, 162, 1), (12, .if_icmp .ge 61, 3, 0, 0), (15, .iconst 0, 1, 0, 0), (16, .istore 5, 2, 0, 0), (18, .iload 5, 2, 0, 0), (20, .aload_n 0, 1, 0, 0), (21, .iload_n 1, 1, 0, 0), (22, .iload 4, 2, 0, 0), (24, .invokevirtual 86, 3, 163, 2), (27, .if_icmp .ge 40, 3, 0, 0), (30, .aload_n 0, 1, 0, 0), (31, .iload_n 1, 1, 0, 0), (32, .iload 4, 2, 0, 0), (34, .iload 5, 2, 0, 0), (36, .invokevirtual 263, 3, 232, 3), (39, .istore 6, 2, 0, 0), (41, .iload_n 3, 1, 0, 0), (42, .iload 6, 2, 0, 0), (44, .iload_n 2, 1, 0, 0), (45, .if_icmp .lt 7, 3, 0, 0), (48, .iconst 1, 1, 0, 0), (49, .goto 4, 3, 0, 0), (52, .iconst 0, 1, 0, 0), (53, .iadd, 1, 0, 0), (54, .istore_n 3, 1, 0, 0), (55, .iload 5, 2, 0, 0), (57, .iload 6, 2, 0, 0), (59, .iconst 1, 1, 0, 0), (60, .iadd, 1, 0, 0), (61, .iadd, 1, 0, 0), (62, .istore 5, 2, 0, 0), (64, .goto (-46), 3, 0, 0), (67, .iinc 4 1, 3, 0, 0), (70, .goto (-65), 3, 0, 0), (73, .iload_n 3, 1, 0, 0), (74, .ireturn, 1, 0, 0)], [], 3, 69)
def zX10_makeTabs : zI := (yX10_makeTabs, cX10_makeTabs, 6, none, [(0, .iconst 0, 1, 0, 0), (1, .istore_n 3, 1, 0, 0), (2, .iload_n 3, 1, 0, 0), (3, .aload_n 0, 1, 0, 0), (4, .iload_n 1, 1, 0, 0), (5, .invokevirtual 78, 3, 162, 1), (8, .if_icmp .ge 85, 3, 0, 0), (11, .iconst 0, 1, 0, 0), (12, .istore 4, 2, 0, 0), (14, .iload 4, 2, 0, 0), (16, .aload_n 0, 1, 0, 0), (17, .iload_n 1, 1, 0, 0), (18, .iload_n 3, 1, 0, 0), (19, .invokevirtual 86, 3, 163, 2), (22, .if_icmp .ge 65, 3, 0, 0), (25, .aload_n 0, 1, 0, 0), (26, .iload_n 1, 1, 0, 0), (27, .iload_n 3, 1, 0, 0), (28, .iload 4, 2, 0, 0), (30, .invokevirtual 263, 3, 232, 3), (33, .istore 5, 2, 0, 0), (35, .iload 5, 2, 0, 0), (37, .iload_n 2, 1, 0, 0), (38, .if_icmp .lt 37, 3, 0, 0), (41, .aload_n 0, 1, 0, 0), (42, .iload_n 1, 1, 0, 0), (43, .iload_n 3, 1, 0, 0), (44, .iconst 1, 1, 0, 0), (45, .iadd, 1, 0, 0), (46, .invokevirtual 139, 3, 174, 2), (49, .aload_n 0, 1, 0, 0), (50, .iload_n 1, 1, 0, 0), (51, .iload_n 3, 1, 0, 0), (52, .iload 4, 2, 0, 0), (54, .iload 5, 2, 0, 0), (56, .iadd, 1, 0, 0), (57, .iload_n 1, 1, 0, 0), (58, .iload_n 3, 1, 0, 0), (59, .iconst 1, 1, 0, 0), (60, .iadd, 1, 0, 0), (61, .invokevirtual 142, 3, 176, 5), (64, .aload_n 0, 1, 0, 0), (65, .iload_n 1, 1, 0, 0), (66, .iload_n 3, 1, 0, 0), (67, .iload 4, 2, 0, 0), (69, .invokevirtual 90, 3, 164, 3), (72, .goto 12, 3, 0, 0), (75, .iload 4, 2, 0, 0), (77, .iload 5, 2, 0, 0), (79, .iconst 1, 1, 0, 0), (80, .iadd, 1, 0, 0), (81, .iadd, 1, 0, 0), (82, .istore 4, 2, 0, 0), (84, .goto (-70), 3, 0, 0), (87, .iinc 3 1, 3, 0, 0), (90, .goto (-88), 3, 0, 0), (93, .return_, 1, 0, 0)], [], 4, 93)
def zX10_retab : zI := (yX10_retab, cX10_retab, 4, (some .int), [(0, .aload_n 0, 1, 0, 0), (1, .aload_n 0, 1, 0, 0), (2, .iload_n 1, 1, 0, 0), (3, .invokevirtual 74, 3, 167, 1), (6, .ifCond .ne 7, 3, 0, 0), (9, .iconst 1, 1, 0, 0), (10, .goto 39, 3, 0, 0), (13, .iload_n 2, 1, 0, 0), (14, .iconst 1, 1, 0, 0), (15, .bipush 16, 2, 0, 0), (17, .invokestatic 70, 3, 161, 3), (20, .ifCond .ne 7, 3, 0, 0), (23, .iconst 2, 1, 0, 0), (24, .goto 25, 3, 0, 0), (27, .aload_n 0, 1, 0, 0), (28, .iload_n 1, 1, 0, 0), (29, .invokevirtual 78, 3, 162, 1), (32, .aload_n 0, 1, 0, 0), (33, .iload_n 1, 1, 0, 0), (34, .iload_n 2, 1, 0, 0), (35, .invokevirtual 266, 3, 233, 2), (38, .iadd, 1, 0, 0), (39, .bipush 8, 2, 0, 0), (41, .if_icmp .gt 7, 3, 0, 0), (44, .iconst 0, 1, 0, 0), (45, .goto 4, 3, 0, 0), (48, .iconst 3, 1, 0, 0), (49, .putfield 63, 3, 9, 0), (52, .aload_n 0, 1, 0, 0), (53, .getfield 63, 3, 9, 0), (56, .ifCond .le 5, 3, 0, 0), (59, .iconst 0, 1, 0, 0), (60, .ireturn, 1, 0, 0), (61, .aload_n 0, 1, 0, 0), (62, .invokevirtual 126, 3, 177, 0), (65, .aload_n 0, 1, 0, 0), (66, .iload_n 1, 1, 0, 0), (67, .iload_n 2, 1, 0, 0), (68, .invokevirtual 266, 3, 233, 2), (71, .istore_n 3, 1, 0, 0), (72, .aload_n 0, 1, 0, 0), (73, .iload_n 1, 1, 0, 0), (74, .iload_n 2, 1, 0, 0), (75, .invokevirtual 269, 3, 234, 2), (78, .iload_n 3, 1, 0, 0), (79, .ireturn, 1, 0, 0)], [], 5, 118)
def zX10_setAlignment : zI := (yX10_setAlignment, cX10_setAlignment, 4, (some .int), [(0, .aload_n 0, 1, 0, 0), (1, .iload_n 1, 1, 0, 0), (2, .iconst 0, 1, 0, 0), (3, .bipush 6, 2, 0, 0), (5, .invokestatic 70, 3, 161, 3), (8, .ifCond .eq 16, 3, 0, 0), (11, .iload_n 2, 1, 0, 0), (12, .iconst 0, 1, 0, 0), (13, .iconst 3, 1, 0, 0), (14, .invokestatic 70, 3, 161, 3), (17, .ifCond .eq 7, 3, 0, 0), (20, .iconst 0, 1, 0, 0), (21, .goto 4, 3, 0, 0), (24, .iconst 1, 1, 0, 0), (25, .putfield 63, 3, 9, 0), (28, .aload_n 0, 1, 0, 0), (29, .getfield 63, 3, 9, 0), (32, .ifCond .le 5, 3, 0, 0), (35, .iconst 0, 1, 0, 0), (36, .ireturn, 1, 0, 0), (37, .aload_n 0, 1, 0, 0), (38, .getfield 23, 3, 9, 7), (41, .iload_n 1, 1, 0, 0), (42, .iaload, 1, 0, 0), (43, .istore_n 3, 1, 0, 0), (44, .aload_n 0, 1, 0, 0), (45, .getfield 23, 3, 9, 7), (48, .iload_n 1, 1, 0, 0), (49, .iload_n 2, 1, 0, 0), (50, .iastore, 1, 0, 0), (51, .iload_n 3, 1, 0, 0), (52, .ireturn, 1, 0, 0)], [], 1, 22)
def zX10_setSpacing : zI := (yX10_setSpacing, cX10_setSpacing, 5, (some .int), [(0, .iload_n 1, 1, 0, 0), (1, .ifCond .ne 13, 3, 0, 0), (4, .iload_n 2, 1, 0, 0), (5, .iconst 0, 1, 0, 0), (6, .bipush 8, 2, 0, 0), (8, .invokestatic 70, 3, 161, 3), (11, .goto 38, 3, 0, 0), (14, .iload_n 1, 1, 0, 0), (15, .iconst 1, 1, 0, 0), (16, .if_icmp .ne 13, 3, 0, 0), (19, .iload_n 2, 1, 0, 0), (20, .iconst 0, 1, 0, 0), (21, .bipush 20, 2, 0, 0), (23, .invokestatic 70, 3, 161, 3), (26, .goto 23, 3, 0, 0), (29, .iload_n 1, 1, 0, 0), (30, .iconst 2, 1, 0, 0), (31, .if_icmp .ne 17, 3, 0, 0), (34, .iload_n 2, 1, 0, 0), (35, .iconst 1, 1, 0, 0), (36, .bipush 8, 2, 0, 0), (38, .invokestatic 70, 3, 161, 3), (41, .ifCond .eq 7, 3, 0, 0), (44, .iconst 1, 1, 0, 0), (45, .goto 4, 3, 0, 0), (48, .iconst 0, 1, 0, 0), (49, .istore_n 3, 1, 0, 0), (50, .aload_n 0, 1, 0, 0), (51, .iload_n 3, 1, 0, 0), (52, .ifCond .eq 7, 3, 0, 0), (55, .iconst 0, 1, 0, 0), (56, .goto 4, 3, 0, 0), (59, .iconst 1, 1, 0, 0), (60, .putfield 63, 3, 9, 0), (63, .aload_n 0, 1, 0, 0), (64, .getfield 63, 3, 9, 0), (67, .ifCond .le 5, 3, 0, 0), (70, .iconst 0, 1, 0, 0), (71, .ireturn, 1, 0, 0), (72, .iload_n 1, 1, 0, 0), (73, .ifCond .ne 10, 3, 0, 0), (76, .aload_n 0, 1, 0, 0), (77, .getfield 26, 3, 9, 8), (80, .goto 19, 3, 0, 0), (83, .iload_n 1, 1, 0, 0), (84, .iconst 1, 1, 0, 0), (85, .if_icmp .ne 10, 3, 0, 0), (88, .aload_n 0, 1, 0, 0), (89, .getfield 221, 3, 9, 9), (92, .goto 7, 3, 0, 0), (95, .aload_n 0, 1, 0, 0), (96, .getfield 30, 3, 9, 10), (99, .istore 4, 2, 0, 0), (101, .aload_n 0, 1, 0, 0), (102, .iload_n 1, 1, 0, 0), (103, .ifCond .ne 7, 3, 0, 0), (106, .iload_n 2, 1, 0, 0), (107, .goto 7, 3, 0, 0), (110, .aload_n 0, 1, 0, 0), (111, .getfield 26, 3, 9, 8), (114, .putfield 26, 3, 9, 8), (117, .aload_n 0, 1, 0, 0), (118, .iload_n 1, 1, 0, 0), (119, .iconst 1, 1, 0, 0), (120, .if_icmp .ne 7, 3, 0, 0), (123, .iload_n 2, 1, 0, 0), (124, .goto 7, 3, 0, 0), (127, .aload_n 0, 1, 0, 0), (128, .getfield 221, 3, 9, 9), (131, .putfield 221, 3, 9, 9), (134, .aload_n 0, 1, 0, 0), (135, .iload_n 1, 1, 0, 0), (136, .iconst 2, 1, 0, 0), (137, .if_icmp .ne 7, 3, 0, 0), (140, .iload_n 2, 1, 0, 0), (141, .goto 7, 3, 0, 0), (144, .aload_n 0, 1, 0, 0), (145, .getfield 30, 3, 9, 10), (148, .putfield 30, 3, 9, 10), (151, .iload 4, 2, 0, 0), (153, .ireturn, 1, 0, 0)], [], 1, 22)
def zX10_allCells : zI := (yX10_allCells, cX10_allCells, 3, (some .int), [(0, .iconst 0, 1, 0, 0), (1, .istore_n 1, 1, 0, 0), (2, .iconst 0, 1, 0, 0), (3, .istore_n 2, 1, 0, 0), (4, .iload_n 2, 1, 0, 0), (5, .aload_n 0, 1, 0, 0), (6, .getfield 7, 3, 9, 1), (9, .iconst 0, 1, 0, 0), (10, .iaload, 1, 0, 0), (11, .if_icmp .ge 17, 3, 0, 0), (14, .iload_n 1, 1, 0, 0), (15, .aload_n 0, 1, 0, 0), (16, .iload_n 2, 1, 0, 0), (17, .invokevirtual 78, 3, 162, 1), (20, .iadd, 1, 0, 0), (21, .istore_n 1, 1, 0, 0), (22, .iinc 2 1, 3, 0, 0), (25, .goto (-21), 3, 0, 0), (28, .iload_n 1, 1, 0, 0), (29, .ireturn, 1, 0, 0)], [], 1, 21)
def zX10_signsIn : zI := (yX10_signsIn, cX10_signsIn, 4, (some .int), [(0, .iconst 0, 1, 0, 0), (1, .istore_n 2, 1, 0, 0), (2, .iconst 0, 1, 0, 0), (3, .istore_n 3, 1, 0, 0), (4, .iload_n 3, 1, 0, 0), (5, .aload_n 0, 1, 0, 0), (6, .iload_n 1, 1, 0, 0), (7, .invokevirtual 78, 3, 162, 1), (10, .if_icmp .ge 18, 3, 0, 0), (13, .iload_n 2, 1, 0, 0), (14, .aload_n 0, 1, 0, 0), (15, .iload_n 1, 1, 0, 0), (16, .iload_n 3, 1, 0, 0), (17, .invokevirtual 86, 3, 163, 2), (20, .iadd, 1, 0, 0), (21, .istore_n 2, 1, 0, 0), (22, .iinc 3 1, 3, 0, 0), (25, .goto (-21), 3, 0, 0), (28, .iload_n 2, 1, 0, 0), (29, .ireturn, 1, 0, 0)], [], 1, 22)
def zX10_allSigns : zI := (yX10_allSigns, cX10_allSigns, 3, (some .int), [(0, .iconst 0, 1, 0, 0), (1, .istore_n 1, 1, 0, 0), (2, .iconst 0, 1, 0, 0), (3, .istore_n 2, 1, 0, 0), (4, .iload_n 2, 1, 0, 0), (5, .aload_n 0, 1, 0, 0), (6, .getfield 7, 3, 9, 1), (9, .iconst 0, 1, 0, 0), (10, .iaload, 1, 0, 0), (11, .if_icmp .ge 17, 3, 0, 0), (14, .iload_n 1, 1, 0, 0), (15, .aload_n 0, 1, 0, 0), (16, .iload_n 2, 1, 0, 0), (17, .invokevirtual 272, 3, 239, 1), (20, .iadd, 1, 0, 0), (21, .istore_n 1, 1, 0, 0), (22, .iinc 2 1, 3, 0, 0), (25, .goto (-21), 3, 0, 0), (28, .iload_n 1, 1, 0, 0), (29, .ireturn, 1, 0, 0)], [], 2, 45)
def zX10_ofKind : zI := (yX10_ofKind, cX10_ofKind, 5, (some .int), [(0, .iconst 0, 1, 0, 0), (1, .istore_n 2, 1, 0, 0), (2, .iconst 0, 1, 0, 0), (3, .istore_n 3, 1, 0, 0), (4, .iload_n 3, 1, 0, 0), (5, .aload_n 0, 1, 0, 0), (6, .getfield 7, 3, 9, 1), (9, .iconst 0, 1, 0, 0), (10, .iaload, 1, 0, 0), (11, .if_icmp .ge 47, 3, 0, 0), (14, .iconst 0, 1, 0, 0), (15, .istore 4, 2, 0, 0), (17, .iload 4, 2, 0, 0), (19, .aload_n 0, 1, 0, 0), (20, .iload_n 3, 1, 0, 0), (21, .invokevirtual 78, 3, 162, 1), (24, .if_icmp .ge 28, 3, 0, 0), (27, .iload_n 2, 1, 0, 0), (28, .aload_n 0, 1, 0, 0), (29, .iload_n 3, 1, 0, 0), (30, .iload 4, 2, 0, 0), (32, .invokevirtual 209, 3, 210, 2), (35, .iload_n 1, 1, 0, 0), (36, .if_icmp .ne 7, 3, 0, 0), (39, .iconst 1, 1, 0, 0), (40, .goto 4, 3, 0, 0), (43, .iconst 0, 1, 0, 0), (44, .iadd, 1, 0, 0), (45, .istore_n 2, 1, 0, 0), (46, .iinc 4 1, 3, 0, 0), (49, .goto (-32), 3, 0, 0), (52, .iinc 3 1, 3, 0, 0), (55, .goto (-51), 3, 0, 0), (58, .iload_n 2, 1, 0, 0), (59, .ireturn, 1, 0, 0)], [], 5, 117)
def zX10_longest : zI := (yX10_longest, cX10_longest, 3, (some .int), [(0, .iconst 0, 1, 0, 0), (1, .istore_n 1, 1, 0, 0), (2, .iconst 0, 1, 0, 0), (3, .istore_n 2, 1, 0, 0), (4, .iload_n 2, 1, 0, 0), (5, .aload_n 0, 1, 0, 0), (6, .getfield 7, 3, 9, 1), (9, .iconst 0, 1, 0, 0), (10, .iaload, 1, 0, 0), (11, .if_icmp .ge 28, 3, 0, 0), (14, .aload_n 0, 1, 0, 0), (15, .iload_n 2, 1, 0, 0), (16, .invokevirtual 275, 3, 222, 1), (19, .iload_n 1, 1, 0, 0), (20, .if_icmp .le 11, 3, 0, 0), (23, .aload_n 0, 1, 0, 0), (24, .iload_n 2, 1, 0, 0), (25, .invokevirtual 275, 3, 222, 1), (28, .goto 4, 3, 0, 0), (31, .iload_n 1, 1, 0, 0), (32, .istore_n 1, 1, 0, 0), (33, .iinc 2 1, 3, 0, 0), (36, .goto (-32), 3, 0, 0), (39, .iload_n 1, 1, 0, 0), (40, .ireturn, 1, 0, 0)], [], 6, 134)
def zX10_counted : zI := (yX10_counted, cX10_counted, 2, (some .int), [(0, .iload_n 1, 1, 0, 0), (1, .tableswitch 91 0 7 #[47, 54, 59, 64, 69, 75, 81, 86], 47, 0, 0), (48, .aload_n 0, 1, 0, 0), (49, .getfield 7, 3, 9, 1), (52, .iconst 0, 1, 0, 0), (53, .iaload, 1, 0, 0), (54, .ireturn, 1, 0, 0), (55, .aload_n 0, 1, 0, 0), (56, .invokevirtual 278, 3, 238, 0), (59, .ireturn, 1, 0, 0), (60, .aload_n 0, 1, 0, 0), (61, .invokevirtual 281, 3, 240, 0), (64, .ireturn, 1, 0, 0), (65, .aload_n 0, 1, 0, 0), (66, .getfield 224, 3, 9, 13), (69, .ireturn, 1, 0, 0), (70, .aload_n 0, 1, 0, 0), (71, .iconst 1, 1, 0, 0), (72, .invokevirtual 284, 3, 241, 1), (75, .ireturn, 1, 0, 0), (76, .aload_n 0, 1, 0, 0), (77, .iconst 0, 1, 0, 0), (78, .invokevirtual 284, 3, 241, 1), (81, .ireturn, 1, 0, 0), (82, .aload_n 0, 1, 0, 0), (83, .invokevirtual 287, 3, 242, 0), (86, .ireturn, 1, 0, 0), (87, .aload_n 0, 1, 0, 0), (88, .getfield 105, 3, 9, 5), (91, .ireturn, 1, 0, 0), (92, .aload_n 0, 1, 0, 0), (93, .getfield 108, 3, 9, 6), (96, .ireturn, 1, 0, 0)], [], 7, 156)
def zX10_count : zI := (yX10_count, cX10_count, 2, (some .int), [(0, .aload_n 0, 1, 0, 0), (1, .iload_n 1, 1, 0, 0), (2, .iconst 0, 1, 0, 0), (3, .bipush 8, 2, 0, 0), (5, .invokestatic 70, 3, 161, 3), (8, .ifCond .eq 7, 3, 0, 0), (11, .iconst 0, 1, 0, 0), (12, .goto 4, 3, 0, 0), (15, .iconst 1, 1, 0, 0), (16, .putfield 63, 3, 9, 0), (19, .aload_n 0, 1, 0, 0), (20, .invokevirtual 189, 3, 218, 0), (23, .pop, 1, 0, 0), (24, .aload_n 0, 1, 0, 0), (25, .getfield 63, 3, 9, 0), (28, .ifCond .le 7, 3, 0, 0), (31, .iconst 0, 1, 0, 0), (32, .goto 8, 3, 0, 0), (35, .aload_n 0, 1, 0, 0), (36, .iload_n 1, 1, 0, 0), (37, .invokevirtual 290, 3, 243, 1), (40, .ireturn, 1, 0, 0)], [], 9, 213)
def zX10_fixedLength : zI := (yX10_fixedLength, cX10_fixedLength, 4, (some .int), [(0, .iconst 0, 1, 0, 0), (1, .istore_n 2, 1, 0, 0), (2, .iconst 0, 1, 0, 0), (3, .istore_n 3, 1, 0, 0), (4, .iload_n 3, 1, 0, 0), (5, .aload_n 0, 1, 0, 0), (6, .iload_n 1, 1, 0, 0), (7, .invokevirtual 78, 3, 162, 1), (10, .if_icmp .ge 43, 3, 0, 0), (13, .iload_n 2, 1, 0, 0), (14, .aload_n 0, 1, 0, 0), (15, .iload_n 1, 1, 0, 0), (16, .iload_n 3, 1, 0, 0), (17, .invokevirtual 86, 3, 163, 2), (20, .iadd, 1, 0, 0), (21, .istore_n 2, 1, 0, 0), (22, .iload_n 3, 1, 0, 0), (23, .iconst 1, 1, 0, 0), (24, .iadd, 1, 0, 0), (25, .aload_n 0, 1, 0, 0), (26, .iload_n 1, 1, 0, 0), (27, .invokevirtual 78, 3, 162, 1), (30, .if_icmp .ge 15, 3, 0, 0), (33, .iload_n 2, 1, 0, 0), (34, .bipush 8, 2, 0, 0), (36, .idiv, 1, 0, 0), (37, .iconst 1, 1, 0, 0), (38, .iadd, 1, 0, 0), (39, .bipush 8, 2, 0, 0), (41, .imul, 1, 0, 0), (42, .goto 4, 3, 0, 0), (45, .iload_n 2, 1, 0, 0), (46, .istore_n 2, 1, 0, 0), (47, .iinc 3 1, 3, 0, 0), (50, .goto (-46), 3, 0, 0), (53, .iload_n 2, 1, 0, 0), (54, .ireturn, 1, 0, 0)], [], 1, 22)
def zX10_lineNow : zI := (yX10_lineNow, cX10_lineNow, 3, (some .int), [(0, .iload_n 2, 1, 0, 0), (1, .ifCond .ne 11, 3, 0, 0), (4, .aload_n 0, 1, 0, 0), (5, .iload_n 1, 1, 0, 0), (6, .invokevirtual 78, 3, 162, 1), (9, .goto 34, 3, 0, 0), (12, .iload_n 2, 1, 0, 0), (13, .iconst 1, 1, 0, 0), (14, .if_icmp .ne 11, 3, 0, 0), (17, .aload_n 0, 1, 0, 0), (18, .iload_n 1, 1, 0, 0), (19, .invokevirtual 275, 3, 222, 1), (22, .goto 21, 3, 0, 0), (25, .iload_n 2, 1, 0, 0), (26, .iconst 2, 1, 0, 0), (27, .if_icmp .ne 11, 3, 0, 0), (30, .aload_n 0, 1, 0, 0), (31, .iload_n 1, 1, 0, 0), (32, .invokevirtual 272, 3, 239, 1), (35, .goto 8, 3, 0, 0), (38, .aload_n 0, 1, 0, 0), (39, .iload_n 1, 1, 0, 0), (40, .invokevirtual 293, 3, 245, 1), (43, .ireturn, 1, 0, 0)], [], 6, 134)
def zX10_line : zI := (yX10_line, cX10_line, 3, (some .int), [(0, .aload_n 0, 1, 0, 0), (1, .aload_n 0, 1, 0, 0), (2, .iload_n 1, 1, 0, 0), (3, .invokevirtual 74, 3, 167, 1), (6, .ifCond .ne 7, 3, 0, 0), (9, .iconst 1, 1, 0, 0), (10, .goto 17, 3, 0, 0), (13, .iload_n 2, 1, 0, 0), (14, .iconst 0, 1, 0, 0), (15, .iconst 3, 1, 0, 0), (16, .invokestatic 70, 3, 161, 3), (19, .ifCond .eq 7, 3, 0, 0), (22, .iconst 0, 1, 0, 0), (23, .goto 4, 3, 0, 0), (26, .iconst 2, 1, 0, 0), (27, .putfield 63, 3, 9, 0), (30, .aload_n 0, 1, 0, 0), (31, .invokevirtual 189, 3, 218, 0), (34, .pop, 1, 0, 0), (35, .aload_n 0, 1, 0, 0), (36, .getfield 63, 3, 9, 0), (39, .ifCond .le 7, 3, 0, 0), (42, .iconst 0, 1, 0, 0), (43, .goto 9, 3, 0, 0), (46, .aload_n 0, 1, 0, 0), (47, .iload_n 1, 1, 0, 0), (48, .iload_n 2, 1, 0, 0), (49, .invokevirtual 296, 3, 246, 2), (52, .ireturn, 1, 0, 0)], [], 9, 213)
def zX10_cellNow : zI := (yX10_cellNow, cX10_cellNow, 4, (some .int), [(0, .iload_n 3, 1, 0, 0), (1, .tableswitch 59 0 3 #[31, 38, 45, 52], 31, 0, 0), (32, .aload_n 0, 1, 0, 0), (33, .iload_n 1, 1, 0, 0), (34, .iload_n 2, 1, 0, 0), (35, .invokevirtual 86, 3, 163, 2), (38, .ireturn, 1, 0, 0), (39, .aload_n 0, 1, 0, 0), (40, .iload_n 1, 1, 0, 0), (41, .iload_n 2, 1, 0, 0), (42, .invokevirtual 209, 3, 210, 2), (45, .ireturn, 1, 0, 0), (46, .aload_n 0, 1, 0, 0), (47, .iload_n 1, 1, 0, 0), (48, .iload_n 2, 1, 0, 0), (49, .invokevirtual 236, 3, 220, 2), (52, .ireturn, 1, 0, 0), (53, .aload_n 0, 1, 0, 0), (54, .iload_n 1, 1, 0, 0), (55, .iload_n 2, 1, 0, 0), (56, .invokevirtual 299, 3, 221, 2), (59, .ireturn, 1, 0, 0), (60, .aload_n 0, 1, 0, 0), (61, .iload_n 1, 1, 0, 0), (62, .iload_n 2, 1, 0, 0), (63, .invokevirtual 233, 3, 219, 2), (66, .ireturn, 1, 0, 0)], [], 6, 141)
def zX10_cell : zI := (yX10_cell, cX10_cell, 4, (some .int), [(0, .aload_n 0, 1, 0, 0), (1, .aload_n 0, 1, 0, 0), (2, .iload_n 1, 1, 0, 0), (3, .iload_n 2, 1, 0, 0), (4, .invokevirtual 82, 3, 168, 2), (7, .ifCond .ne 7, 3, 0, 0), (10, .iconst 1, 1, 0, 0), (11, .goto 17, 3, 0, 0), (14, .iload_n 3, 1, 0, 0), (15, .iconst 0, 1, 0, 0), (16, .iconst 4, 1, 0, 0), (17, .invokestatic 70, 3, 161, 3), (20, .ifCond .eq 7, 3, 0, 0), (23, .iconst 0, 1, 0, 0), (24, .goto 4, 3, 0, 0), (27, .iconst 2, 1, 0, 0), (28, .putfield 63, 3, 9, 0), (31, .aload_n 0, 1, 0, 0), (32, .invokevirtual 189, 3, 218, 0), (35, .pop, 1, 0, 0), (36, .aload_n 0, 1, 0, 0), (37, .getfield 63, 3, 9, 0), (40, .ifCond .le 7, 3, 0, 0), (43, .iconst 0, 1, 0, 0), (44, .goto 10, 3, 0, 0), (47, .aload_n 0, 1, 0, 0), (48, .iload_n 1, 1, 0, 0), (49, .iload_n 2, 1, 0, 0), (50, .iload_n 3, 1, 0, 0), (51, .invokevirtual 302, 3, 248, 3), (54, .ireturn, 1, 0, 0)], [], 9, 213)
def zX10_letter : zI := (yX10_letter, cX10_letter, 5, (some .int), [(0, .aload_n 0, 1, 0, 0), (1, .iload_n 1, 1, 0, 0), (2, .iload_n 2, 1, 0, 0), (3, .invokevirtual 82, 3, 168, 2), (6, .ifCond .eq 23, 3, 0, 0), (9, .iload_n 3, 1, 0, 0), (10, .iconst 0, 1, 0, 0), (11, .aload_n 0, 1, 0, 0), (12, .iload_n 1, 1, 0, 0), (13, .iload_n 2, 1, 0, 0), (14, .invokevirtual 86, 3, 163, 2), (17, .iconst 1, 1, 0, 0), (18, .isub, 1, 0, 0), (19, .invokestatic 70, 3, 161, 3), (22, .ifCond .eq 7, 3, 0, 0), (25, .iconst 1, 1, 0, 0), (26, .goto 4, 3, 0, 0), (29, .iconst 0, 1, 0, 0), (30, .istore 4, 2, 0, 0), (32, .aload_n 0, 1, 0, 0), (33, .iload 4, 2, 0, 0), (35, .ifCond .eq 7, 3, 0, 0), (38, .iconst 0, 1, 0, 0), (39, .goto 4, 3, 0, 0), (42, .iconst 1, 1, 0, 0), (43, .putfield 63, 3, 9, 0), (46, .aload_n 0, 1, 0, 0), (47, .getfield 63, 3, 9, 0), (50, .ifCond .le 7, 3, 0, 0), (53, .iconst 0, 1, 0, 0), (54, .goto 10, 3, 0, 0), (57, .aload_n 0, 1, 0, 0), (58, .iload_n 1, 1, 0, 0), (59, .iload_n 2, 1, 0, 0), (60, .iload_n 3, 1, 0, 0), (61, .invokevirtual 94, 3, 166, 3), (64, .ireturn, 1, 0, 0)], [], 3, 65)
def zX10_shownNow : zI := (yX10_shownNow, cX10_shownNow, 6, (some .int), [(0, .bipush 32, 2, 0, 0), (2, .istore_n 3, 1, 0, 0), (3, .iconst 0, 1, 0, 0), (4, .istore 4, 2, 0, 0), (6, .iload 4, 2, 0, 0), (8, .aload_n 0, 1, 0, 0), (9, .iload_n 1, 1, 0, 0), (10, .invokevirtual 78, 3, 162, 1), (13, .if_icmp .ge 60, 3, 0, 0), (16, .iload_n 2, 1, 0, 0), (17, .aload_n 0, 1, 0, 0), (18, .iload_n 1, 1, 0, 0), (19, .iload 4, 2, 0, 0), (21, .invokevirtual 236, 3, 220, 2), (24, .isub, 1, 0, 0), (25, .aload_n 0, 1, 0, 0), (26, .iload_n 1, 1, 0, 0), (27, .iload 4, 2, 0, 0), (29, .invokevirtual 299, 3, 221, 2), (32, .isub, 1, 0, 0), (33, .istore 5, 2, 0, 0), (35, .iload 5, 2, 0, 0), (37, .iconst 0, 1, 0, 0), (38, .aload_n 0, 1, 0, 0), (39, .iload_n 1, 1, 0, 0), (40, .iload 4, 2, 0, 0), (42, .invokevirtual 86, 3, 163, 2), (45, .iconst 1, 1, 0, 0), (46, .isub, 1, 0, 0), (47, .invokestatic 70, 3, 161, 3), (50, .ifCond .eq 15, 3, 0, 0), (53, .aload_n 0, 1, 0, 0), (54, .iload_n 1, 1, 0, 0), (55, .iload 4, 2, 0, 0), (57, .iload 5, 2, 0, 0), (59, .invokevirtual 94, 3, 166, 3), (62, .goto 4, 3, 0, 0), (65, .iload_n 3, 1, 0, 0), (66, .istore_n 3, 1, 0, 0), (67, .iinc 4 1, 3, 0, 0), (70, .goto (-64), 3, 0, 0), (73, .iload_n 3, 1, 0, 0), (74, .ireturn, 1, 0, 0)], [], 6, 141)
def zX10_shown : zI := (yX10_shown, cX10_shown, 3, (some .int), [(0, .aload_n 0, 1, 0, 0), (1, .aload_n 0, 1, 0, 0), (2, .iload_n 1, 1, 0, 0), (3, .invokevirtual 74, 3, 167, 1), (6, .ifCond .eq 11, 3, 0, 0), (9, .iload_n 2, 1, 0, 0), (10, .ifCond .lt 7, 3, 0, 0), (13, .iconst 0, 1, 0, 0), (14, .goto 4, 3, 0, 0), (17, .iconst 1, 1, 0, 0), (18, .putfield 63, 3, 9, 0), (21, .aload_n 0, 1, 0, 0), (22, .invokevirtual 189, 3, 218, 0), (25, .pop, 1, 0, 0), (26, .aload_n 0, 1, 0, 0), (27, .getfield 63, 3, 9, 0), (30, .ifCond .le 7, 3, 0, 0), (33, .iconst 0, 1, 0, 0), (34, .goto 9, 3, 0, 0), (37, .aload_n 0, 1, 0, 0), (38, .iload_n 1, 1, 0, 0), (39, .iload_n 2, 1, 0, 0), (40, .invokevirtual 305, 3, 251, 2), (43, .ireturn, 1, 0, 0)], [], 9, 213)
def zX10_hit : zI := (yX10_hit, cX10_hit, 5, (some .int), [(0, .aload_n 0, 1, 0, 0), (1, .aload_n 0, 1, 0, 0), (2, .iload_n 1, 1, 0, 0), (3, .invokevirtual 74, 3, 167, 1), (6, .ifCond .eq 11, 3, 0, 0), (9, .iload_n 2, 1, 0, 0), (10, .ifCond .lt 7, 3, 0, 0), (13, .iconst 0, 1, 0, 0), (14, .goto 4, 3, 0, 0), (17, .iconst 1, 1, 0, 0), (18, .putfield 63, 3, 9, 0), (21, .aload_n 0, 1, 0, 0), (22, .invokevirtual 189, 3, 218, 0), (25, .pop, 1, 0, 0), (26, .iconst 0, 1, 0, 0), (27, .istore_n 3, 1, 0, 0), (28, .iconst 0, 1, 0, 0), (29, .istore 4, 2, 0, 0), (31, .aload_n 0, 1, 0, 0), (32, .getfield 63, 3, 9, 0), (35, .ifCond .ne 37, 3, 0, 0), (38, .iload 4, 2, 0, 0), (40, .aload_n 0, 1, 0, 0), (41, .iload_n 1, 1, 0, 0), (42, .invokevirtual 78, 3, 162, 1), (45, .if_icmp .ge 27, 3, 0, 0), (48, .aload_n 0, 1, 0, 0), (49, .iload_n 1, 1, 0, 0), (50, .iload 4, 2, 0, 0), (52, .invokevirtual 236, 3, 220, 2), (55, .iload_n 2, 1, 0, 0), (56, .if_icmp .gt 8, 3, 0, 0), (59, .iload 4, 2, 0, 0), (61, .goto 4, 3, 0, 0), (64, .iload_n 3, 1, 0, 0), (65, .istore_n 3, 1, 0, 0), (66, .iinc 4 1, 3, 0, 0), (69, .goto (-38), 3, 0, 0), (72, .iload_n 3, 1, 0, 0), (73, .ireturn, 1, 0, 0)], [], 9, 213)
def zX10_isBuffer : zI := (yX10_isBuffer, cX10_isBuffer, 5, (some .boolean), [(0, .aload_n 0, 1, 0, 0), (1, .iload_n 1, 1, 0, 0), (2, .iload_n 2, 1, 0, 0), (3, .invokevirtual 86, 3, 163, 2), (6, .aload_n 0, 1, 0, 0), (7, .getfield 111, 3, 9, 11), (10, .if_icmp .ne 7, 3, 0, 0), (13, .iconst 1, 1, 0, 0), (14, .goto 4, 3, 0, 0), (17, .iconst 0, 1, 0, 0), (18, .istore_n 3, 1, 0, 0), (19, .iconst 0, 1, 0, 0), (20, .istore 4, 2, 0, 0), (22, .iload 4, 2, 0, 0), (24, .aload_n 0, 1, 0, 0), (25, .getfield 111, 3, 9, 11), (28, .if_icmp .ge 37, 3, 0, 0), (31, .iload_n 3, 1, 0, 0), (32, .ifCond .eq 33, 3, 0, 0), (35, .aload_n 0, 1, 0, 0), (36, .iload_n 1, 1, 0, 0), (37, .iload_n 2, 1, 0, 0), (38, .iload 4, 2, 0, 0), (40, .invokevirtual 94, 3, 166, 3), (43, .aload_n 0, 1, 0, 0), (44, .getfield 33, 3, 9, 12), (47, .iload 4, 2, 0, 0), (49, .iaload, 1, 0, 0), (50, .if_icmp .ne 7, 3, 0, 0), (53, .iconst 1, 1, 0, 0), (54, .goto 4, 3, 0, 0), (57, .iconst 0, 1, 0, 0), (58, .istore_n 3, 1, 0, 0), (59, .iinc 4 1, 3, 0, 0), (62, .goto (-40), 3, 0, 0), (65, .iload_n 3, 1, 0, 0), (66, .ireturn, 1, 0, 0)], [], 2, 45)
def zX10_findNow : zI := (yX10_findNow, cX10_findNow, 5, (some .int), [(0, .iload_n 1, 1, 0, 0), (1, .istore_n 3, 1, 0, 0), (2, .iload_n 3, 1, 0, 0), (3, .aload_n 0, 1, 0, 0), (4, .getfield 7, 3, 9, 1), (7, .iconst 0, 1, 0, 0), (8, .iaload, 1, 0, 0), (9, .if_icmp .ge 57, 3, 0, 0), (12, .iload_n 3, 1, 0, 0), (13, .iload_n 1, 1, 0, 0), (14, .if_icmp .ne 9, 3, 0, 0), (17, .iload_n 2, 1, 0, 0), (18, .iconst 1, 1, 0, 0), (19, .iadd, 1, 0, 0), (20, .goto 4, 3, 0, 0), (23, .iconst 0, 1, 0, 0), (24, .istore 4, 2, 0, 0), (26, .iload 4, 2, 0, 0), (28, .aload_n 0, 1, 0, 0), (29, .iload_n 3, 1, 0, 0), (30, .invokevirtual 78, 3, 162, 1), (33, .if_icmp .ge 27, 3, 0, 0), (36, .aload_n 0, 1, 0, 0), (37, .iload_n 3, 1, 0, 0), (38, .iload 4, 2, 0, 0), (40, .invokevirtual 308, 3, 254, 2), (43, .ifCond .eq 11, 3, 0, 0), (46, .bipush 100, 2, 0, 0), (48, .iload_n 3, 1, 0, 0), (49, .imul, 1, 0, 0), (50, .iload 4, 2, 0, 0), (52, .iadd, 1, 0, 0), (53, .ireturn, 1, 0, 0), (54, .iinc 4 1, 3, 0, 0), (57, .goto (-31), 3, 0, 0), (60, .iinc 3 1, 3, 0, 0), (63, .goto (-61), 3, 0, 0), (66, .iconst (-1), 1, 0, 0), (67, .ireturn, 1, 0, 0)], [], 3, 69)
def zX10_find : zI := (yX10_find, cX10_find, 3, (some .int), [(0, .aload_n 0, 1, 0, 0), (1, .aload_n 0, 1, 0, 0), (2, .iload_n 1, 1, 0, 0), (3, .iload_n 2, 1, 0, 0), (4, .invokevirtual 82, 3, 168, 2), (7, .ifCond .ne 7, 3, 0, 0), (10, .iconst 1, 1, 0, 0), (11, .goto 16, 3, 0, 0), (14, .aload_n 0, 1, 0, 0), (15, .iconst 0, 1, 0, 0), (16, .invokevirtual 123, 3, 185, 1), (19, .ifCond .eq 7, 3, 0, 0), (22, .iconst 0, 1, 0, 0), (23, .goto 4, 3, 0, 0), (26, .iconst 2, 1, 0, 0), (27, .putfield 63, 3, 9, 0), (30, .aload_n 0, 1, 0, 0), (31, .getfield 63, 3, 9, 0), (34, .ifCond .le 7, 3, 0, 0), (37, .iconst 0, 1, 0, 0), (38, .goto 9, 3, 0, 0), (41, .aload_n 0, 1, 0, 0), (42, .iload_n 1, 1, 0, 0), (43, .iload_n 2, 1, 0, 0), (44, .invokevirtual 311, 3, 255, 2), (47, .ireturn, 1, 0, 0)], [], 5, 113)
def zX10_blockNow : zI := (yX10_blockNow, cX10_blockNow, 3, (some .int), [(0, .iload_n 2, 1, 0, 0), (1, .tableswitch 91 0 6 #[43, 50, 57, 64, 71, 78, 85], 43, 0, 0), (44, .aload_n 0, 1, 0, 0), (45, .getfield 36, 3, 9, 14), (48, .iload_n 1, 1, 0, 0), (49, .iaload, 1, 0, 0), (50, .ireturn, 1, 0, 0), (51, .aload_n 0, 1, 0, 0), (52, .getfield 39, 3, 9, 15), (55, .iload_n 1, 1, 0, 0), (56, .iaload, 1, 0, 0), (57, .ireturn, 1, 0, 0), (58, .aload_n 0, 1, 0, 0), (59, .getfield 42, 3, 9, 16), (62, .iload_n 1, 1, 0, 0), (63, .iaload, 1, 0, 0), (64, .ireturn, 1, 0, 0), (65, .aload_n 0, 1, 0, 0), (66, .getfield 54, 3, 9, 20), (69, .iload_n 1, 1, 0, 0), (70, .iaload, 1, 0, 0), (71, .ireturn, 1, 0, 0), (72, .aload_n 0, 1, 0, 0), (73, .getfield 45, 3, 9, 17), (76, .iload_n 1, 1, 0, 0), (77, .iaload, 1, 0, 0), (78, .ireturn, 1, 0, 0), (79, .aload_n 0, 1, 0, 0), (80, .getfield 48, 3, 9, 18), (83, .iload_n 1, 1, 0, 0), (84, .iaload, 1, 0, 0), (85, .ireturn, 1, 0, 0), (86, .aload_n 0, 1, 0, 0), (87, .iload_n 1, 1, 0, 0), (88, .invokevirtual 212, 3, 215, 1), (91, .ireturn, 1, 0, 0), (92, .aload_n 0, 1, 0, 0), (93, .getfield 51, 3, 9, 19), (96, .iload_n 1, 1, 0, 0), (97, .iaload, 1, 0, 0), (98, .ireturn, 1, 0, 0)], [], 6, 140)
def zX10_block : zI := (yX10_block, cX10_block, 3, (some .int), [(0, .aload_n 0, 1, 0, 0), (1, .aload_n 0, 1, 0, 0), (2, .iload_n 1, 1, 0, 0), (3, .invokevirtual 253, 3, 223, 1), (6, .ifCond .ne 7, 3, 0, 0), (9, .iconst 1, 1, 0, 0), (10, .goto 18, 3, 0, 0), (13, .iload_n 2, 1, 0, 0), (14, .iconst 0, 1, 0, 0), (15, .bipush 7, 2, 0, 0), (17, .invokestatic 70, 3, 161, 3), (20, .ifCond .eq 7, 3, 0, 0), (23, .iconst 0, 1, 0, 0), (24, .goto 4, 3, 0, 0), (27, .iconst 2, 1, 0, 0), (28, .putfield 63, 3, 9, 0), (31, .aload_n 0, 1, 0, 0), (32, .getfield 63, 3, 9, 0), (35, .ifCond .le 7, 3, 0, 0), (38, .iconst 0, 1, 0, 0), (39, .goto 9, 3, 0, 0), (42, .aload_n 0, 1, 0, 0), (43, .iload_n 1, 1, 0, 0), (44, .iload_n 2, 1, 0, 0), (45, .invokevirtual 314, 3, 257, 2), (48, .ireturn, 1, 0, 0)], [], 10, 234)
def zX10_sumOf : zI := (yX10_sumOf, cX10_sumOf, 5, (some .long), [(0, .lconst 0, 1, 0, 0), (1, .lstore_n 2, 1, 0, 0), (2, .aload_n 0, 1, 0, 0), (3, .getfield 39, 3, 9, 15), (6, .iload_n 1, 1, 0, 0), (7, .iaload, 1, 0, 0), (8, .istore 4, 2, 0, 0), (10, .iload 4, 2, 0, 0), (12, .aload_n 0, 1, 0, 0), (13, .getfield 42, 3, 9, 16), (16, .iload_n 1, 1, 0, 0), (17, .iaload, 1, 0, 0), (18, .if_icmp .gt 44, 3, 0, 0), (21, .lload_n 2, 1, 0, 0), (22, .aload_n 0, 1, 0, 0), (23, .iload 4, 2, 0, 0), (25, .aload_n 0, 1, 0, 0), (26, .getfield 36, 3, 9, 14), (29, .iload_n 1, 1, 0, 0), (30, .iaload, 1, 0, 0), (31, .invokevirtual 209, 3, 210, 2), (34, .iconst 1, 1, 0, 0), (35, .if_icmp .ne 18, 3, 0, 0), (38, .aload_n 0, 1, 0, 0), (39, .iload 4, 2, 0, 0), (41, .aload_n 0, 1, 0, 0), (42, .getfield 36, 3, 9, 14), (45, .iload_n 1, 1, 0, 0), (46, .iaload, 1, 0, 0), (47, .invokevirtual 242, 3, 213, 2), (50, .goto 4, 3, 0, 0), (53, .lconst 0, 1, 0, 0), (54, .ladd, 1, 0, 0), (55, .lstore_n 2, 1, 0, 0), (56, .iinc 4 1, 3, 0, 0), (59, .goto (-49), 3, 0, 0), (62, .lload_n 2, 1, 0, 0), (63, .lreturn, 1, 0, 0)], [], 5, 117)
def zX10_sum : zI := (yX10_sum, cX10_sum, 2, (some .long), [(0, .aload_n 0, 1, 0, 0), (1, .aload_n 0, 1, 0, 0), (2, .iload_n 1, 1, 0, 0), (3, .invokevirtual 253, 3, 223, 1), (6, .ifCond .eq 7, 3, 0, 0), (9, .iconst 0, 1, 0, 0), (10, .goto 4, 3, 0, 0), (13, .iconst 1, 1, 0, 0), (14, .putfield 63, 3, 9, 0), (17, .aload_n 0, 1, 0, 0), (18, .getfield 63, 3, 9, 0), (21, .ifCond .le 7, 3, 0, 0), (24, .lconst 0, 1, 0, 0), (25, .goto 8, 3, 0, 0), (28, .aload_n 0, 1, 0, 0), (29, .iload_n 1, 1, 0, 0), (30, .invokevirtual 317, 3, 259, 1), (33, .lreturn, 1, 0, 0)], [], 10, 234)
def zX10_mean : zI := (yX10_mean, cX10_mean, 2, (some .double), [(0, .aload_n 0, 1, 0, 0), (1, .aload_n 0, 1, 0, 0), (2, .iload_n 1, 1, 0, 0), (3, .invokevirtual 253, 3, 223, 1), (6, .ifCond .eq 7, 3, 0, 0), (9, .iconst 0, 1, 0, 0), (10, .goto 4, 3, 0, 0), (13, .iconst 1, 1, 0, 0), (14, .putfield 63, 3, 9, 0), (17, .aload_n 0, 1, 0, 0), (18, .getfield 63, 3, 9, 0), (21, .ifCond .le 5, 3, 0, 0), (24, .dconst 0, 1, 0, 0), (25, .dreturn, 1, 0, 0), (26, .aload_n 0, 1, 0, 0), (27, .iload_n 1, 1, 0, 0), (28, .invokevirtual 212, 3, 215, 1), (31, .ifCond .ne 7, 3, 0, 0), (34, .dconst 0, 1, 0, 0), (35, .goto 20, 3, 0, 0), (38, .aload_n 0, 1, 0, 0), (39, .iload_n 1, 1, 0, 0), (40, .invokevirtual 317, 3, 259, 1), (43, .l2d, 1, 0, 0), (44, .sipush 10000, 3, 0, 0), (47, .aload_n 0, 1, 0, 0), (48, .iload_n 1, 1, 0, 0), (49, .invokevirtual 212, 3, 215, 1), (52, .imul, 1, 0, 0), (53, .i2d, 1, 0, 0), (54, .ddiv, 1, 0, 0), (55, .dreturn, 1, 0, 0)], [], 10, 234)
def zX10_touched : zI := (yX10_touched, cX10_touched, 4, (some .int), [(0, .aload_n 0, 1, 0, 0), (1, .aload_n 0, 1, 0, 0), (2, .iload_n 1, 1, 0, 0), (3, .invokevirtual 74, 3, 167, 1), (6, .ifCond .eq 7, 3, 0, 0), (9, .iconst 0, 1, 0, 0), (10, .goto 4, 3, 0, 0), (13, .iconst 1, 1, 0, 0), (14, .putfield 63, 3, 9, 0), (17, .aload_n 0, 1, 0, 0), (18, .getfield 63, 3, 9, 0), (21, .ifCond .le 5, 3, 0, 0), (24, .iconst 0, 1, 0, 0), (25, .ireturn, 1, 0, 0), (26, .aload_n 0, 1, 0, 0), (27, .invokevirtual 189, 3, 218, 0), (30, .pop, 1, 0, 0), (31, .iconst 0, 1, 0, 0), (32, .istore_n 2, 1, 0, 0), (33, .iconst 0, 1, 0, 0), (34, .istore_n 3, 1, 0, 0), (35, .iload_n 3, 1, 0, 0), (36, .aload_n 0, 1, 0, 0), (37, .getfield 224, 3, 9, 13), (40, .if_icmp .ge 41, 3, 0, 0), (43, .iload_n 2, 1, 0, 0), (44, .aload_n 0, 1, 0, 0), (45, .getfield 39, 3, 9, 15), (48, .iload_n 3, 1, 0, 0), (49, .iaload, 1, 0, 0), (50, .iload_n 1, 1, 0, 0), (51, .iconst 1, 1, 0, 0), (52, .iadd, 1, 0, 0), (53, .if_icmp .gt 19, 3, 0, 0), (56, .aload_n 0, 1, 0, 0), (57, .getfield 42, 3, 9, 16), (60, .iload_n 3, 1, 0, 0), (61, .iaload, 1, 0, 0), (62, .iload_n 1, 1, 0, 0), (63, .iconst 1, 1, 0, 0), (64, .isub, 1, 0, 0), (65, .if_icmp .lt 7, 3, 0, 0), (68, .iconst 1, 1, 0, 0), (69, .goto 4, 3, 0, 0), (72, .iconst 0, 1, 0, 0), (73, .iadd, 1, 0, 0), (74, .istore_n 2, 1, 0, 0), (75, .iinc 3 1, 3, 0, 0), (78, .goto (-43), 3, 0, 0), (81, .iload_n 2, 1, 0, 0), (82, .ireturn, 1, 0, 0)], [], 9, 213)
def zX10_changedX : zI := (yX10_changedX, cX10_changedX, 10, (some .int), [(0, .aload_n 0, 1, 0, 0), (1, .invokevirtual 189, 3, 218, 0), (4, .pop, 1, 0, 0), (5, .iconst 0, 1, 0, 0), (6, .istore 5, 2, 0, 0), (8, .iload 5, 2, 0, 0), (10, .aload_n 0, 1, 0, 0), (11, .getfield 7, 3, 9, 1), (14, .iconst 0, 1, 0, 0), (15, .iaload, 1, 0, 0), (16, .if_icmp .ge 61, 3, 0, 0), (19, .iconst 0, 1, 0, 0), (20, .istore 6, 2, 0, 0), (22, .iload 6, 2, 0, 0), (24, .bipush 8, 2, 0, 0), (26, .if_icmp .ge 45, 3, 0, 0), (29, .aload_n 0, 1, 0, 0), (30, .getfield 60, 3, 9, 22), (33, .bipush 8, 2, 0, 0), (35, .iload 5, 2, 0, 0), (37, .imul, 1, 0, 0), (38, .iload 6, 2, 0, 0), (40, .iadd, 1, 0, 0), (41, .iload 6, 2, 0, 0), (43, .aload_n 0, 1, 0, 0), (44, .iload 5, 2, 0, 0), (46, .invokevirtual 78, 3, 162, 1), (49, .if_icmp .ge 14, 3, 0, 0), (52, .aload_n 0, 1, 0, 0), (53, .iload 5, 2, 0, 0), (55, .iload 6, 2, 0, 0), (57, .invokevirtual 236, 3, 220, 2), (60, .goto 4, 3, 0, 0), (63, .iconst (-1), 1, 0, 0), (64, .iastore, 1, 0, 0), (65, .iinc 6 1, 3, 0, 0), (68, .goto (-46), 3, 0, 0), (71, .iinc 5 1, 3, 0, 0), (74, .goto (-66), 3, 0, 0), (77, .aload_n 0, 1, 0, 0), (78, .getfield 7, 3, 9, 1), (81, .iconst 0, 1, 0, 0), (82, .iaload, 1, 0, 0), (83, .istore 5, 2, 0, 0), (85, .aload_n 0, 1, 0, 0), (86, .invokevirtual 183, 3, 204, 0), (89, .aload_n 0, 1, 0, 0), (90, .iload_n 1, 1, 0, 0), (91, .iload_n 2, 1, 0, 0), (92, .iload_n 3, 1, 0, 0), (93, .iload 4, 2, 0, 0), (95, .invokevirtual 162, 3, 194, 4), (98, .pop, 1, 0, 0), (99, .aload_n 0, 1, 0, 0), (100, .invokevirtual 189, 3, 218, 0), (103, .pop, 1, 0, 0), (104, .iconst 0, 1, 0, 0), (105, .istore 6, 2, 0, 0), (107, .iconst 0, 1, 0, 0), (108, .istore 7, 2, 0, 0), (110, .iload 7, 2, 0, 0), (112, .iload 5, 2, 0, 0), (114, .if_icmp .ge 84, 3, 0, 0), (117, .iload 7, 2, 0, 0), (119, .aload_n 0, 1, 0, 0), (120, .getfield 7, 3, 9, 1), (123, .iconst 0, 1, 0, 0), (124, .iaload, 1, 0, 0), (125, .if_icmp .ge 73, 3, 0, 0), (128, .iconst 0, 1, 0, 0), (129, .istore 8, 2, 0, 0), (131, .iload 8, 2, 0, 0), (133, .aload_n 0, 1, 0, 0), (134, .iload 7, 2, 0, 0), (136, .invokevirtual 78, 3, 162, 1), (139, .if_icmp .ge 53, 3, 0, 0), (142, .aload_n 0, 1, 0, 0), (143, .getfield 60, 3, 9, 22), (146, .bipush 8, 2, 0, 0), (148, .iload 7, 2, 0, 0), (150, .imul, 1, 0, 0), (151, .iload 8, 2, 0, 0), (153, .iadd, 1, 0, 0), (154, .iaload, 1, 0, 0), (155, .istore 9, 2, 0, 0), (157, .iload 6, 2, 0, 0), (159, .iload 9, 2, 0, 0), (161, .iconst (-1), 1, 0, 0), (162, .if_icmp .eq 20, 3, 0, 0), (165, .iload 9, 2, 0, 0), (167, .aload_n 0, 1, 0, 0), (168, .iload 7, 2, 0, 0), (170, .iload 8, 2, 0, 0), (172, .invokevirtual 236, 3, 220, 2), (175, .if_icmp .eq 7, 3, 0, 0), (178, .iconst 1, 1, 0, 0), (179, .goto 4, 3, 0, 0), (182, .iconst 0, 1, 0, 0), (183, .iadd, 1, 0, 0), (184, .istore 6, 2, 0, 0), (186, .iinc 8 1, 3, 0, 0), (189, .goto (-58), 3, 0, 0), (192, .iinc 7 1, 3, 0, 0), (195, .goto (-85), 3, 0, 0), (198, .iconst 0, 1, 0, 0), (199, .istore 7, 2, 0, 0), (201, .iload 7, 2, 0, 0), (203, .sipush 3289, 3, 0, 0), (206, .if_icmp .ge 23, 3, 0, 0), (209, .aload_n 0, 1, 0, 0), (210, .getfield 7, 3, 9, 1), (213, .iload 7, 2, 0, 0), (215, .aload_n 0, 1, 0, 0), (216, .getfield 13, 3, 9, 2), (219, .iload 7, 2, 0, 0), (221, .iaload, 1, 0, 0), (222, .iastore, 1, 0, 0), (223, .iinc 7 1, 3, 0, 0), (226, .goto (-25), 3, 0, 0), (229, .iload 6, 2, 0, 0), (231, .ireturn, 1, 0, 0)], [], 9, 213)
def zX10_ifTyped : zI := (yX10_ifTyped, cX10_ifTyped, 5, (some .int), [(0, .aload_n 0, 1, 0, 0), (1, .aload_n 0, 1, 0, 0), (2, .iload_n 1, 1, 0, 0), (3, .iload_n 2, 1, 0, 0), (4, .iload_n 3, 1, 0, 0), (5, .iload 4, 2, 0, 0), (7, .invokevirtual 159, 3, 190, 4), (10, .putfield 63, 3, 9, 0), (13, .aload_n 0, 1, 0, 0), (14, .getfield 63, 3, 9, 0), (17, .ifCond .le 7, 3, 0, 0), (20, .iconst 0, 1, 0, 0), (21, .goto 12, 3, 0, 0), (24, .aload_n 0, 1, 0, 0), (25, .iload_n 1, 1, 0, 0), (26, .iload_n 2, 1, 0, 0), (27, .iload_n 3, 1, 0, 0), (28, .iload 4, 2, 0, 0), (30, .invokevirtual 321, 3, 263, 4), (33, .ireturn, 1, 0, 0)], [], 10, 242)
def zX10_mix : zI := (yX10_mix, cX10_mix, 3, none, [(0, .aload_n 0, 1, 0, 0), (1, .ldc2_w 324, 3, 31, 0), (4, .aload_n 0, 1, 0, 0), (5, .getfield 326, 3, 9, 23), (8, .lmul, 1, 0, 0), (9, .lload_n 1, 1, 0, 0), (10, .ladd, 1, 0, 0), (11, .putfield 326, 3, 9, 23), (14, .return_, 1, 0, 0)], [], 0, 0)
def zX10_mixLine : zI := (yX10_mixLine, cX10_mixLine, 4, none, [(0, .iconst 0, 1, 0, 0), (1, .istore_n 2, 1, 0, 0), (2, .iload_n 2, 1, 0, 0), (3, .iconst 4, 1, 0, 0), (4, .if_icmp .ge 20, 3, 0, 0), (7, .aload_n 0, 1, 0, 0), (8, .aload_n 0, 1, 0, 0), (9, .iload_n 1, 1, 0, 0), (10, .iload_n 2, 1, 0, 0), (11, .invokevirtual 296, 3, 246, 2), (14, .i2l, 1, 0, 0), (15, .invokevirtual 330, 3, 265, 1), (18, .iinc 2 1, 3, 0, 0), (21, .goto (-19), 3, 0, 0), (24, .iconst 0, 1, 0, 0), (25, .istore_n 2, 1, 0, 0), (26, .iload_n 2, 1, 0, 0), (27, .aload_n 0, 1, 0, 0), (28, .iload_n 1, 1, 0, 0), (29, .invokevirtual 78, 3, 162, 1), (32, .if_icmp .ge 64, 3, 0, 0), (35, .iconst 0, 1, 0, 0), (36, .istore_n 3, 1, 0, 0), (37, .iload_n 3, 1, 0, 0), (38, .iconst 5, 1, 0, 0), (39, .if_icmp .ge 21, 3, 0, 0), (42, .aload_n 0, 1, 0, 0), (43, .aload_n 0, 1, 0, 0), (44, .iload_n 1, 1, 0, 0), (45, .iload_n 2, 1, 0, 0), (46, .iload_n 3, 1, 0, 0), (47, .invokevirtual 302, 3, 248, 3), (50, .i2l, 1, 0, 0), (51, .invokevirtual 330, 3, 265, 1), (54, .iinc 3 1, 3, 0, 0), (57, .goto (-20), 3, 0, 0), (60, .iconst 0, 1, 0, 0), (61, .istore_n 3, 1, 0, 0), (62, .iload_n 3, 1, 0, 0), (63, .aload_n 0, 1, 0, 0), (64, .iload_n 1, 1, 0, 0), (65, .iload_n 2, 1, 0, 0), (66, .invokevirtual 86, 3, 163, 2), (69, .if_icmp .ge 21, 3, 0, 0), (72, .aload_n 0, 1, 0, 0), (73, .aload_n 0, 1, 0, 0), (74, .iload_n 1, 1, 0, 0), (75, .iload_n 2, 1, 0, 0), (76, .iload_n 3, 1, 0, 0), (77, .invokevirtual 94, 3, 166, 3), (80, .i2l, 1, 0, 0), (81, .invokevirtual 330, 3, 265, 1), (84, .iinc 3 1, 3, 0, 0), (87, .goto (-25), 3, 0, 0), (90, .iinc 2 1, 3, 0, 0), (93, .goto (-67), 3, 0, 0), (96, .return_, 1, 0, 0)], [], 7, 164)
def zX10_digest : zI := (yX10_digest, cX10_digest, 3, (some .long), [(0, .aload_n 0, 1, 0, 0), (1, .iconst 0, 1, 0, 0), (2, .putfield 63, 3, 9, 0), (5, .aload_n 0, 1, 0, 0), (6, .ldc2_w 334, 3, 1949, 0), (9, .putfield 326, 3, 9, 23), (12, .aload_n 0, 1, 0, 0), (13, .invokevirtual 189, 3, 218, 0), (16, .pop, 1, 0, 0), (17, .iconst 0, 1, 0, 0), (18, .istore_n 1, 1, 0, 0), (19, .iload_n 1, 1, 0, 0), (20, .bipush 9, 2, 0, 0), (22, .if_icmp .ge 19, 3, 0, 0), (25, .aload_n 0, 1, 0, 0), (26, .aload_n 0, 1, 0, 0), (27, .iload_n 1, 1, 0, 0), (28, .invokevirtual 290, 3, 243, 1), (31, .i2l, 1, 0, 0), (32, .invokevirtual 330, 3, 265, 1), (35, .iinc 1 1, 3, 0, 0), (38, .goto (-19), 3, 0, 0), (41, .iconst 0, 1, 0, 0), (42, .istore_n 1, 1, 0, 0), (43, .iload_n 1, 1, 0, 0), (44, .bipush 7, 2, 0, 0), (46, .if_icmp .ge 20, 3, 0, 0), (49, .aload_n 0, 1, 0, 0), (50, .aload_n 0, 1, 0, 0), (51, .getfield 23, 3, 9, 7), (54, .iload_n 1, 1, 0, 0), (55, .iaload, 1, 0, 0), (56, .i2l, 1, 0, 0), (57, .invokevirtual 330, 3, 265, 1), (60, .iinc 1 1, 3, 0, 0), (63, .goto (-20), 3, 0, 0), (66, .aload_n 0, 1, 0, 0), (67, .aload_n 0, 1, 0, 0), (68, .getfield 26, 3, 9, 8), (71, .i2l, 1, 0, 0), (72, .invokevirtual 330, 3, 265, 1), (75, .aload_n 0, 1, 0, 0), (76, .aload_n 0, 1, 0, 0), (77, .getfield 221, 3, 9, 9), (80, .i2l, 1, 0, 0), (81, .invokevirtual 330, 3, 265, 1), (84, .aload_n 0, 1, 0, 0), (85, .aload_n 0, 1, 0, 0), (86, .getfield 30, 3, 9, 10), (89, .i2l, 1, 0, 0), (90, .invokevirtual 330, 3, 265, 1), (93, .iconst 0, 1, 0, 0), (94, .istore_n 1, 1, 0, 0), (95, .iload_n 1, 1, 0, 0), (96, .aload_n 0, 1, 0, 0), (97, .getfield 7, 3, 9, 1), (100, .iconst 0, 1, 0, 0), (101, .iaload, 1, 0, 0), (102, .if_icmp .ge 14, 3, 0, 0), (105, .aload_n 0, 1, 0, 0), (106, .iload_n 1, 1, 0, 0), (107, .invokevirtual 336, 3, 266, 1), (110, .iinc 1 1, 3, 0, 0), (113, .goto (-18), 3, 0, 0), (116, .iconst 0, 1, 0, 0), (117, .istore_n 1, 1, 0, 0), (118, .iload_n 1, 1, 0, 0), (119, .aload_n 0, 1, 0, 0), (120, .getfield 224, 3, 9, 13), (123, .if_icmp .ge 43, 3, 0, 0), (126, .iconst 0, 1, 0, 0), (127, .istore_n 2, 1, 0, 0), (128, .iload_n 2, 1, 0, 0), (129, .bipush 8, 2, 0, 0), (131, .if_icmp .ge 20, 3, 0, 0), (134, .aload_n 0, 1, 0, 0), (135, .aload_n 0, 1, 0, 0), (136, .iload_n 1, 1, 0, 0), (137, .iload_n 2, 1, 0, 0), (138, .invokevirtual 314, 3, 257, 2), (141, .i2l, 1, 0, 0), (142, .invokevirtual 330, 3, 265, 1), (145, .iinc 2 1, 3, 0, 0), (148, .goto (-20), 3, 0, 0), (151, .aload_n 0, 1, 0, 0), (152, .aload_n 0, 1, 0, 0), (153, .iload_n 1, 1, 0, 0), (154, .invokevirtual 317, 3, 259, 1), (157, .invokevirtual 330, 3, 265, 1), (160, .iinc 1 1, 3, 0, 0), (163, .goto (-45), 3, 0, 0), (166, .aload_n 0, 1, 0, 0), (167, .aload_n 0, 1, 0, 0), (168, .getfield 111, 3, 9, 11), (171, .i2l, 1, 0, 0), (172, .invokevirtual 330, 3, 265, 1), (175, .iconst 0, 1, 0, 0), (176, .istore_n 1, 1, 0, 0), (177, .iload_n 1, 1, 0, 0), (178, .aload_n 0, 1, 0, 0), (179, .getfield 111, 3, 9, 11), (182, .if_icmp .ge 20, 3, 0, 0), (185, .aload_n 0, 1, 0, 0), (186, .aload_n 0, 1, 0, 0), (187, .getfield 33, 3, 9, 12), (190, .iload_n 1, 1, 0, 0), (191, .iaload, 1, 0, 0), (192, .i2l, 1, 0, 0), (193, .invokevirtual 330, 3, 265, 1), (196, .iinc 1 1, 3, 0, 0), (199, .goto (-22), 3, 0, 0), (202, .aload_n 0, 1, 0, 0), (203, .getfield 326, 3, 9, 23), (206, .lreturn, 1, 0, 0)], [], 9, 213)
def zJ6_compare_7cf53 : zI := (yJ6_compare_7cf53, cJ6_compare_7cf53, 2, (some .int), [(0, .iload_n 0, 1, 0, 0), (1, .iload_n 1, 1, 0, 0), (2, .if_icmp .ge 7, 3, 0, 0), (5, .iconst (-1), 1, 0, 0), (6, .goto 13, 3, 0, 0), (9, .iload_n 0, 1, 0, 0), (10, .iload_n 1, 1, 0, 0), (11, .if_icmp .ne 7, 3, 0, 0), (14, .iconst 0, 1, 0, 0), (15, .goto 4, 3, 0, 0), (18, .iconst 1, 1, 0, 0), (19, .ireturn, 1, 0, 0)], [], 0, 0)
def zJ13_compare_74951 : zI := (yJ13_compare_74951, cJ13_compare_74951, 4, (some .int), [(0, .lload_n 0, 1, 0, 0), (1, .lload_n 2, 1, 0, 0), (2, .lcmp, 1, 0, 0), (3, .ifCond .ge 7, 3, 0, 0), (6, .iconst (-1), 1, 0, 0), (7, .goto 14, 3, 0, 0), (10, .lload_n 0, 1, 0, 0), (11, .lload_n 2, 1, 0, 0), (12, .lcmp, 1, 0, 0), (13, .ifCond .ne 7, 3, 0, 0), (16, .iconst 0, 1, 0, 0), (17, .goto 4, 3, 0, 0), (20, .iconst 1, 1, 0, 0), (21, .ireturn, 1, 0, 0)], [], 0, 0)
def zL_append : zI := (yL_append, cL_append, 4, (some .int), [(0, .aload_n 2, 1, 0, 0), (1, .iconst 0, 1, 0, 0), (2, .aload_n 0, 1, 0, 0), (3, .iload_n 1, 1, 0, 0), (4, .invokevirtual 7, 3, 107, 1), (7, .i2l, 1, 0, 0), (8, .lastore, 1, 0, 0), (9, .goto 9, 3, 0, 0), (12, .astore_n 3, 1, 0, 0), (13, .iconst 1, 1, 0, 0), (14, .ireturn, 1, 0, 0), (15, .astore_n 3, 1, 0, 0), (16, .iconst 2, 1, 0, 0), (17, .ireturn, 1, 0, 0), (18, .iconst 0, 1, 0, 0), (19, .ireturn, 1, 0, 0)], [(0, 9, 12, 13), (0, 9, 15, 15)], 7, 121)
def zL_firstError : zI := (yL_firstError, cL_firstError, 4, (some .int), [(0, .aload_n 2, 1, 0, 0), (1, .iconst 0, 1, 0, 0), (2, .aload_n 0, 1, 0, 0), (3, .iload_n 1, 1, 0, 0), (4, .invokevirtual 17, 3, 109, 1), (7, .i2l, 1, 0, 0), (8, .lastore, 1, 0, 0), (9, .goto 6, 3, 0, 0), (12, .astore_n 3, 1, 0, 0), (13, .iconst 1, 1, 0, 0), (14, .ireturn, 1, 0, 0), (15, .iconst 0, 1, 0, 0), (16, .ireturn, 1, 0, 0)], [(0, 9, 12, 13)], 7, 121)
def zL_load : zI := (yL_load, cL_load, 3, (some .int), [(0, .aload_n 1, 1, 0, 0), (1, .iconst 0, 1, 0, 0), (2, .aload_n 0, 1, 0, 0), (3, .invokevirtual 20, 3, 110, 0), (6, .i2l, 1, 0, 0), (7, .lastore, 1, 0, 0), (8, .goto 6, 3, 0, 0), (11, .astore_n 2, 1, 0, 0), (12, .iconst 1, 1, 0, 0), (13, .ireturn, 1, 0, 0), (14, .iconst 0, 1, 0, 0), (15, .ireturn, 1, 0, 0)], [(0, 8, 11, 15)], 8, 166)
def zL_type : zI := (yL_type, cL_type, 7, (some .int), [(0, .aload 5, 2, 0, 0), (2, .iconst 0, 1, 0, 0), (3, .aload_n 0, 1, 0, 0), (4, .iload_n 1, 1, 0, 0), (5, .iload_n 2, 1, 0, 0), (6, .iload_n 3, 1, 0, 0), (7, .iload 4, 2, 0, 0), (9, .invokevirtual 24, 3, 111, 4), (12, .i2l, 1, 0, 0), (13, .lastore, 1, 0, 0), (14, .goto 15, 3, 0, 0), (17, .astore 6, 2, 0, 0), (19, .iconst 1, 1, 0, 0), (20, .ireturn, 1, 0, 0), (21, .astore 6, 2, 0, 0), (23, .iconst 2, 1, 0, 0), (24, .ireturn, 1, 0, 0), (25, .astore 6, 2, 0, 0), (27, .iconst 3, 1, 0, 0), (28, .ireturn, 1, 0, 0), (29, .iconst 0, 1, 0, 0), (30, .ireturn, 1, 0, 0)], [(0, 14, 17, 28), (0, 14, 21, 13), (0, 14, 25, 15)], 10, 194)
def zL_erase : zI := (yL_erase, cL_erase, 6, (some .int), [(0, .aload 4, 2, 0, 0), (2, .iconst 0, 1, 0, 0), (3, .aload_n 0, 1, 0, 0), (4, .iload_n 1, 1, 0, 0), (5, .iload_n 2, 1, 0, 0), (6, .iload_n 3, 1, 0, 0), (7, .invokevirtual 30, 3, 112, 3), (10, .i2l, 1, 0, 0), (11, .lastore, 1, 0, 0), (12, .goto 11, 3, 0, 0), (15, .astore 5, 2, 0, 0), (17, .iconst 1, 1, 0, 0), (18, .ireturn, 1, 0, 0), (19, .astore 5, 2, 0, 0), (21, .iconst 2, 1, 0, 0), (22, .ireturn, 1, 0, 0), (23, .iconst 0, 1, 0, 0), (24, .ireturn, 1, 0, 0)], [(0, 12, 15, 28), (0, 12, 19, 15)], 9, 170)
def zL_setCell : zI := (yL_setCell, cL_setCell, 5, (some .int), [(0, .aload_n 3, 1, 0, 0), (1, .iconst 0, 1, 0, 0), (2, .aload_n 0, 1, 0, 0), (3, .iload_n 1, 1, 0, 0), (4, .iload_n 2, 1, 0, 0), (5, .invokevirtual 34, 3, 113, 2), (8, .i2l, 1, 0, 0), (9, .lastore, 1, 0, 0), (10, .goto 11, 3, 0, 0), (13, .astore 4, 2, 0, 0), (15, .iconst 1, 1, 0, 0), (16, .ireturn, 1, 0, 0), (17, .astore 4, 2, 0, 0), (19, .iconst 2, 1, 0, 0), (20, .ireturn, 1, 0, 0), (21, .iconst 0, 1, 0, 0), (22, .ireturn, 1, 0, 0)], [(0, 10, 13, 28), (0, 10, 17, 15)], 8, 170)
def zL_insertLine : zI := (yL_insertLine, cL_insertLine, 4, (some .int), [(0, .aload_n 2, 1, 0, 0), (1, .iconst 0, 1, 0, 0), (2, .aload_n 0, 1, 0, 0), (3, .iload_n 1, 1, 0, 0), (4, .invokevirtual 38, 3, 114, 1), (7, .i2l, 1, 0, 0), (8, .lastore, 1, 0, 0), (9, .goto 9, 3, 0, 0), (12, .astore_n 3, 1, 0, 0), (13, .iconst 1, 1, 0, 0), (14, .ireturn, 1, 0, 0), (15, .astore_n 3, 1, 0, 0), (16, .iconst 2, 1, 0, 0), (17, .ireturn, 1, 0, 0), (18, .iconst 0, 1, 0, 0), (19, .ireturn, 1, 0, 0)], [(0, 9, 12, 28), (0, 9, 15, 15)], 8, 170)
def zL_removeLine : zI := (yL_removeLine, cL_removeLine, 4, (some .int), [(0, .aload_n 2, 1, 0, 0), (1, .iconst 0, 1, 0, 0), (2, .aload_n 0, 1, 0, 0), (3, .iload_n 1, 1, 0, 0), (4, .invokevirtual 41, 3, 115, 1), (7, .i2l, 1, 0, 0), (8, .lastore, 1, 0, 0), (9, .goto 9, 3, 0, 0), (12, .astore_n 3, 1, 0, 0), (13, .iconst 1, 1, 0, 0), (14, .ireturn, 1, 0, 0), (15, .astore_n 3, 1, 0, 0), (16, .iconst 2, 1, 0, 0), (17, .ireturn, 1, 0, 0), (18, .iconst 0, 1, 0, 0), (19, .ireturn, 1, 0, 0)], [(0, 9, 12, 28), (0, 9, 15, 15)], 8, 169)
def zL_moveLine : zI := (yL_moveLine, cL_moveLine, 5, (some .int), [(0, .aload_n 3, 1, 0, 0), (1, .iconst 0, 1, 0, 0), (2, .aload_n 0, 1, 0, 0), (3, .iload_n 1, 1, 0, 0), (4, .iload_n 2, 1, 0, 0), (5, .invokevirtual 44, 3, 116, 2), (8, .i2l, 1, 0, 0), (9, .lastore, 1, 0, 0), (10, .goto 7, 3, 0, 0), (13, .astore 4, 2, 0, 0), (15, .iconst 1, 1, 0, 0), (16, .ireturn, 1, 0, 0), (17, .iconst 0, 1, 0, 0), (18, .ireturn, 1, 0, 0)], [(0, 10, 13, 28)], 8, 168)
def zL_sort : zI := (yL_sort, cL_sort, 6, (some .int), [(0, .aload 4, 2, 0, 0), (2, .iconst 0, 1, 0, 0), (3, .aload_n 0, 1, 0, 0), (4, .iload_n 1, 1, 0, 0), (5, .iload_n 2, 1, 0, 0), (6, .iload_n 3, 1, 0, 0), (7, .invokevirtual 47, 3, 117, 3), (10, .i2l, 1, 0, 0), (11, .lastore, 1, 0, 0), (12, .goto 11, 3, 0, 0), (15, .astore 5, 2, 0, 0), (17, .iconst 1, 1, 0, 0), (18, .ireturn, 1, 0, 0), (19, .astore 5, 2, 0, 0), (21, .iconst 2, 1, 0, 0), (22, .ireturn, 1, 0, 0), (23, .iconst 0, 1, 0, 0), (24, .ireturn, 1, 0, 0)], [(0, 12, 15, 28), (0, 12, 19, 13)], 8, 175)
def zL_insertColumn : zI := (yL_insertColumn, cL_insertColumn, 4, (some .int), [(0, .aload_n 2, 1, 0, 0), (1, .iconst 0, 1, 0, 0), (2, .aload_n 0, 1, 0, 0), (3, .iload_n 1, 1, 0, 0), (4, .invokevirtual 51, 3, 118, 1), (7, .i2l, 1, 0, 0), (8, .lastore, 1, 0, 0), (9, .goto 9, 3, 0, 0), (12, .astore_n 3, 1, 0, 0), (13, .iconst 1, 1, 0, 0), (14, .ireturn, 1, 0, 0), (15, .astore_n 3, 1, 0, 0), (16, .iconst 2, 1, 0, 0), (17, .ireturn, 1, 0, 0), (18, .iconst 0, 1, 0, 0), (19, .ireturn, 1, 0, 0)], [(0, 9, 12, 28), (0, 9, 15, 15)], 8, 171)
def zL_removeColumn : zI := (yL_removeColumn, cL_removeColumn, 4, (some .int), [(0, .aload_n 2, 1, 0, 0), (1, .iconst 0, 1, 0, 0), (2, .aload_n 0, 1, 0, 0), (3, .iload_n 1, 1, 0, 0), (4, .invokevirtual 54, 3, 119, 1), (7, .i2l, 1, 0, 0), (8, .lastore, 1, 0, 0), (9, .goto 6, 3, 0, 0), (12, .astore_n 3, 1, 0, 0), (13, .iconst 1, 1, 0, 0), (14, .ireturn, 1, 0, 0), (15, .iconst 0, 1, 0, 0), (16, .ireturn, 1, 0, 0)], [(0, 9, 12, 28)], 8, 172)
def zL_retab : zI := (yL_retab, cL_retab, 5, (some .int), [(0, .aload_n 3, 1, 0, 0), (1, .iconst 0, 1, 0, 0), (2, .aload_n 0, 1, 0, 0), (3, .iload_n 1, 1, 0, 0), (4, .iload_n 2, 1, 0, 0), (5, .invokevirtual 57, 3, 120, 2), (8, .i2l, 1, 0, 0), (9, .lastore, 1, 0, 0), (10, .goto 15, 3, 0, 0), (13, .astore 4, 2, 0, 0), (15, .iconst 1, 1, 0, 0), (16, .ireturn, 1, 0, 0), (17, .astore 4, 2, 0, 0), (19, .iconst 2, 1, 0, 0), (20, .ireturn, 1, 0, 0), (21, .astore 4, 2, 0, 0), (23, .iconst 3, 1, 0, 0), (24, .ireturn, 1, 0, 0), (25, .iconst 0, 1, 0, 0), (26, .ireturn, 1, 0, 0)], [(0, 10, 13, 28), (0, 10, 17, 13), (0, 10, 21, 15)], 8, 170)
def zL_undo : zI := (yL_undo, cL_undo, 3, (some .int), [(0, .aload_n 1, 1, 0, 0), (1, .iconst 0, 1, 0, 0), (2, .aload_n 0, 1, 0, 0), (3, .invokevirtual 60, 3, 121, 0), (6, .i2l, 1, 0, 0), (7, .lastore, 1, 0, 0), (8, .goto 6, 3, 0, 0), (11, .astore_n 2, 1, 0, 0), (12, .iconst 1, 1, 0, 0), (13, .ireturn, 1, 0, 0), (14, .iconst 0, 1, 0, 0), (15, .ireturn, 1, 0, 0)], [(0, 8, 11, 15)], 7, 165)
def zL_redo : zI := (yL_redo, cL_redo, 3, (some .int), [(0, .aload_n 1, 1, 0, 0), (1, .iconst 0, 1, 0, 0), (2, .aload_n 0, 1, 0, 0), (3, .invokevirtual 63, 3, 122, 0), (6, .i2l, 1, 0, 0), (7, .lastore, 1, 0, 0), (8, .goto 6, 3, 0, 0), (11, .astore_n 2, 1, 0, 0), (12, .iconst 1, 1, 0, 0), (13, .ireturn, 1, 0, 0), (14, .iconst 0, 1, 0, 0), (15, .ireturn, 1, 0, 0)], [(0, 8, 11, 15)], 7, 165)
def zL_setAlignment : zI := (yL_setAlignment, cL_setAlignment, 5, (some .int), [(0, .aload_n 3, 1, 0, 0), (1, .iconst 0, 1, 0, 0), (2, .aload_n 0, 1, 0, 0), (3, .iload_n 1, 1, 0, 0), (4, .iload_n 2, 1, 0, 0), (5, .invokevirtual 66, 3, 123, 2), (8, .i2l, 1, 0, 0), (9, .lastore, 1, 0, 0), (10, .goto 7, 3, 0, 0), (13, .astore 4, 2, 0, 0), (15, .iconst 1, 1, 0, 0), (16, .ireturn, 1, 0, 0), (17, .iconst 0, 1, 0, 0), (18, .ireturn, 1, 0, 0)], [(0, 10, 13, 13)], 7, 168)
def zL_setSpacing : zI := (yL_setSpacing, cL_setSpacing, 5, (some .int), [(0, .aload_n 3, 1, 0, 0), (1, .iconst 0, 1, 0, 0), (2, .aload_n 0, 1, 0, 0), (3, .iload_n 1, 1, 0, 0), (4, .iload_n 2, 1, 0, 0), (5, .invokevirtual 69, 3, 124, 2), (8, .i2l, 1, 0, 0), (9, .lastore, 1, 0, 0), (10, .goto 7, 3, 0, 0), (13, .astore 4, 2, 0, 0), (15, .iconst 1, 1, 0, 0), (16, .ireturn, 1, 0, 0), (17, .iconst 0, 1, 0, 0), (18, .ireturn, 1, 0, 0)], [(0, 10, 13, 13)], 7, 168)
def zL_count : zI := (yL_count, cL_count, 4, (some .int), [(0, .aload_n 2, 1, 0, 0), (1, .iconst 0, 1, 0, 0), (2, .aload_n 0, 1, 0, 0), (3, .iload_n 1, 1, 0, 0), (4, .invokevirtual 72, 3, 125, 1), (7, .i2l, 1, 0, 0), (8, .lastore, 1, 0, 0), (9, .goto 6, 3, 0, 0), (12, .astore_n 3, 1, 0, 0), (13, .iconst 1, 1, 0, 0), (14, .ireturn, 1, 0, 0), (15, .iconst 0, 1, 0, 0), (16, .ireturn, 1, 0, 0)], [(0, 9, 12, 13)], 7, 131)
def zL_line : zI := (yL_line, cL_line, 5, (some .int), [(0, .aload_n 3, 1, 0, 0), (1, .iconst 0, 1, 0, 0), (2, .aload_n 0, 1, 0, 0), (3, .iload_n 1, 1, 0, 0), (4, .iload_n 2, 1, 0, 0), (5, .invokevirtual 75, 3, 126, 2), (8, .i2l, 1, 0, 0), (9, .lastore, 1, 0, 0), (10, .goto 11, 3, 0, 0), (13, .astore 4, 2, 0, 0), (15, .iconst 1, 1, 0, 0), (16, .ireturn, 1, 0, 0), (17, .astore 4, 2, 0, 0), (19, .iconst 2, 1, 0, 0), (20, .ireturn, 1, 0, 0), (21, .iconst 0, 1, 0, 0), (22, .ireturn, 1, 0, 0)], [(0, 10, 13, 28), (0, 10, 17, 13)], 8, 143)
def zL_cell : zI := (yL_cell, cL_cell, 6, (some .int), [(0, .aload 4, 2, 0, 0), (2, .iconst 0, 1, 0, 0), (3, .aload_n 0, 1, 0, 0), (4, .iload_n 1, 1, 0, 0), (5, .iload_n 2, 1, 0, 0), (6, .iload_n 3, 1, 0, 0), (7, .invokevirtual 78, 3, 127, 3), (10, .i2l, 1, 0, 0), (11, .lastore, 1, 0, 0), (12, .goto 11, 3, 0, 0), (15, .astore 5, 2, 0, 0), (17, .iconst 1, 1, 0, 0), (18, .ireturn, 1, 0, 0), (19, .astore 5, 2, 0, 0), (21, .iconst 2, 1, 0, 0), (22, .ireturn, 1, 0, 0), (23, .iconst 0, 1, 0, 0), (24, .ireturn, 1, 0, 0)], [(0, 12, 15, 28), (0, 12, 19, 13)], 8, 145)
def zL_letter : zI := (yL_letter, cL_letter, 6, (some .int), [(0, .aload 4, 2, 0, 0), (2, .iconst 0, 1, 0, 0), (3, .aload_n 0, 1, 0, 0), (4, .iload_n 1, 1, 0, 0), (5, .iload_n 2, 1, 0, 0), (6, .iload_n 3, 1, 0, 0), (7, .invokevirtual 81, 3, 128, 3), (10, .i2l, 1, 0, 0), (11, .lastore, 1, 0, 0), (12, .goto 7, 3, 0, 0), (15, .astore 5, 2, 0, 0), (17, .iconst 1, 1, 0, 0), (18, .ireturn, 1, 0, 0), (19, .iconst 0, 1, 0, 0), (20, .ireturn, 1, 0, 0)], [(0, 12, 15, 28)], 8, 145)
def zL_shown : zI := (yL_shown, cL_shown, 5, (some .int), [(0, .aload_n 3, 1, 0, 0), (1, .iconst 0, 1, 0, 0), (2, .aload_n 0, 1, 0, 0), (3, .iload_n 1, 1, 0, 0), (4, .iload_n 2, 1, 0, 0), (5, .invokevirtual 84, 3, 129, 2), (8, .i2l, 1, 0, 0), (9, .lastore, 1, 0, 0), (10, .goto 7, 3, 0, 0), (13, .astore 4, 2, 0, 0), (15, .iconst 1, 1, 0, 0), (16, .ireturn, 1, 0, 0), (17, .iconst 0, 1, 0, 0), (18, .ireturn, 1, 0, 0)], [(0, 10, 13, 28)], 9, 167)
def zL_hit : zI := (yL_hit, cL_hit, 5, (some .int), [(0, .aload_n 3, 1, 0, 0), (1, .iconst 0, 1, 0, 0), (2, .aload_n 0, 1, 0, 0), (3, .iload_n 1, 1, 0, 0), (4, .iload_n 2, 1, 0, 0), (5, .invokevirtual 87, 3, 130, 2), (8, .i2l, 1, 0, 0), (9, .lastore, 1, 0, 0), (10, .goto 7, 3, 0, 0), (13, .astore 4, 2, 0, 0), (15, .iconst 1, 1, 0, 0), (16, .ireturn, 1, 0, 0), (17, .iconst 0, 1, 0, 0), (18, .ireturn, 1, 0, 0)], [(0, 10, 13, 28)], 9, 165)
def zL_find : zI := (yL_find, cL_find, 5, (some .int), [(0, .aload_n 3, 1, 0, 0), (1, .iconst 0, 1, 0, 0), (2, .aload_n 0, 1, 0, 0), (3, .iload_n 1, 1, 0, 0), (4, .iload_n 2, 1, 0, 0), (5, .invokevirtual 90, 3, 131, 2), (8, .i2l, 1, 0, 0), (9, .lastore, 1, 0, 0), (10, .goto 11, 3, 0, 0), (13, .astore 4, 2, 0, 0), (15, .iconst 1, 1, 0, 0), (16, .ireturn, 1, 0, 0), (17, .astore 4, 2, 0, 0), (19, .iconst 2, 1, 0, 0), (20, .ireturn, 1, 0, 0), (21, .iconst 0, 1, 0, 0), (22, .ireturn, 1, 0, 0)], [(0, 10, 13, 28), (0, 10, 17, 15)], 8, 147)
def zL_block : zI := (yL_block, cL_block, 5, (some .int), [(0, .aload_n 3, 1, 0, 0), (1, .iconst 0, 1, 0, 0), (2, .aload_n 0, 1, 0, 0), (3, .iload_n 1, 1, 0, 0), (4, .iload_n 2, 1, 0, 0), (5, .invokevirtual 93, 3, 132, 2), (8, .i2l, 1, 0, 0), (9, .lastore, 1, 0, 0), (10, .goto 11, 3, 0, 0), (13, .astore 4, 2, 0, 0), (15, .iconst 1, 1, 0, 0), (16, .ireturn, 1, 0, 0), (17, .astore 4, 2, 0, 0), (19, .iconst 2, 1, 0, 0), (20, .ireturn, 1, 0, 0), (21, .iconst 0, 1, 0, 0), (22, .ireturn, 1, 0, 0)], [(0, 10, 13, 28), (0, 10, 17, 13)], 8, 143)
def zL_sum : zI := (yL_sum, cL_sum, 4, (some .int), [(0, .aload_n 2, 1, 0, 0), (1, .iconst 0, 1, 0, 0), (2, .aload_n 0, 1, 0, 0), (3, .iload_n 1, 1, 0, 0), (4, .invokevirtual 96, 3, 133, 1), (7, .lastore, 1, 0, 0), (8, .goto 6, 3, 0, 0), (11, .astore_n 3, 1, 0, 0), (12, .iconst 1, 1, 0, 0), (13, .ireturn, 1, 0, 0), (14, .iconst 0, 1, 0, 0), (15, .ireturn, 1, 0, 0)], [(0, 8, 11, 28)], 8, 142)
def zL_mean : zI := (yL_mean, cL_mean, 4, (some .int), [(0, .aload_n 2, 1, 0, 0), (1, .iconst 0, 1, 0, 0), (2, .aload_n 0, 1, 0, 0), (3, .iload_n 1, 1, 0, 0), (4, .invokevirtual 100, 3, 134, 1), (7, .dastore, 1, 0, 0), (8, .goto 6, 3, 0, 0), (11, .astore_n 3, 1, 0, 0), (12, .iconst 1, 1, 0, 0), (13, .ireturn, 1, 0, 0), (14, .iconst 0, 1, 0, 0), (15, .ireturn, 1, 0, 0)], [(0, 8, 11, 28)], 8, 143)
def zL_touched : zI := (yL_touched, cL_touched, 4, (some .int), [(0, .aload_n 2, 1, 0, 0), (1, .iconst 0, 1, 0, 0), (2, .aload_n 0, 1, 0, 0), (3, .iload_n 1, 1, 0, 0), (4, .invokevirtual 104, 3, 135, 1), (7, .i2l, 1, 0, 0), (8, .lastore, 1, 0, 0), (9, .goto 6, 3, 0, 0), (12, .astore_n 3, 1, 0, 0), (13, .iconst 1, 1, 0, 0), (14, .ireturn, 1, 0, 0), (15, .iconst 0, 1, 0, 0), (16, .ireturn, 1, 0, 0)], [(0, 9, 12, 28)], 8, 142)
def zL_ifTyped : zI := (yL_ifTyped, cL_ifTyped, 7, (some .int), [(0, .aload 5, 2, 0, 0), (2, .iconst 0, 1, 0, 0), (3, .aload_n 0, 1, 0, 0), (4, .iload_n 1, 1, 0, 0), (5, .iload_n 2, 1, 0, 0), (6, .iload_n 3, 1, 0, 0), (7, .iload 4, 2, 0, 0), (9, .invokevirtual 107, 3, 136, 4), (12, .i2l, 1, 0, 0), (13, .lastore, 1, 0, 0), (14, .goto 15, 3, 0, 0), (17, .astore 6, 2, 0, 0), (19, .iconst 1, 1, 0, 0), (20, .ireturn, 1, 0, 0), (21, .astore 6, 2, 0, 0), (23, .iconst 2, 1, 0, 0), (24, .ireturn, 1, 0, 0), (25, .astore 6, 2, 0, 0), (27, .iconst 3, 1, 0, 0), (28, .ireturn, 1, 0, 0), (29, .iconst 0, 1, 0, 0), (30, .ireturn, 1, 0, 0)], [(0, 14, 17, 28), (0, 14, 21, 13), (0, 14, 25, 15)], 10, 194)
def zL_law_t0 : List zRow := [(0, .new 8, 3, 8, 0), (3, .dup, 1, 0, 0), (4, .invokespecial 110, 3, 106, 0), (7, .astore_n 1, 1, 0, 0), (8, .new 111, 3, 9, 0), (11, .dup, 1, 0, 0), (12, .invokespecial 113, 3, 159, 0), (15, .astore_n 2, 1, 0, 0), (16, .iconst 1, 1, 0, 0), (17, .newarray .long, 2, 0, 0), (19, .astore_n 3, 1, 0, 0), (20, .iconst 1, 1, 0, 0), (21, .newarray .double, 2, 0, 0), (23, .astore 4, 2, 0, 0), (25, .iconst 0, 1, 0, 0), (26, .istore 5, 2, 0, 0), (28, .iload 5, 2, 0, 0), (30, .aload_n 0, 1, 0, 0), (31, .arraylength, 1, 0, 0), (32, .iconst 5, 1, 0, 0), (33, .isub, 1, 0, 0), (34, .if_icmp .gt 2095, 3, 0, 0), (37, .aload_n 0, 1, 0, 0), (38, .iload 5, 2, 0, 0), (40, .iaload, 1, 0, 0), (41, .bipush 31, 2, 0, 0), (43, .iand, 1, 0, 0), (44, .tableswitch 2079 0 30 #[140, 196, 209, 265, 309, 401, 481, 549, 605, 661, 729, 825, 881, 937, 1005, 1049, 1093, 1161, 1229, 1285, 1353, 1433, 1513, 1581, 1649, 1717, 1785, 1840, 1917, 1973, 2065], 140, 0, 0), (184, .aload_n 1, 1, 0, 0), (185, .aload_n 0, 1, 0, 0), (186, .iload 5, 2, 0, 0), (188, .iconst 1, 1, 0, 0), (189, .iadd, 1, 0, 0), (190, .iaload, 1, 0, 0), (191, .aload_n 3, 1, 0, 0), (192, .invokestatic 114, 3, 270, 3), (195, .istore 6, 2, 0, 0), (197, .aload_n 2, 1, 0, 0), (198, .aload_n 0, 1, 0, 0), (199, .iload 5, 2, 0, 0)]
def zL_law_t1 : List zRow := [(201, .iconst 1, 1, 0, 0), (202, .iadd, 1, 0, 0), (203, .iaload, 1, 0, 0), (204, .invokevirtual 119, 3, 180, 1), (207, .istore 7, 2, 0, 0), (209, .aload_n 2, 1, 0, 0), (210, .invokevirtual 120, 3, 160, 0), (213, .iload 6, 2, 0, 0), (215, .if_icmp .eq 5, 3, 0, 0), (218, .iconst 0, 1, 0, 0), (219, .ireturn, 1, 0, 0), (220, .iload 6, 2, 0, 0), (222, .ifCond .ne 15, 3, 0, 0), (225, .aload_n 3, 1, 0, 0), (226, .iconst 0, 1, 0, 0), (227, .laload, 1, 0, 0), (228, .iload 7, 2, 0, 0), (230, .i2l, 1, 0, 0), (231, .lcmp, 1, 0, 0), (232, .ifCond .eq 5, 3, 0, 0), (235, .iconst 0, 1, 0, 0), (236, .ireturn, 1, 0, 0), (237, .goto 1886, 3, 0, 0), (240, .aload_n 1, 1, 0, 0), (241, .invokevirtual 123, 3, 108, 0), (244, .aload_n 2, 1, 0, 0), (245, .invokevirtual 126, 3, 181, 0), (248, .if_icmp .eq 1875, 3, 0, 0), (251, .iconst 0, 1, 0, 0), (252, .ireturn, 1, 0, 0), (253, .aload_n 1, 1, 0, 0), (254, .aload_n 0, 1, 0, 0), (255, .iload 5, 2, 0, 0), (257, .iconst 1, 1, 0, 0), (258, .iadd, 1, 0, 0), (259, .iaload, 1, 0, 0), (260, .aload_n 3, 1, 0, 0), (261, .invokestatic 127, 3, 271, 3), (264, .istore 6, 2, 0, 0), (266, .aload_n 2, 1, 0, 0)]
def zL_law_t2 : List zRow := [(267, .aload_n 0, 1, 0, 0), (268, .iload 5, 2, 0, 0), (270, .iconst 1, 1, 0, 0), (271, .iadd, 1, 0, 0), (272, .iaload, 1, 0, 0), (273, .invokevirtual 129, 3, 186, 1), (276, .istore 7, 2, 0, 0), (278, .aload_n 2, 1, 0, 0), (279, .invokevirtual 120, 3, 160, 0), (282, .iload 6, 2, 0, 0), (284, .if_icmp .eq 5, 3, 0, 0), (287, .iconst 0, 1, 0, 0), (288, .ireturn, 1, 0, 0), (289, .iload 6, 2, 0, 0), (291, .ifCond .ne 15, 3, 0, 0), (294, .aload_n 3, 1, 0, 0), (295, .iconst 0, 1, 0, 0), (296, .laload, 1, 0, 0), (297, .iload 7, 2, 0, 0), (299, .i2l, 1, 0, 0), (300, .lcmp, 1, 0, 0), (301, .ifCond .eq 5, 3, 0, 0), (304, .iconst 0, 1, 0, 0), (305, .ireturn, 1, 0, 0), (306, .goto 1817, 3, 0, 0), (309, .aload_n 1, 1, 0, 0), (310, .aload_n 3, 1, 0, 0), (311, .invokestatic 130, 3, 272, 2), (314, .istore 6, 2, 0, 0), (316, .aload_n 2, 1, 0, 0), (317, .invokevirtual 133, 3, 188, 0), (320, .istore 7, 2, 0, 0), (322, .aload_n 2, 1, 0, 0), (323, .invokevirtual 120, 3, 160, 0), (326, .iload 6, 2, 0, 0), (328, .if_icmp .eq 5, 3, 0, 0), (331, .iconst 0, 1, 0, 0), (332, .ireturn, 1, 0, 0), (333, .iload 6, 2, 0, 0), (335, .ifCond .ne 15, 3, 0, 0)]
def zL_law_t3 : List zRow := [(338, .aload_n 3, 1, 0, 0), (339, .iconst 0, 1, 0, 0), (340, .laload, 1, 0, 0), (341, .iload 7, 2, 0, 0), (343, .i2l, 1, 0, 0), (344, .lcmp, 1, 0, 0), (345, .ifCond .eq 5, 3, 0, 0), (348, .iconst 0, 1, 0, 0), (349, .ireturn, 1, 0, 0), (350, .goto 1773, 3, 0, 0), (353, .aload_n 1, 1, 0, 0), (354, .aload_n 0, 1, 0, 0), (355, .iload 5, 2, 0, 0), (357, .iconst 1, 1, 0, 0), (358, .iadd, 1, 0, 0), (359, .iaload, 1, 0, 0), (360, .aload_n 0, 1, 0, 0), (361, .iload 5, 2, 0, 0), (363, .iconst 2, 1, 0, 0), (364, .iadd, 1, 0, 0), (365, .iaload, 1, 0, 0), (366, .aload_n 0, 1, 0, 0), (367, .iload 5, 2, 0, 0), (369, .iconst 3, 1, 0, 0), (370, .iadd, 1, 0, 0), (371, .iaload, 1, 0, 0), (372, .aload_n 0, 1, 0, 0), (373, .iload 5, 2, 0, 0), (375, .iconst 4, 1, 0, 0), (376, .iadd, 1, 0, 0), (377, .iaload, 1, 0, 0), (378, .aload_n 3, 1, 0, 0), (379, .invokestatic 134, 3, 273, 6), (382, .istore 6, 2, 0, 0), (384, .aload_n 2, 1, 0, 0), (385, .aload_n 0, 1, 0, 0), (386, .iload 5, 2, 0, 0), (388, .iconst 1, 1, 0, 0), (389, .iadd, 1, 0, 0), (390, .iaload, 1, 0, 0)]
def zL_law_t4 : List zRow := [(391, .aload_n 0, 1, 0, 0), (392, .iload 5, 2, 0, 0), (394, .iconst 2, 1, 0, 0), (395, .iadd, 1, 0, 0), (396, .iaload, 1, 0, 0), (397, .aload_n 0, 1, 0, 0), (398, .iload 5, 2, 0, 0), (400, .iconst 3, 1, 0, 0), (401, .iadd, 1, 0, 0), (402, .iaload, 1, 0, 0), (403, .aload_n 0, 1, 0, 0), (404, .iload 5, 2, 0, 0), (406, .iconst 4, 1, 0, 0), (407, .iadd, 1, 0, 0), (408, .iaload, 1, 0, 0), (409, .invokevirtual 137, 3, 195, 4), (412, .istore 7, 2, 0, 0), (414, .aload_n 2, 1, 0, 0), (415, .invokevirtual 120, 3, 160, 0), (418, .iload 6, 2, 0, 0), (420, .if_icmp .eq 5, 3, 0, 0), (423, .iconst 0, 1, 0, 0), (424, .ireturn, 1, 0, 0), (425, .iload 6, 2, 0, 0), (427, .ifCond .ne 15, 3, 0, 0), (430, .aload_n 3, 1, 0, 0), (431, .iconst 0, 1, 0, 0), (432, .laload, 1, 0, 0), (433, .iload 7, 2, 0, 0), (435, .i2l, 1, 0, 0), (436, .lcmp, 1, 0, 0), (437, .ifCond .eq 5, 3, 0, 0), (440, .iconst 0, 1, 0, 0), (441, .ireturn, 1, 0, 0), (442, .goto 1681, 3, 0, 0), (445, .aload_n 1, 1, 0, 0), (446, .aload_n 0, 1, 0, 0), (447, .iload 5, 2, 0, 0), (449, .iconst 1, 1, 0, 0), (450, .iadd, 1, 0, 0)]
def zL_law_t5 : List zRow := [(451, .iaload, 1, 0, 0), (452, .aload_n 0, 1, 0, 0), (453, .iload 5, 2, 0, 0), (455, .iconst 2, 1, 0, 0), (456, .iadd, 1, 0, 0), (457, .iaload, 1, 0, 0), (458, .aload_n 0, 1, 0, 0), (459, .iload 5, 2, 0, 0), (461, .iconst 3, 1, 0, 0), (462, .iadd, 1, 0, 0), (463, .iaload, 1, 0, 0), (464, .aload_n 3, 1, 0, 0), (465, .invokestatic 138, 3, 274, 5), (468, .istore 6, 2, 0, 0), (470, .aload_n 2, 1, 0, 0), (471, .aload_n 0, 1, 0, 0), (472, .iload 5, 2, 0, 0), (474, .iconst 1, 1, 0, 0), (475, .iadd, 1, 0, 0), (476, .iaload, 1, 0, 0), (477, .aload_n 0, 1, 0, 0), (478, .iload 5, 2, 0, 0), (480, .iconst 2, 1, 0, 0), (481, .iadd, 1, 0, 0), (482, .iaload, 1, 0, 0), (483, .aload_n 0, 1, 0, 0), (484, .iload 5, 2, 0, 0), (486, .iconst 3, 1, 0, 0), (487, .iadd, 1, 0, 0), (488, .iaload, 1, 0, 0), (489, .invokevirtual 141, 3, 200, 3), (492, .istore 7, 2, 0, 0), (494, .aload_n 2, 1, 0, 0), (495, .invokevirtual 120, 3, 160, 0), (498, .iload 6, 2, 0, 0), (500, .if_icmp .eq 5, 3, 0, 0), (503, .iconst 0, 1, 0, 0), (504, .ireturn, 1, 0, 0), (505, .iload 6, 2, 0, 0), (507, .ifCond .ne 15, 3, 0, 0)]
def zL_law_t6 : List zRow := [(510, .aload_n 3, 1, 0, 0), (511, .iconst 0, 1, 0, 0), (512, .laload, 1, 0, 0), (513, .iload 7, 2, 0, 0), (515, .i2l, 1, 0, 0), (516, .lcmp, 1, 0, 0), (517, .ifCond .eq 5, 3, 0, 0), (520, .iconst 0, 1, 0, 0), (521, .ireturn, 1, 0, 0), (522, .goto 1601, 3, 0, 0), (525, .aload_n 1, 1, 0, 0), (526, .aload_n 0, 1, 0, 0), (527, .iload 5, 2, 0, 0), (529, .iconst 1, 1, 0, 0), (530, .iadd, 1, 0, 0), (531, .iaload, 1, 0, 0), (532, .aload_n 0, 1, 0, 0), (533, .iload 5, 2, 0, 0), (535, .iconst 2, 1, 0, 0), (536, .iadd, 1, 0, 0), (537, .iaload, 1, 0, 0), (538, .aload_n 3, 1, 0, 0), (539, .invokestatic 142, 3, 275, 4), (542, .istore 6, 2, 0, 0), (544, .aload_n 2, 1, 0, 0), (545, .aload_n 0, 1, 0, 0), (546, .iload 5, 2, 0, 0), (548, .iconst 1, 1, 0, 0), (549, .iadd, 1, 0, 0), (550, .iaload, 1, 0, 0), (551, .aload_n 0, 1, 0, 0), (552, .iload 5, 2, 0, 0), (554, .iconst 2, 1, 0, 0), (555, .iadd, 1, 0, 0), (556, .iaload, 1, 0, 0), (557, .invokevirtual 145, 3, 201, 2), (560, .istore 7, 2, 0, 0), (562, .aload_n 2, 1, 0, 0), (563, .invokevirtual 120, 3, 160, 0), (566, .iload 6, 2, 0, 0)]
def zL_law_t7 : List zRow := [(568, .if_icmp .eq 5, 3, 0, 0), (571, .iconst 0, 1, 0, 0), (572, .ireturn, 1, 0, 0), (573, .iload 6, 2, 0, 0), (575, .ifCond .ne 15, 3, 0, 0), (578, .aload_n 3, 1, 0, 0), (579, .iconst 0, 1, 0, 0), (580, .laload, 1, 0, 0), (581, .iload 7, 2, 0, 0), (583, .i2l, 1, 0, 0), (584, .lcmp, 1, 0, 0), (585, .ifCond .eq 5, 3, 0, 0), (588, .iconst 0, 1, 0, 0), (589, .ireturn, 1, 0, 0), (590, .goto 1533, 3, 0, 0), (593, .aload_n 1, 1, 0, 0), (594, .aload_n 0, 1, 0, 0), (595, .iload 5, 2, 0, 0), (597, .iconst 1, 1, 0, 0), (598, .iadd, 1, 0, 0), (599, .iaload, 1, 0, 0), (600, .aload_n 3, 1, 0, 0), (601, .invokestatic 146, 3, 276, 3), (604, .istore 6, 2, 0, 0), (606, .aload_n 2, 1, 0, 0), (607, .aload_n 0, 1, 0, 0), (608, .iload 5, 2, 0, 0), (610, .iconst 1, 1, 0, 0), (611, .iadd, 1, 0, 0), (612, .iaload, 1, 0, 0), (613, .invokevirtual 148, 3, 202, 1), (616, .istore 7, 2, 0, 0), (618, .aload_n 2, 1, 0, 0), (619, .invokevirtual 120, 3, 160, 0), (622, .iload 6, 2, 0, 0), (624, .if_icmp .eq 5, 3, 0, 0), (627, .iconst 0, 1, 0, 0), (628, .ireturn, 1, 0, 0), (629, .iload 6, 2, 0, 0), (631, .ifCond .ne 15, 3, 0, 0)]
def zL_law_t8 : List zRow := [(634, .aload_n 3, 1, 0, 0), (635, .iconst 0, 1, 0, 0), (636, .laload, 1, 0, 0), (637, .iload 7, 2, 0, 0), (639, .i2l, 1, 0, 0), (640, .lcmp, 1, 0, 0), (641, .ifCond .eq 5, 3, 0, 0), (644, .iconst 0, 1, 0, 0), (645, .ireturn, 1, 0, 0), (646, .goto 1477, 3, 0, 0), (649, .aload_n 1, 1, 0, 0), (650, .aload_n 0, 1, 0, 0), (651, .iload 5, 2, 0, 0), (653, .iconst 1, 1, 0, 0), (654, .iadd, 1, 0, 0), (655, .iaload, 1, 0, 0), (656, .aload_n 3, 1, 0, 0), (657, .invokestatic 149, 3, 277, 3), (660, .istore 6, 2, 0, 0), (662, .aload_n 2, 1, 0, 0), (663, .aload_n 0, 1, 0, 0), (664, .iload 5, 2, 0, 0), (666, .iconst 1, 1, 0, 0), (667, .iadd, 1, 0, 0), (668, .iaload, 1, 0, 0), (669, .invokevirtual 151, 3, 203, 1), (672, .istore 7, 2, 0, 0), (674, .aload_n 2, 1, 0, 0), (675, .invokevirtual 120, 3, 160, 0), (678, .iload 6, 2, 0, 0), (680, .if_icmp .eq 5, 3, 0, 0), (683, .iconst 0, 1, 0, 0), (684, .ireturn, 1, 0, 0), (685, .iload 6, 2, 0, 0), (687, .ifCond .ne 15, 3, 0, 0), (690, .aload_n 3, 1, 0, 0), (691, .iconst 0, 1, 0, 0), (692, .laload, 1, 0, 0), (693, .iload 7, 2, 0, 0), (695, .i2l, 1, 0, 0)]
def zL_law_t9 : List zRow := [(696, .lcmp, 1, 0, 0), (697, .ifCond .eq 5, 3, 0, 0), (700, .iconst 0, 1, 0, 0), (701, .ireturn, 1, 0, 0), (702, .goto 1421, 3, 0, 0), (705, .aload_n 1, 1, 0, 0), (706, .aload_n 0, 1, 0, 0), (707, .iload 5, 2, 0, 0), (709, .iconst 1, 1, 0, 0), (710, .iadd, 1, 0, 0), (711, .iaload, 1, 0, 0), (712, .aload_n 0, 1, 0, 0), (713, .iload 5, 2, 0, 0), (715, .iconst 2, 1, 0, 0), (716, .iadd, 1, 0, 0), (717, .iaload, 1, 0, 0), (718, .aload_n 3, 1, 0, 0), (719, .invokestatic 152, 3, 278, 4), (722, .istore 6, 2, 0, 0), (724, .aload_n 2, 1, 0, 0), (725, .aload_n 0, 1, 0, 0), (726, .iload 5, 2, 0, 0), (728, .iconst 1, 1, 0, 0), (729, .iadd, 1, 0, 0), (730, .iaload, 1, 0, 0), (731, .aload_n 0, 1, 0, 0), (732, .iload 5, 2, 0, 0), (734, .iconst 2, 1, 0, 0), (735, .iadd, 1, 0, 0), (736, .iaload, 1, 0, 0), (737, .invokevirtual 154, 3, 206, 2), (740, .istore 7, 2, 0, 0), (742, .aload_n 2, 1, 0, 0), (743, .invokevirtual 120, 3, 160, 0), (746, .iload 6, 2, 0, 0), (748, .if_icmp .eq 5, 3, 0, 0), (751, .iconst 0, 1, 0, 0), (752, .ireturn, 1, 0, 0), (753, .iload 6, 2, 0, 0), (755, .ifCond .ne 15, 3, 0, 0)]
def zL_law_t10 : List zRow := [(758, .aload_n 3, 1, 0, 0), (759, .iconst 0, 1, 0, 0), (760, .laload, 1, 0, 0), (761, .iload 7, 2, 0, 0), (763, .i2l, 1, 0, 0), (764, .lcmp, 1, 0, 0), (765, .ifCond .eq 5, 3, 0, 0), (768, .iconst 0, 1, 0, 0), (769, .ireturn, 1, 0, 0), (770, .goto 1353, 3, 0, 0), (773, .aload_n 1, 1, 0, 0), (774, .aload_n 0, 1, 0, 0), (775, .iload 5, 2, 0, 0), (777, .iconst 1, 1, 0, 0), (778, .iadd, 1, 0, 0), (779, .iaload, 1, 0, 0), (780, .aload_n 0, 1, 0, 0), (781, .iload 5, 2, 0, 0), (783, .iconst 2, 1, 0, 0), (784, .iadd, 1, 0, 0), (785, .iaload, 1, 0, 0), (786, .aload_n 0, 1, 0, 0), (787, .iload 5, 2, 0, 0), (789, .iconst 3, 1, 0, 0), (790, .iadd, 1, 0, 0), (791, .iaload, 1, 0, 0), (792, .ifCond .eq 7, 3, 0, 0), (795, .iconst 1, 1, 0, 0), (796, .goto 4, 3, 0, 0), (799, .iconst 0, 1, 0, 0), (800, .aload_n 3, 1, 0, 0), (801, .invokestatic 155, 3, 279, 5), (804, .istore 6, 2, 0, 0), (806, .aload_n 2, 1, 0, 0), (807, .aload_n 0, 1, 0, 0), (808, .iload 5, 2, 0, 0), (810, .iconst 1, 1, 0, 0), (811, .iadd, 1, 0, 0), (812, .iaload, 1, 0, 0), (813, .aload_n 0, 1, 0, 0)]
def zL_law_t11 : List zRow := [(814, .iload 5, 2, 0, 0), (816, .iconst 2, 1, 0, 0), (817, .iadd, 1, 0, 0), (818, .iaload, 1, 0, 0), (819, .aload_n 0, 1, 0, 0), (820, .iload 5, 2, 0, 0), (822, .iconst 3, 1, 0, 0), (823, .iadd, 1, 0, 0), (824, .iaload, 1, 0, 0), (825, .ifCond .eq 7, 3, 0, 0), (828, .iconst 1, 1, 0, 0), (829, .goto 4, 3, 0, 0), (832, .iconst 0, 1, 0, 0), (833, .invokevirtual 158, 3, 228, 3), (836, .istore 7, 2, 0, 0), (838, .aload_n 2, 1, 0, 0), (839, .invokevirtual 120, 3, 160, 0), (842, .iload 6, 2, 0, 0), (844, .if_icmp .eq 5, 3, 0, 0), (847, .iconst 0, 1, 0, 0), (848, .ireturn, 1, 0, 0), (849, .iload 6, 2, 0, 0), (851, .ifCond .ne 15, 3, 0, 0), (854, .aload_n 3, 1, 0, 0), (855, .iconst 0, 1, 0, 0), (856, .laload, 1, 0, 0), (857, .iload 7, 2, 0, 0), (859, .i2l, 1, 0, 0), (860, .lcmp, 1, 0, 0), (861, .ifCond .eq 5, 3, 0, 0), (864, .iconst 0, 1, 0, 0), (865, .ireturn, 1, 0, 0), (866, .goto 1257, 3, 0, 0), (869, .aload_n 1, 1, 0, 0), (870, .aload_n 0, 1, 0, 0), (871, .iload 5, 2, 0, 0), (873, .iconst 1, 1, 0, 0), (874, .iadd, 1, 0, 0), (875, .iaload, 1, 0, 0), (876, .aload_n 3, 1, 0, 0)]
def zL_law_t12 : List zRow := [(877, .invokestatic 159, 3, 280, 3), (880, .istore 6, 2, 0, 0), (882, .aload_n 2, 1, 0, 0), (883, .aload_n 0, 1, 0, 0), (884, .iload 5, 2, 0, 0), (886, .iconst 1, 1, 0, 0), (887, .iadd, 1, 0, 0), (888, .iaload, 1, 0, 0), (889, .invokevirtual 161, 3, 230, 1), (892, .istore 7, 2, 0, 0), (894, .aload_n 2, 1, 0, 0), (895, .invokevirtual 120, 3, 160, 0), (898, .iload 6, 2, 0, 0), (900, .if_icmp .eq 5, 3, 0, 0), (903, .iconst 0, 1, 0, 0), (904, .ireturn, 1, 0, 0), (905, .iload 6, 2, 0, 0), (907, .ifCond .ne 15, 3, 0, 0), (910, .aload_n 3, 1, 0, 0), (911, .iconst 0, 1, 0, 0), (912, .laload, 1, 0, 0), (913, .iload 7, 2, 0, 0), (915, .i2l, 1, 0, 0), (916, .lcmp, 1, 0, 0), (917, .ifCond .eq 5, 3, 0, 0), (920, .iconst 0, 1, 0, 0), (921, .ireturn, 1, 0, 0), (922, .goto 1201, 3, 0, 0), (925, .aload_n 1, 1, 0, 0), (926, .aload_n 0, 1, 0, 0), (927, .iload 5, 2, 0, 0), (929, .iconst 1, 1, 0, 0), (930, .iadd, 1, 0, 0), (931, .iaload, 1, 0, 0), (932, .aload_n 3, 1, 0, 0), (933, .invokestatic 162, 3, 281, 3), (936, .istore 6, 2, 0, 0), (938, .aload_n 2, 1, 0, 0), (939, .aload_n 0, 1, 0, 0), (940, .iload 5, 2, 0, 0)]
def zL_law_t13 : List zRow := [(942, .iconst 1, 1, 0, 0), (943, .iadd, 1, 0, 0), (944, .iaload, 1, 0, 0), (945, .invokevirtual 164, 3, 231, 1), (948, .istore 7, 2, 0, 0), (950, .aload_n 2, 1, 0, 0), (951, .invokevirtual 120, 3, 160, 0), (954, .iload 6, 2, 0, 0), (956, .if_icmp .eq 5, 3, 0, 0), (959, .iconst 0, 1, 0, 0), (960, .ireturn, 1, 0, 0), (961, .iload 6, 2, 0, 0), (963, .ifCond .ne 15, 3, 0, 0), (966, .aload_n 3, 1, 0, 0), (967, .iconst 0, 1, 0, 0), (968, .laload, 1, 0, 0), (969, .iload 7, 2, 0, 0), (971, .i2l, 1, 0, 0), (972, .lcmp, 1, 0, 0), (973, .ifCond .eq 5, 3, 0, 0), (976, .iconst 0, 1, 0, 0), (977, .ireturn, 1, 0, 0), (978, .goto 1145, 3, 0, 0), (981, .aload_n 1, 1, 0, 0), (982, .aload_n 0, 1, 0, 0), (983, .iload 5, 2, 0, 0), (985, .iconst 1, 1, 0, 0), (986, .iadd, 1, 0, 0), (987, .iaload, 1, 0, 0), (988, .aload_n 0, 1, 0, 0), (989, .iload 5, 2, 0, 0), (991, .iconst 2, 1, 0, 0), (992, .iadd, 1, 0, 0), (993, .iaload, 1, 0, 0), (994, .aload_n 3, 1, 0, 0), (995, .invokestatic 165, 3, 282, 4), (998, .istore 6, 2, 0, 0), (1000, .aload_n 2, 1, 0, 0), (1001, .aload_n 0, 1, 0, 0), (1002, .iload 5, 2, 0, 0)]
def zL_law_t14 : List zRow := [(1004, .iconst 1, 1, 0, 0), (1005, .iadd, 1, 0, 0), (1006, .iaload, 1, 0, 0), (1007, .aload_n 0, 1, 0, 0), (1008, .iload 5, 2, 0, 0), (1010, .iconst 2, 1, 0, 0), (1011, .iadd, 1, 0, 0), (1012, .iaload, 1, 0, 0), (1013, .invokevirtual 167, 3, 235, 2), (1016, .istore 7, 2, 0, 0), (1018, .aload_n 2, 1, 0, 0), (1019, .invokevirtual 120, 3, 160, 0), (1022, .iload 6, 2, 0, 0), (1024, .if_icmp .eq 5, 3, 0, 0), (1027, .iconst 0, 1, 0, 0), (1028, .ireturn, 1, 0, 0), (1029, .iload 6, 2, 0, 0), (1031, .ifCond .ne 15, 3, 0, 0), (1034, .aload_n 3, 1, 0, 0), (1035, .iconst 0, 1, 0, 0), (1036, .laload, 1, 0, 0), (1037, .iload 7, 2, 0, 0), (1039, .i2l, 1, 0, 0), (1040, .lcmp, 1, 0, 0), (1041, .ifCond .eq 5, 3, 0, 0), (1044, .iconst 0, 1, 0, 0), (1045, .ireturn, 1, 0, 0), (1046, .goto 1077, 3, 0, 0), (1049, .aload_n 1, 1, 0, 0), (1050, .aload_n 3, 1, 0, 0), (1051, .invokestatic 168, 3, 283, 2), (1054, .istore 6, 2, 0, 0), (1056, .aload_n 2, 1, 0, 0), (1057, .invokevirtual 170, 3, 178, 0), (1060, .istore 7, 2, 0, 0), (1062, .aload_n 2, 1, 0, 0), (1063, .invokevirtual 120, 3, 160, 0), (1066, .iload 6, 2, 0, 0), (1068, .if_icmp .eq 5, 3, 0, 0), (1071, .iconst 0, 1, 0, 0)]
def zL_law_t15 : List zRow := [(1072, .ireturn, 1, 0, 0), (1073, .iload 6, 2, 0, 0), (1075, .ifCond .ne 15, 3, 0, 0), (1078, .aload_n 3, 1, 0, 0), (1079, .iconst 0, 1, 0, 0), (1080, .laload, 1, 0, 0), (1081, .iload 7, 2, 0, 0), (1083, .i2l, 1, 0, 0), (1084, .lcmp, 1, 0, 0), (1085, .ifCond .eq 5, 3, 0, 0), (1088, .iconst 0, 1, 0, 0), (1089, .ireturn, 1, 0, 0), (1090, .goto 1033, 3, 0, 0), (1093, .aload_n 1, 1, 0, 0), (1094, .aload_n 3, 1, 0, 0), (1095, .invokestatic 171, 3, 284, 2), (1098, .istore 6, 2, 0, 0), (1100, .aload_n 2, 1, 0, 0), (1101, .invokevirtual 173, 3, 179, 0), (1104, .istore 7, 2, 0, 0), (1106, .aload_n 2, 1, 0, 0), (1107, .invokevirtual 120, 3, 160, 0), (1110, .iload 6, 2, 0, 0), (1112, .if_icmp .eq 5, 3, 0, 0), (1115, .iconst 0, 1, 0, 0), (1116, .ireturn, 1, 0, 0), (1117, .iload 6, 2, 0, 0), (1119, .ifCond .ne 15, 3, 0, 0), (1122, .aload_n 3, 1, 0, 0), (1123, .iconst 0, 1, 0, 0), (1124, .laload, 1, 0, 0), (1125, .iload 7, 2, 0, 0), (1127, .i2l, 1, 0, 0), (1128, .lcmp, 1, 0, 0), (1129, .ifCond .eq 5, 3, 0, 0), (1132, .iconst 0, 1, 0, 0), (1133, .ireturn, 1, 0, 0), (1134, .goto 989, 3, 0, 0), (1137, .aload_n 1, 1, 0, 0), (1138, .aload_n 0, 1, 0, 0)]
def zL_law_t16 : List zRow := [(1139, .iload 5, 2, 0, 0), (1141, .iconst 1, 1, 0, 0), (1142, .iadd, 1, 0, 0), (1143, .iaload, 1, 0, 0), (1144, .aload_n 0, 1, 0, 0), (1145, .iload 5, 2, 0, 0), (1147, .iconst 2, 1, 0, 0), (1148, .iadd, 1, 0, 0), (1149, .iaload, 1, 0, 0), (1150, .aload_n 3, 1, 0, 0), (1151, .invokestatic 174, 3, 285, 4), (1154, .istore 6, 2, 0, 0), (1156, .aload_n 2, 1, 0, 0), (1157, .aload_n 0, 1, 0, 0), (1158, .iload 5, 2, 0, 0), (1160, .iconst 1, 1, 0, 0), (1161, .iadd, 1, 0, 0), (1162, .iaload, 1, 0, 0), (1163, .aload_n 0, 1, 0, 0), (1164, .iload 5, 2, 0, 0), (1166, .iconst 2, 1, 0, 0), (1167, .iadd, 1, 0, 0), (1168, .iaload, 1, 0, 0), (1169, .invokevirtual 176, 3, 236, 2), (1172, .istore 7, 2, 0, 0), (1174, .aload_n 2, 1, 0, 0), (1175, .invokevirtual 120, 3, 160, 0), (1178, .iload 6, 2, 0, 0), (1180, .if_icmp .eq 5, 3, 0, 0), (1183, .iconst 0, 1, 0, 0), (1184, .ireturn, 1, 0, 0), (1185, .iload 6, 2, 0, 0), (1187, .ifCond .ne 15, 3, 0, 0), (1190, .aload_n 3, 1, 0, 0), (1191, .iconst 0, 1, 0, 0), (1192, .laload, 1, 0, 0), (1193, .iload 7, 2, 0, 0), (1195, .i2l, 1, 0, 0), (1196, .lcmp, 1, 0, 0), (1197, .ifCond .eq 5, 3, 0, 0)]
def zL_law_t17 : List zRow := [(1200, .iconst 0, 1, 0, 0), (1201, .ireturn, 1, 0, 0), (1202, .goto 921, 3, 0, 0), (1205, .aload_n 1, 1, 0, 0), (1206, .aload_n 0, 1, 0, 0), (1207, .iload 5, 2, 0, 0), (1209, .iconst 1, 1, 0, 0), (1210, .iadd, 1, 0, 0), (1211, .iaload, 1, 0, 0), (1212, .aload_n 0, 1, 0, 0), (1213, .iload 5, 2, 0, 0), (1215, .iconst 2, 1, 0, 0), (1216, .iadd, 1, 0, 0), (1217, .iaload, 1, 0, 0), (1218, .aload_n 3, 1, 0, 0), (1219, .invokestatic 177, 3, 286, 4), (1222, .istore 6, 2, 0, 0), (1224, .aload_n 2, 1, 0, 0), (1225, .aload_n 0, 1, 0, 0), (1226, .iload 5, 2, 0, 0), (1228, .iconst 1, 1, 0, 0), (1229, .iadd, 1, 0, 0), (1230, .iaload, 1, 0, 0), (1231, .aload_n 0, 1, 0, 0), (1232, .iload 5, 2, 0, 0), (1234, .iconst 2, 1, 0, 0), (1235, .iadd, 1, 0, 0), (1236, .iaload, 1, 0, 0), (1237, .invokevirtual 179, 3, 237, 2), (1240, .istore 7, 2, 0, 0), (1242, .aload_n 2, 1, 0, 0), (1243, .invokevirtual 120, 3, 160, 0), (1246, .iload 6, 2, 0, 0), (1248, .if_icmp .eq 5, 3, 0, 0), (1251, .iconst 0, 1, 0, 0), (1252, .ireturn, 1, 0, 0), (1253, .iload 6, 2, 0, 0), (1255, .ifCond .ne 15, 3, 0, 0), (1258, .aload_n 3, 1, 0, 0), (1259, .iconst 0, 1, 0, 0)]
def zL_law_t18 : List zRow := [(1260, .laload, 1, 0, 0), (1261, .iload 7, 2, 0, 0), (1263, .i2l, 1, 0, 0), (1264, .lcmp, 1, 0, 0), (1265, .ifCond .eq 5, 3, 0, 0), (1268, .iconst 0, 1, 0, 0), (1269, .ireturn, 1, 0, 0), (1270, .goto 853, 3, 0, 0), (1273, .aload_n 1, 1, 0, 0), (1274, .aload_n 0, 1, 0, 0), (1275, .iload 5, 2, 0, 0), (1277, .iconst 1, 1, 0, 0), (1278, .iadd, 1, 0, 0), (1279, .iaload, 1, 0, 0), (1280, .aload_n 3, 1, 0, 0), (1281, .invokestatic 180, 3, 287, 3), (1284, .istore 6, 2, 0, 0), (1286, .aload_n 2, 1, 0, 0), (1287, .aload_n 0, 1, 0, 0), (1288, .iload 5, 2, 0, 0), (1290, .iconst 1, 1, 0, 0), (1291, .iadd, 1, 0, 0), (1292, .iaload, 1, 0, 0), (1293, .invokevirtual 182, 3, 244, 1), (1296, .istore 7, 2, 0, 0), (1298, .aload_n 2, 1, 0, 0), (1299, .invokevirtual 120, 3, 160, 0), (1302, .iload 6, 2, 0, 0), (1304, .if_icmp .eq 5, 3, 0, 0), (1307, .iconst 0, 1, 0, 0), (1308, .ireturn, 1, 0, 0), (1309, .iload 6, 2, 0, 0), (1311, .ifCond .ne 15, 3, 0, 0), (1314, .aload_n 3, 1, 0, 0), (1315, .iconst 0, 1, 0, 0), (1316, .laload, 1, 0, 0), (1317, .iload 7, 2, 0, 0), (1319, .i2l, 1, 0, 0), (1320, .lcmp, 1, 0, 0), (1321, .ifCond .eq 5, 3, 0, 0)]
def zL_law_t19 : List zRow := [(1324, .iconst 0, 1, 0, 0), (1325, .ireturn, 1, 0, 0), (1326, .goto 797, 3, 0, 0), (1329, .aload_n 1, 1, 0, 0), (1330, .aload_n 0, 1, 0, 0), (1331, .iload 5, 2, 0, 0), (1333, .iconst 1, 1, 0, 0), (1334, .iadd, 1, 0, 0), (1335, .iaload, 1, 0, 0), (1336, .aload_n 0, 1, 0, 0), (1337, .iload 5, 2, 0, 0), (1339, .iconst 2, 1, 0, 0), (1340, .iadd, 1, 0, 0), (1341, .iaload, 1, 0, 0), (1342, .aload_n 3, 1, 0, 0), (1343, .invokestatic 183, 3, 288, 4), (1346, .istore 6, 2, 0, 0), (1348, .aload_n 2, 1, 0, 0), (1349, .aload_n 0, 1, 0, 0), (1350, .iload 5, 2, 0, 0), (1352, .iconst 1, 1, 0, 0), (1353, .iadd, 1, 0, 0), (1354, .iaload, 1, 0, 0), (1355, .aload_n 0, 1, 0, 0), (1356, .iload 5, 2, 0, 0), (1358, .iconst 2, 1, 0, 0), (1359, .iadd, 1, 0, 0), (1360, .iaload, 1, 0, 0), (1361, .invokevirtual 185, 3, 247, 2), (1364, .istore 7, 2, 0, 0), (1366, .aload_n 2, 1, 0, 0), (1367, .invokevirtual 120, 3, 160, 0), (1370, .iload 6, 2, 0, 0), (1372, .if_icmp .eq 5, 3, 0, 0), (1375, .iconst 0, 1, 0, 0), (1376, .ireturn, 1, 0, 0), (1377, .iload 6, 2, 0, 0), (1379, .ifCond .ne 15, 3, 0, 0), (1382, .aload_n 3, 1, 0, 0), (1383, .iconst 0, 1, 0, 0)]
def zL_law_t20 : List zRow := [(1384, .laload, 1, 0, 0), (1385, .iload 7, 2, 0, 0), (1387, .i2l, 1, 0, 0), (1388, .lcmp, 1, 0, 0), (1389, .ifCond .eq 5, 3, 0, 0), (1392, .iconst 0, 1, 0, 0), (1393, .ireturn, 1, 0, 0), (1394, .goto 729, 3, 0, 0), (1397, .aload_n 1, 1, 0, 0), (1398, .aload_n 0, 1, 0, 0), (1399, .iload 5, 2, 0, 0), (1401, .iconst 1, 1, 0, 0), (1402, .iadd, 1, 0, 0), (1403, .iaload, 1, 0, 0), (1404, .aload_n 0, 1, 0, 0), (1405, .iload 5, 2, 0, 0), (1407, .iconst 2, 1, 0, 0), (1408, .iadd, 1, 0, 0), (1409, .iaload, 1, 0, 0), (1410, .aload_n 0, 1, 0, 0), (1411, .iload 5, 2, 0, 0), (1413, .iconst 3, 1, 0, 0), (1414, .iadd, 1, 0, 0), (1415, .iaload, 1, 0, 0), (1416, .aload_n 3, 1, 0, 0), (1417, .invokestatic 186, 3, 289, 5), (1420, .istore 6, 2, 0, 0), (1422, .aload_n 2, 1, 0, 0), (1423, .aload_n 0, 1, 0, 0), (1424, .iload 5, 2, 0, 0), (1426, .iconst 1, 1, 0, 0), (1427, .iadd, 1, 0, 0), (1428, .iaload, 1, 0, 0), (1429, .aload_n 0, 1, 0, 0), (1430, .iload 5, 2, 0, 0), (1432, .iconst 2, 1, 0, 0), (1433, .iadd, 1, 0, 0), (1434, .iaload, 1, 0, 0), (1435, .aload_n 0, 1, 0, 0), (1436, .iload 5, 2, 0, 0)]
def zL_law_t21 : List zRow := [(1438, .iconst 3, 1, 0, 0), (1439, .iadd, 1, 0, 0), (1440, .iaload, 1, 0, 0), (1441, .invokevirtual 188, 3, 249, 3), (1444, .istore 7, 2, 0, 0), (1446, .aload_n 2, 1, 0, 0), (1447, .invokevirtual 120, 3, 160, 0), (1450, .iload 6, 2, 0, 0), (1452, .if_icmp .eq 5, 3, 0, 0), (1455, .iconst 0, 1, 0, 0), (1456, .ireturn, 1, 0, 0), (1457, .iload 6, 2, 0, 0), (1459, .ifCond .ne 15, 3, 0, 0), (1462, .aload_n 3, 1, 0, 0), (1463, .iconst 0, 1, 0, 0), (1464, .laload, 1, 0, 0), (1465, .iload 7, 2, 0, 0), (1467, .i2l, 1, 0, 0), (1468, .lcmp, 1, 0, 0), (1469, .ifCond .eq 5, 3, 0, 0), (1472, .iconst 0, 1, 0, 0), (1473, .ireturn, 1, 0, 0), (1474, .goto 649, 3, 0, 0), (1477, .aload_n 1, 1, 0, 0), (1478, .aload_n 0, 1, 0, 0), (1479, .iload 5, 2, 0, 0), (1481, .iconst 1, 1, 0, 0), (1482, .iadd, 1, 0, 0), (1483, .iaload, 1, 0, 0), (1484, .aload_n 0, 1, 0, 0), (1485, .iload 5, 2, 0, 0), (1487, .iconst 2, 1, 0, 0), (1488, .iadd, 1, 0, 0), (1489, .iaload, 1, 0, 0), (1490, .aload_n 0, 1, 0, 0), (1491, .iload 5, 2, 0, 0), (1493, .iconst 3, 1, 0, 0), (1494, .iadd, 1, 0, 0), (1495, .iaload, 1, 0, 0), (1496, .aload_n 3, 1, 0, 0)]
def zL_law_t22 : List zRow := [(1497, .invokestatic 189, 3, 290, 5), (1500, .istore 6, 2, 0, 0), (1502, .aload_n 2, 1, 0, 0), (1503, .aload_n 0, 1, 0, 0), (1504, .iload 5, 2, 0, 0), (1506, .iconst 1, 1, 0, 0), (1507, .iadd, 1, 0, 0), (1508, .iaload, 1, 0, 0), (1509, .aload_n 0, 1, 0, 0), (1510, .iload 5, 2, 0, 0), (1512, .iconst 2, 1, 0, 0), (1513, .iadd, 1, 0, 0), (1514, .iaload, 1, 0, 0), (1515, .aload_n 0, 1, 0, 0), (1516, .iload 5, 2, 0, 0), (1518, .iconst 3, 1, 0, 0), (1519, .iadd, 1, 0, 0), (1520, .iaload, 1, 0, 0), (1521, .invokevirtual 191, 3, 250, 3), (1524, .istore 7, 2, 0, 0), (1526, .aload_n 2, 1, 0, 0), (1527, .invokevirtual 120, 3, 160, 0), (1530, .iload 6, 2, 0, 0), (1532, .if_icmp .eq 5, 3, 0, 0), (1535, .iconst 0, 1, 0, 0), (1536, .ireturn, 1, 0, 0), (1537, .iload 6, 2, 0, 0), (1539, .ifCond .ne 15, 3, 0, 0), (1542, .aload_n 3, 1, 0, 0), (1543, .iconst 0, 1, 0, 0), (1544, .laload, 1, 0, 0), (1545, .iload 7, 2, 0, 0), (1547, .i2l, 1, 0, 0), (1548, .lcmp, 1, 0, 0), (1549, .ifCond .eq 5, 3, 0, 0), (1552, .iconst 0, 1, 0, 0), (1553, .ireturn, 1, 0, 0), (1554, .goto 569, 3, 0, 0), (1557, .aload_n 1, 1, 0, 0), (1558, .aload_n 0, 1, 0, 0)]
def zL_law_t23 : List zRow := [(1559, .iload 5, 2, 0, 0), (1561, .iconst 1, 1, 0, 0), (1562, .iadd, 1, 0, 0), (1563, .iaload, 1, 0, 0), (1564, .aload_n 0, 1, 0, 0), (1565, .iload 5, 2, 0, 0), (1567, .iconst 2, 1, 0, 0), (1568, .iadd, 1, 0, 0), (1569, .iaload, 1, 0, 0), (1570, .aload_n 3, 1, 0, 0), (1571, .invokestatic 192, 3, 291, 4), (1574, .istore 6, 2, 0, 0), (1576, .aload_n 2, 1, 0, 0), (1577, .aload_n 0, 1, 0, 0), (1578, .iload 5, 2, 0, 0), (1580, .iconst 1, 1, 0, 0), (1581, .iadd, 1, 0, 0), (1582, .iaload, 1, 0, 0), (1583, .aload_n 0, 1, 0, 0), (1584, .iload 5, 2, 0, 0), (1586, .iconst 2, 1, 0, 0), (1587, .iadd, 1, 0, 0), (1588, .iaload, 1, 0, 0), (1589, .invokevirtual 194, 3, 252, 2), (1592, .istore 7, 2, 0, 0), (1594, .aload_n 2, 1, 0, 0), (1595, .invokevirtual 120, 3, 160, 0), (1598, .iload 6, 2, 0, 0), (1600, .if_icmp .eq 5, 3, 0, 0), (1603, .iconst 0, 1, 0, 0), (1604, .ireturn, 1, 0, 0), (1605, .iload 6, 2, 0, 0), (1607, .ifCond .ne 15, 3, 0, 0), (1610, .aload_n 3, 1, 0, 0), (1611, .iconst 0, 1, 0, 0), (1612, .laload, 1, 0, 0), (1613, .iload 7, 2, 0, 0), (1615, .i2l, 1, 0, 0), (1616, .lcmp, 1, 0, 0), (1617, .ifCond .eq 5, 3, 0, 0)]
def zL_law_t24 : List zRow := [(1620, .iconst 0, 1, 0, 0), (1621, .ireturn, 1, 0, 0), (1622, .goto 501, 3, 0, 0), (1625, .aload_n 1, 1, 0, 0), (1626, .aload_n 0, 1, 0, 0), (1627, .iload 5, 2, 0, 0), (1629, .iconst 1, 1, 0, 0), (1630, .iadd, 1, 0, 0), (1631, .iaload, 1, 0, 0), (1632, .aload_n 0, 1, 0, 0), (1633, .iload 5, 2, 0, 0), (1635, .iconst 2, 1, 0, 0), (1636, .iadd, 1, 0, 0), (1637, .iaload, 1, 0, 0), (1638, .aload_n 3, 1, 0, 0), (1639, .invokestatic 195, 3, 292, 4), (1642, .istore 6, 2, 0, 0), (1644, .aload_n 2, 1, 0, 0), (1645, .aload_n 0, 1, 0, 0), (1646, .iload 5, 2, 0, 0), (1648, .iconst 1, 1, 0, 0), (1649, .iadd, 1, 0, 0), (1650, .iaload, 1, 0, 0), (1651, .aload_n 0, 1, 0, 0), (1652, .iload 5, 2, 0, 0), (1654, .iconst 2, 1, 0, 0), (1655, .iadd, 1, 0, 0), (1656, .iaload, 1, 0, 0), (1657, .invokevirtual 197, 3, 253, 2), (1660, .istore 7, 2, 0, 0), (1662, .aload_n 2, 1, 0, 0), (1663, .invokevirtual 120, 3, 160, 0), (1666, .iload 6, 2, 0, 0), (1668, .if_icmp .eq 5, 3, 0, 0), (1671, .iconst 0, 1, 0, 0), (1672, .ireturn, 1, 0, 0), (1673, .iload 6, 2, 0, 0), (1675, .ifCond .ne 15, 3, 0, 0), (1678, .aload_n 3, 1, 0, 0), (1679, .iconst 0, 1, 0, 0)]
def zL_law_t25 : List zRow := [(1680, .laload, 1, 0, 0), (1681, .iload 7, 2, 0, 0), (1683, .i2l, 1, 0, 0), (1684, .lcmp, 1, 0, 0), (1685, .ifCond .eq 5, 3, 0, 0), (1688, .iconst 0, 1, 0, 0), (1689, .ireturn, 1, 0, 0), (1690, .goto 433, 3, 0, 0), (1693, .aload_n 1, 1, 0, 0), (1694, .aload_n 0, 1, 0, 0), (1695, .iload 5, 2, 0, 0), (1697, .iconst 1, 1, 0, 0), (1698, .iadd, 1, 0, 0), (1699, .iaload, 1, 0, 0), (1700, .aload_n 0, 1, 0, 0), (1701, .iload 5, 2, 0, 0), (1703, .iconst 2, 1, 0, 0), (1704, .iadd, 1, 0, 0), (1705, .iaload, 1, 0, 0), (1706, .aload_n 3, 1, 0, 0), (1707, .invokestatic 198, 3, 293, 4), (1710, .istore 6, 2, 0, 0), (1712, .aload_n 2, 1, 0, 0), (1713, .aload_n 0, 1, 0, 0), (1714, .iload 5, 2, 0, 0), (1716, .iconst 1, 1, 0, 0), (1717, .iadd, 1, 0, 0), (1718, .iaload, 1, 0, 0), (1719, .aload_n 0, 1, 0, 0), (1720, .iload 5, 2, 0, 0), (1722, .iconst 2, 1, 0, 0), (1723, .iadd, 1, 0, 0), (1724, .iaload, 1, 0, 0), (1725, .invokevirtual 200, 3, 256, 2), (1728, .istore 7, 2, 0, 0), (1730, .aload_n 2, 1, 0, 0), (1731, .invokevirtual 120, 3, 160, 0), (1734, .iload 6, 2, 0, 0), (1736, .if_icmp .eq 5, 3, 0, 0), (1739, .iconst 0, 1, 0, 0)]
def zL_law_t26 : List zRow := [(1740, .ireturn, 1, 0, 0), (1741, .iload 6, 2, 0, 0), (1743, .ifCond .ne 15, 3, 0, 0), (1746, .aload_n 3, 1, 0, 0), (1747, .iconst 0, 1, 0, 0), (1748, .laload, 1, 0, 0), (1749, .iload 7, 2, 0, 0), (1751, .i2l, 1, 0, 0), (1752, .lcmp, 1, 0, 0), (1753, .ifCond .eq 5, 3, 0, 0), (1756, .iconst 0, 1, 0, 0), (1757, .ireturn, 1, 0, 0), (1758, .goto 365, 3, 0, 0), (1761, .aload_n 1, 1, 0, 0), (1762, .aload_n 0, 1, 0, 0), (1763, .iload 5, 2, 0, 0), (1765, .iconst 1, 1, 0, 0), (1766, .iadd, 1, 0, 0), (1767, .iaload, 1, 0, 0), (1768, .aload_n 0, 1, 0, 0), (1769, .iload 5, 2, 0, 0), (1771, .iconst 2, 1, 0, 0), (1772, .iadd, 1, 0, 0), (1773, .iaload, 1, 0, 0), (1774, .aload_n 3, 1, 0, 0), (1775, .invokestatic 201, 3, 294, 4), (1778, .istore 6, 2, 0, 0), (1780, .aload_n 2, 1, 0, 0), (1781, .aload_n 0, 1, 0, 0), (1782, .iload 5, 2, 0, 0), (1784, .iconst 1, 1, 0, 0), (1785, .iadd, 1, 0, 0), (1786, .iaload, 1, 0, 0), (1787, .aload_n 0, 1, 0, 0), (1788, .iload 5, 2, 0, 0), (1790, .iconst 2, 1, 0, 0), (1791, .iadd, 1, 0, 0), (1792, .iaload, 1, 0, 0), (1793, .invokevirtual 203, 3, 258, 2), (1796, .istore 7, 2, 0, 0)]
def zL_law_t27 : List zRow := [(1798, .aload_n 2, 1, 0, 0), (1799, .invokevirtual 120, 3, 160, 0), (1802, .iload 6, 2, 0, 0), (1804, .if_icmp .eq 5, 3, 0, 0), (1807, .iconst 0, 1, 0, 0), (1808, .ireturn, 1, 0, 0), (1809, .iload 6, 2, 0, 0), (1811, .ifCond .ne 15, 3, 0, 0), (1814, .aload_n 3, 1, 0, 0), (1815, .iconst 0, 1, 0, 0), (1816, .laload, 1, 0, 0), (1817, .iload 7, 2, 0, 0), (1819, .i2l, 1, 0, 0), (1820, .lcmp, 1, 0, 0), (1821, .ifCond .eq 5, 3, 0, 0), (1824, .iconst 0, 1, 0, 0), (1825, .ireturn, 1, 0, 0), (1826, .goto 297, 3, 0, 0), (1829, .aload_n 1, 1, 0, 0), (1830, .aload_n 0, 1, 0, 0), (1831, .iload 5, 2, 0, 0), (1833, .iconst 1, 1, 0, 0), (1834, .iadd, 1, 0, 0), (1835, .iaload, 1, 0, 0), (1836, .aload_n 3, 1, 0, 0), (1837, .invokestatic 204, 3, 295, 3), (1840, .istore 6, 2, 0, 0), (1842, .aload_n 2, 1, 0, 0), (1843, .aload_n 0, 1, 0, 0), (1844, .iload 5, 2, 0, 0), (1846, .iconst 1, 1, 0, 0), (1847, .iadd, 1, 0, 0), (1848, .iaload, 1, 0, 0), (1849, .invokevirtual 206, 3, 260, 1), (1852, .lstore 7, 2, 0, 0), (1854, .aload_n 2, 1, 0, 0), (1855, .invokevirtual 120, 3, 160, 0), (1858, .iload 6, 2, 0, 0), (1860, .if_icmp .eq 5, 3, 0, 0), (1863, .iconst 0, 1, 0, 0)]
def zL_law_t28 : List zRow := [(1864, .ireturn, 1, 0, 0), (1865, .iload 6, 2, 0, 0), (1867, .ifCond .ne 14, 3, 0, 0), (1870, .aload_n 3, 1, 0, 0), (1871, .iconst 0, 1, 0, 0), (1872, .laload, 1, 0, 0), (1873, .lload 7, 2, 0, 0), (1875, .lcmp, 1, 0, 0), (1876, .ifCond .eq 5, 3, 0, 0), (1879, .iconst 0, 1, 0, 0), (1880, .ireturn, 1, 0, 0), (1881, .goto 242, 3, 0, 0), (1884, .aload_n 1, 1, 0, 0), (1885, .aload_n 0, 1, 0, 0), (1886, .iload 5, 2, 0, 0), (1888, .iconst 1, 1, 0, 0), (1889, .iadd, 1, 0, 0), (1890, .iaload, 1, 0, 0), (1891, .aload 4, 2, 0, 0), (1893, .invokestatic 207, 3, 296, 3), (1896, .istore 6, 2, 0, 0), (1898, .aload_n 2, 1, 0, 0), (1899, .aload_n 0, 1, 0, 0), (1900, .iload 5, 2, 0, 0), (1902, .iconst 1, 1, 0, 0), (1903, .iadd, 1, 0, 0), (1904, .iaload, 1, 0, 0), (1905, .invokevirtual 210, 3, 261, 1), (1908, .dstore 7, 2, 0, 0), (1910, .aload_n 2, 1, 0, 0), (1911, .invokevirtual 120, 3, 160, 0), (1914, .iload 6, 2, 0, 0), (1916, .if_icmp .eq 5, 3, 0, 0), (1919, .iconst 0, 1, 0, 0), (1920, .ireturn, 1, 0, 0), (1921, .iload 6, 2, 0, 0), (1923, .ifCond .ne 35, 3, 0, 0), (1926, .aload 4, 2, 0, 0), (1928, .iconst 0, 1, 0, 0), (1929, .daload, 1, 0, 0)]
def zL_law_t29 : List zRow := [(1930, .dload 7, 2, 0, 0), (1932, .dcmp .l, 1, 0, 0), (1933, .ifCond .eq 25, 3, 0, 0), (1936, .aload 4, 2, 0, 0), (1938, .iconst 0, 1, 0, 0), (1939, .daload, 1, 0, 0), (1940, .aload 4, 2, 0, 0), (1942, .iconst 0, 1, 0, 0), (1943, .daload, 1, 0, 0), (1944, .dcmp .l, 1, 0, 0), (1945, .ifCond .eq 11, 3, 0, 0), (1948, .dload 7, 2, 0, 0), (1950, .dload 7, 2, 0, 0), (1952, .dcmp .l, 1, 0, 0), (1953, .ifCond .ne 5, 3, 0, 0), (1956, .iconst 0, 1, 0, 0), (1957, .ireturn, 1, 0, 0), (1958, .goto 165, 3, 0, 0), (1961, .aload_n 1, 1, 0, 0), (1962, .aload_n 0, 1, 0, 0), (1963, .iload 5, 2, 0, 0), (1965, .iconst 1, 1, 0, 0), (1966, .iadd, 1, 0, 0), (1967, .iaload, 1, 0, 0), (1968, .aload_n 3, 1, 0, 0), (1969, .invokestatic 211, 3, 297, 3), (1972, .istore 6, 2, 0, 0), (1974, .aload_n 2, 1, 0, 0), (1975, .aload_n 0, 1, 0, 0), (1976, .iload 5, 2, 0, 0), (1978, .iconst 1, 1, 0, 0), (1979, .iadd, 1, 0, 0), (1980, .iaload, 1, 0, 0), (1981, .invokevirtual 213, 3, 262, 1), (1984, .istore 7, 2, 0, 0), (1986, .aload_n 2, 1, 0, 0), (1987, .invokevirtual 120, 3, 160, 0), (1990, .iload 6, 2, 0, 0), (1992, .if_icmp .eq 5, 3, 0, 0), (1995, .iconst 0, 1, 0, 0)]
def zL_law_t30 : List zRow := [(1996, .ireturn, 1, 0, 0), (1997, .iload 6, 2, 0, 0), (1999, .ifCond .ne 15, 3, 0, 0), (2002, .aload_n 3, 1, 0, 0), (2003, .iconst 0, 1, 0, 0), (2004, .laload, 1, 0, 0), (2005, .iload 7, 2, 0, 0), (2007, .i2l, 1, 0, 0), (2008, .lcmp, 1, 0, 0), (2009, .ifCond .eq 5, 3, 0, 0), (2012, .iconst 0, 1, 0, 0), (2013, .ireturn, 1, 0, 0), (2014, .goto 109, 3, 0, 0), (2017, .aload_n 1, 1, 0, 0), (2018, .aload_n 0, 1, 0, 0), (2019, .iload 5, 2, 0, 0), (2021, .iconst 1, 1, 0, 0), (2022, .iadd, 1, 0, 0), (2023, .iaload, 1, 0, 0), (2024, .aload_n 0, 1, 0, 0), (2025, .iload 5, 2, 0, 0), (2027, .iconst 2, 1, 0, 0), (2028, .iadd, 1, 0, 0), (2029, .iaload, 1, 0, 0), (2030, .aload_n 0, 1, 0, 0), (2031, .iload 5, 2, 0, 0), (2033, .iconst 3, 1, 0, 0), (2034, .iadd, 1, 0, 0), (2035, .iaload, 1, 0, 0), (2036, .aload_n 0, 1, 0, 0), (2037, .iload 5, 2, 0, 0), (2039, .iconst 4, 1, 0, 0), (2040, .iadd, 1, 0, 0), (2041, .iaload, 1, 0, 0), (2042, .aload_n 3, 1, 0, 0), (2043, .invokestatic 214, 3, 298, 6), (2046, .istore 6, 2, 0, 0), (2048, .aload_n 2, 1, 0, 0), (2049, .aload_n 0, 1, 0, 0), (2050, .iload 5, 2, 0, 0)]
def zL_law_t31 : List zRow := [(2052, .iconst 1, 1, 0, 0), (2053, .iadd, 1, 0, 0), (2054, .iaload, 1, 0, 0), (2055, .aload_n 0, 1, 0, 0), (2056, .iload 5, 2, 0, 0), (2058, .iconst 2, 1, 0, 0), (2059, .iadd, 1, 0, 0), (2060, .iaload, 1, 0, 0), (2061, .aload_n 0, 1, 0, 0), (2062, .iload 5, 2, 0, 0), (2064, .iconst 3, 1, 0, 0), (2065, .iadd, 1, 0, 0), (2066, .iaload, 1, 0, 0), (2067, .aload_n 0, 1, 0, 0), (2068, .iload 5, 2, 0, 0), (2070, .iconst 4, 1, 0, 0), (2071, .iadd, 1, 0, 0), (2072, .iaload, 1, 0, 0), (2073, .invokevirtual 216, 3, 264, 4), (2076, .istore 7, 2, 0, 0), (2078, .aload_n 2, 1, 0, 0), (2079, .invokevirtual 120, 3, 160, 0), (2082, .iload 6, 2, 0, 0), (2084, .if_icmp .eq 5, 3, 0, 0), (2087, .iconst 0, 1, 0, 0), (2088, .ireturn, 1, 0, 0), (2089, .iload 6, 2, 0, 0), (2091, .ifCond .ne 15, 3, 0, 0), (2094, .aload_n 3, 1, 0, 0), (2095, .iconst 0, 1, 0, 0), (2096, .laload, 1, 0, 0), (2097, .iload 7, 2, 0, 0), (2099, .i2l, 1, 0, 0), (2100, .lcmp, 1, 0, 0), (2101, .ifCond .eq 5, 3, 0, 0), (2104, .iconst 0, 1, 0, 0), (2105, .ireturn, 1, 0, 0), (2106, .goto 17, 3, 0, 0), (2109, .aload_n 1, 1, 0, 0), (2110, .invokevirtual 217, 3, 137, 0)]
def zL_law_t32 : List zRow := [(2113, .aload_n 2, 1, 0, 0), (2114, .invokevirtual 221, 3, 267, 0), (2117, .lcmp, 1, 0, 0), (2118, .ifCond .eq 5, 3, 0, 0), (2121, .iconst 0, 1, 0, 0), (2122, .ireturn, 1, 0, 0), (2123, .iinc 5 5, 3, 0, 0), (2126, .goto (-2098), 3, 0, 0), (2129, .iconst 1, 1, 0, 0), (2130, .ireturn, 1, 0, 0)]
def zL_law : zI := (yL_law, cL_law, 9, (some .boolean), zL_law_t0 ++ zL_law_t1 ++ zL_law_t2 ++ zL_law_t3 ++ zL_law_t4 ++ zL_law_t5 ++ zL_law_t6 ++ zL_law_t7 ++ zL_law_t8 ++ zL_law_t9 ++ zL_law_t10 ++ zL_law_t11 ++ zL_law_t12 ++ zL_law_t13 ++ zL_law_t14 ++ zL_law_t15 ++ zL_law_t16 ++ zL_law_t17 ++ zL_law_t18 ++ zL_law_t19 ++ zL_law_t20 ++ zL_law_t21 ++ zL_law_t22 ++ zL_law_t23 ++ zL_law_t24 ++ zL_law_t25 ++ zL_law_t26 ++ zL_law_t27 ++ zL_law_t28 ++ zL_law_t29 ++ zL_law_t30 ++ zL_law_t31 ++ zL_law_t32, [], 13, 532)
abbrev zN : Nat := 300
def zP (a : Nat) : zI := if a < 150 then (if a < 75 then (if a < 37 then (if a < 18 then (if a < 9 then (if a < 4 then (if a < 2 then (if a < 1 then (zX0_init) else (zX0_collect)) else (if a < 3 then (zX0_lastLine) else (zX0_measureBlock))) else (if a < 6 then (if a < 5 then (zX0_addNumbers) else (zX0_isDecimal)) else (if a < 7 then (zX0_measureDecimal) else (if a < 8 then (zX0_measurePlain) else (zX0_size))))) else (if a < 13 then (if a < 11 then (if a < 10 then (zX0_has) else (zX0_fact)) else (if a < 12 then (zX0_column) else (zX0_first))) else (if a < 15 then (if a < 14 then (zX0_last) else (zX0_width)) else (if a < 16 then (zX0_alignment) else (if a < 17 then (zX0_numbers) else (zX0_fractionWidth)))))) else (if a < 27 then (if a < 22 then (if a < 20 then (if a < 19 then (zX0_total) else (zX0_countBetween)) else (if a < 21 then (zX0_mixInto) else (zX1_init))) else (if a < 24 then (if a < 23 then (zX1_read) else (zX1_readCell)) else (if a < 25 then (zX1_slot) else (if a < 26 then (zX1_lines) else (zX1_hasLine))))) else (if a < 32 then (if a < 29 then (if a < 28 then (zX1_hasCell) else (zX1_endsWithTab)) else (if a < 30 then (zX1_cellsOf) else (if a < 31 then (zX1_start) else (zX1_length)))) else (if a < 34 then (if a < 33 then (zX1_kind) else (zX1_whole)) else (if a < 35 then (zX1_value) else (if a < 36 then (zX1_lineStart) else (zX1_lineEnd))))))) else (if a < 56 then (if a < 46 then (if a < 41 then (if a < 39 then (if a < 38 then (zX1_hasRoomFor) else (zX1_canErase)) else (if a < 40 then (zX1_hasFullLine) else (zX1_cellCount))) else (if a < 43 then (if a < 42 then (zX1_signCount) else (zX1_signsOf)) else (if a < 44 then (zX1_countKind) else (if a < 45 then (zX1_fixedLength) else (zX2_init))))) else (if a < 51 then (if a < 48 then (if a < 47 then (zX2_alignment) else (zX2_padding)) else (if a < 49 then (zX2_changeAlignment) else (if a < 50 then (zX2_allowsSpacing) else (zX2_changeSpacing)))) else (if a < 53 then (if a < 52 then (zX2_widthFor) else (zX2_mixInto)) else (if a < 54 then (zX3_init) else (if a < 55 then (zX3_page) else (zX3_undos)))))) else (if a < 65 then (if a < 60 then (if a < 58 then (if a < 57 then (zX3_redos) else (zX3_save)) else (if a < 59 then (zX3_stepBack) else (zX3_stepForward))) else (if a < 62 then (if a < 61 then (zX3_placeBehind) else (zX3_goTo)) else (if a < 63 then (zX4_init) else (if a < 64 then (zX4_length) else (zX4_isFull))))) else (if a < 70 then (if a < 67 then (if a < 66 then (zX4_add) else (zX4_empty)) else (if a < 68 then (zX4_codeAt) else (if a < 69 then (zX4_pageCodeAt) else (zX4_firstFault)))) else (if a < 72 then (if a < 71 then (zX4_mixInto) else (zX5_init)) else (if a < 73 then (zX5_placeCells) else (if a < 74 then (zX5_placeCellsOf) else (zX5_x)))))))) else (if a < 112 then (if a < 93 then (if a < 84 then (if a < 79 then (if a < 77 then (if a < 76 then (zX5_blockNumber) else (zX5_shift)) else (if a < 78 then (zX5_cellFact) else (zX5_lineFact))) else (if a < 81 then (if a < 80 then (zX5_shownLength) else (zX5_greatestShownLength)) else (if a < 82 then (zX5_cellAt) else (if a < 83 then (zX5_countOtherX) else (zX6_init))))) else (if a < 88 then (if a < 86 then (if a < 85 then (zX6_lineAt) else (zX6_move)) else (if a < 87 then (zX6_moved) else (zX7_init))) else (if a < 90 then (if a < 89 then (zX7_size) else (zX7_codeAt)) else (if a < 91 then (zX7_clear) else (if a < 92 then (zX7_add) else (zX7_addFrom)))))) else (if a < 102 then (if a < 97 then (if a < 95 then (if a < 94 then (zX7_becomeCopyOf) else (zX7_put)) else (if a < 96 then (zX7_putInput) else (zX7_open))) else (if a < 99 then (if a < 98 then (zX7_cut) else (zX7_runStart)) else (if a < 100 then (zX7_countRuns) else (if a < 101 then (zX7_replaceRuns) else (zX8_kindOf))))) else (if a < 107 then (if a < 104 then (if a < 103 then (zX8_isBlank) else (zX8_isNumber)) else (if a < 105 then (zX8_wholeLength) else (if a < 106 then (zX8_valueOf) else (zX9_init)))) else (if a < 109 then (if a < 108 then (zX9_append) else (zX9_clearInput)) else (if a < 110 then (zX9_firstError) else (if a < 111 then (zX9_load) else (zX9_type))))))) else (if a < 131 then (if a < 121 then (if a < 116 then (if a < 114 then (if a < 113 then (zX9_erase) else (zX9_setCell)) else (if a < 115 then (zX9_insertLine) else (zX9_removeLine))) else (if a < 118 then (if a < 117 then (zX9_moveLine) else (zX9_sort)) else (if a < 119 then (zX9_insertColumn) else (if a < 120 then (zX9_removeColumn) else (zX9_retab))))) else (if a < 126 then (if a < 123 then (if a < 122 then (zX9_undo) else (zX9_redo)) else (if a < 124 then (zX9_setAlignment) else (if a < 125 then (zX9_setSpacing) else (zX9_count)))) else (if a < 128 then (if a < 127 then (zX9_line) else (zX9_cell)) else (if a < 129 then (zX9_letter) else (if a < 130 then (zX9_shown) else (zX9_hit)))))) else (if a < 140 then (if a < 135 then (if a < 133 then (if a < 132 then (zX9_find) else (zX9_block)) else (if a < 134 then (zX9_sum) else (zX9_mean))) else (if a < 137 then (if a < 136 then (zX9_touched) else (zX9_ifTyped)) else (if a < 138 then (zX9_digest) else (if a < 139 then (zX9_cells) else (zX9_measure))))) else (if a < 145 then (if a < 142 then (if a < 141 then (zX9_requireLine) else (zX9_requireCell)) else (if a < 143 then (zX9_requireOffset) else (if a < 144 then (zX9_requireTypable) else (zX9_requireShownPlace)))) else (if a < 147 then (if a < 146 then (zX9_requireBlock) else (zX9_requireInput)) else (if a < 148 then (zX9_signAt) else (if a < 149 then (zX9_equalsInput) else (zX9_arrange))))))))) else (if a < 225 then (if a < 187 then (if a < 168 then (if a < 159 then (if a < 154 then (if a < 152 then (if a < 151 then (zX9_sortLines) else (zX9_comesBefore)) else (if a < 153 then (zX9_sortRank) else (zX9_compareWords))) else (if a < 156 then (if a < 155 then (zX9_countFact) else (zX9_mixLine)) else (if a < 157 then (zX9_mix) else (if a < 158 then (zX9_isSign) else (zX9_isDigit))))) else (if a < 163 then (if a < 161 then (if a < 160 then (zX10_init) else (zX10_thrown)) else (if a < 162 then (zX10_within) else (zX10_cells))) else (if a < 165 then (if a < 164 then (zX10_lengthOf) else (zX10_setLength)) else (if a < 166 then (zX10_place) else (if a < 167 then (zX10_signOf) else (zX10_isLine)))))) else (if a < 177 then (if a < 172 then (if a < 170 then (if a < 169 then (zX10_isCell) else (zX10_isPlace)) else (if a < 171 then (zX10_copyCell) else (zX10_copyLine))) else (if a < 174 then (if a < 173 then (zX10_openLine) else (zX10_closeLine)) else (if a < 175 then (zX10_openCell) else (if a < 176 then (zX10_closeCell) else (zX10_giveTail))))) else (if a < 182 then (if a < 179 then (if a < 178 then (zX10_save) else (zX10_undo)) else (if a < 180 then (zX10_redo) else (if a < 181 then (zX10_append) else (zX10_clearInput)))) else (if a < 184 then (if a < 183 then (zX10_isFigure) else (zX10_isSign)) else (if a < 185 then (zX10_rightLength) else (if a < 186 then (zX10_isRight) else (zX10_firstError))))))) else (if a < 206 then (if a < 196 then (if a < 191 then (if a < 189 then (if a < 188 then (zX10_layBuffer) else (zX10_load)) else (if a < 190 then (zX10_isCode) else (zX10_typing))) else (if a < 193 then (if a < 192 then (zX10_putSign) else (zX10_putTab)) else (if a < 194 then (zX10_putEnd) else (if a < 195 then (zX10_put) else (zX10_type))))) else (if a < 201 then (if a < 198 then (if a < 197 then (zX10_behind) else (zX10_mayErase)) else (if a < 199 then (zX10_takeSign) else (if a < 200 then (zX10_takeEnd) else (zX10_erase)))) else (if a < 203 then (if a < 202 then (zX10_setCell) else (zX10_insertLine)) else (if a < 204 then (zX10_removeLine) else (if a < 205 then (zX10_setAside) else (zX10_takeAside)))))) else (if a < 215 then (if a < 210 then (if a < 208 then (if a < 207 then (zX10_moveLine) else (zX10_isBlank)) else (if a < 209 then (zX10_figuresFrom) else (zX10_isNumber))) else (if a < 212 then (if a < 211 then (zX10_kindOf) else (zX10_wholeLength)) else (if a < 213 then (zX10_partLength) else (if a < 214 then (zX10_valueOf) else (zX10_isEnded))))) else (if a < 220 then (if a < 217 then (if a < 216 then (zX10_numbersIn) else (zX10_isDecimal)) else (if a < 218 then (zX10_measure) else (if a < 219 then (zX10_layBlocks) else (zX10_blockOf)))) else (if a < 222 then (if a < 221 then (zX10_xOf) else (zX10_shiftOf)) else (if a < 223 then (zX10_shownLength) else (if a < 224 then (zX10_isBlock) else (zX10_comparedWords)))))))) else (if a < 262 then (if a < 243 then (if a < 234 then (if a < 229 then (if a < 227 then (if a < 226 then (zX10_rankOf) else (zX10_isBehind)) else (if a < 228 then (zX10_sortNow) else (zX10_sort))) else (if a < 231 then (if a < 230 then (zX10_hasRoom) else (zX10_insertColumn)) else (if a < 232 then (zX10_removeColumn) else (if a < 233 then (zX10_runAt) else (zX10_runs))))) else (if a < 238 then (if a < 236 then (if a < 235 then (zX10_makeTabs) else (zX10_retab)) else (if a < 237 then (zX10_setAlignment) else (zX10_setSpacing))) else (if a < 240 then (if a < 239 then (zX10_allCells) else (zX10_signsIn)) else (if a < 241 then (zX10_allSigns) else (if a < 242 then (zX10_ofKind) else (zX10_longest)))))) else (if a < 252 then (if a < 247 then (if a < 245 then (if a < 244 then (zX10_counted) else (zX10_count)) else (if a < 246 then (zX10_fixedLength) else (zX10_lineNow))) else (if a < 249 then (if a < 248 then (zX10_line) else (zX10_cellNow)) else (if a < 250 then (zX10_cell) else (if a < 251 then (zX10_letter) else (zX10_shownNow))))) else (if a < 257 then (if a < 254 then (if a < 253 then (zX10_shown) else (zX10_hit)) else (if a < 255 then (zX10_isBuffer) else (if a < 256 then (zX10_findNow) else (zX10_find)))) else (if a < 259 then (if a < 258 then (zX10_blockNow) else (zX10_block)) else (if a < 260 then (zX10_sumOf) else (if a < 261 then (zX10_sum) else (zX10_mean))))))) else (if a < 281 then (if a < 271 then (if a < 266 then (if a < 264 then (if a < 263 then (zX10_touched) else (zX10_changedX)) else (if a < 265 then (zX10_ifTyped) else (zX10_mix))) else (if a < 268 then (if a < 267 then (zX10_mixLine) else (zX10_digest)) else (if a < 269 then (zJ6_compare_7cf53) else (if a < 270 then (zJ13_compare_74951) else (zL_append))))) else (if a < 276 then (if a < 273 then (if a < 272 then (zL_firstError) else (zL_load)) else (if a < 274 then (zL_type) else (if a < 275 then (zL_erase) else (zL_setCell)))) else (if a < 278 then (if a < 277 then (zL_insertLine) else (zL_removeLine)) else (if a < 279 then (zL_moveLine) else (if a < 280 then (zL_sort) else (zL_insertColumn)))))) else (if a < 290 then (if a < 285 then (if a < 283 then (if a < 282 then (zL_removeColumn) else (zL_retab)) else (if a < 284 then (zL_undo) else (zL_redo))) else (if a < 287 then (if a < 286 then (zL_setAlignment) else (zL_setSpacing)) else (if a < 288 then (zL_count) else (if a < 289 then (zL_line) else (zL_cell))))) else (if a < 295 then (if a < 292 then (if a < 291 then (zL_letter) else (zL_shown)) else (if a < 293 then (zL_hit) else (if a < 294 then (zL_find) else (zL_block)))) else (if a < 297 then (if a < 296 then (zL_sum) else (zL_mean)) else (if a < 298 then (zL_touched) else (if a < 299 then (zL_ifTyped) else (zL_law)))))))))
end
section
/-! what the tables say, in words that move along: the good words by 'zgt', the others by zS -/
def zgt : List Cond := lw_tbl.filter goodWord
theorem zg_in {w : Cond} (i : Nat) (h : lw_tbl[i]? = some w) (hg : goodWord w = true) : w ∈ zgt := List.mem_filter.mpr ⟨List.mem_of_getElem? h, hg⟩
theorem zg_good {w : Cond} (h : w ∈ zgt) : goodWord w = true := (List.mem_filter.mp h).2
def zxw : Cond → Bool
  | .methodLinkNest .. => true
  | .fieldLinkNest .. => true
  | .castable .. => true
  | .declares .. => true
  | _ => false
theorem zxw_on {w : Cond} (h : zxw w = true) : w.onTables = true := by cases w <;> first | rfl | cases h
theorem zxw_warm {w : Cond} (hw : zxw w = true) {s U : State} (hW : s.WarmedH U.vm) (h : va_Nw w s) : va_Nw w U := by
  cases w <;> first | exact va_Nw.warmM hW h | exact va_Nw.warmF hW h | exact va_Nw.warmC hW h | exact va_Nw.warmD hW h | cases hw
def zex : Nat → String
  | 0 => "java/lang/IllegalArgumentException"
  | 1 => "java/lang/IllegalStateException"
  | _ => "java/lang/IndexOutOfBoundsException"
def zS (g : zG) (U : State) : Prop :=
  (zgl g).stackTraces = false ∧ zgb g ≤ zg1 g ∧ va_K (zgD g) vwCl (ztys g) U ∧ va_X (zgb g) (zgn g) (zgx g) U (zgH g) ∧ (∀ w ∈ lw_tbl, zxw w = true → va_Nw w U) ∧
  (∀ i j : Nat, i < 3 → j < 3 → i ≠ j → va_Nc (zex i) (zex j) U) ∧ (∀ (o : String) (k : Nat) (tx : String), Cond.stringRef o k tx ∈ lw_tbl → ∃ a, vk_R o k tx a U) ∧
  vx_Zq Bundle.tN "UNASSIGNED_STACK" Bundle.steD (fun q => zg1 g < q) U (zgH g) ∧ vx_Zq Bundle.tN "SUPPRESSED_SENTINEL" Bundle.listD (fun q => zg1 g < q) U (zgH g) ∧ va_AO RX7 U
theorem zS.warm {g : zG} {s U : State} (hW : s.WarmedH U.vm) (h : zS g s) : zS g U := by
  obtain ⟨h1, h2, h3, h4, h5, h6, h7, h8, h9, h10⟩ := h
  exact ⟨h1, h2, va_K.moved hW.alike h3, va_X.moved hW.alike h4, fun w hw hx => zxw_warm hx hW (h5 w hw hx), fun i j a b c => va_Nc.moved hW.alike (h6 i j a b c),
    fun o k tx hm => by obtain ⟨a, ha⟩ := h7 o k tx hm; exact ⟨a, vk_R.warm hW ha⟩, vx_Zq.moved hW.alike h8, vx_Zq.moved hW.alike h9, va_AO.moved hW.alike h10⟩
/-! the rows of a method are what its bytes say, and their links are in the tables -/
def zty : Nat → Nat → FieldType
  | 0 => tyX0
  | 1 => tyX1
  | 2 => tyX2
  | 3 => tyX3
  | 4 => tyX4
  | 5 => tyX5
  | 6 => tyX6
  | 7 => tyX7
  | 8 => tyX9
  | _ => tyX10
def zFd (own : String) (idx ci k : Nat) : Prop := ∃ (C : String) (T : u_T) (N : Nat), vwCl[ci]? = some (C, T, N) ∧ k < N ∧ (∀ w ∈ u_ws C T N, w ∈ zgt) ∧
  (Cond.fieldLink own idx (T k).1 (T k).2.1 (T k).2.2.1 ∈ zgt ∨ ∃ host, Cond.fieldLinkNest own idx (T k).1 (T k).2.1 (T k).2.2.1 host ∈ lw_tbl)
def zPt (own nm : String) (idx ci k : Nat) : Prop := ∃ (C : String) (T : u_T) (N : Nat), vwCl[ci]? = some (C, T, N) ∧ k < N ∧ (∀ w ∈ u_ws C T N, w ∈ zgt) ∧
  Cond.fieldLink own idx (T k).1 (T k).2.1 (T k).2.2.1 ∈ zgt ∧ (∀ j, j < N → parseFieldDescriptor (T j).2.2.1 = some (zty ci j)) ∧ (∀ a, a < N → ∀ b, b < N → a ≠ b → (T a).2.1 ≠ (T b).2.1) ∧
  ((T k).2.2.2 = false ∨ ((T k).2.2.2 = true ∧ nm = "<init>" ∧ (T k).1 = own))
def zNw (own : String) (idx ci : Nat) : Prop := ∃ (C : String) (T : u_T) (N : Nat), vwCl[ci]? = some (C, T, N) ∧ (∀ w ∈ u_ws C T N, w ∈ zgt) ∧ (∀ j, j < N → parseFieldDescriptor (T j).2.2.1 = some (zty ci j)) ∧
  Cond.classLink own idx C ∈ zgt ∧ Cond.instantiable C N ∈ zgt ∧ Cond.initialized C ∈ zgt
def zJ (J : zI) (b : Nat) : Prop := plainName (zNm J).cls = true ∧ (zNm J).cls ≠ "java/lang/invoke/MethodHandle" ∧ (zNm J).cls ≠ "java/lang/invoke/VarHandle" ∧
  (parseMethodDescriptor (zNm J).desc).map (fun d => d.parameters.length) = some b ∧ Cond.initialized (zNm J).cls ∈ zgt ∧
  (zEx J = [] → Cond.code (zNm J) (zBy J) (zMx J) (zRt J) ∈ zgt) ∧ (zEx J ≠ [] → Cond.codeWith (zNm J) (zBy J) (zMx J) (zRt J) (zEx J) ∈ zgt)
def zCv (own : String) (idx : Nat) (J : zI) (b : Nat) : Prop := zJ J b ∧ Cond.methodLink own idx (zNm J) ∈ zgt ∧ Cond.instanceMethod (zNm J) ∈ zgt ∧ Cond.selects (zNm J).cls (zNm J) (zNm J) ∈ zgt
def zCs (own : String) (idx : Nat) (J : zI) (b : Nat) : Prop := zJ J b ∧ Cond.static (zNm J) ∈ zgt ∧ (Cond.methodLink own idx (zNm J) ∈ zgt ∨ (zEx J = [] ∧ ∃ host, Cond.methodLinkNest own idx (zNm J) host ∈ lw_tbl))
def zCi (own : String) (idx : Nat) (J : zI) (b : Nat) : Prop := zJ J b ∧ zEx J = [] ∧ zRt J = none ∧ (zNm J).name = "<init>" ∧ Cond.instanceMethod (zNm J) ∈ zgt ∧ (Cond.methodLink own idx (zNm J) ∈ zgt ∨ ∃ host, Cond.methodLinkNest own idx (zNm J) host ∈ lw_tbl)
/-- 'throw new E("text")' from pc on -/
def zTh (I : zI) (pc ik E : Nat) : Prop := E < 3 ∧ zEx I = [] ∧ ∃ (is ic : Nat) (tx : String), Cond.stringRef (zNm I).cls is tx ∈ lw_tbl ∧ Cond.classLink (zNm I).cls ik (zex E) ∈ zgt ∧ Cond.initialized (zex E) ∈ zgt ∧
  (∀ w ∈ (vx_atS (zNm I).cls ic (zex E) ["java/lang/RuntimeException", "java/lang/Exception"]), w ∈ lw_tbl ∧ (goodWord w = true ∨ zxw w = true)) ∧
  decode (zBy I) (pc + 3) = .ok (.dup, 1) ∧
  ((decode (zBy I) (pc + 4) = .ok (.ldc is, 2) ∧ decode (zBy I) (pc + 6) = .ok (.invokespecial ic, 3) ∧ decode (zBy I) (pc + 9) = .ok (.athrow, 1)) ∨
   (decode (zBy I) (pc + 4) = .ok (.ldc_w is, 3) ∧ decode (zBy I) (pc + 7) = .ok (.invokespecial ic, 3) ∧ decode (zBy I) (pc + 10) = .ok (.athrow, 1)))
def zLk (I : zI) (pc : Nat) : Instr → Nat → Nat → Prop
  | .getfield idx, a, b => zFd (zNm I).cls idx a b
  | .putfield idx, a, b => zPt (zNm I).cls (zNm I).name idx a b
  | .new idx, a, b => if b = 0 then zNw (zNm I).cls idx a else zTh I pc idx a
  | .invokevirtual idx, a, b => a < zN ∧ zCv (zNm I).cls idx (zP a) b
  | .invokestatic idx, a, b => if a = 5000 then Cond.methodLink (zNm I).cls idx arraycopyName ∈ zgt else if a = 5002 then Cond.methodLink (zNm I).cls idx Lib.Math.max.name ∈ zgt else if a = 5003 then Cond.methodLink (zNm I).cls idx Lib.Math.min.name ∈ zgt else a < zN ∧ zCs (zNm I).cls idx (zP a) b
  | .invokespecial idx, a, b => if a = 5001 then Cond.methodLink (zNm I).cls idx objectInit ∈ zgt else a < zN ∧ zCi (zNm I).cls idx (zP a) b
  | .ldc idx, a, _ => Cond.constant (zNm I).cls idx (nI a) ∈ zgt
  | .ldc2_w idx, a, _ => Cond.constantLong (zNm I).cls idx (lN a) ∈ zgt
  | .anewarray idx, _, _ => Cond.classLink (zNm I).cls idx RX7 ∈ zgt
  | _, _, _ => True
def zOK (I : zI) : Prop := ∀ (pc : Nat) (ins : Instr) (len a b : Nat), zF I pc = some (ins, len, a, b) → decode (zBy I) pc = .ok (ins, len) ∧ zLk I pc ins a b
/-- the machine around a method: I's body, started in s -/
def zC (g : zG) (I : zI) (p : Program) (R : Room) (s : State) (m : MethodId) (args : Array Value) (meth : Method) (c : Code) : Prop :=
  p.tables.exec = Jvm.exec ∧ c.code = zBy I ∧ c.maxLocals = zMx I ∧ meth.sig.returnType = zRt I ∧ meth.locks = false ∧ c.exceptionTable.toList = tableOf (zEx I) ∧
  s.vm.findClass (zNm I).cls = some m.cls ∧ meth.name = (zNm I).name ∧ (∀ w ∈ zgt, w.before args s = true) ∧ zS g s ∧ zOK I ∧ (∀ a, a < zN → zOK (zP a)) ∧ zFr I ≤ R.frames ∧ zLo I ≤ R.locals
def zQc (g : zG) (Q : zR → zH → Prop) : Array Value → State → Outcome → State → Prop := fun _ _ o t => ∃ (v : Option Value) (h : zH), Q (.inl v) h ∧ o = .returned (v.map (zt g)) ∧ zRel g h t.heap
def zXc (g : zG) (Q : zR → zH → Prop) : String → State → State → Prop := fun E _ t => ∃ (k : Nat) (h : zH), Q (.inr k) h ∧ k < 3 ∧ E = zex k ∧ zRel g h t.heap
def Zn (g : zG) (I : zI) (pc : Nat) (L : zL) (st : List Value) (h : zH) (mc ms : Nat) (Q : zR → zH → Prop) : Prop :=
  ∀ (p : Program) (e : Env) (R : Room) (s : State) (m : MethodId) (args : Array Value) (below : List Frame) (meth : Method) (c : Code) (H : Heap) (locs : List Loc) (cells slots cT sT : Nat) (ls : Array Slot),
    zC g I p R s m args meth c → zRel g h H → zHas g ls (zMx I) L → (∀ z ∈ locs, zg1 g < z.base) → cells + mc ≤ cT → slots + ms ≤ sT → cT ≤ R.cells → sT ≤ R.slots →
    W p (zgl g) e R s m args below meth c H locs cells slots (vx_MQ below (zQc g Q) (zXc g Q) args s cT sT (fun q => zg1 g < q)) (F0 m pc ls (st.map (zt g)))
def zsl (as : List Value) : zL := as.flatMap fun v => if v.category = 2 then [some v, none] else [some v]
def zent (n : Nat) (as : List Value) : zL := zsl as ++ List.replicate (n - (zsl as).length) none
def Zm (g : zG) (J : zI) (as : List Value) (h : zH) (mc ms : Nat) (Q : zR → zH → Prop) : Prop := Zn g J 0 (zent (zMx J) as) [] h mc ms Q
section zRules
variable {g : zG} {I : zI} {pc a b : Nat} {L L' : zL} {st : List Value} {h : zH} {mc ms : Nat} {Q : zR → zH → Prop}
theorem zC.dec {p : Program} {R : Room} {s : State} {m : MethodId} {args : Array Value} {meth : Method} {c : Code} (hC : zC g I p R s m args meth c) {ins : Instr} {len : Nat} (hf : zF I pc = some (ins, len, a, b)) : decode (zBy I) pc = .ok (ins, len) := (hC.2.2.2.2.2.2.2.2.2.2.1 pc ins len a b hf).1
theorem zC.lk {p : Program} {R : Room} {s : State} {m : MethodId} {args : Array Value} {meth : Method} {c : Code} (hC : zC g I p R s m args meth c) {ins : Instr} {len : Nat} (hf : zF I pc = some (ins, len, a, b)) : zLk I pc ins a b := (hC.2.2.2.2.2.2.2.2.2.2.1 pc ins len a b hf).2
theorem zC.hts {p : Program} {R : Room} {s : State} {m : MethodId} {args : Array Value} {meth : Method} {c : Code} (hC : zC g I p R s m args meth c) : ∀ w ∈ zgt, w.before args s = true := hC.2.2.2.2.2.2.2.2.1
theorem zC.zS {p : Program} {R : Room} {s : State} {m : MethodId} {args : Array Value} {meth : Method} {c : Code} (hC : zC g I p R s m args meth c) : zS g s := hC.2.2.2.2.2.2.2.2.2.1
theorem zC.own {p : Program} {R : Room} {s : State} {m : MethodId} {args : Array Value} {meth : Method} {c : Code} (hC : zC g I p R s m args meth c) : s.vm.findClass (zNm I).cls = some m.cls := hC.2.2.2.2.2.2.1
/-- fewer cells, fewer locals known, a weaker end -/
theorem zn_mono {mc' ms' : Nat} {Q' : zR → zH → Prop} (k : Zn g I pc L st h mc' ms' Q') (h1 : mc' ≤ mc) (h2 : ms' ≤ ms) (hQ : ∀ r h', Q' r h' → Q r h') : Zn g I pc L st h mc ms Q := by
  intro p e R s m args below meth c H locs cells slots cT sT ls hC hR hL hl a1 a2 a3 a4
  have K := k p e R s m args below meth c H locs cells slots cT sT ls hC hR hL hl (by omega) (by omega) a3 a4
  intro T hT X
  obtain ⟨t, b1, o, b2, b3, b4⟩ := K T hT X
  refine ⟨t, b1, o, b2, b3, ?_⟩
  rcases b4 with ⟨⟨v, h', c1, c2⟩, c3⟩ | ⟨q, c0, E, ce, LL, ⟨k9, h', c1, c2⟩, c3⟩
  · exact Or.inl ⟨⟨v, h', hQ _ _ c1, c2⟩, c3⟩
  · exact Or.inr ⟨q, c0, E, ce, LL, ⟨k9, h', hQ _ _ c1, c2⟩, c3⟩
def zle : zL → zL → Prop
  | [], _ => True
  | none :: A, _ :: B => zle A B
  | none :: A, [] => zle A []
  | some v :: A, x :: B => x = some v ∧ zle A B
  | some _ :: _, [] => False
theorem zle_get : ∀ {A B : zL}, zle A B → ∀ (i : Nat) (v : Value), A[i]? = some (some v) → B[i]? = some (some v)
  | [], _, _, i, v, hv => by simp at hv
  | none :: A, x :: B, hl, i, v, hv => by
    cases i with
    | zero => simp at hv
    | succ j =>
      rw [List.getElem?_cons_succ] at hv ⊢
      exact zle_get (A := A) (B := B) hl j v hv
  | none :: A, [], hl, i, v, hv => by
    cases i with
    | zero => simp at hv
    | succ j =>
      rw [List.getElem?_cons_succ] at hv
      have := zle_get (A := A) (B := []) hl j v hv
      simp at this
  | some w :: A, x :: B, hl, i, v, hv => by
    cases i with
    | zero =>
      simp only [List.getElem?_cons_zero] at hv ⊢
      rw [hl.1]; exact hv
    | succ j =>
      rw [List.getElem?_cons_succ] at hv ⊢
      exact zle_get (A := A) (B := B) hl.2 j v hv
theorem zn_sub (hs : zle L' L) (k : Zn g I pc L' st h mc ms Q) : Zn g I pc L st h mc ms Q := by
  intro p e R s m args below meth c H locs cells slots cT sT ls hC hR hL hl a1 a2 a3 a4
  exact k p e R s m args below meth c H locs cells slots cT sT ls hC hR (hL.sub (zle_get hs)) hl a1 a2 a3 a4
-- SIMPLE BEGIN
theorem zn_iconst {n : Int} (v : Int32) (hv : Int32.ofInt n = v) (hf : zF I pc = some (.iconst n, 1, a, b)) (k : Zn g I (pc + 1) L (.int v :: st) h mc ms Q) : Zn g I pc L (st) h mc ms Q := by
  intro p e R s m args below meth c H locs cells slots cT sT ls hC hR hL hl a1 a2 a3 a4
  exact lv_iconst hC.1 hC.2.1 (hC.dec hf) hv (k p e R s m args below meth c H locs cells slots cT sT ls hC hR hL hl a1 a2 a3 a4)
theorem zn_bipush {n : Int} (v : Int32) (hv : (Int8.ofInt n).toInt32 = v) (hf : zF I pc = some (.bipush n, 2, a, b)) (k : Zn g I (pc + 2) L (.int v :: st) h mc ms Q) : Zn g I pc L (st) h mc ms Q := by
  intro p e R s m args below meth c H locs cells slots cT sT ls hC hR hL hl a1 a2 a3 a4
  exact lv_bipush hC.1 hC.2.1 (hC.dec hf) hv (k p e R s m args below meth c H locs cells slots cT sT ls hC hR hL hl a1 a2 a3 a4)
theorem zn_sipush {n : Int} (v : Int32) (hv : (Int16.ofInt n).toInt32 = v) (hf : zF I pc = some (.sipush n, 3, a, b)) (k : Zn g I (pc + 3) L (.int v :: st) h mc ms Q) : Zn g I pc L (st) h mc ms Q := by
  intro p e R s m args below meth c H locs cells slots cT sT ls hC hR hL hl a1 a2 a3 a4
  exact lv_sipush hC.1 hC.2.1 (hC.dec hf) hv (k p e R s m args below meth c H locs cells slots cT sT ls hC hR hL hl a1 a2 a3 a4)
theorem zn_lconst {n : Fin 2} (v : Int64) (hv : Int64.ofNat (n : Nat) = v) (hf : zF I pc = some (.lconst n, 1, a, b)) (k : Zn g I (pc + 1) L (.long v :: st) h mc ms Q) : Zn g I pc L (st) h mc ms Q := by
  intro p e R s m args below meth c H locs cells slots cT sT ls hC hR hL hl a1 a2 a3 a4
  exact lv_lconst hC.1 hC.2.1 (hC.dec hf) hv (k p e R s m args below meth c H locs cells slots cT sT ls hC hR hL hl a1 a2 a3 a4)
theorem zn_dconst0 (hf : zF I pc = some (.dconst 0, 1, a, b)) (k : Zn g I (pc + 1) L (.double FP.dconst0 :: st) h mc ms Q) : Zn g I pc L (st) h mc ms Q := by
  intro p e R s m args below meth c H locs cells slots cT sT ls hC hR hL hl a1 a2 a3 a4
  exact lv_dconst0 hC.1 hC.2.1 (hC.dec hf) (k p e R s m args below meth c H locs cells slots cT sT ls hC hR hL hl a1 a2 a3 a4)
theorem zn_iload {i : Nat} {x : Int32} (hf : zF I pc = some (.iload i, 2, a, b)) (hx : L[i]? = some (some (.int x))) (k : Zn g I (pc + 2) L (.int x :: st) h mc ms Q) : Zn g I pc L (st) h mc ms Q := by
  intro p e R s m args below meth c H locs cells slots cT sT ls hC hR hL hl a1 a2 a3 a4
  exact lv_iload hC.1 hC.2.1 (hC.dec hf) (hL.at hx) (k p e R s m args below meth c H locs cells slots cT sT ls hC hR hL hl a1 a2 a3 a4)
theorem zn_iload_n {n : Fin 4} {x : Int32} (hf : zF I pc = some (.iload_n n, 1, a, b)) (hx : L[(n : Nat)]? = some (some (.int x))) (k : Zn g I (pc + 1) L (.int x :: st) h mc ms Q) : Zn g I pc L (st) h mc ms Q := by
  intro p e R s m args below meth c H locs cells slots cT sT ls hC hR hL hl a1 a2 a3 a4
  exact lv_iload_n hC.1 hC.2.1 (hC.dec hf) rfl (hL.at hx) (k p e R s m args below meth c H locs cells slots cT sT ls hC hR hL hl a1 a2 a3 a4)
theorem zn_lload {i : Nat} {x : Int64} (hf : zF I pc = some (.lload i, 2, a, b)) (hx : L[i]? = some (some (.long x))) (k : Zn g I (pc + 2) L (.long x :: st) h mc ms Q) : Zn g I pc L (st) h mc ms Q := by
  intro p e R s m args below meth c H locs cells slots cT sT ls hC hR hL hl a1 a2 a3 a4
  exact lv_lload hC.1 hC.2.1 (hC.dec hf) (hL.at hx) (k p e R s m args below meth c H locs cells slots cT sT ls hC hR hL hl a1 a2 a3 a4)
theorem zn_lload_n {n : Fin 4} {x : Int64} (hf : zF I pc = some (.lload_n n, 1, a, b)) (hx : L[(n : Nat)]? = some (some (.long x))) (k : Zn g I (pc + 1) L (.long x :: st) h mc ms Q) : Zn g I pc L (st) h mc ms Q := by
  intro p e R s m args below meth c H locs cells slots cT sT ls hC hR hL hl a1 a2 a3 a4
  exact lv_lload_n hC.1 hC.2.1 (hC.dec hf) rfl (hL.at hx) (k p e R s m args below meth c H locs cells slots cT sT ls hC hR hL hl a1 a2 a3 a4)
theorem zn_aload {i : Nat} {x : Nat} (hf : zF I pc = some (.aload i, 2, a, b)) (hx : L[i]? = some (some (.ref x))) (k : Zn g I (pc + 2) L (.ref x :: st) h mc ms Q) : Zn g I pc L (st) h mc ms Q := by
  intro p e R s m args below meth c H locs cells slots cT sT ls hC hR hL hl a1 a2 a3 a4
  exact lv_aload hC.1 hC.2.1 (hC.dec hf) (hL.at hx) (k p e R s m args below meth c H locs cells slots cT sT ls hC hR hL hl a1 a2 a3 a4)
theorem zn_aload_n {n : Fin 4} {x : Nat} (hf : zF I pc = some (.aload_n n, 1, a, b)) (hx : L[(n : Nat)]? = some (some (.ref x))) (k : Zn g I (pc + 1) L (.ref x :: st) h mc ms Q) : Zn g I pc L (st) h mc ms Q := by
  intro p e R s m args below meth c H locs cells slots cT sT ls hC hR hL hl a1 a2 a3 a4
  exact lv_aload_n hC.1 hC.2.1 (hC.dec hf) rfl (hL.at hx) (k p e R s m args below meth c H locs cells slots cT sT ls hC hR hL hl a1 a2 a3 a4)
theorem zn_dload {i : Nat} {x : UInt64} (hf : zF I pc = some (.dload i, 2, a, b)) (hx : L[i]? = some (some (.double x))) (k : Zn g I (pc + 2) L (.double x :: st) h mc ms Q) : Zn g I pc L (st) h mc ms Q := by
  intro p e R s m args below meth c H locs cells slots cT sT ls hC hR hL hl a1 a2 a3 a4
  exact lv_dload hC.1 hC.2.1 (hC.dec hf) (hL.at hx) (k p e R s m args below meth c H locs cells slots cT sT ls hC hR hL hl a1 a2 a3 a4)
theorem zn_istore {i : Nat} {x : Int32} (hf : zF I pc = some (.istore i, 2, a, b)) (hi : i < zMx I) (hs : zset1 L i (.int x) = L') (k : Zn g I (pc + 2) L' st h mc ms Q) : Zn g I pc L (.int x :: st) h mc ms Q := by
  intro p e R s m args below meth c H locs cells slots cT sT ls hC hR hL hl a1 a2 a3 a4
  subst hs
  exact lv_istore hC.1 hC.2.1 (hC.dec hf) hL hi rfl (fun ls' hL' => k p e R s m args below meth c H locs cells slots cT sT ls' hC hR (zHas.s1 (v := .int x) hL') hl a1 a2 a3 a4)
theorem zn_istore_n {n : Fin 4} {x : Int32} (hf : zF I pc = some (.istore_n n, 1, a, b)) (hi : (n : Nat) < zMx I) (hs : zset1 L n (.int x) = L') (k : Zn g I (pc + 1) L' st h mc ms Q) : Zn g I pc L (.int x :: st) h mc ms Q := by
  intro p e R s m args below meth c H locs cells slots cT sT ls hC hR hL hl a1 a2 a3 a4
  subst hs
  exact lv_istore_n hC.1 hC.2.1 (hC.dec hf) rfl hL hi rfl (fun ls' hL' => k p e R s m args below meth c H locs cells slots cT sT ls' hC hR (zHas.s1 (v := .int x) hL') hl a1 a2 a3 a4)
theorem zn_astore {i : Nat} {x : Nat} (hf : zF I pc = some (.astore i, 2, a, b)) (hi : i < zMx I) (hs : zset1 L i (.ref x) = L') (k : Zn g I (pc + 2) L' st h mc ms Q) : Zn g I pc L (.ref x :: st) h mc ms Q := by
  intro p e R s m args below meth c H locs cells slots cT sT ls hC hR hL hl a1 a2 a3 a4
  subst hs
  exact lv_astore hC.1 hC.2.1 (hC.dec hf) hL hi rfl (fun ls' hL' => k p e R s m args below meth c H locs cells slots cT sT ls' hC hR (zHas.s1 (v := .ref x) hL') hl a1 a2 a3 a4)
theorem zn_astore_n {n : Fin 4} {x : Nat} (hf : zF I pc = some (.astore_n n, 1, a, b)) (hi : (n : Nat) < zMx I) (hs : zset1 L n (.ref x) = L') (k : Zn g I (pc + 1) L' st h mc ms Q) : Zn g I pc L (.ref x :: st) h mc ms Q := by
  intro p e R s m args below meth c H locs cells slots cT sT ls hC hR hL hl a1 a2 a3 a4
  subst hs
  exact lv_astore_n hC.1 hC.2.1 (hC.dec hf) rfl hL hi rfl (fun ls' hL' => k p e R s m args below meth c H locs cells slots cT sT ls' hC hR (zHas.s1 (v := .ref x) hL') hl a1 a2 a3 a4)
theorem zn_lstore {i : Nat} {x : Int64} (hf : zF I pc = some (.lstore i, 2, a, b)) (hi : i + 1 < zMx I) (hs : zset2 L i (.long x) = L') (k : Zn g I (pc + 2) L' st h mc ms Q) : Zn g I pc L (.long x :: st) h mc ms Q := by
  intro p e R s m args below meth c H locs cells slots cT sT ls hC hR hL hl a1 a2 a3 a4
  subst hs
  exact lv_lstore hC.1 hC.2.1 (hC.dec hf) hL hi rfl (fun ls' hL' => k p e R s m args below meth c H locs cells slots cT sT ls' hC hR (zHas.s2 (v := .long x) hL') hl a1 a2 a3 a4)
theorem zn_lstore_n {n : Fin 4} {x : Int64} (hf : zF I pc = some (.lstore_n n, 1, a, b)) (hi : (n : Nat) + 1 < zMx I) (hs : zset2 L n (.long x) = L') (k : Zn g I (pc + 1) L' st h mc ms Q) : Zn g I pc L (.long x :: st) h mc ms Q := by
  intro p e R s m args below meth c H locs cells slots cT sT ls hC hR hL hl a1 a2 a3 a4
  subst hs
  exact lv_lstore_n hC.1 hC.2.1 (hC.dec hf) rfl hL hi rfl (fun ls' hL' => k p e R s m args below meth c H locs cells slots cT sT ls' hC hR (zHas.s2 (v := .long x) hL') hl a1 a2 a3 a4)
theorem zn_dstore {i : Nat} {x : UInt64} (hf : zF I pc = some (.dstore i, 2, a, b)) (hi : i + 1 < zMx I) (hs : zset2 L i (.double x) = L') (k : Zn g I (pc + 2) L' st h mc ms Q) : Zn g I pc L (.double x :: st) h mc ms Q := by
  intro p e R s m args below meth c H locs cells slots cT sT ls hC hR hL hl a1 a2 a3 a4
  subst hs
  exact lv_dstore hC.1 hC.2.1 (hC.dec hf) hL hi rfl (fun ls' hL' => k p e R s m args below meth c H locs cells slots cT sT ls' hC hR (zHas.s2 (v := .double x) hL') hl a1 a2 a3 a4)
theorem zn_aload_nN {n : Fin 4} (hf : zF I pc = some (.aload_n n, 1, a, b)) (hx : L[(n : Nat)]? = some (some .null)) (k : Zn g I (pc + 1) L (.null :: st) h mc ms Q) : Zn g I pc L (st) h mc ms Q := by
  intro p e R s m args below meth c H locs cells slots cT sT ls hC hR hL hl a1 a2 a3 a4
  exact lv_aload_nN hC.1 hC.2.1 (hC.dec hf) rfl (hL.at hx) (k p e R s m args below meth c H locs cells slots cT sT ls hC hR hL hl a1 a2 a3 a4)
theorem zn_astore_nN {n : Fin 4} (hf : zF I pc = some (.astore_n n, 1, a, b)) (hi : (n : Nat) < zMx I) (hs : zset1 L n .null = L') (k : Zn g I (pc + 1) L' st h mc ms Q) : Zn g I pc L (.null :: st) h mc ms Q := by
  intro p e R s m args below meth c H locs cells slots cT sT ls hC hR hL hl a1 a2 a3 a4
  subst hs
  exact lv_astore_nN hC.1 hC.2.1 (hC.dec hf) rfl hL hi rfl (fun ls' hL' => k p e R s m args below meth c H locs cells slots cT sT ls' hC hR (zHas.s1 (v := .null) hL') hl a1 a2 a3 a4)
theorem zn_iinc {i : Nat} {n : Int} {x v : Int32} (hf : zF I pc = some (.iinc i n, 3, a, b)) (hx : L[i]? = some (some (.int x))) (hv : x + Int32.ofInt n = v) (hi : i < zMx I) (hs : zset1 L i (.int v) = L') (k : Zn g I (pc + 3) L' st h mc ms Q) : Zn g I pc L st h mc ms Q := by
  intro p e R s m args below meth c H locs cells slots cT sT ls hC hR hL hl a1 a2 a3 a4
  subst hs
  obtain ⟨q, hq⟩ := List.getElem?_of_mem (zlv_mem (g := g) hx)
  exact lv_iinc hC.1 hC.2.1 (hC.dec hf) hL hq hv hi rfl (fun ls' hL' => k p e R s m args below meth c H locs cells slots cT sT ls' hC hR (zHas.s1 (v := .int v) hL') hl a1 a2 a3 a4)
theorem zn_iadd {x y : Int32} (hf : zF I pc = some (.iadd, 1, a, b)) (k : Zn g I (pc + 1) L (.int (x + y) :: st) h mc ms Q) : Zn g I pc L (.int y :: .int x :: st) h mc ms Q := by
  intro p e R s m args below meth c H locs cells slots cT sT ls hC hR hL hl a1 a2 a3 a4
  exact lv_iadd hC.1 hC.2.1 (hC.dec hf) (k p e R s m args below meth c H locs cells slots cT sT ls hC hR hL hl a1 a2 a3 a4)
theorem zn_isub {x y : Int32} (hf : zF I pc = some (.isub, 1, a, b)) (k : Zn g I (pc + 1) L (.int (x - y) :: st) h mc ms Q) : Zn g I pc L (.int y :: .int x :: st) h mc ms Q := by
  intro p e R s m args below meth c H locs cells slots cT sT ls hC hR hL hl a1 a2 a3 a4
  exact lv_isub hC.1 hC.2.1 (hC.dec hf) (k p e R s m args below meth c H locs cells slots cT sT ls hC hR hL hl a1 a2 a3 a4)
theorem zn_imul {x y : Int32} (hf : zF I pc = some (.imul, 1, a, b)) (k : Zn g I (pc + 1) L (.int (x * y) :: st) h mc ms Q) : Zn g I pc L (.int y :: .int x :: st) h mc ms Q := by
  intro p e R s m args below meth c H locs cells slots cT sT ls hC hR hL hl a1 a2 a3 a4
  exact lv_imul hC.1 hC.2.1 (hC.dec hf) (k p e R s m args below meth c H locs cells slots cT sT ls hC hR hL hl a1 a2 a3 a4)
theorem zn_iand {x y : Int32} (hf : zF I pc = some (.iand, 1, a, b)) (k : Zn g I (pc + 1) L (.int (x &&& y) :: st) h mc ms Q) : Zn g I pc L (.int y :: .int x :: st) h mc ms Q := by
  intro p e R s m args below meth c H locs cells slots cT sT ls hC hR hL hl a1 a2 a3 a4
  exact lv_iand hC.1 hC.2.1 (hC.dec hf) (k p e R s m args below meth c H locs cells slots cT sT ls hC hR hL hl a1 a2 a3 a4)
theorem zn_idiv {x y : Int32} (hf : zF I pc = some (.idiv, 1, a, b)) (hy : ¬ y = 0) (k : Zn g I (pc + 1) L (.int (x / y) :: st) h mc ms Q) : Zn g I pc L (.int y :: .int x :: st) h mc ms Q := by
  intro p e R s m args below meth c H locs cells slots cT sT ls hC hR hL hl a1 a2 a3 a4
  exact lv_idiv hC.1 hC.2.1 (hC.dec hf) hy (k p e R s m args below meth c H locs cells slots cT sT ls hC hR hL hl a1 a2 a3 a4)
theorem zn_irem {x y : Int32} (hf : zF I pc = some (.irem, 1, a, b)) (hy : ¬ y = 0) (k : Zn g I (pc + 1) L (.int (x - x / y * y) :: st) h mc ms Q) : Zn g I pc L (.int y :: .int x :: st) h mc ms Q := by
  intro p e R s m args below meth c H locs cells slots cT sT ls hC hR hL hl a1 a2 a3 a4
  exact lv_irem hC.1 hC.2.1 (hC.dec hf) hy (k p e R s m args below meth c H locs cells slots cT sT ls hC hR hL hl a1 a2 a3 a4)
theorem zn_ladd {x y : Int64} (hf : zF I pc = some (.ladd, 1, a, b)) (k : Zn g I (pc + 1) L (.long (x + y) :: st) h mc ms Q) : Zn g I pc L (.long y :: .long x :: st) h mc ms Q := by
  intro p e R s m args below meth c H locs cells slots cT sT ls hC hR hL hl a1 a2 a3 a4
  exact lv_ladd hC.1 hC.2.1 (hC.dec hf) (k p e R s m args below meth c H locs cells slots cT sT ls hC hR hL hl a1 a2 a3 a4)
theorem zn_lsub {x y : Int64} (hf : zF I pc = some (.lsub, 1, a, b)) (k : Zn g I (pc + 1) L (.long (x - y) :: st) h mc ms Q) : Zn g I pc L (.long y :: .long x :: st) h mc ms Q := by
  intro p e R s m args below meth c H locs cells slots cT sT ls hC hR hL hl a1 a2 a3 a4
  exact lv_lsub hC.1 hC.2.1 (hC.dec hf) (k p e R s m args below meth c H locs cells slots cT sT ls hC hR hL hl a1 a2 a3 a4)
theorem zn_lmul {x y : Int64} (hf : zF I pc = some (.lmul, 1, a, b)) (k : Zn g I (pc + 1) L (.long (x * y) :: st) h mc ms Q) : Zn g I pc L (.long y :: .long x :: st) h mc ms Q := by
  intro p e R s m args below meth c H locs cells slots cT sT ls hC hR hL hl a1 a2 a3 a4
  exact lv_lmul hC.1 hC.2.1 (hC.dec hf) (k p e R s m args below meth c H locs cells slots cT sT ls hC hR hL hl a1 a2 a3 a4)
theorem zn_lneg {x : Int64} (hf : zF I pc = some (.lneg, 1, a, b)) (k : Zn g I (pc + 1) L (.long (-x) :: st) h mc ms Q) : Zn g I pc L (.long x :: st) h mc ms Q := by
  intro p e R s m args below meth c H locs cells slots cT sT ls hC hR hL hl a1 a2 a3 a4
  exact lv_lneg hC.1 hC.2.1 (hC.dec hf) (k p e R s m args below meth c H locs cells slots cT sT ls hC hR hL hl a1 a2 a3 a4)
theorem zn_i2l {x : Int32} (hf : zF I pc = some (.i2l, 1, a, b)) (k : Zn g I (pc + 1) L (.long x.toInt64 :: st) h mc ms Q) : Zn g I pc L (.int x :: st) h mc ms Q := by
  intro p e R s m args below meth c H locs cells slots cT sT ls hC hR hL hl a1 a2 a3 a4
  exact lv_i2l hC.1 hC.2.1 (hC.dec hf) rfl (k p e R s m args below meth c H locs cells slots cT sT ls hC hR hL hl a1 a2 a3 a4)
theorem zn_lcmp {x y : Int64} (hf : zF I pc = some (.lcmp, 1, a, b)) (k : Zn g I (pc + 1) L (.int (lg_cmp x y) :: st) h mc ms Q) : Zn g I pc L (.long y :: .long x :: st) h mc ms Q := by
  intro p e R s m args below meth c H locs cells slots cT sT ls hC hR hL hl a1 a2 a3 a4
  exact W.lcmp hC.1 hC.2.1 (hC.dec hf) (k p e R s m args below meth c H locs cells slots cT sT ls hC hR hL hl a1 a2 a3 a4)
theorem zn_l2d {x : Int64} (hf : zF I pc = some (.l2d, 1, a, b)) (k : Zn g I (pc + 1) L (.double (FP.l2d x) :: st) h mc ms Q) : Zn g I pc L (.long x :: st) h mc ms Q := by
  intro p e R s m args below meth c H locs cells slots cT sT ls hC hR hL hl a1 a2 a3 a4
  exact lv_l2d hC.1 hC.2.1 (hC.dec hf) (k p e R s m args below meth c H locs cells slots cT sT ls hC hR hL hl a1 a2 a3 a4)
theorem zn_i2d {x : Int32} (hf : zF I pc = some (.i2d, 1, a, b)) (k : Zn g I (pc + 1) L (.double (FP.i2d x) :: st) h mc ms Q) : Zn g I pc L (.int x :: st) h mc ms Q := by
  intro p e R s m args below meth c H locs cells slots cT sT ls hC hR hL hl a1 a2 a3 a4
  exact lv_i2d hC.1 hC.2.1 (hC.dec hf) (k p e R s m args below meth c H locs cells slots cT sT ls hC hR hL hl a1 a2 a3 a4)
theorem zn_ddiv {x y : UInt64} (hf : zF I pc = some (.ddiv, 1, a, b)) (hy : vf_n64 (FP.ddiv x y)) (k : Zn g I (pc + 1) L (.double (FP.ddiv x y) :: st) h mc ms Q) : Zn g I pc L (.double y :: .double x :: st) h mc ms Q := by
  intro p e R s m args below meth c H locs cells slots cT sT ls hC hR hL hl a1 a2 a3 a4
  exact lv_ddiv hC.1 hC.2.1 (hC.dec hf) hy (k p e R s m args below meth c H locs cells slots cT sT ls hC hR hL hl a1 a2 a3 a4)
theorem zn_dcmp {x y : UInt64} {op : CmpOp} (hf : zF I pc = some (.dcmp op, 1, a, b)) (k : Zn g I (pc + 1) L (.int (Op.cmpValue (FP.dcmp x y) op) :: st) h mc ms Q) : Zn g I pc L (.double y :: .double x :: st) h mc ms Q := by
  intro p e R s m args below meth c H locs cells slots cT sT ls hC hR hL hl a1 a2 a3 a4
  exact lv_dcmp hC.1 hC.2.1 (hC.dec hf) (k p e R s m args below meth c H locs cells slots cT sT ls hC hR hL hl a1 a2 a3 a4)
theorem zn_dup {v : Value} (hf : zF I pc = some (.dup, 1, a, b)) (hv : v.category = 1) (k : Zn g I (pc + 1) L (v :: v :: st) h mc ms Q) : Zn g I pc L (v :: st) h mc ms Q := by
  intro p e R s m args below meth c H locs cells slots cT sT ls hC hR hL hl a1 a2 a3 a4
  exact lv_dup hC.1 hC.2.1 (hC.dec hf) ((zt_cat g v).trans hv) (k p e R s m args below meth c H locs cells slots cT sT ls hC hR hL hl a1 a2 a3 a4)
theorem zn_pop {v : Value} (hf : zF I pc = some (.pop, 1, a, b)) (hv : v.category = 1) (k : Zn g I (pc + 1) L (st) h mc ms Q) : Zn g I pc L (v :: st) h mc ms Q := by
  intro p e R s m args below meth c H locs cells slots cT sT ls hC hR hL hl a1 a2 a3 a4
  exact lv_pop hC.1 hC.2.1 (hC.dec hf) ((zt_cat g v).trans hv) (k p e R s m args below meth c H locs cells slots cT sT ls hC hR hL hl a1 a2 a3 a4)
theorem zn_dup2 {v w : Value} (hf : zF I pc = some (.dup2, 1, a, b)) (hv : v.category = 1) (hw : w.category = 1) (k : Zn g I (pc + 1) L (v :: w :: v :: w :: st) h mc ms Q) : Zn g I pc L (v :: w :: st) h mc ms Q := by
  intro p e R s m args below meth c H locs cells slots cT sT ls hC hR hL hl a1 a2 a3 a4
  exact lv_dup2_11 hC.1 hC.2.1 (hC.dec hf) ((zt_cat g v).trans hv) ((zt_cat g w).trans hw) (k p e R s m args below meth c H locs cells slots cT sT ls hC hR hL hl a1 a2 a3 a4)
theorem zn_icmp_eq {x y : Int32} {off : Int} {tgt : Nat} (hf : zF I pc = some (.if_icmp .eq off, 3, a, b)) (ht : (pc : Int) + off = (tgt : Int)) (kt : x = y → Zn g I tgt L st h mc ms Q) (kf : ¬ x = y → Zn g I (pc + 3) L st h mc ms Q) : Zn g I pc L (.int y :: .int x :: st) h mc ms Q := by
  intro p e R s m args below meth c H locs cells slots cT sT ls hC hR hL hl a1 a2 a3 a4
  exact lv_icmp_eq hC.1 hC.2.1 (hC.dec hf) ht (fun z => kt z p e R s m args below meth c H locs cells slots cT sT ls hC hR hL hl a1 a2 a3 a4) (fun z => kf z p e R s m args below meth c H locs cells slots cT sT ls hC hR hL hl a1 a2 a3 a4)
theorem zn_if_eq {x : Int32} {off : Int} {tgt : Nat} (hf : zF I pc = some (.ifCond .eq off, 3, a, b)) (ht : (pc : Int) + off = (tgt : Int)) (kt : x = 0 → Zn g I tgt L st h mc ms Q) (kf : ¬ x = 0 → Zn g I (pc + 3) L st h mc ms Q) : Zn g I pc L (.int x :: st) h mc ms Q := by
  intro p e R s m args below meth c H locs cells slots cT sT ls hC hR hL hl a1 a2 a3 a4
  exact lv_if_eq hC.1 hC.2.1 (hC.dec hf) ht (fun z => kt z p e R s m args below meth c H locs cells slots cT sT ls hC hR hL hl a1 a2 a3 a4) (fun z => kf z p e R s m args below meth c H locs cells slots cT sT ls hC hR hL hl a1 a2 a3 a4)
theorem zn_icmp_ne {x y : Int32} {off : Int} {tgt : Nat} (hf : zF I pc = some (.if_icmp .ne off, 3, a, b)) (ht : (pc : Int) + off = (tgt : Int)) (kt : ¬ x = y → Zn g I tgt L st h mc ms Q) (kf : x = y → Zn g I (pc + 3) L st h mc ms Q) : Zn g I pc L (.int y :: .int x :: st) h mc ms Q := by
  intro p e R s m args below meth c H locs cells slots cT sT ls hC hR hL hl a1 a2 a3 a4
  exact lv_icmp_ne hC.1 hC.2.1 (hC.dec hf) ht (fun z => kt z p e R s m args below meth c H locs cells slots cT sT ls hC hR hL hl a1 a2 a3 a4) (fun z => kf z p e R s m args below meth c H locs cells slots cT sT ls hC hR hL hl a1 a2 a3 a4)
theorem zn_if_ne {x : Int32} {off : Int} {tgt : Nat} (hf : zF I pc = some (.ifCond .ne off, 3, a, b)) (ht : (pc : Int) + off = (tgt : Int)) (kt : ¬ x = 0 → Zn g I tgt L st h mc ms Q) (kf : x = 0 → Zn g I (pc + 3) L st h mc ms Q) : Zn g I pc L (.int x :: st) h mc ms Q := by
  intro p e R s m args below meth c H locs cells slots cT sT ls hC hR hL hl a1 a2 a3 a4
  exact lv_if_ne hC.1 hC.2.1 (hC.dec hf) ht (fun z => kt z p e R s m args below meth c H locs cells slots cT sT ls hC hR hL hl a1 a2 a3 a4) (fun z => kf z p e R s m args below meth c H locs cells slots cT sT ls hC hR hL hl a1 a2 a3 a4)
theorem zn_icmp_lt {x y : Int32} {off : Int} {tgt : Nat} (hf : zF I pc = some (.if_icmp .lt off, 3, a, b)) (ht : (pc : Int) + off = (tgt : Int)) (kt : x < y → Zn g I tgt L st h mc ms Q) (kf : ¬ x < y → Zn g I (pc + 3) L st h mc ms Q) : Zn g I pc L (.int y :: .int x :: st) h mc ms Q := by
  intro p e R s m args below meth c H locs cells slots cT sT ls hC hR hL hl a1 a2 a3 a4
  exact lv_icmp_lt hC.1 hC.2.1 (hC.dec hf) ht (fun z => kt z p e R s m args below meth c H locs cells slots cT sT ls hC hR hL hl a1 a2 a3 a4) (fun z => kf z p e R s m args below meth c H locs cells slots cT sT ls hC hR hL hl a1 a2 a3 a4)
theorem zn_if_lt {x : Int32} {off : Int} {tgt : Nat} (hf : zF I pc = some (.ifCond .lt off, 3, a, b)) (ht : (pc : Int) + off = (tgt : Int)) (kt : x < 0 → Zn g I tgt L st h mc ms Q) (kf : ¬ x < 0 → Zn g I (pc + 3) L st h mc ms Q) : Zn g I pc L (.int x :: st) h mc ms Q := by
  intro p e R s m args below meth c H locs cells slots cT sT ls hC hR hL hl a1 a2 a3 a4
  exact lv_if_lt hC.1 hC.2.1 (hC.dec hf) ht (fun z => kt z p e R s m args below meth c H locs cells slots cT sT ls hC hR hL hl a1 a2 a3 a4) (fun z => kf z p e R s m args below meth c H locs cells slots cT sT ls hC hR hL hl a1 a2 a3 a4)
theorem zn_icmp_ge {x y : Int32} {off : Int} {tgt : Nat} (hf : zF I pc = some (.if_icmp .ge off, 3, a, b)) (ht : (pc : Int) + off = (tgt : Int)) (kt : y ≤ x → Zn g I tgt L st h mc ms Q) (kf : ¬ y ≤ x → Zn g I (pc + 3) L st h mc ms Q) : Zn g I pc L (.int y :: .int x :: st) h mc ms Q := by
  intro p e R s m args below meth c H locs cells slots cT sT ls hC hR hL hl a1 a2 a3 a4
  exact lv_icmp_ge hC.1 hC.2.1 (hC.dec hf) ht (fun z => kt z p e R s m args below meth c H locs cells slots cT sT ls hC hR hL hl a1 a2 a3 a4) (fun z => kf z p e R s m args below meth c H locs cells slots cT sT ls hC hR hL hl a1 a2 a3 a4)
theorem zn_if_ge {x : Int32} {off : Int} {tgt : Nat} (hf : zF I pc = some (.ifCond .ge off, 3, a, b)) (ht : (pc : Int) + off = (tgt : Int)) (kt : 0 ≤ x → Zn g I tgt L st h mc ms Q) (kf : ¬ 0 ≤ x → Zn g I (pc + 3) L st h mc ms Q) : Zn g I pc L (.int x :: st) h mc ms Q := by
  intro p e R s m args below meth c H locs cells slots cT sT ls hC hR hL hl a1 a2 a3 a4
  exact lv_if_ge hC.1 hC.2.1 (hC.dec hf) ht (fun z => kt z p e R s m args below meth c H locs cells slots cT sT ls hC hR hL hl a1 a2 a3 a4) (fun z => kf z p e R s m args below meth c H locs cells slots cT sT ls hC hR hL hl a1 a2 a3 a4)
theorem zn_icmp_gt {x y : Int32} {off : Int} {tgt : Nat} (hf : zF I pc = some (.if_icmp .gt off, 3, a, b)) (ht : (pc : Int) + off = (tgt : Int)) (kt : y < x → Zn g I tgt L st h mc ms Q) (kf : ¬ y < x → Zn g I (pc + 3) L st h mc ms Q) : Zn g I pc L (.int y :: .int x :: st) h mc ms Q := by
  intro p e R s m args below meth c H locs cells slots cT sT ls hC hR hL hl a1 a2 a3 a4
  exact lv_icmp_gt hC.1 hC.2.1 (hC.dec hf) ht (fun z => kt z p e R s m args below meth c H locs cells slots cT sT ls hC hR hL hl a1 a2 a3 a4) (fun z => kf z p e R s m args below meth c H locs cells slots cT sT ls hC hR hL hl a1 a2 a3 a4)
theorem zn_if_gt {x : Int32} {off : Int} {tgt : Nat} (hf : zF I pc = some (.ifCond .gt off, 3, a, b)) (ht : (pc : Int) + off = (tgt : Int)) (kt : 0 < x → Zn g I tgt L st h mc ms Q) (kf : ¬ 0 < x → Zn g I (pc + 3) L st h mc ms Q) : Zn g I pc L (.int x :: st) h mc ms Q := by
  intro p e R s m args below meth c H locs cells slots cT sT ls hC hR hL hl a1 a2 a3 a4
  exact lv_if_gt hC.1 hC.2.1 (hC.dec hf) ht (fun z => kt z p e R s m args below meth c H locs cells slots cT sT ls hC hR hL hl a1 a2 a3 a4) (fun z => kf z p e R s m args below meth c H locs cells slots cT sT ls hC hR hL hl a1 a2 a3 a4)
theorem zn_icmp_le {x y : Int32} {off : Int} {tgt : Nat} (hf : zF I pc = some (.if_icmp .le off, 3, a, b)) (ht : (pc : Int) + off = (tgt : Int)) (kt : x ≤ y → Zn g I tgt L st h mc ms Q) (kf : ¬ x ≤ y → Zn g I (pc + 3) L st h mc ms Q) : Zn g I pc L (.int y :: .int x :: st) h mc ms Q := by
  intro p e R s m args below meth c H locs cells slots cT sT ls hC hR hL hl a1 a2 a3 a4
  exact lv_icmp_le hC.1 hC.2.1 (hC.dec hf) ht (fun z => kt z p e R s m args below meth c H locs cells slots cT sT ls hC hR hL hl a1 a2 a3 a4) (fun z => kf z p e R s m args below meth c H locs cells slots cT sT ls hC hR hL hl a1 a2 a3 a4)
theorem zn_if_le {x : Int32} {off : Int} {tgt : Nat} (hf : zF I pc = some (.ifCond .le off, 3, a, b)) (ht : (pc : Int) + off = (tgt : Int)) (kt : x ≤ 0 → Zn g I tgt L st h mc ms Q) (kf : ¬ x ≤ 0 → Zn g I (pc + 3) L st h mc ms Q) : Zn g I pc L (.int x :: st) h mc ms Q := by
  intro p e R s m args below meth c H locs cells slots cT sT ls hC hR hL hl a1 a2 a3 a4
  exact lv_if_le hC.1 hC.2.1 (hC.dec hf) ht (fun z => kt z p e R s m args below meth c H locs cells slots cT sT ls hC hR hL hl a1 a2 a3 a4) (fun z => kf z p e R s m args below meth c H locs cells slots cT sT ls hC hR hL hl a1 a2 a3 a4)
theorem zn_goto {off : Int} {tgt : Nat} (hf : zF I pc = some (.goto off, 3, a, b)) (ht : (pc : Int) + off = (tgt : Int)) (k : Zn g I tgt L st h mc ms Q) : Zn g I pc L st h mc ms Q := by
  intro p e R s m args below meth c H locs cells slots cT sT ls hC hR hL hl a1 a2 a3 a4
  exact lv_goto hC.1 hC.2.1 (hC.dec hf) ht (k p e R s m args below meth c H locs cells slots cT sT ls hC hR hL hl a1 a2 a3 a4)
theorem zn_tabOut {dflt lo hi : Int} {offs : Array Int} {len : Nat} {x : Int32} {tgt : Nat} (hf : zF I pc = some (.tableswitch dflt lo hi offs, len, a, b)) (hx : x.toInt < lo ∨ hi < x.toInt) (ht : (pc : Int) + dflt = (tgt : Int)) (k : Zn g I tgt L st h mc ms Q) : Zn g I pc L (.int x :: st) h mc ms Q := by
  intro p e R s m args below meth c H locs cells slots cT sT ls hC hR hL hl a1 a2 a3 a4
  exact lv_tableOut hC.1 hC.2.1 (hC.dec hf) hx ht (k p e R s m args below meth c H locs cells slots cT sT ls hC hR hL hl a1 a2 a3 a4)
theorem zn_tabIn {dflt lo hi : Int} {offs : Array Int} {len : Nat} {x : Int32} {off : Int} {tgt : Nat} (hf : zF I pc = some (.tableswitch dflt lo hi offs, len, a, b)) (h1 : ¬ x.toInt < lo) (h2 : ¬ hi < x.toInt) (ho : offs[(x.toInt - lo).toNat]? = some off) (ht : (pc : Int) + off = (tgt : Int)) (k : Zn g I tgt L st h mc ms Q) : Zn g I pc L (.int x :: st) h mc ms Q := by
  intro p e R s m args below meth c H locs cells slots cT sT ls hC hR hL hl a1 a2 a3 a4
  exact lv_tableIn hC.1 hC.2.1 (hC.dec hf) h1 h2 ho ht (k p e R s m args below meth c H locs cells slots cT sT ls hC hR hL hl a1 a2 a3 a4)
theorem zn_lookup {dflt : Int} {ps : Array (Int × Int)} {len : Nat} {x : Int32} {off : Int} {tgt : Nat} (hf : zF I pc = some (.lookupswitch dflt ps, len, a, b)) (hp : (ps.toList.zip (ps.toList.drop 1)).all (fun (a, next) => a.1 < next.1) = true) (ho : Op.lookupswitch.offset ps.toList dflt x.toInt = off) (ht : (pc : Int) + off = (tgt : Int)) (k : Zn g I tgt L st h mc ms Q) : Zn g I pc L (.int x :: st) h mc ms Q := by
  intro p e R s m args below meth c H locs cells slots cT sT ls hC hR hL hl a1 a2 a3 a4
  exact lv_lookup hC.1 hC.2.1 (hC.dec hf) hp ho ht (k p e R s m args below meth c H locs cells slots cT sT ls hC hR hL hl a1 a2 a3 a4)
theorem zn_ifnull {x : Nat} {off : Int} (hf : zF I pc = some (.ifnull off, 3, a, b)) (k : Zn g I (pc + 3) L st h mc ms Q) : Zn g I pc L (.ref x :: st) h mc ms Q := by
  intro p e R s m args below meth c H locs cells slots cT sT ls hC hR hL hl a1 a2 a3 a4
  exact lv_ifnull hC.1 hC.2.1 (hC.dec hf) (k p e R s m args below meth c H locs cells slots cT sT ls hC hR hL hl a1 a2 a3 a4)
theorem zn_ifnonnull {x : Nat} {off : Int} {tgt : Nat} (hf : zF I pc = some (.ifnonnull off, 3, a, b)) (ht : (pc : Int) + off = (tgt : Int)) (k : Zn g I tgt L st h mc ms Q) : Zn g I pc L (.ref x :: st) h mc ms Q := by
  intro p e R s m args below meth c H locs cells slots cT sT ls hC hR hL hl a1 a2 a3 a4
  exact lv_ifnonnull hC.1 hC.2.1 (hC.dec hf) ht (k p e R s m args below meth c H locs cells slots cT sT ls hC hR hL hl a1 a2 a3 a4)
theorem zn_ifnullN {off : Int} {tgt : Nat} (hf : zF I pc = some (.ifnull off, 3, a, b)) (ht : (pc : Int) + off = (tgt : Int)) (k : Zn g I tgt L st h mc ms Q) : Zn g I pc L (.null :: st) h mc ms Q := by
  intro p e R s m args below meth c H locs cells slots cT sT ls hC hR hL hl a1 a2 a3 a4
  exact lv_ifnullN hC.1 hC.2.1 (hC.dec hf) ht (k p e R s m args below meth c H locs cells slots cT sT ls hC hR hL hl a1 a2 a3 a4)
theorem zn_ifnonnullN {off : Int} (hf : zF I pc = some (.ifnonnull off, 3, a, b)) (k : Zn g I (pc + 3) L st h mc ms Q) : Zn g I pc L (.null :: st) h mc ms Q := by
  intro p e R s m args below meth c H locs cells slots cT sT ls hC hR hL hl a1 a2 a3 a4
  exact lv_ifnonnullN hC.1 hC.2.1 (hC.dec hf) (k p e R s m args below meth c H locs cells slots cT sT ls hC hR hL hl a1 a2 a3 a4)
theorem zn_iret {v : Int32} (hf : zF I pc = some (.ireturn, 1, a, b)) (hr : zRt I = some .int) (hq : Q (.inl (some (.int v))) h) : Zn g I pc L [.int v] h mc ms Q := by
  intro p e R s m args below meth c H locs cells slots cT sT ls hC hR hL hl a1 a2 a3 a4
  refine W.widen (k := cT) (n := sT) (by omega) (by omega) (vx_ret ?_)
  exact W.iret hC.1 hC.2.1 (hC.2.2.2.1.trans hr) (fun t ht _ => ⟨some (.int v), h, hq, rfl, by rw [ht]; exact hR⟩) hl (hC.dec hf) (hlocks := hC.2.2.2.2.1)
theorem zn_lret {v : Int64} (hf : zF I pc = some (.lreturn, 1, a, b)) (hr : zRt I = some .long) (hq : Q (.inl (some (.long v))) h) : Zn g I pc L [.long v] h mc ms Q := by
  intro p e R s m args below meth c H locs cells slots cT sT ls hC hR hL hl a1 a2 a3 a4
  refine W.widen (k := cT) (n := sT) (by omega) (by omega) (vx_ret ?_)
  exact W.lret hC.1 hC.2.1 (hC.2.2.2.1.trans hr) (fun t ht _ => ⟨some (.long v), h, hq, rfl, by rw [ht]; exact hR⟩) hl (hC.dec hf) (hlocks := hC.2.2.2.2.1)
theorem zn_dret {v : UInt64} (hf : zF I pc = some (.dreturn, 1, a, b)) (hr : zRt I = some .double) (hq : Q (.inl (some (.double v))) h) : Zn g I pc L [.double v] h mc ms Q := by
  intro p e R s m args below meth c H locs cells slots cT sT ls hC hR hL hl a1 a2 a3 a4
  refine W.widen (k := cT) (n := sT) (by omega) (by omega) (vx_ret ?_)
  exact W.dret hC.1 hC.2.1 (hC.2.2.2.1.trans hr) (fun t ht _ => ⟨some (.double v), h, hq, rfl, by rw [ht]; exact hR⟩) hl (hC.dec hf) (hlocks := hC.2.2.2.2.1)
theorem zn_zret {v : Int32} (hf : zF I pc = some (.ireturn, 1, a, b)) (hr : zRt I = some .boolean) (hn : v &&& 1 = v) (hq : Q (.inl (some (.int v))) h) : Zn g I pc L [.int v] h mc ms Q := by
  intro p e R s m args below meth c H locs cells slots cT sT ls hC hR hL hl a1 a2 a3 a4
  refine W.widen (k := cT) (n := sT) (by omega) (by omega) (vx_ret ?_)
  exact W.zret hC.1 hC.2.1 (hC.2.2.2.1.trans hr) (by show Value.int (v &&& 1) = .int v; rw [hn]) (fun t ht _ => ⟨some (.int v), h, hq, rfl, by rw [ht]; exact hR⟩) hl (hC.dec hf) (hlocks := hC.2.2.2.2.1)
theorem zn_vret (hf : zF I pc = some (.return_, 1, a, b)) (hr : zRt I = none) (hq : Q (.inl none) h) : Zn g I pc L [] h mc ms Q := by
  intro p e R s m args below meth c H locs cells slots cT sT ls hC hR hL hl a1 a2 a3 a4
  refine W.widen (k := cT) (n := sT) (by omega) (by omega) (vx_ret ?_)
  exact W.vret hC.1 hC.2.1 (hC.2.2.2.1.trans hr) (fun t ht _ => ⟨none, h, hq, rfl, by rw [ht]; exact hR⟩) hl (hC.dec hf) (hlocks := hC.2.2.2.2.1)
theorem zn_aret {o : Nat} {C : String} (hf : zF I pc = some (.areturn, 1, a, b)) (hr : zRt I = some (.object C)) (hq : Q (.inl (some (.ref o))) h) : Zn g I pc L [.ref o] h mc ms Q := by
  intro p e R s m args below meth c H locs cells slots cT sT ls hC hR hL hl a1 a2 a3 a4
  refine W.widen (k := cT) (n := sT) (by omega) (by omega) (vx_ret ?_)
  exact W.aret (v := .ref (zad g o)) hC.1 hC.2.1 (hC.2.2.2.1.trans hr) (Or.inl ⟨C, rfl⟩) (Or.inr ⟨_, rfl⟩) (fun t ht _ => ⟨some (.ref o), h, hq, rfl, by rw [ht]; exact hR⟩) hl (hC.dec hf) (hlocks := hC.2.2.2.2.1)
-- SIMPLE END
end zRules
end
section
section zHeap
variable {g : zG} {I : zI} {pc a b : Nat} {L L' : zL} {st : List Value} {h : zH} {mc ms : Nat} {Q : zR → zH → Prop}
theorem zRel.posO {H : Heap} (hR : zRel g h H) {o ci : Nat} {fs : List Value} (ho : h.1 o = some (.inr (ci, fs))) : 0 < o := by
  rcases Nat.eq_zero_or_pos o with z | z
  · have := (hR.2.2.2.2 o _ ho).2.1 z
    cases this
  · exact z
theorem zRel.S {H : Heap} {locs : List Loc} (hR : zRel g h H) (hl : ∀ z ∈ locs, zg1 g < z.base) : va_S (fun q => zg1 g < q) (zgH g) H locs :=
  ⟨by rw [hR.2.2.1, hR.2.1]; have := hR.1; omega, fun q _ hq => hR.2.2.2.1 q (by omega), hl⟩
theorem zcat (g : zG) (st : List Value) : (((st.map (zt g)).map fun v => v.category)).sum = (st.map fun v => v.category).sum := by
  rw [List.map_map]
  congr 1
  exact List.map_congr_left fun v _ => zt_cat g v
theorem zrf (g : zG) (r : Option Nat) : va_rf (r.map (zad g)) = zt g (va_rf r) := by cases r <;> rfl
theorem zn_get {idx o ci k : Nat} {fs : List Value} {v : Value} (hf : zF I pc = some (.getfield idx, 3, ci, k)) (ho : h.1 o = some (.inr (ci, fs))) (hv : fs[k]? = some v) (K : Zn g I (pc + 3) L (v :: st) h mc ms Q) : Zn g I pc L (.ref o :: st) h mc ms Q := by
  intro p e R s m args below meth c H locs cells slots cT sT ls hC hR hL hl a1 a2 a3 a4
  obtain ⟨C, T, N, c1, c2, c3, c4⟩ := hC.lk hf
  have hK := hC.zS.2.2.1
  have hv' : (fs.map (zt g))[k]? = some (zt g v) := by rw [List.getElem?_map, hv]; rfl
  rcases c4 with c4 | ⟨host, c4⟩
  · exact va_get hC.1 hC.2.1 hC.hts c3 hC.own hK (hR.P ho (hR.posO ho)) 0 rfl c1 k c2 (hC.hts _ c4) (fun _ h9 => h9) hv' (hC.dec hf) (K p e R s m args below meth c H locs cells slots cT sT ls hC hR hL hl a1 a2 a3 a4)
  · exact va_getN hC.1 hC.2.1 hC.hts c3 hC.own hK (hR.P ho (hR.posO ho)) 0 rfl c1 k c2 (va_Nw.use rfl (hC.zS.2.2.2.2.1 _ c4 rfl)) (fun _ h9 => h9) hv' (hC.dec hf) (K p e R s m args below meth c H locs cells slots cT sT ls hC hR hL hl a1 a2 a3 a4)
def zfit (ty : FieldType) (v : Value) : Bool := fits ty v && (narrow ty v == v)
theorem zfit_t {ty : FieldType} {v : Value} (hv : zfit ty v = true) : narrow ty (zt g v) = zt g v ∧ fits ty (zt g v) = true := by
  simp only [zfit, Bool.and_eq_true, beq_iff_eq] at hv
  obtain ⟨h1, h2⟩ := hv
  cases v with
  | ref i => cases ty <;> first | exact ⟨rfl, rfl⟩ | (simp [fits] at h1)
  | _ => exact ⟨h2, h1⟩
theorem zn_put {idx o ci k : Nat} {fs : List Value} {v : Value} (hf : zF I pc = some (.putfield idx, 3, ci, k)) (ho : h.1 o = some (.inr (ci, fs))) (hk : k < fs.length) (hv : zfit (zty ci k) v = true) (K : Zn g I (pc + 3) L st (zup h o (.inr (ci, fs.set k v))) mc ms Q) : Zn g I pc L (v :: .ref o :: st) h mc ms Q := by
  intro p e R s m args below meth c H locs cells slots cT sT ls hC hR hL hl a1 a2 a3 a4
  obtain ⟨C, T, N, c1, c2, c3, c4, c5, c6, c7⟩ := hC.lk hf
  have hK := hC.zS.2.2.1
  have hpo := hR.posO ho
  have hP := hR.P ho hpo
  have hap := va_apart (own := (zNm I).cls) hC.hts c3 (zty ci) c5 c6 hK c1
  obtain ⟨hn, hfit⟩ := zfit_t (g := g) hv
  obtain ⟨r, h1, cell, q1, q2, q3, q4⟩ := hP 0 _ rfl
  have hr : r = (C, T, N) := Option.some.inj (h1.symm.trans c1)
  subst hr
  obtain ⟨hS, hfc, kC, hkC, hkind⟩ := hK.1 ci _ c1
  obtain ⟨cf, kf, fi, f, hi, hsl⟩ := hS k c2
  have hlay := hC.hts _ (c3 _ (u_in_lay c2))
  unfold u_lay at hlay
  have hst := (u_facts hfc hkC (u_lays hC.hts c3 c2) hi).1
  have hl2 : k < (fs.map (zt g)).length := by rw [List.length_map]; exact hk
  have fin : ∀ H' : Heap, H'[zad g o]? = some (cell.setSlot f.slot (zt g v)) → H'.size = H.size → (∀ q, q ≠ zad g o → H'[q]? = H[q]?) → zRel g (zup h o (.inr (ci, fs.set k v))) H' := by
    intro H' e1 e2 e3
    refine hR.put ho hpo ?_ e2 e3
    rw [hsl] at e1
    refine ⟨_, c1, t_OB.to (V := updV (vp_V (fs.map (zt g))) k (zt g v)) ⟨_, e1, q2, q3, t_set q4 hap c2 (zt g v)⟩ (fun j _ => ?_)⟩
    rw [vp_updV_set hl2 (zt g v) j]
    show vp_V ((fs.map (zt g)).set k (zt g v)) j = vp_V ((fs.set k v).map (zt g)) j
    rw [List.map_set]
  rcases c7 with c7 | ⟨c7, c8, c9⟩
  · rw [if_neg (by rw [c7]; decide)] at hlay
    have h6 := u_store hfc hkC hkind hlay hi (c5 k c2) hn hfit
    refine W.putK hC.1 hC.2.1 (f := f) ⟨hC.own, hC.hts _ c4, ⟨_, _, _, hi⟩, hst⟩ (by rw [q2]; exact h6) q1 q3 (by rw [hsl]; exact k2_hasslot (q4 k c2)) rfl rfl (hC.dec hf) fun H' e1 e2 e3 => ?_
    exact K p e R s m args below meth c H' _ cells slots cT sT ls hC (fin H' e1 e2 e3) hL (fun z hz => by
      rcases List.mem_append.mp hz with hz | hz
      · exact hl z hz
      · rw [List.mem_singleton.mp hz]; show zg1 g < zad g o; rw [zad_pos g hpo]; omega) a1 a2 a3 a4
  · rw [if_pos c7] at hlay
    have hcf : m.cls = cf := by
      obtain ⟨_, _, c', _, _, _, -, -, hf', -, -, -, hown2, -⟩ := Cond.laysFinal_spec hlay
      have e1 : c' = cf := by have := hi.symm.trans hf'; simp at this; exact this.1.symm
      rw [c9] at hown2
      rw [← e1]; exact Option.some.inj (hC.own.symm.trans hown2)
    have h6 := u_fits hfc hkC hkind (Or.inr hlay) hi (c5 k c2) hn hfit
    refine W.putFinK hC.1 hC.2.1 hC.own (hC.hts _ c4) hi hst hcf (hC.2.2.2.2.2.2.2.1.trans c8) (by rw [q2]; exact h6) q1 q3 (by rw [hsl]; exact k2_hasslot (q4 k c2)) rfl rfl (hC.dec hf) fun H' e1 e2 e3 => ?_
    exact K p e R s m args below meth c H' _ cells slots cT sT ls hC (fin H' e1 e2 e3) hL (fun z hz => by
      rcases List.mem_append.mp hz with hz | hz
      · exact hl z hz
      · rw [List.mem_singleton.mp hz]; show zg1 g < zad g o; rw [zad_pos g hpo]; omega) a1 a2 a3 a4
def zcnt (ci : Nat) : Nat := match vwCl[ci]? with
  | some q => q.2.2
  | none => 0
def zdef (ci : Nat) : List Value := (List.range (zcnt ci)).map fun j => defaultValue (zty ci j)
theorem zdef_t (g : zG) (ci : Nat) : (zdef ci).map (zt g) = zdef ci := by
  unfold zdef
  rw [List.map_map]
  refine List.map_congr_left fun j _ => ?_
  show zt g (defaultValue (zty ci j)) = _
  cases zty ci j <;> rfl
theorem zn_new {idx ci : Nat} (hf : zF I pc = some (.new idx, 3, ci, 0)) (K : Zn g I (pc + 3) L (.ref h.2 :: st) (znew h (.inr (ci, zdef ci))) mc ms Q) : Zn g I pc L st h (mc + 1) (ms + zcnt ci) Q := by
  intro p e R s m args below meth c H locs cells slots cT sT ls hC hR hL hl a1 a2 a3 a4
  obtain ⟨C, T, N, c1, c3, c5, c6, c7, c8⟩ : zNw (zNm I).cls idx ci := hC.lk hf
  have hK := hC.zS.2.2.1
  have hKn := hK.1 ci _ c1
  have hcn : zcnt ci = N := by simp only [zcnt, c1]
  refine W.newcK hC.1 hC.2.1 hC.own (hC.hts _ c6) (hC.hts _ c7) (hC.hts _ c8) rfl (hC.dec hf) (by omega) (by omega) hKn.2.1 rfl fun H1 kC hkC e1 z1 o1 => ?_
  have hat : va_at (zgD g) vwCl (H.size, zE g (.inr (ci, zdef ci))) H1 := by
    refine ⟨_, c1, (u_born (zty ci) hC.hts c3 hKn hkC e1 c5).to (fun j hj => ?_)⟩
    show defaultValue (zty ci j) = vp_V ((zdef ci).map (zt g)) j
    rw [zdef_t]
    unfold vp_V zdef
    rw [hcn, List.getD_eq_getElem?_getD, List.getElem?_map, List.getElem?_range hj]
    rfl
  have hR' := hR.new hat z1 o1
  have := K p e R s m args below meth c H1 locs (cells + 1) (slots + N) cT sT ls hC hR' hL hl (by omega) (by omega) a3 a4
  rw [← hR.top]
  exact this
theorem zn_alen {o : Nat} {x : vp_A} (hf : zF I pc = some (.arraylength, 1, a, b)) (ho : h.1 o = some (.inl x)) (K : Zn g I (pc + 1) L (.int (Int32.ofNat x.1) :: st) h mc ms Q) : Zn g I pc L (.ref o :: st) h mc ms Q := by
  intro p e R s m args below meth c H locs cells slots cT sT ls hC hR hL hl a1 a2 a3 a4
  have K' := K p e R s m args below meth c H locs cells slots cT sT ls hC hR hL hl a1 a2 a3 a4
  have hK := hC.zS.2.2.1
  rcases Nat.eq_zero_or_pos o with z | z
  · have h0 := (hR.2.2.2.2 o _ ho).2.1 z
    subst z
    obtain rfl : x = (zgn g, .inl (zgx g)) := by cases h0; rfl
    exact va_slen (b := zgb g) hC.1 hC.2.1 hC.zS.2.2.2.1 (by have := hC.zS.2.1; rw [hR.2.2.1]; omega) (by have := hC.zS.2.1; show ¬ zg1 g < zgb g; omega) (hR.S hl) (hC.dec hf) K'
  · have hP := hR.P ho z
    obtain ⟨n, f | f | f | f | f⟩ := x
    · exact va_alen hC.1 hC.2.1 hK hP 0 0 rfl rfl rfl (hC.dec hf) K'
    · exact va_alen hC.1 hC.2.1 hK hP 0 1 rfl rfl rfl (hC.dec hf) K'
    · exact va_alen hC.1 hC.2.1 hK hP 0 0 rfl rfl rfl (hC.dec hf) K'
    · exact va_alen hC.1 hC.2.1 hK hP 0 2 rfl rfl rfl (hC.dec hf) K'
    · exact va_alen hC.1 hC.2.1 hK hP 0 3 rfl rfl rfl (hC.dec hf) K'
theorem zn_iald {o n : Nat} {f : Nat → Int32} {i : Int32} (hf : zF I pc = some (.iaload, 1, a, b)) (ho : h.1 o = some (.inl (n, .inl f))) (hin : vp_in i n) (K : Zn g I (pc + 1) L (.int (f i.toNatClampNeg) :: st) h mc ms Q) : Zn g I pc L (.int i :: .ref o :: st) h mc ms Q := by
  intro p e R s m args below meth c H locs cells slots cT sT ls hC hR hL hl a1 a2 a3 a4
  have K' := K p e R s m args below meth c H locs cells slots cT sT ls hC hR hL hl a1 a2 a3 a4
  have hK := hC.zS.2.2.1
  rcases Nat.eq_zero_or_pos o with z | z
  · have h0 := (hR.2.2.2.2 o _ ho).2.1 z
    subst z
    obtain ⟨rfl, rfl⟩ : n = zgn g ∧ f = zgx g := by cases h0; exact ⟨rfl, rfl⟩
    exact va_sld hC.1 hC.2.1 hC.zS.2.2.2.1 (by have := hC.zS.2.1; rw [hR.2.2.1]; omega) (by have := hC.zS.2.1; show ¬ zg1 g < zgb g; omega) (hR.S hl) hin (hC.dec hf) K'
  · exact va_iald hC.1 hC.2.1 hK (hR.P ho z) 0 0 rfl rfl hin (hC.dec hf) K'
theorem zn_lald {o n : Nat} {f : Nat → Int64} {i : Int32} (hf : zF I pc = some (.laload, 1, a, b)) (hp : 0 < o) (ho : h.1 o = some (.inl (n, .inr (.inl f)))) (hin : vp_in i n) (K : Zn g I (pc + 1) L (.long (f i.toNatClampNeg) :: st) h mc ms Q) : Zn g I pc L (.int i :: .ref o :: st) h mc ms Q := by
  intro p e R s m args below meth c H locs cells slots cT sT ls hC hR hL hl a1 a2 a3 a4
  exact va_lald hC.1 hC.2.1 hC.zS.2.2.1 (hR.P ho hp) 0 1 rfl rfl hin (hC.dec hf) (K p e R s m args below meth c H locs cells slots cT sT ls hC hR hL hl a1 a2 a3 a4)
theorem zn_dald {o n : Nat} {f : Nat → UInt64} {i : Int32} (hf : zF I pc = some (.daload, 1, a, b)) (hp : 0 < o) (ho : h.1 o = some (.inl (n, .inr (.inr (.inr (.inl f)))))) (hin : vp_in i n) (K : Zn g I (pc + 1) L (.double (f i.toNatClampNeg) :: st) h mc ms Q) : Zn g I pc L (.int i :: .ref o :: st) h mc ms Q := by
  intro p e R s m args below meth c H locs cells slots cT sT ls hC hR hL hl a1 a2 a3 a4
  exact va_dald hC.1 hC.2.1 hC.zS.2.2.1 (hR.P ho hp) 0 2 rfl rfl hin (hC.dec hf) (K p e R s m args below meth c H locs cells slots cT sT ls hC hR hL hl a1 a2 a3 a4)
theorem zn_aald {o n : Nat} {f : Nat → Option Nat} {i : Int32} (hf : zF I pc = some (.aaload, 1, a, b)) (hp : 0 < o) (ho : h.1 o = some (.inl (n, .inr (.inr (.inr (.inr f)))))) (hin : vp_in i n) (K : Zn g I (pc + 1) L (va_rf (f i.toNatClampNeg) :: st) h mc ms Q) : Zn g I pc L (.int i :: .ref o :: st) h mc ms Q := by
  intro p e R s m args below meth c H locs cells slots cT sT ls hC hR hL hl a1 a2 a3 a4
  have K' := K p e R s m args below meth c H locs cells slots cT sT ls hC hR hL hl a1 a2 a3 a4
  rw [List.map_cons, ← zrf] at K'
  exact va_aldq hC.1 hC.2.1 hC.zS.2.2.1 (hR.P ho hp) 0 3 rfl rfl hin (hC.dec hf) K'
theorem zloc {locs : List Loc} {o j : Nat} (hp : 0 < o) (hl : ∀ z ∈ locs, zg1 g < z.base) : ∀ z ∈ locs ++ [(⟨zad g o, j⟩ : Loc)], zg1 g < z.base := fun z hz => by
  rcases List.mem_append.mp hz with hz | hz
  · exact hl z hz
  · rw [List.mem_singleton.mp hz]; show zg1 g < zad g o; rw [zad_pos g hp]; omega
theorem zn_iast {o n : Nat} {f : Nat → Int32} {i x : Int32} (hf : zF I pc = some (.iastore, 1, a, b)) (hp : 0 < o) (ho : h.1 o = some (.inl (n, .inl f))) (hin : vp_in i n) (K : Zn g I (pc + 1) L st (zup h o (.inl (n, .inl (upd f i.toNatClampNeg x)))) mc ms Q) : Zn g I pc L (.int x :: .int i :: .ref o :: st) h mc ms Q := by
  intro p e R s m args below meth c H locs cells slots cT sT ls hC hR hL hl a1 a2 a3 a4
  have hK := hC.zS.2.2.1
  have hA := hR.at ho hp
  refine W.iast hC.1 hC.2.1 hA ((hK.2 0 _ rfl).1 n (fun j => .int (f j))) (fun q => by cases q) (by show ¬ (i < 0 ∨ (arrV _ _ _).slots.size ≤ _); rw [arrV_size]; exact hin) rfl rfl (hC.dec hf) fun H1 e1 z oq => ?_
  refine K p e R s m args below meth c H1 _ cells slots cT sT ls hC (hR.put ho hp ?_ z oq) hL (zloc hp hl) a1 a2 a3 a4
  show H1[zad g o]? = some (vp_cell _ _)
  rw [e1]
  show some ((vp_cell (zgI g) (n, .inl f)).setSlot _ _) = some (vp_cell (zgI g) (n, .inl (upd f i.toNatClampNeg x)))
  rw [vp_cell_i, vp_cell_i, arrV_store]
  congr 2
  funext q
  by_cases hq : q = i.toNatClampNeg
  · subst hq
    simp [updV, upd]
  · simp [updV, upd, hq]
theorem zn_last {o n : Nat} {f : Nat → Int64} {i : Int32} {x : Int64} (hf : zF I pc = some (.lastore, 1, a, b)) (hp : 0 < o) (ho : h.1 o = some (.inl (n, .inr (.inl f)))) (hin : vp_in i n) (K : Zn g I (pc + 1) L st (zup h o (.inl (n, .inr (.inl (vp_updL f i.toNatClampNeg x))))) mc ms Q) : Zn g I pc L (.long x :: .int i :: .ref o :: st) h mc ms Q := by
  intro p e R s m args below meth c H locs cells slots cT sT ls hC hR hL hl a1 a2 a3 a4
  have hK := hC.zS.2.2.1
  have hA := hR.at ho hp
  refine W.last hC.1 hC.2.1 hA ((hK.2 1 _ rfl).1 n (fun j => .long (f j))) (fun q => by cases q) (by show ¬ (i < 0 ∨ (arrV _ _ _).slots.size ≤ _); rw [arrV_size]; exact hin) rfl rfl (hC.dec hf) fun H1 e1 z oq => ?_
  refine K p e R s m args below meth c H1 _ cells slots cT sT ls hC (hR.put ho hp ?_ z oq) hL (zloc hp hl) a1 a2 a3 a4
  show H1[zad g o]? = some (vp_cell _ _)
  rw [e1]
  show some ((vp_cell (zgJ g) (n, .inr (.inl f))).setSlot _ _) = some (vp_cell (zgJ g) (n, .inr (.inl (vp_updL f i.toNatClampNeg x))))
  rw [vp_cell_l, vp_cell_l, arrV_store]
  congr 2
  funext q
  by_cases hq : q = i.toNatClampNeg
  · subst hq
    simp [updV, vp_updL]
  · simp [updV, vp_updL, hq]
theorem zn_dast {o n : Nat} {f : Nat → UInt64} {i : Int32} {x : UInt64} (hf : zF I pc = some (.dastore, 1, a, b)) (hp : 0 < o) (ho : h.1 o = some (.inl (n, .inr (.inr (.inr (.inl f)))))) (hin : vp_in i n) (K : Zn g I (pc + 1) L st (zup h o (.inl (n, .inr (.inr (.inr (.inl (va_up f i.toNatClampNeg x))))))) mc ms Q) : Zn g I pc L (.double x :: .int i :: .ref o :: st) h mc ms Q := by
  intro p e R s m args below meth c H locs cells slots cT sT ls hC hR hL hl a1 a2 a3 a4
  have hK := hC.zS.2.2.1
  have hA := hR.at ho hp
  refine W.dast hC.1 hC.2.1 hA ((hK.2 2 _ rfl).1 n (fun j => .double (f j))) (fun q => by cases q) (by show ¬ (i < 0 ∨ (arrV _ _ _).slots.size ≤ _); rw [arrV_size]; exact hin) rfl rfl (hC.dec hf) fun H1 e1 z oq => ?_
  refine K p e R s m args below meth c H1 _ cells slots cT sT ls hC (hR.put ho hp ?_ z oq) hL (zloc hp hl) a1 a2 a3 a4
  show H1[zad g o]? = some (vp_cell _ _)
  rw [e1]
  show some ((vp_cell (zgK g) (n, .inr (.inr (.inr (.inl f))))).setSlot _ _) = some (vp_cell (zgK g) (n, .inr (.inr (.inr (.inl (va_up f i.toNatClampNeg x))))))
  rw [vp_cell_d, vp_cell_d, arrV_store]
  congr 2
  funext q
  by_cases hq : q = i.toNatClampNeg
  · subst hq
    simp [updV, va_up]
  · simp [updV, va_up, hq]
theorem zn_aast {o n v : Nat} {vs : List Value} {f : Nat → Option Nat} {i : Int32} (hf : zF I pc = some (.aastore, 1, a, b)) (hp : 0 < o) (ho : h.1 o = some (.inl (n, .inr (.inr (.inr (.inr f)))))) (hv : h.1 v = some (.inr (7, vs))) (hin : vp_in i n) (K : Zn g I (pc + 1) L st (zup h o (.inl (n, .inr (.inr (.inr (.inr (va_up f i.toNatClampNeg (some v)))))))) mc ms Q) : Zn g I pc L (.ref v :: .int i :: .ref o :: st) h mc ms Q := by
  intro p e R s m args below meth c H locs cells slots cT sT ls hC hR hL hl a1 a2 a3 a4
  have hK := hC.zS.2.2.1
  have hA := hR.at ho hp
  have hlt : i.toNatClampNeg < n := Nat.not_le.mp fun q => hin (Or.inr q)
  have h0 : ¬ i < 0 := fun q => hin (Or.inl q)
  obtain ⟨r', hr', cellV, g1, g2, g3, -⟩ := hR.at hv (hR.posO hv)
  have hcls := (hK.1 7 (RX7, TX7, 2) rfl).2
  obtain ⟨kA, comp, k1, k2, k3, -⟩ := (hK.2 3 _ rfl).2
  have hcomp : comp = (zgD g).1 7 := Option.some.inj (k3.symm.trans hcls.1)
  subst hcomp
  obtain ⟨kC, hkC, -⟩ := hcls.2
  refine W.aast hC.1 hC.2.1 hA (fun q h => by cases h) (fun h => by cases h) k1 k2 rfl hkC ⟨h0, by show _ < (arrV _ _ _).slots.size; rw [arrV_size]; exact hlt⟩ g1 (fun q h => by rw [g3] at h; cases h) (by rw [g2]; exact hkC) (by rw [g2]; exact va_assign hcls) rfl rfl (hC.dec hf) fun H1 e1 z oq => ?_
  refine K p e R s m args below meth c H1 _ cells slots cT sT ls hC (hR.put ho hp ?_ z oq) hL (zloc hp hl) a1 a2 a3 a4
  show H1[zad g o]? = some (vp_cell _ _)
  rw [e1]
  show some ((vp_cell (zgP g) (n, .inr (.inr (.inr (.inr (fun j => (f j).map (zad g))))))).setSlot _ _) = some (vp_cell (zgP g) (n, .inr (.inr (.inr (.inr (fun j => (va_up f i.toNatClampNeg (some v) j).map (zad g)))))))
  rw [vp_cell_q, vp_cell_q, arrV_store]
  congr 2
  funext q
  by_cases hq : q = i.toNatClampNeg
  · subst hq
    simp [updV, va_up, va_rf]
  · simp [updV, va_up, hq]
theorem zn_ldc {idx v : Nat} (hf : zF I pc = some (.ldc idx, 2, v, b)) (K : Zn g I (pc + 2) L (.int (nI v) :: st) h mc ms Q) : Zn g I pc L st h mc ms Q := by
  intro p e R s m args below meth c H locs cells slots cT sT ls hC hR hL hl a1 a2 a3 a4
  exact lv_ldc hC.1 hC.2.1 hC.own (hC.hts _ (hC.lk hf)) (hC.dec hf) (K p e R s m args below meth c H locs cells slots cT sT ls hC hR hL hl a1 a2 a3 a4)
theorem zn_ldc2 {idx v : Nat} (hf : zF I pc = some (.ldc2_w idx, 3, v, b)) (K : Zn g I (pc + 3) L (.long (lN v) :: st) h mc ms Q) : Zn g I pc L st h mc ms Q := by
  intro p e R s m args below meth c H locs cells slots cT sT ls hC hR hL hl a1 a2 a3 a4
  exact lv_ldc2 hC.1 hC.2.1 hC.own (hC.hts _ (hC.lk hf)) (hC.dec hf) (K p e R s m args below meth c H locs cells slots cT sT ls hC hR hL hl a1 a2 a3 a4)
theorem zarr_cls {s : State} (hK : va_K (zgD g) vwCl (ztys g) s) {cA : ClassId} {ty : FieldType} (k : Nat) {c0 : ClassId} (hk : (ztys g)[k]? = some (c0, ty)) (hp : ∀ C, ty ≠ .object C) (hcA : s.vm.findClass ("[" ++ ty.toString) = some cA) : cA = c0 := by
  have h1 := (hK.2 k _ hk).2
  unfold va_RA at h1
  cases ty with
  | object C => exact absurd rfl (hp C)
  | _ => exact Option.some.inj (hcA.symm.trans h1)
theorem zn_newa_i {n : Int32} {N : Nat} (hf : zF I pc = some (.newarray .int, 2, a, b)) (hn : ¬ n < 0) (hN : n.toNatClampNeg = N) (hb : N * 8 ≤ 536870912) (hw : Cond.arrayClass .int ∈ zgt) (K : Zn g I (pc + 2) L (.ref h.2 :: st) (znew h (.inl (N, .inl (fun _ => 0)))) mc ms Q) : Zn g I pc L (.int n :: st) h (mc + 1) (ms + N) Q := by
  intro p e R s m args below meth c H locs cells slots cT sT ls hC hR hL hl a1 a2 a3 a4
  have hK := hC.zS.2.2.1
  refine va_newaK (atype := .int) hC.1 hC.2.1 (hC.hts _ hw) rfl (hC.dec hf) rfl hn hN (Nat.le_trans (Nat.mul_le_mul_left N (show componentBytes .int ≤ 8 by decide)) hb) (by omega) (by omega) rfl fun H1 cA e1 z1 o1 hAr hcA => ?_
  have hcc : cA = zgI g := zarr_cls hK 0 rfl (fun C h => by cases h) hcA
  subst hcc
  have hat : va_at (zgD g) vwCl (H.size, zE g (.inl (N, .inl (fun _ => 0)))) H1 := e1
  have := K p e R s m args below meth c H1 locs (cells + 1) (slots + N) cT sT ls hC (hR.new hat z1 o1) hL hl (by omega) (by omega) a3 a4
  rw [← hR.top]
  exact this
theorem zn_newa_l {n : Int32} {N : Nat} (hf : zF I pc = some (.newarray .long, 2, a, b)) (hn : ¬ n < 0) (hN : n.toNatClampNeg = N) (hb : N * 8 ≤ 536870912) (hw : Cond.arrayClass .long ∈ zgt) (K : Zn g I (pc + 2) L (.ref h.2 :: st) (znew h (.inl (N, .inr (.inl (fun _ => 0))))) mc ms Q) : Zn g I pc L (.int n :: st) h (mc + 1) (ms + N) Q := by
  intro p e R s m args below meth c H locs cells slots cT sT ls hC hR hL hl a1 a2 a3 a4
  have hK := hC.zS.2.2.1
  refine va_newaK (atype := .long) hC.1 hC.2.1 (hC.hts _ hw) rfl (hC.dec hf) rfl hn hN (Nat.le_trans (Nat.mul_le_mul_left N (show componentBytes .long ≤ 8 by decide)) hb) (by omega) (by omega) rfl fun H1 cA e1 z1 o1 hAr hcA => ?_
  have hcc : cA = zgJ g := zarr_cls hK 1 rfl (fun C h => by cases h) hcA
  subst hcc
  have hat : va_at (zgD g) vwCl (H.size, zE g (.inl (N, .inr (.inl (fun _ => 0))))) H1 := e1
  have := K p e R s m args below meth c H1 locs (cells + 1) (slots + N) cT sT ls hC (hR.new hat z1 o1) hL hl (by omega) (by omega) a3 a4
  rw [← hR.top]
  exact this
theorem zn_newa_d {n : Int32} {N : Nat} (hf : zF I pc = some (.newarray .double, 2, a, b)) (hn : ¬ n < 0) (hN : n.toNatClampNeg = N) (hb : N * 8 ≤ 536870912) (hw : Cond.arrayClass .double ∈ zgt) (K : Zn g I (pc + 2) L (.ref h.2 :: st) (znew h (.inl (N, .inr (.inr (.inr (.inl (fun _ => 0))))))) mc ms Q) : Zn g I pc L (.int n :: st) h (mc + 1) (ms + N) Q := by
  intro p e R s m args below meth c H locs cells slots cT sT ls hC hR hL hl a1 a2 a3 a4
  have hK := hC.zS.2.2.1
  refine va_newaK (atype := .double) hC.1 hC.2.1 (hC.hts _ hw) rfl (hC.dec hf) rfl hn hN (Nat.le_trans (Nat.mul_le_mul_left N (show componentBytes .double ≤ 8 by decide)) hb) (by omega) (by omega) rfl fun H1 cA e1 z1 o1 hAr hcA => ?_
  have hcc : cA = zgK g := zarr_cls hK 2 rfl (fun C h => by cases h) hcA
  subst hcc
  have hat : va_at (zgD g) vwCl (H.size, zE g (.inl (N, .inr (.inr (.inr (.inl (fun _ => 0))))))) H1 := e1
  have := K p e R s m args below meth c H1 locs (cells + 1) (slots + N) cT sT ls hC (hR.new hat z1 o1) hL hl (by omega) (by omega) a3 a4
  rw [← hR.top]
  exact this
end zHeap
end
section
section zCall
variable {g : zG} {I J : zI} {pc a b : Nat} {L L' : zL} {st rest as : List Value} {h : zH} {mc ms mc1 ms1 mc2 ms2 : Nat} {Q Q1 : zR → zH → Prop}
theorem zgood {w : Cond} (hw : w ∈ zgt) : w ∈ zgt ∧ ((w.onTables && w.keeps) = true ∨ ∃ ty, w = .arrayClass ty) := ⟨hw, good_of_word (zg_good hw)⟩
theorem zsl_args (g : zG) : ∀ (as : List Value) (k i : Nat) (v : Value), (zsl as)[i]? = some (some v) → (k + i, zt g v) ∈ lv_args k (as.map (zt g))
  | [], k, i, v, hv => by simp [zsl] at hv
  | w :: as, k, i, v, hv => by
    show (k + i, zt g v) ∈ (k, zt g w) :: lv_args (if (zt g w).category = 2 then k + 2 else k + 1) (as.map (zt g))
    have hz : zsl (w :: as) = (if w.category = 2 then [some w, none] else [some w]) ++ zsl as := by simp [zsl]
    rw [hz] at hv
    rw [zt_cat]
    by_cases hc : w.category = 2
    · rw [if_pos hc] at hv ⊢
      match i, hv with
      | 0, hv =>
        simp at hv
        rw [hv]
        exact List.mem_cons_self
      | 1, hv => simp at hv
      | i + 2, hv =>
        have hv' : (zsl as)[i]? = some (some v) := by simpa using hv
        have := zsl_args g as (k + 2) i v hv'
        rw [show k + (i + 2) = k + 2 + i by omega]
        exact List.mem_cons_of_mem _ this
    · rw [if_neg hc] at hv ⊢
      match i, hv with
      | 0, hv =>
        simp at hv
        rw [hv]
        exact List.mem_cons_self
      | i + 1, hv =>
        have hv' : (zsl as)[i]? = some (some v) := by simpa using hv
        have := zsl_args g as (k + 1) i v hv'
        rw [show k + (i + 1) = k + 1 + i by omega]
        exact List.mem_cons_of_mem _ this
theorem zsl_len (g : zG) : ∀ (as : List Value), (lg_sl (as.map (zt g))).length = (zsl as).length
  | [] => rfl
  | w :: as => by
    have ih := zsl_len g as
    have e1 : zsl (w :: as) = (if w.category = 2 then [some w, none] else [some w]) ++ zsl as := by simp [zsl]
    have e2 : lg_sl ((w :: as).map (zt g)) = (if (zt g w).category = 2 then [Slot.val (zt g w), .second] else [Slot.val (zt g w)]) ++ lg_sl (as.map (zt g)) := by simp [lg_sl]
    rw [e1, e2, zt_cat, List.length_append, List.length_append, ih]
    by_cases hc : w.category = 2
    · rw [if_pos hc, if_pos hc]; rfl
    · rw [if_neg hc, if_neg hc]; rfl
theorem zent_has (g : zG) {as : List Value} {n : Nat} (hn : (zsl as).length ≤ n) : zHas g ((lg_sl (as.map (zt g)) ++ List.replicate (n - (lg_sl (as.map (zt g))).length) Slot.unset).toArray) n (zent n as) := by
  have hl := lv_entry (as.map (zt g)) (n := n) (by rw [zsl_len]; exact hn)
  refine zHas.of hl.1 hl.2.1 fun i v hv => ?_
  have hi : (zsl as)[i]? = some (some v) := by
    unfold zent at hv
    by_cases hlt : i < (zsl as).length
    · rw [List.getElem?_append_left hlt] at hv
      exact hv
    · rw [List.getElem?_append_right (by omega)] at hv
      rw [List.getElem?_replicate] at hv
      split at hv <;> cases hv
  have := zsl_args g as 0 i v hi
  rw [Nat.zero_add] at this
  exact hl.2.2 _ this
def zPc (g : zG) (as : List Value) (h : zH) : Array Value → State → Prop := fun v U => v = (as.map (zt g)).toArray ∧ zRel g h U.heap ∧ zS g U
theorem zPc_blind : FrameBlind (zPc g as h) := by
  intro v U g9 mk q
  obtain ⟨q1, q2, q3⟩ := q
  exact ⟨q1, q2, zS.warm (s := U) (U := U.calling g9 mk v) (State.WarmedH.refl U) q3⟩
theorem zPc_at {s U : State} {H : Heap} (hR : zRel g h H) (hS : zS g s) (hU : U.heap = H) (hW : s.WarmedH U.vm) : zPc g as h (as.map (zt g)).toArray U := ⟨rfl, by rw [hU]; exact hR, hS.warm hW⟩
def zrm (J : zI) (mc ms : Nat) : Room := { frames := zFr J, cells := mc, slots := ms, locals := zLo J }
/-- the body of J in its machine -/
theorem zm_body {ws : List Cond} (hall : ∀ a, a < zN → zOK (zP a)) (hok : zOK J) (hsl : (zsl as).length ≤ zMx J) (hws : ∀ w ∈ zgt, w ∈ ws) (k : Zm g J as h mc ms Q)
    {p : Program} {e : Env} {s : State} {m : MethodId} {args : Array Value} {below : List Frame} {meth : Method} {c : Code} {s₁ : State} (B : BodyLoose p (zgl g) (zNm J) (headSpec ws (zrm J mc ms)) (zBy J) (zMx J) (zRt J) e s m args below meth c s₁) (hml : c.maxLocals = zMx J) (ht : c.exceptionTable.toList = tableOf (zEx J)) (hP : zPc g as h args s) :
    W p (zgl g) e (headSpec ws (zrm J mc ms)).room s m args below meth c s.heap [] 0 0 (vx_MQ below (zQc g Q) (zXc g Q) args s mc ms (fun q => zg1 g < q)) (entryFrame m args (zMx J)) := by
  obtain ⟨rfl, hR, hS⟩ := hP
  have hts := atoms_spec (ws := ws) B.pre
  have hC : zC g J p (headSpec ws (zrm J mc ms)).room s m (as.map (zt g)).toArray meth c :=
    ⟨B.exec, B.bytes, hml, B.returns, B.notSynchronized, ht, findClass_of_methodNamed B.named, (name_of_methodNamed B.named B.method).1, fun w hw => hts w (hws w hw), hS, hok, hall, Nat.le_refl _, Nat.le_refl _⟩
  rw [lg_entry_eq]
  exact k p e _ s m _ below meth c s.heap [] 0 0 mc ms _ hC hR (zent_has g hsl) (fun z hz => nomatch hz) (by omega) (by omega) (Nat.le_refl _) (Nat.le_refl _)
def zws1 (J : zI) : List Cond := Cond.code (zNm J) (zBy J) (zMx J) (zRt J) :: zgt
def zws2 (J : zI) : List Cond := Cond.codeWith (zNm J) (zBy J) (zMx J) (zRt J) (zEx J) :: zgt
theorem Zm.met (hall : ∀ a, a < zN → zOK (zP a)) (hok : zOK J) (hsl : (zsl as).length ≤ zMx J) (hex : zEx J = []) (hpn : plainName (zNm J).cls = true) (k : Zm g J as h mc ms Q) :
    vx_Met (zgl g) (zNm J) (zws1 J) (zrm J mc ms) (zPc g as h) (zQc g Q) (zXc g Q) mc ms (fun q => zg1 g < q) := by
  refine vx_ofW (cc := zBy J) (maxL := zMx J) (ret := zRt J) hpn rfl ?_
  intro p e s m args below meth c s₁ B hml ht hP
  refine zm_body hall hok hsl (fun w hw => List.mem_cons_of_mem _ hw) k B hml ?_ hP
  rw [hex]
  cases hx : c.exceptionTable.toList with
  | nil => rfl
  | cons x r => exact absurd (ht x (by rw [hx]; exact List.mem_cons_self)) id
theorem Zm.met0 (hall : ∀ a, a < zN → zOK (zP a)) (hok : zOK J) (hsl : (zsl as).length ≤ zMx J) (hex : zEx J = []) (hpn : plainName (zNm J).cls = true) (hno : ∀ E h', ¬ Q (.inr E) h') (k : Zm g J as h mc ms Q) :
    Met (zgl g) (zNm J) (zws1 J) (zrm J mc ms) (zPc g as h) (zQc g Q) mc ms (fun q => zg1 g < q) := by
  refine Met.ofW (cc := zBy J) (maxL := zMx J) (ret := zRt J) hpn rfl ?_
  intro p e s m args below meth c s₁ B hml hP
  have ht : c.exceptionTable.toList = tableOf (zEx J) := by
    obtain ⟨meth9, c9, h1, h2, -, -, -, -, h7, -⟩ := Cond.code_spec B.named (atoms_spec (ws := zws1 J) B.pre _ List.mem_cons_self)
    cases Option.some.inj (h1.symm.trans B.method)
    cases Option.some.inj (h2.symm.trans (Stand.of_body B).code)
    rw [hex, Array.isEmpty_iff.mp h7]
    rfl
  have K := zm_body hall hok hsl (fun w hw => List.mem_cons_of_mem _ hw) k B hml ht hP
  intro T hT X
  obtain ⟨t, b1, o, b2, b3, b4⟩ := K T hT X
  rcases b4 with b4 | ⟨q, -, E, ce, LL, ⟨k9, h', c1, -⟩, -⟩
  · exact ⟨t, b1, o, b2, b3, b4⟩
  · exact absurd c1 (hno _ _)
theorem Zm.met2 (hall : ∀ a, a < zN → zOK (zP a)) (hok : zOK J) (hsl : (zsl as).length ≤ zMx J) (hpn : plainName (zNm J).cls = true) (k : Zm g J as h mc ms Q) :
    vx_Met (zgl g) (zNm J) (zws2 J) (zrm J mc ms) (zPc g as h) (zQc g Q) (zXc g Q) mc ms (fun q => zg1 g < q) := by
  refine vx_ofWH (cc := zBy J) (maxL := zMx J) (ret := zRt J) (hh := zEx J) hpn rfl ?_
  intro p e s m args below meth c s₁ B hml hP
  exact zm_body hall hok hsl (fun w hw => List.mem_cons_of_mem _ hw) k B hml (vx_table (x := zNm J) B (atoms_spec (ws := zws2 J) B.pre _ List.mem_cons_self)) hP
theorem zback (g : zG) (v : Option Value) (rest : List Value) : (v.map (zt g)).toList ++ rest.map (zt g) = (v.toList ++ rest).map (zt g) := by cases v <;> rfl
theorem zrev (g : zG) (as rest : List Value) : (as.reverse ++ rest).map (zt g) = (as.map (zt g)).reverse ++ rest.map (zt g) := by simp
theorem zroom (g : zG) {m : MethodId} {pc : Nat} {ls : Array Slot} {s9 : List Value} (hr : (rest.map fun v => v.category).sum ≤ 8) : 2 * (F0 m pc ls s9).monitorRoom + (((rest.map (zt g)).map fun v => v.category)).sum ≤ 8 := by
  rw [zcat]
  show 2 * 0 + _ ≤ 8
  omega
/-- behind a call that may throw: on with the answer, or out with the exception -/
theorem zgo {p : Program} {e : Env} {R : Room} {s : State} {m : MethodId} {args : Array Value} {below : List Frame} {meth : Method} {c : Code} {H : Heap} {locs : List Loc} {cells slots cT sT : Nat} {ls : Array Slot} {s9 : List Value} {aa : Array Value}
    (hC : zC g I p R s m args meth c) (hL : zHas g ls (zMx I) L) (hl : ∀ z ∈ locs, zg1 g < z.base) (a1 : cells + (mc1 + mc2) ≤ cT) (a2 : slots + (ms1 + ms2) ≤ sT) (a3 : cT ≤ R.cells) (a4 : sT ≤ R.slots) (hexI : zEx I = [])
    (hrun : vx_Run p (zgl g) e R s m args below meth c H locs cells slots mc1 ms1 (F0 m pc ls s9) (rest.map (zt g)) (zQc g Q1 aa) (zXc g Q1) (fun q => zg1 g < q))
    (h2 : ∀ v h', Q1 (.inl v) h' → Zn g I (pc + 3) L (v.toList ++ rest) h' mc2 ms2 Q) (h3 : ∀ E h', Q1 (.inr E) h' → Q (.inr E) h') :
    W p (zgl g) e R s m args below meth c H locs cells slots (vx_MQ below (zQc g Q) (zXc g Q) args s cT sT (fun q => zg1 g < q)) (F0 m pc ls s9) := by
  intro T hT X
  rcases hrun T hT X with ⟨v, st₀, t, T', Lc, h0, X', hL', e1, e2, ⟨v0, h', hq, hv, hr'⟩, stp⟩ | ⟨q, st₀, t, T', Lc, E, ce, h0, X', hL', e1, e2, ⟨k9, h', hq, hk3, hE, hr'⟩, hce, hcv, hcl, stp⟩
  · obtain rfl : v = v0.map (zt g) := by cases hv; rfl
    obtain ⟨t2, b1, b2⟩ := h2 v0 h' hq p e R s m args below meth c T'.heap (locs ++ Lc) (cells + mc1) (slots + ms1) cT sT ls hC (by rw [e1]; exact hr') hL (fun z hz => (List.mem_append.mp hz).elim (hl z) (hL' z)) (by omega) (by omega) a3 a4 T' rfl X'
    refine ⟨t2, stp t2 ?_, b2⟩
    rw [zback]
    exact b1
  · have hW := vx_out (p := p) (l := zgl g) (e := e) (R := R) (s := s) (m := m) (args := args) (below := below) (meth := meth) (c := c) (H := T'.heap) (locs := locs ++ Lc) (cells := cells + mc1) (slots := slots + ms1) (ls := ls) (rest := rest.map (zt g)) (Qc := zQc g Q) (XC := zXc g Q) (free := fun q => zg1 g < q) (mc := cT) (ms := sT) (pc := pc) (E := E) (ce := ce) (q := q)
      (by rw [hC.2.2.2.2.2.1, hexI]; intro x hx; exact nomatch hx) hC.2.2.2.2.1 (by rw [e1]; exact hce) hcv hcl (fun t9 ht9 _ => ⟨k9, h', h3 _ _ hq, hk3, hE, by rw [ht9, e1]; exact hr'⟩) (fun z hz => (List.mem_append.mp hz).elim (hl z) (hL' z)) (by omega) (by omega)
    obtain ⟨t2, b1, b2⟩ := hW T' rfl X'
    exact ⟨t2, stp.trans b1, b2⟩
theorem zgo0 {p : Program} {e : Env} {R : Room} {s : State} {m : MethodId} {args : Array Value} {below : List Frame} {meth : Method} {c : Code} {H : Heap} {locs : List Loc} {cells slots cT sT : Nat} {ls : Array Slot} {s9 : List Value} {aa : Array Value}
    (hC : zC g I p R s m args meth c) (hL : zHas g ls (zMx I) L) (hl : ∀ z ∈ locs, zg1 g < z.base) (a1 : cells + (mc1 + mc2) ≤ cT) (a2 : slots + (ms1 + ms2) ≤ sT) (a3 : cT ≤ R.cells) (a4 : sT ≤ R.slots)
    (hrun : va_Run p (zgl g) e R s m args below meth c H locs cells slots mc1 ms1 (F0 m pc ls s9) (rest.map (zt g)) (zQc g Q1 aa) (fun q => zg1 g < q))
    (h2 : ∀ v h', Q1 (.inl v) h' → Zn g I (pc + 3) L (v.toList ++ rest) h' mc2 ms2 Q) :
    W p (zgl g) e R s m args below meth c H locs cells slots (vx_MQ below (zQc g Q) (zXc g Q) args s cT sT (fun q => zg1 g < q)) (F0 m pc ls s9) := by
  intro T hT X
  obtain ⟨v, st₀, t, T', Lc, h0, X', hL', e1, e2, ⟨v0, h', hq, hv, hr'⟩, stp⟩ := hrun T hT X
  obtain rfl : v = v0.map (zt g) := by cases hv; rfl
  obtain ⟨t2, b1, b2⟩ := h2 v0 h' hq p e R s m args below meth c T'.heap (locs ++ Lc) (cells + mc1) (slots + ms1) cT sT ls hC (by rw [e1]; exact hr') hL (fun z hz => (List.mem_append.mp hz).elim (hl z) (hL' z)) (by omega) (by omega) a3 a4 T' rfl X'
  refine ⟨t2, stp t2 ?_, b2⟩
  rw [zback]
  exact b1
theorem zrecv {s : State} {H : Heap} {o ci : Nat} {fs : List Value} {C : String} (hR : zRel g h H) (hS : zS g s) (ho : h.1 o = some (.inr (ci, fs))) (hcl : (vwCl[ci]?).map (fun q => q.1) = some C) : ∃ cell : Cell, H[zad g o]? = some cell ∧ cell.vm.isStatics = false ∧ s.vm.findClass C = some cell.cls := by
  cases hc : vwCl[ci]? with
  | none => rw [hc] at hcl; cases hcl
  | some q =>
    rw [hc] at hcl
    obtain rfl : q.1 = C := by simpa using hcl
    exact va_recv hS.2.2.1 (hR.P ho (hR.posO ho)) hc (q0 := 0) rfl
theorem zn_callV {idx o ci : Nat} {fs : List Value} (hf : zF I pc = some (.invokevirtual idx, 3, a, b)) (hJ : zP a = J) (hst : st = as.reverse ++ .ref o :: rest) (hb : as.length = b) (ho : h.1 o = some (.inr (ci, fs))) (hcl : (vwCl[ci]?).map (fun q => q.1) = some (zNm J).cls) (hexI : zEx I = []) (hexJ : zEx J = [])
    (hfr : zFr J + 1 ≤ zFr I) (hlo : 8 + (zMx J + 11) + zLo J ≤ zLo I) (hsl : (zsl (.ref o :: as)).length ≤ zMx J) (hre : (rest.map fun v => v.category).sum ≤ 8)
    (h1 : Zm g J (.ref o :: as) h mc1 ms1 Q1) (h2 : ∀ v h', Q1 (.inl v) h' → Zn g I (pc + 3) L (v.toList ++ rest) h' mc2 ms2 Q) (h3 : ∀ E h', Q1 (.inr E) h' → Q (.inr E) h') : Zn g I pc L st h (mc1 + mc2) (ms1 + ms2) Q := by
  intro p e R s m args below meth c H locs cells slots cT sT ls hC hR hL hl a1 a2 a3 a4
  obtain ⟨haN, hJ0, hml, him, hsel⟩ : a < zN ∧ zCv (zNm I).cls idx (zP a) b := hC.lk hf
  have hokJ := hC.2.2.2.2.2.2.2.2.2.2.2.1 a haN
  subst hJ
  obtain ⟨j1, j2, j3, j4, j5, j6, -⟩ := hJ0
  have hcode := j6 hexJ
  subst hst
  rw [zrev, List.map_cons]
  refine zgo (Q1 := Q1) hC hL hl a1 a2 a3 a4 hexI (vx_runV (As := as.map (zt g)) (rest := rest.map (zt g)) (n := b) (Ts := zgt) ⟨hC.1, hC.2.1, hC.2.2.1, hC.own, hC.hts⟩ (Zm.met (mc := mc1) (ms := ms1) hC.2.2.2.2.2.2.2.2.2.2.2.1 hokJ hsl hexJ j1 h1)
    (cwV b hC.hts (fun w hw => zgood (by
      rcases List.mem_append.mp hw with hw | hw
      · simp only [List.mem_cons, List.not_mem_nil, or_false] at hw
        rcases hw with rfl | rfl | rfl | rfl
        · exact hml
        · exact him
        · exact hsel
        · exact j5
      · rcases List.mem_cons.mp hw with rfl | hw
        · exact hcode
        · exact hw)) rfl rfl rfl ⟨rfl, j2, j3, j4⟩ ⟨Nat.le_trans hfr hC.2.2.2.2.2.2.2.2.2.2.2.2.1, Nat.le_trans hlo hC.2.2.2.2.2.2.2.2.2.2.2.2.2⟩)
    ⟨zPc_blind, zrecv hR hC.zS ho hcl, fun U hU hW => zPc_at (as := .ref o :: as) hR hC.zS hU hW⟩ rfl (by rw [List.length_map]; exact hb) hL.1 rfl (zroom g hre) (hC.dec hf) ⟨by omega, by omega⟩) h2 h3
theorem zgoodW {J : zI} (hcode : Cond.code (zNm J) (zBy J) (zMx J) (zRt J) ∈ zgt) : GoodIn zgt (zws1 J) := fun w hw => zgood (by
  rcases List.mem_cons.mp hw with rfl | hw
  · exact hcode
  · exact hw)
/-- a static method that doesn't throw -/
theorem zn_callS {idx : Nat} (hf : zF I pc = some (.invokestatic idx, 3, a, b)) (ha : a < 5000) (hJ : zP a = J) (hst : st = as.reverse ++ rest) (hb : as.length = b) (hexJ : zEx J = [])
    (hfr : zFr J + 1 ≤ zFr I) (hlo : 8 + (zMx J + 11) + zLo J ≤ zLo I) (hsl : (zsl as).length ≤ zMx J) (hre : (rest.map fun v => v.category).sum ≤ 8) (hno : ∀ E h', ¬ Q1 (.inr E) h')
    (h1 : Zm g J as h mc1 ms1 Q1) (h2 : ∀ v h', Q1 (.inl v) h' → Zn g I (pc + 3) L (v.toList ++ rest) h' mc2 ms2 Q) : Zn g I pc L st h (mc1 + mc2) (ms1 + ms2) Q := by
  intro p e R s m args below meth c H locs cells slots cT sT ls hC hR hL hl a1 a2 a3 a4
  have hlk := hC.lk hf
  simp only [zLk, if_neg (show ¬ a = 5000 by omega), if_neg (show ¬ a = 5002 by omega), if_neg (show ¬ a = 5003 by omega)] at hlk
  obtain ⟨haN, hJ0, hstat, hml⟩ := hlk
  have hokJ := hC.2.2.2.2.2.2.2.2.2.2.2.1 a haN
  subst hJ
  obtain ⟨j1, j2, j3, j4, j5, j6, -⟩ := hJ0
  have hcode := j6 hexJ
  subst hst
  rw [zrev]
  have hM := Zm.met0 (mc := mc1) (ms := ms1) hC.2.2.2.2.2.2.2.2.2.2.2.1 hokJ hsl hexJ j1 hno h1
  rcases hml with hml | ⟨-, host, hml⟩
  · exact zgo0 (Q1 := Q1) hC hL hl a1 a2 a3 a4 (va_runS (As := as.map (zt g)) (rest := rest.map (zt g)) (n := b) (Ts := zgt) ⟨hC.1, hC.2.1, hC.2.2.1, hC.own, hC.hts⟩ hM
      ⟨callB_of b hC.hts (zgoodW hcode) rfl rfl rfl (hC.hts _ j5) (hC.hts _ hml) ⟨j2, j3, j4⟩ ⟨Nat.le_trans hfr hC.2.2.2.2.2.2.2.2.2.2.2.2.1, Nat.le_trans hlo hC.2.2.2.2.2.2.2.2.2.2.2.2.2⟩, hC.hts _ hstat⟩
      ⟨zPc_blind, fun U hU hW => zPc_at (as := as) hR hC.zS hU hW⟩ rfl (by rw [List.length_map]; exact hb) hL.1 rfl (zroom g hre) (hC.dec hf) ⟨by omega, by omega⟩) h2
  · exact zgo0 (Q1 := Q1) hC hL hl a1 a2 a3 a4 (va_runSN (As := as.map (zt g)) (rest := rest.map (zt g)) (n := b) (Ts := zgt) ⟨hC.1, hC.2.1, hC.2.2.1, hC.own, hC.hts⟩ hM
      ⟨va_cnB b hC.hts (zgoodW hcode) rfl rfl rfl (hC.zS.2.2.2.2.1 _ hml rfl) (hC.hts _ j5) ⟨j2, j3, j4⟩ ⟨Nat.le_trans hfr hC.2.2.2.2.2.2.2.2.2.2.2.2.1, Nat.le_trans hlo hC.2.2.2.2.2.2.2.2.2.2.2.2.2⟩, hC.hts _ hstat, trivial⟩
      ⟨zPc_blind, fun U hU hW => zPc_at (as := as) hR hC.zS hU hW⟩ rfl (by rw [List.length_map]; exact hb) hL.1 rfl (zroom g hre) (hC.dec hf) ⟨by omega, by omega⟩) h2
/-- a constructor -/
theorem zn_callI {idx o : Nat} (hf : zF I pc = some (.invokespecial idx, 3, a, b)) (ha : a ≠ 5001) (hJ : zP a = J) (hst : st = as.reverse ++ .ref o :: rest) (hb : as.length = b)
    (hfr : zFr J + 1 ≤ zFr I) (hlo : 8 + (zMx J + 11) + zLo J ≤ zLo I) (hsl : (zsl (.ref o :: as)).length ≤ zMx J) (hre : (rest.map fun v => v.category).sum ≤ 8) (hno : ∀ E h', ¬ Q1 (.inr E) h')
    (h1 : Zm g J (.ref o :: as) h mc1 ms1 Q1) (h2 : ∀ v h', Q1 (.inl v) h' → Zn g I (pc + 3) L (v.toList ++ rest) h' mc2 ms2 Q) : Zn g I pc L st h (mc1 + mc2) (ms1 + ms2) Q := by
  intro p e R s m args below meth c H locs cells slots cT sT ls hC hR hL hl a1 a2 a3 a4
  have hlk := hC.lk hf
  simp only [zLk, if_neg ha] at hlk
  obtain ⟨haN, hJ0, hexJ, hrt, hnm, him, hml⟩ := hlk
  have hokJ := hC.2.2.2.2.2.2.2.2.2.2.2.1 a haN
  subst hJ
  obtain ⟨j1, j2, j3, j4, j5, j6, -⟩ := hJ0
  have hcode := j6 hexJ
  subst hst
  rw [zrev, List.map_cons]
  have hM := Zm.met0 (mc := mc1) (ms := ms1) hC.2.2.2.2.2.2.2.2.2.2.2.1 hokJ hsl hexJ j1 hno h1
  have hwsn : zws1 (zP a) = Cond.code (zNm (zP a)) (zBy (zP a)) (zMx (zP a)) none :: zgt := by unfold zws1; rw [hrt]
  rcases hml with hml | ⟨host, hml⟩
  · exact zgo0 (Q1 := Q1) hC hL hl a1 a2 a3 a4 (va_runI (As := as.map (zt g)) (rest := rest.map (zt g)) (n := b) (Ts := zgt) ⟨hC.1, hC.2.1, hC.2.2.1, hC.own, hC.hts⟩ hM
      ⟨callB_of b hC.hts (zgoodW hcode) hwsn rfl rfl (hC.hts _ j5) (hC.hts _ hml) ⟨j2, j3, j4⟩ ⟨Nat.le_trans hfr hC.2.2.2.2.2.2.2.2.2.2.2.2.1, Nat.le_trans hlo hC.2.2.2.2.2.2.2.2.2.2.2.2.2⟩, hnm, hC.hts _ him⟩
      ⟨zPc_blind, fun U hU hW => zPc_at (as := .ref o :: as) hR hC.zS hU hW⟩ rfl (by rw [List.length_map]; exact hb) hL.1 rfl (zroom g hre) (hC.dec hf) ⟨by omega, by omega⟩) h2
  · exact zgo0 (Q1 := Q1) hC hL hl a1 a2 a3 a4 (va_runIN (As := as.map (zt g)) (rest := rest.map (zt g)) (n := b) (Ts := zgt) ⟨hC.1, hC.2.1, hC.2.2.1, hC.own, hC.hts⟩ hM
      ⟨va_cnB b hC.hts (zgoodW hcode) hwsn rfl rfl (hC.zS.2.2.2.2.1 _ hml rfl) (hC.hts _ j5) ⟨j2, j3, j4⟩ ⟨Nat.le_trans hfr hC.2.2.2.2.2.2.2.2.2.2.2.2.1, Nat.le_trans hlo hC.2.2.2.2.2.2.2.2.2.2.2.2.2⟩, hnm, hC.hts _ him⟩
      ⟨zPc_blind, fun U hU hW => zPc_at (as := .ref o :: as) hR hC.zS hU hW⟩ rfl (by rw [List.length_map]; exact hb) hL.1 rfl (zroom g hre) (hC.dec hf) ⟨by omega, by omega⟩) h2
/-- a static method with handlers of its own (the law's callers of the class) -/
theorem zn_callSX {idx : Nat} (hf : zF I pc = some (.invokestatic idx, 3, a, b)) (ha : a < 5000) (hJ : zP a = J) (hst : st = as.reverse ++ rest) (hb : as.length = b) (hexI : zEx I = []) (hexJ : zEx J ≠ [])
    (hfr : zFr J + 1 ≤ zFr I) (hlo : 8 + (zMx J + 11) + zLo J ≤ zLo I) (hsl : (zsl as).length ≤ zMx J) (hre : (rest.map fun v => v.category).sum ≤ 8)
    (h1 : Zm g J as h mc1 ms1 Q1) (h2 : ∀ v h', Q1 (.inl v) h' → Zn g I (pc + 3) L (v.toList ++ rest) h' mc2 ms2 Q) (h3 : ∀ E h', Q1 (.inr E) h' → Q (.inr E) h') : Zn g I pc L st h (mc1 + mc2) (ms1 + ms2) Q := by
  intro p e R s m args below meth c H locs cells slots cT sT ls hC hR hL hl a1 a2 a3 a4
  have hlk := hC.lk hf
  simp only [zLk, if_neg (show ¬ a = 5000 by omega), if_neg (show ¬ a = 5002 by omega), if_neg (show ¬ a = 5003 by omega)] at hlk
  obtain ⟨haN, hJ0, hstat, hml⟩ := hlk
  have hokJ := hC.2.2.2.2.2.2.2.2.2.2.2.1 a haN
  subst hJ
  obtain ⟨j1, j2, j3, j4, j5, -, j6⟩ := hJ0
  have hcode := j6 hexJ
  subst hst
  rw [zrev]
  rcases hml with hml | ⟨hx9, -⟩
  · refine zgo (Q1 := Q1) hC hL hl a1 a2 a3 a4 hexI (vx_runSX (As := as.map (zt g)) (rest := rest.map (zt g)) (n := b) (Ts := zgt) (hh := zEx (zP a)) ⟨hC.1, hC.2.1, hC.2.2.1, hC.own, hC.hts⟩ (Zm.met2 (mc := mc1) (ms := ms1) hC.2.2.2.2.2.2.2.2.2.2.2.1 hokJ hsl j1 h1)
      ⟨⟨rfl, rfl, Nat.le_trans hfr hC.2.2.2.2.2.2.2.2.2.2.2.2.1, Nat.le_trans hlo hC.2.2.2.2.2.2.2.2.2.2.2.2.2, pay_in hC.hts (fun w hw => zgood (by
        rcases List.mem_cons.mp hw with rfl | hw
        · exact hcode
        · exact hw)), List.mem_cons_self⟩, hC.hts _ hcode, hC.hts _ j5, ⟨j2, j3⟩, fun sig hs => ?_, hC.hts _ hml, hC.hts _ hstat⟩
      ⟨zPc_blind, fun U hU hW => zPc_at (as := as) hR hC.zS hU hW⟩ rfl (by rw [List.length_map]; exact hb) hL.1 rfl (zroom g hre) (hC.dec hf) ⟨by omega, by omega⟩) h2 h3
    rw [hs] at j4
    exact (Option.some.inj j4).symm
  · exact absurd hx9 hexJ
theorem zg_obj : Cond.instanceMethod objectInit ∈ zgt ∧ Cond.code objectInit ⟨#[0xb1]⟩ 1 none ∈ zgt := ⟨zg_in 130 rfl rfl, zg_in 131 rfl rfl⟩
theorem zn_obj {idx o : Nat} (hf : zF I pc = some (.invokespecial idx, 3, 5001, b)) (hfr : 1 ≤ zFr I) (hlo : (st.map fun v => v.category).sum + 12 ≤ zLo I) (K : Zn g I (pc + 3) L st h mc ms Q) : Zn g I pc L (.ref o :: st) h mc ms Q := by
  intro p e R s m args below meth c H locs cells slots cT sT ls hC hR hL hl a1 a2 a3 a4
  have hlk : Cond.methodLink (zNm I).cls idx objectInit ∈ zgt := hC.lk hf
  refine W.objInit hC.1 hC.2.1 hC.own (hC.hts _ hlk) (hC.hts _ zg_obj.1) (hC.hts _ zg_obj.2) rfl (by rw [hC.2.2.1]; exact hL.1) rfl (hC.dec hf) (Nat.le_trans hfr hC.2.2.2.2.2.2.2.2.2.2.2.2.1) ?_ (K p e R s m args below meth c H locs cells slots cT sT ls hC hR hL hl a1 a2 a3 a4)
  have := hC.2.2.2.2.2.2.2.2.2.2.2.2.2
  show 2 * 0 + (((st.map (zt g)).map fun v => v.category)).sum + 12 ≤ R.locals
  rw [zcat]
  omega
end zCall
end
section
/-! throwing, catching, copying: zx_throwS, zx_throwSW are the kit's vx_throwS, vx_throwSW (EXCEPTIONS) with one fact more: one cell is made; zn_copy follows va_copyi -/
section zThrow
variable {p : Program} {l : Launch} {e : Env} {R : Room} {s : State} {m : MethodId} {args : Array Value} {below : List Frame} {meth : Method} {c : Code} {H : Heap} {locs : List Loc} {cells slots : Nat} {Q : State → Prop}
variable {free : Addr → Prop} {ls : Array Slot} {rest : List Value}
variable {Qc : Array Value → State → Outcome → State → Prop} {XC : String → State → State → Prop}
theorem zx_throwS {cc : ByteArray} {pc : Nat} (hexec : p.tables.exec = Jvm.exec) (hb : c.code = cc) (hl : l.stackTraces = false) {own cls text : String} {names : List String} {ik is ic mc ms sa : Nat} {A : Nat → Prop}
    (hown : s.vm.findClass own = some m.cls) (hcls : Bundle.fit cls = true) (hnames : ∀ n ∈ names, Bundle.fit n = true)
    (hk : (Cond.classLink own ik cls).before args s = true) (hini : (Cond.initialized cls).before args s = true) (hstr : vk_R own is text sa s) (hat : ∀ w ∈ vx_atS own ic cls names, w.before args s = true)
    (hgood : ∀ w ∈ Cond.classLink own ik cls :: Cond.initialized cls :: vx_atS own ic cls names, vx_ot w = true)
    (hU : vx_Zq Bundle.tN "UNASSIGNED_STACK" Bundle.steD A s H) (hN : vx_Zq Bundle.tN "SUPPRESSED_SENTINEL" Bundle.listD A s H) (hsize : ls.size = c.maxLocals)
    (d0 : decode cc pc = .ok (.new ik, 3)) (d3 : decode cc (pc + 3) = .ok (.dup, 1)) (d4 : decode cc (pc + 4) = .ok (.ldc is, 2)) (d6 : decode cc (pc + 6) = .ok (.invokespecial ic, 3)) (d9 : decode cc (pc + 9) = .ok (.athrow, 1))
    (hout : ∀ x ∈ c.exceptionTable.toList, covers x (pc + 9) = false)
    (hRframes : names.length + 3 < R.frames) (hRlocals : (rest.map fun v => v.category).sum + (13 * (names.length + 1) + 43) ≤ R.locals) (hRcells : cells + 1 ≤ R.cells) (hRslots : slots + 6 ≤ R.slots) (hlocks : meth.locks = false)
    (hx : ∀ t : State, s.vm.Alike t.vm → H.size ≤ t.heap.size → t.heap.size = H.size + 1 → (∀ q : Nat, q < H.size → t.heap[q]? = H[q]?) → XC cls s t)
    (hf : ∀ z ∈ locs, free z.base) (hc : cells + 1 ≤ mc) (hs : slots + 6 ≤ ms) :
    W p l e R s m args below meth c H locs cells slots (vx_MQ below Qc XC args s mc ms free) (F0 m pc ls rest) := by
  intro T hT X
  have htr : e.platform.stackTraces = false := (show e.platform.stackTraces = l.stackTraces by rw [X.admits.platform]).trans hl
  have Y := vx_rebase X (R' := { frames := R.frames, locals := R.locals, cells := 1, slots := 6 }) (Nat.le_refl _) (Nat.le_refl _) hRcells hRslots
  obtain ⟨s', hA⟩ : ∃ z, z = (T.setVm s.vm).setFrames (.invoking m args :: below) := ⟨_, rfl⟩
  rw [← hA] at Y
  have hvm : s'.vm = s.vm := by rw [hA]; rfl
  have hhp : s'.heap = H := by rw [hA]; exact hT
  have hW0 : s.WarmedH s'.vm := by rw [hvm]; exact State.WarmedH.refl s
  have hat' : ∀ w ∈ vx_atS own ic cls names, w.before args s' = true := fun w hw => vx_ot_at hW0 hvm.symm (hgood w (List.mem_cons_of_mem _ (List.mem_cons_of_mem _ hw))) (hat w hw)
  have hk' : (Cond.classLink own ik cls).before args s' = true := vx_ot_at hW0 hvm.symm (hgood _ List.mem_cons_self) hk
  have hini' : (Cond.initialized cls).before args s' = true := vx_ot_at hW0 hvm.symm (hgood _ (List.mem_cons_of_mem _ List.mem_cons_self)) hini
  have hU' : vx_Zq Bundle.tN "UNASSIGNED_STACK" Bundle.steD A s' s'.heap := by rw [hhp]; exact vx_Zq.moved hW0.alike hU
  have hN' : vx_Zq Bundle.tN "SUPPRESSED_SENTINEL" Bundle.listD A s' s'.heap := by rw [hhp]; exact vx_Zq.moved hW0.alike hN
  have h : ∀ w ∈ Bundle.ownAtoms own ic cls names, w.before args s' = true := vx_own hat' (vx_isRefq hU'.1) (vx_isRefq hN'.1) hU'.2.word hN'.2.word
  have hown' : s'.vm.findClass own = some m.cls := by rw [hvm]; exact hown
  have hins : (Cond.instantiable cls 6).before args s' = true := h _ (by simp [Bundle.ownAtoms])
  obtain ⟨vm₁, cX, kX, hfX, hkX, -, -, X₁, st1⟩ := Y.newCold hexec (own := own) (C := cls) (index := ik) (n := 6) hown' hk' hins hini'
    (g := F0 m pc ls rest) rfl (by rw [hb]; exact d0) (Nat.le_refl _) (Nat.le_refl _)
  generalize hT1 : (T.setVm vm₁).pushCell { cls := cX, slots := kX.instanceTypes.map defaultValue, vm := .none } = T1 at X₁ st1
  have hcat : (Value.ref T.heap.size).category = 1 := rfl
  have hcellA : T1.heap[T.heap.size]? = some (freshCell cX kX) := by rw [← hT1]; exact State.heap_pushCell_size _ _
  have d3' : decode c.code (pc + 3) = .ok (.dup, 1) := by rw [hb]; exact d3
  have d4' : decode c.code (pc + 4) = .ok (.ldc is, 2) := by rw [hb]; exact d4
  have hstr' : vk_R own is text sa s' := vk_R.warm hW0 hstr
  obtain ⟨U, hsteps, hrun, hend, hW, hsame, ce, hce, hO⟩ := X₁.ctorThrowS hexec htr (own := own) (cls := cls) (names := names) (ic := ic) hown' hcls hnames h (fun x hx => nomatch hx) hfX hkX hcellA (by rw [hhp, hT]; exact Nat.le_refl _) (msg := .ref sa) rfl
    (g := { method := m, pc := pc + 6, locals := ls, stack := .ref sa :: .ref T.heap.size :: .ref T.heap.size :: rest, locked := none }) rfl hsize rfl rfl (rest := rest) rfl
    (by rw [hb]; exact d6) (by rw [hb]; exact d9) hout hRframes (by simp only [List.map_cons, List.sum_cons, hcat]; omega) hlocks
  obtain ⟨f1, f2⟩ := vx_frame hsame
  rw [hhp] at f1 f2
  have f3 : U.heap.size = H.size + 1 := by
    have w1 : U.heap.size ≤ s'.heap.size + (0 + 1) := hsame.2.2.1
    rw [hhp] at w1
    have w2 : T.heap.size < U.heap.size := (Array.getElem?_eq_some_iff.mp hce).1
    rw [hT] at w2
    omega
  have hWs : s.WarmedH U.vm := State.WarmedH.trans hW0 hW
  have hcl : s.vm.findClass cls = some ce.cls := by
    have h9 := hO.cls
    rw [hvm] at h9
    exact h9
  have hall : s.sameButNew ({ U with vm := s.vm } : State) locs mc ms := by
    subst hA
    obtain ⟨e1, e2⟩ := hsame
    rw [State.setFrames_setFrames] at e1
    have h2 : (T.setVm s.vm).sameButNew ({ U with vm := s.vm } : State) [] (0 + 1) (0 + 6) := ⟨e1, e2⟩
    have h3 := X.same.trans h2
    rw [List.append_nil] at h3
    exact h3.mono hc hs
  refine ⟨U, ?_, .threw T.heap.size, hrun, hend, Or.inr ⟨T.heap.size, rfl, cls, ce, locs, hx U hWs.alike f1 f3 (fun q hq => f2 q hq (fun z hz => nomatch hz)), hce, hO.vm, hcl, hWs, hall, hf⟩⟩
  refine st1 _ ?_
  show Steps p.tables e below (T1.setTop { method := m, pc := pc + 3, locals := ls, stack := .ref T.heap.size :: rest, locked := none }) _
  jvm_step X₁.here [X₁.here.top, hexec, d3', Value.category]
  exact X₁.ldcString hexec (own := own) (text := text) (index := is) (a := sa) hown' hstr'.1 hstr'.2
    (g := { method := m, pc := pc + 4, locals := ls, stack := .ref T.heap.size :: .ref T.heap.size :: rest, locked := none }) rfl d4' _ hsteps
theorem zx_throwSW {cc : ByteArray} {pc : Nat} (hexec : p.tables.exec = Jvm.exec) (hb : c.code = cc) (hl : l.stackTraces = false) {own cls text : String} {names : List String} {ik is ic mc ms sa : Nat} {A : Nat → Prop}
    (hown : s.vm.findClass own = some m.cls) (hcls : Bundle.fit cls = true) (hnames : ∀ n ∈ names, Bundle.fit n = true)
    (hk : (Cond.classLink own ik cls).before args s = true) (hini : (Cond.initialized cls).before args s = true) (hstr : vk_R own is text sa s) (hat : ∀ w ∈ vx_atS own ic cls names, w.before args s = true)
    (hgood : ∀ w ∈ Cond.classLink own ik cls :: Cond.initialized cls :: vx_atS own ic cls names, vx_ot w = true)
    (hU : vx_Zq Bundle.tN "UNASSIGNED_STACK" Bundle.steD A s H) (hN : vx_Zq Bundle.tN "SUPPRESSED_SENTINEL" Bundle.listD A s H) (hsize : ls.size = c.maxLocals)
    (d0 : decode cc pc = .ok (.new ik, 3)) (d3 : decode cc (pc + 3) = .ok (.dup, 1)) (d4 : decode cc (pc + 4) = .ok (.ldc_w is, 3)) (d7 : decode cc (pc + 7) = .ok (.invokespecial ic, 3)) (d10 : decode cc (pc + 10) = .ok (.athrow, 1))
    (hout : ∀ x ∈ c.exceptionTable.toList, covers x (pc + 10) = false)
    (hRframes : names.length + 3 < R.frames) (hRlocals : (rest.map fun v => v.category).sum + (13 * (names.length + 1) + 43) ≤ R.locals) (hRcells : cells + 1 ≤ R.cells) (hRslots : slots + 6 ≤ R.slots) (hlocks : meth.locks = false)
    (hx : ∀ t : State, s.vm.Alike t.vm → H.size ≤ t.heap.size → t.heap.size = H.size + 1 → (∀ q : Nat, q < H.size → t.heap[q]? = H[q]?) → XC cls s t)
    (hf : ∀ z ∈ locs, free z.base) (hc : cells + 1 ≤ mc) (hs : slots + 6 ≤ ms) :
    W p l e R s m args below meth c H locs cells slots (vx_MQ below Qc XC args s mc ms free) (F0 m pc ls rest) := by
  intro T hT X
  have htr : e.platform.stackTraces = false := (show e.platform.stackTraces = l.stackTraces by rw [X.admits.platform]).trans hl
  have Y := vx_rebase X (R' := { frames := R.frames, locals := R.locals, cells := 1, slots := 6 }) (Nat.le_refl _) (Nat.le_refl _) hRcells hRslots
  obtain ⟨s', hA⟩ : ∃ z, z = (T.setVm s.vm).setFrames (.invoking m args :: below) := ⟨_, rfl⟩
  rw [← hA] at Y
  have hvm : s'.vm = s.vm := by rw [hA]; rfl
  have hhp : s'.heap = H := by rw [hA]; exact hT
  have hW0 : s.WarmedH s'.vm := by rw [hvm]; exact State.WarmedH.refl s
  have hat' : ∀ w ∈ vx_atS own ic cls names, w.before args s' = true := fun w hw => vx_ot_at hW0 hvm.symm (hgood w (List.mem_cons_of_mem _ (List.mem_cons_of_mem _ hw))) (hat w hw)
  have hk' : (Cond.classLink own ik cls).before args s' = true := vx_ot_at hW0 hvm.symm (hgood _ List.mem_cons_self) hk
  have hini' : (Cond.initialized cls).before args s' = true := vx_ot_at hW0 hvm.symm (hgood _ (List.mem_cons_of_mem _ List.mem_cons_self)) hini
  have hU' : vx_Zq Bundle.tN "UNASSIGNED_STACK" Bundle.steD A s' s'.heap := by rw [hhp]; exact vx_Zq.moved hW0.alike hU
  have hN' : vx_Zq Bundle.tN "SUPPRESSED_SENTINEL" Bundle.listD A s' s'.heap := by rw [hhp]; exact vx_Zq.moved hW0.alike hN
  have h : ∀ w ∈ Bundle.ownAtoms own ic cls names, w.before args s' = true := vx_own hat' (vx_isRefq hU'.1) (vx_isRefq hN'.1) hU'.2.word hN'.2.word
  have hown' : s'.vm.findClass own = some m.cls := by rw [hvm]; exact hown
  have hins : (Cond.instantiable cls 6).before args s' = true := h _ (by simp [Bundle.ownAtoms])
  obtain ⟨vm₁, cX, kX, hfX, hkX, -, -, X₁, st1⟩ := Y.newCold hexec (own := own) (C := cls) (index := ik) (n := 6) hown' hk' hins hini'
    (g := F0 m pc ls rest) rfl (by rw [hb]; exact d0) (Nat.le_refl _) (Nat.le_refl _)
  generalize hT1 : (T.setVm vm₁).pushCell { cls := cX, slots := kX.instanceTypes.map defaultValue, vm := .none } = T1 at X₁ st1
  have hcat : (Value.ref T.heap.size).category = 1 := rfl
  have hcellA : T1.heap[T.heap.size]? = some (freshCell cX kX) := by rw [← hT1]; exact State.heap_pushCell_size _ _
  have d3' : decode c.code (pc + 3) = .ok (.dup, 1) := by rw [hb]; exact d3
  have d4' : decode c.code (pc + 4) = .ok (.ldc_w is, 3) := by rw [hb]; exact d4
  have hstr' : vk_R own is text sa s' := vk_R.warm hW0 hstr
  obtain ⟨U, hsteps, hrun, hend, hW, hsame, ce, hce, hO⟩ := X₁.ctorThrowS hexec htr (own := own) (cls := cls) (names := names) (ic := ic) hown' hcls hnames h (fun x hx => nomatch hx) hfX hkX hcellA (by rw [hhp, hT]; exact Nat.le_refl _) (msg := .ref sa) rfl
    (g := { method := m, pc := pc + 7, locals := ls, stack := .ref sa :: .ref T.heap.size :: .ref T.heap.size :: rest, locked := none }) rfl hsize rfl rfl (rest := rest) rfl
    (by rw [hb]; exact d7) (by rw [hb]; exact d10) hout hRframes (by simp only [List.map_cons, List.sum_cons, hcat]; omega) hlocks
  obtain ⟨f1, f2⟩ := vx_frame hsame
  rw [hhp] at f1 f2
  have f3 : U.heap.size = H.size + 1 := by
    have w1 : U.heap.size ≤ s'.heap.size + (0 + 1) := hsame.2.2.1
    rw [hhp] at w1
    have w2 : T.heap.size < U.heap.size := (Array.getElem?_eq_some_iff.mp hce).1
    rw [hT] at w2
    omega
  have hWs : s.WarmedH U.vm := State.WarmedH.trans hW0 hW
  have hcl : s.vm.findClass cls = some ce.cls := by
    have h9 := hO.cls
    rw [hvm] at h9
    exact h9
  have hall : s.sameButNew ({ U with vm := s.vm } : State) locs mc ms := by
    subst hA
    obtain ⟨e1, e2⟩ := hsame
    rw [State.setFrames_setFrames] at e1
    have h2 : (T.setVm s.vm).sameButNew ({ U with vm := s.vm } : State) [] (0 + 1) (0 + 6) := ⟨e1, e2⟩
    have h3 := X.same.trans h2
    rw [List.append_nil] at h3
    exact h3.mono hc hs
  refine ⟨U, ?_, .threw T.heap.size, hrun, hend, Or.inr ⟨T.heap.size, rfl, cls, ce, locs, hx U hWs.alike f1 f3 (fun q hq => f2 q hq (fun z hz => nomatch hz)), hce, hO.vm, hcl, hWs, hall, hf⟩⟩
  refine st1 _ ?_
  show Steps p.tables e below (T1.setTop { method := m, pc := pc + 3, locals := ls, stack := .ref T.heap.size :: rest, locked := none }) _
  jvm_step X₁.here [X₁.here.top, hexec, d3', Value.category]
  exact X₁.ldcStringW hexec (own := own) (text := text) (index := is) (a := sa) hown' hstr'.1 hstr'.2
    (g := { method := m, pc := pc + 4, locals := ls, stack := .ref T.heap.size :: .ref T.heap.size :: rest, locked := none }) rfl d4' _ hsteps
end zThrow
section zThrow2
variable {g : zG} {I J : zI} {pc a b : Nat} {L L' : zL} {st rest as : List Value} {h : zH} {mc ms mc1 ms1 mc2 ms2 : Nat} {Q Q1 : zR → zH → Prop}
theorem zn_throw {ik E : Nat} (hf : zF I pc = some (.new ik, 3, E, 1)) (hfr : 6 ≤ zFr I) (hlo : (st.map fun v => v.category).sum + 82 ≤ zLo I) (hq : Q (.inr E) (zthr h)) : Zn g I pc L st h (mc + 1) (ms + 6) Q := by
  intro p e R s m args below meth c H locs cells slots cT sT ls hC hR hL hl a1 a2 a3 a4
  obtain ⟨hE, hexI, is, ic, tx, hstr, hcl, hini, hat, d3, hd⟩ : zTh I pc ik E := hC.lk hf
  obtain ⟨sa, hsa⟩ := hC.zS.2.2.2.2.2.2.1 _ _ _ hstr
  have hz := hC.zS
  have hkeep : ∀ q : Nat, q < (zgH g).size → ¬ zg1 g < q → H[q]? = (zgH g)[q]? := fun q _ h9 => hR.2.2.2.1 q (by omega)
  have hU := hz.2.2.2.2.2.2.2.1.kept (H1 := H) hkeep
  have hN := hz.2.2.2.2.2.2.2.2.1.kept (H1 := H) hkeep
  have hat' : ∀ w ∈ vx_atS (zNm I).cls ic (zex E) ["java/lang/RuntimeException", "java/lang/Exception"], w.before args s = true := fun w hw => by
    obtain ⟨w1, w2⟩ := hat w hw
    rcases w2 with w2 | w2
    · exact hC.hts w (List.mem_filter.mpr ⟨w1, w2⟩)
    · exact va_Nw.use (zxw_on w2) (hz.2.2.2.2.1 w w1 w2)
  have hgood : ∀ w ∈ Cond.classLink (zNm I).cls ik (zex E) :: Cond.initialized (zex E) :: vx_atS (zNm I).cls ic (zex E) ["java/lang/RuntimeException", "java/lang/Exception"], vx_ot w = true := fun w hw => by
    rcases List.mem_cons.mp hw with rfl | hw
    · rfl
    · rcases List.mem_cons.mp hw with rfl | hw
      · rfl
      · obtain ⟨-, w2⟩ := hat w hw
        unfold vx_ot
        rcases w2 with w2 | w2
        · rw [w2, Bool.or_true]
        · rw [zxw_on w2, Bool.true_or]
  have hfit : Bundle.fit (zex E) = true := by
    match E, hE with
    | 0, _ => decide +kernel
    | 1, _ => decide +kernel
    | 2, _ => decide +kernel
  have hnames : ∀ n ∈ ["java/lang/RuntimeException", "java/lang/Exception"], Bundle.fit n = true := by decide +kernel
  have hfrm := hC.2.2.2.2.2.2.2.2.2.2.2.2.1
  have hloc := hC.2.2.2.2.2.2.2.2.2.2.2.2.2
  have hout : ∀ k : Nat, ∀ x ∈ c.exceptionTable.toList, covers x k = false := fun k => by rw [hC.2.2.2.2.2.1, hexI]; intro x hx; exact nomatch hx
  have hx : ∀ t : State, s.vm.Alike t.vm → H.size ≤ t.heap.size → t.heap.size = H.size + 1 → (∀ q : Nat, q < H.size → t.heap[q]? = H[q]?) → zXc g Q (zex E) s t := fun t _ _ h2 h3 => ⟨E, zthr h, hq, hE, rfl, hR.thr h2 h3⟩
  have hl82 : (((st.map (zt g)).map fun v => v.category)).sum + (13 * (["java/lang/RuntimeException", "java/lang/Exception"].length + 1) + 43) ≤ R.locals := by
    rw [zcat]
    show (st.map fun v => v.category).sum + (13 * 3 + 43) ≤ R.locals
    omega
  rcases hd with ⟨d4, d6, d9⟩ | ⟨d4, d6, d9⟩
  · exact zx_throwS (sa := sa) hC.1 hC.2.1 hz.1 hC.own hfit hnames (hC.hts _ hcl) (hC.hts _ hini) hsa hat' hgood hU hN (hL.1.trans hC.2.2.1.symm) (hC.dec hf) d3 d4 d6 d9 (hout _) (by show 2 + 3 < R.frames; omega) hl82 (by omega) (by omega) hC.2.2.2.2.1 hx hl (by omega) (by omega)
  · exact zx_throwSW (sa := sa) hC.1 hC.2.1 hz.1 hC.own hfit hnames (hC.hts _ hcl) (hC.hts _ hini) hsa hat' hgood hU hN (hL.1.trans hC.2.2.1.symm) (hC.dec hf) d3 d4 d6 d9 (hout _) (by show 2 + 3 < R.frames; omega) hl82 (by omega) (by omega) hC.2.2.2.2.1 hx hl (by omega) (by omega)
/-! catching, in the law's callers -/
def zcx : Nat → Nat := fun k => if k = 13 then 0 else if k = 15 then 1 else if k = 28 then 2 else 3
def zfind : List (Nat × Nat × Nat × Nat) → Nat → Nat → Option Nat
  | [], _, _ => none
  | q :: r, pc, E => if zcx q.2.2.2 < 3 then (if q.1 ≤ pc ∧ pc < q.2.1 ∧ zcx q.2.2.2 = E then some q.2.2.1 else zfind r pc E) else none
theorem zg_cx : ∀ k : Nat, zcx k < 3 → k ≠ 0 ∧ Cond.classLink RL k (zex (zcx k)) ∈ zgt := by
  intro k hk
  unfold zcx at hk ⊢
  by_cases h0 : k = 13
  · subst h0; exact ⟨by decide, zg_in 600 (by decide +kernel) (by decide +kernel)⟩
  · rw [if_neg h0] at hk ⊢
    by_cases h1 : k = 15
    · subst h1; exact ⟨by decide, zg_in 601 (by decide +kernel) (by decide +kernel)⟩
    · rw [if_neg h1] at hk ⊢
      by_cases h2 : k = 28
      · subst h2; exact ⟨by decide, zg_in 772 (by decide +kernel) (by decide +kernel)⟩
      · rw [if_neg h2] at hk
        omega
theorem zg_cast : ∀ E : Nat, E < 3 → Cond.castable (zex E) (zex E) ∈ lw_tbl := by
  intro E hE
  match E, hE with
  | 0, _ => exact List.mem_of_getElem? (i := 608) (by decide +kernel)
  | 1, _ => exact List.mem_of_getElem? (i := 680) (by decide +kernel)
  | 2, _ => exact List.mem_of_getElem? (i := 792) (by decide +kernel)
theorem zfind_split : ∀ (l : List (Nat × Nat × Nat × Nat)) (pc E hd : Nat), zfind l pc E = some hd → ∃ (pre : List (Nat × Nat × Nat × Nat)) (x : Nat × Nat × Nat × Nat) (suf : List (Nat × Nat × Nat × Nat)), l = pre ++ x :: suf ∧ x.2.2.1 = hd ∧ x.1 ≤ pc ∧ pc < x.2.1 ∧ zcx x.2.2.2 = E ∧ zcx x.2.2.2 < 3 ∧ ∀ z ∈ pre, zcx z.2.2.2 < 3 ∧ (¬ (z.1 ≤ pc ∧ pc < z.2.1) ∨ zcx z.2.2.2 ≠ E)
  | [], pc, E, hd, h => by cases h
  | q :: r, pc, E, hd, h => by
    unfold zfind at h
    by_cases h3 : zcx q.2.2.2 < 3
    · rw [if_pos h3] at h
      by_cases hq : q.1 ≤ pc ∧ pc < q.2.1 ∧ zcx q.2.2.2 = E
      · rw [if_pos hq] at h
        exact ⟨[], q, r, rfl, Option.some.inj h, hq.1, hq.2.1, hq.2.2, h3, fun z hz => nomatch hz⟩
      · rw [if_neg hq] at h
        obtain ⟨pre, x, suf, e1, e2, e3, e4, e5, e6, e7⟩ := zfind_split r pc E hd h
        refine ⟨q :: pre, x, suf, by rw [e1]; rfl, e2, e3, e4, e5, e6, fun z hz => ?_⟩
        rcases List.mem_cons.mp hz with rfl | hz
        · refine ⟨h3, ?_⟩
          by_cases hE : zcx z.2.2.2 = E
          · exact Or.inl fun hh => hq ⟨hh.1, hh.2, hE⟩
          · exact Or.inr hE
        · exact e7 z hz
    · rw [if_neg h3] at h
      cases h
theorem zHas.sN {ls' : Array Slot} {n i : Nat} {w : Value} (h : lv_has ls' n ((i, w) :: (zlv g L).filter (fun q => !(q.1 == i) && !(q.1 + 1 == i && q.2.category == 2)))) : zHas g ls' n ((zkill L i).set i none) := by
  refine zHas.of h.1 h.2.1 fun j v hv => ?_
  by_cases hj : j = i
  · subst hj
    by_cases hl : j < (zkill L j).length
    · rw [List.getElem?_set_self hl] at hv
      cases hv
    · rw [List.getElem?_eq_none (by rw [List.length_set]; omega)] at hv
      cases hv
  · rw [List.getElem?_set_ne (Ne.symm hj)] at hv
    obtain ⟨h1, h2⟩ := zkill_get hv
    refine h.2.2 (j, zt g v) (List.mem_cons_of_mem _ (List.mem_filter.mpr ⟨zlv_mem h1, ?_⟩))
    simp only [zt_cat]
    by_cases hk : j + 1 = i
    · have : ¬ v.category = 2 := fun z => h2 ⟨hk, z⟩
      simp [hj, this]
    · simp [hj, hk]
/-- a call of the class, with the handlers of a caller of the law's -/
theorem zn_callVC {idx o ci : Nat} {fs : List Value} (hf : zF I pc = some (.invokevirtual idx, 3, a, b)) (hJ : zP a = J) (hst : st = as.reverse ++ .ref o :: rest) (hb : as.length = b) (ho : h.1 o = some (.inr (ci, fs))) (hcl : (vwCl[ci]?).map (fun q => q.1) = some (zNm J).cls) (hown : (zNm I).cls = RL) (hexJ : zEx J = [])
    (hfr : zFr J + 1 ≤ zFr I) (hlo : 8 + (zMx J + 11) + zLo J ≤ zLo I) (hsl : (zsl (.ref o :: as)).length ≤ zMx J) (hre : (rest.map fun v => v.category).sum ≤ 8)
    (h1 : Zm g J (.ref o :: as) h mc1 ms1 Q1) (h2 : ∀ v h', Q1 (.inl v) h' → Zn g I (pc + 3) L (v.toList ++ rest) h' mc2 ms2 Q)
    (h3 : ∀ E h', Q1 (.inr E) h' → ∃ (hd i len a9 b9 : Nat), zfind (zEx I) pc E = some hd ∧ ((∃ n : Fin 4, (n : Nat) = i ∧ len = 1 ∧ zF I hd = some (.astore_n n, 1, a9, b9)) ∨ (len = 2 ∧ zF I hd = some (.astore i, 2, a9, b9))) ∧ i < zMx I ∧ Zn g I (hd + len) ((zkill L i).set i none) [] h' mc2 ms2 Q) : Zn g I pc L st h (mc1 + mc2) (ms1 + ms2) Q := by
  intro p e R s m args below meth c H locs cells slots cT sT ls hC hR hL hl a1 a2 a3 a4
  obtain ⟨haN, hJ0, hml, him, hsel⟩ : a < zN ∧ zCv (zNm I).cls idx (zP a) b := hC.lk hf
  have hokJ := hC.2.2.2.2.2.2.2.2.2.2.2.1 a haN
  subst hJ
  obtain ⟨j1, j2, j3, j4, j5, j6, -⟩ := hJ0
  have hcode := j6 hexJ
  subst hst
  rw [zrev, List.map_cons]
  have hrun := vx_runV (H := H) (e := e) (below := below) (meth := meth) (locs := locs) (cells := cells) (slots := slots) (g := F0 m pc ls ((as.map (zt g)).reverse ++ .ref (zad g o) :: rest.map (zt g))) (b := zad g o) (R := R) (As := as.map (zt g)) (rest := rest.map (zt g)) (n := b) (Ts := zgt) ⟨hC.1, hC.2.1, hC.2.2.1, hC.own, hC.hts⟩ (Zm.met (mc := mc1) (ms := ms1) hC.2.2.2.2.2.2.2.2.2.2.2.1 hokJ hsl hexJ j1 h1)
    (cwV b hC.hts (fun w hw => zgood (by
      rcases List.mem_append.mp hw with hw | hw
      · simp only [List.mem_cons, List.not_mem_nil, or_false] at hw
        rcases hw with rfl | rfl | rfl | rfl
        · exact hml
        · exact him
        · exact hsel
        · exact j5
      · rcases List.mem_cons.mp hw with rfl | hw
        · exact hcode
        · exact hw)) rfl rfl rfl ⟨rfl, j2, j3, j4⟩ ⟨Nat.le_trans hfr hC.2.2.2.2.2.2.2.2.2.2.2.2.1, Nat.le_trans hlo hC.2.2.2.2.2.2.2.2.2.2.2.2.2⟩)
    ⟨zPc_blind, zrecv hR hC.zS ho hcl, fun U hU hW => zPc_at (as := .ref o :: as) hR hC.zS hU hW⟩ rfl (by rw [List.length_map]; exact hb) hL.1 rfl (zroom g hre) (hC.dec hf) ⟨by omega, by omega⟩
  intro T hT X
  rcases hrun T hT X with ⟨v, st₀, t, T', Lc, h0, X', hL', e1, e2, ⟨v0, h', hq, hv, hr'⟩, stp⟩ | ⟨q, st₀, t, T', Lc, E, ce, h0, X', hL', e1, e2, ⟨k9, h', hq, hk3, hE, hr'⟩, hce, hcv, hclE, stp⟩
  · obtain rfl : v = v0.map (zt g) := by cases hv; rfl
    obtain ⟨t2, b1, b2⟩ := h2 v0 h' hq p e R s m args below meth c T'.heap (locs ++ Lc) (cells + mc1) (slots + ms1) cT sT ls hC (by rw [e1]; exact hr') hL (fun z hz => (List.mem_append.mp hz).elim (hl z) (hL' z)) (by omega) (by omega) a3 a4 T' rfl X'
    refine ⟨t2, stp t2 ?_, b2⟩
    rw [zback]
    exact b1
  · subst hE
    obtain ⟨hd, i, len, a9, b9, f1, f2, f3, K⟩ := h3 k9 h' hq
    obtain ⟨pre, x, suf, x1, x2, x3, x4, x5, x6, x7⟩ := zfind_split _ _ _ _ f1
    have hz := hC.zS
    have hcovx : covers (⟨x.1, x.2.1, x.2.2.1, x.2.2.2⟩ : ExceptionTableEntry) pc = true := by simp [covers, x3, x4]
    have hlx := zg_cx x.2.2.2 x6
    have hW := vx_catch (p := p) (l := zgl g) (e := e) (R := R) (s := s) (m := m) (args := args) (below := below) (meth := meth) (c := c) (H := T'.heap) (locs := locs ++ Lc) (cells := cells + mc1) (slots := slots + ms1) (Q := vx_MQ below (zQc g Q) (zXc g Q) args s cT sT (fun q => zg1 g < q)) (pc := pc) (ls := ls) (rest := rest.map (zt g)) (own := RL) (name := zex k9) (E := zex k9) (ce := ce) (q := q)
      (by rw [← hown]; exact hC.own) (tableOf pre) ⟨x.1, x.2.1, x.2.2.1, x.2.2.2⟩ (tableOf suf) (by rw [hC.2.2.2.2.2.1, x1]; unfold tableOf; rw [List.map_append, List.map_cons])
      (fun z hz9 => by
        obtain ⟨z0, hz0, rfl⟩ := List.mem_map.mp hz9
        obtain ⟨w1, w2⟩ := x7 z0 hz0
        have hlz := zg_cx z0.2.2.2 w1
        rcases w2 with w2 | w2
        · left
          have : ¬ (z0.1 ≤ pc ∧ pc < z0.2.1) := w2
          simp only [covers]
          by_cases y1 : z0.1 ≤ pc
          · have y2 : ¬ pc < z0.2.1 := fun y => this ⟨y1, y⟩
            simp [y2]
          · simp [y1]
        · exact Or.inr ⟨hlz.1, zex (zcx z0.2.2.2), hC.hts _ hlz.2, hz.2.2.2.2.2.1 k9 _ hk3 w1 (Ne.symm w2)⟩)
      hcovx hlx.1 (by rw [← x5]; exact hC.hts _ hlx.2) (va_Nw.use rfl (hz.2.2.2.2.1 _ (zg_cast k9 hk3) rfl)) (by rw [e1]; exact hce) hcv hclE
      (by
        show W p (zgl g) e R s m args below meth c T'.heap (locs ++ Lc) (cells + mc1) (slots + ms1) _ (F0 m x.2.2.1 ls [.ref q])
        rw [x2]
        rcases f2 with ⟨n, rfl, rfl, f2⟩ | ⟨rfl, f2⟩
        · exact lv_astore_n hC.1 hC.2.1 (hC.dec f2) rfl hL f3 rfl (fun ls' hl9 => K p e R s m args below meth c T'.heap (locs ++ Lc) (cells + mc1) (slots + ms1) cT sT ls' hC (by rw [e1]; exact hr') (zHas.sN hl9) (fun z hz => (List.mem_append.mp hz).elim (hl z) (hL' z)) (by omega) (by omega) a3 a4)
        · exact lv_astore hC.1 hC.2.1 (hC.dec f2) hL f3 rfl (fun ls' hl9 => K p e R s m args below meth c T'.heap (locs ++ Lc) (cells + mc1) (slots + ms1) cT sT ls' hC (by rw [e1]; exact hr') (zHas.sN hl9) (fun z hz => (List.mem_append.mp hz).elim (hl z) (hL' z)) (by omega) (by omega) a3 a4))
    obtain ⟨t2, b1, b2⟩ := hW T' rfl X'
    exact ⟨t2, stp.trans b1, b2⟩
/-! System.arraycopy, and an array of Pages -/
theorem zg_copy : Cond.native arraycopyName ∈ zgt ∧ Cond.static arraycopyName ∈ zgt ∧ Cond.initialized "java/lang/System" ∈ zgt := ⟨zg_in 744 (by decide +kernel) (by decide +kernel), zg_in 743 (by decide +kernel) (by decide +kernel), zg_in 119 (by decide +kernel) (by decide +kernel)⟩
theorem zn_copy {idx src dst n0 n1 : Nat} {f f1 : Nat → Int32} {sp dp n : Int32} (hf : zF I pc = some (.invokestatic idx, 3, 5000, b)) (hp0 : 0 < src) (hp1 : 0 < dst) (ho0 : h.1 src = some (.inl (n0, .inl f))) (ho1 : h.1 dst = some (.inl (n1, .inl f1)))
    (h1 : ¬ sp < 0) (h2 : ¬ dp < 0) (h3 : ¬ n < 0) (h4 : sp.toNatClampNeg + n.toNatClampNeg ≤ n0) (h5 : dp.toNatClampNeg + n.toNatClampNeg ≤ n1) (hfr : 1 ≤ zFr I) (hlo : (st.map fun v => v.category).sum + 18 ≤ zLo I)
    (K : Zn g I (pc + 3) L st (zup h dst (.inl (n1, .inl (va_cpy f f1 sp.toNatClampNeg dp.toNatClampNeg n.toNatClampNeg)))) mc ms Q) : Zn g I pc L (.int n :: .int dp :: .ref dst :: .int sp :: .ref src :: st) h mc ms Q := by
  intro p e R s m args below meth c H locs cells slots cT sT ls hC hR hL hl a1 a2 a3 a4
  have hlk : Cond.methodLink (zNm I).cls idx arraycopyName ∈ zgt := hC.lk hf
  have hK := hC.zS.2.2.1
  have nn : ∀ z : Int32, ¬ z < 0 → z.toInt = (z.toNatClampNeg : Int) := by
    intro z hz
    have hz0 : (0 : Int) ≤ z.toInt := by
      have := Int32.not_lt.mp hz
      simpa using Int32.le_iff_toInt_le.mp this
    show z.toInt = ((z.toInt.toNat : Nat) : Int)
    omega
  intro T hT X
  have hc0 : H[zad g src]? = some (vp_cell (zgI g) (n0, .inl f)) := hR.at ho0 hp0
  have hc1 : H[zad g dst]? = some (vp_cell (zgI g) (n1, .inl f1)) := hR.at ho1 hp1
  obtain ⟨-, k0, hk0, cm0, hkk0⟩ := (hK.2 0 _ rfl).1 n0 (fun j => .int (f j))
  obtain ⟨-, k1, hk1, cm1, hkk1⟩ := (hK.2 0 _ rfl).1 n1 (fun j => .int (f1 j))
  obtain ⟨vm', X', step⟩ := X.arraycopy hC.1 hC.own (hC.hts _ hlk) (hC.hts _ zg_copy.1) (hC.hts _ zg_copy.2.1) (hC.hts _ zg_copy.2.2) (src := zad g src) (dst := zad g dst) (cs := vp_cell (zgI g) (n0, .inl f)) (cd := vp_cell (zgI g) (n1, .inl f1)) (srcPos := sp) (destPos := dp) (n := n) (by rw [hT]; exact hc0) (by rw [hT]; exact hc1)
    (fun _ h => by cases h) (fun _ h => by cases h) (fun h => by cases h) (fun h => by cases h) hk0 hk1 hkk0 hkk1 (by simp [refKind]) h1 h2 h3
    (by rw [nn sp h1, nn n h3]; show ¬ _ > ((arrV (zgI g) n0 (fun j => .int (f j))).slots.size : Int); rw [arrV_size]; omega)
    (by rw [nn dp h2, nn n h3]; show ¬ _ > ((arrV (zgI g) n1 (fun j => .int (f1 j))).slots.size : Int); rw [arrV_size]; omega)
    (fun vm₁ _ i hi => by
      have e : (vp_cell (zgI g) (n0, .inl f)).slots.getD (sp.toNatClampNeg + i) .null = .int (f (sp.toNatClampNeg + i)) := by
        show (arrV (zgI g) n0 (fun j => .int (f j))).slots.getD _ _ = _
        rw [Array.getD_eq_getD_getElem?, arrV_read _ _ (by omega)]
        rfl
      refine ⟨?_, ?_⟩
      · rw [e]
        rfl
      · rw [e]
        exact trivial)
    (g := F0 m pc ls (.int n :: .int dp :: .ref (zad g dst) :: .int sp :: .ref (zad g src) :: st.map (zt g))) rfl (by rw [hC.2.2.1]; exact hL.1) (rest := st.map (zt g)) rfl (by rw [hC.2.1]; exact hC.dec hf) (Nat.le_trans hfr hC.2.2.2.2.2.2.2.2.2.2.2.2.1) (by
      have := hC.2.2.2.2.2.2.2.2.2.2.2.2.2
      show 2 * 0 + (((st.map (zt g)).map fun v => v.category)).sum + (nativeFrameWords "java/lang/System" "arraycopy" 5 + 11) ≤ _
      rw [zcat, show nativeFrameWords "java/lang/System" "arraycopy" 5 = 7 by decide +kernel]
      omega)
  have e1 : copied (vp_cell (zgI g) (n0, .inl f)) (vp_cell (zgI g) (n1, .inl f1)) sp dp n = vp_cell (zgI g) (n1, .inl (va_cpy f f1 sp.toNatClampNeg dp.toNatClampNeg n.toNatClampNeg)) := va_copied (fun z => .int z) (zgI g) (zgI g) f f1 h4
  rw [e1] at X' step
  have hl9 : zad g dst < H.size := (Array.getElem?_eq_some_iff.mp hc1).1
  have hheap : ((T.setVm vm').setCell (zad g dst) (vp_cell (zgI g) (n1, .inl (va_cpy f f1 sp.toNatClampNeg dp.toNatClampNeg n.toNatClampNeg)))).heap = H.setIfInBounds (zad g dst) (vp_cell (zgI g) (n1, .inl (va_cpy f f1 sp.toNatClampNeg dp.toNatClampNeg n.toNatClampNeg))) := by rw [← hT]; rfl
  have oq : ∀ q : Nat, q ≠ zad g dst → (H.setIfInBounds (zad g dst) (vp_cell (zgI g) (n1, .inl (va_cpy f f1 sp.toNatClampNeg dp.toNatClampNeg n.toNatClampNeg))))[q]? = H[q]? := fun q hq => by simp [Array.getElem?_setIfInBounds, Ne.symm hq]
  obtain ⟨t, b1, b2⟩ := K p e R s m args below meth c _ _ cells slots cT sT ls hC (hR.put ho1 hp1 (show (H.setIfInBounds (zad g dst) _)[zad g dst]? = some _ by simp [Array.getElem?_setIfInBounds, hl9]) (by simp) oq) hL (fun z hz => by
    rcases List.mem_append.mp hz with hz | hz
    · exact hl z hz
    · obtain ⟨y, -, hy⟩ := List.mem_map.mp hz
      rw [← hy]
      show zg1 g < zad g dst
      rw [zad_pos g hp1]; omega) a1 a2 a3 a4 _ hheap X'
  exact ⟨t, step t b1, b2⟩
theorem zn_anew {idx : Nat} {n : Int32} {N : Nat} (hf : zF I pc = some (.anewarray idx, 3, a, b)) (hn : ¬ n < 0) (hN : n.toNatClampNeg = N) (hb : N * 4 ≤ 536870912) (K : Zn g I (pc + 3) L (.ref h.2 :: st) (znew h (.inl (N, .inr (.inr (.inr (.inr (fun _ => none))))))) mc ms Q) : Zn g I pc L (.int n :: st) h (mc + 1) (ms + N) Q := by
  intro p e R s m args below meth c H locs cells slots cT sT ls hC hR hL hl a1 a2 a3 a4
  have hlk : Cond.classLink (zNm I).cls idx RX7 ∈ zgt := hC.lk hf
  have hK := hC.zS.2.2.1
  subst hN
  refine W.anew hC.1 hC.2.1 hC.own (hC.hts _ hlk) (va_AO.use hC.zS.2.2.2.2.2.2.2.2.2) rfl (hC.dec hf) rfl hn hb (by omega) (by omega) fun cA kA comp f1 f2 f3 f4 => ?_
  obtain ⟨kA9, comp9, -, -, -, g4⟩ := (hK.2 3 _ rfl).2
  have hcc : cA = zgP g := Option.some.inj (f1.symm.trans g4)
  subst hcc
  generalize hH1 : H.push ({ cls := zgP g, slots := Array.replicate n.toNatClampNeg .null, vm := .none } : Cell) = H1
  have z1 : H1.size = H.size + 1 := by rw [← hH1, Array.size_push]
  have e1 : H1[H.size]? = some (arrV (zgP g) n.toNatClampNeg (fun _ => .null)) := by rw [← hH1, Array.getElem?_push_size, ← arrV_new]
  have o1 : ∀ q : Nat, q < H.size → H1[q]? = H[q]? := fun q hq => by rw [← hH1, Array.getElem?_push, if_neg (Nat.ne_of_lt hq)]
  have hat : va_at (zgD g) vwCl (H.size, zE g (.inl (n.toNatClampNeg, .inr (.inr (.inr (.inr (fun _ => none))))))) H1 := e1
  have := K p e R s m args below meth c H1 locs (cells + 1) (slots + n.toNatClampNeg) cT sT ls hC (hR.new hat z1 o1) hL hl (by omega) (by omega) a3 a4
  rw [show (F0 m (pc + 3) ls (List.map (zt g) (.ref h.2 :: st))) = F0 m (pc + 3) ls (.ref H.size :: st.map (zt g)) by rw [List.map_cons]; show F0 m (pc + 3) ls (.ref (zad g h.2) :: _) = _; rw [hR.top]] at this
  exact this
theorem zg_math : Cond.static Lib.Math.max.name ∈ zgt ∧ Cond.code Lib.Math.max.name Lib.Math.max.code 2 (some .int) ∈ zgt ∧ Cond.static Lib.Math.min.name ∈ zgt ∧ Cond.code Lib.Math.min.name Lib.Math.min.code 2 (some .int) ∈ zgt ∧ Cond.initialized "java/lang/Math" ∈ zgt := ⟨zg_in 337 (by decide +kernel) (by decide +kernel), zg_in 338 (by decide +kernel) (by decide +kernel), zg_in 746 (by decide +kernel) (by decide +kernel), zg_in 747 (by decide +kernel) (by decide +kernel), zg_in 112 (by decide +kernel) (by decide +kernel)⟩
theorem zn_max {idx : Nat} {x y : Int32} (hf : zF I pc = some (.invokestatic idx, 3, 5002, b)) (hfr : 1 ≤ zFr I) (hlo : (st.map fun v => v.category).sum + 13 ≤ zLo I) (K : Zn g I (pc + 3) L (.int (if x < y then y else x) :: st) h mc ms Q) : Zn g I pc L (.int y :: .int x :: st) h mc ms Q := by
  intro p e R s m args below meth c H locs cells slots cT sT ls hC hR hL hl a1 a2 a3 a4
  have hlk : Cond.methodLink (zNm I).cls idx Lib.Math.max.name ∈ zgt := hC.lk hf
  refine va_mmax hC.1 hC.2.1 (hC.2.2.1.trans hL.1.symm) hC.own (hC.hts _ hlk) (hC.hts _ zg_math.1) (hC.hts _ zg_math.2.2.2.2) (hC.hts _ zg_math.2.1) (Nat.le_trans hfr hC.2.2.2.2.2.2.2.2.2.2.2.2.1) ?_ (by omega) (by omega) (hC.dec hf) (K p e R s m args below meth c H locs cells slots cT sT ls hC hR hL hl a1 a2 a3 a4)
  have := hC.2.2.2.2.2.2.2.2.2.2.2.2.2
  rw [zcat]
  omega
theorem zn_min {idx : Nat} {x y : Int32} (hf : zF I pc = some (.invokestatic idx, 3, 5003, b)) (hfr : 1 ≤ zFr I) (hlo : (st.map fun v => v.category).sum + 13 ≤ zLo I) (K : Zn g I (pc + 3) L (.int (if y < x then y else x) :: st) h mc ms Q) : Zn g I pc L (.int y :: .int x :: st) h mc ms Q := by
  intro p e R s m args below meth c H locs cells slots cT sT ls hC hR hL hl a1 a2 a3 a4
  have hlk : Cond.methodLink (zNm I).cls idx Lib.Math.min.name ∈ zgt := hC.lk hf
  refine va_mmin hC.1 hC.2.1 (hC.2.2.1.trans hL.1.symm) hC.own (hC.hts _ hlk) (hC.hts _ zg_math.2.2.1) (hC.hts _ zg_math.2.2.2.2) (hC.hts _ zg_math.2.2.2.1) (Nat.le_trans hfr hC.2.2.2.2.2.2.2.2.2.2.2.2.1) ?_ (by omega) (by omega) (hC.dec hf) (K p e R s m args below meth c H locs cells slots cT sT ls hC hR hL hl a1 a2 a3 a4)
  have := hC.2.2.2.2.2.2.2.2.2.2.2.2.2
  rw [zcat]
  omega
end zThrow2
end
section
/-! THE PROGRAM'S ROWS ARE THE BYTES' AND ITS LINKS THE TABLES', by program (wip/whole/gen10.py) -/
theorem zin_of (ws : List Cond) (ps : List Nat) (h : ws = ps.filterMap (fun i => lw_tbl[i]?)) (hg : ws.all goodWord = true) : ∀ w ∈ ws, w ∈ zgt := by
  intro w hw
  have h1 := List.all_eq_true.mp hg w hw
  rw [h] at hw
  obtain ⟨i, -, hi⟩ := List.mem_filterMap.mp hw
  exact List.mem_filter.mpr ⟨List.mem_of_getElem? hi, h1⟩
theorem zlook_mem : ∀ (l : List zRow) (pc : Nat) (e : Instr × Nat × Nat × Nat), l.lookup pc = some e → (pc, e) ∈ l
  | [], pc, e, h => by cases h
  | q :: r, pc, e, h => by
    obtain ⟨k, x⟩ := q
    rw [List.lookup_cons] at h
    by_cases hk : pc = k
    · subst hk
      simp at h
      rw [h]
      exact List.mem_cons_self
    · have : (pc == k) = false := by simp [hk]
      rw [this] at h
      exact List.mem_cons_of_mem _ (zlook_mem r pc e h)
def zisl : Instr → Bool
  | .getfield _ => true
  | .putfield _ => true
  | .new _ => true
  | .invokevirtual _ => true
  | .invokestatic _ => true
  | .invokespecial _ => true
  | .ldc _ => true
  | .ldc2_w _ => true
  | .anewarray _ => true
  | _ => false
theorem zLk_not {I : zI} {pc a b : Nat} {ins : Instr} (h : zisl ins = false) : zLk I pc ins a b := by
  cases ins <;> first | exact trivial | cases h
theorem zok_of {I : zI} (hd : (zTb I).all (fun q => decide (decode (zBy I) q.1 = .ok (q.2.1, q.2.2.1))) = true) (hl : ∀ q ∈ (zTb I).filter (fun q => zisl q.2.1), zLk I q.1 q.2.1 q.2.2.2.1 q.2.2.2.2) : zOK I := by
  intro pc ins len a b hf
  have hm := zlook_mem _ _ _ hf
  refine ⟨?_, ?_⟩
  · have := List.all_eq_true.mp hd _ hm
    exact of_decide_eq_true this
  · cases hz : zisl ins with
    | false => exact zLk_not hz
    | true => exact hl _ (List.mem_filter.mpr ⟨hm, hz⟩)
theorem zls_n {P : zRow → Prop} : ∀ q ∈ ([] : List zRow), P q := fun _ h => nomatch h
theorem zls_c {P : zRow → Prop} {x : zRow} {l : List zRow} (h : P x) (t : ∀ q ∈ l, P q) : ∀ q ∈ x :: l, P q := List.forall_mem_cons.mpr ⟨h, t⟩
theorem zin0 : ∀ w ∈ u_ws RX0 TX0 10, w ∈ zgt := zin_of _ [252, 254, 256, 258, 260, 262, 264, 266, 268, 270] (by decide +kernel) (by decide +kernel)
theorem zin1 : ∀ w ∈ u_ws RX1 TX1 7, w ∈ zgt := zin_of _ [220, 222, 224, 226, 228, 230, 232] (by decide +kernel) (by decide +kernel)
theorem zin2 : ∀ w ∈ u_ws RX2 TX2 4, w ∈ zgt := zin_of _ [156, 158, 160, 162] (by decide +kernel) (by decide +kernel)
theorem zin3 : ∀ w ∈ u_ws RX3 TX3 5, w ∈ zgt := zin_of _ [190, 192, 194, 196, 198] (by decide +kernel) (by decide +kernel)
theorem zin4 : ∀ w ∈ u_ws RX4 TX4 2, w ∈ zgt := zin_of _ [140, 142] (by decide +kernel) (by decide +kernel)
theorem zin5 : ∀ w ∈ u_ws RX5 TX5 4, w ∈ zgt := zin_of _ [279, 281, 283, 285] (by decide +kernel) (by decide +kernel)
theorem zin6 : ∀ w ∈ u_ws RX6 TX6 2, w ∈ zgt := zin_of _ [894, 896] (by decide +kernel) (by decide +kernel)
theorem zin7 : ∀ w ∈ u_ws RX7 TX7 2, w ∈ zgt := zin_of _ [180, 182] (by decide +kernel) (by decide +kernel)
theorem zin8 : ∀ w ∈ u_ws RX9 TX9 5, w ∈ zgt := zin_of _ [447, 449, 451, 453, 455] (by decide +kernel) (by decide +kernel)
theorem zin9 : ∀ w ∈ u_ws RX10 TX10 24, w ∈ zgt := zin_of _ [1214, 1216, 1218, 1220, 1222, 1224, 1226, 1228, 1230, 1232, 1234, 1236, 1238, 1240, 1242, 1244, 1246, 1248, 1250, 1252, 1254, 1256, 1258, 1260] (by decide +kernel) (by decide +kernel)
theorem zpt_RX0_9i {n : String} : zPt RX0 n 9 0 0 := ⟨_, _, _, rfl, by decide, zin0, (zg_in 242 (by decide +kernel) (by decide +kernel)), tyX0_ok, nmX0, Or.inl rfl⟩
theorem zpt_RX0_15i : zPt RX0 "<init>" 15 0 1 := ⟨_, _, _, rfl, by decide, zin0, (zg_in 243 (by decide +kernel) (by decide +kernel)), tyX0_ok, nmX0, Or.inr ⟨rfl, rfl, rfl⟩⟩
theorem zpt_RX0_19i : zPt RX0 "<init>" 19 0 2 := ⟨_, _, _, rfl, by decide, zin0, (zg_in 244 (by decide +kernel) (by decide +kernel)), tyX0_ok, nmX0, Or.inr ⟨rfl, rfl, rfl⟩⟩
theorem zpt_RX0_22i : zPt RX0 "<init>" 22 0 3 := ⟨_, _, _, rfl, by decide, zin0, (zg_in 245 (by decide +kernel) (by decide +kernel)), tyX0_ok, nmX0, Or.inr ⟨rfl, rfl, rfl⟩⟩
theorem zpt_RX0_25i : zPt RX0 "<init>" 25 0 4 := ⟨_, _, _, rfl, by decide, zin0, (zg_in 246 (by decide +kernel) (by decide +kernel)), tyX0_ok, nmX0, Or.inr ⟨rfl, rfl, rfl⟩⟩
theorem zpt_RX0_28i : zPt RX0 "<init>" 28 0 5 := ⟨_, _, _, rfl, by decide, zin0, (zg_in 247 (by decide +kernel) (by decide +kernel)), tyX0_ok, nmX0, Or.inr ⟨rfl, rfl, rfl⟩⟩
theorem zpt_RX0_31i : zPt RX0 "<init>" 31 0 6 := ⟨_, _, _, rfl, by decide, zin0, (zg_in 248 (by decide +kernel) (by decide +kernel)), tyX0_ok, nmX0, Or.inr ⟨rfl, rfl, rfl⟩⟩
theorem zpt_RX0_34i : zPt RX0 "<init>" 34 0 7 := ⟨_, _, _, rfl, by decide, zin0, (zg_in 249 (by decide +kernel) (by decide +kernel)), tyX0_ok, nmX0, Or.inr ⟨rfl, rfl, rfl⟩⟩
theorem zpt_RX0_37i : zPt RX0 "<init>" 37 0 8 := ⟨_, _, _, rfl, by decide, zin0, (zg_in 250 (by decide +kernel) (by decide +kernel)), tyX0_ok, nmX0, Or.inr ⟨rfl, rfl, rfl⟩⟩
theorem zpt_RX0_40i : zPt RX0 "<init>" 40 0 9 := ⟨_, _, _, rfl, by decide, zin0, (zg_in 251 (by decide +kernel) (by decide +kernel)), tyX0_ok, nmX0, Or.inr ⟨rfl, rfl, rfl⟩⟩
theorem zpt_RX0_9 {n : String} : zPt RX0 n 9 0 0 := ⟨_, _, _, rfl, by decide, zin0, (zg_in 242 (by decide +kernel) (by decide +kernel)), tyX0_ok, nmX0, Or.inl rfl⟩
theorem zj_X1_lines : zJ zX1_lines 0 := ⟨(by decide +kernel), (by decide +kernel), (by decide +kernel), (by decide +kernel), (zg_in 109 (by decide +kernel) (by decide +kernel)), fun _ => (zg_in 346 (by decide +kernel) (by decide +kernel)), fun h => absurd rfl h⟩
theorem zc_RX0_44_v : 25 < zN ∧ zCv RX0 44 (zP 25) 0 := ⟨by decide, zj_X1_lines, (zg_in 343 (by decide +kernel) (by decide +kernel)), (zg_in 344 (by decide +kernel) (by decide +kernel)), (zg_in 345 (by decide +kernel) (by decide +kernel))⟩
theorem zj_X1_endsWithTab : zJ zX1_endsWithTab 2 := ⟨(by decide +kernel), (by decide +kernel), (by decide +kernel), (by decide +kernel), (zg_in 109 (by decide +kernel) (by decide +kernel)), fun _ => (zg_in 350 (by decide +kernel) (by decide +kernel)), fun h => absurd rfl h⟩
theorem zc_RX0_50_v : 28 < zN ∧ zCv RX0 50 (zP 28) 2 := ⟨by decide, zj_X1_endsWithTab, (zg_in 347 (by decide +kernel) (by decide +kernel)), (zg_in 348 (by decide +kernel) (by decide +kernel)), (zg_in 349 (by decide +kernel) (by decide +kernel))⟩
theorem zfd_RX0_9 : zFd RX0 9 0 0 := ⟨_, _, _, rfl, by decide, zin0, Or.inl (zg_in 242 (by decide +kernel) (by decide +kernel))⟩
theorem zfd_RX0_15 : zFd RX0 15 0 1 := ⟨_, _, _, rfl, by decide, zin0, Or.inl (zg_in 243 (by decide +kernel) (by decide +kernel))⟩
theorem zfd_RX0_19 : zFd RX0 19 0 2 := ⟨_, _, _, rfl, by decide, zin0, Or.inl (zg_in 244 (by decide +kernel) (by decide +kernel))⟩
theorem zfd_RX0_22 : zFd RX0 22 0 3 := ⟨_, _, _, rfl, by decide, zin0, Or.inl (zg_in 245 (by decide +kernel) (by decide +kernel))⟩
theorem zj_X0_lastLine : zJ zX0_lastLine 3 := ⟨(by decide +kernel), (by decide +kernel), (by decide +kernel), (by decide +kernel), (zg_in 110 (by decide +kernel) (by decide +kernel)), fun _ => (zg_in 353 (by decide +kernel) (by decide +kernel)), fun h => absurd rfl h⟩
theorem zc_RX0_54_s : 2 < zN ∧ zCs RX0 54 (zP 2) 3 := ⟨by decide, zj_X0_lastLine, (zg_in 352 (by decide +kernel) (by decide +kernel)), Or.inl (zg_in 351 (by decide +kernel) (by decide +kernel))⟩
theorem zj_X0_measureBlock : zJ zX0_measureBlock 3 := ⟨(by decide +kernel), (by decide +kernel), (by decide +kernel), (by decide +kernel), (zg_in 110 (by decide +kernel) (by decide +kernel)), fun _ => (zg_in 357 (by decide +kernel) (by decide +kernel)), fun h => absurd rfl h⟩
theorem zc_RX0_58_v : 3 < zN ∧ zCv RX0 58 (zP 3) 3 := ⟨by decide, zj_X0_measureBlock, (zg_in 354 (by decide +kernel) (by decide +kernel)), (zg_in 356 (by decide +kernel) (by decide +kernel)), (zg_in 2 (by decide +kernel) (by decide +kernel))⟩
theorem zj_X0_addNumbers : zJ zX0_addNumbers 2 := ⟨(by decide +kernel), (by decide +kernel), (by decide +kernel), (by decide +kernel), (zg_in 110 (by decide +kernel) (by decide +kernel)), fun _ => (zg_in 361 (by decide +kernel) (by decide +kernel)), fun h => absurd rfl h⟩
theorem zc_RX0_62_v : 4 < zN ∧ zCv RX0 62 (zP 4) 2 := ⟨by decide, zj_X0_addNumbers, (zg_in 358 (by decide +kernel) (by decide +kernel)), (zg_in 360 (by decide +kernel) (by decide +kernel)), (zg_in 3 (by decide +kernel) (by decide +kernel))⟩
theorem zj_X2_alignment : zJ zX2_alignment 1 := ⟨(by decide +kernel), (by decide +kernel), (by decide +kernel), (by decide +kernel), (zg_in 105 (by decide +kernel) (by decide +kernel)), fun _ => (zg_in 377 (by decide +kernel) (by decide +kernel)), fun h => absurd rfl h⟩
theorem zc_RX0_66_v : 46 < zN ∧ zCv RX0 66 (zP 46) 1 := ⟨by decide, zj_X2_alignment, (zg_in 374 (by decide +kernel) (by decide +kernel)), (zg_in 375 (by decide +kernel) (by decide +kernel)), (zg_in 376 (by decide +kernel) (by decide +kernel))⟩
theorem zj_X0_isDecimal : zJ zX0_isDecimal 2 := ⟨(by decide +kernel), (by decide +kernel), (by decide +kernel), (by decide +kernel), (zg_in 110 (by decide +kernel) (by decide +kernel)), fun _ => (zg_in 381 (by decide +kernel) (by decide +kernel)), fun h => absurd rfl h⟩
theorem zc_RX0_72_v : 5 < zN ∧ zCv RX0 72 (zP 5) 2 := ⟨by decide, zj_X0_isDecimal, (zg_in 378 (by decide +kernel) (by decide +kernel)), (zg_in 380 (by decide +kernel) (by decide +kernel)), (zg_in 4 (by decide +kernel) (by decide +kernel))⟩
theorem zfd_RX0_28 : zFd RX0 28 0 5 := ⟨_, _, _, rfl, by decide, zin0, Or.inl (zg_in 247 (by decide +kernel) (by decide +kernel))⟩
theorem zj_X0_measureDecimal : zJ zX0_measureDecimal 2 := ⟨(by decide +kernel), (by decide +kernel), (by decide +kernel), (by decide +kernel), (zg_in 110 (by decide +kernel) (by decide +kernel)), fun _ => (zg_in 385 (by decide +kernel) (by decide +kernel)), fun h => absurd rfl h⟩
theorem zc_RX0_76_v : 6 < zN ∧ zCv RX0 76 (zP 6) 2 := ⟨by decide, zj_X0_measureDecimal, (zg_in 382 (by decide +kernel) (by decide +kernel)), (zg_in 384 (by decide +kernel) (by decide +kernel)), (zg_in 5 (by decide +kernel) (by decide +kernel))⟩
theorem zj_X0_measurePlain : zJ zX0_measurePlain 2 := ⟨(by decide +kernel), (by decide +kernel), (by decide +kernel), (by decide +kernel), (zg_in 110 (by decide +kernel) (by decide +kernel)), fun _ => (zg_in 398 (by decide +kernel) (by decide +kernel)), fun h => absurd rfl h⟩
theorem zc_RX0_79_v : 7 < zN ∧ zCv RX0 79 (zP 7) 2 := ⟨by decide, zj_X0_measurePlain, (zg_in 395 (by decide +kernel) (by decide +kernel)), (zg_in 397 (by decide +kernel) (by decide +kernel)), (zg_in 6 (by decide +kernel) (by decide +kernel))⟩
theorem zfd_RX0_25 : zFd RX0 25 0 4 := ⟨_, _, _, rfl, by decide, zin0, Or.inl (zg_in 246 (by decide +kernel) (by decide +kernel))⟩
theorem zfd_RX0_31 : zFd RX0 31 0 6 := ⟨_, _, _, rfl, by decide, zin0, Or.inl (zg_in 248 (by decide +kernel) (by decide +kernel))⟩
theorem zj_X2_widthFor : zJ zX2_widthFor 1 := ⟨(by decide +kernel), (by decide +kernel), (by decide +kernel), (by decide +kernel), (zg_in 105 (by decide +kernel) (by decide +kernel)), fun _ => (zg_in 402 (by decide +kernel) (by decide +kernel)), fun h => absurd rfl h⟩
theorem zc_RX0_82_v : 51 < zN ∧ zCv RX0 82 (zP 51) 1 := ⟨by decide, zj_X2_widthFor, (zg_in 399 (by decide +kernel) (by decide +kernel)), (zg_in 400 (by decide +kernel) (by decide +kernel)), (zg_in 401 (by decide +kernel) (by decide +kernel))⟩
theorem zfd_RX0_34 : zFd RX0 34 0 7 := ⟨_, _, _, rfl, by decide, zin0, Or.inl (zg_in 249 (by decide +kernel) (by decide +kernel))⟩
theorem zfd_RX0_40 : zFd RX0 40 0 9 := ⟨_, _, _, rfl, by decide, zin0, Or.inl (zg_in 251 (by decide +kernel) (by decide +kernel))⟩
theorem zj_X1_kind : zJ zX1_kind 2 := ⟨(by decide +kernel), (by decide +kernel), (by decide +kernel), (by decide +kernel), (zg_in 109 (by decide +kernel) (by decide +kernel)), fun _ => (zg_in 365 (by decide +kernel) (by decide +kernel)), fun h => absurd rfl h⟩
theorem zc_RX0_85_v : 32 < zN ∧ zCv RX0 85 (zP 32) 2 := ⟨by decide, zj_X1_kind, (zg_in 362 (by decide +kernel) (by decide +kernel)), (zg_in 363 (by decide +kernel) (by decide +kernel)), (zg_in 364 (by decide +kernel) (by decide +kernel))⟩
theorem zj_X1_value : zJ zX1_value 2 := ⟨(by decide +kernel), (by decide +kernel), (by decide +kernel), (by decide +kernel), (zg_in 109 (by decide +kernel) (by decide +kernel)), fun _ => (zg_in 373 (by decide +kernel) (by decide +kernel)), fun h => absurd rfl h⟩
theorem zc_RX0_89_v : 34 < zN ∧ zCv RX0 89 (zP 34) 2 := ⟨by decide, zj_X1_value, (zg_in 370 (by decide +kernel) (by decide +kernel)), (zg_in 371 (by decide +kernel) (by decide +kernel)), (zg_in 372 (by decide +kernel) (by decide +kernel))⟩
theorem zj_X1_length : zJ zX1_length 2 := ⟨(by decide +kernel), (by decide +kernel), (by decide +kernel), (by decide +kernel), (zg_in 109 (by decide +kernel) (by decide +kernel)), fun _ => (zg_in 389 (by decide +kernel) (by decide +kernel)), fun h => absurd rfl h⟩
theorem zc_RX0_93_v : 31 < zN ∧ zCv RX0 93 (zP 31) 2 := ⟨by decide, zj_X1_length, (zg_in 386 (by decide +kernel) (by decide +kernel)), (zg_in 387 (by decide +kernel) (by decide +kernel)), (zg_in 388 (by decide +kernel) (by decide +kernel))⟩
theorem zj_X1_whole : zJ zX1_whole 2 := ⟨(by decide +kernel), (by decide +kernel), (by decide +kernel), (by decide +kernel), (zg_in 109 (by decide +kernel) (by decide +kernel)), fun _ => (zg_in 393 (by decide +kernel) (by decide +kernel)), fun h => absurd rfl h⟩
theorem zc_RX0_96_v : 33 < zN ∧ zCv RX0 96 (zP 33) 2 := ⟨by decide, zj_X1_whole, (zg_in 390 (by decide +kernel) (by decide +kernel)), (zg_in 391 (by decide +kernel) (by decide +kernel)), (zg_in 392 (by decide +kernel) (by decide +kernel))⟩
theorem zfd_RX0_37 : zFd RX0 37 0 8 := ⟨_, _, _, rfl, by decide, zin0, Or.inl (zg_in 250 (by decide +kernel) (by decide +kernel))⟩
theorem zj_X0_has : zJ zX0_has 1 := ⟨(by decide +kernel), (by decide +kernel), (by decide +kernel), (by decide +kernel), (zg_in 110 (by decide +kernel) (by decide +kernel)), fun _ => (zg_in 425 (by decide +kernel) (by decide +kernel)), fun h => absurd rfl h⟩
theorem zc_RX0_104_v : 9 < zN ∧ zCv RX0 104 (zP 9) 1 := ⟨by decide, zj_X0_has, (zg_in 422 (by decide +kernel) (by decide +kernel)), (zg_in 424 (by decide +kernel) (by decide +kernel)), (zg_in 7 (by decide +kernel) (by decide +kernel))⟩
theorem zj_X0_fact : zJ zX0_fact 2 := ⟨(by decide +kernel), (by decide +kernel), (by decide +kernel), (by decide +kernel), (zg_in 110 (by decide +kernel) (by decide +kernel)), fun _ => (zg_in 590 (by decide +kernel) (by decide +kernel)), fun h => absurd rfl h⟩
theorem zc_RX0_108_v : 10 < zN ∧ zCv RX0 108 (zP 10) 2 := ⟨by decide, zj_X0_fact, (zg_in 587 (by decide +kernel) (by decide +kernel)), (zg_in 588 (by decide +kernel) (by decide +kernel)), (zg_in 589 (by decide +kernel) (by decide +kernel))⟩
theorem zj_X9_mix : zJ zX9_mix 2 := ⟨(by decide +kernel), (by decide +kernel), (by decide +kernel), (by decide +kernel), (zg_in 103 (by decide +kernel) (by decide +kernel)), fun _ => (zg_in 525 (by decide +kernel) (by decide +kernel)), fun h => absurd rfl h⟩
theorem zc_RX0_111_s : 156 < zN ∧ zCs RX0 111 (zP 156) 2 := ⟨by decide, zj_X9_mix, (zg_in 524 (by decide +kernel) (by decide +kernel)), Or.inr ⟨rfl, ⟨RX9, List.mem_of_getElem? (i := 591) (by decide +kernel)⟩⟩⟩
theorem zpt_RX1_9i {n : String} : zPt RX1 n 9 1 0 := ⟨_, _, _, rfl, by decide, zin1, (zg_in 213 (by decide +kernel) (by decide +kernel)), tyX1_ok, nmX1, Or.inl rfl⟩
theorem zpt_RX1_15i : zPt RX1 "<init>" 15 1 1 := ⟨_, _, _, rfl, by decide, zin1, (zg_in 214 (by decide +kernel) (by decide +kernel)), tyX1_ok, nmX1, Or.inr ⟨rfl, rfl, rfl⟩⟩
theorem zpt_RX1_19i : zPt RX1 "<init>" 19 1 2 := ⟨_, _, _, rfl, by decide, zin1, (zg_in 215 (by decide +kernel) (by decide +kernel)), tyX1_ok, nmX1, Or.inr ⟨rfl, rfl, rfl⟩⟩
theorem zpt_RX1_22i : zPt RX1 "<init>" 22 1 3 := ⟨_, _, _, rfl, by decide, zin1, (zg_in 216 (by decide +kernel) (by decide +kernel)), tyX1_ok, nmX1, Or.inr ⟨rfl, rfl, rfl⟩⟩
theorem zpt_RX1_25i : zPt RX1 "<init>" 25 1 4 := ⟨_, _, _, rfl, by decide, zin1, (zg_in 217 (by decide +kernel) (by decide +kernel)), tyX1_ok, nmX1, Or.inr ⟨rfl, rfl, rfl⟩⟩
theorem zpt_RX1_28i : zPt RX1 "<init>" 28 1 5 := ⟨_, _, _, rfl, by decide, zin1, (zg_in 218 (by decide +kernel) (by decide +kernel)), tyX1_ok, nmX1, Or.inr ⟨rfl, rfl, rfl⟩⟩
theorem zpt_RX1_31i : zPt RX1 "<init>" 31 1 6 := ⟨_, _, _, rfl, by decide, zin1, (zg_in 219 (by decide +kernel) (by decide +kernel)), tyX1_ok, nmX1, Or.inr ⟨rfl, rfl, rfl⟩⟩
theorem zj_X7_size : zJ zX7_size 0 := ⟨(by decide +kernel), (by decide +kernel), (by decide +kernel), (by decide +kernel), (zg_in 107 (by decide +kernel) (by decide +kernel)), fun _ => (zg_in 303 (by decide +kernel) (by decide +kernel)), fun h => absurd rfl h⟩
theorem zc_RX1_35_v : 88 < zN ∧ zCv RX1 35 (zP 88) 0 := ⟨by decide, zj_X7_size, (zg_in 300 (by decide +kernel) (by decide +kernel)), (zg_in 301 (by decide +kernel) (by decide +kernel)), (zg_in 302 (by decide +kernel) (by decide +kernel))⟩
theorem zj_X7_codeAt : zJ zX7_codeAt 1 := ⟨(by decide +kernel), (by decide +kernel), (by decide +kernel), (by decide +kernel), (zg_in 107 (by decide +kernel) (by decide +kernel)), fun _ => (zg_in 307 (by decide +kernel) (by decide +kernel)), fun h => absurd rfl h⟩
theorem zc_RX1_41_v : 89 < zN ∧ zCv RX1 41 (zP 89) 1 := ⟨by decide, zj_X7_codeAt, (zg_in 304 (by decide +kernel) (by decide +kernel)), (zg_in 305 (by decide +kernel) (by decide +kernel)), (zg_in 306 (by decide +kernel) (by decide +kernel))⟩
theorem zj_X1_readCell : zJ zX1_readCell 5 := ⟨(by decide +kernel), (by decide +kernel), (by decide +kernel), (by decide +kernel), (zg_in 109 (by decide +kernel) (by decide +kernel)), fun _ => (zg_in 311 (by decide +kernel) (by decide +kernel)), fun h => absurd rfl h⟩
theorem zc_RX1_45_v : 23 < zN ∧ zCv RX1 45 (zP 23) 5 := ⟨by decide, zj_X1_readCell, (zg_in 308 (by decide +kernel) (by decide +kernel)), (zg_in 310 (by decide +kernel) (by decide +kernel)), (zg_in 1 (by decide +kernel) (by decide +kernel))⟩
theorem zj_X1_slot : zJ zX1_slot 2 := ⟨(by decide +kernel), (by decide +kernel), (by decide +kernel), (by decide +kernel), (zg_in 109 (by decide +kernel) (by decide +kernel)), fun _ => (zg_in 314 (by decide +kernel) (by decide +kernel)), fun h => absurd rfl h⟩
theorem zc_RX1_49_s : 24 < zN ∧ zCs RX1 49 (zP 24) 2 := ⟨by decide, zj_X1_slot, (zg_in 313 (by decide +kernel) (by decide +kernel)), Or.inl (zg_in 312 (by decide +kernel) (by decide +kernel))⟩
theorem zj_X8_kindOf : zJ zX8_kindOf 3 := ⟨(by decide +kernel), (by decide +kernel), (by decide +kernel), (by decide +kernel), (zg_in 111 (by decide +kernel) (by decide +kernel)), fun _ => (zg_in 317 (by decide +kernel) (by decide +kernel)), fun h => absurd rfl h⟩
theorem zc_RX1_53_s : 101 < zN ∧ zCs RX1 53 (zP 101) 3 := ⟨by decide, zj_X8_kindOf, (zg_in 316 (by decide +kernel) (by decide +kernel)), Or.inl (zg_in 315 (by decide +kernel) (by decide +kernel))⟩
theorem zfd_RX1_19 : zFd RX1 19 1 2 := ⟨_, _, _, rfl, by decide, zin1, Or.inl (zg_in 215 (by decide +kernel) (by decide +kernel))⟩
theorem zfd_RX1_22 : zFd RX1 22 1 3 := ⟨_, _, _, rfl, by decide, zin1, Or.inl (zg_in 216 (by decide +kernel) (by decide +kernel))⟩
theorem zfd_RX1_25 : zFd RX1 25 1 4 := ⟨_, _, _, rfl, by decide, zin1, Or.inl (zg_in 217 (by decide +kernel) (by decide +kernel))⟩
theorem zfd_RX1_28 : zFd RX1 28 1 5 := ⟨_, _, _, rfl, by decide, zin1, Or.inl (zg_in 218 (by decide +kernel) (by decide +kernel))⟩
theorem zj_X8_wholeLength : zJ zX8_wholeLength 3 := ⟨(by decide +kernel), (by decide +kernel), (by decide +kernel), (by decide +kernel), (zg_in 111 (by decide +kernel) (by decide +kernel)), fun _ => (zg_in 330 (by decide +kernel) (by decide +kernel)), fun h => absurd rfl h⟩
theorem zc_RX1_59_s : 104 < zN ∧ zCs RX1 59 (zP 104) 3 := ⟨by decide, zj_X8_wholeLength, (zg_in 329 (by decide +kernel) (by decide +kernel)), Or.inl (zg_in 328 (by decide +kernel) (by decide +kernel))⟩
theorem zfd_RX1_31 : zFd RX1 31 1 6 := ⟨_, _, _, rfl, by decide, zin1, Or.inl (zg_in 219 (by decide +kernel) (by decide +kernel))⟩
theorem zj_X8_valueOf : zJ zX8_valueOf 3 := ⟨(by decide +kernel), (by decide +kernel), (by decide +kernel), (by decide +kernel), (zg_in 111 (by decide +kernel) (by decide +kernel)), fun _ => (zg_in 333 (by decide +kernel) (by decide +kernel)), fun h => absurd rfl h⟩
theorem zc_RX1_62_s : 105 < zN ∧ zCs RX1 62 (zP 105) 3 := ⟨by decide, zj_X8_valueOf, (zg_in 332 (by decide +kernel) (by decide +kernel)), Or.inl (zg_in 331 (by decide +kernel) (by decide +kernel))⟩
theorem zfd_RX1_15 : zFd RX1 15 1 1 := ⟨_, _, _, rfl, by decide, zin1, Or.inl (zg_in 214 (by decide +kernel) (by decide +kernel))⟩
theorem zpt_RX1_9 {n : String} : zPt RX1 n 9 1 0 := ⟨_, _, _, rfl, by decide, zin1, (zg_in 213 (by decide +kernel) (by decide +kernel)), tyX1_ok, nmX1, Or.inl rfl⟩
theorem zfd_RX1_9 : zFd RX1 9 1 0 := ⟨_, _, _, rfl, by decide, zin1, Or.inl (zg_in 213 (by decide +kernel) (by decide +kernel))⟩
theorem zj_X1_hasCell : zJ zX1_hasCell 2 := ⟨(by decide +kernel), (by decide +kernel), (by decide +kernel), (by decide +kernel), (zg_in 109 (by decide +kernel) (by decide +kernel)), fun _ => (zg_in 369 (by decide +kernel) (by decide +kernel)), fun h => absurd rfl h⟩
theorem zc_RX1_66_v : 27 < zN ∧ zCv RX1 66 (zP 27) 2 := ⟨by decide, zj_X1_hasCell, (zg_in 366 (by decide +kernel) (by decide +kernel)), (zg_in 367 (by decide +kernel) (by decide +kernel)), (zg_in 368 (by decide +kernel) (by decide +kernel))⟩
theorem zj_X1_start : zJ zX1_start 2 := ⟨(by decide +kernel), (by decide +kernel), (by decide +kernel), (by decide +kernel), (zg_in 109 (by decide +kernel) (by decide +kernel)), fun _ => (zg_in 581 (by decide +kernel) (by decide +kernel)), fun h => absurd rfl h⟩
theorem zc_RX1_70_v : 30 < zN ∧ zCv RX1 70 (zP 30) 2 := ⟨by decide, zj_X1_start, (zg_in 859 (by decide +kernel) (by decide +kernel)), (zg_in 579 (by decide +kernel) (by decide +kernel)), (zg_in 580 (by decide +kernel) (by decide +kernel))⟩
theorem zj_X1_cellsOf : zJ zX1_cellsOf 1 := ⟨(by decide +kernel), (by decide +kernel), (by decide +kernel), (by decide +kernel), (zg_in 109 (by decide +kernel) (by decide +kernel)), fun _ => (zg_in 412 (by decide +kernel) (by decide +kernel)), fun h => absurd rfl h⟩
theorem zc_RX1_73_v : 29 < zN ∧ zCv RX1 73 (zP 29) 1 := ⟨by decide, zj_X1_cellsOf, (zg_in 484 (by decide +kernel) (by decide +kernel)), (zg_in 410 (by decide +kernel) (by decide +kernel)), (zg_in 411 (by decide +kernel) (by decide +kernel))⟩
theorem zc_RX1_76_v : 31 < zN ∧ zCv RX1 76 (zP 31) 2 := ⟨by decide, zj_X1_length, (zg_in 493 (by decide +kernel) (by decide +kernel)), (zg_in 387 (by decide +kernel) (by decide +kernel)), (zg_in 388 (by decide +kernel) (by decide +kernel))⟩
theorem zc_RX1_79_v : 28 < zN ∧ zCv RX1 79 (zP 28) 2 := ⟨by decide, zj_X1_endsWithTab, (zg_in 545 (by decide +kernel) (by decide +kernel)), (zg_in 348 (by decide +kernel) (by decide +kernel)), (zg_in 349 (by decide +kernel) (by decide +kernel))⟩
theorem zj_X1_hasLine : zJ zX1_hasLine 1 := ⟨(by decide +kernel), (by decide +kernel), (by decide +kernel), (by decide +kernel), (zg_in 109 (by decide +kernel) (by decide +kernel)), fun _ => (zg_in 832 (by decide +kernel) (by decide +kernel)), fun h => absurd rfl h⟩
theorem zc_RX1_82_v : 26 < zN ∧ zCv RX1 82 (zP 26) 1 := ⟨by decide, zj_X1_hasLine, (zg_in 829 (by decide +kernel) (by decide +kernel)), (zg_in 830 (by decide +kernel) (by decide +kernel)), (zg_in 831 (by decide +kernel) (by decide +kernel))⟩
theorem zj_X1_signsOf : zJ zX1_signsOf 1 := ⟨(by decide +kernel), (by decide +kernel), (by decide +kernel), (by decide +kernel), (zg_in 109 (by decide +kernel) (by decide +kernel)), fun _ => (zg_in 492 (by decide +kernel) (by decide +kernel)), fun h => absurd rfl h⟩
theorem zc_RX1_86_v : 42 < zN ∧ zCv RX1 86 (zP 42) 1 := ⟨by decide, zj_X1_signsOf, (zg_in 489 (by decide +kernel) (by decide +kernel)), (zg_in 490 (by decide +kernel) (by decide +kernel)), (zg_in 491 (by decide +kernel) (by decide +kernel))⟩
theorem zc_RX1_89_v : 32 < zN ∧ zCv RX1 89 (zP 32) 2 := ⟨by decide, zj_X1_kind, (zg_in 499 (by decide +kernel) (by decide +kernel)), (zg_in 363 (by decide +kernel) (by decide +kernel)), (zg_in 364 (by decide +kernel) (by decide +kernel))⟩
theorem zpt_RX2_9i : zPt RX2 "<init>" 9 2 0 := ⟨_, _, _, rfl, by decide, zin2, (zg_in 152 (by decide +kernel) (by decide +kernel)), tyX2_ok, nmX2, Or.inr ⟨rfl, rfl, rfl⟩⟩
theorem zpt_RX2_15i {n : String} : zPt RX2 n 15 2 1 := ⟨_, _, _, rfl, by decide, zin2, (zg_in 153 (by decide +kernel) (by decide +kernel)), tyX2_ok, nmX2, Or.inl rfl⟩
theorem zpt_RX2_19i {n : String} : zPt RX2 n 19 2 2 := ⟨_, _, _, rfl, by decide, zin2, (zg_in 154 (by decide +kernel) (by decide +kernel)), tyX2_ok, nmX2, Or.inl rfl⟩
theorem zpt_RX2_22i {n : String} : zPt RX2 n 22 2 3 := ⟨_, _, _, rfl, by decide, zin2, (zg_in 155 (by decide +kernel) (by decide +kernel)), tyX2_ok, nmX2, Or.inl rfl⟩
theorem zfd_RX2_9 : zFd RX2 9 2 0 := ⟨_, _, _, rfl, by decide, zin2, Or.inl (zg_in 152 (by decide +kernel) (by decide +kernel))⟩
theorem zfd_RX2_15 : zFd RX2 15 2 1 := ⟨_, _, _, rfl, by decide, zin2, Or.inl (zg_in 153 (by decide +kernel) (by decide +kernel))⟩
theorem zc_RX2_25_v : 46 < zN ∧ zCv RX2 25 (zP 46) 1 := ⟨by decide, zj_X2_alignment, (zg_in 1046 (by decide +kernel) (by decide +kernel)), (zg_in 375 (by decide +kernel) (by decide +kernel)), (zg_in 376 (by decide +kernel) (by decide +kernel))⟩
theorem zpt_RX2_15 {n : String} : zPt RX2 n 15 2 1 := ⟨_, _, _, rfl, by decide, zin2, (zg_in 153 (by decide +kernel) (by decide +kernel)), tyX2_ok, nmX2, Or.inl rfl⟩
theorem zfd_RX2_19 : zFd RX2 19 2 2 := ⟨_, _, _, rfl, by decide, zin2, Or.inl (zg_in 154 (by decide +kernel) (by decide +kernel))⟩
theorem zpt_RX2_19 {n : String} : zPt RX2 n 19 2 2 := ⟨_, _, _, rfl, by decide, zin2, (zg_in 154 (by decide +kernel) (by decide +kernel)), tyX2_ok, nmX2, Or.inl rfl⟩
theorem zfd_RX2_22 : zFd RX2 22 2 3 := ⟨_, _, _, rfl, by decide, zin2, Or.inl (zg_in 155 (by decide +kernel) (by decide +kernel))⟩
theorem zpt_RX2_22 {n : String} : zPt RX2 n 22 2 3 := ⟨_, _, _, rfl, by decide, zin2, (zg_in 155 (by decide +kernel) (by decide +kernel)), tyX2_ok, nmX2, Or.inl rfl⟩
theorem zc_RX2_35_s : 156 < zN ∧ zCs RX2 35 (zP 156) 2 := ⟨by decide, zj_X9_mix, (zg_in 524 (by decide +kernel) (by decide +kernel)), Or.inr ⟨rfl, ⟨RX9, List.mem_of_getElem? (i := 531) (by decide +kernel)⟩⟩⟩
theorem zpt_RX3_11i : zPt RX3 "<init>" 11 3 0 := ⟨_, _, _, rfl, by decide, zin3, (zg_in 185 (by decide +kernel) (by decide +kernel)), tyX3_ok, nmX3, Or.inr ⟨rfl, rfl, rfl⟩⟩
theorem znw_RX3_9 : zNw RX3 9 7 := ⟨_, _, _, rfl, zin7, tyX7_ok, (zg_in 171 (by decide +kernel) (by decide +kernel)), (zg_in 173 (by decide +kernel) (by decide +kernel)), (zg_in 107 (by decide +kernel) (by decide +kernel))⟩
theorem zj_X7_init : zJ zX7_init 0 := ⟨(by decide +kernel), (by decide +kernel), (by decide +kernel), (by decide +kernel), (zg_in 107 (by decide +kernel) (by decide +kernel)), fun _ => (zg_in 176 (by decide +kernel) (by decide +kernel)), fun h => absurd rfl h⟩
theorem zc_RX3_17_s : 87 < zN ∧ zCi RX3 17 (zP 87) 0 := ⟨by decide, zj_X7_init, rfl, rfl, rfl, (zg_in 175 (by decide +kernel) (by decide +kernel)), Or.inr ⟨RX9, List.mem_of_getElem? (i := 174) (by decide +kernel)⟩⟩
theorem zpt_RX3_18i {n : String} : zPt RX3 n 18 3 1 := ⟨_, _, _, rfl, by decide, zin3, (zg_in 186 (by decide +kernel) (by decide +kernel)), tyX3_ok, nmX3, Or.inl rfl⟩
theorem zpt_RX3_22i {n : String} : zPt RX3 n 22 3 2 := ⟨_, _, _, rfl, by decide, zin3, (zg_in 187 (by decide +kernel) (by decide +kernel)), tyX3_ok, nmX3, Or.inl rfl⟩
theorem zpt_RX3_26i {n : String} : zPt RX3 n 26 3 3 := ⟨_, _, _, rfl, by decide, zin3, (zg_in 188 (by decide +kernel) (by decide +kernel)), tyX3_ok, nmX3, Or.inl rfl⟩
theorem zpt_RX3_29i {n : String} : zPt RX3 n 29 3 4 := ⟨_, _, _, rfl, by decide, zin3, (zg_in 189 (by decide +kernel) (by decide +kernel)), tyX3_ok, nmX3, Or.inl rfl⟩
theorem zfd_RX3_11 : zFd RX3 11 3 0 := ⟨_, _, _, rfl, by decide, zin3, Or.inl (zg_in 185 (by decide +kernel) (by decide +kernel))⟩
theorem zfd_RX3_18 : zFd RX3 18 3 1 := ⟨_, _, _, rfl, by decide, zin3, Or.inl (zg_in 186 (by decide +kernel) (by decide +kernel))⟩
theorem zfd_RX3_26 : zFd RX3 26 3 3 := ⟨_, _, _, rfl, by decide, zin3, Or.inl (zg_in 188 (by decide +kernel) (by decide +kernel))⟩
theorem zfd_RX3_29 : zFd RX3 29 3 4 := ⟨_, _, _, rfl, by decide, zin3, Or.inl (zg_in 189 (by decide +kernel) (by decide +kernel))⟩
theorem zj_X3_placeBehind : zJ zX3_placeBehind 0 := ⟨(by decide +kernel), (by decide +kernel), (by decide +kernel), (by decide +kernel), (zg_in 106 (by decide +kernel) (by decide +kernel)), fun _ => (zg_in 737 (by decide +kernel) (by decide +kernel)), fun h => absurd rfl h⟩
theorem zc_RX3_32_v : 60 < zN ∧ zCv RX3 32 (zP 60) 0 := ⟨by decide, zj_X3_placeBehind, (zg_in 734 (by decide +kernel) (by decide +kernel)), (zg_in 736 (by decide +kernel) (by decide +kernel)), (zg_in 16 (by decide +kernel) (by decide +kernel))⟩
theorem zj_X7_becomeCopyOf : zJ zX7_becomeCopyOf 1 := ⟨(by decide +kernel), (by decide +kernel), (by decide +kernel), (by decide +kernel), (zg_in 107 (by decide +kernel) (by decide +kernel)), fun _ => (zg_in 741 (by decide +kernel) (by decide +kernel)), fun h => absurd rfl h⟩
theorem zc_RX3_36_v : 93 < zN ∧ zCv RX3 36 (zP 93) 1 := ⟨by decide, zj_X7_becomeCopyOf, (zg_in 738 (by decide +kernel) (by decide +kernel)), (zg_in 739 (by decide +kernel) (by decide +kernel)), (zg_in 740 (by decide +kernel) (by decide +kernel))⟩
theorem zpt_RX3_18 {n : String} : zPt RX3 n 18 3 1 := ⟨_, _, _, rfl, by decide, zin3, (zg_in 186 (by decide +kernel) (by decide +kernel)), tyX3_ok, nmX3, Or.inl rfl⟩
theorem zpt_RX3_22 {n : String} : zPt RX3 n 22 3 2 := ⟨_, _, _, rfl, by decide, zin3, (zg_in 187 (by decide +kernel) (by decide +kernel)), tyX3_ok, nmX3, Or.inl rfl⟩
theorem zpt_RX3_26 {n : String} : zPt RX3 n 26 3 3 := ⟨_, _, _, rfl, by decide, zin3, (zg_in 188 (by decide +kernel) (by decide +kernel)), tyX3_ok, nmX3, Or.inl rfl⟩
theorem zpt_RX3_29 {n : String} : zPt RX3 n 29 3 4 := ⟨_, _, _, rfl, by decide, zin3, (zg_in 189 (by decide +kernel) (by decide +kernel)), tyX3_ok, nmX3, Or.inl rfl⟩
theorem zfd_RX3_22 : zFd RX3 22 3 2 := ⟨_, _, _, rfl, by decide, zin3, Or.inl (zg_in 187 (by decide +kernel) (by decide +kernel))⟩
theorem zj_X3_goTo : zJ zX3_goTo 1 := ⟨(by decide +kernel), (by decide +kernel), (by decide +kernel), (by decide +kernel), (zg_in 106 (by decide +kernel) (by decide +kernel)), fun _ => (zg_in 1021 (by decide +kernel) (by decide +kernel)), fun h => absurd rfl h⟩
theorem zc_RX3_46_v : 61 < zN ∧ zCv RX3 46 (zP 61) 1 := ⟨by decide, zj_X3_goTo, (zg_in 1018 (by decide +kernel) (by decide +kernel)), (zg_in 1020 (by decide +kernel) (by decide +kernel)), (zg_in 28 (by decide +kernel) (by decide +kernel))⟩
theorem zpt_RX4_9i : zPt RX4 "<init>" 9 4 0 := ⟨_, _, _, rfl, by decide, zin4, (zg_in 138 (by decide +kernel) (by decide +kernel)), tyX4_ok, nmX4, Or.inr ⟨rfl, rfl, rfl⟩⟩
theorem zpt_RX4_15i {n : String} : zPt RX4 n 15 4 1 := ⟨_, _, _, rfl, by decide, zin4, (zg_in 139 (by decide +kernel) (by decide +kernel)), tyX4_ok, nmX4, Or.inl rfl⟩
theorem zfd_RX4_15 : zFd RX4 15 4 1 := ⟨_, _, _, rfl, by decide, zin4, Or.inl (zg_in 139 (by decide +kernel) (by decide +kernel))⟩
theorem zfd_RX4_9 : zFd RX4 9 4 0 := ⟨_, _, _, rfl, by decide, zin4, Or.inl (zg_in 138 (by decide +kernel) (by decide +kernel))⟩
theorem zpt_RX4_15 {n : String} : zPt RX4 n 15 4 1 := ⟨_, _, _, rfl, by decide, zin4, (zg_in 139 (by decide +kernel) (by decide +kernel)), tyX4_ok, nmX4, Or.inl rfl⟩
theorem zj_X4_codeAt : zJ zX4_codeAt 1 := ⟨(by decide +kernel), (by decide +kernel), (by decide +kernel), (by decide +kernel), (zg_in 104 (by decide +kernel) (by decide +kernel)), fun _ => (zg_in 768 (by decide +kernel) (by decide +kernel)), fun h => absurd rfl h⟩
theorem zc_RX4_19_v : 67 < zN ∧ zCv RX4 19 (zP 67) 1 := ⟨by decide, zj_X4_codeAt, (zg_in 765 (by decide +kernel) (by decide +kernel)), (zg_in 766 (by decide +kernel) (by decide +kernel)), (zg_in 767 (by decide +kernel) (by decide +kernel))⟩
theorem zj_X9_isSign : zJ zX9_isSign 1 := ⟨(by decide +kernel), (by decide +kernel), (by decide +kernel), (by decide +kernel), (zg_in 103 (by decide +kernel) (by decide +kernel)), fun _ => (zg_in 712 (by decide +kernel) (by decide +kernel)), fun h => absurd rfl h⟩
theorem zc_RX4_23_s : 157 < zN ∧ zCs RX4 23 (zP 157) 1 := ⟨by decide, zj_X9_isSign, (zg_in 711 (by decide +kernel) (by decide +kernel)), Or.inr ⟨rfl, ⟨RX9, List.mem_of_getElem? (i := 710) (by decide +kernel)⟩⟩⟩
theorem zc_RX4_27_s : 156 < zN ∧ zCs RX4 27 (zP 156) 2 := ⟨by decide, zj_X9_mix, (zg_in 524 (by decide +kernel) (by decide +kernel)), Or.inr ⟨rfl, ⟨RX9, List.mem_of_getElem? (i := 596) (by decide +kernel)⟩⟩⟩
theorem znw_RX5_9 : zNw RX5 9 1 := ⟨_, _, _, rfl, zin1, tyX1_ok, (zg_in 207 (by decide +kernel) (by decide +kernel)), (zg_in 208 (by decide +kernel) (by decide +kernel)), (zg_in 109 (by decide +kernel) (by decide +kernel))⟩
theorem zj_X1_init : zJ zX1_init 0 := ⟨(by decide +kernel), (by decide +kernel), (by decide +kernel), (by decide +kernel), (zg_in 109 (by decide +kernel) (by decide +kernel)), fun _ => (zg_in 211 (by decide +kernel) (by decide +kernel)), fun h => absurd rfl h⟩
theorem zc_RX5_11_s : 21 < zN ∧ zCi RX5 11 (zP 21) 0 := ⟨by decide, zj_X1_init, rfl, rfl, rfl, (zg_in 210 (by decide +kernel) (by decide +kernel)), Or.inr ⟨RX9, List.mem_of_getElem? (i := 209) (by decide +kernel)⟩⟩
theorem zpt_RX5_12i : zPt RX5 "<init>" 12 5 0 := ⟨_, _, _, rfl, by decide, zin5, (zg_in 273 (by decide +kernel) (by decide +kernel)), tyX5_ok, nmX5, Or.inr ⟨rfl, rfl, rfl⟩⟩
theorem znw_RX5_18 : zNw RX5 18 0 := ⟨_, _, _, rfl, zin0, tyX0_ok, (zg_in 236 (by decide +kernel) (by decide +kernel)), (zg_in 237 (by decide +kernel) (by decide +kernel)), (zg_in 110 (by decide +kernel) (by decide +kernel))⟩
theorem zj_X0_init : zJ zX0_init 0 := ⟨(by decide +kernel), (by decide +kernel), (by decide +kernel), (by decide +kernel), (zg_in 110 (by decide +kernel) (by decide +kernel)), fun _ => (zg_in 240 (by decide +kernel) (by decide +kernel)), fun h => absurd rfl h⟩
theorem zc_RX5_20_s : 0 < zN ∧ zCi RX5 20 (zP 0) 0 := ⟨by decide, zj_X0_init, rfl, rfl, rfl, (zg_in 239 (by decide +kernel) (by decide +kernel)), Or.inr ⟨RX9, List.mem_of_getElem? (i := 238) (by decide +kernel)⟩⟩
theorem zpt_RX5_21i : zPt RX5 "<init>" 21 5 1 := ⟨_, _, _, rfl, by decide, zin5, (zg_in 275 (by decide +kernel) (by decide +kernel)), tyX5_ok, nmX5, Or.inr ⟨rfl, rfl, rfl⟩⟩
theorem zpt_RX5_25i : zPt RX5 "<init>" 25 5 2 := ⟨_, _, _, rfl, by decide, zin5, (zg_in 277 (by decide +kernel) (by decide +kernel)), tyX5_ok, nmX5, Or.inr ⟨rfl, rfl, rfl⟩⟩
theorem zpt_RX5_29i : zPt RX5 "<init>" 29 5 3 := ⟨_, _, _, rfl, by decide, zin5, (zg_in 278 (by decide +kernel) (by decide +kernel)), tyX5_ok, nmX5, Or.inr ⟨rfl, rfl, rfl⟩⟩
theorem zfd_RX5_12 : zFd RX5 12 5 0 := ⟨_, _, _, rfl, by decide, zin5, Or.inl (zg_in 273 (by decide +kernel) (by decide +kernel))⟩
theorem zc_RX5_32_v : 25 < zN ∧ zCv RX5 32 (zP 25) 0 := ⟨by decide, zj_X1_lines, (zg_in 408 (by decide +kernel) (by decide +kernel)), (zg_in 344 (by decide +kernel) (by decide +kernel)), (zg_in 345 (by decide +kernel) (by decide +kernel))⟩
theorem zc_RX5_36_v : 29 < zN ∧ zCv RX5 36 (zP 29) 1 := ⟨by decide, zj_X1_cellsOf, (zg_in 409 (by decide +kernel) (by decide +kernel)), (zg_in 410 (by decide +kernel) (by decide +kernel)), (zg_in 411 (by decide +kernel) (by decide +kernel))⟩
theorem zfd_RX5_29 : zFd RX5 29 5 3 := ⟨_, _, _, rfl, by decide, zin5, Or.inl (zg_in 278 (by decide +kernel) (by decide +kernel))⟩
theorem zc_RX5_40_s : 24 < zN ∧ zCs RX5 40 (zP 24) 2 := ⟨by decide, zj_X1_slot, (zg_in 313 (by decide +kernel) (by decide +kernel)), Or.inl (zg_in 413 (by decide +kernel) (by decide +kernel))⟩
theorem zfd_RX5_21 : zFd RX5 21 5 1 := ⟨_, _, _, rfl, by decide, zin5, Or.inl (zg_in 275 (by decide +kernel) (by decide +kernel))⟩
theorem zj_X0_size : zJ zX0_size 0 := ⟨(by decide +kernel), (by decide +kernel), (by decide +kernel), (by decide +kernel), (zg_in 110 (by decide +kernel) (by decide +kernel)), fun _ => (zg_in 417 (by decide +kernel) (by decide +kernel)), fun h => absurd rfl h⟩
theorem zc_RX5_44_v : 8 < zN ∧ zCv RX5 44 (zP 8) 0 := ⟨by decide, zj_X0_size, (zg_in 414 (by decide +kernel) (by decide +kernel)), (zg_in 415 (by decide +kernel) (by decide +kernel)), (zg_in 416 (by decide +kernel) (by decide +kernel))⟩
theorem zj_X0_first : zJ zX0_first 1 := ⟨(by decide +kernel), (by decide +kernel), (by decide +kernel), (by decide +kernel), (zg_in 110 (by decide +kernel) (by decide +kernel)), fun _ => (zg_in 421 (by decide +kernel) (by decide +kernel)), fun h => absurd rfl h⟩
theorem zc_RX5_47_v : 12 < zN ∧ zCv RX5 47 (zP 12) 1 := ⟨by decide, zj_X0_first, (zg_in 418 (by decide +kernel) (by decide +kernel)), (zg_in 419 (by decide +kernel) (by decide +kernel)), (zg_in 420 (by decide +kernel) (by decide +kernel))⟩
theorem zj_X0_last : zJ zX0_last 1 := ⟨(by decide +kernel), (by decide +kernel), (by decide +kernel), (by decide +kernel), (zg_in 110 (by decide +kernel) (by decide +kernel)), fun _ => (zg_in 429 (by decide +kernel) (by decide +kernel)), fun h => absurd rfl h⟩
theorem zc_RX5_50_v : 13 < zN ∧ zCv RX5 50 (zP 13) 1 := ⟨by decide, zj_X0_last, (zg_in 426 (by decide +kernel) (by decide +kernel)), (zg_in 427 (by decide +kernel) (by decide +kernel)), (zg_in 428 (by decide +kernel) (by decide +kernel))⟩
theorem zj_X0_column : zJ zX0_column 1 := ⟨(by decide +kernel), (by decide +kernel), (by decide +kernel), (by decide +kernel), (zg_in 110 (by decide +kernel) (by decide +kernel)), fun _ => (zg_in 433 (by decide +kernel) (by decide +kernel)), fun h => absurd rfl h⟩
theorem zc_RX5_53_v : 11 < zN ∧ zCv RX5 53 (zP 11) 1 := ⟨by decide, zj_X0_column, (zg_in 430 (by decide +kernel) (by decide +kernel)), (zg_in 431 (by decide +kernel) (by decide +kernel)), (zg_in 432 (by decide +kernel) (by decide +kernel))⟩
theorem zj_X5_placeCellsOf : zJ zX5_placeCellsOf 1 := ⟨(by decide +kernel), (by decide +kernel), (by decide +kernel), (by decide +kernel), (zg_in 108 (by decide +kernel) (by decide +kernel)), fun _ => (zg_in 437 (by decide +kernel) (by decide +kernel)), fun h => absurd rfl h⟩
theorem zc_RX5_56_v : 73 < zN ∧ zCv RX5 56 (zP 73) 1 := ⟨by decide, zj_X5_placeCellsOf, (zg_in 434 (by decide +kernel) (by decide +kernel)), (zg_in 436 (by decide +kernel) (by decide +kernel)), (zg_in 8 (by decide +kernel) (by decide +kernel))⟩
theorem zfd_RX5_25 : zFd RX5 25 5 2 := ⟨_, _, _, rfl, by decide, zin5, Or.inl (zg_in 277 (by decide +kernel) (by decide +kernel))⟩
theorem zj_X0_width : zJ zX0_width 1 := ⟨(by decide +kernel), (by decide +kernel), (by decide +kernel), (by decide +kernel), (zg_in 110 (by decide +kernel) (by decide +kernel)), fun _ => (zg_in 441 (by decide +kernel) (by decide +kernel)), fun h => absurd rfl h⟩
theorem zc_RX5_60_v : 14 < zN ∧ zCv RX5 60 (zP 14) 1 := ⟨by decide, zj_X0_width, (zg_in 438 (by decide +kernel) (by decide +kernel)), (zg_in 439 (by decide +kernel) (by decide +kernel)), (zg_in 440 (by decide +kernel) (by decide +kernel))⟩
theorem zc_RX5_63_v : 27 < zN ∧ zCv RX5 63 (zP 27) 2 := ⟨by decide, zj_X1_hasCell, (zg_in 512 (by decide +kernel) (by decide +kernel)), (zg_in 367 (by decide +kernel) (by decide +kernel)), (zg_in 368 (by decide +kernel) (by decide +kernel))⟩
theorem zj_X5_blockNumber : zJ zX5_blockNumber 2 := ⟨(by decide +kernel), (by decide +kernel), (by decide +kernel), (by decide +kernel), (zg_in 108 (by decide +kernel) (by decide +kernel)), fun _ => (zg_in 559 (by decide +kernel) (by decide +kernel)), fun h => absurd rfl h⟩
theorem zc_RX5_67_v : 75 < zN ∧ zCv RX5 67 (zP 75) 2 := ⟨by decide, zj_X5_blockNumber, (zg_in 556 (by decide +kernel) (by decide +kernel)), (zg_in 557 (by decide +kernel) (by decide +kernel)), (zg_in 558 (by decide +kernel) (by decide +kernel))⟩
theorem zj_X2_padding : zJ zX2_padding 0 := ⟨(by decide +kernel), (by decide +kernel), (by decide +kernel), (by decide +kernel), (zg_in 105 (by decide +kernel) (by decide +kernel)), fun _ => (zg_in 563 (by decide +kernel) (by decide +kernel)), fun h => absurd rfl h⟩
theorem zc_RX5_70_v : 47 < zN ∧ zCv RX5 70 (zP 47) 0 := ⟨by decide, zj_X2_padding, (zg_in 560 (by decide +kernel) (by decide +kernel)), (zg_in 561 (by decide +kernel) (by decide +kernel)), (zg_in 562 (by decide +kernel) (by decide +kernel))⟩
theorem zc_RX5_75_v : 31 < zN ∧ zCv RX5 75 (zP 31) 2 := ⟨by decide, zj_X1_length, (zg_in 513 (by decide +kernel) (by decide +kernel)), (zg_in 387 (by decide +kernel) (by decide +kernel)), (zg_in 388 (by decide +kernel) (by decide +kernel))⟩
theorem zj_X0_alignment : zJ zX0_alignment 1 := ⟨(by decide +kernel), (by decide +kernel), (by decide +kernel), (by decide +kernel), (zg_in 110 (by decide +kernel) (by decide +kernel)), fun _ => (zg_in 567 (by decide +kernel) (by decide +kernel)), fun h => absurd rfl h⟩
theorem zc_RX5_78_v : 15 < zN ∧ zCv RX5 78 (zP 15) 1 := ⟨by decide, zj_X0_alignment, (zg_in 564 (by decide +kernel) (by decide +kernel)), (zg_in 565 (by decide +kernel) (by decide +kernel)), (zg_in 566 (by decide +kernel) (by decide +kernel))⟩
theorem zc_RX5_81_v : 32 < zN ∧ zCv RX5 81 (zP 32) 2 := ⟨by decide, zj_X1_kind, (zg_in 551 (by decide +kernel) (by decide +kernel)), (zg_in 363 (by decide +kernel) (by decide +kernel)), (zg_in 364 (by decide +kernel) (by decide +kernel))⟩
theorem zj_X0_fractionWidth : zJ zX0_fractionWidth 1 := ⟨(by decide +kernel), (by decide +kernel), (by decide +kernel), (by decide +kernel), (zg_in 110 (by decide +kernel) (by decide +kernel)), fun _ => (zg_in 571 (by decide +kernel) (by decide +kernel)), fun h => absurd rfl h⟩
theorem zc_RX5_84_v : 17 < zN ∧ zCv RX5 84 (zP 17) 1 := ⟨by decide, zj_X0_fractionWidth, (zg_in 568 (by decide +kernel) (by decide +kernel)), (zg_in 569 (by decide +kernel) (by decide +kernel)), (zg_in 570 (by decide +kernel) (by decide +kernel))⟩
theorem zc_RX5_87_v : 33 < zN ∧ zCv RX5 87 (zP 33) 2 := ⟨by decide, zj_X1_whole, (zg_in 572 (by decide +kernel) (by decide +kernel)), (zg_in 391 (by decide +kernel) (by decide +kernel)), (zg_in 392 (by decide +kernel) (by decide +kernel))⟩
theorem zj_X5_x : zJ zX5_x 2 := ⟨(by decide +kernel), (by decide +kernel), (by decide +kernel), (by decide +kernel), (zg_in 108 (by decide +kernel) (by decide +kernel)), fun _ => (zg_in 511 (by decide +kernel) (by decide +kernel)), fun h => absurd rfl h⟩
theorem zc_RX5_90_v : 74 < zN ∧ zCv RX5 90 (zP 74) 2 := ⟨by decide, zj_X5_x, (zg_in 508 (by decide +kernel) (by decide +kernel)), (zg_in 509 (by decide +kernel) (by decide +kernel)), (zg_in 510 (by decide +kernel) (by decide +kernel))⟩
theorem zj_X5_shift : zJ zX5_shift 3 := ⟨(by decide +kernel), (by decide +kernel), (by decide +kernel), (by decide +kernel), (zg_in 108 (by decide +kernel) (by decide +kernel)), fun _ => (zg_in 555 (by decide +kernel) (by decide +kernel)), fun h => absurd rfl h⟩
theorem zc_RX5_93_v : 76 < zN ∧ zCv RX5 93 (zP 76) 3 := ⟨by decide, zj_X5_shift, (zg_in 552 (by decide +kernel) (by decide +kernel)), (zg_in 553 (by decide +kernel) (by decide +kernel)), (zg_in 554 (by decide +kernel) (by decide +kernel))⟩
theorem zj_X5_shownLength : zJ zX5_shownLength 1 := ⟨(by decide +kernel), (by decide +kernel), (by decide +kernel), (by decide +kernel), (zg_in 108 (by decide +kernel) (by decide +kernel)), fun _ => (zg_in 507 (by decide +kernel) (by decide +kernel)), fun h => absurd rfl h⟩
theorem zc_RX5_97_v : 79 < zN ∧ zCv RX5 97 (zP 79) 1 := ⟨by decide, zj_X5_shownLength, (zg_in 504 (by decide +kernel) (by decide +kernel)), (zg_in 506 (by decide +kernel) (by decide +kernel)), (zg_in 11 (by decide +kernel) (by decide +kernel))⟩
theorem zc_RX5_100_v : 42 < zN ∧ zCv RX5 100 (zP 42) 1 := ⟨by decide, zj_X1_signsOf, (zg_in 540 (by decide +kernel) (by decide +kernel)), (zg_in 490 (by decide +kernel) (by decide +kernel)), (zg_in 491 (by decide +kernel) (by decide +kernel))⟩
theorem zj_X1_fixedLength : zJ zX1_fixedLength 1 := ⟨(by decide +kernel), (by decide +kernel), (by decide +kernel), (by decide +kernel), (zg_in 109 (by decide +kernel) (by decide +kernel)), fun _ => (zg_in 544 (by decide +kernel) (by decide +kernel)), fun h => absurd rfl h⟩
theorem zc_RX5_103_v : 44 < zN ∧ zCv RX5 103 (zP 44) 1 := ⟨by decide, zj_X1_fixedLength, (zg_in 541 (by decide +kernel) (by decide +kernel)), (zg_in 542 (by decide +kernel) (by decide +kernel)), (zg_in 543 (by decide +kernel) (by decide +kernel))⟩
theorem zpt_RX6_9i : zPt RX6 "<init>" 9 6 0 := ⟨_, _, _, rfl, by decide, zin6, (zg_in 892 (by decide +kernel) (by decide +kernel)), tyX6_ok, nmX6, Or.inr ⟨rfl, rfl, rfl⟩⟩
theorem zpt_RX6_21i : zPt RX6 "<init>" 21 6 1 := ⟨_, _, _, rfl, by decide, zin6, (zg_in 893 (by decide +kernel) (by decide +kernel)), tyX6_ok, nmX6, Or.inr ⟨rfl, rfl, rfl⟩⟩
theorem zfd_RX6_21 : zFd RX6 21 6 1 := ⟨_, _, _, rfl, by decide, zin6, Or.inl (zg_in 893 (by decide +kernel) (by decide +kernel))⟩
theorem zfd_RX6_9 : zFd RX6 9 6 0 := ⟨_, _, _, rfl, by decide, zin6, Or.inl (zg_in 892 (by decide +kernel) (by decide +kernel))⟩
theorem zpt_RX7_9i : zPt RX7 "<init>" 9 7 0 := ⟨_, _, _, rfl, by decide, zin7, (zg_in 178 (by decide +kernel) (by decide +kernel)), tyX7_ok, nmX7, Or.inr ⟨rfl, rfl, rfl⟩⟩
theorem zpt_RX7_15i {n : String} : zPt RX7 n 15 7 1 := ⟨_, _, _, rfl, by decide, zin7, (zg_in 179 (by decide +kernel) (by decide +kernel)), tyX7_ok, nmX7, Or.inl rfl⟩
theorem zfd_RX7_15 : zFd RX7 15 7 1 := ⟨_, _, _, rfl, by decide, zin7, Or.inl (zg_in 179 (by decide +kernel) (by decide +kernel))⟩
theorem zfd_RX7_9 : zFd RX7 9 7 0 := ⟨_, _, _, rfl, by decide, zin7, Or.inl (zg_in 178 (by decide +kernel) (by decide +kernel))⟩
theorem zpt_RX7_15 {n : String} : zPt RX7 n 15 7 1 := ⟨_, _, _, rfl, by decide, zin7, (zg_in 179 (by decide +kernel) (by decide +kernel)), tyX7_ok, nmX7, Or.inl rfl⟩
theorem zc_RX7_19_v : 89 < zN ∧ zCv RX7 19 (zP 89) 1 := ⟨by decide, zj_X7_codeAt, (zg_in 919 (by decide +kernel) (by decide +kernel)), (zg_in 305 (by decide +kernel) (by decide +kernel)), (zg_in 306 (by decide +kernel) (by decide +kernel))⟩
theorem zj_X7_add : zJ zX7_add 1 := ⟨(by decide +kernel), (by decide +kernel), (by decide +kernel), (by decide +kernel), (zg_in 107 (by decide +kernel) (by decide +kernel)), fun _ => (zg_in 914 (by decide +kernel) (by decide +kernel)), fun h => absurd rfl h⟩
theorem zc_RX7_23_v : 91 < zN ∧ zCv RX7 23 (zP 91) 1 := ⟨by decide, zj_X7_add, (zg_in 920 (by decide +kernel) (by decide +kernel)), (zg_in 912 (by decide +kernel) (by decide +kernel)), (zg_in 913 (by decide +kernel) (by decide +kernel))⟩
theorem zj_X7_open : zJ zX7_open 2 := ⟨(by decide +kernel), (by decide +kernel), (by decide +kernel), (by decide +kernel), (zg_in 107 (by decide +kernel) (by decide +kernel)), fun _ => (zg_in 760 (by decide +kernel) (by decide +kernel)), fun h => absurd rfl h⟩
theorem zc_RX7_33_v : 96 < zN ∧ zCv RX7 33 (zP 96) 2 := ⟨by decide, zj_X7_open, (zg_in 757 (by decide +kernel) (by decide +kernel)), (zg_in 759 (by decide +kernel) (by decide +kernel)), (zg_in 17 (by decide +kernel) (by decide +kernel))⟩
theorem zj_X4_length : zJ zX4_length 0 := ⟨(by decide +kernel), (by decide +kernel), (by decide +kernel), (by decide +kernel), (zg_in 104 (by decide +kernel) (by decide +kernel)), fun _ => (zg_in 728 (by decide +kernel) (by decide +kernel)), fun h => absurd rfl h⟩
theorem zc_RX7_37_v : 63 < zN ∧ zCv RX7 37 (zP 63) 0 := ⟨by decide, zj_X4_length, (zg_in 756 (by decide +kernel) (by decide +kernel)), (zg_in 726 (by decide +kernel) (by decide +kernel)), (zg_in 727 (by decide +kernel) (by decide +kernel))⟩
theorem zj_X4_pageCodeAt : zJ zX4_pageCodeAt 1 := ⟨(by decide +kernel), (by decide +kernel), (by decide +kernel), (by decide +kernel), (zg_in 104 (by decide +kernel) (by decide +kernel)), fun _ => (zg_in 764 (by decide +kernel) (by decide +kernel)), fun h => absurd rfl h⟩
theorem zc_RX7_43_v : 68 < zN ∧ zCv RX7 43 (zP 68) 1 := ⟨by decide, zj_X4_pageCodeAt, (zg_in 761 (by decide +kernel) (by decide +kernel)), (zg_in 762 (by decide +kernel) (by decide +kernel)), (zg_in 763 (by decide +kernel) (by decide +kernel))⟩
theorem zj_X7_runStart : zJ zX7_runStart 2 := ⟨(by decide +kernel), (by decide +kernel), (by decide +kernel), (by decide +kernel), (zg_in 107 (by decide +kernel) (by decide +kernel)), fun _ => (zg_in 998 (by decide +kernel) (by decide +kernel)), fun h => absurd rfl h⟩
theorem zc_RX7_46_v : 98 < zN ∧ zCv RX7 46 (zP 98) 2 := ⟨by decide, zj_X7_runStart, (zg_in 995 (by decide +kernel) (by decide +kernel)), (zg_in 997 (by decide +kernel) (by decide +kernel)), (zg_in 27 (by decide +kernel) (by decide +kernel))⟩
theorem zj_X7_cut : zJ zX7_cut 2 := ⟨(by decide +kernel), (by decide +kernel), (by decide +kernel), (by decide +kernel), (zg_in 107 (by decide +kernel) (by decide +kernel)), fun _ => (zg_in 837 (by decide +kernel) (by decide +kernel)), fun h => absurd rfl h⟩
theorem zc_RX7_50_v : 97 < zN ∧ zCv RX7 50 (zP 97) 2 := ⟨by decide, zj_X7_cut, (zg_in 1004 (by decide +kernel) (by decide +kernel)), (zg_in 835 (by decide +kernel) (by decide +kernel)), (zg_in 836 (by decide +kernel) (by decide +kernel))⟩
theorem zj_X7_put : zJ zX7_put 2 := ⟨(by decide +kernel), (by decide +kernel), (by decide +kernel), (by decide +kernel), (zg_in 107 (by decide +kernel) (by decide +kernel)), fun _ => (zg_in 817 (by decide +kernel) (by decide +kernel)), fun h => absurd rfl h⟩
theorem zc_RX7_54_v : 94 < zN ∧ zCv RX7 54 (zP 94) 2 := ⟨by decide, zj_X7_put, (zg_in 1005 (by decide +kernel) (by decide +kernel)), (zg_in 815 (by decide +kernel) (by decide +kernel)), (zg_in 816 (by decide +kernel) (by decide +kernel))⟩
theorem zj_X8_isBlank : zJ zX8_isBlank 3 := ⟨(by decide +kernel), (by decide +kernel), (by decide +kernel), (by decide +kernel), (zg_in 111 (by decide +kernel) (by decide +kernel)), fun _ => (zg_in 320 (by decide +kernel) (by decide +kernel)), fun h => absurd rfl h⟩
theorem zc_RX8_9_s : 102 < zN ∧ zCs RX8 9 (zP 102) 3 := ⟨by decide, zj_X8_isBlank, (zg_in 319 (by decide +kernel) (by decide +kernel)), Or.inl (zg_in 318 (by decide +kernel) (by decide +kernel))⟩
theorem zj_X8_isNumber : zJ zX8_isNumber 3 := ⟨(by decide +kernel), (by decide +kernel), (by decide +kernel), (by decide +kernel), (zg_in 111 (by decide +kernel) (by decide +kernel)), fun _ => (zg_in 324 (by decide +kernel) (by decide +kernel)), fun h => absurd rfl h⟩
theorem zc_RX8_15_s : 103 < zN ∧ zCs RX8 15 (zP 103) 3 := ⟨by decide, zj_X8_isNumber, (zg_in 323 (by decide +kernel) (by decide +kernel)), Or.inl (zg_in 322 (by decide +kernel) (by decide +kernel))⟩
theorem zc_RX8_18_v : 89 < zN ∧ zCv RX8 18 (zP 89) 1 := ⟨by decide, zj_X7_codeAt, (zg_in 321 (by decide +kernel) (by decide +kernel)), (zg_in 305 (by decide +kernel) (by decide +kernel)), (zg_in 306 (by decide +kernel) (by decide +kernel))⟩
theorem zj_X9_isDigit : zJ zX9_isDigit 1 := ⟨(by decide +kernel), (by decide +kernel), (by decide +kernel), (by decide +kernel), (zg_in 103 (by decide +kernel) (by decide +kernel)), fun _ => (zg_in 327 (by decide +kernel) (by decide +kernel)), fun h => absurd rfl h⟩
theorem zc_RX8_24_s : 158 < zN ∧ zCs RX8 24 (zP 158) 1 := ⟨by decide, zj_X9_isDigit, (zg_in 326 (by decide +kernel) (by decide +kernel)), Or.inr ⟨rfl, ⟨RX9, List.mem_of_getElem? (i := 325) (by decide +kernel)⟩⟩⟩
theorem zc_RX8_30_s : 104 < zN ∧ zCs RX8 30 (zP 104) 3 := ⟨by decide, zj_X8_wholeLength, (zg_in 329 (by decide +kernel) (by decide +kernel)), Or.inl (zg_in 335 (by decide +kernel) (by decide +kernel))⟩
theorem znw_RX9_9 : zNw RX9 9 4 := ⟨_, _, _, rfl, zin4, tyX4_ok, (zg_in 132 (by decide +kernel) (by decide +kernel)), (zg_in 133 (by decide +kernel) (by decide +kernel)), (zg_in 104 (by decide +kernel) (by decide +kernel))⟩
theorem zj_X4_init : zJ zX4_init 0 := ⟨(by decide +kernel), (by decide +kernel), (by decide +kernel), (by decide +kernel), (zg_in 104 (by decide +kernel) (by decide +kernel)), fun _ => (zg_in 136 (by decide +kernel) (by decide +kernel)), fun h => absurd rfl h⟩
theorem zc_RX9_11_s : 62 < zN ∧ zCi RX9 11 (zP 62) 0 := ⟨by decide, zj_X4_init, rfl, rfl, rfl, (zg_in 135 (by decide +kernel) (by decide +kernel)), Or.inr ⟨RX9, List.mem_of_getElem? (i := 134) (by decide +kernel)⟩⟩
theorem zpt_RX9_12i : zPt RX9 "<init>" 12 8 0 := ⟨_, _, _, rfl, by decide, zin8, (zg_in 442 (by decide +kernel) (by decide +kernel)), tyX9_ok, nmX9, Or.inr ⟨rfl, rfl, rfl⟩⟩
theorem znw_RX9_16 : zNw RX9 16 2 := ⟨_, _, _, rfl, zin2, tyX2_ok, (zg_in 146 (by decide +kernel) (by decide +kernel)), (zg_in 147 (by decide +kernel) (by decide +kernel)), (zg_in 105 (by decide +kernel) (by decide +kernel))⟩
theorem zj_X2_init : zJ zX2_init 0 := ⟨(by decide +kernel), (by decide +kernel), (by decide +kernel), (by decide +kernel), (zg_in 105 (by decide +kernel) (by decide +kernel)), fun _ => (zg_in 150 (by decide +kernel) (by decide +kernel)), fun h => absurd rfl h⟩
theorem zc_RX9_18_s : 45 < zN ∧ zCi RX9 18 (zP 45) 0 := ⟨by decide, zj_X2_init, rfl, rfl, rfl, (zg_in 149 (by decide +kernel) (by decide +kernel)), Or.inr ⟨RX9, List.mem_of_getElem? (i := 148) (by decide +kernel)⟩⟩
theorem zpt_RX9_19i : zPt RX9 "<init>" 19 8 1 := ⟨_, _, _, rfl, by decide, zin8, (zg_in 443 (by decide +kernel) (by decide +kernel)), tyX9_ok, nmX9, Or.inr ⟨rfl, rfl, rfl⟩⟩
theorem znw_RX9_23 : zNw RX9 23 3 := ⟨_, _, _, rfl, zin3, tyX3_ok, (zg_in 165 (by decide +kernel) (by decide +kernel)), (zg_in 166 (by decide +kernel) (by decide +kernel)), (zg_in 106 (by decide +kernel) (by decide +kernel))⟩
theorem zj_X3_init : zJ zX3_init 0 := ⟨(by decide +kernel), (by decide +kernel), (by decide +kernel), (by decide +kernel), (zg_in 106 (by decide +kernel) (by decide +kernel)), fun _ => (zg_in 169 (by decide +kernel) (by decide +kernel)), fun h => absurd rfl h⟩
theorem zc_RX9_25_s : 53 < zN ∧ zCi RX9 25 (zP 53) 0 := ⟨by decide, zj_X3_init, rfl, rfl, rfl, (zg_in 168 (by decide +kernel) (by decide +kernel)), Or.inl (zg_in 167 (by decide +kernel) (by decide +kernel))⟩
theorem zpt_RX9_26i : zPt RX9 "<init>" 26 8 2 := ⟨_, _, _, rfl, by decide, zin8, (zg_in 444 (by decide +kernel) (by decide +kernel)), tyX9_ok, nmX9, Or.inr ⟨rfl, rfl, rfl⟩⟩
theorem znw_RX9_30 : zNw RX9 30 5 := ⟨_, _, _, rfl, zin5, tyX5_ok, (zg_in 201 (by decide +kernel) (by decide +kernel)), (zg_in 202 (by decide +kernel) (by decide +kernel)), (zg_in 108 (by decide +kernel) (by decide +kernel))⟩
theorem zj_X5_init : zJ zX5_init 0 := ⟨(by decide +kernel), (by decide +kernel), (by decide +kernel), (by decide +kernel), (zg_in 108 (by decide +kernel) (by decide +kernel)), fun _ => (zg_in 205 (by decide +kernel) (by decide +kernel)), fun h => absurd rfl h⟩
theorem zc_RX9_32_s : 71 < zN ∧ zCi RX9 32 (zP 71) 0 := ⟨by decide, zj_X5_init, rfl, rfl, rfl, (zg_in 204 (by decide +kernel) (by decide +kernel)), Or.inr ⟨RX9, List.mem_of_getElem? (i := 203) (by decide +kernel)⟩⟩
theorem zpt_RX9_33i : zPt RX9 "<init>" 33 8 3 := ⟨_, _, _, rfl, by decide, zin8, (zg_in 445 (by decide +kernel) (by decide +kernel)), tyX9_ok, nmX9, Or.inr ⟨rfl, rfl, rfl⟩⟩
theorem zpt_RX9_37i : zPt RX9 "<init>" 37 8 4 := ⟨_, _, _, rfl, by decide, zin8, (zg_in 446 (by decide +kernel) (by decide +kernel)), tyX9_ok, nmX9, Or.inr ⟨rfl, rfl, rfl⟩⟩
theorem zfd_RX9_33 : zFd RX9 33 8 3 := ⟨_, _, _, rfl, by decide, zin8, Or.inl (zg_in 445 (by decide +kernel) (by decide +kernel))⟩
theorem zj_X9_measure : zJ zX9_measure 1 := ⟨(by decide +kernel), (by decide +kernel), (by decide +kernel), (by decide +kernel), (zg_in 103 (by decide +kernel) (by decide +kernel)), fun _ => (zg_in 291 (by decide +kernel) (by decide +kernel)), fun h => absurd rfl h⟩
theorem zc_RX9_40_v : 139 < zN ∧ zCv RX9 40 (zP 139) 1 := ⟨by decide, zj_X9_measure, (zg_in 288 (by decide +kernel) (by decide +kernel)), (zg_in 290 (by decide +kernel) (by decide +kernel)), (zg_in 0 (by decide +kernel) (by decide +kernel))⟩
set_option maxRecDepth 100000 in
theorem ztw_RX9_0_48 : ∀ w ∈ (vx_atS RX9 48 (zex 0) ["java/lang/RuntimeException", "java/lang/Exception"]), w ∈ lw_tbl ∧ (goodWord w = true ∨ zxw w = true) := by decide +kernel
theorem zfd_RX9_12 : zFd RX9 12 8 0 := ⟨_, _, _, rfl, by decide, zin8, Or.inl (zg_in 442 (by decide +kernel) (by decide +kernel))⟩
theorem zj_X4_isFull : zJ zX4_isFull 0 := ⟨(by decide +kernel), (by decide +kernel), (by decide +kernel), (by decide +kernel), (zg_in 104 (by decide +kernel) (by decide +kernel)), fun _ => (zg_in 677 (by decide +kernel) (by decide +kernel)), fun h => absurd rfl h⟩
theorem zc_RX9_51_v : 64 < zN ∧ zCv RX9 51 (zP 64) 0 := ⟨by decide, zj_X4_isFull, (zg_in 674 (by decide +kernel) (by decide +kernel)), (zg_in 675 (by decide +kernel) (by decide +kernel)), (zg_in 676 (by decide +kernel) (by decide +kernel))⟩
set_option maxRecDepth 100000 in
theorem ztw_RX9_1_59 : ∀ w ∈ (vx_atS RX9 59 (zex 1) ["java/lang/RuntimeException", "java/lang/Exception"]), w ∈ lw_tbl ∧ (goodWord w = true ∨ zxw w = true) := by decide +kernel
theorem zj_X4_add : zJ zX4_add 1 := ⟨(by decide +kernel), (by decide +kernel), (by decide +kernel), (by decide +kernel), (zg_in 104 (by decide +kernel) (by decide +kernel)), fun _ => (zg_in 697 (by decide +kernel) (by decide +kernel)), fun h => absurd rfl h⟩
theorem zc_RX9_60_v : 65 < zN ∧ zCv RX9 60 (zP 65) 1 := ⟨by decide, zj_X4_add, (zg_in 694 (by decide +kernel) (by decide +kernel)), (zg_in 695 (by decide +kernel) (by decide +kernel)), (zg_in 696 (by decide +kernel) (by decide +kernel))⟩
theorem zj_X4_empty : zJ zX4_empty 0 := ⟨(by decide +kernel), (by decide +kernel), (by decide +kernel), (by decide +kernel), (zg_in 104 (by decide +kernel) (by decide +kernel)), fun _ => (zg_in 465 (by decide +kernel) (by decide +kernel)), fun h => absurd rfl h⟩
theorem zc_RX9_64_v : 66 < zN ∧ zCv RX9 64 (zP 66) 0 := ⟨by decide, zj_X4_empty, (zg_in 462 (by decide +kernel) (by decide +kernel)), (zg_in 463 (by decide +kernel) (by decide +kernel)), (zg_in 464 (by decide +kernel) (by decide +kernel))⟩
theorem zj_X4_firstFault : zJ zX4_firstFault 1 := ⟨(by decide +kernel), (by decide +kernel), (by decide +kernel), (by decide +kernel), (zg_in 104 (by decide +kernel) (by decide +kernel)), fun _ => (zg_in 709 (by decide +kernel) (by decide +kernel)), fun h => absurd rfl h⟩
theorem zc_RX9_70_v : 69 < zN ∧ zCv RX9 70 (zP 69) 1 := ⟨by decide, zj_X4_firstFault, (zg_in 706 (by decide +kernel) (by decide +kernel)), (zg_in 707 (by decide +kernel) (by decide +kernel)), (zg_in 708 (by decide +kernel) (by decide +kernel))⟩
theorem zj_X9_requireInput : zJ zX9_requireInput 1 := ⟨(by decide +kernel), (by decide +kernel), (by decide +kernel), (by decide +kernel), (zg_in 103 (by decide +kernel) (by decide +kernel)), fun _ => (zg_in 724 (by decide +kernel) (by decide +kernel)), fun h => absurd rfl h⟩
theorem zc_RX9_73_v : 146 < zN ∧ zCv RX9 73 (zP 146) 1 := ⟨by decide, zj_X9_requireInput, (zg_in 721 (by decide +kernel) (by decide +kernel)), (zg_in 723 (by decide +kernel) (by decide +kernel)), (zg_in 15 (by decide +kernel) (by decide +kernel))⟩
theorem zfd_RX9_26 : zFd RX9 26 8 2 := ⟨_, _, _, rfl, by decide, zin8, Or.inl (zg_in 444 (by decide +kernel) (by decide +kernel))⟩
theorem zj_X3_save : zJ zX3_save 0 := ⟨(by decide +kernel), (by decide +kernel), (by decide +kernel), (by decide +kernel), (zg_in 106 (by decide +kernel) (by decide +kernel)), fun _ => (zg_in 733 (by decide +kernel) (by decide +kernel)), fun h => absurd rfl h⟩
theorem zc_RX9_77_v : 57 < zN ∧ zCv RX9 77 (zP 57) 0 := ⟨by decide, zj_X3_save, (zg_in 730 (by decide +kernel) (by decide +kernel)), (zg_in 731 (by decide +kernel) (by decide +kernel)), (zg_in 732 (by decide +kernel) (by decide +kernel))⟩
theorem zj_X7_clear : zJ zX7_clear 0 := ⟨(by decide +kernel), (by decide +kernel), (by decide +kernel), (by decide +kernel), (zg_in 107 (by decide +kernel) (by decide +kernel)), fun _ => (zg_in 751 (by decide +kernel) (by decide +kernel)), fun h => absurd rfl h⟩
theorem zc_RX9_81_v : 90 < zN ∧ zCv RX9 81 (zP 90) 0 := ⟨by decide, zj_X7_clear, (zg_in 748 (by decide +kernel) (by decide +kernel)), (zg_in 749 (by decide +kernel) (by decide +kernel)), (zg_in 750 (by decide +kernel) (by decide +kernel))⟩
theorem zj_X7_putInput : zJ zX7_putInput 2 := ⟨(by decide +kernel), (by decide +kernel), (by decide +kernel), (by decide +kernel), (zg_in 107 (by decide +kernel) (by decide +kernel)), fun _ => (zg_in 755 (by decide +kernel) (by decide +kernel)), fun h => absurd rfl h⟩
theorem zc_RX9_86_v : 95 < zN ∧ zCv RX9 86 (zP 95) 2 := ⟨by decide, zj_X7_putInput, (zg_in 752 (by decide +kernel) (by decide +kernel)), (zg_in 753 (by decide +kernel) (by decide +kernel)), (zg_in 754 (by decide +kernel) (by decide +kernel))⟩
theorem zj_X9_cells : zJ zX9_cells 0 := ⟨(by decide +kernel), (by decide +kernel), (by decide +kernel), (by decide +kernel), (zg_in 103 (by decide +kernel) (by decide +kernel)), fun _ => (zg_in 478 (by decide +kernel) (by decide +kernel)), fun h => absurd rfl h⟩
theorem zc_RX9_90_v : 138 < zN ∧ zCv RX9 90 (zP 138) 0 := ⟨by decide, zj_X9_cells, (zg_in 475 (by decide +kernel) (by decide +kernel)), (zg_in 477 (by decide +kernel) (by decide +kernel)), (zg_in 10 (by decide +kernel) (by decide +kernel))⟩
theorem zc_RX9_94_v : 25 < zN ∧ zCv RX9 94 (zP 25) 0 := ⟨by decide, zj_X1_lines, (zg_in 479 (by decide +kernel) (by decide +kernel)), (zg_in 344 (by decide +kernel) (by decide +kernel)), (zg_in 345 (by decide +kernel) (by decide +kernel))⟩
theorem zj_X9_requireTypable : zJ zX9_requireTypable 4 := ⟨(by decide +kernel), (by decide +kernel), (by decide +kernel), (by decide +kernel), (zg_in 103 (by decide +kernel) (by decide +kernel)), fun _ => (zg_in 780 (by decide +kernel) (by decide +kernel)), fun h => absurd rfl h⟩
theorem zc_RX9_99_v : 143 < zN ∧ zCv RX9 99 (zP 143) 4 := ⟨by decide, zj_X9_requireTypable, (zg_in 777 (by decide +kernel) (by decide +kernel)), (zg_in 779 (by decide +kernel) (by decide +kernel)), (zg_in 18 (by decide +kernel) (by decide +kernel))⟩
theorem zc_RX9_103_v : 30 < zN ∧ zCv RX9 103 (zP 30) 2 := ⟨by decide, zj_X1_start, (zg_in 578 (by decide +kernel) (by decide +kernel)), (zg_in 579 (by decide +kernel) (by decide +kernel)), (zg_in 580 (by decide +kernel) (by decide +kernel))⟩
theorem zc_RX9_107_v : 94 < zN ∧ zCv RX9 107 (zP 94) 2 := ⟨by decide, zj_X7_put, (zg_in 814 (by decide +kernel) (by decide +kernel)), (zg_in 815 (by decide +kernel) (by decide +kernel)), (zg_in 816 (by decide +kernel) (by decide +kernel))⟩
theorem zc_RX9_111_v : 29 < zN ∧ zCv RX9 111 (zP 29) 1 := ⟨by decide, zj_X1_cellsOf, (zg_in 546 (by decide +kernel) (by decide +kernel)), (zg_in 410 (by decide +kernel) (by decide +kernel)), (zg_in 411 (by decide +kernel) (by decide +kernel))⟩
theorem zc_RX9_114_v : 31 < zN ∧ zCv RX9 114 (zP 31) 2 := ⟨by decide, zj_X1_length, (zg_in 573 (by decide +kernel) (by decide +kernel)), (zg_in 387 (by decide +kernel) (by decide +kernel)), (zg_in 388 (by decide +kernel) (by decide +kernel))⟩
theorem zj_X9_requireOffset : zJ zX9_requireOffset 3 := ⟨(by decide +kernel), (by decide +kernel), (by decide +kernel), (by decide +kernel), (zg_in 103 (by decide +kernel) (by decide +kernel)), fun _ => (zg_in 784 (by decide +kernel) (by decide +kernel)), fun h => absurd rfl h⟩
theorem zc_RX9_117_v : 142 < zN ∧ zCv RX9 117 (zP 142) 3 := ⟨by decide, zj_X9_requireOffset, (zg_in 781 (by decide +kernel) (by decide +kernel)), (zg_in 783 (by decide +kernel) (by decide +kernel)), (zg_in 19 (by decide +kernel) (by decide +kernel))⟩
theorem zj_X1_canErase : zJ zX1_canErase 3 := ⟨(by decide +kernel), (by decide +kernel), (by decide +kernel), (by decide +kernel), (zg_in 109 (by decide +kernel) (by decide +kernel)), fun _ => (zg_in 828 (by decide +kernel) (by decide +kernel)), fun h => absurd rfl h⟩
theorem zc_RX9_121_v : 38 < zN ∧ zCv RX9 121 (zP 38) 3 := ⟨by decide, zj_X1_canErase, (zg_in 825 (by decide +kernel) (by decide +kernel)), (zg_in 826 (by decide +kernel) (by decide +kernel)), (zg_in 827 (by decide +kernel) (by decide +kernel))⟩
theorem zj_X3_page : zJ zX3_page 0 := ⟨(by decide +kernel), (by decide +kernel), (by decide +kernel), (by decide +kernel), (zg_in 106 (by decide +kernel) (by decide +kernel)), fun _ => (zg_in 295 (by decide +kernel) (by decide +kernel)), fun h => absurd rfl h⟩
theorem zc_RX9_127_v : 54 < zN ∧ zCv RX9 127 (zP 54) 0 := ⟨by decide, zj_X3_page, (zg_in 292 (by decide +kernel) (by decide +kernel)), (zg_in 293 (by decide +kernel) (by decide +kernel)), (zg_in 294 (by decide +kernel) (by decide +kernel))⟩
theorem zc_RX9_130_v : 89 < zN ∧ zCv RX9 130 (zP 89) 1 := ⟨by decide, zj_X7_codeAt, (zg_in 582 (by decide +kernel) (by decide +kernel)), (zg_in 305 (by decide +kernel) (by decide +kernel)), (zg_in 306 (by decide +kernel) (by decide +kernel))⟩
theorem zc_RX9_133_v : 97 < zN ∧ zCv RX9 133 (zP 97) 2 := ⟨by decide, zj_X7_cut, (zg_in 834 (by decide +kernel) (by decide +kernel)), (zg_in 835 (by decide +kernel) (by decide +kernel)), (zg_in 836 (by decide +kernel) (by decide +kernel))⟩
theorem zj_X9_requireCell : zJ zX9_requireCell 2 := ⟨(by decide +kernel), (by decide +kernel), (by decide +kernel), (by decide +kernel), (zg_in 103 (by decide +kernel) (by decide +kernel)), fun _ => (zg_in 788 (by decide +kernel) (by decide +kernel)), fun h => absurd rfl h⟩
theorem zc_RX9_136_v : 141 < zN ∧ zCv RX9 136 (zP 141) 2 := ⟨by decide, zj_X9_requireCell, (zg_in 785 (by decide +kernel) (by decide +kernel)), (zg_in 787 (by decide +kernel) (by decide +kernel)), (zg_in 20 (by decide +kernel) (by decide +kernel))⟩
set_option maxRecDepth 100000 in
theorem ztw_RX9_2_143 : ∀ w ∈ (vx_atS RX9 143 (zex 2) ["java/lang/RuntimeException", "java/lang/Exception"]), w ∈ lw_tbl ∧ (goodWord w = true ∨ zxw w = true) := by decide +kernel
theorem zc_RX9_146_v : 88 < zN ∧ zCv RX9 146 (zP 88) 0 := ⟨by decide, zj_X7_size, (zg_in 854 (by decide +kernel) (by decide +kernel)), (zg_in 301 (by decide +kernel) (by decide +kernel)), (zg_in 302 (by decide +kernel) (by decide +kernel))⟩
theorem zj_X1_lineStart : zJ zX1_lineStart 1 := ⟨(by decide +kernel), (by decide +kernel), (by decide +kernel), (by decide +kernel), (zg_in 109 (by decide +kernel) (by decide +kernel)), fun _ => (zg_in 858 (by decide +kernel) (by decide +kernel)), fun h => absurd rfl h⟩
theorem zc_RX9_149_v : 35 < zN ∧ zCv RX9 149 (zP 35) 1 := ⟨by decide, zj_X1_lineStart, (zg_in 855 (by decide +kernel) (by decide +kernel)), (zg_in 856 (by decide +kernel) (by decide +kernel)), (zg_in 857 (by decide +kernel) (by decide +kernel))⟩
theorem zj_X9_requireLine : zJ zX9_requireLine 1 := ⟨(by decide +kernel), (by decide +kernel), (by decide +kernel), (by decide +kernel), (zg_in 103 (by decide +kernel) (by decide +kernel)), fun _ => (zg_in 870 (by decide +kernel) (by decide +kernel)), fun h => absurd rfl h⟩
theorem zc_RX9_152_v : 140 < zN ∧ zCv RX9 152 (zP 140) 1 := ⟨by decide, zj_X9_requireLine, (zg_in 867 (by decide +kernel) (by decide +kernel)), (zg_in 869 (by decide +kernel) (by decide +kernel)), (zg_in 21 (by decide +kernel) (by decide +kernel))⟩
theorem zj_X1_lineEnd : zJ zX1_lineEnd 1 := ⟨(by decide +kernel), (by decide +kernel), (by decide +kernel), (by decide +kernel), (zg_in 109 (by decide +kernel) (by decide +kernel)), fun _ => (zg_in 877 (by decide +kernel) (by decide +kernel)), fun h => absurd rfl h⟩
theorem zc_RX9_157_v : 36 < zN ∧ zCv RX9 157 (zP 36) 1 := ⟨by decide, zj_X1_lineEnd, (zg_in 874 (by decide +kernel) (by decide +kernel)), (zg_in 875 (by decide +kernel) (by decide +kernel)), (zg_in 876 (by decide +kernel) (by decide +kernel))⟩
theorem znw_RX9_160 : zNw RX9 160 6 := ⟨_, _, _, rfl, zin6, tyX6_ok, (zg_in 885 (by decide +kernel) (by decide +kernel)), (zg_in 886 (by decide +kernel) (by decide +kernel)), (zg_in 121 (by decide +kernel) (by decide +kernel))⟩
theorem zj_X6_init : zJ zX6_init 1 := ⟨(by decide +kernel), (by decide +kernel), (by decide +kernel), (by decide +kernel), (zg_in 121 (by decide +kernel) (by decide +kernel)), fun _ => (zg_in 889 (by decide +kernel) (by decide +kernel)), fun h => absurd rfl h⟩
theorem zc_RX9_162_s : 83 < zN ∧ zCi RX9 162 (zP 83) 1 := ⟨by decide, zj_X6_init, rfl, rfl, rfl, (zg_in 888 (by decide +kernel) (by decide +kernel)), Or.inl (zg_in 887 (by decide +kernel) (by decide +kernel))⟩
theorem zj_X6_move : zJ zX6_move 2 := ⟨(by decide +kernel), (by decide +kernel), (by decide +kernel), (by decide +kernel), (zg_in 121 (by decide +kernel) (by decide +kernel)), fun _ => (zg_in 902 (by decide +kernel) (by decide +kernel)), fun h => absurd rfl h⟩
theorem zc_RX9_164_v : 85 < zN ∧ zCv RX9 164 (zP 85) 2 := ⟨by decide, zj_X6_move, (zg_in 899 (by decide +kernel) (by decide +kernel)), (zg_in 900 (by decide +kernel) (by decide +kernel)), (zg_in 901 (by decide +kernel) (by decide +kernel))⟩
theorem zj_X9_arrange : zJ zX9_arrange 1 := ⟨(by decide +kernel), (by decide +kernel), (by decide +kernel), (by decide +kernel), (zg_in 103 (by decide +kernel) (by decide +kernel)), fun _ => (zg_in 906 (by decide +kernel) (by decide +kernel)), fun h => absurd rfl h⟩
theorem zc_RX9_167_v : 149 < zN ∧ zCv RX9 167 (zP 149) 1 := ⟨by decide, zj_X9_arrange, (zg_in 903 (by decide +kernel) (by decide +kernel)), (zg_in 905 (by decide +kernel) (by decide +kernel)), (zg_in 22 (by decide +kernel) (by decide +kernel))⟩
theorem zfd_RX9_171 : zFd RX9 171 5 1 := ⟨_, _, _, rfl, by decide, zin5, Or.inr ⟨RX9, List.mem_of_getElem? (i := 276) (by decide +kernel)⟩⟩
theorem zc_RX9_175_v : 8 < zN ∧ zCv RX9 175 (zP 8) 0 := ⟨by decide, zj_X0_size, (zg_in 494 (by decide +kernel) (by decide +kernel)), (zg_in 415 (by decide +kernel) (by decide +kernel)), (zg_in 416 (by decide +kernel) (by decide +kernel))⟩
theorem zj_X9_requireBlock : zJ zX9_requireBlock 1 := ⟨(by decide +kernel), (by decide +kernel), (by decide +kernel), (by decide +kernel), (zg_in 103 (by decide +kernel) (by decide +kernel)), fun _ => (zg_in 931 (by decide +kernel) (by decide +kernel)), fun h => absurd rfl h⟩
theorem zc_RX9_178_v : 145 < zN ∧ zCv RX9 178 (zP 145) 1 := ⟨by decide, zj_X9_requireBlock, (zg_in 928 (by decide +kernel) (by decide +kernel)), (zg_in 930 (by decide +kernel) (by decide +kernel)), (zg_in 23 (by decide +kernel) (by decide +kernel))⟩
theorem zc_RX9_181_v : 12 < zN ∧ zCv RX9 181 (zP 12) 1 := ⟨by decide, zj_X0_first, (zg_in 933 (by decide +kernel) (by decide +kernel)), (zg_in 419 (by decide +kernel) (by decide +kernel)), (zg_in 420 (by decide +kernel) (by decide +kernel))⟩
theorem zc_RX9_184_v : 13 < zN ∧ zCv RX9 184 (zP 13) 1 := ⟨by decide, zj_X0_last, (zg_in 934 (by decide +kernel) (by decide +kernel)), (zg_in 427 (by decide +kernel) (by decide +kernel)), (zg_in 428 (by decide +kernel) (by decide +kernel))⟩
theorem zc_RX9_189_v : 11 < zN ∧ zCv RX9 189 (zP 11) 1 := ⟨by decide, zj_X0_column, (zg_in 936 (by decide +kernel) (by decide +kernel)), (zg_in 431 (by decide +kernel) (by decide +kernel)), (zg_in 432 (by decide +kernel) (by decide +kernel))⟩
theorem zj_X9_sortLines : zJ zX9_sortLines 5 := ⟨(by decide +kernel), (by decide +kernel), (by decide +kernel), (by decide +kernel), (zg_in 103 (by decide +kernel) (by decide +kernel)), fun _ => (zg_in 940 (by decide +kernel) (by decide +kernel)), fun h => absurd rfl h⟩
theorem zc_RX9_192_v : 150 < zN ∧ zCv RX9 192 (zP 150) 5 := ⟨by decide, zj_X9_sortLines, (zg_in 937 (by decide +kernel) (by decide +kernel)), (zg_in 939 (by decide +kernel) (by decide +kernel)), (zg_in 24 (by decide +kernel) (by decide +kernel))⟩
theorem zj_X6_moved : zJ zX6_moved 0 := ⟨(by decide +kernel), (by decide +kernel), (by decide +kernel), (by decide +kernel), (zg_in 121 (by decide +kernel) (by decide +kernel)), fun _ => (zg_in 963 (by decide +kernel) (by decide +kernel)), fun h => absurd rfl h⟩
theorem zc_RX9_196_v : 86 < zN ∧ zCv RX9 196 (zP 86) 0 := ⟨by decide, zj_X6_moved, (zg_in 960 (by decide +kernel) (by decide +kernel)), (zg_in 961 (by decide +kernel) (by decide +kernel)), (zg_in 962 (by decide +kernel) (by decide +kernel))⟩
theorem zj_X1_hasFullLine : zJ zX1_hasFullLine 2 := ⟨(by decide +kernel), (by decide +kernel), (by decide +kernel), (by decide +kernel), (zg_in 109 (by decide +kernel) (by decide +kernel)), fun _ => (zg_in 974 (by decide +kernel) (by decide +kernel)), fun h => absurd rfl h⟩
theorem zc_RX9_199_v : 39 < zN ∧ zCv RX9 199 (zP 39) 2 := ⟨by decide, zj_X1_hasFullLine, (zg_in 971 (by decide +kernel) (by decide +kernel)), (zg_in 972 (by decide +kernel) (by decide +kernel)), (zg_in 973 (by decide +kernel) (by decide +kernel))⟩
theorem zc_RX9_205_v : 32 < zN ∧ zCv RX9 205 (zP 32) 2 := ⟨by decide, zj_X1_kind, (zg_in 945 (by decide +kernel) (by decide +kernel)), (zg_in 363 (by decide +kernel) (by decide +kernel)), (zg_in 364 (by decide +kernel) (by decide +kernel))⟩
theorem zj_X7_countRuns : zJ zX7_countRuns 3 := ⟨(by decide +kernel), (by decide +kernel), (by decide +kernel), (by decide +kernel), (zg_in 107 (by decide +kernel) (by decide +kernel)), fun _ => (zg_in 994 (by decide +kernel) (by decide +kernel)), fun h => absurd rfl h⟩
theorem zc_RX9_210_v : 99 < zN ∧ zCv RX9 210 (zP 99) 3 := ⟨by decide, zj_X7_countRuns, (zg_in 991 (by decide +kernel) (by decide +kernel)), (zg_in 992 (by decide +kernel) (by decide +kernel)), (zg_in 993 (by decide +kernel) (by decide +kernel))⟩
theorem zj_X7_replaceRuns : zJ zX7_replaceRuns 3 := ⟨(by decide +kernel), (by decide +kernel), (by decide +kernel), (by decide +kernel), (zg_in 107 (by decide +kernel) (by decide +kernel)), fun _ => (zg_in 1003 (by decide +kernel) (by decide +kernel)), fun h => absurd rfl h⟩
theorem zc_RX9_216_v : 100 < zN ∧ zCv RX9 216 (zP 100) 3 := ⟨by decide, zj_X7_replaceRuns, (zg_in 1000 (by decide +kernel) (by decide +kernel)), (zg_in 1001 (by decide +kernel) (by decide +kernel)), (zg_in 1002 (by decide +kernel) (by decide +kernel))⟩
theorem zj_X3_undos : zJ zX3_undos 0 := ⟨(by decide +kernel), (by decide +kernel), (by decide +kernel), (by decide +kernel), (zg_in 106 (by decide +kernel) (by decide +kernel)), fun _ => (zg_in 518 (by decide +kernel) (by decide +kernel)), fun h => absurd rfl h⟩
theorem zc_RX9_219_v : 55 < zN ∧ zCv RX9 219 (zP 55) 0 := ⟨by decide, zj_X3_undos, (zg_in 515 (by decide +kernel) (by decide +kernel)), (zg_in 516 (by decide +kernel) (by decide +kernel)), (zg_in 517 (by decide +kernel) (by decide +kernel))⟩
theorem zj_X3_stepBack : zJ zX3_stepBack 0 := ⟨(by decide +kernel), (by decide +kernel), (by decide +kernel), (by decide +kernel), (zg_in 106 (by decide +kernel) (by decide +kernel)), fun _ => (zg_in 1017 (by decide +kernel) (by decide +kernel)), fun h => absurd rfl h⟩
theorem zc_RX9_224_v : 58 < zN ∧ zCv RX9 224 (zP 58) 0 := ⟨by decide, zj_X3_stepBack, (zg_in 1014 (by decide +kernel) (by decide +kernel)), (zg_in 1015 (by decide +kernel) (by decide +kernel)), (zg_in 1016 (by decide +kernel) (by decide +kernel))⟩
theorem zj_X3_redos : zJ zX3_redos 0 := ⟨(by decide +kernel), (by decide +kernel), (by decide +kernel), (by decide +kernel), (zg_in 106 (by decide +kernel) (by decide +kernel)), fun _ => (zg_in 522 (by decide +kernel) (by decide +kernel)), fun h => absurd rfl h⟩
theorem zc_RX9_227_v : 56 < zN ∧ zCv RX9 227 (zP 56) 0 := ⟨by decide, zj_X3_redos, (zg_in 519 (by decide +kernel) (by decide +kernel)), (zg_in 520 (by decide +kernel) (by decide +kernel)), (zg_in 521 (by decide +kernel) (by decide +kernel))⟩
theorem zj_X3_stepForward : zJ zX3_stepForward 0 := ⟨(by decide +kernel), (by decide +kernel), (by decide +kernel), (by decide +kernel), (zg_in 106 (by decide +kernel) (by decide +kernel)), fun _ => (zg_in 1033 (by decide +kernel) (by decide +kernel)), fun h => absurd rfl h⟩
theorem zc_RX9_232_v : 59 < zN ∧ zCv RX9 232 (zP 59) 0 := ⟨by decide, zj_X3_stepForward, (zg_in 1030 (by decide +kernel) (by decide +kernel)), (zg_in 1031 (by decide +kernel) (by decide +kernel)), (zg_in 1032 (by decide +kernel) (by decide +kernel))⟩
theorem zfd_RX9_19 : zFd RX9 19 8 1 := ⟨_, _, _, rfl, by decide, zin8, Or.inl (zg_in 443 (by decide +kernel) (by decide +kernel))⟩
theorem zj_X2_changeAlignment : zJ zX2_changeAlignment 2 := ⟨(by decide +kernel), (by decide +kernel), (by decide +kernel), (by decide +kernel), (zg_in 105 (by decide +kernel) (by decide +kernel)), fun _ => (zg_in 1045 (by decide +kernel) (by decide +kernel)), fun h => absurd rfl h⟩
theorem zc_RX9_237_v : 48 < zN ∧ zCv RX9 237 (zP 48) 2 := ⟨by decide, zj_X2_changeAlignment, (zg_in 1042 (by decide +kernel) (by decide +kernel)), (zg_in 1043 (by decide +kernel) (by decide +kernel)), (zg_in 1044 (by decide +kernel) (by decide +kernel))⟩
theorem zj_X2_allowsSpacing : zJ zX2_allowsSpacing 2 := ⟨(by decide +kernel), (by decide +kernel), (by decide +kernel), (by decide +kernel), (zg_in 105 (by decide +kernel) (by decide +kernel)), fun _ => (zg_in 1057 (by decide +kernel) (by decide +kernel)), fun h => absurd rfl h⟩
theorem zc_RX9_240_v : 49 < zN ∧ zCv RX9 240 (zP 49) 2 := ⟨by decide, zj_X2_allowsSpacing, (zg_in 1054 (by decide +kernel) (by decide +kernel)), (zg_in 1055 (by decide +kernel) (by decide +kernel)), (zg_in 1056 (by decide +kernel) (by decide +kernel))⟩
theorem zj_X2_changeSpacing : zJ zX2_changeSpacing 2 := ⟨(by decide +kernel), (by decide +kernel), (by decide +kernel), (by decide +kernel), (zg_in 105 (by decide +kernel) (by decide +kernel)), fun _ => (zg_in 1062 (by decide +kernel) (by decide +kernel)), fun h => absurd rfl h⟩
theorem zc_RX9_245_v : 50 < zN ∧ zCv RX9 245 (zP 50) 2 := ⟨by decide, zj_X2_changeSpacing, (zg_in 1059 (by decide +kernel) (by decide +kernel)), (zg_in 1060 (by decide +kernel) (by decide +kernel)), (zg_in 1061 (by decide +kernel) (by decide +kernel))⟩
theorem zj_X9_countFact : zJ zX9_countFact 1 := ⟨(by decide +kernel), (by decide +kernel), (by decide +kernel), (by decide +kernel), (zg_in 103 (by decide +kernel) (by decide +kernel)), fun _ => (zg_in 474 (by decide +kernel) (by decide +kernel)), fun h => absurd rfl h⟩
theorem zc_RX9_250_v : 154 < zN ∧ zCv RX9 250 (zP 154) 1 := ⟨by decide, zj_X9_countFact, (zg_in 471 (by decide +kernel) (by decide +kernel)), (zg_in 473 (by decide +kernel) (by decide +kernel)), (zg_in 9 (by decide +kernel) (by decide +kernel))⟩
theorem zj_X5_lineFact : zJ zX5_lineFact 2 := ⟨(by decide +kernel), (by decide +kernel), (by decide +kernel), (by decide +kernel), (zg_in 108 (by decide +kernel) (by decide +kernel)), fun _ => (zg_in 539 (by decide +kernel) (by decide +kernel)), fun h => absurd rfl h⟩
theorem zc_RX9_255_v : 78 < zN ∧ zCv RX9 255 (zP 78) 2 := ⟨by decide, zj_X5_lineFact, (zg_in 536 (by decide +kernel) (by decide +kernel)), (zg_in 537 (by decide +kernel) (by decide +kernel)), (zg_in 538 (by decide +kernel) (by decide +kernel))⟩
theorem zj_X5_cellFact : zJ zX5_cellFact 4 := ⟨(by decide +kernel), (by decide +kernel), (by decide +kernel), (by decide +kernel), (zg_in 108 (by decide +kernel) (by decide +kernel)), fun _ => (zg_in 550 (by decide +kernel) (by decide +kernel)), fun h => absurd rfl h⟩
theorem zc_RX9_258_v : 77 < zN ∧ zCv RX9 258 (zP 77) 4 := ⟨by decide, zj_X5_cellFact, (zg_in 547 (by decide +kernel) (by decide +kernel)), (zg_in 548 (by decide +kernel) (by decide +kernel)), (zg_in 549 (by decide +kernel) (by decide +kernel))⟩
theorem zj_X9_signAt : zJ zX9_signAt 3 := ⟨(by decide +kernel), (by decide +kernel), (by decide +kernel), (by decide +kernel), (zg_in 103 (by decide +kernel) (by decide +kernel)), fun _ => (zg_in 577 (by decide +kernel) (by decide +kernel)), fun h => absurd rfl h⟩
theorem zc_RX9_264_v : 147 < zN ∧ zCv RX9 264 (zP 147) 3 := ⟨by decide, zj_X9_signAt, (zg_in 574 (by decide +kernel) (by decide +kernel)), (zg_in 576 (by decide +kernel) (by decide +kernel)), (zg_in 13 (by decide +kernel) (by decide +kernel))⟩
theorem zj_X9_requireShownPlace : zJ zX9_requireShownPlace 2 := ⟨(by decide +kernel), (by decide +kernel), (by decide +kernel), (by decide +kernel), (zg_in 103 (by decide +kernel) (by decide +kernel)), fun _ => (zg_in 1104 (by decide +kernel) (by decide +kernel)), fun h => absurd rfl h⟩
theorem zc_RX9_267_v : 144 < zN ∧ zCv RX9 267 (zP 144) 2 := ⟨by decide, zj_X9_requireShownPlace, (zg_in 1101 (by decide +kernel) (by decide +kernel)), (zg_in 1103 (by decide +kernel) (by decide +kernel)), (zg_in 29 (by decide +kernel) (by decide +kernel))⟩
theorem zj_X5_cellAt : zJ zX5_cellAt 2 := ⟨(by decide +kernel), (by decide +kernel), (by decide +kernel), (by decide +kernel), (zg_in 108 (by decide +kernel) (by decide +kernel)), fun _ => (zg_in 1109 (by decide +kernel) (by decide +kernel)), fun h => absurd rfl h⟩
theorem zc_RX9_270_v : 81 < zN ∧ zCv RX9 270 (zP 81) 2 := ⟨by decide, zj_X5_cellAt, (zg_in 1106 (by decide +kernel) (by decide +kernel)), (zg_in 1107 (by decide +kernel) (by decide +kernel)), (zg_in 1108 (by decide +kernel) (by decide +kernel))⟩
theorem zc_RX9_273_v : 74 < zN ∧ zCv RX9 273 (zP 74) 2 := ⟨by decide, zj_X5_x, (zg_in 1110 (by decide +kernel) (by decide +kernel)), (zg_in 509 (by decide +kernel) (by decide +kernel)), (zg_in 510 (by decide +kernel) (by decide +kernel))⟩
theorem zc_RX9_276_v : 76 < zN ∧ zCv RX9 276 (zP 76) 3 := ⟨by decide, zj_X5_shift, (zg_in 1111 (by decide +kernel) (by decide +kernel)), (zg_in 553 (by decide +kernel) (by decide +kernel)), (zg_in 554 (by decide +kernel) (by decide +kernel))⟩
theorem zj_X9_equalsInput : zJ zX9_equalsInput 2 := ⟨(by decide +kernel), (by decide +kernel), (by decide +kernel), (by decide +kernel), (zg_in 103 (by decide +kernel) (by decide +kernel)), fun _ => (zg_in 1129 (by decide +kernel) (by decide +kernel)), fun h => absurd rfl h⟩
theorem zc_RX9_280_v : 148 < zN ∧ zCv RX9 280 (zP 148) 2 := ⟨by decide, zj_X9_equalsInput, (zg_in 1126 (by decide +kernel) (by decide +kernel)), (zg_in 1128 (by decide +kernel) (by decide +kernel)), (zg_in 30 (by decide +kernel) (by decide +kernel))⟩
theorem zc_RX9_283_v : 10 < zN ∧ zCv RX9 283 (zP 10) 2 := ⟨by decide, zj_X0_fact, (zg_in 1138 (by decide +kernel) (by decide +kernel)), (zg_in 588 (by decide +kernel) (by decide +kernel)), (zg_in 589 (by decide +kernel) (by decide +kernel))⟩
theorem zj_X0_total : zJ zX0_total 1 := ⟨(by decide +kernel), (by decide +kernel), (by decide +kernel), (by decide +kernel), (zg_in 110 (by decide +kernel) (by decide +kernel)), fun _ => (zg_in 1149 (by decide +kernel) (by decide +kernel)), fun h => absurd rfl h⟩
theorem zc_RX9_286_v : 18 < zN ∧ zCv RX9 286 (zP 18) 1 := ⟨by decide, zj_X0_total, (zg_in 1146 (by decide +kernel) (by decide +kernel)), (zg_in 1147 (by decide +kernel) (by decide +kernel)), (zg_in 1148 (by decide +kernel) (by decide +kernel))⟩
theorem zj_X0_numbers : zJ zX0_numbers 1 := ⟨(by decide +kernel), (by decide +kernel), (by decide +kernel), (by decide +kernel), (zg_in 110 (by decide +kernel) (by decide +kernel)), fun _ => (zg_in 1160 (by decide +kernel) (by decide +kernel)), fun h => absurd rfl h⟩
theorem zc_RX9_290_v : 16 < zN ∧ zCv RX9 290 (zP 16) 1 := ⟨by decide, zj_X0_numbers, (zg_in 1157 (by decide +kernel) (by decide +kernel)), (zg_in 1158 (by decide +kernel) (by decide +kernel)), (zg_in 1159 (by decide +kernel) (by decide +kernel))⟩
theorem zj_X0_countBetween : zJ zX0_countBetween 2 := ⟨(by decide +kernel), (by decide +kernel), (by decide +kernel), (by decide +kernel), (zg_in 110 (by decide +kernel) (by decide +kernel)), fun _ => (zg_in 1171 (by decide +kernel) (by decide +kernel)), fun h => absurd rfl h⟩
theorem zc_RX9_293_v : 19 < zN ∧ zCv RX9 293 (zP 19) 2 := ⟨by decide, zj_X0_countBetween, (zg_in 1168 (by decide +kernel) (by decide +kernel)), (zg_in 1169 (by decide +kernel) (by decide +kernel)), (zg_in 1170 (by decide +kernel) (by decide +kernel))⟩
theorem zfd_RX9_37 : zFd RX9 37 8 4 := ⟨_, _, _, rfl, by decide, zin8, Or.inl (zg_in 446 (by decide +kernel) (by decide +kernel))⟩
theorem zj_X5_countOtherX : zJ zX5_countOtherX 1 := ⟨(by decide +kernel), (by decide +kernel), (by decide +kernel), (by decide +kernel), (zg_in 108 (by decide +kernel) (by decide +kernel)), fun _ => (zg_in 1182 (by decide +kernel) (by decide +kernel)), fun h => absurd rfl h⟩
theorem zc_RX9_296_v : 82 < zN ∧ zCv RX9 296 (zP 82) 1 := ⟨by decide, zj_X5_countOtherX, (zg_in 1179 (by decide +kernel) (by decide +kernel)), (zg_in 1180 (by decide +kernel) (by decide +kernel)), (zg_in 1181 (by decide +kernel) (by decide +kernel))⟩
theorem zc_RX9_302_s : 156 < zN ∧ zCs RX9 302 (zP 156) 2 := ⟨by decide, zj_X9_mix, (zg_in 524 (by decide +kernel) (by decide +kernel)), Or.inl (zg_in 523 (by decide +kernel) (by decide +kernel))⟩
theorem zj_X2_mixInto : zJ zX2_mixInto 1 := ⟨(by decide +kernel), (by decide +kernel), (by decide +kernel), (by decide +kernel), (zg_in 105 (by decide +kernel) (by decide +kernel)), fun _ => (zg_in 530 (by decide +kernel) (by decide +kernel)), fun h => absurd rfl h⟩
theorem zc_RX9_306_v : 52 < zN ∧ zCv RX9 306 (zP 52) 1 := ⟨by decide, zj_X2_mixInto, (zg_in 527 (by decide +kernel) (by decide +kernel)), (zg_in 528 (by decide +kernel) (by decide +kernel)), (zg_in 529 (by decide +kernel) (by decide +kernel))⟩
theorem zj_X9_mixLine : zJ zX9_mixLine 2 := ⟨(by decide +kernel), (by decide +kernel), (by decide +kernel), (by decide +kernel), (zg_in 103 (by decide +kernel) (by decide +kernel)), fun _ => (zg_in 535 (by decide +kernel) (by decide +kernel)), fun h => absurd rfl h⟩
theorem zc_RX9_310_v : 155 < zN ∧ zCv RX9 310 (zP 155) 2 := ⟨by decide, zj_X9_mixLine, (zg_in 532 (by decide +kernel) (by decide +kernel)), (zg_in 534 (by decide +kernel) (by decide +kernel)), (zg_in 12 (by decide +kernel) (by decide +kernel))⟩
theorem zj_X0_mixInto : zJ zX0_mixInto 1 := ⟨(by decide +kernel), (by decide +kernel), (by decide +kernel), (by decide +kernel), (zg_in 110 (by decide +kernel) (by decide +kernel)), fun _ => (zg_in 586 (by decide +kernel) (by decide +kernel)), fun h => absurd rfl h⟩
theorem zc_RX9_314_v : 20 < zN ∧ zCv RX9 314 (zP 20) 1 := ⟨by decide, zj_X0_mixInto, (zg_in 583 (by decide +kernel) (by decide +kernel)), (zg_in 584 (by decide +kernel) (by decide +kernel)), (zg_in 585 (by decide +kernel) (by decide +kernel))⟩
theorem zj_X4_mixInto : zJ zX4_mixInto 1 := ⟨(by decide +kernel), (by decide +kernel), (by decide +kernel), (by decide +kernel), (zg_in 104 (by decide +kernel) (by decide +kernel)), fun _ => (zg_in 595 (by decide +kernel) (by decide +kernel)), fun h => absurd rfl h⟩
theorem zc_RX9_315_v : 70 < zN ∧ zCv RX9 315 (zP 70) 1 := ⟨by decide, zj_X4_mixInto, (zg_in 592 (by decide +kernel) (by decide +kernel)), (zg_in 593 (by decide +kernel) (by decide +kernel)), (zg_in 594 (by decide +kernel) (by decide +kernel))⟩
theorem zfd_RX9_316 : zFd RX9 316 5 0 := ⟨_, _, _, rfl, by decide, zin5, Or.inr ⟨RX9, List.mem_of_getElem? (i := 274) (by decide +kernel)⟩⟩
theorem zj_X1_read : zJ zX1_read 1 := ⟨(by decide +kernel), (by decide +kernel), (by decide +kernel), (by decide +kernel), (zg_in 109 (by decide +kernel) (by decide +kernel)), fun _ => (zg_in 299 (by decide +kernel) (by decide +kernel)), fun h => absurd rfl h⟩
theorem zc_RX9_319_v : 22 < zN ∧ zCv RX9 319 (zP 22) 1 := ⟨by decide, zj_X1_read, (zg_in 296 (by decide +kernel) (by decide +kernel)), (zg_in 297 (by decide +kernel) (by decide +kernel)), (zg_in 298 (by decide +kernel) (by decide +kernel))⟩
theorem zj_X0_collect : zJ zX0_collect 2 := ⟨(by decide +kernel), (by decide +kernel), (by decide +kernel), (by decide +kernel), (zg_in 110 (by decide +kernel) (by decide +kernel)), fun _ => (zg_in 342 (by decide +kernel) (by decide +kernel)), fun h => absurd rfl h⟩
theorem zc_RX9_323_v : 1 < zN ∧ zCv RX9 323 (zP 1) 2 := ⟨by decide, zj_X0_collect, (zg_in 339 (by decide +kernel) (by decide +kernel)), (zg_in 340 (by decide +kernel) (by decide +kernel)), (zg_in 341 (by decide +kernel) (by decide +kernel))⟩
theorem zj_X5_placeCells : zJ zX5_placeCells 0 := ⟨(by decide +kernel), (by decide +kernel), (by decide +kernel), (by decide +kernel), (zg_in 108 (by decide +kernel) (by decide +kernel)), fun _ => (zg_in 407 (by decide +kernel) (by decide +kernel)), fun h => absurd rfl h⟩
theorem zc_RX9_327_v : 72 < zN ∧ zCv RX9 327 (zP 72) 0 := ⟨by decide, zj_X5_placeCells, (zg_in 404 (by decide +kernel) (by decide +kernel)), (zg_in 405 (by decide +kernel) (by decide +kernel)), (zg_in 406 (by decide +kernel) (by decide +kernel))⟩
theorem zc_RX9_330_v : 26 < zN ∧ zCv RX9 330 (zP 26) 1 := ⟨by decide, zj_X1_hasLine, (zg_in 871 (by decide +kernel) (by decide +kernel)), (zg_in 830 (by decide +kernel) (by decide +kernel)), (zg_in 831 (by decide +kernel) (by decide +kernel))⟩
theorem zc_RX9_336_v : 27 < zN ∧ zCv RX9 336 (zP 27) 2 := ⟨by decide, zj_X1_hasCell, (zg_in 789 (by decide +kernel) (by decide +kernel)), (zg_in 367 (by decide +kernel) (by decide +kernel)), (zg_in 368 (by decide +kernel) (by decide +kernel))⟩
theorem zc_RX9_343_s : 157 < zN ∧ zCs RX9 343 (zP 157) 1 := ⟨by decide, zj_X9_isSign, (zg_in 711 (by decide +kernel) (by decide +kernel)), Or.inl (zg_in 807 (by decide +kernel) (by decide +kernel))⟩
theorem zj_X1_hasRoomFor : zJ zX1_hasRoomFor 3 := ⟨(by decide +kernel), (by decide +kernel), (by decide +kernel), (by decide +kernel), (zg_in 109 (by decide +kernel) (by decide +kernel)), fun _ => (zg_in 812 (by decide +kernel) (by decide +kernel)), fun h => absurd rfl h⟩
theorem zc_RX9_348_v : 37 < zN ∧ zCv RX9 348 (zP 37) 3 := ⟨by decide, zj_X1_hasRoomFor, (zg_in 809 (by decide +kernel) (by decide +kernel)), (zg_in 810 (by decide +kernel) (by decide +kernel)), (zg_in 811 (by decide +kernel) (by decide +kernel))⟩
theorem zc_RX9_357_v : 63 < zN ∧ zCv RX9 357 (zP 63) 0 := ⟨by decide, zj_X4_length, (zg_in 725 (by decide +kernel) (by decide +kernel)), (zg_in 726 (by decide +kernel) (by decide +kernel)), (zg_in 727 (by decide +kernel) (by decide +kernel))⟩
theorem zc_RX9_361_v : 67 < zN ∧ zCv RX9 361 (zP 67) 1 := ⟨by decide, zj_X4_codeAt, (zg_in 1130 (by decide +kernel) (by decide +kernel)), (zg_in 766 (by decide +kernel) (by decide +kernel)), (zg_in 767 (by decide +kernel) (by decide +kernel))⟩
theorem zj_X6_lineAt : zJ zX6_lineAt 1 := ⟨(by decide +kernel), (by decide +kernel), (by decide +kernel), (by decide +kernel), (zg_in 121 (by decide +kernel) (by decide +kernel)), fun _ => (zg_in 910 (by decide +kernel) (by decide +kernel)), fun h => absurd rfl h⟩
theorem zc_RX9_362_v : 84 < zN ∧ zCv RX9 362 (zP 84) 1 := ⟨by decide, zj_X6_lineAt, (zg_in 907 (by decide +kernel) (by decide +kernel)), (zg_in 908 (by decide +kernel) (by decide +kernel)), (zg_in 909 (by decide +kernel) (by decide +kernel))⟩
theorem zc_RX9_365_v : 91 < zN ∧ zCv RX9 365 (zP 91) 1 := ⟨by decide, zj_X7_add, (zg_in 911 (by decide +kernel) (by decide +kernel)), (zg_in 912 (by decide +kernel) (by decide +kernel)), (zg_in 913 (by decide +kernel) (by decide +kernel))⟩
theorem zj_X7_addFrom : zJ zX7_addFrom 3 := ⟨(by decide +kernel), (by decide +kernel), (by decide +kernel), (by decide +kernel), (zg_in 107 (by decide +kernel) (by decide +kernel)), fun _ => (zg_in 918 (by decide +kernel) (by decide +kernel)), fun h => absurd rfl h⟩
theorem zc_RX9_367_v : 92 < zN ∧ zCv RX9 367 (zP 92) 3 := ⟨by decide, zj_X7_addFrom, (zg_in 915 (by decide +kernel) (by decide +kernel)), (zg_in 916 (by decide +kernel) (by decide +kernel)), (zg_in 917 (by decide +kernel) (by decide +kernel))⟩
theorem zj_X9_comesBefore : zJ zX9_comesBefore 4 := ⟨(by decide +kernel), (by decide +kernel), (by decide +kernel), (by decide +kernel), (zg_in 103 (by decide +kernel) (by decide +kernel)), fun _ => (zg_in 944 (by decide +kernel) (by decide +kernel)), fun h => absurd rfl h⟩
theorem zc_RX9_371_v : 151 < zN ∧ zCv RX9 371 (zP 151) 4 := ⟨by decide, zj_X9_comesBefore, (zg_in 941 (by decide +kernel) (by decide +kernel)), (zg_in 943 (by decide +kernel) (by decide +kernel)), (zg_in 25 (by decide +kernel) (by decide +kernel))⟩
theorem zj_X9_sortRank : zJ zX9_sortRank 1 := ⟨(by decide +kernel), (by decide +kernel), (by decide +kernel), (by decide +kernel), (zg_in 103 (by decide +kernel) (by decide +kernel)), fun _ => (zg_in 948 (by decide +kernel) (by decide +kernel)), fun h => absurd rfl h⟩
theorem zc_RX9_375_s : 152 < zN ∧ zCs RX9 375 (zP 152) 1 := ⟨by decide, zj_X9_sortRank, (zg_in 947 (by decide +kernel) (by decide +kernel)), Or.inl (zg_in 946 (by decide +kernel) (by decide +kernel))⟩
theorem zc_RX9_378_v : 34 < zN ∧ zCv RX9 378 (zP 34) 2 := ⟨by decide, zj_X1_value, (zg_in 949 (by decide +kernel) (by decide +kernel)), (zg_in 371 (by decide +kernel) (by decide +kernel)), (zg_in 372 (by decide +kernel) (by decide +kernel))⟩
theorem zj_J13_compare_74951 : zJ zJ13_compare_74951 2 := ⟨(by decide +kernel), (by decide +kernel), (by decide +kernel), (by decide +kernel), (zg_in 122 (by decide +kernel) (by decide +kernel)), fun _ => (zg_in 952 (by decide +kernel) (by decide +kernel)), fun h => absurd rfl h⟩
theorem zc_RX9_382_s : 269 < zN ∧ zCs RX9 382 (zP 269) 2 := ⟨by decide, zj_J13_compare_74951, (zg_in 951 (by decide +kernel) (by decide +kernel)), Or.inl (zg_in 950 (by decide +kernel) (by decide +kernel))⟩
theorem zj_X9_compareWords : zJ zX9_compareWords 3 := ⟨(by decide +kernel), (by decide +kernel), (by decide +kernel), (by decide +kernel), (zg_in 103 (by decide +kernel) (by decide +kernel)), fun _ => (zg_in 956 (by decide +kernel) (by decide +kernel)), fun h => absurd rfl h⟩
theorem zc_RX9_388_v : 153 < zN ∧ zCv RX9 388 (zP 153) 3 := ⟨by decide, zj_X9_compareWords, (zg_in 953 (by decide +kernel) (by decide +kernel)), (zg_in 955 (by decide +kernel) (by decide +kernel)), (zg_in 26 (by decide +kernel) (by decide +kernel))⟩
theorem zj_J6_compare_7cf53 : zJ zJ6_compare_7cf53 2 := ⟨(by decide +kernel), (by decide +kernel), (by decide +kernel), (by decide +kernel), (zg_in 123 (by decide +kernel) (by decide +kernel)), fun _ => (zg_in 959 (by decide +kernel) (by decide +kernel)), fun h => absurd rfl h⟩
theorem zc_RX9_391_s : 268 < zN ∧ zCs RX9 391 (zP 268) 2 := ⟨by decide, zj_J6_compare_7cf53, (zg_in 958 (by decide +kernel) (by decide +kernel)), Or.inl (zg_in 957 (by decide +kernel) (by decide +kernel))⟩
theorem zj_X1_cellCount : zJ zX1_cellCount 0 := ⟨(by decide +kernel), (by decide +kernel), (by decide +kernel), (by decide +kernel), (zg_in 109 (by decide +kernel) (by decide +kernel)), fun _ => (zg_in 483 (by decide +kernel) (by decide +kernel)), fun h => absurd rfl h⟩
theorem zc_RX9_395_v : 40 < zN ∧ zCv RX9 395 (zP 40) 0 := ⟨by decide, zj_X1_cellCount, (zg_in 480 (by decide +kernel) (by decide +kernel)), (zg_in 481 (by decide +kernel) (by decide +kernel)), (zg_in 482 (by decide +kernel) (by decide +kernel))⟩
theorem zj_X1_signCount : zJ zX1_signCount 0 := ⟨(by decide +kernel), (by decide +kernel), (by decide +kernel), (by decide +kernel), (zg_in 109 (by decide +kernel) (by decide +kernel)), fun _ => (zg_in 488 (by decide +kernel) (by decide +kernel)), fun h => absurd rfl h⟩
theorem zc_RX9_398_v : 41 < zN ∧ zCv RX9 398 (zP 41) 0 := ⟨by decide, zj_X1_signCount, (zg_in 485 (by decide +kernel) (by decide +kernel)), (zg_in 486 (by decide +kernel) (by decide +kernel)), (zg_in 487 (by decide +kernel) (by decide +kernel))⟩
theorem zj_X1_countKind : zJ zX1_countKind 1 := ⟨(by decide +kernel), (by decide +kernel), (by decide +kernel), (by decide +kernel), (zg_in 109 (by decide +kernel) (by decide +kernel)), fun _ => (zg_in 498 (by decide +kernel) (by decide +kernel)), fun h => absurd rfl h⟩
theorem zc_RX9_401_v : 43 < zN ∧ zCv RX9 401 (zP 43) 1 := ⟨by decide, zj_X1_countKind, (zg_in 495 (by decide +kernel) (by decide +kernel)), (zg_in 496 (by decide +kernel) (by decide +kernel)), (zg_in 497 (by decide +kernel) (by decide +kernel))⟩
theorem zj_X5_greatestShownLength : zJ zX5_greatestShownLength 0 := ⟨(by decide +kernel), (by decide +kernel), (by decide +kernel), (by decide +kernel), (zg_in 108 (by decide +kernel) (by decide +kernel)), fun _ => (zg_in 503 (by decide +kernel) (by decide +kernel)), fun h => absurd rfl h⟩
theorem zc_RX9_404_v : 80 < zN ∧ zCv RX9 404 (zP 80) 0 := ⟨by decide, zj_X5_greatestShownLength, (zg_in 500 (by decide +kernel) (by decide +kernel)), (zg_in 501 (by decide +kernel) (by decide +kernel)), (zg_in 502 (by decide +kernel) (by decide +kernel))⟩
theorem zc_RX9_409_s : 158 < zN ∧ zCs RX9 409 (zP 158) 1 := ⟨by decide, zj_X9_isDigit, (zg_in 326 (by decide +kernel) (by decide +kernel)), Or.inl (zg_in 713 (by decide +kernel) (by decide +kernel))⟩
theorem zpt_RX10_7i : zPt RX10 "<init>" 7 9 1 := ⟨_, _, _, rfl, by decide, zin9, (zg_in 1191 (by decide +kernel) (by decide +kernel)), tyX10_ok, nmX10, Or.inr ⟨rfl, rfl, rfl⟩⟩
theorem zpt_RX10_13i : zPt RX10 "<init>" 13 9 2 := ⟨_, _, _, rfl, by decide, zin9, (zg_in 1192 (by decide +kernel) (by decide +kernel)), tyX10_ok, nmX10, Or.inr ⟨rfl, rfl, rfl⟩⟩
theorem zpt_RX10_17i : zPt RX10 "<init>" 17 9 3 := ⟨_, _, _, rfl, by decide, zin9, (zg_in 1193 (by decide +kernel) (by decide +kernel)), tyX10_ok, nmX10, Or.inr ⟨rfl, rfl, rfl⟩⟩
theorem zpt_RX10_20i : zPt RX10 "<init>" 20 9 4 := ⟨_, _, _, rfl, by decide, zin9, (zg_in 1194 (by decide +kernel) (by decide +kernel)), tyX10_ok, nmX10, Or.inr ⟨rfl, rfl, rfl⟩⟩
theorem zpt_RX10_23i : zPt RX10 "<init>" 23 9 7 := ⟨_, _, _, rfl, by decide, zin9, (zg_in 1197 (by decide +kernel) (by decide +kernel)), tyX10_ok, nmX10, Or.inr ⟨rfl, rfl, rfl⟩⟩
theorem zpt_RX10_26i {n : String} : zPt RX10 n 26 9 8 := ⟨_, _, _, rfl, by decide, zin9, (zg_in 1198 (by decide +kernel) (by decide +kernel)), tyX10_ok, nmX10, Or.inl rfl⟩
theorem zpt_RX10_30i {n : String} : zPt RX10 n 30 9 10 := ⟨_, _, _, rfl, by decide, zin9, (zg_in 1200 (by decide +kernel) (by decide +kernel)), tyX10_ok, nmX10, Or.inl rfl⟩
theorem zpt_RX10_33i : zPt RX10 "<init>" 33 9 12 := ⟨_, _, _, rfl, by decide, zin9, (zg_in 1202 (by decide +kernel) (by decide +kernel)), tyX10_ok, nmX10, Or.inr ⟨rfl, rfl, rfl⟩⟩
theorem zpt_RX10_36i : zPt RX10 "<init>" 36 9 14 := ⟨_, _, _, rfl, by decide, zin9, (zg_in 1204 (by decide +kernel) (by decide +kernel)), tyX10_ok, nmX10, Or.inr ⟨rfl, rfl, rfl⟩⟩
theorem zpt_RX10_39i : zPt RX10 "<init>" 39 9 15 := ⟨_, _, _, rfl, by decide, zin9, (zg_in 1205 (by decide +kernel) (by decide +kernel)), tyX10_ok, nmX10, Or.inr ⟨rfl, rfl, rfl⟩⟩
theorem zpt_RX10_42i : zPt RX10 "<init>" 42 9 16 := ⟨_, _, _, rfl, by decide, zin9, (zg_in 1206 (by decide +kernel) (by decide +kernel)), tyX10_ok, nmX10, Or.inr ⟨rfl, rfl, rfl⟩⟩
theorem zpt_RX10_45i : zPt RX10 "<init>" 45 9 17 := ⟨_, _, _, rfl, by decide, zin9, (zg_in 1207 (by decide +kernel) (by decide +kernel)), tyX10_ok, nmX10, Or.inr ⟨rfl, rfl, rfl⟩⟩
theorem zpt_RX10_48i : zPt RX10 "<init>" 48 9 18 := ⟨_, _, _, rfl, by decide, zin9, (zg_in 1208 (by decide +kernel) (by decide +kernel)), tyX10_ok, nmX10, Or.inr ⟨rfl, rfl, rfl⟩⟩
theorem zpt_RX10_51i : zPt RX10 "<init>" 51 9 19 := ⟨_, _, _, rfl, by decide, zin9, (zg_in 1209 (by decide +kernel) (by decide +kernel)), tyX10_ok, nmX10, Or.inr ⟨rfl, rfl, rfl⟩⟩
theorem zpt_RX10_54i : zPt RX10 "<init>" 54 9 20 := ⟨_, _, _, rfl, by decide, zin9, (zg_in 1210 (by decide +kernel) (by decide +kernel)), tyX10_ok, nmX10, Or.inr ⟨rfl, rfl, rfl⟩⟩
theorem zpt_RX10_57i : zPt RX10 "<init>" 57 9 21 := ⟨_, _, _, rfl, by decide, zin9, (zg_in 1211 (by decide +kernel) (by decide +kernel)), tyX10_ok, nmX10, Or.inr ⟨rfl, rfl, rfl⟩⟩
theorem zpt_RX10_60i : zPt RX10 "<init>" 60 9 22 := ⟨_, _, _, rfl, by decide, zin9, (zg_in 1212 (by decide +kernel) (by decide +kernel)), tyX10_ok, nmX10, Or.inr ⟨rfl, rfl, rfl⟩⟩
theorem zfd_RX10_7 : zFd RX10 7 9 1 := ⟨_, _, _, rfl, by decide, zin9, Or.inl (zg_in 1191 (by decide +kernel) (by decide +kernel))⟩
theorem zfd_RX10_23 : zFd RX10 23 9 7 := ⟨_, _, _, rfl, by decide, zin9, Or.inl (zg_in 1197 (by decide +kernel) (by decide +kernel))⟩
theorem zfd_RX10_63 : zFd RX10 63 9 0 := ⟨_, _, _, rfl, by decide, zin9, Or.inl (zg_in 1190 (by decide +kernel) (by decide +kernel))⟩
theorem zj_X10_place : zJ zX10_place 3 := ⟨(by decide +kernel), (by decide +kernel), (by decide +kernel), (by decide +kernel), (zg_in 113 (by decide +kernel) (by decide +kernel)), fun _ => (zg_in 1330 (by decide +kernel) (by decide +kernel)), fun h => absurd rfl h⟩
theorem zc_RX10_66_s : 165 < zN ∧ zCs RX10 66 (zP 165) 3 := ⟨by decide, zj_X10_place, (zg_in 1329 (by decide +kernel) (by decide +kernel)), Or.inl (zg_in 1328 (by decide +kernel) (by decide +kernel))⟩
theorem zj_X10_within : zJ zX10_within 3 := ⟨(by decide +kernel), (by decide +kernel), (by decide +kernel), (by decide +kernel), (zg_in 113 (by decide +kernel) (by decide +kernel)), fun _ => (zg_in 1281 (by decide +kernel) (by decide +kernel)), fun h => absurd rfl h⟩
theorem zc_RX10_70_s : 161 < zN ∧ zCs RX10 70 (zP 161) 3 := ⟨by decide, zj_X10_within, (zg_in 1280 (by decide +kernel) (by decide +kernel)), Or.inl (zg_in 1279 (by decide +kernel) (by decide +kernel))⟩
theorem zj_X10_isLine : zJ zX10_isLine 1 := ⟨(by decide +kernel), (by decide +kernel), (by decide +kernel), (by decide +kernel), (zg_in 113 (by decide +kernel) (by decide +kernel)), fun _ => (zg_in 1350 (by decide +kernel) (by decide +kernel)), fun h => absurd rfl h⟩
theorem zc_RX10_74_v : 167 < zN ∧ zCv RX10 74 (zP 167) 1 := ⟨by decide, zj_X10_isLine, (zg_in 1347 (by decide +kernel) (by decide +kernel)), (zg_in 1349 (by decide +kernel) (by decide +kernel)), (zg_in 41 (by decide +kernel) (by decide +kernel))⟩
theorem zj_X10_cells : zJ zX10_cells 1 := ⟨(by decide +kernel), (by decide +kernel), (by decide +kernel), (by decide +kernel), (zg_in 113 (by decide +kernel) (by decide +kernel)), fun _ => (zg_in 1323 (by decide +kernel) (by decide +kernel)), fun h => absurd rfl h⟩
theorem zc_RX10_78_v : 162 < zN ∧ zCv RX10 78 (zP 162) 1 := ⟨by decide, zj_X10_cells, (zg_in 1320 (by decide +kernel) (by decide +kernel)), (zg_in 1322 (by decide +kernel) (by decide +kernel)), (zg_in 36 (by decide +kernel) (by decide +kernel))⟩
theorem zj_X10_isCell : zJ zX10_isCell 2 := ⟨(by decide +kernel), (by decide +kernel), (by decide +kernel), (by decide +kernel), (zg_in 113 (by decide +kernel) (by decide +kernel)), fun _ => (zg_in 1346 (by decide +kernel) (by decide +kernel)), fun h => absurd rfl h⟩
theorem zc_RX10_82_v : 168 < zN ∧ zCv RX10 82 (zP 168) 2 := ⟨by decide, zj_X10_isCell, (zg_in 1343 (by decide +kernel) (by decide +kernel)), (zg_in 1345 (by decide +kernel) (by decide +kernel)), (zg_in 40 (by decide +kernel) (by decide +kernel))⟩
theorem zj_X10_lengthOf : zJ zX10_lengthOf 2 := ⟨(by decide +kernel), (by decide +kernel), (by decide +kernel), (by decide +kernel), (zg_in 113 (by decide +kernel) (by decide +kernel)), fun _ => (zg_in 1327 (by decide +kernel) (by decide +kernel)), fun h => absurd rfl h⟩
theorem zc_RX10_86_v : 163 < zN ∧ zCv RX10 86 (zP 163) 2 := ⟨by decide, zj_X10_lengthOf, (zg_in 1324 (by decide +kernel) (by decide +kernel)), (zg_in 1326 (by decide +kernel) (by decide +kernel)), (zg_in 37 (by decide +kernel) (by decide +kernel))⟩
theorem zj_X10_setLength : zJ zX10_setLength 3 := ⟨(by decide +kernel), (by decide +kernel), (by decide +kernel), (by decide +kernel), (zg_in 113 (by decide +kernel) (by decide +kernel)), fun _ => (zg_in 1315 (by decide +kernel) (by decide +kernel)), fun h => absurd rfl h⟩
theorem zc_RX10_90_v : 164 < zN ∧ zCv RX10 90 (zP 164) 3 := ⟨by decide, zj_X10_setLength, (zg_in 1312 (by decide +kernel) (by decide +kernel)), (zg_in 1314 (by decide +kernel) (by decide +kernel)), (zg_in 34 (by decide +kernel) (by decide +kernel))⟩
theorem zj_X10_signOf : zJ zX10_signOf 3 := ⟨(by decide +kernel), (by decide +kernel), (by decide +kernel), (by decide +kernel), (zg_in 113 (by decide +kernel) (by decide +kernel)), fun _ => (zg_in 1374 (by decide +kernel) (by decide +kernel)), fun h => absurd rfl h⟩
theorem zc_RX10_94_v : 166 < zN ∧ zCv RX10 94 (zP 166) 3 := ⟨by decide, zj_X10_signOf, (zg_in 1371 (by decide +kernel) (by decide +kernel)), (zg_in 1373 (by decide +kernel) (by decide +kernel)), (zg_in 47 (by decide +kernel) (by decide +kernel))⟩
theorem zj_X10_copyCell : zJ zX10_copyCell 4 := ⟨(by decide +kernel), (by decide +kernel), (by decide +kernel), (by decide +kernel), (zg_in 113 (by decide +kernel) (by decide +kernel)), fun _ => (zg_in 1370 (by decide +kernel) (by decide +kernel)), fun h => absurd rfl h⟩
theorem zc_RX10_97_v : 170 < zN ∧ zCv RX10 97 (zP 170) 4 := ⟨by decide, zj_X10_copyCell, (zg_in 1367 (by decide +kernel) (by decide +kernel)), (zg_in 1369 (by decide +kernel) (by decide +kernel)), (zg_in 46 (by decide +kernel) (by decide +kernel))⟩
theorem zj_X10_copyLine : zJ zX10_copyLine 2 := ⟨(by decide +kernel), (by decide +kernel), (by decide +kernel), (by decide +kernel), (zg_in 113 (by decide +kernel) (by decide +kernel)), fun _ => (zg_in 1390 (by decide +kernel) (by decide +kernel)), fun h => absurd rfl h⟩
theorem zc_RX10_101_v : 171 < zN ∧ zCv RX10 101 (zP 171) 2 := ⟨by decide, zj_X10_copyLine, (zg_in 1387 (by decide +kernel) (by decide +kernel)), (zg_in 1389 (by decide +kernel) (by decide +kernel)), (zg_in 51 (by decide +kernel) (by decide +kernel))⟩
theorem zfd_RX10_105 : zFd RX10 105 9 5 := ⟨_, _, _, rfl, by decide, zin9, Or.inl (zg_in 1195 (by decide +kernel) (by decide +kernel))⟩
theorem zfd_RX10_17 : zFd RX10 17 9 3 := ⟨_, _, _, rfl, by decide, zin9, Or.inl (zg_in 1193 (by decide +kernel) (by decide +kernel))⟩
theorem zpt_RX10_105 {n : String} : zPt RX10 n 105 9 5 := ⟨_, _, _, rfl, by decide, zin9, (zg_in 1195 (by decide +kernel) (by decide +kernel)), tyX10_ok, nmX10, Or.inl rfl⟩
theorem zpt_RX10_108 {n : String} : zPt RX10 n 108 9 6 := ⟨_, _, _, rfl, by decide, zin9, (zg_in 1196 (by decide +kernel) (by decide +kernel)), tyX10_ok, nmX10, Or.inl rfl⟩
theorem zpt_RX10_63 {n : String} : zPt RX10 n 63 9 0 := ⟨_, _, _, rfl, by decide, zin9, (zg_in 1190 (by decide +kernel) (by decide +kernel)), tyX10_ok, nmX10, Or.inl rfl⟩
theorem zfd_RX10_20 : zFd RX10 20 9 4 := ⟨_, _, _, rfl, by decide, zin9, Or.inl (zg_in 1194 (by decide +kernel) (by decide +kernel))⟩
theorem zfd_RX10_108 : zFd RX10 108 9 6 := ⟨_, _, _, rfl, by decide, zin9, Or.inl (zg_in 1196 (by decide +kernel) (by decide +kernel))⟩
theorem zfd_RX10_111 : zFd RX10 111 9 11 := ⟨_, _, _, rfl, by decide, zin9, Or.inl (zg_in 1201 (by decide +kernel) (by decide +kernel))⟩
theorem zfd_RX10_33 : zFd RX10 33 9 12 := ⟨_, _, _, rfl, by decide, zin9, Or.inl (zg_in 1202 (by decide +kernel) (by decide +kernel))⟩
theorem zpt_RX10_111 {n : String} : zPt RX10 n 111 9 11 := ⟨_, _, _, rfl, by decide, zin9, (zg_in 1201 (by decide +kernel) (by decide +kernel)), tyX10_ok, nmX10, Or.inl rfl⟩
theorem zj_X10_isFigure : zJ zX10_isFigure 1 := ⟨(by decide +kernel), (by decide +kernel), (by decide +kernel), (by decide +kernel), (zg_in 113 (by decide +kernel) (by decide +kernel)), fun _ => (zg_in 1299 (by decide +kernel) (by decide +kernel)), fun h => absurd rfl h⟩
theorem zc_RX10_114_s : 182 < zN ∧ zCs RX10 114 (zP 182) 1 := ⟨by decide, zj_X10_isFigure, (zg_in 1298 (by decide +kernel) (by decide +kernel)), Or.inl (zg_in 1297 (by decide +kernel) (by decide +kernel))⟩
theorem zj_X10_isSign : zJ zX10_isSign 1 := ⟨(by decide +kernel), (by decide +kernel), (by decide +kernel), (by decide +kernel), (zg_in 113 (by decide +kernel) (by decide +kernel)), fun _ => (zg_in 1296 (by decide +kernel) (by decide +kernel)), fun h => absurd rfl h⟩
theorem zc_RX10_117_s : 183 < zN ∧ zCs RX10 117 (zP 183) 1 := ⟨by decide, zj_X10_isSign, (zg_in 1295 (by decide +kernel) (by decide +kernel)), Or.inl (zg_in 1294 (by decide +kernel) (by decide +kernel))⟩
theorem zj_X10_rightLength : zJ zX10_rightLength 1 := ⟨(by decide +kernel), (by decide +kernel), (by decide +kernel), (by decide +kernel), (zg_in 113 (by decide +kernel) (by decide +kernel)), fun _ => (zg_in 1293 (by decide +kernel) (by decide +kernel)), fun h => absurd rfl h⟩
theorem zc_RX10_120_v : 184 < zN ∧ zCv RX10 120 (zP 184) 1 := ⟨by decide, zj_X10_rightLength, (zg_in 1290 (by decide +kernel) (by decide +kernel)), (zg_in 1292 (by decide +kernel) (by decide +kernel)), (zg_in 31 (by decide +kernel) (by decide +kernel))⟩
theorem zj_X10_isRight : zJ zX10_isRight 1 := ⟨(by decide +kernel), (by decide +kernel), (by decide +kernel), (by decide +kernel), (zg_in 113 (by decide +kernel) (by decide +kernel)), fun _ => (zg_in 1307 (by decide +kernel) (by decide +kernel)), fun h => absurd rfl h⟩
theorem zc_RX10_123_v : 185 < zN ∧ zCv RX10 123 (zP 185) 1 := ⟨by decide, zj_X10_isRight, (zg_in 1304 (by decide +kernel) (by decide +kernel)), (zg_in 1306 (by decide +kernel) (by decide +kernel)), (zg_in 32 (by decide +kernel) (by decide +kernel))⟩
theorem zj_X10_save : zJ zX10_save 0 := ⟨(by decide +kernel), (by decide +kernel), (by decide +kernel), (by decide +kernel), (zg_in 113 (by decide +kernel) (by decide +kernel)), fun _ => (zg_in 1311 (by decide +kernel) (by decide +kernel)), fun h => absurd rfl h⟩
theorem zc_RX10_126_v : 177 < zN ∧ zCv RX10 126 (zP 177) 0 := ⟨by decide, zj_X10_save, (zg_in 1308 (by decide +kernel) (by decide +kernel)), (zg_in 1310 (by decide +kernel) (by decide +kernel)), (zg_in 33 (by decide +kernel) (by decide +kernel))⟩
theorem zj_X10_layBuffer : zJ zX10_layBuffer 1 := ⟨(by decide +kernel), (by decide +kernel), (by decide +kernel), (by decide +kernel), (zg_in 113 (by decide +kernel) (by decide +kernel)), fun _ => (zg_in 1319 (by decide +kernel) (by decide +kernel)), fun h => absurd rfl h⟩
theorem zc_RX10_129_v : 187 < zN ∧ zCv RX10 129 (zP 187) 1 := ⟨by decide, zj_X10_layBuffer, (zg_in 1316 (by decide +kernel) (by decide +kernel)), (zg_in 1318 (by decide +kernel) (by decide +kernel)), (zg_in 35 (by decide +kernel) (by decide +kernel))⟩
theorem zj_X10_isPlace : zJ zX10_isPlace 3 := ⟨(by decide +kernel), (by decide +kernel), (by decide +kernel), (by decide +kernel), (zg_in 113 (by decide +kernel) (by decide +kernel)), fun _ => (zg_in 1342 (by decide +kernel) (by decide +kernel)), fun h => absurd rfl h⟩
theorem zc_RX10_133_v : 169 < zN ∧ zCv RX10 133 (zP 169) 3 := ⟨by decide, zj_X10_isPlace, (zg_in 1339 (by decide +kernel) (by decide +kernel)), (zg_in 1341 (by decide +kernel) (by decide +kernel)), (zg_in 39 (by decide +kernel) (by decide +kernel))⟩
theorem zj_X10_isCode : zJ zX10_isCode 1 := ⟨(by decide +kernel), (by decide +kernel), (by decide +kernel), (by decide +kernel), (zg_in 113 (by decide +kernel) (by decide +kernel)), fun _ => (zg_in 1354 (by decide +kernel) (by decide +kernel)), fun h => absurd rfl h⟩
theorem zc_RX10_136_v : 189 < zN ∧ zCv RX10 136 (zP 189) 1 := ⟨by decide, zj_X10_isCode, (zg_in 1351 (by decide +kernel) (by decide +kernel)), (zg_in 1353 (by decide +kernel) (by decide +kernel)), (zg_in 42 (by decide +kernel) (by decide +kernel))⟩
theorem zj_X10_openCell : zJ zX10_openCell 2 := ⟨(by decide +kernel), (by decide +kernel), (by decide +kernel), (by decide +kernel), (zg_in 113 (by decide +kernel) (by decide +kernel)), fun _ => (zg_in 1366 (by decide +kernel) (by decide +kernel)), fun h => absurd rfl h⟩
theorem zc_RX10_139_v : 174 < zN ∧ zCv RX10 139 (zP 174) 2 := ⟨by decide, zj_X10_openCell, (zg_in 1363 (by decide +kernel) (by decide +kernel)), (zg_in 1365 (by decide +kernel) (by decide +kernel)), (zg_in 45 (by decide +kernel) (by decide +kernel))⟩
theorem zj_X10_giveTail : zJ zX10_giveTail 5 := ⟨(by decide +kernel), (by decide +kernel), (by decide +kernel), (by decide +kernel), (zg_in 113 (by decide +kernel) (by decide +kernel)), fun _ => (zg_in 1378 (by decide +kernel) (by decide +kernel)), fun h => absurd rfl h⟩
theorem zc_RX10_142_v : 176 < zN ∧ zCv RX10 142 (zP 176) 5 := ⟨by decide, zj_X10_giveTail, (zg_in 1375 (by decide +kernel) (by decide +kernel)), (zg_in 1377 (by decide +kernel) (by decide +kernel)), (zg_in 48 (by decide +kernel) (by decide +kernel))⟩
theorem zj_X10_openLine : zJ zX10_openLine 1 := ⟨(by decide +kernel), (by decide +kernel), (by decide +kernel), (by decide +kernel), (zg_in 113 (by decide +kernel) (by decide +kernel)), fun _ => (zg_in 1386 (by decide +kernel) (by decide +kernel)), fun h => absurd rfl h⟩
theorem zc_RX10_146_v : 172 < zN ∧ zCv RX10 146 (zP 172) 1 := ⟨by decide, zj_X10_openLine, (zg_in 1383 (by decide +kernel) (by decide +kernel)), (zg_in 1385 (by decide +kernel) (by decide +kernel)), (zg_in 50 (by decide +kernel) (by decide +kernel))⟩
theorem zj_X10_putTab : zJ zX10_putTab 3 := ⟨(by decide +kernel), (by decide +kernel), (by decide +kernel), (by decide +kernel), (zg_in 113 (by decide +kernel) (by decide +kernel)), fun _ => (zg_in 1362 (by decide +kernel) (by decide +kernel)), fun h => absurd rfl h⟩
theorem zc_RX10_149_v : 192 < zN ∧ zCv RX10 149 (zP 192) 3 := ⟨by decide, zj_X10_putTab, (zg_in 1359 (by decide +kernel) (by decide +kernel)), (zg_in 1361 (by decide +kernel) (by decide +kernel)), (zg_in 44 (by decide +kernel) (by decide +kernel))⟩
theorem zj_X10_putEnd : zJ zX10_putEnd 3 := ⟨(by decide +kernel), (by decide +kernel), (by decide +kernel), (by decide +kernel), (zg_in 113 (by decide +kernel) (by decide +kernel)), fun _ => (zg_in 1382 (by decide +kernel) (by decide +kernel)), fun h => absurd rfl h⟩
theorem zc_RX10_152_v : 193 < zN ∧ zCv RX10 152 (zP 193) 3 := ⟨by decide, zj_X10_putEnd, (zg_in 1379 (by decide +kernel) (by decide +kernel)), (zg_in 1381 (by decide +kernel) (by decide +kernel)), (zg_in 49 (by decide +kernel) (by decide +kernel))⟩
theorem zj_X10_putSign : zJ zX10_putSign 4 := ⟨(by decide +kernel), (by decide +kernel), (by decide +kernel), (by decide +kernel), (zg_in 113 (by decide +kernel) (by decide +kernel)), fun _ => (zg_in 1394 (by decide +kernel) (by decide +kernel)), fun h => absurd rfl h⟩
theorem zc_RX10_155_v : 191 < zN ∧ zCv RX10 155 (zP 191) 4 := ⟨by decide, zj_X10_putSign, (zg_in 1391 (by decide +kernel) (by decide +kernel)), (zg_in 1393 (by decide +kernel) (by decide +kernel)), (zg_in 52 (by decide +kernel) (by decide +kernel))⟩
theorem zj_X10_typing : zJ zX10_typing 4 := ⟨(by decide +kernel), (by decide +kernel), (by decide +kernel), (by decide +kernel), (zg_in 113 (by decide +kernel) (by decide +kernel)), fun _ => (zg_in 1338 (by decide +kernel) (by decide +kernel)), fun h => absurd rfl h⟩
theorem zc_RX10_159_v : 190 < zN ∧ zCv RX10 159 (zP 190) 4 := ⟨by decide, zj_X10_typing, (zg_in 1335 (by decide +kernel) (by decide +kernel)), (zg_in 1337 (by decide +kernel) (by decide +kernel)), (zg_in 38 (by decide +kernel) (by decide +kernel))⟩
theorem zj_X10_put : zJ zX10_put 4 := ⟨(by decide +kernel), (by decide +kernel), (by decide +kernel), (by decide +kernel), (zg_in 113 (by decide +kernel) (by decide +kernel)), fun _ => (zg_in 1358 (by decide +kernel) (by decide +kernel)), fun h => absurd rfl h⟩
theorem zc_RX10_162_v : 194 < zN ∧ zCv RX10 162 (zP 194) 4 := ⟨by decide, zj_X10_put, (zg_in 1355 (by decide +kernel) (by decide +kernel)), (zg_in 1357 (by decide +kernel) (by decide +kernel)), (zg_in 43 (by decide +kernel) (by decide +kernel))⟩
theorem zj_X10_closeLine : zJ zX10_closeLine 1 := ⟨(by decide +kernel), (by decide +kernel), (by decide +kernel), (by decide +kernel), (zg_in 113 (by decide +kernel) (by decide +kernel)), fun _ => (zg_in 1418 (by decide +kernel) (by decide +kernel)), fun h => absurd rfl h⟩
theorem zc_RX10_165_v : 173 < zN ∧ zCv RX10 165 (zP 173) 1 := ⟨by decide, zj_X10_closeLine, (zg_in 1415 (by decide +kernel) (by decide +kernel)), (zg_in 1417 (by decide +kernel) (by decide +kernel)), (zg_in 57 (by decide +kernel) (by decide +kernel))⟩
theorem zj_X10_behind : zJ zX10_behind 3 := ⟨(by decide +kernel), (by decide +kernel), (by decide +kernel), (by decide +kernel), (zg_in 113 (by decide +kernel) (by decide +kernel)), fun _ => (zg_in 1402 (by decide +kernel) (by decide +kernel)), fun h => absurd rfl h⟩
theorem zc_RX10_168_v : 196 < zN ∧ zCv RX10 168 (zP 196) 3 := ⟨by decide, zj_X10_behind, (zg_in 1399 (by decide +kernel) (by decide +kernel)), (zg_in 1401 (by decide +kernel) (by decide +kernel)), (zg_in 53 (by decide +kernel) (by decide +kernel))⟩
theorem zj_X10_mayErase : zJ zX10_mayErase 3 := ⟨(by decide +kernel), (by decide +kernel), (by decide +kernel), (by decide +kernel), (zg_in 113 (by decide +kernel) (by decide +kernel)), fun _ => (zg_in 1406 (by decide +kernel) (by decide +kernel)), fun h => absurd rfl h⟩
theorem zc_RX10_171_v : 197 < zN ∧ zCv RX10 171 (zP 197) 3 := ⟨by decide, zj_X10_mayErase, (zg_in 1403 (by decide +kernel) (by decide +kernel)), (zg_in 1405 (by decide +kernel) (by decide +kernel)), (zg_in 54 (by decide +kernel) (by decide +kernel))⟩
theorem zj_X10_closeCell : zJ zX10_closeCell 2 := ⟨(by decide +kernel), (by decide +kernel), (by decide +kernel), (by decide +kernel), (zg_in 113 (by decide +kernel) (by decide +kernel)), fun _ => (zg_in 1410 (by decide +kernel) (by decide +kernel)), fun h => absurd rfl h⟩
theorem zc_RX10_174_v : 175 < zN ∧ zCv RX10 174 (zP 175) 2 := ⟨by decide, zj_X10_closeCell, (zg_in 1407 (by decide +kernel) (by decide +kernel)), (zg_in 1409 (by decide +kernel) (by decide +kernel)), (zg_in 55 (by decide +kernel) (by decide +kernel))⟩
theorem zj_X10_takeEnd : zJ zX10_takeEnd 2 := ⟨(by decide +kernel), (by decide +kernel), (by decide +kernel), (by decide +kernel), (zg_in 113 (by decide +kernel) (by decide +kernel)), fun _ => (zg_in 1414 (by decide +kernel) (by decide +kernel)), fun h => absurd rfl h⟩
theorem zc_RX10_177_v : 199 < zN ∧ zCv RX10 177 (zP 199) 2 := ⟨by decide, zj_X10_takeEnd, (zg_in 1411 (by decide +kernel) (by decide +kernel)), (zg_in 1413 (by decide +kernel) (by decide +kernel)), (zg_in 56 (by decide +kernel) (by decide +kernel))⟩
theorem zj_X10_takeSign : zJ zX10_takeSign 3 := ⟨(by decide +kernel), (by decide +kernel), (by decide +kernel), (by decide +kernel), (zg_in 113 (by decide +kernel) (by decide +kernel)), fun _ => (zg_in 1422 (by decide +kernel) (by decide +kernel)), fun h => absurd rfl h⟩
theorem zc_RX10_180_v : 198 < zN ∧ zCv RX10 180 (zP 198) 3 := ⟨by decide, zj_X10_takeSign, (zg_in 1419 (by decide +kernel) (by decide +kernel)), (zg_in 1421 (by decide +kernel) (by decide +kernel)), (zg_in 58 (by decide +kernel) (by decide +kernel))⟩
theorem zfd_RX10_13 : zFd RX10 13 9 2 := ⟨_, _, _, rfl, by decide, zin9, Or.inl (zg_in 1192 (by decide +kernel) (by decide +kernel))⟩
theorem zj_X10_setAside : zJ zX10_setAside 0 := ⟨(by decide +kernel), (by decide +kernel), (by decide +kernel), (by decide +kernel), (zg_in 113 (by decide +kernel) (by decide +kernel)), fun _ => (zg_in 1442 (by decide +kernel) (by decide +kernel)), fun h => absurd rfl h⟩
theorem zc_RX10_183_v : 204 < zN ∧ zCv RX10 183 (zP 204) 0 := ⟨by decide, zj_X10_setAside, (zg_in 1439 (by decide +kernel) (by decide +kernel)), (zg_in 1441 (by decide +kernel) (by decide +kernel)), (zg_in 59 (by decide +kernel) (by decide +kernel))⟩
theorem zj_X10_takeAside : zJ zX10_takeAside 2 := ⟨(by decide +kernel), (by decide +kernel), (by decide +kernel), (by decide +kernel), (zg_in 113 (by decide +kernel) (by decide +kernel)), fun _ => (zg_in 1446 (by decide +kernel) (by decide +kernel)), fun h => absurd rfl h⟩
theorem zc_RX10_186_v : 205 < zN ∧ zCv RX10 186 (zP 205) 2 := ⟨by decide, zj_X10_takeAside, (zg_in 1443 (by decide +kernel) (by decide +kernel)), (zg_in 1445 (by decide +kernel) (by decide +kernel)), (zg_in 60 (by decide +kernel) (by decide +kernel))⟩
theorem zj_X10_layBlocks : zJ zX10_layBlocks 0 := ⟨(by decide +kernel), (by decide +kernel), (by decide +kernel), (by decide +kernel), (zg_in 113 (by decide +kernel) (by decide +kernel)), fun _ => (zg_in 1450 (by decide +kernel) (by decide +kernel)), fun h => absurd rfl h⟩
theorem zc_RX10_189_v : 218 < zN ∧ zCv RX10 189 (zP 218) 0 := ⟨by decide, zj_X10_layBlocks, (zg_in 1447 (by decide +kernel) (by decide +kernel)), (zg_in 1449 (by decide +kernel) (by decide +kernel)), (zg_in 61 (by decide +kernel) (by decide +kernel))⟩
theorem zj_X10_figuresFrom : zJ zX10_figuresFrom 3 := ⟨(by decide +kernel), (by decide +kernel), (by decide +kernel), (by decide +kernel), (zg_in 113 (by decide +kernel) (by decide +kernel)), fun _ => (zg_in 1482 (by decide +kernel) (by decide +kernel)), fun h => absurd rfl h⟩
theorem zc_RX10_193_v : 208 < zN ∧ zCv RX10 193 (zP 208) 3 := ⟨by decide, zj_X10_figuresFrom, (zg_in 1479 (by decide +kernel) (by decide +kernel)), (zg_in 1481 (by decide +kernel) (by decide +kernel)), (zg_in 69 (by decide +kernel) (by decide +kernel))⟩
theorem zj_X10_isBlank : zJ zX10_isBlank 2 := ⟨(by decide +kernel), (by decide +kernel), (by decide +kernel), (by decide +kernel), (zg_in 113 (by decide +kernel) (by decide +kernel)), fun _ => (zg_in 1474 (by decide +kernel) (by decide +kernel)), fun h => absurd rfl h⟩
theorem zc_RX10_196_v : 207 < zN ∧ zCv RX10 196 (zP 207) 2 := ⟨by decide, zj_X10_isBlank, (zg_in 1471 (by decide +kernel) (by decide +kernel)), (zg_in 1473 (by decide +kernel) (by decide +kernel)), (zg_in 67 (by decide +kernel) (by decide +kernel))⟩
theorem zj_X10_isNumber : zJ zX10_isNumber 2 := ⟨(by decide +kernel), (by decide +kernel), (by decide +kernel), (by decide +kernel), (zg_in 113 (by decide +kernel) (by decide +kernel)), fun _ => (zg_in 1478 (by decide +kernel) (by decide +kernel)), fun h => absurd rfl h⟩
theorem zc_RX10_199_v : 209 < zN ∧ zCv RX10 199 (zP 209) 2 := ⟨by decide, zj_X10_isNumber, (zg_in 1475 (by decide +kernel) (by decide +kernel)), (zg_in 1477 (by decide +kernel) (by decide +kernel)), (zg_in 68 (by decide +kernel) (by decide +kernel))⟩
theorem zj_X10_wholeLength : zJ zX10_wholeLength 2 := ⟨(by decide +kernel), (by decide +kernel), (by decide +kernel), (by decide +kernel), (zg_in 113 (by decide +kernel) (by decide +kernel)), fun _ => (zg_in 1486 (by decide +kernel) (by decide +kernel)), fun h => absurd rfl h⟩
theorem zc_RX10_202_v : 211 < zN ∧ zCv RX10 202 (zP 211) 2 := ⟨by decide, zj_X10_wholeLength, (zg_in 1483 (by decide +kernel) (by decide +kernel)), (zg_in 1485 (by decide +kernel) (by decide +kernel)), (zg_in 70 (by decide +kernel) (by decide +kernel))⟩
theorem zfd_RX10_39 : zFd RX10 39 9 15 := ⟨_, _, _, rfl, by decide, zin9, Or.inl (zg_in 1205 (by decide +kernel) (by decide +kernel))⟩
theorem zfd_RX10_42 : zFd RX10 42 9 16 := ⟨_, _, _, rfl, by decide, zin9, Or.inl (zg_in 1206 (by decide +kernel) (by decide +kernel))⟩
theorem zfd_RX10_36 : zFd RX10 36 9 14 := ⟨_, _, _, rfl, by decide, zin9, Or.inl (zg_in 1204 (by decide +kernel) (by decide +kernel))⟩
theorem zj_X10_kindOf : zJ zX10_kindOf 2 := ⟨(by decide +kernel), (by decide +kernel), (by decide +kernel), (by decide +kernel), (zg_in 113 (by decide +kernel) (by decide +kernel)), fun _ => (zg_in 1470 (by decide +kernel) (by decide +kernel)), fun h => absurd rfl h⟩
theorem zc_RX10_209_v : 210 < zN ∧ zCv RX10 209 (zP 210) 2 := ⟨by decide, zj_X10_kindOf, (zg_in 1467 (by decide +kernel) (by decide +kernel)), (zg_in 1469 (by decide +kernel) (by decide +kernel)), (zg_in 66 (by decide +kernel) (by decide +kernel))⟩
theorem zj_X10_numbersIn : zJ zX10_numbersIn 1 := ⟨(by decide +kernel), (by decide +kernel), (by decide +kernel), (by decide +kernel), (zg_in 113 (by decide +kernel) (by decide +kernel)), fun _ => (zg_in 1466 (by decide +kernel) (by decide +kernel)), fun h => absurd rfl h⟩
theorem zc_RX10_212_v : 215 < zN ∧ zCv RX10 212 (zP 215) 1 := ⟨by decide, zj_X10_numbersIn, (zg_in 1463 (by decide +kernel) (by decide +kernel)), (zg_in 1465 (by decide +kernel) (by decide +kernel)), (zg_in 65 (by decide +kernel) (by decide +kernel))⟩
theorem zfd_RX10_45 : zFd RX10 45 9 17 := ⟨_, _, _, rfl, by decide, zin9, Or.inl (zg_in 1207 (by decide +kernel) (by decide +kernel))⟩
theorem zj_X10_isDecimal : zJ zX10_isDecimal 1 := ⟨(by decide +kernel), (by decide +kernel), (by decide +kernel), (by decide +kernel), (zg_in 113 (by decide +kernel) (by decide +kernel)), fun _ => (zg_in 1462 (by decide +kernel) (by decide +kernel)), fun h => absurd rfl h⟩
theorem zc_RX10_215_v : 216 < zN ∧ zCv RX10 215 (zP 216) 1 := ⟨by decide, zj_X10_isDecimal, (zg_in 1459 (by decide +kernel) (by decide +kernel)), (zg_in 1461 (by decide +kernel) (by decide +kernel)), (zg_in 64 (by decide +kernel) (by decide +kernel))⟩
theorem zfd_RX10_51 : zFd RX10 51 9 19 := ⟨_, _, _, rfl, by decide, zin9, Or.inl (zg_in 1209 (by decide +kernel) (by decide +kernel))⟩
theorem zj_X10_partLength : zJ zX10_partLength 2 := ⟨(by decide +kernel), (by decide +kernel), (by decide +kernel), (by decide +kernel), (zg_in 113 (by decide +kernel) (by decide +kernel)), fun _ => (zg_in 1490 (by decide +kernel) (by decide +kernel)), fun h => absurd rfl h⟩
theorem zc_RX10_218_v : 212 < zN ∧ zCv RX10 218 (zP 212) 2 := ⟨by decide, zj_X10_partLength, (zg_in 1487 (by decide +kernel) (by decide +kernel)), (zg_in 1489 (by decide +kernel) (by decide +kernel)), (zg_in 71 (by decide +kernel) (by decide +kernel))⟩
theorem zfd_RX10_48 : zFd RX10 48 9 18 := ⟨_, _, _, rfl, by decide, zin9, Or.inl (zg_in 1208 (by decide +kernel) (by decide +kernel))⟩
theorem zfd_RX10_221 : zFd RX10 221 9 9 := ⟨_, _, _, rfl, by decide, zin9, Or.inl (zg_in 1199 (by decide +kernel) (by decide +kernel))⟩
theorem zfd_RX10_26 : zFd RX10 26 9 8 := ⟨_, _, _, rfl, by decide, zin9, Or.inl (zg_in 1198 (by decide +kernel) (by decide +kernel))⟩
theorem zfd_RX10_54 : zFd RX10 54 9 20 := ⟨_, _, _, rfl, by decide, zin9, Or.inl (zg_in 1210 (by decide +kernel) (by decide +kernel))⟩
theorem zfd_RX10_30 : zFd RX10 30 9 10 := ⟨_, _, _, rfl, by decide, zin9, Or.inl (zg_in 1200 (by decide +kernel) (by decide +kernel))⟩
theorem zpt_RX10_224 {n : String} : zPt RX10 n 224 9 13 := ⟨_, _, _, rfl, by decide, zin9, (zg_in 1203 (by decide +kernel) (by decide +kernel)), tyX10_ok, nmX10, Or.inl rfl⟩
theorem zj_X10_isEnded : zJ zX10_isEnded 2 := ⟨(by decide +kernel), (by decide +kernel), (by decide +kernel), (by decide +kernel), (zg_in 113 (by decide +kernel) (by decide +kernel)), fun _ => (zg_in 1454 (by decide +kernel) (by decide +kernel)), fun h => absurd rfl h⟩
theorem zc_RX10_227_v : 214 < zN ∧ zCv RX10 227 (zP 214) 2 := ⟨by decide, zj_X10_isEnded, (zg_in 1451 (by decide +kernel) (by decide +kernel)), (zg_in 1453 (by decide +kernel) (by decide +kernel)), (zg_in 62 (by decide +kernel) (by decide +kernel))⟩
theorem zfd_RX10_224 : zFd RX10 224 9 13 := ⟨_, _, _, rfl, by decide, zin9, Or.inl (zg_in 1203 (by decide +kernel) (by decide +kernel))⟩
theorem zj_X10_measure : zJ zX10_measure 1 := ⟨(by decide +kernel), (by decide +kernel), (by decide +kernel), (by decide +kernel), (zg_in 113 (by decide +kernel) (by decide +kernel)), fun _ => (zg_in 1458 (by decide +kernel) (by decide +kernel)), fun h => absurd rfl h⟩
theorem zc_RX10_230_v : 217 < zN ∧ zCv RX10 230 (zP 217) 1 := ⟨by decide, zj_X10_measure, (zg_in 1455 (by decide +kernel) (by decide +kernel)), (zg_in 1457 (by decide +kernel) (by decide +kernel)), (zg_in 63 (by decide +kernel) (by decide +kernel))⟩
theorem zj_X10_blockOf : zJ zX10_blockOf 2 := ⟨(by decide +kernel), (by decide +kernel), (by decide +kernel), (by decide +kernel), (zg_in 113 (by decide +kernel) (by decide +kernel)), fun _ => (zg_in 1595 (by decide +kernel) (by decide +kernel)), fun h => absurd rfl h⟩
theorem zc_RX10_233_v : 219 < zN ∧ zCv RX10 233 (zP 219) 2 := ⟨by decide, zj_X10_blockOf, (zg_in 1592 (by decide +kernel) (by decide +kernel)), (zg_in 1594 (by decide +kernel) (by decide +kernel)), (zg_in 89 (by decide +kernel) (by decide +kernel))⟩
theorem zj_X10_xOf : zJ zX10_xOf 2 := ⟨(by decide +kernel), (by decide +kernel), (by decide +kernel), (by decide +kernel), (zg_in 113 (by decide +kernel) (by decide +kernel)), fun _ => (zg_in 1591 (by decide +kernel) (by decide +kernel)), fun h => absurd rfl h⟩
theorem zc_RX10_236_v : 220 < zN ∧ zCv RX10 236 (zP 220) 2 := ⟨by decide, zj_X10_xOf, (zg_in 1588 (by decide +kernel) (by decide +kernel)), (zg_in 1590 (by decide +kernel) (by decide +kernel)), (zg_in 88 (by decide +kernel) (by decide +kernel))⟩
theorem zj_X10_rankOf : zJ zX10_rankOf 1 := ⟨(by decide +kernel), (by decide +kernel), (by decide +kernel), (by decide +kernel), (zg_in 113 (by decide +kernel) (by decide +kernel)), fun _ => (zg_in 1509 (by decide +kernel) (by decide +kernel)), fun h => absurd rfl h⟩
theorem zc_RX10_239_s : 225 < zN ∧ zCs RX10 239 (zP 225) 1 := ⟨by decide, zj_X10_rankOf, (zg_in 1508 (by decide +kernel) (by decide +kernel)), Or.inl (zg_in 1507 (by decide +kernel) (by decide +kernel))⟩
theorem zj_X10_valueOf : zJ zX10_valueOf 2 := ⟨(by decide +kernel), (by decide +kernel), (by decide +kernel), (by decide +kernel), (zg_in 113 (by decide +kernel) (by decide +kernel)), fun _ => (zg_in 1513 (by decide +kernel) (by decide +kernel)), fun h => absurd rfl h⟩
theorem zc_RX10_242_v : 213 < zN ∧ zCv RX10 242 (zP 213) 2 := ⟨by decide, zj_X10_valueOf, (zg_in 1510 (by decide +kernel) (by decide +kernel)), (zg_in 1512 (by decide +kernel) (by decide +kernel)), (zg_in 75 (by decide +kernel) (by decide +kernel))⟩
theorem zj_X10_comparedWords : zJ zX10_comparedWords 3 := ⟨(by decide +kernel), (by decide +kernel), (by decide +kernel), (by decide +kernel), (zg_in 113 (by decide +kernel) (by decide +kernel)), fun _ => (zg_in 1519 (by decide +kernel) (by decide +kernel)), fun h => absurd rfl h⟩
theorem zc_RX10_246_v : 224 < zN ∧ zCv RX10 246 (zP 224) 3 := ⟨by decide, zj_X10_comparedWords, (zg_in 1516 (by decide +kernel) (by decide +kernel)), (zg_in 1518 (by decide +kernel) (by decide +kernel)), (zg_in 76 (by decide +kernel) (by decide +kernel))⟩
theorem zfd_RX10_57 : zFd RX10 57 9 21 := ⟨_, _, _, rfl, by decide, zin9, Or.inl (zg_in 1211 (by decide +kernel) (by decide +kernel))⟩
theorem zj_X10_isBehind : zJ zX10_isBehind 4 := ⟨(by decide +kernel), (by decide +kernel), (by decide +kernel), (by decide +kernel), (zg_in 113 (by decide +kernel) (by decide +kernel)), fun _ => (zg_in 1506 (by decide +kernel) (by decide +kernel)), fun h => absurd rfl h⟩
theorem zc_RX10_249_v : 226 < zN ∧ zCv RX10 249 (zP 226) 4 := ⟨by decide, zj_X10_isBehind, (zg_in 1503 (by decide +kernel) (by decide +kernel)), (zg_in 1505 (by decide +kernel) (by decide +kernel)), (zg_in 74 (by decide +kernel) (by decide +kernel))⟩
theorem zj_X10_isBlock : zJ zX10_isBlock 1 := ⟨(by decide +kernel), (by decide +kernel), (by decide +kernel), (by decide +kernel), (zg_in 113 (by decide +kernel) (by decide +kernel)), fun _ => (zg_in 1498 (by decide +kernel) (by decide +kernel)), fun h => absurd rfl h⟩
theorem zc_RX10_253_v : 223 < zN ∧ zCv RX10 253 (zP 223) 1 := ⟨by decide, zj_X10_isBlock, (zg_in 1495 (by decide +kernel) (by decide +kernel)), (zg_in 1497 (by decide +kernel) (by decide +kernel)), (zg_in 72 (by decide +kernel) (by decide +kernel))⟩
theorem zj_X10_sortNow : zJ zX10_sortNow 3 := ⟨(by decide +kernel), (by decide +kernel), (by decide +kernel), (by decide +kernel), (zg_in 113 (by decide +kernel) (by decide +kernel)), fun _ => (zg_in 1502 (by decide +kernel) (by decide +kernel)), fun h => absurd rfl h⟩
theorem zc_RX10_256_v : 227 < zN ∧ zCv RX10 256 (zP 227) 3 := ⟨by decide, zj_X10_sortNow, (zg_in 1499 (by decide +kernel) (by decide +kernel)), (zg_in 1501 (by decide +kernel) (by decide +kernel)), (zg_in 73 (by decide +kernel) (by decide +kernel))⟩
theorem zj_X10_hasRoom : zJ zX10_hasRoom 1 := ⟨(by decide +kernel), (by decide +kernel), (by decide +kernel), (by decide +kernel), (zg_in 113 (by decide +kernel) (by decide +kernel)), fun _ => (zg_in 1527 (by decide +kernel) (by decide +kernel)), fun h => absurd rfl h⟩
theorem zc_RX10_260_v : 229 < zN ∧ zCv RX10 260 (zP 229) 1 := ⟨by decide, zj_X10_hasRoom, (zg_in 1524 (by decide +kernel) (by decide +kernel)), (zg_in 1526 (by decide +kernel) (by decide +kernel)), (zg_in 77 (by decide +kernel) (by decide +kernel))⟩
theorem zj_X10_runAt : zJ zX10_runAt 3 := ⟨(by decide +kernel), (by decide +kernel), (by decide +kernel), (by decide +kernel), (zg_in 113 (by decide +kernel) (by decide +kernel)), fun _ => (zg_in 1543 (by decide +kernel) (by decide +kernel)), fun h => absurd rfl h⟩
theorem zc_RX10_263_v : 232 < zN ∧ zCv RX10 263 (zP 232) 3 := ⟨by decide, zj_X10_runAt, (zg_in 1540 (by decide +kernel) (by decide +kernel)), (zg_in 1542 (by decide +kernel) (by decide +kernel)), (zg_in 79 (by decide +kernel) (by decide +kernel))⟩
theorem zj_X10_runs : zJ zX10_runs 2 := ⟨(by decide +kernel), (by decide +kernel), (by decide +kernel), (by decide +kernel), (zg_in 113 (by decide +kernel) (by decide +kernel)), fun _ => (zg_in 1539 (by decide +kernel) (by decide +kernel)), fun h => absurd rfl h⟩
theorem zc_RX10_266_v : 233 < zN ∧ zCv RX10 266 (zP 233) 2 := ⟨by decide, zj_X10_runs, (zg_in 1536 (by decide +kernel) (by decide +kernel)), (zg_in 1538 (by decide +kernel) (by decide +kernel)), (zg_in 78 (by decide +kernel) (by decide +kernel))⟩
theorem zj_X10_makeTabs : zJ zX10_makeTabs 2 := ⟨(by decide +kernel), (by decide +kernel), (by decide +kernel), (by decide +kernel), (zg_in 113 (by decide +kernel) (by decide +kernel)), fun _ => (zg_in 1547 (by decide +kernel) (by decide +kernel)), fun h => absurd rfl h⟩
theorem zc_RX10_269_v : 234 < zN ∧ zCv RX10 269 (zP 234) 2 := ⟨by decide, zj_X10_makeTabs, (zg_in 1544 (by decide +kernel) (by decide +kernel)), (zg_in 1546 (by decide +kernel) (by decide +kernel)), (zg_in 80 (by decide +kernel) (by decide +kernel))⟩
theorem zpt_RX10_26 {n : String} : zPt RX10 n 26 9 8 := ⟨_, _, _, rfl, by decide, zin9, (zg_in 1198 (by decide +kernel) (by decide +kernel)), tyX10_ok, nmX10, Or.inl rfl⟩
theorem zpt_RX10_221 {n : String} : zPt RX10 n 221 9 9 := ⟨_, _, _, rfl, by decide, zin9, (zg_in 1199 (by decide +kernel) (by decide +kernel)), tyX10_ok, nmX10, Or.inl rfl⟩
theorem zpt_RX10_30 {n : String} : zPt RX10 n 30 9 10 := ⟨_, _, _, rfl, by decide, zin9, (zg_in 1200 (by decide +kernel) (by decide +kernel)), tyX10_ok, nmX10, Or.inl rfl⟩
theorem zj_X10_signsIn : zJ zX10_signsIn 1 := ⟨(by decide +kernel), (by decide +kernel), (by decide +kernel), (by decide +kernel), (zg_in 113 (by decide +kernel) (by decide +kernel)), fun _ => (zg_in 1575 (by decide +kernel) (by decide +kernel)), fun h => absurd rfl h⟩
theorem zc_RX10_272_v : 239 < zN ∧ zCv RX10 272 (zP 239) 1 := ⟨by decide, zj_X10_signsIn, (zg_in 1572 (by decide +kernel) (by decide +kernel)), (zg_in 1574 (by decide +kernel) (by decide +kernel)), (zg_in 84 (by decide +kernel) (by decide +kernel))⟩
theorem zj_X10_shownLength : zJ zX10_shownLength 1 := ⟨(by decide +kernel), (by decide +kernel), (by decide +kernel), (by decide +kernel), (zg_in 113 (by decide +kernel) (by decide +kernel)), fun _ => (zg_in 1587 (by decide +kernel) (by decide +kernel)), fun h => absurd rfl h⟩
theorem zc_RX10_275_v : 222 < zN ∧ zCv RX10 275 (zP 222) 1 := ⟨by decide, zj_X10_shownLength, (zg_in 1584 (by decide +kernel) (by decide +kernel)), (zg_in 1586 (by decide +kernel) (by decide +kernel)), (zg_in 87 (by decide +kernel) (by decide +kernel))⟩
theorem zj_X10_allCells : zJ zX10_allCells 0 := ⟨(by decide +kernel), (by decide +kernel), (by decide +kernel), (by decide +kernel), (zg_in 113 (by decide +kernel) (by decide +kernel)), fun _ => (zg_in 1567 (by decide +kernel) (by decide +kernel)), fun h => absurd rfl h⟩
theorem zc_RX10_278_v : 238 < zN ∧ zCv RX10 278 (zP 238) 0 := ⟨by decide, zj_X10_allCells, (zg_in 1564 (by decide +kernel) (by decide +kernel)), (zg_in 1566 (by decide +kernel) (by decide +kernel)), (zg_in 82 (by decide +kernel) (by decide +kernel))⟩
theorem zj_X10_allSigns : zJ zX10_allSigns 0 := ⟨(by decide +kernel), (by decide +kernel), (by decide +kernel), (by decide +kernel), (zg_in 113 (by decide +kernel) (by decide +kernel)), fun _ => (zg_in 1571 (by decide +kernel) (by decide +kernel)), fun h => absurd rfl h⟩
theorem zc_RX10_281_v : 240 < zN ∧ zCv RX10 281 (zP 240) 0 := ⟨by decide, zj_X10_allSigns, (zg_in 1568 (by decide +kernel) (by decide +kernel)), (zg_in 1570 (by decide +kernel) (by decide +kernel)), (zg_in 83 (by decide +kernel) (by decide +kernel))⟩
theorem zj_X10_ofKind : zJ zX10_ofKind 1 := ⟨(by decide +kernel), (by decide +kernel), (by decide +kernel), (by decide +kernel), (zg_in 113 (by decide +kernel) (by decide +kernel)), fun _ => (zg_in 1579 (by decide +kernel) (by decide +kernel)), fun h => absurd rfl h⟩
theorem zc_RX10_284_v : 241 < zN ∧ zCv RX10 284 (zP 241) 1 := ⟨by decide, zj_X10_ofKind, (zg_in 1576 (by decide +kernel) (by decide +kernel)), (zg_in 1578 (by decide +kernel) (by decide +kernel)), (zg_in 85 (by decide +kernel) (by decide +kernel))⟩
theorem zj_X10_longest : zJ zX10_longest 0 := ⟨(by decide +kernel), (by decide +kernel), (by decide +kernel), (by decide +kernel), (zg_in 113 (by decide +kernel) (by decide +kernel)), fun _ => (zg_in 1583 (by decide +kernel) (by decide +kernel)), fun h => absurd rfl h⟩
theorem zc_RX10_287_v : 242 < zN ∧ zCv RX10 287 (zP 242) 0 := ⟨by decide, zj_X10_longest, (zg_in 1580 (by decide +kernel) (by decide +kernel)), (zg_in 1582 (by decide +kernel) (by decide +kernel)), (zg_in 86 (by decide +kernel) (by decide +kernel))⟩
theorem zj_X10_counted : zJ zX10_counted 1 := ⟨(by decide +kernel), (by decide +kernel), (by decide +kernel), (by decide +kernel), (zg_in 113 (by decide +kernel) (by decide +kernel)), fun _ => (zg_in 1563 (by decide +kernel) (by decide +kernel)), fun h => absurd rfl h⟩
theorem zc_RX10_290_v : 243 < zN ∧ zCv RX10 290 (zP 243) 1 := ⟨by decide, zj_X10_counted, (zg_in 1560 (by decide +kernel) (by decide +kernel)), (zg_in 1562 (by decide +kernel) (by decide +kernel)), (zg_in 81 (by decide +kernel) (by decide +kernel))⟩
theorem zj_X10_fixedLength : zJ zX10_fixedLength 1 := ⟨(by decide +kernel), (by decide +kernel), (by decide +kernel), (by decide +kernel), (zg_in 113 (by decide +kernel) (by decide +kernel)), fun _ => (zg_in 1607 (by decide +kernel) (by decide +kernel)), fun h => absurd rfl h⟩
theorem zc_RX10_293_v : 245 < zN ∧ zCv RX10 293 (zP 245) 1 := ⟨by decide, zj_X10_fixedLength, (zg_in 1604 (by decide +kernel) (by decide +kernel)), (zg_in 1606 (by decide +kernel) (by decide +kernel)), (zg_in 91 (by decide +kernel) (by decide +kernel))⟩
theorem zj_X10_lineNow : zJ zX10_lineNow 2 := ⟨(by decide +kernel), (by decide +kernel), (by decide +kernel), (by decide +kernel), (zg_in 113 (by decide +kernel) (by decide +kernel)), fun _ => (zg_in 1603 (by decide +kernel) (by decide +kernel)), fun h => absurd rfl h⟩
theorem zc_RX10_296_v : 246 < zN ∧ zCv RX10 296 (zP 246) 2 := ⟨by decide, zj_X10_lineNow, (zg_in 1600 (by decide +kernel) (by decide +kernel)), (zg_in 1602 (by decide +kernel) (by decide +kernel)), (zg_in 90 (by decide +kernel) (by decide +kernel))⟩
theorem zj_X10_shiftOf : zJ zX10_shiftOf 2 := ⟨(by decide +kernel), (by decide +kernel), (by decide +kernel), (by decide +kernel), (zg_in 113 (by decide +kernel) (by decide +kernel)), fun _ => (zg_in 1619 (by decide +kernel) (by decide +kernel)), fun h => absurd rfl h⟩
theorem zc_RX10_299_v : 221 < zN ∧ zCv RX10 299 (zP 221) 2 := ⟨by decide, zj_X10_shiftOf, (zg_in 1616 (by decide +kernel) (by decide +kernel)), (zg_in 1618 (by decide +kernel) (by decide +kernel)), (zg_in 93 (by decide +kernel) (by decide +kernel))⟩
theorem zj_X10_cellNow : zJ zX10_cellNow 3 := ⟨(by decide +kernel), (by decide +kernel), (by decide +kernel), (by decide +kernel), (zg_in 113 (by decide +kernel) (by decide +kernel)), fun _ => (zg_in 1615 (by decide +kernel) (by decide +kernel)), fun h => absurd rfl h⟩
theorem zc_RX10_302_v : 248 < zN ∧ zCv RX10 302 (zP 248) 3 := ⟨by decide, zj_X10_cellNow, (zg_in 1612 (by decide +kernel) (by decide +kernel)), (zg_in 1614 (by decide +kernel) (by decide +kernel)), (zg_in 92 (by decide +kernel) (by decide +kernel))⟩
theorem zj_X10_shownNow : zJ zX10_shownNow 2 := ⟨(by decide +kernel), (by decide +kernel), (by decide +kernel), (by decide +kernel), (zg_in 113 (by decide +kernel) (by decide +kernel)), fun _ => (zg_in 1631 (by decide +kernel) (by decide +kernel)), fun h => absurd rfl h⟩
theorem zc_RX10_305_v : 251 < zN ∧ zCv RX10 305 (zP 251) 2 := ⟨by decide, zj_X10_shownNow, (zg_in 1628 (by decide +kernel) (by decide +kernel)), (zg_in 1630 (by decide +kernel) (by decide +kernel)), (zg_in 94 (by decide +kernel) (by decide +kernel))⟩
theorem zj_X10_isBuffer : zJ zX10_isBuffer 2 := ⟨(by decide +kernel), (by decide +kernel), (by decide +kernel), (by decide +kernel), (zg_in 113 (by decide +kernel) (by decide +kernel)), fun _ => (zg_in 1647 (by decide +kernel) (by decide +kernel)), fun h => absurd rfl h⟩
theorem zc_RX10_308_v : 254 < zN ∧ zCv RX10 308 (zP 254) 2 := ⟨by decide, zj_X10_isBuffer, (zg_in 1644 (by decide +kernel) (by decide +kernel)), (zg_in 1646 (by decide +kernel) (by decide +kernel)), (zg_in 96 (by decide +kernel) (by decide +kernel))⟩
theorem zj_X10_findNow : zJ zX10_findNow 2 := ⟨(by decide +kernel), (by decide +kernel), (by decide +kernel), (by decide +kernel), (zg_in 113 (by decide +kernel) (by decide +kernel)), fun _ => (zg_in 1643 (by decide +kernel) (by decide +kernel)), fun h => absurd rfl h⟩
theorem zc_RX10_311_v : 255 < zN ∧ zCv RX10 311 (zP 255) 2 := ⟨by decide, zj_X10_findNow, (zg_in 1640 (by decide +kernel) (by decide +kernel)), (zg_in 1642 (by decide +kernel) (by decide +kernel)), (zg_in 95 (by decide +kernel) (by decide +kernel))⟩
theorem zj_X10_blockNow : zJ zX10_blockNow 2 := ⟨(by decide +kernel), (by decide +kernel), (by decide +kernel), (by decide +kernel), (zg_in 113 (by decide +kernel) (by decide +kernel)), fun _ => (zg_in 1655 (by decide +kernel) (by decide +kernel)), fun h => absurd rfl h⟩
theorem zc_RX10_314_v : 257 < zN ∧ zCv RX10 314 (zP 257) 2 := ⟨by decide, zj_X10_blockNow, (zg_in 1652 (by decide +kernel) (by decide +kernel)), (zg_in 1654 (by decide +kernel) (by decide +kernel)), (zg_in 97 (by decide +kernel) (by decide +kernel))⟩
theorem zj_X10_sumOf : zJ zX10_sumOf 1 := ⟨(by decide +kernel), (by decide +kernel), (by decide +kernel), (by decide +kernel), (zg_in 113 (by decide +kernel) (by decide +kernel)), fun _ => (zg_in 1663 (by decide +kernel) (by decide +kernel)), fun h => absurd rfl h⟩
theorem zc_RX10_317_v : 259 < zN ∧ zCv RX10 317 (zP 259) 1 := ⟨by decide, zj_X10_sumOf, (zg_in 1660 (by decide +kernel) (by decide +kernel)), (zg_in 1662 (by decide +kernel) (by decide +kernel)), (zg_in 98 (by decide +kernel) (by decide +kernel))⟩
theorem zfd_RX10_60 : zFd RX10 60 9 22 := ⟨_, _, _, rfl, by decide, zin9, Or.inl (zg_in 1212 (by decide +kernel) (by decide +kernel))⟩
theorem zj_X10_changedX : zJ zX10_changedX 4 := ⟨(by decide +kernel), (by decide +kernel), (by decide +kernel), (by decide +kernel), (zg_in 113 (by decide +kernel) (by decide +kernel)), fun _ => (zg_in 1679 (by decide +kernel) (by decide +kernel)), fun h => absurd rfl h⟩
theorem zc_RX10_321_v : 263 < zN ∧ zCv RX10 321 (zP 263) 4 := ⟨by decide, zj_X10_changedX, (zg_in 1676 (by decide +kernel) (by decide +kernel)), (zg_in 1678 (by decide +kernel) (by decide +kernel)), (zg_in 99 (by decide +kernel) (by decide +kernel))⟩
theorem zfd_RX10_326 : zFd RX10 326 9 23 := ⟨_, _, _, rfl, by decide, zin9, Or.inl (zg_in 1213 (by decide +kernel) (by decide +kernel))⟩
theorem zpt_RX10_326 {n : String} : zPt RX10 n 326 9 23 := ⟨_, _, _, rfl, by decide, zin9, (zg_in 1213 (by decide +kernel) (by decide +kernel)), tyX10_ok, nmX10, Or.inl rfl⟩
theorem zj_X10_mix : zJ zX10_mix 1 := ⟨(by decide +kernel), (by decide +kernel), (by decide +kernel), (by decide +kernel), (zg_in 113 (by decide +kernel) (by decide +kernel)), fun _ => (zg_in 1688 (by decide +kernel) (by decide +kernel)), fun h => absurd rfl h⟩
theorem zc_RX10_330_v : 265 < zN ∧ zCv RX10 330 (zP 265) 1 := ⟨by decide, zj_X10_mix, (zg_in 1685 (by decide +kernel) (by decide +kernel)), (zg_in 1687 (by decide +kernel) (by decide +kernel)), (zg_in 100 (by decide +kernel) (by decide +kernel))⟩
theorem zj_X10_mixLine : zJ zX10_mixLine 1 := ⟨(by decide +kernel), (by decide +kernel), (by decide +kernel), (by decide +kernel), (zg_in 113 (by decide +kernel) (by decide +kernel)), fun _ => (zg_in 1693 (by decide +kernel) (by decide +kernel)), fun h => absurd rfl h⟩
theorem zc_RX10_336_v : 266 < zN ∧ zCv RX10 336 (zP 266) 1 := ⟨by decide, zj_X10_mixLine, (zg_in 1690 (by decide +kernel) (by decide +kernel)), (zg_in 1692 (by decide +kernel) (by decide +kernel)), (zg_in 101 (by decide +kernel) (by decide +kernel))⟩
theorem zj_X9_append : zJ zX9_append 1 := ⟨(by decide +kernel), (by decide +kernel), (by decide +kernel), (by decide +kernel), (zg_in 103 (by decide +kernel) (by decide +kernel)), fun _ => (zg_in 605 (by decide +kernel) (by decide +kernel)), fun h => absurd rfl h⟩
theorem zc_RL_7_v : 107 < zN ∧ zCv RL 7 (zP 107) 1 := ⟨by decide, zj_X9_append, (zg_in 602 (by decide +kernel) (by decide +kernel)), (zg_in 603 (by decide +kernel) (by decide +kernel)), (zg_in 604 (by decide +kernel) (by decide +kernel))⟩
theorem zj_X9_firstError : zJ zX9_firstError 1 := ⟨(by decide +kernel), (by decide +kernel), (by decide +kernel), (by decide +kernel), (zg_in 103 (by decide +kernel) (by decide +kernel)), fun _ => (zg_in 704 (by decide +kernel) (by decide +kernel)), fun h => absurd rfl h⟩
theorem zc_RL_17_v : 109 < zN ∧ zCv RL 17 (zP 109) 1 := ⟨by decide, zj_X9_firstError, (zg_in 701 (by decide +kernel) (by decide +kernel)), (zg_in 702 (by decide +kernel) (by decide +kernel)), (zg_in 703 (by decide +kernel) (by decide +kernel))⟩
theorem zj_X9_load : zJ zX9_load 0 := ⟨(by decide +kernel), (by decide +kernel), (by decide +kernel), (by decide +kernel), (zg_in 103 (by decide +kernel) (by decide +kernel)), fun _ => (zg_in 720 (by decide +kernel) (by decide +kernel)), fun h => absurd rfl h⟩
theorem zc_RL_20_v : 110 < zN ∧ zCv RL 20 (zP 110) 0 := ⟨by decide, zj_X9_load, (zg_in 717 (by decide +kernel) (by decide +kernel)), (zg_in 718 (by decide +kernel) (by decide +kernel)), (zg_in 719 (by decide +kernel) (by decide +kernel))⟩
theorem zj_X9_type : zJ zX9_type 4 := ⟨(by decide +kernel), (by decide +kernel), (by decide +kernel), (by decide +kernel), (zg_in 103 (by decide +kernel) (by decide +kernel)), fun _ => (zg_in 776 (by decide +kernel) (by decide +kernel)), fun h => absurd rfl h⟩
theorem zc_RL_24_v : 111 < zN ∧ zCv RL 24 (zP 111) 4 := ⟨by decide, zj_X9_type, (zg_in 773 (by decide +kernel) (by decide +kernel)), (zg_in 774 (by decide +kernel) (by decide +kernel)), (zg_in 775 (by decide +kernel) (by decide +kernel))⟩
theorem zj_X9_erase : zJ zX9_erase 3 := ⟨(by decide +kernel), (by decide +kernel), (by decide +kernel), (by decide +kernel), (zg_in 103 (by decide +kernel) (by decide +kernel)), fun _ => (zg_in 824 (by decide +kernel) (by decide +kernel)), fun h => absurd rfl h⟩
theorem zc_RL_30_v : 112 < zN ∧ zCv RL 30 (zP 112) 3 := ⟨by decide, zj_X9_erase, (zg_in 821 (by decide +kernel) (by decide +kernel)), (zg_in 822 (by decide +kernel) (by decide +kernel)), (zg_in 823 (by decide +kernel) (by decide +kernel))⟩
theorem zj_X9_setCell : zJ zX9_setCell 2 := ⟨(by decide +kernel), (by decide +kernel), (by decide +kernel), (by decide +kernel), (zg_in 103 (by decide +kernel) (by decide +kernel)), fun _ => (zg_in 844 (by decide +kernel) (by decide +kernel)), fun h => absurd rfl h⟩
theorem zc_RL_34_v : 113 < zN ∧ zCv RL 34 (zP 113) 2 := ⟨by decide, zj_X9_setCell, (zg_in 841 (by decide +kernel) (by decide +kernel)), (zg_in 842 (by decide +kernel) (by decide +kernel)), (zg_in 843 (by decide +kernel) (by decide +kernel))⟩
theorem zj_X9_insertLine : zJ zX9_insertLine 1 := ⟨(by decide +kernel), (by decide +kernel), (by decide +kernel), (by decide +kernel), (zg_in 103 (by decide +kernel) (by decide +kernel)), fun _ => (zg_in 851 (by decide +kernel) (by decide +kernel)), fun h => absurd rfl h⟩
theorem zc_RL_38_v : 114 < zN ∧ zCv RL 38 (zP 114) 1 := ⟨by decide, zj_X9_insertLine, (zg_in 848 (by decide +kernel) (by decide +kernel)), (zg_in 849 (by decide +kernel) (by decide +kernel)), (zg_in 850 (by decide +kernel) (by decide +kernel))⟩
theorem zj_X9_removeLine : zJ zX9_removeLine 1 := ⟨(by decide +kernel), (by decide +kernel), (by decide +kernel), (by decide +kernel), (zg_in 103 (by decide +kernel) (by decide +kernel)), fun _ => (zg_in 866 (by decide +kernel) (by decide +kernel)), fun h => absurd rfl h⟩
theorem zc_RL_41_v : 115 < zN ∧ zCv RL 41 (zP 115) 1 := ⟨by decide, zj_X9_removeLine, (zg_in 863 (by decide +kernel) (by decide +kernel)), (zg_in 864 (by decide +kernel) (by decide +kernel)), (zg_in 865 (by decide +kernel) (by decide +kernel))⟩
theorem zj_X9_moveLine : zJ zX9_moveLine 2 := ⟨(by decide +kernel), (by decide +kernel), (by decide +kernel), (by decide +kernel), (zg_in 103 (by decide +kernel) (by decide +kernel)), fun _ => (zg_in 884 (by decide +kernel) (by decide +kernel)), fun h => absurd rfl h⟩
theorem zc_RL_44_v : 116 < zN ∧ zCv RL 44 (zP 116) 2 := ⟨by decide, zj_X9_moveLine, (zg_in 881 (by decide +kernel) (by decide +kernel)), (zg_in 882 (by decide +kernel) (by decide +kernel)), (zg_in 883 (by decide +kernel) (by decide +kernel))⟩
theorem zj_X9_sort : zJ zX9_sort 3 := ⟨(by decide +kernel), (by decide +kernel), (by decide +kernel), (by decide +kernel), (zg_in 103 (by decide +kernel) (by decide +kernel)), fun _ => (zg_in 927 (by decide +kernel) (by decide +kernel)), fun h => absurd rfl h⟩
theorem zc_RL_47_v : 117 < zN ∧ zCv RL 47 (zP 117) 3 := ⟨by decide, zj_X9_sort, (zg_in 924 (by decide +kernel) (by decide +kernel)), (zg_in 925 (by decide +kernel) (by decide +kernel)), (zg_in 926 (by decide +kernel) (by decide +kernel))⟩
theorem zj_X9_insertColumn : zJ zX9_insertColumn 1 := ⟨(by decide +kernel), (by decide +kernel), (by decide +kernel), (by decide +kernel), (zg_in 103 (by decide +kernel) (by decide +kernel)), fun _ => (zg_in 970 (by decide +kernel) (by decide +kernel)), fun h => absurd rfl h⟩
theorem zc_RL_51_v : 118 < zN ∧ zCv RL 51 (zP 118) 1 := ⟨by decide, zj_X9_insertColumn, (zg_in 967 (by decide +kernel) (by decide +kernel)), (zg_in 968 (by decide +kernel) (by decide +kernel)), (zg_in 969 (by decide +kernel) (by decide +kernel))⟩
theorem zj_X9_removeColumn : zJ zX9_removeColumn 1 := ⟨(by decide +kernel), (by decide +kernel), (by decide +kernel), (by decide +kernel), (zg_in 103 (by decide +kernel) (by decide +kernel)), fun _ => (zg_in 982 (by decide +kernel) (by decide +kernel)), fun h => absurd rfl h⟩
theorem zc_RL_54_v : 119 < zN ∧ zCv RL 54 (zP 119) 1 := ⟨by decide, zj_X9_removeColumn, (zg_in 979 (by decide +kernel) (by decide +kernel)), (zg_in 980 (by decide +kernel) (by decide +kernel)), (zg_in 981 (by decide +kernel) (by decide +kernel))⟩
theorem zj_X9_retab : zJ zX9_retab 2 := ⟨(by decide +kernel), (by decide +kernel), (by decide +kernel), (by decide +kernel), (zg_in 103 (by decide +kernel) (by decide +kernel)), fun _ => (zg_in 989 (by decide +kernel) (by decide +kernel)), fun h => absurd rfl h⟩
theorem zc_RL_57_v : 120 < zN ∧ zCv RL 57 (zP 120) 2 := ⟨by decide, zj_X9_retab, (zg_in 986 (by decide +kernel) (by decide +kernel)), (zg_in 987 (by decide +kernel) (by decide +kernel)), (zg_in 988 (by decide +kernel) (by decide +kernel))⟩
theorem zj_X9_undo : zJ zX9_undo 0 := ⟨(by decide +kernel), (by decide +kernel), (by decide +kernel), (by decide +kernel), (zg_in 103 (by decide +kernel) (by decide +kernel)), fun _ => (zg_in 1012 (by decide +kernel) (by decide +kernel)), fun h => absurd rfl h⟩
theorem zc_RL_60_v : 121 < zN ∧ zCv RL 60 (zP 121) 0 := ⟨by decide, zj_X9_undo, (zg_in 1009 (by decide +kernel) (by decide +kernel)), (zg_in 1010 (by decide +kernel) (by decide +kernel)), (zg_in 1011 (by decide +kernel) (by decide +kernel))⟩
theorem zj_X9_redo : zJ zX9_redo 0 := ⟨(by decide +kernel), (by decide +kernel), (by decide +kernel), (by decide +kernel), (zg_in 103 (by decide +kernel) (by decide +kernel)), fun _ => (zg_in 1028 (by decide +kernel) (by decide +kernel)), fun h => absurd rfl h⟩
theorem zc_RL_63_v : 122 < zN ∧ zCv RL 63 (zP 122) 0 := ⟨by decide, zj_X9_redo, (zg_in 1025 (by decide +kernel) (by decide +kernel)), (zg_in 1026 (by decide +kernel) (by decide +kernel)), (zg_in 1027 (by decide +kernel) (by decide +kernel))⟩
theorem zj_X9_setAlignment : zJ zX9_setAlignment 2 := ⟨(by decide +kernel), (by decide +kernel), (by decide +kernel), (by decide +kernel), (zg_in 103 (by decide +kernel) (by decide +kernel)), fun _ => (zg_in 1040 (by decide +kernel) (by decide +kernel)), fun h => absurd rfl h⟩
theorem zc_RL_66_v : 123 < zN ∧ zCv RL 66 (zP 123) 2 := ⟨by decide, zj_X9_setAlignment, (zg_in 1037 (by decide +kernel) (by decide +kernel)), (zg_in 1038 (by decide +kernel) (by decide +kernel)), (zg_in 1039 (by decide +kernel) (by decide +kernel))⟩
theorem zj_X9_setSpacing : zJ zX9_setSpacing 2 := ⟨(by decide +kernel), (by decide +kernel), (by decide +kernel), (by decide +kernel), (zg_in 103 (by decide +kernel) (by decide +kernel)), fun _ => (zg_in 1053 (by decide +kernel) (by decide +kernel)), fun h => absurd rfl h⟩
theorem zc_RL_69_v : 124 < zN ∧ zCv RL 69 (zP 124) 2 := ⟨by decide, zj_X9_setSpacing, (zg_in 1050 (by decide +kernel) (by decide +kernel)), (zg_in 1051 (by decide +kernel) (by decide +kernel)), (zg_in 1052 (by decide +kernel) (by decide +kernel))⟩
theorem zj_X9_count : zJ zX9_count 1 := ⟨(by decide +kernel), (by decide +kernel), (by decide +kernel), (by decide +kernel), (zg_in 103 (by decide +kernel) (by decide +kernel)), fun _ => (zg_in 1069 (by decide +kernel) (by decide +kernel)), fun h => absurd rfl h⟩
theorem zc_RL_72_v : 125 < zN ∧ zCv RL 72 (zP 125) 1 := ⟨by decide, zj_X9_count, (zg_in 1066 (by decide +kernel) (by decide +kernel)), (zg_in 1067 (by decide +kernel) (by decide +kernel)), (zg_in 1068 (by decide +kernel) (by decide +kernel))⟩
theorem zj_X9_line : zJ zX9_line 2 := ⟨(by decide +kernel), (by decide +kernel), (by decide +kernel), (by decide +kernel), (zg_in 103 (by decide +kernel) (by decide +kernel)), fun _ => (zg_in 1077 (by decide +kernel) (by decide +kernel)), fun h => absurd rfl h⟩
theorem zc_RL_75_v : 126 < zN ∧ zCv RL 75 (zP 126) 2 := ⟨by decide, zj_X9_line, (zg_in 1074 (by decide +kernel) (by decide +kernel)), (zg_in 1075 (by decide +kernel) (by decide +kernel)), (zg_in 1076 (by decide +kernel) (by decide +kernel))⟩
theorem zj_X9_cell : zJ zX9_cell 3 := ⟨(by decide +kernel), (by decide +kernel), (by decide +kernel), (by decide +kernel), (zg_in 103 (by decide +kernel) (by decide +kernel)), fun _ => (zg_in 1085 (by decide +kernel) (by decide +kernel)), fun h => absurd rfl h⟩
theorem zc_RL_78_v : 127 < zN ∧ zCv RL 78 (zP 127) 3 := ⟨by decide, zj_X9_cell, (zg_in 1082 (by decide +kernel) (by decide +kernel)), (zg_in 1083 (by decide +kernel) (by decide +kernel)), (zg_in 1084 (by decide +kernel) (by decide +kernel))⟩
theorem zj_X9_letter : zJ zX9_letter 3 := ⟨(by decide +kernel), (by decide +kernel), (by decide +kernel), (by decide +kernel), (zg_in 103 (by decide +kernel) (by decide +kernel)), fun _ => (zg_in 1092 (by decide +kernel) (by decide +kernel)), fun h => absurd rfl h⟩
theorem zc_RL_81_v : 128 < zN ∧ zCv RL 81 (zP 128) 3 := ⟨by decide, zj_X9_letter, (zg_in 1089 (by decide +kernel) (by decide +kernel)), (zg_in 1090 (by decide +kernel) (by decide +kernel)), (zg_in 1091 (by decide +kernel) (by decide +kernel))⟩
theorem zj_X9_shown : zJ zX9_shown 2 := ⟨(by decide +kernel), (by decide +kernel), (by decide +kernel), (by decide +kernel), (zg_in 103 (by decide +kernel) (by decide +kernel)), fun _ => (zg_in 1100 (by decide +kernel) (by decide +kernel)), fun h => absurd rfl h⟩
theorem zc_RL_84_v : 129 < zN ∧ zCv RL 84 (zP 129) 2 := ⟨by decide, zj_X9_shown, (zg_in 1097 (by decide +kernel) (by decide +kernel)), (zg_in 1098 (by decide +kernel) (by decide +kernel)), (zg_in 1099 (by decide +kernel) (by decide +kernel))⟩
theorem zj_X9_hit : zJ zX9_hit 2 := ⟨(by decide +kernel), (by decide +kernel), (by decide +kernel), (by decide +kernel), (zg_in 103 (by decide +kernel) (by decide +kernel)), fun _ => (zg_in 1118 (by decide +kernel) (by decide +kernel)), fun h => absurd rfl h⟩
theorem zc_RL_87_v : 130 < zN ∧ zCv RL 87 (zP 130) 2 := ⟨by decide, zj_X9_hit, (zg_in 1115 (by decide +kernel) (by decide +kernel)), (zg_in 1116 (by decide +kernel) (by decide +kernel)), (zg_in 1117 (by decide +kernel) (by decide +kernel))⟩
theorem zj_X9_find : zJ zX9_find 2 := ⟨(by decide +kernel), (by decide +kernel), (by decide +kernel), (by decide +kernel), (zg_in 103 (by decide +kernel) (by decide +kernel)), fun _ => (zg_in 1125 (by decide +kernel) (by decide +kernel)), fun h => absurd rfl h⟩
theorem zc_RL_90_v : 131 < zN ∧ zCv RL 90 (zP 131) 2 := ⟨by decide, zj_X9_find, (zg_in 1122 (by decide +kernel) (by decide +kernel)), (zg_in 1123 (by decide +kernel) (by decide +kernel)), (zg_in 1124 (by decide +kernel) (by decide +kernel))⟩
theorem zj_X9_block : zJ zX9_block 2 := ⟨(by decide +kernel), (by decide +kernel), (by decide +kernel), (by decide +kernel), (zg_in 103 (by decide +kernel) (by decide +kernel)), fun _ => (zg_in 1137 (by decide +kernel) (by decide +kernel)), fun h => absurd rfl h⟩
theorem zc_RL_93_v : 132 < zN ∧ zCv RL 93 (zP 132) 2 := ⟨by decide, zj_X9_block, (zg_in 1134 (by decide +kernel) (by decide +kernel)), (zg_in 1135 (by decide +kernel) (by decide +kernel)), (zg_in 1136 (by decide +kernel) (by decide +kernel))⟩
theorem zj_X9_sum : zJ zX9_sum 1 := ⟨(by decide +kernel), (by decide +kernel), (by decide +kernel), (by decide +kernel), (zg_in 103 (by decide +kernel) (by decide +kernel)), fun _ => (zg_in 1145 (by decide +kernel) (by decide +kernel)), fun h => absurd rfl h⟩
theorem zc_RL_96_v : 133 < zN ∧ zCv RL 96 (zP 133) 1 := ⟨by decide, zj_X9_sum, (zg_in 1142 (by decide +kernel) (by decide +kernel)), (zg_in 1143 (by decide +kernel) (by decide +kernel)), (zg_in 1144 (by decide +kernel) (by decide +kernel))⟩
theorem zj_X9_mean : zJ zX9_mean 1 := ⟨(by decide +kernel), (by decide +kernel), (by decide +kernel), (by decide +kernel), (zg_in 103 (by decide +kernel) (by decide +kernel)), fun _ => (zg_in 1156 (by decide +kernel) (by decide +kernel)), fun h => absurd rfl h⟩
theorem zc_RL_100_v : 134 < zN ∧ zCv RL 100 (zP 134) 1 := ⟨by decide, zj_X9_mean, (zg_in 1153 (by decide +kernel) (by decide +kernel)), (zg_in 1154 (by decide +kernel) (by decide +kernel)), (zg_in 1155 (by decide +kernel) (by decide +kernel))⟩
theorem zj_X9_touched : zJ zX9_touched 1 := ⟨(by decide +kernel), (by decide +kernel), (by decide +kernel), (by decide +kernel), (zg_in 103 (by decide +kernel) (by decide +kernel)), fun _ => (zg_in 1167 (by decide +kernel) (by decide +kernel)), fun h => absurd rfl h⟩
theorem zc_RL_104_v : 135 < zN ∧ zCv RL 104 (zP 135) 1 := ⟨by decide, zj_X9_touched, (zg_in 1164 (by decide +kernel) (by decide +kernel)), (zg_in 1165 (by decide +kernel) (by decide +kernel)), (zg_in 1166 (by decide +kernel) (by decide +kernel))⟩
theorem zj_X9_ifTyped : zJ zX9_ifTyped 4 := ⟨(by decide +kernel), (by decide +kernel), (by decide +kernel), (by decide +kernel), (zg_in 103 (by decide +kernel) (by decide +kernel)), fun _ => (zg_in 1178 (by decide +kernel) (by decide +kernel)), fun h => absurd rfl h⟩
theorem zc_RL_107_v : 136 < zN ∧ zCv RL 107 (zP 136) 4 := ⟨by decide, zj_X9_ifTyped, (zg_in 1175 (by decide +kernel) (by decide +kernel)), (zg_in 1176 (by decide +kernel) (by decide +kernel)), (zg_in 1177 (by decide +kernel) (by decide +kernel))⟩
theorem znw_RL_8 : zNw RL 8 8 := ⟨_, _, _, rfl, zin8, tyX9_ok, (zg_in 124 (by decide +kernel) (by decide +kernel)), (zg_in 125 (by decide +kernel) (by decide +kernel)), (zg_in 103 (by decide +kernel) (by decide +kernel))⟩
theorem zj_X9_init : zJ zX9_init 0 := ⟨(by decide +kernel), (by decide +kernel), (by decide +kernel), (by decide +kernel), (zg_in 103 (by decide +kernel) (by decide +kernel)), fun _ => (zg_in 128 (by decide +kernel) (by decide +kernel)), fun h => absurd rfl h⟩
theorem zc_RL_110_s : 106 < zN ∧ zCi RL 110 (zP 106) 0 := ⟨by decide, zj_X9_init, rfl, rfl, rfl, (zg_in 127 (by decide +kernel) (by decide +kernel)), Or.inl (zg_in 126 (by decide +kernel) (by decide +kernel))⟩
theorem znw_RL_111 : zNw RL 111 9 := ⟨_, _, _, rfl, zin9, tyX10_ok, (zg_in 1183 (by decide +kernel) (by decide +kernel)), (zg_in 1184 (by decide +kernel) (by decide +kernel)), (zg_in 113 (by decide +kernel) (by decide +kernel))⟩
theorem zj_X10_init : zJ zX10_init 0 := ⟨(by decide +kernel), (by decide +kernel), (by decide +kernel), (by decide +kernel), (zg_in 113 (by decide +kernel) (by decide +kernel)), fun _ => (zg_in 1187 (by decide +kernel) (by decide +kernel)), fun h => absurd rfl h⟩
theorem zc_RL_113_s : 159 < zN ∧ zCi RL 113 (zP 159) 0 := ⟨by decide, zj_X10_init, rfl, rfl, rfl, (zg_in 1186 (by decide +kernel) (by decide +kernel)), Or.inl (zg_in 1185 (by decide +kernel) (by decide +kernel))⟩
theorem zj_L_append : zJ zL_append 3 := ⟨(by decide +kernel), (by decide +kernel), (by decide +kernel), (by decide +kernel), (zg_in 102 (by decide +kernel) (by decide +kernel)), (fun h => absurd h (by decide)), fun _ => (zg_in 599 (by decide +kernel) (by decide +kernel))⟩
theorem zc_RL_114_s : 270 < zN ∧ zCs RL 114 (zP 270) 3 := ⟨by decide, zj_L_append, (zg_in 598 (by decide +kernel) (by decide +kernel)), Or.inl (zg_in 597 (by decide +kernel) (by decide +kernel))⟩
theorem zj_X10_append : zJ zX10_append 1 := ⟨(by decide +kernel), (by decide +kernel), (by decide +kernel), (by decide +kernel), (zg_in 113 (by decide +kernel) (by decide +kernel)), fun _ => (zg_in 1278 (by decide +kernel) (by decide +kernel)), fun h => absurd rfl h⟩
theorem zc_RL_119_v : 180 < zN ∧ zCv RL 119 (zP 180) 1 := ⟨by decide, zj_X10_append, (zg_in 1275 (by decide +kernel) (by decide +kernel)), (zg_in 1276 (by decide +kernel) (by decide +kernel)), (zg_in 1277 (by decide +kernel) (by decide +kernel))⟩
theorem zj_X10_thrown : zJ zX10_thrown 0 := ⟨(by decide +kernel), (by decide +kernel), (by decide +kernel), (by decide +kernel), (zg_in 113 (by decide +kernel) (by decide +kernel)), fun _ => (zg_in 1266 (by decide +kernel) (by decide +kernel)), fun h => absurd rfl h⟩
theorem zc_RL_120_v : 160 < zN ∧ zCv RL 120 (zP 160) 0 := ⟨by decide, zj_X10_thrown, (zg_in 1263 (by decide +kernel) (by decide +kernel)), (zg_in 1264 (by decide +kernel) (by decide +kernel)), (zg_in 1265 (by decide +kernel) (by decide +kernel))⟩
theorem zj_X9_clearInput : zJ zX9_clearInput 0 := ⟨(by decide +kernel), (by decide +kernel), (by decide +kernel), (by decide +kernel), (zg_in 103 (by decide +kernel) (by decide +kernel)), fun _ => (zg_in 461 (by decide +kernel) (by decide +kernel)), fun h => absurd rfl h⟩
theorem zc_RL_123_v : 108 < zN ∧ zCv RL 123 (zP 108) 0 := ⟨by decide, zj_X9_clearInput, (zg_in 458 (by decide +kernel) (by decide +kernel)), (zg_in 459 (by decide +kernel) (by decide +kernel)), (zg_in 460 (by decide +kernel) (by decide +kernel))⟩
theorem zj_X10_clearInput : zJ zX10_clearInput 0 := ⟨(by decide +kernel), (by decide +kernel), (by decide +kernel), (by decide +kernel), (zg_in 113 (by decide +kernel) (by decide +kernel)), fun _ => (zg_in 1285 (by decide +kernel) (by decide +kernel)), fun h => absurd rfl h⟩
theorem zc_RL_126_v : 181 < zN ∧ zCv RL 126 (zP 181) 0 := ⟨by decide, zj_X10_clearInput, (zg_in 1282 (by decide +kernel) (by decide +kernel)), (zg_in 1283 (by decide +kernel) (by decide +kernel)), (zg_in 1284 (by decide +kernel) (by decide +kernel))⟩
theorem zj_L_firstError : zJ zL_firstError 3 := ⟨(by decide +kernel), (by decide +kernel), (by decide +kernel), (by decide +kernel), (zg_in 102 (by decide +kernel) (by decide +kernel)), (fun h => absurd h (by decide)), fun _ => (zg_in 700 (by decide +kernel) (by decide +kernel))⟩
theorem zc_RL_127_s : 271 < zN ∧ zCs RL 127 (zP 271) 3 := ⟨by decide, zj_L_firstError, (zg_in 699 (by decide +kernel) (by decide +kernel)), Or.inl (zg_in 698 (by decide +kernel) (by decide +kernel))⟩
theorem zj_X10_firstError : zJ zX10_firstError 1 := ⟨(by decide +kernel), (by decide +kernel), (by decide +kernel), (by decide +kernel), (zg_in 113 (by decide +kernel) (by decide +kernel)), fun _ => (zg_in 1289 (by decide +kernel) (by decide +kernel)), fun h => absurd rfl h⟩
theorem zc_RL_129_v : 186 < zN ∧ zCv RL 129 (zP 186) 1 := ⟨by decide, zj_X10_firstError, (zg_in 1286 (by decide +kernel) (by decide +kernel)), (zg_in 1287 (by decide +kernel) (by decide +kernel)), (zg_in 1288 (by decide +kernel) (by decide +kernel))⟩
theorem zj_L_load : zJ zL_load 2 := ⟨(by decide +kernel), (by decide +kernel), (by decide +kernel), (by decide +kernel), (zg_in 102 (by decide +kernel) (by decide +kernel)), (fun h => absurd h (by decide)), fun _ => (zg_in 716 (by decide +kernel) (by decide +kernel))⟩
theorem zc_RL_130_s : 272 < zN ∧ zCs RL 130 (zP 272) 2 := ⟨by decide, zj_L_load, (zg_in 715 (by decide +kernel) (by decide +kernel)), Or.inl (zg_in 714 (by decide +kernel) (by decide +kernel))⟩
theorem zj_X10_load : zJ zX10_load 0 := ⟨(by decide +kernel), (by decide +kernel), (by decide +kernel), (by decide +kernel), (zg_in 113 (by decide +kernel) (by decide +kernel)), fun _ => (zg_in 1303 (by decide +kernel) (by decide +kernel)), fun h => absurd rfl h⟩
theorem zc_RL_133_v : 188 < zN ∧ zCv RL 133 (zP 188) 0 := ⟨by decide, zj_X10_load, (zg_in 1300 (by decide +kernel) (by decide +kernel)), (zg_in 1301 (by decide +kernel) (by decide +kernel)), (zg_in 1302 (by decide +kernel) (by decide +kernel))⟩
theorem zj_L_type : zJ zL_type 6 := ⟨(by decide +kernel), (by decide +kernel), (by decide +kernel), (by decide +kernel), (zg_in 102 (by decide +kernel) (by decide +kernel)), (fun h => absurd h (by decide)), fun _ => (zg_in 771 (by decide +kernel) (by decide +kernel))⟩
theorem zc_RL_134_s : 273 < zN ∧ zCs RL 134 (zP 273) 6 := ⟨by decide, zj_L_type, (zg_in 770 (by decide +kernel) (by decide +kernel)), Or.inl (zg_in 769 (by decide +kernel) (by decide +kernel))⟩
theorem zj_X10_type : zJ zX10_type 4 := ⟨(by decide +kernel), (by decide +kernel), (by decide +kernel), (by decide +kernel), (zg_in 113 (by decide +kernel) (by decide +kernel)), fun _ => (zg_in 1334 (by decide +kernel) (by decide +kernel)), fun h => absurd rfl h⟩
theorem zc_RL_137_v : 195 < zN ∧ zCv RL 137 (zP 195) 4 := ⟨by decide, zj_X10_type, (zg_in 1331 (by decide +kernel) (by decide +kernel)), (zg_in 1332 (by decide +kernel) (by decide +kernel)), (zg_in 1333 (by decide +kernel) (by decide +kernel))⟩
theorem zj_L_erase : zJ zL_erase 5 := ⟨(by decide +kernel), (by decide +kernel), (by decide +kernel), (by decide +kernel), (zg_in 102 (by decide +kernel) (by decide +kernel)), (fun h => absurd h (by decide)), fun _ => (zg_in 820 (by decide +kernel) (by decide +kernel))⟩
theorem zc_RL_138_s : 274 < zN ∧ zCs RL 138 (zP 274) 5 := ⟨by decide, zj_L_erase, (zg_in 819 (by decide +kernel) (by decide +kernel)), Or.inl (zg_in 818 (by decide +kernel) (by decide +kernel))⟩
theorem zj_X10_erase : zJ zX10_erase 3 := ⟨(by decide +kernel), (by decide +kernel), (by decide +kernel), (by decide +kernel), (zg_in 113 (by decide +kernel) (by decide +kernel)), fun _ => (zg_in 1398 (by decide +kernel) (by decide +kernel)), fun h => absurd rfl h⟩
theorem zc_RL_141_v : 200 < zN ∧ zCv RL 141 (zP 200) 3 := ⟨by decide, zj_X10_erase, (zg_in 1395 (by decide +kernel) (by decide +kernel)), (zg_in 1396 (by decide +kernel) (by decide +kernel)), (zg_in 1397 (by decide +kernel) (by decide +kernel))⟩
theorem zj_L_setCell : zJ zL_setCell 4 := ⟨(by decide +kernel), (by decide +kernel), (by decide +kernel), (by decide +kernel), (zg_in 102 (by decide +kernel) (by decide +kernel)), (fun h => absurd h (by decide)), fun _ => (zg_in 840 (by decide +kernel) (by decide +kernel))⟩
theorem zc_RL_142_s : 275 < zN ∧ zCs RL 142 (zP 275) 4 := ⟨by decide, zj_L_setCell, (zg_in 839 (by decide +kernel) (by decide +kernel)), Or.inl (zg_in 838 (by decide +kernel) (by decide +kernel))⟩
theorem zj_X10_setCell : zJ zX10_setCell 2 := ⟨(by decide +kernel), (by decide +kernel), (by decide +kernel), (by decide +kernel), (zg_in 113 (by decide +kernel) (by decide +kernel)), fun _ => (zg_in 1426 (by decide +kernel) (by decide +kernel)), fun h => absurd rfl h⟩
theorem zc_RL_145_v : 201 < zN ∧ zCv RL 145 (zP 201) 2 := ⟨by decide, zj_X10_setCell, (zg_in 1423 (by decide +kernel) (by decide +kernel)), (zg_in 1424 (by decide +kernel) (by decide +kernel)), (zg_in 1425 (by decide +kernel) (by decide +kernel))⟩
theorem zj_L_insertLine : zJ zL_insertLine 3 := ⟨(by decide +kernel), (by decide +kernel), (by decide +kernel), (by decide +kernel), (zg_in 102 (by decide +kernel) (by decide +kernel)), (fun h => absurd h (by decide)), fun _ => (zg_in 847 (by decide +kernel) (by decide +kernel))⟩
theorem zc_RL_146_s : 276 < zN ∧ zCs RL 146 (zP 276) 3 := ⟨by decide, zj_L_insertLine, (zg_in 846 (by decide +kernel) (by decide +kernel)), Or.inl (zg_in 845 (by decide +kernel) (by decide +kernel))⟩
theorem zj_X10_insertLine : zJ zX10_insertLine 1 := ⟨(by decide +kernel), (by decide +kernel), (by decide +kernel), (by decide +kernel), (zg_in 113 (by decide +kernel) (by decide +kernel)), fun _ => (zg_in 1430 (by decide +kernel) (by decide +kernel)), fun h => absurd rfl h⟩
theorem zc_RL_148_v : 202 < zN ∧ zCv RL 148 (zP 202) 1 := ⟨by decide, zj_X10_insertLine, (zg_in 1427 (by decide +kernel) (by decide +kernel)), (zg_in 1428 (by decide +kernel) (by decide +kernel)), (zg_in 1429 (by decide +kernel) (by decide +kernel))⟩
theorem zj_L_removeLine : zJ zL_removeLine 3 := ⟨(by decide +kernel), (by decide +kernel), (by decide +kernel), (by decide +kernel), (zg_in 102 (by decide +kernel) (by decide +kernel)), (fun h => absurd h (by decide)), fun _ => (zg_in 862 (by decide +kernel) (by decide +kernel))⟩
theorem zc_RL_149_s : 277 < zN ∧ zCs RL 149 (zP 277) 3 := ⟨by decide, zj_L_removeLine, (zg_in 861 (by decide +kernel) (by decide +kernel)), Or.inl (zg_in 860 (by decide +kernel) (by decide +kernel))⟩
theorem zj_X10_removeLine : zJ zX10_removeLine 1 := ⟨(by decide +kernel), (by decide +kernel), (by decide +kernel), (by decide +kernel), (zg_in 113 (by decide +kernel) (by decide +kernel)), fun _ => (zg_in 1434 (by decide +kernel) (by decide +kernel)), fun h => absurd rfl h⟩
theorem zc_RL_151_v : 203 < zN ∧ zCv RL 151 (zP 203) 1 := ⟨by decide, zj_X10_removeLine, (zg_in 1431 (by decide +kernel) (by decide +kernel)), (zg_in 1432 (by decide +kernel) (by decide +kernel)), (zg_in 1433 (by decide +kernel) (by decide +kernel))⟩
theorem zj_L_moveLine : zJ zL_moveLine 4 := ⟨(by decide +kernel), (by decide +kernel), (by decide +kernel), (by decide +kernel), (zg_in 102 (by decide +kernel) (by decide +kernel)), (fun h => absurd h (by decide)), fun _ => (zg_in 880 (by decide +kernel) (by decide +kernel))⟩
theorem zc_RL_152_s : 278 < zN ∧ zCs RL 152 (zP 278) 4 := ⟨by decide, zj_L_moveLine, (zg_in 879 (by decide +kernel) (by decide +kernel)), Or.inl (zg_in 878 (by decide +kernel) (by decide +kernel))⟩
theorem zj_X10_moveLine : zJ zX10_moveLine 2 := ⟨(by decide +kernel), (by decide +kernel), (by decide +kernel), (by decide +kernel), (zg_in 113 (by decide +kernel) (by decide +kernel)), fun _ => (zg_in 1438 (by decide +kernel) (by decide +kernel)), fun h => absurd rfl h⟩
theorem zc_RL_154_v : 206 < zN ∧ zCv RL 154 (zP 206) 2 := ⟨by decide, zj_X10_moveLine, (zg_in 1435 (by decide +kernel) (by decide +kernel)), (zg_in 1436 (by decide +kernel) (by decide +kernel)), (zg_in 1437 (by decide +kernel) (by decide +kernel))⟩
theorem zj_L_sort : zJ zL_sort 5 := ⟨(by decide +kernel), (by decide +kernel), (by decide +kernel), (by decide +kernel), (zg_in 102 (by decide +kernel) (by decide +kernel)), (fun h => absurd h (by decide)), fun _ => (zg_in 923 (by decide +kernel) (by decide +kernel))⟩
theorem zc_RL_155_s : 279 < zN ∧ zCs RL 155 (zP 279) 5 := ⟨by decide, zj_L_sort, (zg_in 922 (by decide +kernel) (by decide +kernel)), Or.inl (zg_in 921 (by decide +kernel) (by decide +kernel))⟩
theorem zj_X10_sort : zJ zX10_sort 3 := ⟨(by decide +kernel), (by decide +kernel), (by decide +kernel), (by decide +kernel), (zg_in 113 (by decide +kernel) (by decide +kernel)), fun _ => (zg_in 1494 (by decide +kernel) (by decide +kernel)), fun h => absurd rfl h⟩
theorem zc_RL_158_v : 228 < zN ∧ zCv RL 158 (zP 228) 3 := ⟨by decide, zj_X10_sort, (zg_in 1491 (by decide +kernel) (by decide +kernel)), (zg_in 1492 (by decide +kernel) (by decide +kernel)), (zg_in 1493 (by decide +kernel) (by decide +kernel))⟩
theorem zj_L_insertColumn : zJ zL_insertColumn 3 := ⟨(by decide +kernel), (by decide +kernel), (by decide +kernel), (by decide +kernel), (zg_in 102 (by decide +kernel) (by decide +kernel)), (fun h => absurd h (by decide)), fun _ => (zg_in 966 (by decide +kernel) (by decide +kernel))⟩
theorem zc_RL_159_s : 280 < zN ∧ zCs RL 159 (zP 280) 3 := ⟨by decide, zj_L_insertColumn, (zg_in 965 (by decide +kernel) (by decide +kernel)), Or.inl (zg_in 964 (by decide +kernel) (by decide +kernel))⟩
theorem zj_X10_insertColumn : zJ zX10_insertColumn 1 := ⟨(by decide +kernel), (by decide +kernel), (by decide +kernel), (by decide +kernel), (zg_in 113 (by decide +kernel) (by decide +kernel)), fun _ => (zg_in 1523 (by decide +kernel) (by decide +kernel)), fun h => absurd rfl h⟩
theorem zc_RL_161_v : 230 < zN ∧ zCv RL 161 (zP 230) 1 := ⟨by decide, zj_X10_insertColumn, (zg_in 1520 (by decide +kernel) (by decide +kernel)), (zg_in 1521 (by decide +kernel) (by decide +kernel)), (zg_in 1522 (by decide +kernel) (by decide +kernel))⟩
theorem zj_L_removeColumn : zJ zL_removeColumn 3 := ⟨(by decide +kernel), (by decide +kernel), (by decide +kernel), (by decide +kernel), (zg_in 102 (by decide +kernel) (by decide +kernel)), (fun h => absurd h (by decide)), fun _ => (zg_in 978 (by decide +kernel) (by decide +kernel))⟩
theorem zc_RL_162_s : 281 < zN ∧ zCs RL 162 (zP 281) 3 := ⟨by decide, zj_L_removeColumn, (zg_in 977 (by decide +kernel) (by decide +kernel)), Or.inl (zg_in 976 (by decide +kernel) (by decide +kernel))⟩
theorem zj_X10_removeColumn : zJ zX10_removeColumn 1 := ⟨(by decide +kernel), (by decide +kernel), (by decide +kernel), (by decide +kernel), (zg_in 113 (by decide +kernel) (by decide +kernel)), fun _ => (zg_in 1531 (by decide +kernel) (by decide +kernel)), fun h => absurd rfl h⟩
theorem zc_RL_164_v : 231 < zN ∧ zCv RL 164 (zP 231) 1 := ⟨by decide, zj_X10_removeColumn, (zg_in 1528 (by decide +kernel) (by decide +kernel)), (zg_in 1529 (by decide +kernel) (by decide +kernel)), (zg_in 1530 (by decide +kernel) (by decide +kernel))⟩
theorem zj_L_retab : zJ zL_retab 4 := ⟨(by decide +kernel), (by decide +kernel), (by decide +kernel), (by decide +kernel), (zg_in 102 (by decide +kernel) (by decide +kernel)), (fun h => absurd h (by decide)), fun _ => (zg_in 985 (by decide +kernel) (by decide +kernel))⟩
theorem zc_RL_165_s : 282 < zN ∧ zCs RL 165 (zP 282) 4 := ⟨by decide, zj_L_retab, (zg_in 984 (by decide +kernel) (by decide +kernel)), Or.inl (zg_in 983 (by decide +kernel) (by decide +kernel))⟩
theorem zj_X10_retab : zJ zX10_retab 2 := ⟨(by decide +kernel), (by decide +kernel), (by decide +kernel), (by decide +kernel), (zg_in 113 (by decide +kernel) (by decide +kernel)), fun _ => (zg_in 1535 (by decide +kernel) (by decide +kernel)), fun h => absurd rfl h⟩
theorem zc_RL_167_v : 235 < zN ∧ zCv RL 167 (zP 235) 2 := ⟨by decide, zj_X10_retab, (zg_in 1532 (by decide +kernel) (by decide +kernel)), (zg_in 1533 (by decide +kernel) (by decide +kernel)), (zg_in 1534 (by decide +kernel) (by decide +kernel))⟩
theorem zj_L_undo : zJ zL_undo 2 := ⟨(by decide +kernel), (by decide +kernel), (by decide +kernel), (by decide +kernel), (zg_in 102 (by decide +kernel) (by decide +kernel)), (fun h => absurd h (by decide)), fun _ => (zg_in 1008 (by decide +kernel) (by decide +kernel))⟩
theorem zc_RL_168_s : 283 < zN ∧ zCs RL 168 (zP 283) 2 := ⟨by decide, zj_L_undo, (zg_in 1007 (by decide +kernel) (by decide +kernel)), Or.inl (zg_in 1006 (by decide +kernel) (by decide +kernel))⟩
theorem zj_X10_undo : zJ zX10_undo 0 := ⟨(by decide +kernel), (by decide +kernel), (by decide +kernel), (by decide +kernel), (zg_in 113 (by decide +kernel) (by decide +kernel)), fun _ => (zg_in 1270 (by decide +kernel) (by decide +kernel)), fun h => absurd rfl h⟩
theorem zc_RL_170_v : 178 < zN ∧ zCv RL 170 (zP 178) 0 := ⟨by decide, zj_X10_undo, (zg_in 1267 (by decide +kernel) (by decide +kernel)), (zg_in 1268 (by decide +kernel) (by decide +kernel)), (zg_in 1269 (by decide +kernel) (by decide +kernel))⟩
theorem zj_L_redo : zJ zL_redo 2 := ⟨(by decide +kernel), (by decide +kernel), (by decide +kernel), (by decide +kernel), (zg_in 102 (by decide +kernel) (by decide +kernel)), (fun h => absurd h (by decide)), fun _ => (zg_in 1024 (by decide +kernel) (by decide +kernel))⟩
theorem zc_RL_171_s : 284 < zN ∧ zCs RL 171 (zP 284) 2 := ⟨by decide, zj_L_redo, (zg_in 1023 (by decide +kernel) (by decide +kernel)), Or.inl (zg_in 1022 (by decide +kernel) (by decide +kernel))⟩
theorem zj_X10_redo : zJ zX10_redo 0 := ⟨(by decide +kernel), (by decide +kernel), (by decide +kernel), (by decide +kernel), (zg_in 113 (by decide +kernel) (by decide +kernel)), fun _ => (zg_in 1274 (by decide +kernel) (by decide +kernel)), fun h => absurd rfl h⟩
theorem zc_RL_173_v : 179 < zN ∧ zCv RL 173 (zP 179) 0 := ⟨by decide, zj_X10_redo, (zg_in 1271 (by decide +kernel) (by decide +kernel)), (zg_in 1272 (by decide +kernel) (by decide +kernel)), (zg_in 1273 (by decide +kernel) (by decide +kernel))⟩
theorem zj_L_setAlignment : zJ zL_setAlignment 4 := ⟨(by decide +kernel), (by decide +kernel), (by decide +kernel), (by decide +kernel), (zg_in 102 (by decide +kernel) (by decide +kernel)), (fun h => absurd h (by decide)), fun _ => (zg_in 1036 (by decide +kernel) (by decide +kernel))⟩
theorem zc_RL_174_s : 285 < zN ∧ zCs RL 174 (zP 285) 4 := ⟨by decide, zj_L_setAlignment, (zg_in 1035 (by decide +kernel) (by decide +kernel)), Or.inl (zg_in 1034 (by decide +kernel) (by decide +kernel))⟩
theorem zj_X10_setAlignment : zJ zX10_setAlignment 2 := ⟨(by decide +kernel), (by decide +kernel), (by decide +kernel), (by decide +kernel), (zg_in 113 (by decide +kernel) (by decide +kernel)), fun _ => (zg_in 1551 (by decide +kernel) (by decide +kernel)), fun h => absurd rfl h⟩
theorem zc_RL_176_v : 236 < zN ∧ zCv RL 176 (zP 236) 2 := ⟨by decide, zj_X10_setAlignment, (zg_in 1548 (by decide +kernel) (by decide +kernel)), (zg_in 1549 (by decide +kernel) (by decide +kernel)), (zg_in 1550 (by decide +kernel) (by decide +kernel))⟩
theorem zj_L_setSpacing : zJ zL_setSpacing 4 := ⟨(by decide +kernel), (by decide +kernel), (by decide +kernel), (by decide +kernel), (zg_in 102 (by decide +kernel) (by decide +kernel)), (fun h => absurd h (by decide)), fun _ => (zg_in 1049 (by decide +kernel) (by decide +kernel))⟩
theorem zc_RL_177_s : 286 < zN ∧ zCs RL 177 (zP 286) 4 := ⟨by decide, zj_L_setSpacing, (zg_in 1048 (by decide +kernel) (by decide +kernel)), Or.inl (zg_in 1047 (by decide +kernel) (by decide +kernel))⟩
theorem zj_X10_setSpacing : zJ zX10_setSpacing 2 := ⟨(by decide +kernel), (by decide +kernel), (by decide +kernel), (by decide +kernel), (zg_in 113 (by decide +kernel) (by decide +kernel)), fun _ => (zg_in 1555 (by decide +kernel) (by decide +kernel)), fun h => absurd rfl h⟩
theorem zc_RL_179_v : 237 < zN ∧ zCv RL 179 (zP 237) 2 := ⟨by decide, zj_X10_setSpacing, (zg_in 1552 (by decide +kernel) (by decide +kernel)), (zg_in 1553 (by decide +kernel) (by decide +kernel)), (zg_in 1554 (by decide +kernel) (by decide +kernel))⟩
theorem zj_L_count : zJ zL_count 3 := ⟨(by decide +kernel), (by decide +kernel), (by decide +kernel), (by decide +kernel), (zg_in 102 (by decide +kernel) (by decide +kernel)), (fun h => absurd h (by decide)), fun _ => (zg_in 1065 (by decide +kernel) (by decide +kernel))⟩
theorem zc_RL_180_s : 287 < zN ∧ zCs RL 180 (zP 287) 3 := ⟨by decide, zj_L_count, (zg_in 1064 (by decide +kernel) (by decide +kernel)), Or.inl (zg_in 1063 (by decide +kernel) (by decide +kernel))⟩
theorem zj_X10_count : zJ zX10_count 1 := ⟨(by decide +kernel), (by decide +kernel), (by decide +kernel), (by decide +kernel), (zg_in 113 (by decide +kernel) (by decide +kernel)), fun _ => (zg_in 1559 (by decide +kernel) (by decide +kernel)), fun h => absurd rfl h⟩
theorem zc_RL_182_v : 244 < zN ∧ zCv RL 182 (zP 244) 1 := ⟨by decide, zj_X10_count, (zg_in 1556 (by decide +kernel) (by decide +kernel)), (zg_in 1557 (by decide +kernel) (by decide +kernel)), (zg_in 1558 (by decide +kernel) (by decide +kernel))⟩
theorem zj_L_line : zJ zL_line 4 := ⟨(by decide +kernel), (by decide +kernel), (by decide +kernel), (by decide +kernel), (zg_in 102 (by decide +kernel) (by decide +kernel)), (fun h => absurd h (by decide)), fun _ => (zg_in 1073 (by decide +kernel) (by decide +kernel))⟩
theorem zc_RL_183_s : 288 < zN ∧ zCs RL 183 (zP 288) 4 := ⟨by decide, zj_L_line, (zg_in 1072 (by decide +kernel) (by decide +kernel)), Or.inl (zg_in 1071 (by decide +kernel) (by decide +kernel))⟩
theorem zj_X10_line : zJ zX10_line 2 := ⟨(by decide +kernel), (by decide +kernel), (by decide +kernel), (by decide +kernel), (zg_in 113 (by decide +kernel) (by decide +kernel)), fun _ => (zg_in 1599 (by decide +kernel) (by decide +kernel)), fun h => absurd rfl h⟩
theorem zc_RL_185_v : 247 < zN ∧ zCv RL 185 (zP 247) 2 := ⟨by decide, zj_X10_line, (zg_in 1596 (by decide +kernel) (by decide +kernel)), (zg_in 1597 (by decide +kernel) (by decide +kernel)), (zg_in 1598 (by decide +kernel) (by decide +kernel))⟩
theorem zj_L_cell : zJ zL_cell 5 := ⟨(by decide +kernel), (by decide +kernel), (by decide +kernel), (by decide +kernel), (zg_in 102 (by decide +kernel) (by decide +kernel)), (fun h => absurd h (by decide)), fun _ => (zg_in 1081 (by decide +kernel) (by decide +kernel))⟩
theorem zc_RL_186_s : 289 < zN ∧ zCs RL 186 (zP 289) 5 := ⟨by decide, zj_L_cell, (zg_in 1080 (by decide +kernel) (by decide +kernel)), Or.inl (zg_in 1079 (by decide +kernel) (by decide +kernel))⟩
theorem zj_X10_cell : zJ zX10_cell 3 := ⟨(by decide +kernel), (by decide +kernel), (by decide +kernel), (by decide +kernel), (zg_in 113 (by decide +kernel) (by decide +kernel)), fun _ => (zg_in 1611 (by decide +kernel) (by decide +kernel)), fun h => absurd rfl h⟩
theorem zc_RL_188_v : 249 < zN ∧ zCv RL 188 (zP 249) 3 := ⟨by decide, zj_X10_cell, (zg_in 1608 (by decide +kernel) (by decide +kernel)), (zg_in 1609 (by decide +kernel) (by decide +kernel)), (zg_in 1610 (by decide +kernel) (by decide +kernel))⟩
theorem zj_L_letter : zJ zL_letter 5 := ⟨(by decide +kernel), (by decide +kernel), (by decide +kernel), (by decide +kernel), (zg_in 102 (by decide +kernel) (by decide +kernel)), (fun h => absurd h (by decide)), fun _ => (zg_in 1088 (by decide +kernel) (by decide +kernel))⟩
theorem zc_RL_189_s : 290 < zN ∧ zCs RL 189 (zP 290) 5 := ⟨by decide, zj_L_letter, (zg_in 1087 (by decide +kernel) (by decide +kernel)), Or.inl (zg_in 1086 (by decide +kernel) (by decide +kernel))⟩
theorem zj_X10_letter : zJ zX10_letter 3 := ⟨(by decide +kernel), (by decide +kernel), (by decide +kernel), (by decide +kernel), (zg_in 113 (by decide +kernel) (by decide +kernel)), fun _ => (zg_in 1623 (by decide +kernel) (by decide +kernel)), fun h => absurd rfl h⟩
theorem zc_RL_191_v : 250 < zN ∧ zCv RL 191 (zP 250) 3 := ⟨by decide, zj_X10_letter, (zg_in 1620 (by decide +kernel) (by decide +kernel)), (zg_in 1621 (by decide +kernel) (by decide +kernel)), (zg_in 1622 (by decide +kernel) (by decide +kernel))⟩
theorem zj_L_shown : zJ zL_shown 4 := ⟨(by decide +kernel), (by decide +kernel), (by decide +kernel), (by decide +kernel), (zg_in 102 (by decide +kernel) (by decide +kernel)), (fun h => absurd h (by decide)), fun _ => (zg_in 1096 (by decide +kernel) (by decide +kernel))⟩
theorem zc_RL_192_s : 291 < zN ∧ zCs RL 192 (zP 291) 4 := ⟨by decide, zj_L_shown, (zg_in 1095 (by decide +kernel) (by decide +kernel)), Or.inl (zg_in 1094 (by decide +kernel) (by decide +kernel))⟩
theorem zj_X10_shown : zJ zX10_shown 2 := ⟨(by decide +kernel), (by decide +kernel), (by decide +kernel), (by decide +kernel), (zg_in 113 (by decide +kernel) (by decide +kernel)), fun _ => (zg_in 1627 (by decide +kernel) (by decide +kernel)), fun h => absurd rfl h⟩
theorem zc_RL_194_v : 252 < zN ∧ zCv RL 194 (zP 252) 2 := ⟨by decide, zj_X10_shown, (zg_in 1624 (by decide +kernel) (by decide +kernel)), (zg_in 1625 (by decide +kernel) (by decide +kernel)), (zg_in 1626 (by decide +kernel) (by decide +kernel))⟩
theorem zj_L_hit : zJ zL_hit 4 := ⟨(by decide +kernel), (by decide +kernel), (by decide +kernel), (by decide +kernel), (zg_in 102 (by decide +kernel) (by decide +kernel)), (fun h => absurd h (by decide)), fun _ => (zg_in 1114 (by decide +kernel) (by decide +kernel))⟩
theorem zc_RL_195_s : 292 < zN ∧ zCs RL 195 (zP 292) 4 := ⟨by decide, zj_L_hit, (zg_in 1113 (by decide +kernel) (by decide +kernel)), Or.inl (zg_in 1112 (by decide +kernel) (by decide +kernel))⟩
theorem zj_X10_hit : zJ zX10_hit 2 := ⟨(by decide +kernel), (by decide +kernel), (by decide +kernel), (by decide +kernel), (zg_in 113 (by decide +kernel) (by decide +kernel)), fun _ => (zg_in 1635 (by decide +kernel) (by decide +kernel)), fun h => absurd rfl h⟩
theorem zc_RL_197_v : 253 < zN ∧ zCv RL 197 (zP 253) 2 := ⟨by decide, zj_X10_hit, (zg_in 1632 (by decide +kernel) (by decide +kernel)), (zg_in 1633 (by decide +kernel) (by decide +kernel)), (zg_in 1634 (by decide +kernel) (by decide +kernel))⟩
theorem zj_L_find : zJ zL_find 4 := ⟨(by decide +kernel), (by decide +kernel), (by decide +kernel), (by decide +kernel), (zg_in 102 (by decide +kernel) (by decide +kernel)), (fun h => absurd h (by decide)), fun _ => (zg_in 1121 (by decide +kernel) (by decide +kernel))⟩
theorem zc_RL_198_s : 293 < zN ∧ zCs RL 198 (zP 293) 4 := ⟨by decide, zj_L_find, (zg_in 1120 (by decide +kernel) (by decide +kernel)), Or.inl (zg_in 1119 (by decide +kernel) (by decide +kernel))⟩
theorem zj_X10_find : zJ zX10_find 2 := ⟨(by decide +kernel), (by decide +kernel), (by decide +kernel), (by decide +kernel), (zg_in 113 (by decide +kernel) (by decide +kernel)), fun _ => (zg_in 1639 (by decide +kernel) (by decide +kernel)), fun h => absurd rfl h⟩
theorem zc_RL_200_v : 256 < zN ∧ zCv RL 200 (zP 256) 2 := ⟨by decide, zj_X10_find, (zg_in 1636 (by decide +kernel) (by decide +kernel)), (zg_in 1637 (by decide +kernel) (by decide +kernel)), (zg_in 1638 (by decide +kernel) (by decide +kernel))⟩
theorem zj_L_block : zJ zL_block 4 := ⟨(by decide +kernel), (by decide +kernel), (by decide +kernel), (by decide +kernel), (zg_in 102 (by decide +kernel) (by decide +kernel)), (fun h => absurd h (by decide)), fun _ => (zg_in 1133 (by decide +kernel) (by decide +kernel))⟩
theorem zc_RL_201_s : 294 < zN ∧ zCs RL 201 (zP 294) 4 := ⟨by decide, zj_L_block, (zg_in 1132 (by decide +kernel) (by decide +kernel)), Or.inl (zg_in 1131 (by decide +kernel) (by decide +kernel))⟩
theorem zj_X10_block : zJ zX10_block 2 := ⟨(by decide +kernel), (by decide +kernel), (by decide +kernel), (by decide +kernel), (zg_in 113 (by decide +kernel) (by decide +kernel)), fun _ => (zg_in 1651 (by decide +kernel) (by decide +kernel)), fun h => absurd rfl h⟩
theorem zc_RL_203_v : 258 < zN ∧ zCv RL 203 (zP 258) 2 := ⟨by decide, zj_X10_block, (zg_in 1648 (by decide +kernel) (by decide +kernel)), (zg_in 1649 (by decide +kernel) (by decide +kernel)), (zg_in 1650 (by decide +kernel) (by decide +kernel))⟩
theorem zj_L_sum : zJ zL_sum 3 := ⟨(by decide +kernel), (by decide +kernel), (by decide +kernel), (by decide +kernel), (zg_in 102 (by decide +kernel) (by decide +kernel)), (fun h => absurd h (by decide)), fun _ => (zg_in 1141 (by decide +kernel) (by decide +kernel))⟩
theorem zc_RL_204_s : 295 < zN ∧ zCs RL 204 (zP 295) 3 := ⟨by decide, zj_L_sum, (zg_in 1140 (by decide +kernel) (by decide +kernel)), Or.inl (zg_in 1139 (by decide +kernel) (by decide +kernel))⟩
theorem zj_X10_sum : zJ zX10_sum 1 := ⟨(by decide +kernel), (by decide +kernel), (by decide +kernel), (by decide +kernel), (zg_in 113 (by decide +kernel) (by decide +kernel)), fun _ => (zg_in 1659 (by decide +kernel) (by decide +kernel)), fun h => absurd rfl h⟩
theorem zc_RL_206_v : 260 < zN ∧ zCv RL 206 (zP 260) 1 := ⟨by decide, zj_X10_sum, (zg_in 1656 (by decide +kernel) (by decide +kernel)), (zg_in 1657 (by decide +kernel) (by decide +kernel)), (zg_in 1658 (by decide +kernel) (by decide +kernel))⟩
theorem zj_L_mean : zJ zL_mean 3 := ⟨(by decide +kernel), (by decide +kernel), (by decide +kernel), (by decide +kernel), (zg_in 102 (by decide +kernel) (by decide +kernel)), (fun h => absurd h (by decide)), fun _ => (zg_in 1152 (by decide +kernel) (by decide +kernel))⟩
theorem zc_RL_207_s : 296 < zN ∧ zCs RL 207 (zP 296) 3 := ⟨by decide, zj_L_mean, (zg_in 1151 (by decide +kernel) (by decide +kernel)), Or.inl (zg_in 1150 (by decide +kernel) (by decide +kernel))⟩
theorem zj_X10_mean : zJ zX10_mean 1 := ⟨(by decide +kernel), (by decide +kernel), (by decide +kernel), (by decide +kernel), (zg_in 113 (by decide +kernel) (by decide +kernel)), fun _ => (zg_in 1667 (by decide +kernel) (by decide +kernel)), fun h => absurd rfl h⟩
theorem zc_RL_210_v : 261 < zN ∧ zCv RL 210 (zP 261) 1 := ⟨by decide, zj_X10_mean, (zg_in 1664 (by decide +kernel) (by decide +kernel)), (zg_in 1665 (by decide +kernel) (by decide +kernel)), (zg_in 1666 (by decide +kernel) (by decide +kernel))⟩
theorem zj_L_touched : zJ zL_touched 3 := ⟨(by decide +kernel), (by decide +kernel), (by decide +kernel), (by decide +kernel), (zg_in 102 (by decide +kernel) (by decide +kernel)), (fun h => absurd h (by decide)), fun _ => (zg_in 1163 (by decide +kernel) (by decide +kernel))⟩
theorem zc_RL_211_s : 297 < zN ∧ zCs RL 211 (zP 297) 3 := ⟨by decide, zj_L_touched, (zg_in 1162 (by decide +kernel) (by decide +kernel)), Or.inl (zg_in 1161 (by decide +kernel) (by decide +kernel))⟩
theorem zj_X10_touched : zJ zX10_touched 1 := ⟨(by decide +kernel), (by decide +kernel), (by decide +kernel), (by decide +kernel), (zg_in 113 (by decide +kernel) (by decide +kernel)), fun _ => (zg_in 1671 (by decide +kernel) (by decide +kernel)), fun h => absurd rfl h⟩
theorem zc_RL_213_v : 262 < zN ∧ zCv RL 213 (zP 262) 1 := ⟨by decide, zj_X10_touched, (zg_in 1668 (by decide +kernel) (by decide +kernel)), (zg_in 1669 (by decide +kernel) (by decide +kernel)), (zg_in 1670 (by decide +kernel) (by decide +kernel))⟩
theorem zj_L_ifTyped : zJ zL_ifTyped 6 := ⟨(by decide +kernel), (by decide +kernel), (by decide +kernel), (by decide +kernel), (zg_in 102 (by decide +kernel) (by decide +kernel)), (fun h => absurd h (by decide)), fun _ => (zg_in 1174 (by decide +kernel) (by decide +kernel))⟩
theorem zc_RL_214_s : 298 < zN ∧ zCs RL 214 (zP 298) 6 := ⟨by decide, zj_L_ifTyped, (zg_in 1173 (by decide +kernel) (by decide +kernel)), Or.inl (zg_in 1172 (by decide +kernel) (by decide +kernel))⟩
theorem zj_X10_ifTyped : zJ zX10_ifTyped 4 := ⟨(by decide +kernel), (by decide +kernel), (by decide +kernel), (by decide +kernel), (zg_in 113 (by decide +kernel) (by decide +kernel)), fun _ => (zg_in 1675 (by decide +kernel) (by decide +kernel)), fun h => absurd rfl h⟩
theorem zc_RL_216_v : 264 < zN ∧ zCv RL 216 (zP 264) 4 := ⟨by decide, zj_X10_ifTyped, (zg_in 1672 (by decide +kernel) (by decide +kernel)), (zg_in 1673 (by decide +kernel) (by decide +kernel)), (zg_in 1674 (by decide +kernel) (by decide +kernel))⟩
theorem zj_X9_digest : zJ zX9_digest 0 := ⟨(by decide +kernel), (by decide +kernel), (by decide +kernel), (by decide +kernel), (zg_in 103 (by decide +kernel) (by decide +kernel)), fun _ => (zg_in 469 (by decide +kernel) (by decide +kernel)), fun h => absurd rfl h⟩
theorem zc_RL_217_v : 137 < zN ∧ zCv RL 217 (zP 137) 0 := ⟨by decide, zj_X9_digest, (zg_in 466 (by decide +kernel) (by decide +kernel)), (zg_in 467 (by decide +kernel) (by decide +kernel)), (zg_in 468 (by decide +kernel) (by decide +kernel))⟩
theorem zj_X10_digest : zJ zX10_digest 0 := ⟨(by decide +kernel), (by decide +kernel), (by decide +kernel), (by decide +kernel), (zg_in 113 (by decide +kernel) (by decide +kernel)), fun _ => (zg_in 1683 (by decide +kernel) (by decide +kernel)), fun h => absurd rfl h⟩
theorem zc_RL_221_v : 267 < zN ∧ zCv RL 221 (zP 267) 0 := ⟨by decide, zj_X10_digest, (zg_in 1680 (by decide +kernel) (by decide +kernel)), (zg_in 1681 (by decide +kernel) (by decide +kernel)), (zg_in 1682 (by decide +kernel) (by decide +kernel))⟩
end
section
/-! each method's rows hold, by program -/
set_option maxRecDepth 100000 in
theorem zok_X0_init : zOK zX0_init := zok_of (by decide +kernel) (zls_c (zg_in 241 (by decide +kernel) (by decide +kernel)) (zls_c zpt_RX0_9i (zls_c zpt_RX0_15i (zls_c zpt_RX0_19i (zls_c zpt_RX0_22i (zls_c zpt_RX0_25i (zls_c zpt_RX0_28i (zls_c zpt_RX0_31i (zls_c zpt_RX0_34i (zls_c zpt_RX0_37i (zls_c zpt_RX0_40i zls_n)))))))))))
set_option maxRecDepth 100000 in
theorem zok_X0_collect : zOK zX0_collect := zok_of (by decide +kernel) (zls_c zpt_RX0_9 (zls_c zc_RX0_44_v (zls_c zc_RX0_50_v (zls_c zc_RX0_50_v (zls_c zfd_RX0_9 (zls_c zfd_RX0_15 (zls_c zfd_RX0_9 (zls_c zfd_RX0_19 (zls_c zfd_RX0_9 (zls_c zfd_RX0_22 (zls_c zfd_RX0_9 (zls_c zc_RX0_54_s (zls_c zfd_RX0_9 (zls_c zc_RX0_58_v (zls_c zfd_RX0_9 (zls_c zpt_RX0_9 zls_n))))))))))))))))
set_option maxRecDepth 100000 in
theorem zok_X0_lastLine : zOK zX0_lastLine := zok_of (by decide +kernel) (zls_c zc_RX0_44_v (zls_c zc_RX0_50_v zls_n))
set_option maxRecDepth 100000 in
theorem zok_X0_measureBlock : zOK zX0_measureBlock := zok_of (by decide +kernel) (zls_c zc_RX0_62_v (zls_c zfd_RX0_15 (zls_c zc_RX0_66_v (zls_c zc_RX0_72_v (zls_c zfd_RX0_28 (zls_c zc_RX0_76_v (zls_c zfd_RX0_28 (zls_c zc_RX0_79_v (zls_c zfd_RX0_25 (zls_c zfd_RX0_31 (zls_c zc_RX0_82_v zls_n)))))))))))
set_option maxRecDepth 100000 in
theorem zok_X0_addNumbers : zOK zX0_addNumbers := zok_of (by decide +kernel) (zls_c zfd_RX0_34 (zls_c zfd_RX0_40 (zls_c zfd_RX0_19 (zls_c zfd_RX0_22 (zls_c zfd_RX0_15 (zls_c zc_RX0_85_v (zls_c zfd_RX0_34 (zls_c zfd_RX0_40 (zls_c zfd_RX0_15 (zls_c zc_RX0_89_v zls_n))))))))))
set_option maxRecDepth 100000 in
theorem zok_X0_isDecimal : zOK zX0_isDecimal := zok_of (by decide +kernel) (zls_c zfd_RX0_19 (zls_c zfd_RX0_22 (zls_c zfd_RX0_15 (zls_c zc_RX0_85_v (zls_c zfd_RX0_34 zls_n)))))
set_option maxRecDepth 100000 in
theorem zok_X0_measureDecimal : zOK zX0_measureDecimal := zok_of (by decide +kernel) (zls_c zfd_RX0_15 (zls_c zfd_RX0_19 (zls_c zfd_RX0_22 (zls_c zc_RX0_93_v (zls_c zc_RX0_85_v (zls_c zc_RX0_96_v (zls_c (zg_in 394 (by decide +kernel) (by decide +kernel)) (zls_c zc_RX0_96_v (zls_c (zg_in 394 (by decide +kernel) (by decide +kernel)) (zls_c (zg_in 394 (by decide +kernel) (by decide +kernel)) (zls_c zfd_RX0_37 (zls_c zfd_RX0_31 (zls_c (zg_in 394 (by decide +kernel) (by decide +kernel)) zls_n)))))))))))))
set_option maxRecDepth 100000 in
theorem zok_X0_measurePlain : zOK zX0_measurePlain := zok_of (by decide +kernel) (zls_c zfd_RX0_19 (zls_c zfd_RX0_22 (zls_c zfd_RX0_15 (zls_c zc_RX0_93_v (zls_c (zg_in 394 (by decide +kernel) (by decide +kernel)) (zls_c zfd_RX0_37 (zls_c zfd_RX0_31 zls_n)))))))
set_option maxRecDepth 100000 in
theorem zok_X0_size : zOK zX0_size := zok_of (by decide +kernel) (zls_c zfd_RX0_9 zls_n)
set_option maxRecDepth 100000 in
theorem zok_X0_has : zOK zX0_has := zok_of (by decide +kernel) (zls_c zfd_RX0_9 zls_n)
set_option maxRecDepth 100000 in
theorem zok_X0_fact : zOK zX0_fact := zok_of (by decide +kernel) (zls_c zc_RX0_104_v (zls_c zfd_RX0_15 (zls_c zfd_RX0_19 (zls_c zfd_RX0_22 (zls_c zfd_RX0_25 (zls_c zfd_RX0_28 (zls_c zfd_RX0_31 (zls_c zfd_RX0_34 (zls_c zfd_RX0_37 zls_n)))))))))
set_option maxRecDepth 100000 in
theorem zok_X0_column : zOK zX0_column := zok_of (by decide +kernel) (zls_c zc_RX0_104_v (zls_c zfd_RX0_15 zls_n))
set_option maxRecDepth 100000 in
theorem zok_X0_first : zOK zX0_first := zok_of (by decide +kernel) (zls_c zc_RX0_104_v (zls_c zfd_RX0_19 zls_n))
set_option maxRecDepth 100000 in
theorem zok_X0_last : zOK zX0_last := zok_of (by decide +kernel) (zls_c zc_RX0_104_v (zls_c zfd_RX0_22 zls_n))
set_option maxRecDepth 100000 in
theorem zok_X0_width : zOK zX0_width := zok_of (by decide +kernel) (zls_c zc_RX0_104_v (zls_c zfd_RX0_25 zls_n))
set_option maxRecDepth 100000 in
theorem zok_X0_alignment : zOK zX0_alignment := zok_of (by decide +kernel) (zls_c zc_RX0_104_v (zls_c zfd_RX0_28 zls_n))
set_option maxRecDepth 100000 in
theorem zok_X0_numbers : zOK zX0_numbers := zok_of (by decide +kernel) (zls_c zc_RX0_104_v (zls_c zfd_RX0_34 zls_n))
set_option maxRecDepth 100000 in
theorem zok_X0_fractionWidth : zOK zX0_fractionWidth := zok_of (by decide +kernel) (zls_c zc_RX0_104_v (zls_c zfd_RX0_37 zls_n))
set_option maxRecDepth 100000 in
theorem zok_X0_total : zOK zX0_total := zok_of (by decide +kernel) (zls_c zc_RX0_104_v (zls_c zfd_RX0_40 zls_n))
set_option maxRecDepth 100000 in
theorem zok_X0_countBetween : zOK zX0_countBetween := zok_of (by decide +kernel) (zls_c zfd_RX0_9 (zls_c zfd_RX0_19 (zls_c zfd_RX0_22 zls_n)))
set_option maxRecDepth 100000 in
theorem zok_X0_mixInto : zOK zX0_mixInto := zok_of (by decide +kernel) (zls_c zfd_RX0_9 (zls_c zc_RX0_108_v (zls_c zc_RX0_111_s (zls_c zfd_RX0_40 (zls_c zc_RX0_111_s zls_n)))))
set_option maxRecDepth 100000 in
theorem zok_X1_init : zOK zX1_init := zok_of (by decide +kernel) (zls_c (zg_in 212 (by decide +kernel) (by decide +kernel)) (zls_c zpt_RX1_9i (zls_c zpt_RX1_15i (zls_c zpt_RX1_19i (zls_c zpt_RX1_22i (zls_c zpt_RX1_25i (zls_c zpt_RX1_28i (zls_c zpt_RX1_31i zls_n))))))))
set_option maxRecDepth 100000 in
theorem zok_X1_read : zOK zX1_read := zok_of (by decide +kernel) (zls_c zc_RX1_35_v (zls_c zc_RX1_41_v (zls_c zc_RX1_45_v (zls_c zc_RX1_45_v zls_n))))
set_option maxRecDepth 100000 in
theorem zok_X1_readCell : zOK zX1_readCell := zok_of (by decide +kernel) (zls_c zc_RX1_49_s (zls_c zc_RX1_53_s (zls_c zfd_RX1_19 (zls_c zfd_RX1_22 (zls_c zfd_RX1_25 (zls_c zfd_RX1_28 (zls_c zc_RX1_59_s (zls_c zfd_RX1_31 (zls_c zc_RX1_62_s (zls_c zfd_RX1_15 (zls_c zpt_RX1_9 zls_n)))))))))))
set_option maxRecDepth 100000 in
theorem zok_X1_slot : zOK zX1_slot := zok_of (by decide +kernel) zls_n
set_option maxRecDepth 100000 in
theorem zok_X1_lines : zOK zX1_lines := zok_of (by decide +kernel) (zls_c zfd_RX1_9 zls_n)
set_option maxRecDepth 100000 in
theorem zok_X1_hasLine : zOK zX1_hasLine := zok_of (by decide +kernel) (zls_c zfd_RX1_9 zls_n)
set_option maxRecDepth 100000 in
theorem zok_X1_hasCell : zOK zX1_hasCell := zok_of (by decide +kernel) (zls_c zfd_RX1_9 (zls_c zfd_RX1_15 zls_n))
set_option maxRecDepth 100000 in
theorem zok_X1_endsWithTab : zOK zX1_endsWithTab := zok_of (by decide +kernel) (zls_c zfd_RX1_9 (zls_c zfd_RX1_15 zls_n))
set_option maxRecDepth 100000 in
theorem zok_X1_cellsOf : zOK zX1_cellsOf := zok_of (by decide +kernel) (zls_c zfd_RX1_9 (zls_c zfd_RX1_15 zls_n))
set_option maxRecDepth 100000 in
theorem zok_X1_start : zOK zX1_start := zok_of (by decide +kernel) (zls_c zc_RX1_66_v (zls_c zfd_RX1_19 (zls_c zc_RX1_49_s zls_n)))
set_option maxRecDepth 100000 in
theorem zok_X1_length : zOK zX1_length := zok_of (by decide +kernel) (zls_c zc_RX1_66_v (zls_c zfd_RX1_22 (zls_c zc_RX1_49_s zls_n)))
set_option maxRecDepth 100000 in
theorem zok_X1_kind : zOK zX1_kind := zok_of (by decide +kernel) (zls_c zc_RX1_66_v (zls_c zfd_RX1_25 (zls_c zc_RX1_49_s zls_n)))
set_option maxRecDepth 100000 in
theorem zok_X1_whole : zOK zX1_whole := zok_of (by decide +kernel) (zls_c zc_RX1_66_v (zls_c zfd_RX1_28 (zls_c zc_RX1_49_s zls_n)))
set_option maxRecDepth 100000 in
theorem zok_X1_value : zOK zX1_value := zok_of (by decide +kernel) (zls_c zc_RX1_66_v (zls_c zfd_RX1_31 (zls_c zc_RX1_49_s zls_n)))
set_option maxRecDepth 100000 in
theorem zok_X1_lineStart : zOK zX1_lineStart := zok_of (by decide +kernel) (zls_c zc_RX1_70_v zls_n)
set_option maxRecDepth 100000 in
theorem zok_X1_lineEnd : zOK zX1_lineEnd := zok_of (by decide +kernel) (zls_c zc_RX1_73_v (zls_c zc_RX1_70_v (zls_c zc_RX1_76_v zls_n)))
set_option maxRecDepth 100000 in
theorem zok_X1_hasRoomFor : zOK zX1_hasRoomFor := zok_of (by decide +kernel) (zls_c zfd_RX1_9 (zls_c zc_RX1_73_v (zls_c zc_RX1_76_v zls_n)))
set_option maxRecDepth 100000 in
theorem zok_X1_canErase : zOK zX1_canErase := zok_of (by decide +kernel) (zls_c zc_RX1_76_v (zls_c zc_RX1_79_v (zls_c zc_RX1_76_v (zls_c zc_RX1_82_v (zls_c zc_RX1_76_v (zls_c zc_RX1_73_v (zls_c zc_RX1_73_v zls_n)))))))
set_option maxRecDepth 100000 in
theorem zok_X1_hasFullLine : zOK zX1_hasFullLine := zok_of (by decide +kernel) (zls_c zc_RX1_73_v zls_n)
set_option maxRecDepth 100000 in
theorem zok_X1_cellCount : zOK zX1_cellCount := zok_of (by decide +kernel) (zls_c zfd_RX1_9 (zls_c zc_RX1_73_v zls_n))
set_option maxRecDepth 100000 in
theorem zok_X1_signCount : zOK zX1_signCount := zok_of (by decide +kernel) (zls_c zfd_RX1_9 (zls_c zc_RX1_86_v zls_n))
set_option maxRecDepth 100000 in
theorem zok_X1_signsOf : zOK zX1_signsOf := zok_of (by decide +kernel) (zls_c zc_RX1_73_v (zls_c zc_RX1_76_v zls_n))
set_option maxRecDepth 100000 in
theorem zok_X1_countKind : zOK zX1_countKind := zok_of (by decide +kernel) (zls_c zfd_RX1_9 (zls_c zc_RX1_73_v (zls_c zc_RX1_89_v zls_n)))
set_option maxRecDepth 100000 in
theorem zok_X1_fixedLength : zOK zX1_fixedLength := zok_of (by decide +kernel) (zls_c zc_RX1_73_v (zls_c zc_RX1_76_v (zls_c zc_RX1_79_v zls_n)))
set_option maxRecDepth 100000 in
theorem zok_X2_init : zOK zX2_init := zok_of (by decide +kernel) (zls_c (zg_in 151 (by decide +kernel) (by decide +kernel)) (zls_c zpt_RX2_9i (zls_c zpt_RX2_15i (zls_c zpt_RX2_19i (zls_c zpt_RX2_22i zls_n)))))
set_option maxRecDepth 100000 in
theorem zok_X2_alignment : zOK zX2_alignment := zok_of (by decide +kernel) (zls_c zfd_RX2_9 (zls_c zfd_RX2_9 zls_n))
set_option maxRecDepth 100000 in
theorem zok_X2_padding : zOK zX2_padding := zok_of (by decide +kernel) (zls_c zfd_RX2_15 zls_n)
set_option maxRecDepth 100000 in
theorem zok_X2_changeAlignment : zOK zX2_changeAlignment := zok_of (by decide +kernel) (zls_c zc_RX2_25_v (zls_c zfd_RX2_9 (zls_c zfd_RX2_9 zls_n)))
set_option maxRecDepth 100000 in
theorem zok_X2_allowsSpacing : zOK zX2_allowsSpacing := zok_of (by decide +kernel) zls_n
set_option maxRecDepth 100000 in
theorem zok_X2_changeSpacing : zOK zX2_changeSpacing := zok_of (by decide +kernel) (zls_c zfd_RX2_15 (zls_c zpt_RX2_15 (zls_c zfd_RX2_19 (zls_c zpt_RX2_19 (zls_c zfd_RX2_22 (zls_c zpt_RX2_22 zls_n))))))
set_option maxRecDepth 100000 in
theorem zok_X2_widthFor : zOK zX2_widthFor := zok_of (by decide +kernel) (zls_c zfd_RX2_19 (zls_c (zg_in 403 (by decide +kernel) (by decide +kernel)) (zls_c zfd_RX2_15 (zls_c zfd_RX2_22 (zls_c zfd_RX2_22 (zls_c zfd_RX2_22 (zls_c zfd_RX2_22 zls_n)))))))
set_option maxRecDepth 100000 in
theorem zok_X2_mixInto : zOK zX2_mixInto := zok_of (by decide +kernel) (zls_c zfd_RX2_9 (zls_c zc_RX2_35_s (zls_c zfd_RX2_15 (zls_c zc_RX2_35_s (zls_c zfd_RX2_19 (zls_c zc_RX2_35_s (zls_c zfd_RX2_22 (zls_c zc_RX2_35_s zls_n))))))))
set_option maxRecDepth 100000 in
theorem zok_X3_init : zOK zX3_init := zok_of (by decide +kernel) (zls_c (zg_in 170 (by decide +kernel) (by decide +kernel)) (zls_c (zg_in 171 (by decide +kernel) (by decide +kernel)) (zls_c zpt_RX3_11i (zls_c znw_RX3_9 (zls_c zc_RX3_17_s (zls_c zpt_RX3_18i (zls_c zpt_RX3_22i (zls_c zpt_RX3_26i (zls_c zpt_RX3_29i (zls_c zfd_RX3_11 (zls_c zfd_RX3_18 zls_n)))))))))))
set_option maxRecDepth 100000 in
theorem zok_X3_page : zOK zX3_page := zok_of (by decide +kernel) (zls_c zfd_RX3_18 zls_n)
set_option maxRecDepth 100000 in
theorem zok_X3_undos : zOK zX3_undos := zok_of (by decide +kernel) (zls_c zfd_RX3_26 zls_n)
set_option maxRecDepth 100000 in
theorem zok_X3_redos : zOK zX3_redos := zok_of (by decide +kernel) (zls_c zfd_RX3_29 zls_n)
set_option maxRecDepth 100000 in
theorem zok_X3_save : zOK zX3_save := zok_of (by decide +kernel) (zls_c zc_RX3_32_v (zls_c zfd_RX3_11 (zls_c znw_RX3_9 (zls_c zc_RX3_17_s (zls_c zfd_RX3_11 (zls_c zfd_RX3_18 (zls_c zc_RX3_36_v (zls_c zpt_RX3_18 (zls_c zpt_RX3_22 (zls_c zfd_RX3_26 (zls_c (zg_in 745 (by decide +kernel) (by decide +kernel)) (zls_c zpt_RX3_26 (zls_c zpt_RX3_29 zls_n)))))))))))))
set_option maxRecDepth 100000 in
theorem zok_X3_stepBack : zOK zX3_stepBack := zok_of (by decide +kernel) (zls_c zfd_RX3_26 (zls_c zfd_RX3_22 (zls_c zfd_RX3_22 (zls_c zc_RX3_46_v (zls_c zfd_RX3_26 (zls_c zpt_RX3_26 (zls_c zfd_RX3_29 (zls_c zpt_RX3_29 zls_n))))))))
set_option maxRecDepth 100000 in
theorem zok_X3_stepForward : zOK zX3_stepForward := zok_of (by decide +kernel) (zls_c zfd_RX3_29 (zls_c zc_RX3_32_v (zls_c zc_RX3_46_v (zls_c zfd_RX3_29 (zls_c zpt_RX3_29 (zls_c zfd_RX3_26 (zls_c zpt_RX3_26 zls_n)))))))
set_option maxRecDepth 100000 in
theorem zok_X3_placeBehind : zOK zX3_placeBehind := zok_of (by decide +kernel) (zls_c zfd_RX3_22 (zls_c zfd_RX3_22 zls_n))
set_option maxRecDepth 100000 in
theorem zok_X3_goTo : zOK zX3_goTo := zok_of (by decide +kernel) (zls_c zfd_RX3_11 (zls_c zpt_RX3_18 (zls_c zpt_RX3_22 zls_n)))
set_option maxRecDepth 100000 in
theorem zok_X4_init : zOK zX4_init := zok_of (by decide +kernel) (zls_c (zg_in 137 (by decide +kernel) (by decide +kernel)) (zls_c zpt_RX4_9i (zls_c zpt_RX4_15i zls_n)))
set_option maxRecDepth 100000 in
theorem zok_X4_length : zOK zX4_length := zok_of (by decide +kernel) (zls_c zfd_RX4_15 zls_n)
set_option maxRecDepth 100000 in
theorem zok_X4_isFull : zOK zX4_isFull := zok_of (by decide +kernel) (zls_c zfd_RX4_15 (zls_c zfd_RX4_9 zls_n))
set_option maxRecDepth 100000 in
theorem zok_X4_add : zOK zX4_add := zok_of (by decide +kernel) (zls_c zfd_RX4_15 (zls_c zfd_RX4_9 (zls_c zfd_RX4_9 (zls_c zfd_RX4_15 (zls_c zfd_RX4_15 (zls_c zpt_RX4_15 (zls_c zfd_RX4_15 zls_n)))))))
set_option maxRecDepth 100000 in
theorem zok_X4_empty : zOK zX4_empty := zok_of (by decide +kernel) (zls_c zfd_RX4_15 (zls_c zpt_RX4_15 zls_n))
set_option maxRecDepth 100000 in
theorem zok_X4_codeAt : zOK zX4_codeAt := zok_of (by decide +kernel) (zls_c zfd_RX4_15 (zls_c zfd_RX4_9 zls_n))
set_option maxRecDepth 100000 in
theorem zok_X4_pageCodeAt : zOK zX4_pageCodeAt := zok_of (by decide +kernel) (zls_c zc_RX4_19_v zls_n)
set_option maxRecDepth 100000 in
theorem zok_X4_firstFault : zOK zX4_firstFault := zok_of (by decide +kernel) (zls_c zfd_RX4_15 (zls_c zfd_RX4_9 (zls_c zc_RX4_23_s (zls_c zfd_RX4_15 zls_n))))
set_option maxRecDepth 100000 in
theorem zok_X4_mixInto : zOK zX4_mixInto := zok_of (by decide +kernel) (zls_c zfd_RX4_15 (zls_c zc_RX4_27_s (zls_c zfd_RX4_15 (zls_c zfd_RX4_9 (zls_c zc_RX4_27_s zls_n)))))
set_option maxRecDepth 100000 in
theorem zok_X5_init : zOK zX5_init := zok_of (by decide +kernel) (zls_c (zg_in 206 (by decide +kernel) (by decide +kernel)) (zls_c znw_RX5_9 (zls_c zc_RX5_11_s (zls_c zpt_RX5_12i (zls_c znw_RX5_18 (zls_c zc_RX5_20_s (zls_c zpt_RX5_21i (zls_c zpt_RX5_25i (zls_c zpt_RX5_29i zls_n)))))))))
set_option maxRecDepth 100000 in
theorem zok_X5_placeCells : zOK zX5_placeCells := zok_of (by decide +kernel) (zls_c zfd_RX5_12 (zls_c zc_RX5_32_v (zls_c zfd_RX5_12 (zls_c zc_RX5_36_v (zls_c zfd_RX5_29 (zls_c zc_RX5_40_s (zls_c zfd_RX5_21 (zls_c zc_RX5_44_v (zls_c zfd_RX5_21 (zls_c zc_RX5_47_v (zls_c zfd_RX5_21 (zls_c zc_RX5_50_v (zls_c zfd_RX5_29 (zls_c zfd_RX5_21 (zls_c zc_RX5_53_v (zls_c zc_RX5_40_s (zls_c zfd_RX5_12 (zls_c zc_RX5_32_v (zls_c zc_RX5_56_v zls_n)))))))))))))))))))
set_option maxRecDepth 100000 in
theorem zok_X5_placeCellsOf : zOK zX5_placeCellsOf := zok_of (by decide +kernel) (zls_c zfd_RX5_12 (zls_c zc_RX5_36_v (zls_c zc_RX5_40_s (zls_c zfd_RX5_25 (zls_c zfd_RX5_21 (zls_c zfd_RX5_29 (zls_c zc_RX5_60_v zls_n)))))))
set_option maxRecDepth 100000 in
theorem zok_X5_x : zOK zX5_x := zok_of (by decide +kernel) (zls_c zfd_RX5_12 (zls_c zc_RX5_63_v (zls_c zfd_RX5_25 (zls_c zc_RX5_40_s zls_n))))
set_option maxRecDepth 100000 in
theorem zok_X5_blockNumber : zOK zX5_blockNumber := zok_of (by decide +kernel) (zls_c zfd_RX5_12 (zls_c zc_RX5_63_v (zls_c zfd_RX5_29 (zls_c zc_RX5_40_s zls_n))))
set_option maxRecDepth 100000 in
theorem zok_X5_shift : zOK zX5_shift := zok_of (by decide +kernel) (zls_c zc_RX5_67_v (zls_c zfd_RX5_21 (zls_c zc_RX5_60_v (zls_c zc_RX5_70_v (zls_c zfd_RX5_12 (zls_c zc_RX5_75_v (zls_c zfd_RX5_21 (zls_c zc_RX5_78_v (zls_c zfd_RX5_12 (zls_c zc_RX5_81_v (zls_c zfd_RX5_21 (zls_c zc_RX5_84_v (zls_c zfd_RX5_12 (zls_c zc_RX5_87_v zls_n))))))))))))))
set_option maxRecDepth 100000 in
theorem zok_X5_cellFact : zOK zX5_cellFact := zok_of (by decide +kernel) (zls_c zfd_RX5_12 (zls_c zc_RX5_75_v (zls_c zfd_RX5_12 (zls_c zc_RX5_81_v (zls_c zc_RX5_90_v (zls_c zc_RX5_93_v (zls_c zc_RX5_67_v zls_n)))))))
set_option maxRecDepth 100000 in
theorem zok_X5_lineFact : zOK zX5_lineFact := zok_of (by decide +kernel) (zls_c zfd_RX5_12 (zls_c zc_RX5_36_v (zls_c zc_RX5_97_v (zls_c zfd_RX5_12 (zls_c zc_RX5_100_v (zls_c zfd_RX5_12 (zls_c zc_RX5_103_v zls_n)))))))
set_option maxRecDepth 100000 in
theorem zok_X5_shownLength : zOK zX5_shownLength := zok_of (by decide +kernel) (zls_c zfd_RX5_12 (zls_c zc_RX5_36_v (zls_c zc_RX5_90_v (zls_c zfd_RX5_12 (zls_c zc_RX5_75_v zls_n)))))
set_option maxRecDepth 100000 in
theorem zok_X5_greatestShownLength : zOK zX5_greatestShownLength := zok_of (by decide +kernel) (zls_c zfd_RX5_12 (zls_c zc_RX5_32_v (zls_c zc_RX5_97_v (zls_c (zg_in 514 (by decide +kernel) (by decide +kernel)) zls_n))))
set_option maxRecDepth 100000 in
theorem zok_X5_cellAt : zOK zX5_cellAt := zok_of (by decide +kernel) (zls_c zfd_RX5_12 (zls_c zc_RX5_36_v (zls_c zc_RX5_90_v zls_n)))
set_option maxRecDepth 100000 in
theorem zok_X5_countOtherX : zOK zX5_countOtherX := zok_of (by decide +kernel) (zls_c zfd_RX5_12 (zls_c zc_RX5_32_v (zls_c zfd_RX5_12 (zls_c zc_RX5_36_v (zls_c zfd_RX5_12 (zls_c zc_RX5_63_v (zls_c zc_RX5_90_v (zls_c zc_RX5_90_v zls_n))))))))
set_option maxRecDepth 100000 in
theorem zok_X6_init : zOK zX6_init := zok_of (by decide +kernel) (zls_c (zg_in 890 (by decide +kernel) (by decide +kernel)) (zls_c zpt_RX6_9i (zls_c (zg_in 891 (by decide +kernel) (by decide +kernel)) (zls_c zpt_RX6_21i (zls_c zfd_RX6_21 (zls_c zfd_RX6_9 zls_n))))))
set_option maxRecDepth 100000 in
theorem zok_X6_lineAt : zOK zX6_lineAt := zok_of (by decide +kernel) (zls_c zfd_RX6_21 (zls_c zfd_RX6_9 zls_n))
set_option maxRecDepth 100000 in
theorem zok_X6_move : zOK zX6_move := zok_of (by decide +kernel) (zls_c zfd_RX6_21 (zls_c zfd_RX6_21 (zls_c zfd_RX6_9 (zls_c zfd_RX6_9 (zls_c zfd_RX6_9 (zls_c zfd_RX6_9 (zls_c zfd_RX6_9 (zls_c zfd_RX6_9 zls_n))))))))
set_option maxRecDepth 100000 in
theorem zok_X6_moved : zOK zX6_moved := zok_of (by decide +kernel) (zls_c zfd_RX6_21 (zls_c zfd_RX6_9 zls_n))
set_option maxRecDepth 100000 in
theorem zok_X7_init : zOK zX7_init := zok_of (by decide +kernel) (zls_c (zg_in 177 (by decide +kernel) (by decide +kernel)) (zls_c zpt_RX7_9i (zls_c zpt_RX7_15i zls_n)))
set_option maxRecDepth 100000 in
theorem zok_X7_size : zOK zX7_size := zok_of (by decide +kernel) (zls_c zfd_RX7_15 zls_n)
set_option maxRecDepth 100000 in
theorem zok_X7_codeAt : zOK zX7_codeAt := zok_of (by decide +kernel) (zls_c zfd_RX7_15 (zls_c zfd_RX7_9 zls_n))
set_option maxRecDepth 100000 in
theorem zok_X7_clear : zOK zX7_clear := zok_of (by decide +kernel) (zls_c zpt_RX7_15 zls_n)
set_option maxRecDepth 100000 in
theorem zok_X7_add : zOK zX7_add := zok_of (by decide +kernel) (zls_c zfd_RX7_15 (zls_c zfd_RX7_9 (zls_c zfd_RX7_9 (zls_c zfd_RX7_15 (zls_c zfd_RX7_15 (zls_c zpt_RX7_15 zls_n))))))
set_option maxRecDepth 100000 in
theorem zok_X7_addFrom : zOK zX7_addFrom := zok_of (by decide +kernel) (zls_c zc_RX7_19_v (zls_c zc_RX7_23_v zls_n))
set_option maxRecDepth 100000 in
theorem zok_X7_becomeCopyOf : zOK zX7_becomeCopyOf := zok_of (by decide +kernel) (zls_c zfd_RX7_9 (zls_c zfd_RX7_9 (zls_c zfd_RX7_15 (zls_c (zg_in 742 (by decide +kernel) (by decide +kernel)) (zls_c zfd_RX7_15 (zls_c zpt_RX7_15 zls_n))))))
set_option maxRecDepth 100000 in
theorem zok_X7_put : zOK zX7_put := zok_of (by decide +kernel) (zls_c zc_RX7_33_v (zls_c zfd_RX7_9 zls_n))
set_option maxRecDepth 100000 in
theorem zok_X7_putInput : zOK zX7_putInput := zok_of (by decide +kernel) (zls_c zc_RX7_37_v (zls_c zc_RX7_33_v (zls_c zc_RX7_37_v (zls_c zfd_RX7_9 (zls_c zc_RX7_43_v zls_n)))))
set_option maxRecDepth 100000 in
theorem zok_X7_open : zOK zX7_open := zok_of (by decide +kernel) (zls_c zfd_RX7_15 (zls_c zfd_RX7_9 (zls_c zfd_RX7_15 (zls_c zfd_RX7_9 (zls_c zfd_RX7_9 (zls_c zfd_RX7_15 (zls_c (zg_in 742 (by decide +kernel) (by decide +kernel)) (zls_c zfd_RX7_15 (zls_c zpt_RX7_15 zls_n)))))))))
set_option maxRecDepth 100000 in
theorem zok_X7_cut : zOK zX7_cut := zok_of (by decide +kernel) (zls_c zfd_RX7_15 (zls_c zfd_RX7_15 (zls_c zfd_RX7_9 (zls_c zfd_RX7_9 (zls_c zfd_RX7_15 (zls_c (zg_in 742 (by decide +kernel) (by decide +kernel)) (zls_c zfd_RX7_15 (zls_c zpt_RX7_15 zls_n))))))))
set_option maxRecDepth 100000 in
theorem zok_X7_runStart : zOK zX7_runStart := zok_of (by decide +kernel) (zls_c zc_RX7_19_v zls_n)
set_option maxRecDepth 100000 in
theorem zok_X7_countRuns : zOK zX7_countRuns := zok_of (by decide +kernel) (zls_c zc_RX7_46_v zls_n)
set_option maxRecDepth 100000 in
theorem zok_X7_replaceRuns : zOK zX7_replaceRuns := zok_of (by decide +kernel) (zls_c zc_RX7_46_v (zls_c zc_RX7_50_v (zls_c zc_RX7_54_v zls_n)))
set_option maxRecDepth 100000 in
theorem zok_X8_kindOf : zOK zX8_kindOf := zok_of (by decide +kernel) (zls_c zc_RX8_9_s (zls_c zc_RX8_15_s zls_n))
set_option maxRecDepth 100000 in
theorem zok_X8_isBlank : zOK zX8_isBlank := zok_of (by decide +kernel) (zls_c zc_RX8_18_v zls_n)
set_option maxRecDepth 100000 in
theorem zok_X8_isNumber : zOK zX8_isNumber := zok_of (by decide +kernel) (zls_c zc_RX8_18_v (zls_c zc_RX8_24_s zls_n))
set_option maxRecDepth 100000 in
theorem zok_X8_wholeLength : zOK zX8_wholeLength := zok_of (by decide +kernel) (zls_c zc_RX8_18_v zls_n)
set_option maxRecDepth 100000 in
theorem zok_X8_valueOf : zOK zX8_valueOf := zok_of (by decide +kernel) (zls_c zc_RX8_18_v (zls_c zc_RX8_24_s (zls_c (zg_in 334 (by decide +kernel) (by decide +kernel)) (zls_c zc_RX8_30_s (zls_c (zg_in 336 (by decide +kernel) (by decide +kernel)) (zls_c (zg_in 334 (by decide +kernel) (by decide +kernel)) (zls_c zc_RX8_18_v zls_n)))))))
set_option maxRecDepth 100000 in
theorem zok_X9_init : zOK zX9_init := zok_of (by decide +kernel) (zls_c (zg_in 129 (by decide +kernel) (by decide +kernel)) (zls_c znw_RX9_9 (zls_c zc_RX9_11_s (zls_c zpt_RX9_12i (zls_c znw_RX9_16 (zls_c zc_RX9_18_s (zls_c zpt_RX9_19i (zls_c znw_RX9_23 (zls_c zc_RX9_25_s (zls_c zpt_RX9_26i (zls_c znw_RX9_30 (zls_c zc_RX9_32_s (zls_c zpt_RX9_33i (zls_c znw_RX9_30 (zls_c zc_RX9_32_s (zls_c zpt_RX9_37i (zls_c zfd_RX9_33 (zls_c zc_RX9_40_v zls_n))))))))))))))))))
set_option maxRecDepth 100000 in
theorem zok_X9_append : zOK zX9_append := zok_of (by decide +kernel) (zls_c ⟨by decide, rfl, 46, 48, "not a character", List.mem_of_getElem? (i := 647) (by decide +kernel), (zg_in 606 (by decide +kernel) (by decide +kernel)), (zg_in 117 (by decide +kernel) (by decide +kernel)), ztw_RX9_0_48, (by decide +kernel), Or.inl ⟨(by decide +kernel), (by decide +kernel), (by decide +kernel)⟩⟩ (zls_c zfd_RX9_12 (zls_c zc_RX9_51_v (zls_c ⟨by decide, rfl, 57, 59, "the buffer is full", List.mem_of_getElem? (i := 687) (by decide +kernel), (zg_in 678 (by decide +kernel) (by decide +kernel)), (zg_in 118 (by decide +kernel) (by decide +kernel)), ztw_RX9_1_59, (by decide +kernel), Or.inl ⟨(by decide +kernel), (by decide +kernel), (by decide +kernel)⟩⟩ (zls_c zfd_RX9_12 (zls_c zc_RX9_60_v zls_n))))))
set_option maxRecDepth 100000 in
theorem zok_X9_clearInput : zOK zX9_clearInput := zok_of (by decide +kernel) (zls_c zfd_RX9_12 (zls_c zc_RX9_64_v zls_n))
set_option maxRecDepth 100000 in
theorem zok_X9_firstError : zOK zX9_firstError := zok_of (by decide +kernel) (zls_c ⟨by decide, rfl, 68, 48, "no such kind", List.mem_of_getElem? (i := 705) (by decide +kernel), (zg_in 606 (by decide +kernel) (by decide +kernel)), (zg_in 117 (by decide +kernel) (by decide +kernel)), ztw_RX9_0_48, (by decide +kernel), Or.inl ⟨(by decide +kernel), (by decide +kernel), (by decide +kernel)⟩⟩ (zls_c zfd_RX9_12 (zls_c zc_RX9_70_v zls_n)))
set_option maxRecDepth 100000 in
theorem zok_X9_load : zOK zX9_load := zok_of (by decide +kernel) (zls_c zc_RX9_73_v (zls_c zfd_RX9_26 (zls_c zc_RX9_77_v (zls_c zc_RX9_81_v (zls_c zfd_RX9_12 (zls_c zc_RX9_86_v (zls_c zfd_RX9_12 (zls_c zc_RX9_64_v (zls_c zfd_RX9_33 (zls_c zc_RX9_40_v (zls_c zc_RX9_90_v (zls_c zc_RX9_94_v zls_n))))))))))))
set_option maxRecDepth 100000 in
theorem zok_X9_type : zOK zX9_type := zok_of (by decide +kernel) (zls_c zc_RX9_99_v (zls_c zc_RX9_90_v (zls_c zc_RX9_103_v (zls_c zfd_RX9_26 (zls_c zc_RX9_77_v (zls_c zc_RX9_107_v (zls_c zfd_RX9_33 (zls_c zc_RX9_40_v (zls_c zc_RX9_90_v (zls_c zc_RX9_94_v (zls_c zc_RX9_90_v (zls_c zc_RX9_111_v (zls_c zc_RX9_90_v (zls_c zc_RX9_114_v zls_n))))))))))))))
set_option maxRecDepth 100000 in
theorem zok_X9_erase : zOK zX9_erase := zok_of (by decide +kernel) (zls_c zc_RX9_117_v (zls_c zc_RX9_90_v (zls_c zc_RX9_121_v (zls_c ⟨by decide, rfl, 125, 59, "nothing can be erased here", List.mem_of_getElem? (i := 833) (by decide +kernel), (zg_in 678 (by decide +kernel) (by decide +kernel)), (zg_in 118 (by decide +kernel) (by decide +kernel)), ztw_RX9_1_59, (by decide +kernel), Or.inl ⟨(by decide +kernel), (by decide +kernel), (by decide +kernel)⟩⟩ (zls_c zc_RX9_90_v (zls_c zc_RX9_103_v (zls_c zfd_RX9_26 (zls_c zc_RX9_127_v (zls_c zc_RX9_130_v (zls_c zfd_RX9_26 (zls_c zc_RX9_77_v (zls_c zc_RX9_133_v (zls_c zfd_RX9_33 (zls_c zc_RX9_40_v zls_n))))))))))))))
set_option maxRecDepth 100000 in
theorem zok_X9_setCell : zOK zX9_setCell := zok_of (by decide +kernel) (zls_c zc_RX9_136_v (zls_c zc_RX9_73_v (zls_c zc_RX9_90_v (zls_c zc_RX9_103_v (zls_c zc_RX9_90_v (zls_c zc_RX9_114_v (zls_c zfd_RX9_26 (zls_c zc_RX9_77_v (zls_c zc_RX9_133_v (zls_c zfd_RX9_12 (zls_c zc_RX9_86_v (zls_c zfd_RX9_12 (zls_c zc_RX9_64_v (zls_c zfd_RX9_33 (zls_c zc_RX9_40_v zls_n)))))))))))))))
set_option maxRecDepth 100000 in
theorem zok_X9_insertLine : zOK zX9_insertLine := zok_of (by decide +kernel) (zls_c zc_RX9_90_v (zls_c zc_RX9_94_v (zls_c ⟨by decide, rfl, 141, 143, "no such place for a line", List.mem_of_getElem? (i := 852) (by decide +kernel), (zg_in 790 (by decide +kernel) (by decide +kernel)), (zg_in 120 (by decide +kernel) (by decide +kernel)), ztw_RX9_2_143, (by decide +kernel), Or.inl ⟨(by decide +kernel), (by decide +kernel), (by decide +kernel)⟩⟩ (zls_c zc_RX9_73_v (zls_c ⟨by decide, rfl, 144, 59, "there are 24 lines", List.mem_of_getElem? (i := 853) (by decide +kernel), (zg_in 678 (by decide +kernel) (by decide +kernel)), (zg_in 118 (by decide +kernel) (by decide +kernel)), ztw_RX9_1_59, (by decide +kernel), Or.inl ⟨(by decide +kernel), (by decide +kernel), (by decide +kernel)⟩⟩ (zls_c zfd_RX9_26 (zls_c zc_RX9_127_v (zls_c zc_RX9_146_v (zls_c zc_RX9_90_v (zls_c zc_RX9_149_v (zls_c zfd_RX9_26 (zls_c zc_RX9_77_v (zls_c zc_RX9_107_v (zls_c zfd_RX9_12 (zls_c zc_RX9_86_v (zls_c zfd_RX9_12 (zls_c zc_RX9_64_v (zls_c zfd_RX9_33 (zls_c zc_RX9_40_v (zls_c zc_RX9_90_v (zls_c zc_RX9_94_v zls_n)))))))))))))))))))))
set_option maxRecDepth 100000 in
theorem zok_X9_removeLine : zOK zX9_removeLine := zok_of (by decide +kernel) (zls_c zc_RX9_152_v (zls_c zc_RX9_90_v (zls_c zc_RX9_94_v (zls_c ⟨by decide, rfl, 155, 59, "there is only one line", List.mem_of_getElem? (i := 873) (by decide +kernel), (zg_in 678 (by decide +kernel) (by decide +kernel)), (zg_in 118 (by decide +kernel) (by decide +kernel)), ztw_RX9_1_59, (by decide +kernel), Or.inl ⟨(by decide +kernel), (by decide +kernel), (by decide +kernel)⟩⟩ (zls_c zc_RX9_90_v (zls_c zc_RX9_94_v (zls_c zc_RX9_90_v (zls_c zc_RX9_149_v (zls_c zc_RX9_90_v (zls_c zc_RX9_157_v (zls_c zfd_RX9_26 (zls_c zc_RX9_77_v (zls_c zc_RX9_133_v (zls_c zfd_RX9_33 (zls_c zc_RX9_40_v (zls_c zc_RX9_90_v (zls_c zc_RX9_94_v zls_n)))))))))))))))))
set_option maxRecDepth 100000 in
theorem zok_X9_moveLine : zOK zX9_moveLine := zok_of (by decide +kernel) (zls_c zc_RX9_152_v (zls_c zc_RX9_152_v (zls_c znw_RX9_160 (zls_c zc_RX9_90_v (zls_c zc_RX9_94_v (zls_c zc_RX9_162_s (zls_c zc_RX9_164_v (zls_c zc_RX9_167_v (zls_c zfd_RX9_33 (zls_c zc_RX9_40_v (zls_c zfd_RX9_33 (zls_c zfd_RX9_171 (zls_c zc_RX9_175_v zls_n)))))))))))))
set_option maxRecDepth 100000 in
theorem zok_X9_sort : zOK zX9_sort := zok_of (by decide +kernel) (zls_c zc_RX9_178_v (zls_c zfd_RX9_33 (zls_c zfd_RX9_171 (zls_c zc_RX9_181_v (zls_c zfd_RX9_33 (zls_c zfd_RX9_171 (zls_c zc_RX9_184_v (zls_c ⟨by decide, rfl, 187, 48, "skip is out of range", List.mem_of_getElem? (i := 935) (by decide +kernel), (zg_in 606 (by decide +kernel) (by decide +kernel)), (zg_in 117 (by decide +kernel) (by decide +kernel)), ztw_RX9_0_48, (by decide +kernel), Or.inl ⟨(by decide +kernel), (by decide +kernel), (by decide +kernel)⟩⟩ (zls_c znw_RX9_160 (zls_c zc_RX9_90_v (zls_c zc_RX9_94_v (zls_c zc_RX9_162_s (zls_c zfd_RX9_33 (zls_c zfd_RX9_171 (zls_c zc_RX9_189_v (zls_c zc_RX9_192_v (zls_c zc_RX9_167_v (zls_c zfd_RX9_33 (zls_c zc_RX9_40_v (zls_c zc_RX9_196_v zls_n))))))))))))))))))))
set_option maxRecDepth 100000 in
theorem zok_X9_insertColumn : zOK zX9_insertColumn := zok_of (by decide +kernel) (zls_c zc_RX9_178_v (zls_c zfd_RX9_33 (zls_c zfd_RX9_171 (zls_c zc_RX9_181_v (zls_c zfd_RX9_33 (zls_c zfd_RX9_171 (zls_c zc_RX9_184_v (zls_c zc_RX9_90_v (zls_c zc_RX9_199_v (zls_c ⟨by decide, rfl, 203, 59, "a line has 8 cells", List.mem_of_getElem? (i := 975) (by decide +kernel), (zg_in 678 (by decide +kernel) (by decide +kernel)), (zg_in 118 (by decide +kernel) (by decide +kernel)), ztw_RX9_1_59, (by decide +kernel), Or.inl ⟨(by decide +kernel), (by decide +kernel), (by decide +kernel)⟩⟩ (zls_c zfd_RX9_33 (zls_c zfd_RX9_171 (zls_c zc_RX9_189_v (zls_c zfd_RX9_26 (zls_c zc_RX9_77_v (zls_c zc_RX9_90_v (zls_c zc_RX9_103_v (zls_c zc_RX9_107_v (zls_c zfd_RX9_33 (zls_c zc_RX9_40_v zls_n))))))))))))))))))))
set_option maxRecDepth 100000 in
theorem zok_X9_removeColumn : zOK zX9_removeColumn := zok_of (by decide +kernel) (zls_c zc_RX9_178_v (zls_c zfd_RX9_33 (zls_c zfd_RX9_171 (zls_c zc_RX9_181_v (zls_c zfd_RX9_33 (zls_c zfd_RX9_171 (zls_c zc_RX9_184_v (zls_c zfd_RX9_33 (zls_c zfd_RX9_171 (zls_c zc_RX9_189_v (zls_c zfd_RX9_26 (zls_c zc_RX9_77_v (zls_c zc_RX9_90_v (zls_c zc_RX9_205_v (zls_c zc_RX9_90_v (zls_c zc_RX9_103_v (zls_c zc_RX9_90_v (zls_c zc_RX9_114_v (zls_c zc_RX9_133_v (zls_c zfd_RX9_33 (zls_c zc_RX9_40_v zls_n)))))))))))))))))))))
set_option maxRecDepth 100000 in
theorem zok_X9_retab : zOK zX9_retab := zok_of (by decide +kernel) (zls_c zc_RX9_152_v (zls_c ⟨by decide, rfl, 208, 48, "gap is out of range", List.mem_of_getElem? (i := 990) (by decide +kernel), (zg_in 606 (by decide +kernel) (by decide +kernel)), (zg_in 117 (by decide +kernel) (by decide +kernel)), ztw_RX9_0_48, (by decide +kernel), Or.inl ⟨(by decide +kernel), (by decide +kernel), (by decide +kernel)⟩⟩ (zls_c zc_RX9_90_v (zls_c zc_RX9_149_v (zls_c zc_RX9_90_v (zls_c zc_RX9_157_v (zls_c zfd_RX9_26 (zls_c zc_RX9_127_v (zls_c zc_RX9_210_v (zls_c zc_RX9_90_v (zls_c zc_RX9_111_v (zls_c ⟨by decide, rfl, 214, 59, "the line would have too many cells", List.mem_of_getElem? (i := 999) (by decide +kernel), (zg_in 678 (by decide +kernel) (by decide +kernel)), (zg_in 118 (by decide +kernel) (by decide +kernel)), ztw_RX9_1_59, (by decide +kernel), Or.inl ⟨(by decide +kernel), (by decide +kernel), (by decide +kernel)⟩⟩ (zls_c zfd_RX9_26 (zls_c zc_RX9_77_v (zls_c zc_RX9_216_v (zls_c zfd_RX9_33 (zls_c zc_RX9_40_v zls_n)))))))))))))))))
set_option maxRecDepth 100000 in
theorem zok_X9_undo : zOK zX9_undo := zok_of (by decide +kernel) (zls_c zfd_RX9_26 (zls_c zc_RX9_219_v (zls_c ⟨by decide, rfl, 222, 59, "nothing is kept for undo", List.mem_of_getElem? (i := 1013) (by decide +kernel), (zg_in 678 (by decide +kernel) (by decide +kernel)), (zg_in 118 (by decide +kernel) (by decide +kernel)), ztw_RX9_1_59, (by decide +kernel), Or.inl ⟨(by decide +kernel), (by decide +kernel), (by decide +kernel)⟩⟩ (zls_c zfd_RX9_26 (zls_c zc_RX9_224_v (zls_c zfd_RX9_33 (zls_c zc_RX9_40_v (zls_c zfd_RX9_26 (zls_c zc_RX9_219_v zls_n)))))))))
set_option maxRecDepth 100000 in
theorem zok_X9_redo : zOK zX9_redo := zok_of (by decide +kernel) (zls_c zfd_RX9_26 (zls_c zc_RX9_227_v (zls_c ⟨by decide, rfl, 230, 59, "nothing is kept for redo", List.mem_of_getElem? (i := 1029) (by decide +kernel), (zg_in 678 (by decide +kernel) (by decide +kernel)), (zg_in 118 (by decide +kernel) (by decide +kernel)), ztw_RX9_1_59, (by decide +kernel), Or.inl ⟨(by decide +kernel), (by decide +kernel), (by decide +kernel)⟩⟩ (zls_c zfd_RX9_26 (zls_c zc_RX9_232_v (zls_c zfd_RX9_33 (zls_c zc_RX9_40_v (zls_c zfd_RX9_26 (zls_c zc_RX9_227_v zls_n)))))))))
set_option maxRecDepth 100000 in
theorem zok_X9_setAlignment : zOK zX9_setAlignment := zok_of (by decide +kernel) (zls_c ⟨by decide, rfl, 235, 48, "no such column or alignment", List.mem_of_getElem? (i := 1041) (by decide +kernel), (zg_in 606 (by decide +kernel) (by decide +kernel)), (zg_in 117 (by decide +kernel) (by decide +kernel)), ztw_RX9_0_48, (by decide +kernel), Or.inl ⟨(by decide +kernel), (by decide +kernel), (by decide +kernel)⟩⟩ (zls_c zfd_RX9_19 (zls_c zc_RX9_237_v (zls_c zfd_RX9_33 (zls_c zc_RX9_40_v zls_n)))))
set_option maxRecDepth 100000 in
theorem zok_X9_setSpacing : zOK zX9_setSpacing := zok_of (by decide +kernel) (zls_c zfd_RX9_19 (zls_c zc_RX9_240_v (zls_c ⟨by decide, rfl, 243, 48, "no such spacing", List.mem_of_getElem? (i := 1058) (by decide +kernel), (zg_in 606 (by decide +kernel) (by decide +kernel)), (zg_in 117 (by decide +kernel) (by decide +kernel)), ztw_RX9_0_48, (by decide +kernel), Or.inl ⟨(by decide +kernel), (by decide +kernel), (by decide +kernel)⟩⟩ (zls_c zfd_RX9_19 (zls_c zc_RX9_245_v (zls_c zfd_RX9_33 (zls_c zc_RX9_40_v zls_n)))))))
set_option maxRecDepth 100000 in
theorem zok_X9_count : zOK zX9_count := zok_of (by decide +kernel) (zls_c ⟨by decide, rfl, 248, 48, "no such number", List.mem_of_getElem? (i := 1070) (by decide +kernel), (zg_in 606 (by decide +kernel) (by decide +kernel)), (zg_in 117 (by decide +kernel) (by decide +kernel)), ztw_RX9_0_48, (by decide +kernel), Or.inl ⟨(by decide +kernel), (by decide +kernel), (by decide +kernel)⟩⟩ (zls_c zc_RX9_250_v zls_n))
set_option maxRecDepth 100000 in
theorem zok_X9_line : zOK zX9_line := zok_of (by decide +kernel) (zls_c zc_RX9_152_v (zls_c ⟨by decide, rfl, 253, 48, "no such property", List.mem_of_getElem? (i := 1078) (by decide +kernel), (zg_in 606 (by decide +kernel) (by decide +kernel)), (zg_in 117 (by decide +kernel) (by decide +kernel)), ztw_RX9_0_48, (by decide +kernel), Or.inl ⟨(by decide +kernel), (by decide +kernel), (by decide +kernel)⟩⟩ (zls_c zfd_RX9_33 (zls_c zc_RX9_255_v zls_n))))
set_option maxRecDepth 100000 in
theorem zok_X9_cell : zOK zX9_cell := zok_of (by decide +kernel) (zls_c zc_RX9_136_v (zls_c ⟨by decide, rfl, 253, 48, "no such property", List.mem_of_getElem? (i := 1078) (by decide +kernel), (zg_in 606 (by decide +kernel) (by decide +kernel)), (zg_in 117 (by decide +kernel) (by decide +kernel)), ztw_RX9_0_48, (by decide +kernel), Or.inl ⟨(by decide +kernel), (by decide +kernel), (by decide +kernel)⟩⟩ (zls_c zfd_RX9_33 (zls_c zfd_RX9_19 (zls_c zc_RX9_258_v zls_n)))))
set_option maxRecDepth 100000 in
theorem zok_X9_letter : zOK zX9_letter := zok_of (by decide +kernel) (zls_c zc_RX9_136_v (zls_c zc_RX9_90_v (zls_c zc_RX9_114_v (zls_c ⟨by decide, rfl, 262, 143, "no sign behind this offset", List.mem_of_getElem? (i := 1093) (by decide +kernel), (zg_in 790 (by decide +kernel) (by decide +kernel)), (zg_in 120 (by decide +kernel) (by decide +kernel)), ztw_RX9_2_143, (by decide +kernel), Or.inr ⟨(by decide +kernel), (by decide +kernel), (by decide +kernel)⟩⟩ (zls_c zc_RX9_264_v zls_n)))))
set_option maxRecDepth 100000 in
theorem zok_X9_shown : zOK zX9_shown := zok_of (by decide +kernel) (zls_c zc_RX9_267_v (zls_c zfd_RX9_33 (zls_c zc_RX9_270_v (zls_c zfd_RX9_33 (zls_c zc_RX9_273_v (zls_c zfd_RX9_33 (zls_c zfd_RX9_19 (zls_c zc_RX9_276_v (zls_c zc_RX9_90_v (zls_c zc_RX9_114_v (zls_c zc_RX9_264_v zls_n)))))))))))
set_option maxRecDepth 100000 in
theorem zok_X9_hit : zOK zX9_hit := zok_of (by decide +kernel) (zls_c zc_RX9_267_v (zls_c zfd_RX9_33 (zls_c zc_RX9_270_v zls_n)))
set_option maxRecDepth 100000 in
theorem zok_X9_find : zOK zX9_find := zok_of (by decide +kernel) (zls_c zc_RX9_136_v (zls_c zc_RX9_73_v (zls_c zc_RX9_90_v (zls_c zc_RX9_94_v (zls_c zc_RX9_90_v (zls_c zc_RX9_111_v (zls_c zc_RX9_280_v zls_n)))))))
set_option maxRecDepth 100000 in
theorem zok_X9_block : zOK zX9_block := zok_of (by decide +kernel) (zls_c zc_RX9_178_v (zls_c ⟨by decide, rfl, 253, 48, "no such property", List.mem_of_getElem? (i := 1078) (by decide +kernel), (zg_in 606 (by decide +kernel) (by decide +kernel)), (zg_in 117 (by decide +kernel) (by decide +kernel)), ztw_RX9_0_48, (by decide +kernel), Or.inl ⟨(by decide +kernel), (by decide +kernel), (by decide +kernel)⟩⟩ (zls_c zfd_RX9_33 (zls_c zfd_RX9_171 (zls_c zc_RX9_283_v zls_n)))))
set_option maxRecDepth 100000 in
theorem zok_X9_sum : zOK zX9_sum := zok_of (by decide +kernel) (zls_c zc_RX9_178_v (zls_c zfd_RX9_33 (zls_c zfd_RX9_171 (zls_c zc_RX9_286_v zls_n))))
set_option maxRecDepth 100000 in
theorem zok_X9_mean : zOK zX9_mean := zok_of (by decide +kernel) (zls_c zc_RX9_178_v (zls_c zfd_RX9_33 (zls_c zfd_RX9_171 (zls_c zc_RX9_290_v (zls_c zfd_RX9_33 (zls_c zfd_RX9_171 (zls_c zc_RX9_286_v zls_n)))))))
set_option maxRecDepth 100000 in
theorem zok_X9_touched : zOK zX9_touched := zok_of (by decide +kernel) (zls_c zc_RX9_152_v (zls_c zfd_RX9_33 (zls_c zfd_RX9_171 (zls_c zc_RX9_293_v zls_n))))
set_option maxRecDepth 100000 in
theorem zok_X9_ifTyped : zOK zX9_ifTyped := zok_of (by decide +kernel) (zls_c zc_RX9_99_v (zls_c zc_RX9_90_v (zls_c zc_RX9_103_v (zls_c zfd_RX9_26 (zls_c zc_RX9_127_v (zls_c zc_RX9_107_v (zls_c zfd_RX9_37 (zls_c zc_RX9_40_v (zls_c zfd_RX9_26 (zls_c zc_RX9_127_v (zls_c zc_RX9_133_v (zls_c zfd_RX9_33 (zls_c zfd_RX9_37 (zls_c zc_RX9_296_v zls_n))))))))))))))
set_option maxRecDepth 100000 in
theorem zok_X9_digest : zOK zX9_digest := zok_of (by decide +kernel) (zls_c (zg_in 470 (by decide +kernel) (by decide +kernel)) (zls_c zc_RX9_250_v (zls_c zc_RX9_302_s (zls_c zfd_RX9_19 (zls_c zc_RX9_306_v (zls_c zc_RX9_90_v (zls_c zc_RX9_94_v (zls_c zc_RX9_310_v (zls_c zfd_RX9_33 (zls_c zfd_RX9_171 (zls_c zc_RX9_314_v (zls_c zfd_RX9_12 (zls_c zc_RX9_315_v zls_n)))))))))))))
set_option maxRecDepth 100000 in
theorem zok_X9_cells : zOK zX9_cells := zok_of (by decide +kernel) (zls_c zfd_RX9_33 (zls_c zfd_RX9_316 zls_n))
set_option maxRecDepth 100000 in
theorem zok_X9_measure : zOK zX9_measure := zok_of (by decide +kernel) (zls_c zfd_RX9_316 (zls_c zfd_RX9_26 (zls_c zc_RX9_127_v (zls_c zc_RX9_319_v (zls_c zfd_RX9_171 (zls_c zfd_RX9_316 (zls_c zfd_RX9_19 (zls_c zc_RX9_323_v (zls_c zc_RX9_327_v zls_n)))))))))
set_option maxRecDepth 100000 in
theorem zok_X9_requireLine : zOK zX9_requireLine := zok_of (by decide +kernel) (zls_c zc_RX9_90_v (zls_c zc_RX9_330_v (zls_c ⟨by decide, rfl, 334, 143, "no such line", List.mem_of_getElem? (i := 872) (by decide +kernel), (zg_in 790 (by decide +kernel) (by decide +kernel)), (zg_in 120 (by decide +kernel) (by decide +kernel)), ztw_RX9_2_143, (by decide +kernel), Or.inr ⟨(by decide +kernel), (by decide +kernel), (by decide +kernel)⟩⟩ zls_n)))
set_option maxRecDepth 100000 in
theorem zok_X9_requireCell : zOK zX9_requireCell := zok_of (by decide +kernel) (zls_c zc_RX9_90_v (zls_c zc_RX9_336_v (zls_c ⟨by decide, rfl, 339, 143, "no such line or cell", List.mem_of_getElem? (i := 799) (by decide +kernel), (zg_in 790 (by decide +kernel) (by decide +kernel)), (zg_in 120 (by decide +kernel) (by decide +kernel)), ztw_RX9_2_143, (by decide +kernel), Or.inr ⟨(by decide +kernel), (by decide +kernel), (by decide +kernel)⟩⟩ zls_n)))
set_option maxRecDepth 100000 in
theorem zok_X9_requireOffset : zOK zX9_requireOffset := zok_of (by decide +kernel) (zls_c zc_RX9_136_v (zls_c zc_RX9_90_v (zls_c zc_RX9_114_v (zls_c ⟨by decide, rfl, 341, 143, "no such offset", List.mem_of_getElem? (i := 806) (by decide +kernel), (zg_in 790 (by decide +kernel) (by decide +kernel)), (zg_in 120 (by decide +kernel) (by decide +kernel)), ztw_RX9_2_143, (by decide +kernel), Or.inr ⟨(by decide +kernel), (by decide +kernel), (by decide +kernel)⟩⟩ zls_n))))
set_option maxRecDepth 100000 in
theorem zok_X9_requireTypable : zOK zX9_requireTypable := zok_of (by decide +kernel) (zls_c zc_RX9_117_v (zls_c zc_RX9_343_s (zls_c ⟨by decide, rfl, 346, 48, "neither a sign nor a tab nor a line end", List.mem_of_getElem? (i := 808) (by decide +kernel), (zg_in 606 (by decide +kernel) (by decide +kernel)), (zg_in 117 (by decide +kernel) (by decide +kernel)), ztw_RX9_0_48, (by decide +kernel), Or.inr ⟨(by decide +kernel), (by decide +kernel), (by decide +kernel)⟩⟩ (zls_c zc_RX9_90_v (zls_c zc_RX9_348_v (zls_c ⟨by decide, rfl, 351, 59, "the cell, the line or the text is full", List.mem_of_getElem? (i := 813) (by decide +kernel), (zg_in 678 (by decide +kernel) (by decide +kernel)), (zg_in 118 (by decide +kernel) (by decide +kernel)), ztw_RX9_1_59, (by decide +kernel), Or.inr ⟨(by decide +kernel), (by decide +kernel), (by decide +kernel)⟩⟩ zls_n))))))
set_option maxRecDepth 100000 in
theorem zok_X9_requireShownPlace : zOK zX9_requireShownPlace := zok_of (by decide +kernel) (zls_c zc_RX9_152_v (zls_c ⟨by decide, rfl, 353, 143, "no such column", List.mem_of_getElem? (i := 1105) (by decide +kernel), (zg_in 790 (by decide +kernel) (by decide +kernel)), (zg_in 120 (by decide +kernel) (by decide +kernel)), ztw_RX9_2_143, (by decide +kernel), Or.inr ⟨(by decide +kernel), (by decide +kernel), (by decide +kernel)⟩⟩ zls_n))
set_option maxRecDepth 100000 in
theorem zok_X9_requireBlock : zOK zX9_requireBlock := zok_of (by decide +kernel) (zls_c zfd_RX9_33 (zls_c zfd_RX9_171 (zls_c zc_RX9_175_v (zls_c ⟨by decide, rfl, 355, 143, "no such block", List.mem_of_getElem? (i := 932) (by decide +kernel), (zg_in 790 (by decide +kernel) (by decide +kernel)), (zg_in 120 (by decide +kernel) (by decide +kernel)), ztw_RX9_2_143, (by decide +kernel), Or.inr ⟨(by decide +kernel), (by decide +kernel), (by decide +kernel)⟩⟩ zls_n))))
set_option maxRecDepth 100000 in
theorem zok_X9_requireInput : zOK zX9_requireInput := zok_of (by decide +kernel) (zls_c zfd_RX9_12 (zls_c zc_RX9_70_v (zls_c zfd_RX9_12 (zls_c zc_RX9_357_v (zls_c ⟨by decide, rfl, 359, 59, "the buffer has a syntax error", List.mem_of_getElem? (i := 729) (by decide +kernel), (zg_in 678 (by decide +kernel) (by decide +kernel)), (zg_in 118 (by decide +kernel) (by decide +kernel)), ztw_RX9_1_59, (by decide +kernel), Or.inr ⟨(by decide +kernel), (by decide +kernel), (by decide +kernel)⟩⟩ zls_n)))))
set_option maxRecDepth 100000 in
theorem zok_X9_signAt : zOK zX9_signAt := zok_of (by decide +kernel) (zls_c zfd_RX9_26 (zls_c zc_RX9_127_v (zls_c zc_RX9_90_v (zls_c zc_RX9_103_v (zls_c zc_RX9_130_v zls_n)))))
set_option maxRecDepth 100000 in
theorem zok_X9_equalsInput : zOK zX9_equalsInput := zok_of (by decide +kernel) (zls_c zc_RX9_90_v (zls_c zc_RX9_114_v (zls_c zfd_RX9_12 (zls_c zc_RX9_357_v (zls_c zfd_RX9_12 (zls_c zc_RX9_357_v (zls_c zc_RX9_264_v (zls_c zfd_RX9_12 (zls_c zc_RX9_361_v zls_n)))))))))
set_option maxRecDepth 100000 in
theorem zok_X9_arrange : zOK zX9_arrange := zok_of (by decide +kernel) (zls_c zfd_RX9_26 (zls_c zc_RX9_127_v (zls_c zfd_RX9_26 (zls_c zc_RX9_77_v (zls_c zc_RX9_81_v (zls_c zc_RX9_90_v (zls_c zc_RX9_94_v (zls_c zc_RX9_362_v (zls_c zc_RX9_365_v (zls_c zc_RX9_90_v (zls_c zc_RX9_149_v (zls_c zc_RX9_90_v (zls_c zc_RX9_157_v (zls_c zc_RX9_367_v zls_n))))))))))))))
set_option maxRecDepth 100000 in
theorem zok_X9_sortLines : zOK zX9_sortLines := zok_of (by decide +kernel) (zls_c zc_RX9_362_v (zls_c zc_RX9_362_v (zls_c zc_RX9_371_v (zls_c zc_RX9_164_v zls_n))))
set_option maxRecDepth 100000 in
theorem zok_X9_comesBefore : zOK zX9_comesBefore := zok_of (by decide +kernel) (zls_c zc_RX9_90_v (zls_c zc_RX9_205_v (zls_c zc_RX9_90_v (zls_c zc_RX9_205_v (zls_c zc_RX9_375_s (zls_c zc_RX9_375_s (zls_c zc_RX9_90_v (zls_c zc_RX9_378_v (zls_c zc_RX9_90_v (zls_c zc_RX9_378_v (zls_c zc_RX9_382_s (zls_c zc_RX9_388_v zls_n))))))))))))
set_option maxRecDepth 100000 in
theorem zok_X9_sortRank : zOK zX9_sortRank := zok_of (by decide +kernel) zls_n
set_option maxRecDepth 100000 in
theorem zok_X9_compareWords : zOK zX9_compareWords := zok_of (by decide +kernel) (zls_c zc_RX9_90_v (zls_c zc_RX9_114_v (zls_c zc_RX9_90_v (zls_c zc_RX9_114_v (zls_c zc_RX9_264_v (zls_c zc_RX9_264_v (zls_c zc_RX9_391_s (zls_c zc_RX9_391_s zls_n))))))))
set_option maxRecDepth 100000 in
theorem zok_X9_countFact : zOK zX9_countFact := zok_of (by decide +kernel) (zls_c zc_RX9_90_v (zls_c zc_RX9_94_v (zls_c zc_RX9_90_v (zls_c zc_RX9_395_v (zls_c zc_RX9_90_v (zls_c zc_RX9_398_v (zls_c zfd_RX9_33 (zls_c zfd_RX9_171 (zls_c zc_RX9_175_v (zls_c zc_RX9_90_v (zls_c zc_RX9_401_v (zls_c zc_RX9_90_v (zls_c zc_RX9_401_v (zls_c zfd_RX9_33 (zls_c zc_RX9_404_v (zls_c zfd_RX9_26 (zls_c zc_RX9_219_v (zls_c zfd_RX9_26 (zls_c zc_RX9_227_v zls_n)))))))))))))))))))
set_option maxRecDepth 100000 in
theorem zok_X9_mixLine : zOK zX9_mixLine := zok_of (by decide +kernel) (zls_c zfd_RX9_33 (zls_c zc_RX9_255_v (zls_c zc_RX9_302_s (zls_c zc_RX9_90_v (zls_c zc_RX9_111_v (zls_c zfd_RX9_33 (zls_c zfd_RX9_19 (zls_c zc_RX9_258_v (zls_c zc_RX9_302_s (zls_c zc_RX9_90_v (zls_c zc_RX9_114_v (zls_c zc_RX9_264_v (zls_c zc_RX9_302_s zls_n)))))))))))))
set_option maxRecDepth 100000 in
theorem zok_X9_mix : zOK zX9_mix := zok_of (by decide +kernel) (zls_c (zg_in 526 (by decide +kernel) (by decide +kernel)) zls_n)
set_option maxRecDepth 100000 in
theorem zok_X9_isSign : zOK zX9_isSign := zok_of (by decide +kernel) (zls_c zc_RX9_409_s zls_n)
set_option maxRecDepth 100000 in
theorem zok_X9_isDigit : zOK zX9_isDigit := zok_of (by decide +kernel) zls_n
set_option maxRecDepth 100000 in
theorem zok_X10_init : zOK zX10_init := zok_of (by decide +kernel) (zls_c (zg_in 1188 (by decide +kernel) (by decide +kernel)) (zls_c zpt_RX10_7i (zls_c zpt_RX10_13i (zls_c (zg_in 1189 (by decide +kernel) (by decide +kernel)) (zls_c zpt_RX10_17i (zls_c (zg_in 1189 (by decide +kernel) (by decide +kernel)) (zls_c zpt_RX10_20i (zls_c zpt_RX10_23i (zls_c zpt_RX10_26i (zls_c zpt_RX10_30i (zls_c zpt_RX10_33i (zls_c zpt_RX10_36i (zls_c zpt_RX10_39i (zls_c zpt_RX10_42i (zls_c zpt_RX10_45i (zls_c zpt_RX10_48i (zls_c zpt_RX10_51i (zls_c zpt_RX10_54i (zls_c zpt_RX10_57i (zls_c zpt_RX10_60i (zls_c zfd_RX10_7 (zls_c zfd_RX10_7 (zls_c zfd_RX10_23 zls_n)))))))))))))))))))))))
set_option maxRecDepth 100000 in
theorem zok_X10_thrown : zOK zX10_thrown := zok_of (by decide +kernel) (zls_c zfd_RX10_63 zls_n)
set_option maxRecDepth 100000 in
theorem zok_X10_within : zOK zX10_within := zok_of (by decide +kernel) zls_n
set_option maxRecDepth 100000 in
theorem zok_X10_cells : zOK zX10_cells := zok_of (by decide +kernel) (zls_c zfd_RX10_7 zls_n)
set_option maxRecDepth 100000 in
theorem zok_X10_lengthOf : zOK zX10_lengthOf := zok_of (by decide +kernel) (zls_c zfd_RX10_7 zls_n)
set_option maxRecDepth 100000 in
theorem zok_X10_setLength : zOK zX10_setLength := zok_of (by decide +kernel) (zls_c zfd_RX10_7 zls_n)
set_option maxRecDepth 100000 in
theorem zok_X10_place : zOK zX10_place := zok_of (by decide +kernel) zls_n
set_option maxRecDepth 100000 in
theorem zok_X10_signOf : zOK zX10_signOf := zok_of (by decide +kernel) (zls_c zfd_RX10_7 (zls_c zc_RX10_66_s zls_n))
set_option maxRecDepth 100000 in
theorem zok_X10_isLine : zOK zX10_isLine := zok_of (by decide +kernel) (zls_c zfd_RX10_7 (zls_c zc_RX10_70_s zls_n))
set_option maxRecDepth 100000 in
theorem zok_X10_isCell : zOK zX10_isCell := zok_of (by decide +kernel) (zls_c zc_RX10_74_v (zls_c zc_RX10_78_v (zls_c zc_RX10_70_s zls_n)))
set_option maxRecDepth 100000 in
theorem zok_X10_isPlace : zOK zX10_isPlace := zok_of (by decide +kernel) (zls_c zc_RX10_82_v (zls_c zc_RX10_86_v (zls_c zc_RX10_70_s zls_n)))
set_option maxRecDepth 100000 in
theorem zok_X10_copyCell : zOK zX10_copyCell := zok_of (by decide +kernel) (zls_c zc_RX10_86_v (zls_c zc_RX10_90_v (zls_c zfd_RX10_7 (zls_c zc_RX10_66_s (zls_c zc_RX10_94_v zls_n)))))
set_option maxRecDepth 100000 in
theorem zok_X10_copyLine : zOK zX10_copyLine := zok_of (by decide +kernel) (zls_c zfd_RX10_7 (zls_c zc_RX10_78_v (zls_c zc_RX10_97_v zls_n)))
set_option maxRecDepth 100000 in
theorem zok_X10_openLine : zOK zX10_openLine := zok_of (by decide +kernel) (zls_c zfd_RX10_7 (zls_c zc_RX10_101_v (zls_c zfd_RX10_7 (zls_c zfd_RX10_7 (zls_c zc_RX10_90_v zls_n)))))
set_option maxRecDepth 100000 in
theorem zok_X10_closeLine : zOK zX10_closeLine := zok_of (by decide +kernel) (zls_c zfd_RX10_7 (zls_c zc_RX10_101_v (zls_c zfd_RX10_7 zls_n)))
set_option maxRecDepth 100000 in
theorem zok_X10_openCell : zOK zX10_openCell := zok_of (by decide +kernel) (zls_c zc_RX10_78_v (zls_c zc_RX10_97_v (zls_c zfd_RX10_7 (zls_c zc_RX10_90_v zls_n))))
set_option maxRecDepth 100000 in
theorem zok_X10_closeCell : zOK zX10_closeCell := zok_of (by decide +kernel) (zls_c zc_RX10_78_v (zls_c zc_RX10_97_v (zls_c zfd_RX10_7 zls_n)))
set_option maxRecDepth 100000 in
theorem zok_X10_giveTail : zOK zX10_giveTail := zok_of (by decide +kernel) (zls_c zc_RX10_86_v (zls_c zc_RX10_86_v (zls_c zfd_RX10_7 (zls_c zc_RX10_66_s (zls_c zc_RX10_94_v (zls_c zc_RX10_90_v (zls_c zc_RX10_90_v zls_n)))))))
set_option maxRecDepth 100000 in
theorem zok_X10_save : zOK zX10_save := zok_of (by decide +kernel) (zls_c zfd_RX10_105 (zls_c (zg_in 1189 (by decide +kernel) (by decide +kernel)) (zls_c zfd_RX10_17 (zls_c zfd_RX10_17 (zls_c zfd_RX10_105 (zls_c zpt_RX10_105 (zls_c zfd_RX10_17 (zls_c zfd_RX10_105 (zls_c zfd_RX10_7 (zls_c zfd_RX10_105 (zls_c zpt_RX10_105 (zls_c zpt_RX10_108 zls_n))))))))))))
set_option maxRecDepth 100000 in
theorem zok_X10_undo : zOK zX10_undo := zok_of (by decide +kernel) (zls_c zfd_RX10_105 (zls_c zpt_RX10_63 (zls_c zfd_RX10_63 (zls_c zfd_RX10_105 (zls_c zpt_RX10_105 (zls_c zfd_RX10_20 (zls_c zfd_RX10_108 (zls_c zfd_RX10_7 (zls_c zfd_RX10_7 (zls_c zfd_RX10_17 (zls_c zfd_RX10_105 (zls_c zfd_RX10_108 (zls_c zpt_RX10_108 (zls_c zfd_RX10_105 zls_n))))))))))))))
set_option maxRecDepth 100000 in
theorem zok_X10_redo : zOK zX10_redo := zok_of (by decide +kernel) (zls_c zfd_RX10_108 (zls_c zpt_RX10_63 (zls_c zfd_RX10_63 (zls_c zfd_RX10_108 (zls_c zpt_RX10_108 (zls_c zfd_RX10_17 (zls_c zfd_RX10_105 (zls_c zfd_RX10_7 (zls_c zfd_RX10_7 (zls_c zfd_RX10_20 (zls_c zfd_RX10_108 (zls_c zfd_RX10_105 (zls_c zpt_RX10_105 (zls_c zfd_RX10_108 zls_n))))))))))))))
set_option maxRecDepth 100000 in
theorem zok_X10_append : zOK zX10_append := zok_of (by decide +kernel) (zls_c zc_RX10_70_s (zls_c zfd_RX10_111 (zls_c zpt_RX10_63 (zls_c zfd_RX10_63 (zls_c zfd_RX10_33 (zls_c zfd_RX10_111 (zls_c zfd_RX10_111 (zls_c zpt_RX10_111 (zls_c zfd_RX10_111 zls_n)))))))))
set_option maxRecDepth 100000 in
theorem zok_X10_clearInput : zOK zX10_clearInput := zok_of (by decide +kernel) (zls_c zpt_RX10_63 (zls_c zfd_RX10_111 (zls_c zpt_RX10_111 zls_n)))
set_option maxRecDepth 100000 in
theorem zok_X10_isFigure : zOK zX10_isFigure := zok_of (by decide +kernel) (zls_c zc_RX10_70_s zls_n)
set_option maxRecDepth 100000 in
theorem zok_X10_isSign : zOK zX10_isSign := zok_of (by decide +kernel) (zls_c zc_RX10_70_s (zls_c zc_RX10_70_s (zls_c zc_RX10_114_s zls_n)))
set_option maxRecDepth 100000 in
theorem zok_X10_rightLength : zOK zX10_rightLength := zok_of (by decide +kernel) (zls_c zfd_RX10_111 (zls_c zfd_RX10_33 (zls_c zc_RX10_117_s zls_n)))
set_option maxRecDepth 100000 in
theorem zok_X10_isRight : zOK zX10_isRight := zok_of (by decide +kernel) (zls_c zc_RX10_120_v (zls_c zfd_RX10_111 zls_n))
set_option maxRecDepth 100000 in
theorem zok_X10_firstError : zOK zX10_firstError := zok_of (by decide +kernel) (zls_c zc_RX10_70_s (zls_c zpt_RX10_63 (zls_c zfd_RX10_63 (zls_c zc_RX10_120_v zls_n))))
set_option maxRecDepth 100000 in
theorem zok_X10_layBuffer : zOK zX10_layBuffer := zok_of (by decide +kernel) (zls_c zfd_RX10_111 (zls_c zc_RX10_78_v (zls_c zfd_RX10_33 (zls_c zfd_RX10_7 (zls_c zc_RX10_90_v (zls_c zfd_RX10_33 (zls_c zfd_RX10_7 (zls_c zfd_RX10_7 (zls_c zc_RX10_90_v (zls_c zfd_RX10_7 (zls_c zc_RX10_86_v (zls_c zc_RX10_66_s (zls_c zfd_RX10_33 (zls_c zc_RX10_86_v (zls_c zc_RX10_90_v (zls_c zpt_RX10_111 zls_n))))))))))))))))
set_option maxRecDepth 100000 in
theorem zok_X10_load : zOK zX10_load := zok_of (by decide +kernel) (zls_c zc_RX10_123_v (zls_c zpt_RX10_63 (zls_c zfd_RX10_63 (zls_c zc_RX10_126_v (zls_c zfd_RX10_7 (zls_c zfd_RX10_7 (zls_c zc_RX10_90_v (zls_c zc_RX10_129_v (zls_c zfd_RX10_7 zls_n)))))))))
set_option maxRecDepth 100000 in
theorem zok_X10_isCode : zOK zX10_isCode := zok_of (by decide +kernel) (zls_c zc_RX10_117_s zls_n)
set_option maxRecDepth 100000 in
theorem zok_X10_typing : zOK zX10_typing := zok_of (by decide +kernel) (zls_c zc_RX10_133_v (zls_c zc_RX10_136_v (zls_c zc_RX10_78_v (zls_c zfd_RX10_7 (zls_c zc_RX10_86_v zls_n)))))
set_option maxRecDepth 100000 in
theorem zok_X10_putSign : zOK zX10_putSign := zok_of (by decide +kernel) (zls_c zc_RX10_86_v (zls_c zfd_RX10_7 (zls_c zc_RX10_66_s (zls_c zc_RX10_94_v (zls_c zfd_RX10_7 (zls_c zc_RX10_66_s (zls_c zc_RX10_86_v (zls_c zc_RX10_90_v (zls_c zc_RX10_86_v zls_n)))))))))
set_option maxRecDepth 100000 in
theorem zok_X10_putTab : zOK zX10_putTab := zok_of (by decide +kernel) (zls_c zc_RX10_139_v (zls_c zc_RX10_142_v (zls_c zc_RX10_78_v zls_n)))
set_option maxRecDepth 100000 in
theorem zok_X10_putEnd : zOK zX10_putEnd := zok_of (by decide +kernel) (zls_c zc_RX10_146_v (zls_c zc_RX10_142_v (zls_c zc_RX10_78_v (zls_c zc_RX10_97_v (zls_c zfd_RX10_7 (zls_c zc_RX10_78_v (zls_c zfd_RX10_7 (zls_c zfd_RX10_7 zls_n))))))))
set_option maxRecDepth 100000 in
theorem zok_X10_put : zOK zX10_put := zok_of (by decide +kernel) (zls_c zc_RX10_149_v (zls_c zc_RX10_152_v (zls_c zc_RX10_155_v zls_n)))
set_option maxRecDepth 100000 in
theorem zok_X10_type : zOK zX10_type := zok_of (by decide +kernel) (zls_c zc_RX10_159_v (zls_c zpt_RX10_63 (zls_c zfd_RX10_63 (zls_c zc_RX10_126_v (zls_c zc_RX10_162_v zls_n)))))
set_option maxRecDepth 100000 in
theorem zok_X10_behind : zOK zX10_behind := zok_of (by decide +kernel) (zls_c zc_RX10_86_v (zls_c zc_RX10_94_v (zls_c zc_RX10_78_v (zls_c zfd_RX10_7 zls_n))))
set_option maxRecDepth 100000 in
theorem zok_X10_mayErase : zOK zX10_mayErase := zok_of (by decide +kernel) (zls_c zc_RX10_86_v (zls_c zc_RX10_86_v (zls_c zc_RX10_86_v (zls_c zc_RX10_86_v (zls_c zc_RX10_78_v (zls_c zc_RX10_78_v zls_n))))))
set_option maxRecDepth 100000 in
theorem zok_X10_takeSign : zOK zX10_takeSign := zok_of (by decide +kernel) (zls_c zc_RX10_86_v (zls_c zfd_RX10_7 (zls_c zc_RX10_66_s (zls_c zc_RX10_94_v (zls_c zc_RX10_86_v (zls_c zc_RX10_90_v zls_n))))))
set_option maxRecDepth 100000 in
theorem zok_X10_takeEnd : zOK zX10_takeEnd := zok_of (by decide +kernel) (zls_c zc_RX10_142_v (zls_c zc_RX10_78_v (zls_c zc_RX10_97_v (zls_c zfd_RX10_7 (zls_c zc_RX10_78_v (zls_c zc_RX10_165_v zls_n))))))
set_option maxRecDepth 100000 in
theorem zok_X10_erase : zOK zX10_erase := zok_of (by decide +kernel) (zls_c zc_RX10_133_v (zls_c zc_RX10_168_v (zls_c zc_RX10_171_v (zls_c zpt_RX10_63 (zls_c zfd_RX10_63 (zls_c zc_RX10_126_v (zls_c zc_RX10_142_v (zls_c zc_RX10_174_v (zls_c zc_RX10_177_v (zls_c zc_RX10_180_v zls_n))))))))))
set_option maxRecDepth 100000 in
theorem zok_X10_setCell : zOK zX10_setCell := zok_of (by decide +kernel) (zls_c zc_RX10_82_v (zls_c zc_RX10_123_v (zls_c zpt_RX10_63 (zls_c zfd_RX10_63 (zls_c zc_RX10_126_v (zls_c zc_RX10_86_v (zls_c zfd_RX10_111 (zls_c zfd_RX10_7 (zls_c zc_RX10_66_s (zls_c zfd_RX10_33 (zls_c zfd_RX10_111 (zls_c zc_RX10_90_v (zls_c zpt_RX10_111 zls_n)))))))))))))
set_option maxRecDepth 100000 in
theorem zok_X10_insertLine : zOK zX10_insertLine := zok_of (by decide +kernel) (zls_c zfd_RX10_7 (zls_c zc_RX10_70_s (zls_c zc_RX10_123_v (zls_c zfd_RX10_7 (zls_c zpt_RX10_63 (zls_c zfd_RX10_63 (zls_c zc_RX10_126_v (zls_c zc_RX10_146_v (zls_c zc_RX10_129_v (zls_c zfd_RX10_7 zls_n))))))))))
set_option maxRecDepth 100000 in
theorem zok_X10_removeLine : zOK zX10_removeLine := zok_of (by decide +kernel) (zls_c zc_RX10_74_v (zls_c zfd_RX10_7 (zls_c zpt_RX10_63 (zls_c zfd_RX10_63 (zls_c zc_RX10_126_v (zls_c zc_RX10_165_v (zls_c zfd_RX10_7 zls_n)))))))
set_option maxRecDepth 100000 in
theorem zok_X10_setAside : zOK zX10_setAside := zok_of (by decide +kernel) (zls_c zfd_RX10_13 (zls_c zfd_RX10_7 zls_n))
set_option maxRecDepth 100000 in
theorem zok_X10_takeAside : zOK zX10_takeAside := zok_of (by decide +kernel) (zls_c zfd_RX10_7 (zls_c zfd_RX10_13 (zls_c zfd_RX10_7 (zls_c zfd_RX10_13 (zls_c zfd_RX10_7 (zls_c zc_RX10_66_s (zls_c zfd_RX10_13 (zls_c zc_RX10_66_s zls_n))))))))
set_option maxRecDepth 100000 in
theorem zok_X10_moveLine : zOK zX10_moveLine := zok_of (by decide +kernel) (zls_c zc_RX10_74_v (zls_c zc_RX10_74_v (zls_c zpt_RX10_63 (zls_c zfd_RX10_63 (zls_c zc_RX10_126_v (zls_c zc_RX10_183_v (zls_c zc_RX10_165_v (zls_c zc_RX10_146_v (zls_c zc_RX10_186_v (zls_c zc_RX10_189_v zls_n))))))))))
set_option maxRecDepth 100000 in
theorem zok_X10_isBlank : zOK zX10_isBlank := zok_of (by decide +kernel) (zls_c zc_RX10_86_v (zls_c zc_RX10_94_v zls_n))
set_option maxRecDepth 100000 in
theorem zok_X10_figuresFrom : zOK zX10_figuresFrom := zok_of (by decide +kernel) (zls_c zc_RX10_86_v (zls_c zc_RX10_94_v (zls_c zc_RX10_114_s zls_n)))
set_option maxRecDepth 100000 in
theorem zok_X10_isNumber : zOK zX10_isNumber := zok_of (by decide +kernel) (zls_c zc_RX10_86_v (zls_c zc_RX10_94_v (zls_c zc_RX10_193_v (zls_c zc_RX10_70_s (zls_c zc_RX10_86_v (zls_c zc_RX10_70_s (zls_c zc_RX10_193_v (zls_c zc_RX10_94_v (zls_c zc_RX10_70_s (zls_c zc_RX10_86_v zls_n))))))))))
set_option maxRecDepth 100000 in
theorem zok_X10_kindOf : zOK zX10_kindOf := zok_of (by decide +kernel) (zls_c zc_RX10_196_v (zls_c zc_RX10_199_v zls_n))
set_option maxRecDepth 100000 in
theorem zok_X10_wholeLength : zOK zX10_wholeLength := zok_of (by decide +kernel) (zls_c zc_RX10_86_v (zls_c zc_RX10_94_v zls_n))
set_option maxRecDepth 100000 in
theorem zok_X10_partLength : zOK zX10_partLength := zok_of (by decide +kernel) (zls_c zc_RX10_86_v (zls_c zc_RX10_202_v zls_n))
set_option maxRecDepth 100000 in
theorem zok_X10_valueOf : zOK zX10_valueOf := zok_of (by decide +kernel) (zls_c zc_RX10_86_v (zls_c zc_RX10_94_v (zls_c zc_RX10_114_s (zls_c (zg_in 1514 (by decide +kernel) (by decide +kernel)) (zls_c (zg_in 1515 (by decide +kernel) (by decide +kernel)) (zls_c zc_RX10_114_s (zls_c (zg_in 1514 (by decide +kernel) (by decide +kernel)) (zls_c zc_RX10_94_v zls_n))))))))
set_option maxRecDepth 100000 in
theorem zok_X10_isEnded : zOK zX10_isEnded := zok_of (by decide +kernel) (zls_c zc_RX10_74_v (zls_c zc_RX10_78_v zls_n))
set_option maxRecDepth 100000 in
theorem zok_X10_numbersIn : zOK zX10_numbersIn := zok_of (by decide +kernel) (zls_c zfd_RX10_39 (zls_c zfd_RX10_42 (zls_c zfd_RX10_36 (zls_c zc_RX10_209_v zls_n))))
set_option maxRecDepth 100000 in
theorem zok_X10_isDecimal : zOK zX10_isDecimal := zok_of (by decide +kernel) (zls_c zc_RX10_212_v (zls_c zfd_RX10_39 (zls_c zfd_RX10_42 (zls_c zfd_RX10_39 (zls_c zfd_RX10_42 (zls_c zfd_RX10_39 (zls_c zfd_RX10_36 (zls_c zc_RX10_209_v zls_n))))))))
set_option maxRecDepth 100000 in
theorem zok_X10_measure : zOK zX10_measure := zok_of (by decide +kernel) (zls_c zfd_RX10_36 (zls_c zfd_RX10_45 (zls_c zfd_RX10_23 (zls_c zfd_RX10_23 (zls_c zc_RX10_215_v (zls_c zfd_RX10_51 (zls_c zfd_RX10_39 (zls_c zfd_RX10_42 (zls_c zfd_RX10_45 (zls_c zc_RX10_209_v (zls_c zc_RX10_86_v (zls_c zc_RX10_86_v (zls_c zc_RX10_202_v (zls_c zc_RX10_202_v (zls_c zfd_RX10_51 (zls_c zc_RX10_218_v (zls_c zfd_RX10_51 (zls_c zc_RX10_218_v (zls_c zfd_RX10_51 (zls_c zfd_RX10_48 (zls_c zfd_RX10_51 (zls_c zfd_RX10_51 (zls_c zfd_RX10_48 (zls_c zfd_RX10_221 (zls_c zfd_RX10_48 (zls_c zfd_RX10_221 (zls_c zfd_RX10_26 (zls_c zfd_RX10_54 (zls_c zfd_RX10_30 (zls_c zfd_RX10_30 (zls_c zfd_RX10_30 zls_n)))))))))))))))))))))))))))))))
set_option maxRecDepth 100000 in
theorem zok_X10_layBlocks : zOK zX10_layBlocks := zok_of (by decide +kernel) (zls_c zpt_RX10_224 (zls_c zfd_RX10_7 (zls_c zc_RX10_227_v (zls_c zc_RX10_227_v (zls_c zfd_RX10_36 (zls_c zfd_RX10_224 (zls_c zfd_RX10_39 (zls_c zfd_RX10_224 (zls_c zc_RX10_227_v (zls_c zfd_RX10_42 (zls_c zfd_RX10_224 (zls_c zfd_RX10_224 (zls_c zc_RX10_230_v (zls_c zfd_RX10_224 (zls_c zpt_RX10_224 (zls_c zfd_RX10_224 zls_n))))))))))))))))
set_option maxRecDepth 100000 in
theorem zok_X10_blockOf : zOK zX10_blockOf := zok_of (by decide +kernel) (zls_c zfd_RX10_224 (zls_c zc_RX10_227_v (zls_c zfd_RX10_36 (zls_c zfd_RX10_39 (zls_c zfd_RX10_42 (zls_c zc_RX10_70_s zls_n))))))
set_option maxRecDepth 100000 in
theorem zok_X10_xOf : zOK zX10_xOf := zok_of (by decide +kernel) (zls_c zfd_RX10_54 (zls_c zc_RX10_233_v zls_n))
set_option maxRecDepth 100000 in
theorem zok_X10_shiftOf : zOK zX10_shiftOf := zok_of (by decide +kernel) (zls_c zc_RX10_233_v (zls_c zfd_RX10_45 (zls_c zfd_RX10_54 (zls_c zfd_RX10_26 (zls_c zfd_RX10_45 (zls_c zc_RX10_209_v (zls_c zfd_RX10_51 (zls_c zc_RX10_202_v (zls_c zfd_RX10_45 (zls_c zc_RX10_86_v (zls_c zc_RX10_86_v zls_n)))))))))))
set_option maxRecDepth 100000 in
theorem zok_X10_shownLength : zOK zX10_shownLength := zok_of (by decide +kernel) (zls_c zc_RX10_78_v (zls_c zc_RX10_236_v (zls_c zc_RX10_78_v (zls_c zc_RX10_86_v zls_n))))
set_option maxRecDepth 100000 in
theorem zok_X10_isBlock : zOK zX10_isBlock := zok_of (by decide +kernel) (zls_c zc_RX10_189_v (zls_c zc_RX10_70_s zls_n))
set_option maxRecDepth 100000 in
theorem zok_X10_comparedWords : zOK zX10_comparedWords := zok_of (by decide +kernel) (zls_c zc_RX10_86_v (zls_c zc_RX10_86_v (zls_c zc_RX10_94_v (zls_c zc_RX10_94_v (zls_c zc_RX10_86_v (zls_c zc_RX10_86_v (zls_c zc_RX10_94_v (zls_c zc_RX10_94_v zls_n))))))))
set_option maxRecDepth 100000 in
theorem zok_X10_rankOf : zOK zX10_rankOf := zok_of (by decide +kernel) zls_n
set_option maxRecDepth 100000 in
theorem zok_X10_isBehind : zOK zX10_isBehind := zok_of (by decide +kernel) (zls_c zc_RX10_209_v (zls_c zc_RX10_239_s (zls_c zc_RX10_209_v (zls_c zc_RX10_239_s (zls_c zc_RX10_242_v (zls_c zc_RX10_242_v (zls_c zc_RX10_246_v zls_n)))))))
set_option maxRecDepth 100000 in
theorem zok_X10_sortNow : zOK zX10_sortNow := zok_of (by decide +kernel) (zls_c zfd_RX10_42 (zls_c zfd_RX10_57 (zls_c zfd_RX10_36 (zls_c zc_RX10_249_v (zls_c zfd_RX10_57 (zls_c zfd_RX10_57 (zls_c zfd_RX10_57 (zls_c zc_RX10_183_v (zls_c zfd_RX10_57 (zls_c zc_RX10_186_v (zls_c zfd_RX10_57 zls_n)))))))))))
set_option maxRecDepth 100000 in
theorem zok_X10_sort : zOK zX10_sort := zok_of (by decide +kernel) (zls_c zc_RX10_253_v (zls_c zfd_RX10_42 (zls_c zfd_RX10_39 (zls_c zc_RX10_70_s (zls_c zpt_RX10_63 (zls_c zfd_RX10_63 (zls_c zc_RX10_126_v (zls_c zfd_RX10_39 (zls_c zc_RX10_256_v zls_n)))))))))
set_option maxRecDepth 100000 in
theorem zok_X10_hasRoom : zOK zX10_hasRoom := zok_of (by decide +kernel) (zls_c zfd_RX10_39 (zls_c zfd_RX10_42 (zls_c zc_RX10_78_v zls_n)))
set_option maxRecDepth 100000 in
theorem zok_X10_insertColumn : zOK zX10_insertColumn := zok_of (by decide +kernel) (zls_c zc_RX10_253_v (zls_c zc_RX10_260_v (zls_c zpt_RX10_63 (zls_c zfd_RX10_63 (zls_c zc_RX10_126_v (zls_c zfd_RX10_39 (zls_c zfd_RX10_42 (zls_c zfd_RX10_36 (zls_c zc_RX10_139_v (zls_c zfd_RX10_42 (zls_c zfd_RX10_39 zls_n)))))))))))
set_option maxRecDepth 100000 in
theorem zok_X10_removeColumn : zOK zX10_removeColumn := zok_of (by decide +kernel) (zls_c zc_RX10_253_v (zls_c zpt_RX10_63 (zls_c zfd_RX10_63 (zls_c zc_RX10_126_v (zls_c zfd_RX10_39 (zls_c zfd_RX10_42 (zls_c zfd_RX10_36 (zls_c zc_RX10_196_v (zls_c zfd_RX10_36 (zls_c zc_RX10_174_v zls_n))))))))))
set_option maxRecDepth 100000 in
theorem zok_X10_runAt : zOK zX10_runAt := zok_of (by decide +kernel) (zls_c zc_RX10_86_v (zls_c zc_RX10_94_v zls_n))
set_option maxRecDepth 100000 in
theorem zok_X10_runs : zOK zX10_runs := zok_of (by decide +kernel) (zls_c zc_RX10_78_v (zls_c zc_RX10_86_v (zls_c zc_RX10_263_v zls_n)))
set_option maxRecDepth 100000 in
theorem zok_X10_makeTabs : zOK zX10_makeTabs := zok_of (by decide +kernel) (zls_c zc_RX10_78_v (zls_c zc_RX10_86_v (zls_c zc_RX10_263_v (zls_c zc_RX10_139_v (zls_c zc_RX10_142_v (zls_c zc_RX10_90_v zls_n))))))
set_option maxRecDepth 100000 in
theorem zok_X10_retab : zOK zX10_retab := zok_of (by decide +kernel) (zls_c zc_RX10_74_v (zls_c zc_RX10_70_s (zls_c zc_RX10_78_v (zls_c zc_RX10_266_v (zls_c zpt_RX10_63 (zls_c zfd_RX10_63 (zls_c zc_RX10_126_v (zls_c zc_RX10_266_v (zls_c zc_RX10_269_v zls_n)))))))))
set_option maxRecDepth 100000 in
theorem zok_X10_setAlignment : zOK zX10_setAlignment := zok_of (by decide +kernel) (zls_c zc_RX10_70_s (zls_c zc_RX10_70_s (zls_c zpt_RX10_63 (zls_c zfd_RX10_63 (zls_c zfd_RX10_23 (zls_c zfd_RX10_23 zls_n))))))
set_option maxRecDepth 100000 in
theorem zok_X10_setSpacing : zOK zX10_setSpacing := zok_of (by decide +kernel) (zls_c zc_RX10_70_s (zls_c zc_RX10_70_s (zls_c zc_RX10_70_s (zls_c zpt_RX10_63 (zls_c zfd_RX10_63 (zls_c zfd_RX10_26 (zls_c zfd_RX10_221 (zls_c zfd_RX10_30 (zls_c zfd_RX10_26 (zls_c zpt_RX10_26 (zls_c zfd_RX10_221 (zls_c zpt_RX10_221 (zls_c zfd_RX10_30 (zls_c zpt_RX10_30 zls_n))))))))))))))
set_option maxRecDepth 100000 in
theorem zok_X10_allCells : zOK zX10_allCells := zok_of (by decide +kernel) (zls_c zfd_RX10_7 (zls_c zc_RX10_78_v zls_n))
set_option maxRecDepth 100000 in
theorem zok_X10_signsIn : zOK zX10_signsIn := zok_of (by decide +kernel) (zls_c zc_RX10_78_v (zls_c zc_RX10_86_v zls_n))
set_option maxRecDepth 100000 in
theorem zok_X10_allSigns : zOK zX10_allSigns := zok_of (by decide +kernel) (zls_c zfd_RX10_7 (zls_c zc_RX10_272_v zls_n))
set_option maxRecDepth 100000 in
theorem zok_X10_ofKind : zOK zX10_ofKind := zok_of (by decide +kernel) (zls_c zfd_RX10_7 (zls_c zc_RX10_78_v (zls_c zc_RX10_209_v zls_n)))
set_option maxRecDepth 100000 in
theorem zok_X10_longest : zOK zX10_longest := zok_of (by decide +kernel) (zls_c zfd_RX10_7 (zls_c zc_RX10_275_v (zls_c zc_RX10_275_v zls_n)))
set_option maxRecDepth 100000 in
theorem zok_X10_counted : zOK zX10_counted := zok_of (by decide +kernel) (zls_c zfd_RX10_7 (zls_c zc_RX10_278_v (zls_c zc_RX10_281_v (zls_c zfd_RX10_224 (zls_c zc_RX10_284_v (zls_c zc_RX10_284_v (zls_c zc_RX10_287_v (zls_c zfd_RX10_105 (zls_c zfd_RX10_108 zls_n)))))))))
set_option maxRecDepth 100000 in
theorem zok_X10_count : zOK zX10_count := zok_of (by decide +kernel) (zls_c zc_RX10_70_s (zls_c zpt_RX10_63 (zls_c zc_RX10_189_v (zls_c zfd_RX10_63 (zls_c zc_RX10_290_v zls_n)))))
set_option maxRecDepth 100000 in
theorem zok_X10_fixedLength : zOK zX10_fixedLength := zok_of (by decide +kernel) (zls_c zc_RX10_78_v (zls_c zc_RX10_86_v (zls_c zc_RX10_78_v zls_n)))
set_option maxRecDepth 100000 in
theorem zok_X10_lineNow : zOK zX10_lineNow := zok_of (by decide +kernel) (zls_c zc_RX10_78_v (zls_c zc_RX10_275_v (zls_c zc_RX10_272_v (zls_c zc_RX10_293_v zls_n))))
set_option maxRecDepth 100000 in
theorem zok_X10_line : zOK zX10_line := zok_of (by decide +kernel) (zls_c zc_RX10_74_v (zls_c zc_RX10_70_s (zls_c zpt_RX10_63 (zls_c zc_RX10_189_v (zls_c zfd_RX10_63 (zls_c zc_RX10_296_v zls_n))))))
set_option maxRecDepth 100000 in
theorem zok_X10_cellNow : zOK zX10_cellNow := zok_of (by decide +kernel) (zls_c zc_RX10_86_v (zls_c zc_RX10_209_v (zls_c zc_RX10_236_v (zls_c zc_RX10_299_v (zls_c zc_RX10_233_v zls_n)))))
set_option maxRecDepth 100000 in
theorem zok_X10_cell : zOK zX10_cell := zok_of (by decide +kernel) (zls_c zc_RX10_82_v (zls_c zc_RX10_70_s (zls_c zpt_RX10_63 (zls_c zc_RX10_189_v (zls_c zfd_RX10_63 (zls_c zc_RX10_302_v zls_n))))))
set_option maxRecDepth 100000 in
theorem zok_X10_letter : zOK zX10_letter := zok_of (by decide +kernel) (zls_c zc_RX10_82_v (zls_c zc_RX10_86_v (zls_c zc_RX10_70_s (zls_c zpt_RX10_63 (zls_c zfd_RX10_63 (zls_c zc_RX10_94_v zls_n))))))
set_option maxRecDepth 100000 in
theorem zok_X10_shownNow : zOK zX10_shownNow := zok_of (by decide +kernel) (zls_c zc_RX10_78_v (zls_c zc_RX10_236_v (zls_c zc_RX10_299_v (zls_c zc_RX10_86_v (zls_c zc_RX10_70_s (zls_c zc_RX10_94_v zls_n))))))
set_option maxRecDepth 100000 in
theorem zok_X10_shown : zOK zX10_shown := zok_of (by decide +kernel) (zls_c zc_RX10_74_v (zls_c zpt_RX10_63 (zls_c zc_RX10_189_v (zls_c zfd_RX10_63 (zls_c zc_RX10_305_v zls_n)))))
set_option maxRecDepth 100000 in
theorem zok_X10_hit : zOK zX10_hit := zok_of (by decide +kernel) (zls_c zc_RX10_74_v (zls_c zpt_RX10_63 (zls_c zc_RX10_189_v (zls_c zfd_RX10_63 (zls_c zc_RX10_78_v (zls_c zc_RX10_236_v zls_n))))))
set_option maxRecDepth 100000 in
theorem zok_X10_isBuffer : zOK zX10_isBuffer := zok_of (by decide +kernel) (zls_c zc_RX10_86_v (zls_c zfd_RX10_111 (zls_c zfd_RX10_111 (zls_c zc_RX10_94_v (zls_c zfd_RX10_33 zls_n)))))
set_option maxRecDepth 100000 in
theorem zok_X10_findNow : zOK zX10_findNow := zok_of (by decide +kernel) (zls_c zfd_RX10_7 (zls_c zc_RX10_78_v (zls_c zc_RX10_308_v zls_n)))
set_option maxRecDepth 100000 in
theorem zok_X10_find : zOK zX10_find := zok_of (by decide +kernel) (zls_c zc_RX10_82_v (zls_c zc_RX10_123_v (zls_c zpt_RX10_63 (zls_c zfd_RX10_63 (zls_c zc_RX10_311_v zls_n)))))
set_option maxRecDepth 100000 in
theorem zok_X10_blockNow : zOK zX10_blockNow := zok_of (by decide +kernel) (zls_c zfd_RX10_36 (zls_c zfd_RX10_39 (zls_c zfd_RX10_42 (zls_c zfd_RX10_54 (zls_c zfd_RX10_45 (zls_c zfd_RX10_48 (zls_c zc_RX10_212_v (zls_c zfd_RX10_51 zls_n))))))))
set_option maxRecDepth 100000 in
theorem zok_X10_block : zOK zX10_block := zok_of (by decide +kernel) (zls_c zc_RX10_253_v (zls_c zc_RX10_70_s (zls_c zpt_RX10_63 (zls_c zfd_RX10_63 (zls_c zc_RX10_314_v zls_n)))))
set_option maxRecDepth 100000 in
theorem zok_X10_sumOf : zOK zX10_sumOf := zok_of (by decide +kernel) (zls_c zfd_RX10_39 (zls_c zfd_RX10_42 (zls_c zfd_RX10_36 (zls_c zc_RX10_209_v (zls_c zfd_RX10_36 (zls_c zc_RX10_242_v zls_n))))))
set_option maxRecDepth 100000 in
theorem zok_X10_sum : zOK zX10_sum := zok_of (by decide +kernel) (zls_c zc_RX10_253_v (zls_c zpt_RX10_63 (zls_c zfd_RX10_63 (zls_c zc_RX10_317_v zls_n))))
set_option maxRecDepth 100000 in
theorem zok_X10_mean : zOK zX10_mean := zok_of (by decide +kernel) (zls_c zc_RX10_253_v (zls_c zpt_RX10_63 (zls_c zfd_RX10_63 (zls_c zc_RX10_212_v (zls_c zc_RX10_317_v (zls_c zc_RX10_212_v zls_n))))))
set_option maxRecDepth 100000 in
theorem zok_X10_touched : zOK zX10_touched := zok_of (by decide +kernel) (zls_c zc_RX10_74_v (zls_c zpt_RX10_63 (zls_c zfd_RX10_63 (zls_c zc_RX10_189_v (zls_c zfd_RX10_224 (zls_c zfd_RX10_39 (zls_c zfd_RX10_42 zls_n)))))))
set_option maxRecDepth 100000 in
theorem zok_X10_changedX : zOK zX10_changedX := zok_of (by decide +kernel) (zls_c zc_RX10_189_v (zls_c zfd_RX10_7 (zls_c zfd_RX10_60 (zls_c zc_RX10_78_v (zls_c zc_RX10_236_v (zls_c zfd_RX10_7 (zls_c zc_RX10_183_v (zls_c zc_RX10_162_v (zls_c zc_RX10_189_v (zls_c zfd_RX10_7 (zls_c zc_RX10_78_v (zls_c zfd_RX10_60 (zls_c zc_RX10_236_v (zls_c zfd_RX10_7 (zls_c zfd_RX10_13 zls_n)))))))))))))))
set_option maxRecDepth 100000 in
theorem zok_X10_ifTyped : zOK zX10_ifTyped := zok_of (by decide +kernel) (zls_c zc_RX10_159_v (zls_c zpt_RX10_63 (zls_c zfd_RX10_63 (zls_c zc_RX10_321_v zls_n))))
set_option maxRecDepth 100000 in
theorem zok_X10_mix : zOK zX10_mix := zok_of (by decide +kernel) (zls_c (zg_in 1689 (by decide +kernel) (by decide +kernel)) (zls_c zfd_RX10_326 (zls_c zpt_RX10_326 zls_n)))
set_option maxRecDepth 100000 in
theorem zok_X10_mixLine : zOK zX10_mixLine := zok_of (by decide +kernel) (zls_c zc_RX10_296_v (zls_c zc_RX10_330_v (zls_c zc_RX10_78_v (zls_c zc_RX10_302_v (zls_c zc_RX10_330_v (zls_c zc_RX10_86_v (zls_c zc_RX10_94_v (zls_c zc_RX10_330_v zls_n))))))))
set_option maxRecDepth 100000 in
theorem zok_X10_digest : zOK zX10_digest := zok_of (by decide +kernel) (zls_c zpt_RX10_63 (zls_c (zg_in 1684 (by decide +kernel) (by decide +kernel)) (zls_c zpt_RX10_326 (zls_c zc_RX10_189_v (zls_c zc_RX10_290_v (zls_c zc_RX10_330_v (zls_c zfd_RX10_23 (zls_c zc_RX10_330_v (zls_c zfd_RX10_26 (zls_c zc_RX10_330_v (zls_c zfd_RX10_221 (zls_c zc_RX10_330_v (zls_c zfd_RX10_30 (zls_c zc_RX10_330_v (zls_c zfd_RX10_7 (zls_c zc_RX10_336_v (zls_c zfd_RX10_224 (zls_c zc_RX10_314_v (zls_c zc_RX10_330_v (zls_c zc_RX10_317_v (zls_c zc_RX10_330_v (zls_c zfd_RX10_111 (zls_c zc_RX10_330_v (zls_c zfd_RX10_111 (zls_c zfd_RX10_33 (zls_c zc_RX10_330_v (zls_c zfd_RX10_326 zls_n)))))))))))))))))))))))))))
set_option maxRecDepth 100000 in
theorem zok_J6_compare_7cf53 : zOK zJ6_compare_7cf53 := zok_of (by decide +kernel) zls_n
set_option maxRecDepth 100000 in
theorem zok_J13_compare_74951 : zOK zJ13_compare_74951 := zok_of (by decide +kernel) zls_n
set_option maxRecDepth 100000 in
theorem zok_L_append : zOK zL_append := zok_of (by decide +kernel) (zls_c zc_RL_7_v zls_n)
set_option maxRecDepth 100000 in
theorem zok_L_firstError : zOK zL_firstError := zok_of (by decide +kernel) (zls_c zc_RL_17_v zls_n)
set_option maxRecDepth 100000 in
theorem zok_L_load : zOK zL_load := zok_of (by decide +kernel) (zls_c zc_RL_20_v zls_n)
set_option maxRecDepth 100000 in
theorem zok_L_type : zOK zL_type := zok_of (by decide +kernel) (zls_c zc_RL_24_v zls_n)
set_option maxRecDepth 100000 in
theorem zok_L_erase : zOK zL_erase := zok_of (by decide +kernel) (zls_c zc_RL_30_v zls_n)
set_option maxRecDepth 100000 in
theorem zok_L_setCell : zOK zL_setCell := zok_of (by decide +kernel) (zls_c zc_RL_34_v zls_n)
set_option maxRecDepth 100000 in
theorem zok_L_insertLine : zOK zL_insertLine := zok_of (by decide +kernel) (zls_c zc_RL_38_v zls_n)
set_option maxRecDepth 100000 in
theorem zok_L_removeLine : zOK zL_removeLine := zok_of (by decide +kernel) (zls_c zc_RL_41_v zls_n)
set_option maxRecDepth 100000 in
theorem zok_L_moveLine : zOK zL_moveLine := zok_of (by decide +kernel) (zls_c zc_RL_44_v zls_n)
set_option maxRecDepth 100000 in
theorem zok_L_sort : zOK zL_sort := zok_of (by decide +kernel) (zls_c zc_RL_47_v zls_n)
set_option maxRecDepth 100000 in
theorem zok_L_insertColumn : zOK zL_insertColumn := zok_of (by decide +kernel) (zls_c zc_RL_51_v zls_n)
set_option maxRecDepth 100000 in
theorem zok_L_removeColumn : zOK zL_removeColumn := zok_of (by decide +kernel) (zls_c zc_RL_54_v zls_n)
set_option maxRecDepth 100000 in
theorem zok_L_retab : zOK zL_retab := zok_of (by decide +kernel) (zls_c zc_RL_57_v zls_n)
set_option maxRecDepth 100000 in
theorem zok_L_undo : zOK zL_undo := zok_of (by decide +kernel) (zls_c zc_RL_60_v zls_n)
set_option maxRecDepth 100000 in
theorem zok_L_redo : zOK zL_redo := zok_of (by decide +kernel) (zls_c zc_RL_63_v zls_n)
set_option maxRecDepth 100000 in
theorem zok_L_setAlignment : zOK zL_setAlignment := zok_of (by decide +kernel) (zls_c zc_RL_66_v zls_n)
set_option maxRecDepth 100000 in
theorem zok_L_setSpacing : zOK zL_setSpacing := zok_of (by decide +kernel) (zls_c zc_RL_69_v zls_n)
set_option maxRecDepth 100000 in
theorem zok_L_count : zOK zL_count := zok_of (by decide +kernel) (zls_c zc_RL_72_v zls_n)
set_option maxRecDepth 100000 in
theorem zok_L_line : zOK zL_line := zok_of (by decide +kernel) (zls_c zc_RL_75_v zls_n)
set_option maxRecDepth 100000 in
theorem zok_L_cell : zOK zL_cell := zok_of (by decide +kernel) (zls_c zc_RL_78_v zls_n)
set_option maxRecDepth 100000 in
theorem zok_L_letter : zOK zL_letter := zok_of (by decide +kernel) (zls_c zc_RL_81_v zls_n)
set_option maxRecDepth 100000 in
theorem zok_L_shown : zOK zL_shown := zok_of (by decide +kernel) (zls_c zc_RL_84_v zls_n)
set_option maxRecDepth 100000 in
theorem zok_L_hit : zOK zL_hit := zok_of (by decide +kernel) (zls_c zc_RL_87_v zls_n)
set_option maxRecDepth 100000 in
theorem zok_L_find : zOK zL_find := zok_of (by decide +kernel) (zls_c zc_RL_90_v zls_n)
set_option maxRecDepth 100000 in
theorem zok_L_block : zOK zL_block := zok_of (by decide +kernel) (zls_c zc_RL_93_v zls_n)
set_option maxRecDepth 100000 in
theorem zok_L_sum : zOK zL_sum := zok_of (by decide +kernel) (zls_c zc_RL_96_v zls_n)
set_option maxRecDepth 100000 in
theorem zok_L_mean : zOK zL_mean := zok_of (by decide +kernel) (zls_c zc_RL_100_v zls_n)
set_option maxRecDepth 100000 in
theorem zok_L_touched : zOK zL_touched := zok_of (by decide +kernel) (zls_c zc_RL_104_v zls_n)
set_option maxRecDepth 100000 in
theorem zok_L_ifTyped : zOK zL_ifTyped := zok_of (by decide +kernel) (zls_c zc_RL_107_v zls_n)
end
section
/-! rules over natural numbers (nI n), and calls that answer by a function -/
section zNat
variable {g : zG} {I J : zI} {pc a b : Nat} {L L' : zL} {st rest as : List Value} {h h1 : zH} {mc ms : Nat} {Q : zR → zH → Prop}
def Zx (g : zG) (J : zI) (as : List Value) (h : zH) (r : Option Value) (h1 : zH) : Prop := Zm g J as h 0 0 (fun r' h' => r' = .inl r ∧ h' = h1)
abbrev Zf (g : zG) (J : zI) (as : List Value) (h : zH) (v : Value) : Prop := Zx g J as h (some v) h
theorem zn_constN (v : Nat) (x : Int32) (hx : x = nI v) (k : Zn g I pc L (.int (nI v) :: st) h mc ms Q) : Zn g I pc L (.int x :: st) h mc ms Q := by rw [hx]; exact k
theorem zn_iconstN {n : Int} (v : Nat) (hf : zF I pc = some (.iconst n, 1, a, b)) (hv : Int32.ofInt n = nI v) (k : Zn g I (pc + 1) L (.int (nI v) :: st) h mc ms Q) : Zn g I pc L st h mc ms Q := zn_iconst (nI v) hv hf k
theorem zn_bipushN {n : Int} (v : Nat) (hf : zF I pc = some (.bipush n, 2, a, b)) (hv : (Int8.ofInt n).toInt32 = nI v) (k : Zn g I (pc + 2) L (.int (nI v) :: st) h mc ms Q) : Zn g I pc L st h mc ms Q := zn_bipush (nI v) hv hf k
theorem zn_sipushN {n : Int} (v : Nat) (hf : zF I pc = some (.sipush n, 3, a, b)) (hv : (Int16.ofInt n).toInt32 = nI v) (k : Zn g I (pc + 3) L (.int (nI v) :: st) h mc ms Q) : Zn g I pc L st h mc ms Q := zn_sipush (nI v) hv hf k
theorem zn_iaddN {x y : Nat} (hf : zF I pc = some (.iadd, 1, a, b)) (k : Zn g I (pc + 1) L (.int (nI (x + y)) :: st) h mc ms Q) : Zn g I pc L (.int (nI y) :: .int (nI x) :: st) h mc ms Q := zn_iadd hf (by rw [nI_add]; exact k)
theorem zn_isubN {x y : Nat} (hf : zF I pc = some (.isub, 1, a, b)) (hle : y ≤ x) (k : Zn g I (pc + 1) L (.int (nI (x - y)) :: st) h mc ms Q) : Zn g I pc L (.int (nI y) :: .int (nI x) :: st) h mc ms Q := zn_isub hf (by rw [pk_sub hle]; exact k)
theorem zn_imulN {x y : Nat} (hf : zF I pc = some (.imul, 1, a, b)) (k : Zn g I (pc + 1) L (.int (nI (x * y)) :: st) h mc ms Q) : Zn g I pc L (.int (nI y) :: .int (nI x) :: st) h mc ms Q := zn_imul hf (by rw [pk_mul]; exact k)
theorem zn_idivN {x y : Nat} (hf : zF I pc = some (.idiv, 1, a, b)) (hx : x < 2 ^ 31) (h0 : 0 < y) (hy : y < 2 ^ 31) (k : Zn g I (pc + 1) L (.int (nI (x / y)) :: st) h mc ms Q) : Zn g I pc L (.int (nI y) :: .int (nI x) :: st) h mc ms Q := zn_idiv hf (nI_ne0 h0 hy) (by rw [pk_div hx h0 hy]; exact k)
theorem zn_iremN {x y : Nat} (hf : zF I pc = some (.irem, 1, a, b)) (hx : x < 2 ^ 31) (h0 : 0 < y) (hy : y < 2 ^ 31) (k : Zn g I (pc + 1) L (.int (nI (x % y)) :: st) h mc ms Q) : Zn g I pc L (.int (nI y) :: .int (nI x) :: st) h mc ms Q := zn_irem hf (nI_ne0 h0 hy) (by rw [pk_rem hx h0 hy]; exact k)
theorem zn_iincN {i : Nat} {n : Int} {x : Nat} (c : Nat) (hf : zF I pc = some (.iinc i n, 3, a, b)) (hc : Int32.ofInt n = nI c) (hx : L[i]? = some (some (.int (nI x)))) (hi : i < zMx I) (hs : zset1 L i (.int (nI (x + c))) = L') (k : Zn g I (pc + 3) L' st h mc ms Q) : Zn g I pc L st h mc ms Q := zn_iinc hf hx (by rw [hc, nI_add]) hi hs k
/-- counting down -/
theorem zn_idecN {i : Nat} {n : Int} {x : Nat} (hf : zF I pc = some (.iinc i n, 3, a, b)) (hc : Int32.ofInt n = -1) (hx : L[i]? = some (some (.int (nI (x + 1))))) (hi : i < zMx I) (hs : zset1 L i (.int (nI x)) = L') (k : Zn g I (pc + 3) L' st h mc ms Q) : Zn g I pc L st h mc ms Q := zn_iinc hf hx (by rw [hc]; exact pk_m1 x) hi hs k
theorem zn_icmp_eqN {x y : Nat} {off : Int} {tgt : Nat} (hf : zF I pc = some (.if_icmp .eq off, 3, a, b)) (ht : (pc : Int) + off = (tgt : Int)) (hx : x < 2 ^ 31) (hy : y < 2 ^ 31) (kt : x = y → Zn g I tgt L st h mc ms Q) (kf : x ≠ y → Zn g I (pc + 3) L st h mc ms Q) : Zn g I pc L (.int (nI y) :: .int (nI x) :: st) h mc ms Q := zn_icmp_eq hf ht (fun z => kt ((nI_eq hx hy).mp z)) (fun z => kf fun q => z ((nI_eq hx hy).mpr q))
theorem zn_icmp_neN {x y : Nat} {off : Int} {tgt : Nat} (hf : zF I pc = some (.if_icmp .ne off, 3, a, b)) (ht : (pc : Int) + off = (tgt : Int)) (hx : x < 2 ^ 31) (hy : y < 2 ^ 31) (kt : x ≠ y → Zn g I tgt L st h mc ms Q) (kf : x = y → Zn g I (pc + 3) L st h mc ms Q) : Zn g I pc L (.int (nI y) :: .int (nI x) :: st) h mc ms Q := zn_icmp_ne hf ht (fun z => kt fun q => z ((nI_eq hx hy).mpr q)) (fun z => kf ((nI_eq hx hy).mp z))
theorem zn_icmp_ltN {x y : Nat} {off : Int} {tgt : Nat} (hf : zF I pc = some (.if_icmp .lt off, 3, a, b)) (ht : (pc : Int) + off = (tgt : Int)) (hx : x < 2 ^ 31) (hy : y < 2 ^ 31) (kt : x < y → Zn g I tgt L st h mc ms Q) (kf : y ≤ x → Zn g I (pc + 3) L st h mc ms Q) : Zn g I pc L (.int (nI y) :: .int (nI x) :: st) h mc ms Q := zn_icmp_lt hf ht (fun z => kt ((nI_ltI hx hy).mp z)) (fun z => kf (by rcases Nat.lt_or_ge x y with q | q; exact absurd ((nI_ltI hx hy).mpr q) z; exact q))
theorem zn_icmp_geN {x y : Nat} {off : Int} {tgt : Nat} (hf : zF I pc = some (.if_icmp .ge off, 3, a, b)) (ht : (pc : Int) + off = (tgt : Int)) (hx : x < 2 ^ 31) (hy : y < 2 ^ 31) (kt : y ≤ x → Zn g I tgt L st h mc ms Q) (kf : x < y → Zn g I (pc + 3) L st h mc ms Q) : Zn g I pc L (.int (nI y) :: .int (nI x) :: st) h mc ms Q := zn_icmp_ge hf ht (fun z => kt ((nI_leI hy hx).mp z)) (fun z => kf (by rcases Nat.lt_or_ge x y with q | q; exact q; exact absurd ((nI_leI hy hx).mpr q) z))
theorem zn_icmp_gtN {x y : Nat} {off : Int} {tgt : Nat} (hf : zF I pc = some (.if_icmp .gt off, 3, a, b)) (ht : (pc : Int) + off = (tgt : Int)) (hx : x < 2 ^ 31) (hy : y < 2 ^ 31) (kt : y < x → Zn g I tgt L st h mc ms Q) (kf : x ≤ y → Zn g I (pc + 3) L st h mc ms Q) : Zn g I pc L (.int (nI y) :: .int (nI x) :: st) h mc ms Q := zn_icmp_gt hf ht (fun z => kt ((nI_ltI hy hx).mp z)) (fun z => kf (by rcases Nat.lt_or_ge y x with q | q; exact absurd ((nI_ltI hy hx).mpr q) z; exact q))
theorem zn_icmp_leN {x y : Nat} {off : Int} {tgt : Nat} (hf : zF I pc = some (.if_icmp .le off, 3, a, b)) (ht : (pc : Int) + off = (tgt : Int)) (hx : x < 2 ^ 31) (hy : y < 2 ^ 31) (kt : x ≤ y → Zn g I tgt L st h mc ms Q) (kf : y < x → Zn g I (pc + 3) L st h mc ms Q) : Zn g I pc L (.int (nI y) :: .int (nI x) :: st) h mc ms Q := zn_icmp_le hf ht (fun z => kt ((nI_leI hx hy).mp z)) (fun z => kf (by rcases Nat.lt_or_ge y x with q | q; exact q; exact absurd ((nI_leI hx hy).mpr q) z))
theorem zn_if_eqN {x : Nat} {off : Int} {tgt : Nat} (hf : zF I pc = some (.ifCond .eq off, 3, a, b)) (ht : (pc : Int) + off = (tgt : Int)) (hx : x < 2 ^ 31) (kt : x = 0 → Zn g I tgt L st h mc ms Q) (kf : x ≠ 0 → Zn g I (pc + 3) L st h mc ms Q) : Zn g I pc L (.int (nI x) :: st) h mc ms Q := zn_if_eq hf ht (fun z => kt ((nI_eq hx (by omega)).mp z)) (fun z => kf fun q => z (by rw [q]; rfl))
theorem zn_if_neN {x : Nat} {off : Int} {tgt : Nat} (hf : zF I pc = some (.ifCond .ne off, 3, a, b)) (ht : (pc : Int) + off = (tgt : Int)) (hx : x < 2 ^ 31) (kt : x ≠ 0 → Zn g I tgt L st h mc ms Q) (kf : x = 0 → Zn g I (pc + 3) L st h mc ms Q) : Zn g I pc L (.int (nI x) :: st) h mc ms Q := zn_if_ne hf ht (fun z => kt fun q => z (by rw [q]; rfl)) (fun z => kf ((nI_eq hx (by omega)).mp z))
theorem zn_if_ltN {x : Nat} {off : Int} {tgt : Nat} (hf : zF I pc = some (.ifCond .lt off, 3, a, b)) (ht : (pc : Int) + off = (tgt : Int)) (hx : x < 2 ^ 31) (kf : Zn g I (pc + 3) L st h mc ms Q) : Zn g I pc L (.int (nI x) :: st) h mc ms Q := zn_if_lt hf ht (fun z => absurd z (nI_pos hx)) (fun _ => kf)
theorem zn_if_geN {x : Nat} {off : Int} {tgt : Nat} (hf : zF I pc = some (.ifCond .ge off, 3, a, b)) (ht : (pc : Int) + off = (tgt : Int)) (hx : x < 2 ^ 31) (kt : Zn g I tgt L st h mc ms Q) : Zn g I pc L (.int (nI x) :: st) h mc ms Q := zn_if_ge hf ht (fun _ => kt) (fun z => absurd (nI_pos' hx) z)
theorem zn_if_gtN {x : Nat} {off : Int} {tgt : Nat} (hf : zF I pc = some (.ifCond .gt off, 3, a, b)) (ht : (pc : Int) + off = (tgt : Int)) (hx : x < 2 ^ 31) (kt : 0 < x → Zn g I tgt L st h mc ms Q) (kf : x = 0 → Zn g I (pc + 3) L st h mc ms Q) : Zn g I pc L (.int (nI x) :: st) h mc ms Q := zn_if_gt hf ht (fun z => kt ((nI_ltI (by omega) hx).mp z)) (fun z => kf (by rcases Nat.eq_zero_or_pos x with q | q; exact q; exact absurd ((nI_ltI (by omega) hx).mpr q) z))
theorem zn_if_leN {x : Nat} {off : Int} {tgt : Nat} (hf : zF I pc = some (.ifCond .le off, 3, a, b)) (ht : (pc : Int) + off = (tgt : Int)) (hx : x < 2 ^ 31) (kt : x = 0 → Zn g I tgt L st h mc ms Q) (kf : 0 < x → Zn g I (pc + 3) L st h mc ms Q) : Zn g I pc L (.int (nI x) :: st) h mc ms Q := zn_if_le hf ht (fun z => kt (by rcases Nat.eq_zero_or_pos x with q | q; exact q; exact absurd z (nI_nle q hx))) (fun z => kf (by rcases Nat.eq_zero_or_pos x with q | q; exact absurd (show nI x ≤ 0 by rw [q]; decide) z; exact q))
theorem zn_ialdN {o n j : Nat} {f : Nat → Int32} (hf : zF I pc = some (.iaload, 1, a, b)) (ho : h.1 o = some (.inl (n, .inl f))) (hj : j < n) (hn : n < 2 ^ 31) (K : Zn g I (pc + 1) L (.int (f j) :: st) h mc ms Q) : Zn g I pc L (.int (nI j) :: .ref o :: st) h mc ms Q := zn_iald hf ho (vp_in_nI hj hn) (by rw [nI_clamp (by omega)]; exact K)
theorem zn_laldN {o n j : Nat} {f : Nat → Int64} (hf : zF I pc = some (.laload, 1, a, b)) (hp : 0 < o) (ho : h.1 o = some (.inl (n, .inr (.inl f)))) (hj : j < n) (hn : n < 2 ^ 31) (K : Zn g I (pc + 1) L (.long (f j) :: st) h mc ms Q) : Zn g I pc L (.int (nI j) :: .ref o :: st) h mc ms Q := zn_lald hf hp ho (vp_in_nI hj hn) (by rw [nI_clamp (by omega)]; exact K)
theorem zn_daldN {o n j : Nat} {f : Nat → UInt64} (hf : zF I pc = some (.daload, 1, a, b)) (hp : 0 < o) (ho : h.1 o = some (.inl (n, .inr (.inr (.inr (.inl f)))))) (hj : j < n) (hn : n < 2 ^ 31) (K : Zn g I (pc + 1) L (.double (f j) :: st) h mc ms Q) : Zn g I pc L (.int (nI j) :: .ref o :: st) h mc ms Q := zn_dald hf hp ho (vp_in_nI hj hn) (by rw [nI_clamp (by omega)]; exact K)
theorem zn_aaldN {o n j : Nat} {f : Nat → Option Nat} (hf : zF I pc = some (.aaload, 1, a, b)) (hp : 0 < o) (ho : h.1 o = some (.inl (n, .inr (.inr (.inr (.inr f)))))) (hj : j < n) (hn : n < 2 ^ 31) (K : Zn g I (pc + 1) L (va_rf (f j) :: st) h mc ms Q) : Zn g I pc L (.int (nI j) :: .ref o :: st) h mc ms Q := zn_aald hf hp ho (vp_in_nI hj hn) (by rw [nI_clamp (by omega)]; exact K)
theorem zn_iastN {o n j : Nat} {f : Nat → Int32} {x : Int32} (hf : zF I pc = some (.iastore, 1, a, b)) (hp : 0 < o) (ho : h.1 o = some (.inl (n, .inl f))) (hj : j < n) (hn : n < 2 ^ 31) (K : Zn g I (pc + 1) L st (zup h o (.inl (n, .inl (upd f j x)))) mc ms Q) : Zn g I pc L (.int x :: .int (nI j) :: .ref o :: st) h mc ms Q := zn_iast hf hp ho (vp_in_nI hj hn) (by rw [nI_clamp (by omega)]; exact K)
theorem zn_lastN {o n j : Nat} {f : Nat → Int64} {x : Int64} (hf : zF I pc = some (.lastore, 1, a, b)) (hp : 0 < o) (ho : h.1 o = some (.inl (n, .inr (.inl f)))) (hj : j < n) (hn : n < 2 ^ 31) (K : Zn g I (pc + 1) L st (zup h o (.inl (n, .inr (.inl (vp_updL f j x))))) mc ms Q) : Zn g I pc L (.long x :: .int (nI j) :: .ref o :: st) h mc ms Q := zn_last hf hp ho (vp_in_nI hj hn) (by rw [nI_clamp (by omega)]; exact K)
theorem zn_dastN {o n j : Nat} {f : Nat → UInt64} {x : UInt64} (hf : zF I pc = some (.dastore, 1, a, b)) (hp : 0 < o) (ho : h.1 o = some (.inl (n, .inr (.inr (.inr (.inl f)))))) (hj : j < n) (hn : n < 2 ^ 31) (K : Zn g I (pc + 1) L st (zup h o (.inl (n, .inr (.inr (.inr (.inl (va_up f j x))))))) mc ms Q) : Zn g I pc L (.double x :: .int (nI j) :: .ref o :: st) h mc ms Q := zn_dast hf hp ho (vp_in_nI hj hn) (by rw [nI_clamp (by omega)]; exact K)
theorem zn_aastN {o n v j : Nat} {vs : List Value} {f : Nat → Option Nat} (hf : zF I pc = some (.aastore, 1, a, b)) (hp : 0 < o) (ho : h.1 o = some (.inl (n, .inr (.inr (.inr (.inr f)))))) (hv : h.1 v = some (.inr (7, vs))) (hj : j < n) (hn : n < 2 ^ 31) (K : Zn g I (pc + 1) L st (zup h o (.inl (n, .inr (.inr (.inr (.inr (va_up f j (some v)))))))) mc ms Q) : Zn g I pc L (.ref v :: .int (nI j) :: .ref o :: st) h mc ms Q := zn_aast hf hp ho hv (vp_in_nI hj hn) (by rw [nI_clamp (by omega)]; exact K)
/-- a method of an object that answers r and leaves the heap h1 -/
theorem zn_callVx {idx o ci : Nat} {fs : List Value} {r : Option Value} (hf : zF I pc = some (.invokevirtual idx, 3, a, b)) (hJ : zP a = J) (hst : st = as.reverse ++ .ref o :: rest) (hb : as.length = b) (ho : h.1 o = some (.inr (ci, fs))) (hcl : (vwCl[ci]?).map (fun q => q.1) = some (zNm J).cls) (hexI : zEx I = []) (hexJ : zEx J = [])
    (hfr : zFr J + 1 ≤ zFr I) (hlo : 8 + (zMx J + 11) + zLo J ≤ zLo I) (hsl : (zsl (.ref o :: as)).length ≤ zMx J) (hre : (rest.map fun v => v.category).sum ≤ 8)
    (hm : Zx g J (.ref o :: as) h r h1) (K : Zn g I (pc + 3) L (r.toList ++ rest) h1 mc ms Q) : Zn g I pc L st h mc ms Q :=
  zn_mono (zn_callV (mc2 := mc) (ms2 := ms) (Q := Q) hf hJ hst hb ho hcl hexI hexJ hfr hlo hsl hre hm (fun v h' q => by obtain ⟨q1, q2⟩ := q; cases q1; subst q2; exact K) (fun E h' q => by obtain ⟨q1, -⟩ := q; cases q1)) (by omega) (by omega) (fun _ _ q => q)
theorem zn_callSx {idx : Nat} {r : Option Value} (hf : zF I pc = some (.invokestatic idx, 3, a, b)) (ha : a < 5000) (hJ : zP a = J) (hst : st = as.reverse ++ rest) (hb : as.length = b) (hexJ : zEx J = [])
    (hfr : zFr J + 1 ≤ zFr I) (hlo : 8 + (zMx J + 11) + zLo J ≤ zLo I) (hsl : (zsl as).length ≤ zMx J) (hre : (rest.map fun v => v.category).sum ≤ 8)
    (hm : Zx g J as h r h1) (K : Zn g I (pc + 3) L (r.toList ++ rest) h1 mc ms Q) : Zn g I pc L st h mc ms Q :=
  zn_mono (zn_callS (mc2 := mc) (ms2 := ms) (Q := Q) hf ha hJ hst hb hexJ hfr hlo hsl hre (fun E h' q => by obtain ⟨q1, -⟩ := q; cases q1) hm (fun v h' q => by obtain ⟨q1, q2⟩ := q; cases q1; subst q2; exact K)) (by omega) (by omega) (fun _ _ q => q)
/-- ends -/
theorem zx_i {v : Int32} {r : Option Value} (hf : zF I pc = some (.ireturn, 1, a, b)) (hr : zRt I = some .int) (hv : r = some (.int v)) (hh : h = h1) : Zn g I pc L [.int v] h mc ms (fun r' h' => r' = .inl r ∧ h' = h1) := zn_iret hf hr ⟨by rw [hv], hh⟩
theorem zx_z {v : Int32} {r : Option Value} (hf : zF I pc = some (.ireturn, 1, a, b)) (hr : zRt I = some .boolean) (hn : v &&& 1 = v) (hv : r = some (.int v)) (hh : h = h1) : Zn g I pc L [.int v] h mc ms (fun r' h' => r' = .inl r ∧ h' = h1) := zn_zret hf hr hn ⟨by rw [hv], hh⟩
theorem zx_l {v : Int64} {r : Option Value} (hf : zF I pc = some (.lreturn, 1, a, b)) (hr : zRt I = some .long) (hv : r = some (.long v)) (hh : h = h1) : Zn g I pc L [.long v] h mc ms (fun r' h' => r' = .inl r ∧ h' = h1) := zn_lret hf hr ⟨by rw [hv], hh⟩
theorem zx_v {r : Option Value} (hf : zF I pc = some (.return_, 1, a, b)) (hr : zRt I = none) (hv : r = none) (hh : h = h1) : Zn g I pc L [] h mc ms (fun r' h' => r' = .inl r ∧ h' = h1) := zn_vret hf hr ⟨by rw [hv], hh⟩
theorem zup_s (h : zH) (i : Nat) (o : zO) : (zup h i o).1 i = some o := by simp [zup]
theorem zup_n {h : zH} {i j : Nat} {o : zO} (hn : j ≠ i) : (zup h i o).1 j = h.1 j := by simp [zup, hn]
theorem zup_u (h : zH) (i : Nat) (o o' : zO) : zup (zup h i o) i o' = zup h i o' := by
  unfold zup
  refine Prod.ext (funext fun j => ?_) rfl
  by_cases hj : j = i <;> simp [hj]
/-- a truth as an int -/
def zb (p : Prop) [Decidable p] : Int32 := if p then 1 else 0
theorem zb_and (p : Prop) [Decidable p] : zb p &&& 1 = zb p := by unfold zb; split <;> decide
theorem zb_t {p : Prop} [Decidable p] (hp : p) : zb p = 1 := if_pos hp
theorem zb_f {p : Prop} [Decidable p] (hp : ¬ p) : zb p = 0 := if_neg hp
theorem zn_if_eqB {p : Prop} [Decidable p] {off : Int} {tgt : Nat} (hf : zF I pc = some (.ifCond .eq off, 3, a, b)) (ht : (pc : Int) + off = (tgt : Int)) (kt : ¬ p → Zn g I tgt L st h mc ms Q) (kf : p → Zn g I (pc + 3) L st h mc ms Q) : Zn g I pc L (.int (zb p) :: st) h mc ms Q := zn_if_eq hf ht (fun z => kt fun hp => by rw [zb_t hp] at z; exact absurd z (by decide)) (fun z => kf (by by_cases hp : p; exact hp; exact absurd (zb_f hp) z))
theorem zn_if_neB {p : Prop} [Decidable p] {off : Int} {tgt : Nat} (hf : zF I pc = some (.ifCond .ne off, 3, a, b)) (ht : (pc : Int) + off = (tgt : Int)) (kt : p → Zn g I tgt L st h mc ms Q) (kf : ¬ p → Zn g I (pc + 3) L st h mc ms Q) : Zn g I pc L (.int (zb p) :: st) h mc ms Q := zn_if_ne hf ht (fun z => kt (by by_cases hp : p; exact hp; exact absurd (zb_f hp) z)) (fun z => kf fun hp => by rw [zb_t hp] at z; exact absurd z (by decide))
theorem zb_iff {p q : Prop} [Decidable p] [Decidable q] (e : p ↔ q) : zb p = zb q := by
  unfold zb
  by_cases hp : p
  · rw [if_pos hp, if_pos (e.mp hp)]
  · rw [if_neg hp, if_neg (fun z => hp (e.mpr z))]
abbrev zin (x : Int32) (n : Nat) : Prop := 0 ≤ x.toInt ∧ x.toInt < (n : Int)
theorem zin_ex {x : Int32} {n : Nat} (hx : zin x n) (hn : n < 2 ^ 31) : ∃ l : Nat, l < n ∧ x = nI l := vp_in_of (vp_in_iff.mpr hx) hn
theorem zin_nI {l n : Nat} (hl : l < 2 ^ 31) : zin (nI l) n ↔ l < n := by
  unfold zin
  rw [nI_toInt hl]
  omega
theorem zin_w {x : Int32} {n : Nat} (h0 : 1 ≤ n) (hn : n < 2 ^ 31) : (nI 0 ≤ x ∧ x ≤ nI (n - 1)) ↔ zin x n := by
  rw [Int32.le_iff_toInt_le, Int32.le_iff_toInt_le, nI_toInt (by omega), nI_toInt (by omega)]
  unfold zin
  omega
theorem zin_le {x : Int32} {n : Nat} (hn : n < 2 ^ 31 - 1) : (nI 0 ≤ x ∧ x ≤ nI n) ↔ zin x (n + 1) := by
  rw [Int32.le_iff_toInt_le, Int32.le_iff_toInt_le, nI_toInt (by omega), nI_toInt (by omega)]
  unfold zin
  omega
theorem zn_heq {h' : zH} (e : h = h') (K : Zn g I pc L st h' mc ms Q) : Zn g I pc L st h mc ms Q := by rw [e]; exact K
theorem zn_seq {st' : List Value} (e : st = st') (K : Zn g I pc L st' h mc ms Q) : Zn g I pc L st h mc ms Q := by rw [e]; exact K
end zNat
end
section
/-! THE REFERENCE's HEAP: its object is 50, its rows 51 to 65; ints and rows as natural numbers -/
def mNA (n : Nat) (Z : Nat → Nat) : zO := .inl (n, .inl (fun j => nI (Z j)))
def mfl (F : Nat → Nat) (S : Int64) : List Value := [.int (nI (F 0)), .ref 51, .ref 52, .ref 53, .ref 54, .int (nI (F 5)), .int (nI (F 6)), .ref 55, .int (nI (F 8)), .int (nI (F 9)), .int (nI (F 10)), .int (nI (F 11)), .ref 56, .int (nI (F 13)), .ref 57, .ref 58, .ref 59, .ref 60, .ref 61, .ref 62, .ref 63, .ref 64, .ref 65, .long S]
def mln (j : Nat) : Nat := if j ≤ 1 then 3289 else if j ≤ 3 then 32890 else if j = 4 then 7 else if j = 5 then 120 else if j ≤ 12 then 168 else 24
def mhp (h : zH) (F : Nat → Nat) (S : Int64) (z : Nat → Nat) (A : Nat → Nat → Nat) (X : Nat → Int32) : zH :=
  (fun i => if i = 50 then some (.inr (9, mfl F S)) else if i = 51 then some (mNA 3289 z) else if i = 65 then some (.inl (192, .inl X)) else if 51 ≤ i ∧ i < 65 then some (mNA (mln (i - 51)) (A (i - 51))) else h.1 i, h.2)
section mRules
variable {g : zG} {I J : zI} {pc a b : Nat} {L L' : zL} {st rest as : List Value} {h h1 : zH} {mc ms : Nat} {Q : zR → zH → Prop} {F : Nat → Nat} {S : Int64} {z : Nat → Nat} {A : Nat → Nat → Nat} {X : Nat → Int32}
theorem mh_a {j : Nat} (h1 : 1 ≤ j) (h2 : j ≤ 13) : (mhp h F S z A X).1 (51 + j) = some (mNA (mln j) (A j)) := by
  unfold mhp
  have e : 51 + j - 51 = j := by omega
  simp only
  rw [if_neg (by omega), if_neg (by omega), if_neg (by omega), if_pos (by omega), e]
theorem nI_upd (Z : Nat → Nat) (k v : Nat) : upd (fun j => nI (Z j)) k (nI v) = fun j => nI (va_up Z k v j) := by
  funext j
  by_cases hj : j = k <;> simp [upd, va_up, hj]
theorem mh_z {z' : Nat → Nat} : zup (mhp h F S z A X) 51 (mNA 3289 z') = mhp h F S z' A X := by
  refine Prod.ext (funext fun i => ?_) rfl
  by_cases hi : i = 51
  · subst hi; simp [zup, mhp]
  · simp [zup, mhp, hi]
theorem mh_x {X' : Nat → Int32} : zup (mhp h F S z A X) 65 (.inl (192, .inl X')) = mhp h F S z A X' := by
  refine Prod.ext (funext fun i => ?_) rfl
  by_cases hi : i = 65
  · subst hi; simp [zup, mhp]
  · simp [zup, mhp, hi]
theorem mh_A {j : Nat} {Z' : Nat → Nat} (h1 : 1 ≤ j) (h2 : j ≤ 13) : zup (mhp h F S z A X) (51 + j) (mNA (mln j) Z') = mhp h F S z (va_up A j Z') X := by
  refine Prod.ext (funext fun i => ?_) rfl
  by_cases hi : i = 51 + j
  · subst hi
    rw [mh_a h1 h2, zup_s]
    simp [va_up]
  · show (zup _ _ _).1 i = _
    rw [zup_n hi]
    unfold mhp
    simp only
    by_cases c1 : i = 50
    · simp [c1]
    · by_cases c2 : i = 51
      · simp [c2]
      · by_cases c3 : i = 65
        · simp [c3]
        · by_cases c4 : 51 ≤ i ∧ i < 65
          · have : i - 51 ≠ j := by omega
            simp [c1, c2, c3, c4, va_up, this]
          · simp [c1, c2, c3, c4]
theorem mh_F {k v : Nat} (hk : (mfl F S).set k (.int (nI v)) = mfl (va_up F k v) S) : zup (mhp h F S z A X) 50 (.inr (9, (mfl F S).set k (.int (nI v)))) = mhp h (va_up F k v) S z A X := by
  rw [hk]
  refine Prod.ext (funext fun i => ?_) rfl
  by_cases hi : i = 50
  · subst hi; simp [zup, mhp]
  · simp [zup, mhp, hi]
theorem mh_S {S' : Int64} : zup (mhp h F S z A X) 50 (.inr (9, (mfl F S).set 23 (.long S'))) = mhp h F S' z A X := by
  refine Prod.ext (funext fun i => ?_) rfl
  by_cases hi : i = 50
  · subst hi; simp [zup, mhp, mfl]
  · simp [zup, mhp, hi]
theorem zn_naLd {o n j : Nat} {Z : Nat → Nat} (hf : zF I pc = some (.iaload, 1, a, b)) (ho : h.1 o = some (mNA n Z)) (hj : j < n) (hn : n < 2 ^ 31) (K : Zn g I (pc + 1) L (.int (nI (Z j)) :: st) h mc ms Q) : Zn g I pc L (.int (nI j) :: .ref o :: st) h mc ms Q := zn_ialdN hf ho hj hn K
theorem zn_naSt {o n j v : Nat} {Z : Nat → Nat} (hf : zF I pc = some (.iastore, 1, a, b)) (hp : 0 < o) (ho : h.1 o = some (mNA n Z)) (hj : j < n) (hn : n < 2 ^ 31) (K : Zn g I (pc + 1) L st (zup h o (mNA n (va_up Z j v))) mc ms Q) : Zn g I pc L (.int (nI v) :: .int (nI j) :: .ref o :: st) h mc ms Q := zn_iastN hf hp ho hj hn (by rw [nI_upd]; exact K)
theorem zm_stz {j v : Nat} (hf : zF I pc = some (.iastore, 1, a, b)) (hj : j < 3289) (K : Zn g I (pc + 1) L st (mhp h F S (va_up z j v) A X) mc ms Q) : Zn g I pc L (.int (nI v) :: .int (nI j) :: .ref 51 :: st) (mhp h F S z A X) mc ms Q := zn_naSt hf (by decide) rfl hj (by decide) (by rw [mh_z]; exact K)
theorem zm_stA {i n j v o : Nat} (hf : zF I pc = some (.iastore, 1, a, b)) (h1 : 1 ≤ i) (h2 : i ≤ 13) (ho : 51 + i = o) (hl : mln i = n) (hj : j < n) (hn : n < 2 ^ 31) (K : Zn g I (pc + 1) L st (mhp h F S z (va_up A i (va_up (A i) j v)) X) mc ms Q) : Zn g I pc L (.int (nI v) :: .int (nI j) :: .ref o :: st) (mhp h F S z A X) mc ms Q := by
  subst ho; subst hl
  exact zn_naSt hf (by omega) (mh_a h1 h2) hj hn (by rw [mh_A h1 h2]; exact K)
theorem zm_stX {j : Nat} {v : Int32} (hf : zF I pc = some (.iastore, 1, a, b)) (hj : j < 192) (K : Zn g I (pc + 1) L st (mhp h F S z A (upd X j v)) mc ms Q) : Zn g I pc L (.int v :: .int (nI j) :: .ref 65 :: st) (mhp h F S z A X) mc ms Q := zn_iastN hf (by decide) (n := 192) (f := X) rfl hj (by decide) (by rw [mh_x]; exact K)
theorem zm_putI {idx k v : Nat} (hf : zF I pc = some (.putfield idx, 3, 9, k)) (hk : k < 24) (hz : zty 9 k = .int) (hs : (mfl F S).set k (.int (nI v)) = mfl (va_up F k v) S) (K : Zn g I (pc + 3) L st (mhp h (va_up F k v) S z A X) mc ms Q) : Zn g I pc L (.int (nI v) :: .ref 50 :: st) (mhp h F S z A X) mc ms Q := by
  refine zn_put (fs := mfl F S) hf rfl hk ?_ ?_
  · rw [hz]; show (true && (Value.int (nI v) == Value.int (nI v))) = true; simp
  · rw [mh_F hs]; exact K
theorem zm_putL {idx : Nat} {v : Int64} (hf : zF I pc = some (.putfield idx, 3, 9, 23)) (K : Zn g I (pc + 3) L st (mhp h F v z A X) mc ms Q) : Zn g I pc L (.long v :: .ref 50 :: st) (mhp h F S z A X) mc ms Q := by
  refine zn_put (fs := mfl F S) hf rfl (show 23 < 24 by decide) ?_ ?_
  · show (true && (Value.long v == Value.long v)) = true; simp
  · rw [mh_S]; exact K
end mRules
end
section
section m1
variable {g : zG} {h hh : zH} {F : Nat → Nat} {S : Int64} {z : Nat → Nat} {A : Nat → Nat → Nat} {X : Nat → Int32}
theorem m_place  (l c k : Nat) : Zx g zX10_place [.int (nI l), .int (nI c), .int (nI k)] hh (some (.int (nI (217 + 16 * (8 * l + c) + k)))) hh := by
  show Zn g zX10_place 0 [some (.int (nI l)), some (.int (nI c)), some (.int (nI k))] [] hh 0 0 _
  refine zn_sipushN (pc := 0) 217 rfl rfl ?_
  refine zn_bipushN (pc := 3) 16 rfl rfl ?_
  refine zn_bipushN (pc := 5) 8 rfl rfl ?_
  refine zn_iload_n (pc := 7) rfl rfl ?_
  refine zn_imulN (pc := 8) (x := 8) (y := l) rfl ?_
  refine zn_iload_n (pc := 9) rfl rfl ?_
  refine zn_iaddN (pc := 10) (x := (8 * l)) (y := c) rfl ?_
  refine zn_imulN (pc := 11) (x := 16) (y := ((8 * l) + c)) rfl ?_
  refine zn_iaddN (pc := 12) (x := 217) (y := (16 * ((8 * l) + c))) rfl ?_
  refine zn_iload_n (pc := 13) rfl rfl ?_
  refine zn_iaddN (pc := 14) (x := (217 + (16 * ((8 * l) + c)))) (y := k) rfl ?_
  exact zx_i (pc := 15) rfl rfl rfl rfl
theorem m_within  (v lo hi : Int32) : Zx g zX10_within [.int v, .int lo, .int hi] hh (some (.int (zb (lo ≤ v ∧ v ≤ hi)))) hh := by
  show Zn g zX10_within 0 [some (.int v), some (.int lo), some (.int hi)] [] hh 0 0 _
  refine zn_iload_n (pc := 0) rfl rfl ?_
  refine zn_iload_n (pc := 1) rfl rfl ?_
  refine zn_icmp_lt (pc := 2) (tgt := 14) (x := v) (y := lo) rfl rfl (fun c1 => ?_) (fun c1 => ?_)
  · refine zn_iconstN (pc := 14) 0 rfl rfl ?_
    exact zx_z (pc := 15) rfl rfl (by decide) (by rw [zb_f (by simp only [← Int32.toInt_inj, Int32.lt_iff_toInt_lt, Int32.le_iff_toInt_le] at *; omega)]; rfl) rfl
  · refine zn_iload_n (pc := 5) rfl rfl ?_
    refine zn_iload_n (pc := 6) rfl rfl ?_
    refine zn_icmp_gt (pc := 7) (tgt := 14) (x := v) (y := hi) rfl rfl (fun c2 => ?_) (fun c2 => ?_)
    · refine zn_iconstN (pc := 14) 0 rfl rfl ?_
      exact zx_z (pc := 15) rfl rfl (by decide) (by rw [zb_f (by simp only [← Int32.toInt_inj, Int32.lt_iff_toInt_lt, Int32.le_iff_toInt_le] at *; omega)]; rfl) rfl
    · refine zn_iconstN (pc := 10) 1 rfl rfl ?_
      refine zn_goto (pc := 11) (tgt := 15) rfl rfl ?_
      exact zx_z (pc := 15) rfl rfl (by decide) (by rw [zb_t (by simp only [← Int32.toInt_inj, Int32.lt_iff_toInt_lt, Int32.le_iff_toInt_le] at *; omega)]; rfl) rfl
theorem m_thrown   : Zx g zX10_thrown [.ref 50] (mhp h F S z A X) (some (.int (nI (F 0)))) (mhp h F S z A X) := by
  show Zn g zX10_thrown 0 [some (.ref 50)] [] (mhp h F S z A X) 0 0 _
  refine zn_aload_n (pc := 0) rfl rfl ?_
  refine zn_get (pc := 1) (v := .int (nI (F 0))) rfl rfl rfl ?_
  exact zx_i (pc := 4) rfl rfl rfl rfl
theorem m_cells  {l : Nat} (hl : l < 24) : Zx g zX10_cells [.ref 50, .int (nI l)] (mhp h F S z A X) (some (.int (nI (z (1 + l))))) (mhp h F S z A X) := by
  show Zn g zX10_cells 0 [some (.ref 50), some (.int (nI l))] [] (mhp h F S z A X) 0 0 _
  refine zn_aload_n (pc := 0) rfl rfl ?_
  refine zn_get (pc := 1) (v := .ref 51) rfl rfl rfl ?_
  refine zn_iconstN (pc := 4) 1 rfl rfl ?_
  refine zn_iload_n (pc := 5) rfl rfl ?_
  refine zn_iaddN (pc := 6) (x := 1) (y := l) rfl ?_
  refine zn_naLd (pc := 7) (o := 51) (n := 3289) (Z := z) (j := (1 + l)) rfl rfl (by omega) (by decide) ?_
  exact zx_i (pc := 8) rfl rfl rfl rfl
theorem m_lengthOf  {l c : Nat} (hl : l < 24) (hc : c < 8) : Zx g zX10_lengthOf [.ref 50, .int (nI l), .int (nI c)] (mhp h F S z A X) (some (.int (nI (z (25 + 8 * l + c))))) (mhp h F S z A X) := by
  show Zn g zX10_lengthOf 0 [some (.ref 50), some (.int (nI l)), some (.int (nI c))] [] (mhp h F S z A X) 0 0 _
  refine zn_aload_n (pc := 0) rfl rfl ?_
  refine zn_get (pc := 1) (v := .ref 51) rfl rfl rfl ?_
  refine zn_bipushN (pc := 4) 25 rfl rfl ?_
  refine zn_bipushN (pc := 6) 8 rfl rfl ?_
  refine zn_iload_n (pc := 8) rfl rfl ?_
  refine zn_imulN (pc := 9) (x := 8) (y := l) rfl ?_
  refine zn_iaddN (pc := 10) (x := 25) (y := (8 * l)) rfl ?_
  refine zn_iload_n (pc := 11) rfl rfl ?_
  refine zn_iaddN (pc := 12) (x := (25 + (8 * l))) (y := c) rfl ?_
  refine zn_naLd (pc := 13) (o := 51) (n := 3289) (Z := z) (j := ((25 + (8 * l)) + c)) rfl rfl (by omega) (by decide) ?_
  exact zx_i (pc := 14) rfl rfl rfl rfl
theorem m_setLength  {l c n : Nat} (hl : l < 24) (hc : c < 8) : Zx g zX10_setLength [.ref 50, .int (nI l), .int (nI c), .int (nI n)] (mhp h F S z A X) none (mhp h F S (va_up z (25 + 8 * l + c) n) A X) := by
  show Zn g zX10_setLength 0 [some (.ref 50), some (.int (nI l)), some (.int (nI c)), some (.int (nI n))] [] (mhp h F S z A X) 0 0 _
  refine zn_aload_n (pc := 0) rfl rfl ?_
  refine zn_get (pc := 1) (v := .ref 51) rfl rfl rfl ?_
  refine zn_bipushN (pc := 4) 25 rfl rfl ?_
  refine zn_bipushN (pc := 6) 8 rfl rfl ?_
  refine zn_iload_n (pc := 8) rfl rfl ?_
  refine zn_imulN (pc := 9) (x := 8) (y := l) rfl ?_
  refine zn_iaddN (pc := 10) (x := 25) (y := (8 * l)) rfl ?_
  refine zn_iload_n (pc := 11) rfl rfl ?_
  refine zn_iaddN (pc := 12) (x := (25 + (8 * l))) (y := c) rfl ?_
  refine zn_iload_n (pc := 13) rfl rfl ?_
  refine zm_stz (pc := 14) (j := ((25 + (8 * l)) + c)) (v := n) rfl (by omega) ?_
  exact zx_v (pc := 15) rfl rfl rfl rfl
theorem m_signOf  {l c k : Nat} (hl : l < 24) (hc : c < 8) (hk : k < 16) : Zx g zX10_signOf [.ref 50, .int (nI l), .int (nI c), .int (nI k)] (mhp h F S z A X) (some (.int (nI (z (217 + 16 * (8 * l + c) + k))))) (mhp h F S z A X) := by
  show Zn g zX10_signOf 0 [some (.ref 50), some (.int (nI l)), some (.int (nI c)), some (.int (nI k))] [] (mhp h F S z A X) 0 0 _
  refine zn_aload_n (pc := 0) rfl rfl ?_
  refine zn_get (pc := 1) (v := .ref 51) rfl rfl rfl ?_
  refine zn_iload_n (pc := 4) rfl rfl ?_
  refine zn_iload_n (pc := 5) rfl rfl ?_
  refine zn_iload_n (pc := 6) rfl rfl ?_
  refine zn_callSx (pc := 7) (J := zX10_place) (as := [.int (nI l), .int (nI c), .int (nI k)]) (rest := [.ref 51]) rfl (by decide) rfl rfl rfl rfl (Nat.le_of_ble_eq_true rfl) (Nat.le_of_ble_eq_true rfl) (Nat.le_of_ble_eq_true rfl) (Nat.le_of_ble_eq_true rfl) (m_place l c k) ?_
  refine zn_naLd (pc := 10) (o := 51) (n := 3289) (Z := z) (j := (217 + 16 * (8 * l + c) + k)) rfl rfl (by omega) (by decide) ?_
  exact zx_i (pc := 11) rfl rfl rfl rfl
/-- the text's numbers are in their limits -/
def mOK (z : Nat → Nat) : Prop := 1 ≤ z 0 ∧ z 0 ≤ 24 ∧ (∀ l, l < z 0 → 1 ≤ z (1 + l) ∧ z (1 + l) ≤ 8) ∧ (∀ l c, l < z 0 → c < z (1 + l) → z (25 + 8 * l + c) ≤ 16)
theorem m_isLine  (h0 : 1 ≤ z 0) (h1 : z 0 ≤ 24) (x : Int32) : Zx g zX10_isLine [.ref 50, .int x] (mhp h F S z A X) (some (.int (zb (zin x (z 0))))) (mhp h F S z A X) := by
  show Zn g zX10_isLine 0 [some (.ref 50), some (.int x)] [] (mhp h F S z A X) 0 0 _
  refine zn_iload_n (pc := 0) rfl rfl ?_
  refine zn_iconstN (pc := 1) 0 rfl rfl ?_
  refine zn_aload_n (pc := 2) rfl rfl ?_
  refine zn_get (pc := 3) (v := .ref 51) rfl rfl rfl ?_
  refine zn_iconstN (pc := 6) 0 rfl rfl ?_
  refine zn_naLd (pc := 7) (o := 51) (n := 3289) (Z := z) (j := 0) rfl rfl (by omega) (by decide) ?_
  refine zn_iconstN (pc := 8) 1 rfl rfl ?_
  refine zn_isubN (pc := 9) (x := (z 0)) (y := 1) rfl (by omega) ?_
  refine zn_callSx (pc := 10) (J := zX10_within) (as := [.int x, .int (nI 0), .int (nI ((z 0) - 1))]) (rest := []) rfl (by decide) rfl rfl rfl rfl (Nat.le_of_ble_eq_true rfl) (Nat.le_of_ble_eq_true rfl) (Nat.le_of_ble_eq_true rfl) (Nat.le_of_ble_eq_true rfl) (m_within x (nI 0) (nI ((z 0) - 1))) ?_
  exact zx_z (pc := 13) rfl rfl (zb_and _) (by rw [zb_iff (zin_w h0 (by omega))]) rfl
abbrev mCell (z : Nat → Nat) (x y : Int32) : Prop := zin x (z 0) ∧ zin y (z (1 + x.toNatClampNeg))
abbrev mPlace (z : Nat → Nat) (x y k : Int32) : Prop := mCell z x y ∧ zin k (z (25 + 8 * x.toNatClampNeg + y.toNatClampNeg) + 1)
theorem m_isCell  (hz : mOK z) (x y : Int32) : Zx g zX10_isCell [.ref 50, .int x, .int y] (mhp h F S z A X) (some (.int (zb (mCell z x y)))) (mhp h F S z A X) := by
  have h0 := hz.1
  have h1 := hz.2.1
  show Zn g zX10_isCell 0 [some (.ref 50), some (.int x), some (.int y)] [] (mhp h F S z A X) 0 0 _
  refine zn_aload_n (pc := 0) rfl rfl ?_
  refine zn_iload_n (pc := 1) rfl rfl ?_
  refine zn_callVx (pc := 2) (J := zX10_isLine) (o := 50) (as := [.int x]) (rest := []) rfl rfl rfl rfl rfl rfl rfl rfl (Nat.le_of_ble_eq_true rfl) (Nat.le_of_ble_eq_true rfl) (Nat.le_of_ble_eq_true rfl) (Nat.le_of_ble_eq_true rfl) (m_isLine (by omega) (by omega) x) ?_
  refine zn_if_eqB (pc := 5) (tgt := 27) rfl rfl (fun c1 => ?_) (fun c1 => ?_)
  · refine zn_iconstN (pc := 27) 0 rfl rfl ?_
    exact zx_z (pc := 28) rfl rfl (by decide) (by rw [zb_f (by exact fun q => c1 q.1)]; rfl) rfl
  · obtain ⟨l, hl, rfl⟩ := zin_ex c1 (by omega)
    have hzl := hz.2.2.1 l hl
    refine zn_iload_n (pc := 8) rfl rfl ?_
    refine zn_iconstN (pc := 9) 0 rfl rfl ?_
    refine zn_aload_n (pc := 10) rfl rfl ?_
    refine zn_iload_n (pc := 11) rfl rfl ?_
    refine zn_callVx (pc := 12) (J := zX10_cells) (o := 50) (as := [.int (nI l)]) (rest := [.int (nI 0), .int y]) rfl rfl rfl rfl rfl rfl rfl rfl (Nat.le_of_ble_eq_true rfl) (Nat.le_of_ble_eq_true rfl) (Nat.le_of_ble_eq_true rfl) (Nat.le_of_ble_eq_true rfl) (m_cells (l := l) (by omega)) ?_
    refine zn_iconstN (pc := 15) 1 rfl rfl ?_
    refine zn_isubN (pc := 16) (x := (z (1 + l))) (y := 1) rfl (by omega) ?_
    refine zn_callSx (pc := 17) (J := zX10_within) (as := [.int y, .int (nI 0), .int (nI ((z (1 + l)) - 1))]) (rest := []) rfl (by decide) rfl rfl rfl rfl (Nat.le_of_ble_eq_true rfl) (Nat.le_of_ble_eq_true rfl) (Nat.le_of_ble_eq_true rfl) (Nat.le_of_ble_eq_true rfl) (m_within y (nI 0) (nI ((z (1 + l)) - 1))) ?_
    refine zn_if_eqB (pc := 20) (tgt := 27) rfl rfl (fun c2 => ?_) (fun c2 => ?_)
    · refine zn_iconstN (pc := 27) 0 rfl rfl ?_
      exact zx_z (pc := 28) rfl rfl (by decide) (by rw [zb_f (by have e := nI_clamp (n := l) (by omega); unfold mCell; rw [e]; exact fun q => ‹¬ _› ((zin_w hzl.1 (by omega)).mpr q.2))]; rfl) rfl
    · refine zn_iconstN (pc := 23) 1 rfl rfl ?_
      refine zn_goto (pc := 24) (tgt := 28) rfl rfl ?_
      exact zx_z (pc := 28) rfl rfl (by decide) (by rw [zb_t (by have e := nI_clamp (n := l) (by omega); unfold mCell; rw [e]; exact ⟨(zin_nI (by omega)).mpr hl, (zin_w hzl.1 (by omega)).mp ‹_›⟩)]; rfl) rfl
theorem zn_top {I : zI} {pc : Nat} {L : zL} {st : List Value} {mc ms : Nat} {Q : zR → zH → Prop} {v v' : Value} (e : v = v') (K : Zn g I pc L (v' :: st) hh mc ms Q) : Zn g I pc L (v :: st) hh mc ms Q := by rw [e]; exact K
theorem dm_dec (x : Int32) : x + Int32.ofInt (-1) = x - 1 := by
  rw [Int32.sub_eq_add_neg]; rfl
/-- counting down: the counter is m - 1 -/
theorem dm_lt {m l : Nat} (hm : m < 2 ^ 30) (hl : l < 2 ^ 30) (c : nI m - 1 < nI l) : m ≤ l := by
  cases m with
  | zero => omega
  | succ k =>
    rw [nI_pred] at c
    have := (nI_ltI (show k < 2 ^ 31 by omega) (show l < 2 ^ 31 by omega)).mp c
    omega
theorem dm_ge {m l : Nat} (hm : m < 2 ^ 30) (hl : l < 2 ^ 30) (c : ¬ nI m - 1 < nI l) : ∃ k, m = k + 1 ∧ l ≤ k := by
  cases m with
  | zero => exact absurd (show nI 0 - 1 < nI l by
      rw [Int32.lt_iff_toInt_lt, nI_toInt (by omega), show (nI 0 - 1).toInt = -1 by decide +kernel]; omega) c
  | succ k =>
    rw [nI_pred] at c
    refine ⟨k, rfl, ?_⟩
    rcases Nat.lt_or_ge k l with q | q
    · exact absurd ((nI_ltI (by omega) (by omega)).mpr q) c
    · exact q
/-- cell (t, u) becomes cell (l, c), n of its signs -/
def mcpc (z : Nat → Nat) (t u l c n : Nat) : Nat → Nat := fun j => if j = 25 + 8 * t + u then z (25 + 8 * l + c) else if 217 + 16 * (8 * t + u) ≤ j ∧ j < 217 + 16 * (8 * t + u) + n then z (217 + 16 * (8 * l + c) + (j - (217 + 16 * (8 * t + u)))) else z j
/-- line t becomes line l, n of its cells -/
def mcpl (z : Nat → Nat) (t l n : Nat) : Nat → Nat := fun j => if j = 1 + t then z (1 + l) else if 25 + 8 * t ≤ j ∧ j < 25 + 8 * t + n then z (25 + 8 * l + (j - (25 + 8 * t))) else if 217 + 128 * t ≤ j ∧ j < 217 + 128 * t + 16 * n then z (217 + 128 * l + (j - (217 + 128 * t))) else z j
/-- the lines from m on go one further (there are n) -/
def mshf (z : Nat → Nat) (n m : Nat) : Nat → Nat := fun j => if 1 + m < j ∧ j ≤ 1 + n then z (j - 1) else if 25 + 8 * (m + 1) ≤ j ∧ j < 25 + 8 * (n + 1) then z (j - 8) else if 217 + 128 * (m + 1) ≤ j ∧ j < 217 + 128 * (n + 1) then z (j - 128) else z j
def mopl (z : Nat → Nat) (l : Nat) : Nat → Nat := va_up (va_up (va_up (mshf z (z 0) l) 0 (z 0 + 1)) (1 + l) 1) (25 + 8 * l + 0) 0
/-- the lines behind l come one nearer, up to k -/
def mbck (z : Nat → Nat) (l k : Nat) : Nat → Nat := fun j => if 1 + l ≤ j ∧ j < 1 + k then z (j + 1) else if 25 + 8 * l ≤ j ∧ j < 25 + 8 * k then z (j + 8) else if 217 + 128 * l ≤ j ∧ j < 217 + 128 * k then z (j + 128) else z j
def mcll (z : Nat → Nat) (l : Nat) : Nat → Nat := va_up (mbck z l (z 0 - 1)) 0 (z 0 - 1)
/-- the cells of line l from m on go one further (there are n) -/
def mshc (z : Nat → Nat) (l n m : Nat) : Nat → Nat := fun j => if 25 + 8 * l + m < j ∧ j ≤ 25 + 8 * l + n then z (j - 1) else if 217 + 16 * (8 * l + m + 1) ≤ j ∧ j < 217 + 16 * (8 * l + n + 1) then z (j - 16) else z j
def mopc (z : Nat → Nat) (l c : Nat) : Nat → Nat := va_up (va_up (mshc z l (z (1 + l)) c) (1 + l) (z (1 + l) + 1)) (25 + 8 * l + c) 0
/-- the cells of line l behind c come one nearer, up to k -/
def mbcc (z : Nat → Nat) (l c k : Nat) : Nat → Nat := fun j => if 25 + 8 * l + c ≤ j ∧ j < 25 + 8 * l + k then z (j + 1) else if 217 + 16 * (8 * l + c) ≤ j ∧ j < 217 + 16 * (8 * l + k) then z (j + 16) else z j
def mclc (z : Nat → Nat) (l c : Nat) : Nat → Nat := va_up (mbcc z l c (z (1 + l) - 1)) (1 + l) (z (1 + l) - 1)
/-- n signs of cell (l, c), from f on, behind what cell (t, u) has -/
def mtail (z : Nat → Nat) (l c f t u n : Nat) : Nat → Nat := fun j => if 217 + 16 * (8 * t + u) + z (25 + 8 * t + u) ≤ j ∧ j < 217 + 16 * (8 * t + u) + z (25 + 8 * t + u) + n then z (217 + 16 * (8 * l + c) + f + (j - (217 + 16 * (8 * t + u) + z (25 + 8 * t + u)))) else z j
def mgt (z : Nat → Nat) (l c f t u : Nat) : Nat → Nat := va_up (va_up (mtail z l c f t u (z (25 + 8 * l + c) - f)) (25 + 8 * t + u) (z (25 + 8 * t + u) + (z (25 + 8 * l + c) - f))) (25 + 8 * l + c) f
theorem m_copyCell_l {t u l c : Nat} (ht : t < 24) (hu : u < 8) (hl : l < 24) (hc : c < 8) (hne : 8 * t + u ≠ 8 * l + c) : ∀ (n : Nat) (k : Nat), k + n = 16 → Zn g zX10_copyCell 16 [some (.ref 50), some (.int (nI t)), some (.int (nI u)), some (.int (nI l)), some (.int (nI c)), some (.int (nI k))] [] (mhp h F S (mcpc z t u l c k) A X) 0 0 (fun r' h' => r' = .inl none ∧ h' = (mhp h F S (mcpc z t u l c 16) A X)) := by
  intro n
  induction n with
  | zero =>
    intro k hn0
    refine zn_iload (pc := 16) rfl rfl ?_
    refine zn_bipushN (pc := 18) 16 rfl rfl ?_
    refine zn_icmp_geN (pc := 20) (tgt := 50) (x := k) (y := 16) rfl rfl (by omega) (by omega) (fun c1 => ?_) (fun c1 => ?_)
    · obtain rfl : k = 16 := by omega
      exact zx_v (pc := 50) rfl rfl rfl rfl
    · refine zn_aload_n (pc := 23) rfl rfl ?_
      refine zn_get (pc := 24) (v := .ref 51) rfl rfl rfl ?_
      refine zn_iload_n (pc := 27) rfl rfl ?_
      refine zn_iload_n (pc := 28) rfl rfl ?_
      refine zn_iload (pc := 29) rfl rfl ?_
      refine zn_callSx (pc := 31) (J := zX10_place) (as := [.int (nI t), .int (nI u), .int (nI k)]) (rest := [.ref 51]) rfl (by decide) rfl rfl rfl rfl (Nat.le_of_ble_eq_true rfl) (Nat.le_of_ble_eq_true rfl) (Nat.le_of_ble_eq_true rfl) (Nat.le_of_ble_eq_true rfl) (m_place t u k) ?_
      refine zn_aload_n (pc := 34) rfl rfl ?_
      refine zn_iload_n (pc := 35) rfl rfl ?_
      refine zn_iload (pc := 36) rfl rfl ?_
      refine zn_iload (pc := 38) rfl rfl ?_
      refine zn_callVx (pc := 40) (J := zX10_signOf) (o := 50) (as := [.int (nI l), .int (nI c), .int (nI k)]) (rest := [.int (nI (217 + 16 * (8 * t + u) + k)), .ref 51]) rfl rfl rfl rfl rfl rfl rfl rfl (Nat.le_of_ble_eq_true rfl) (Nat.le_of_ble_eq_true rfl) (Nat.le_of_ble_eq_true rfl) (Nat.le_of_ble_eq_true rfl) (m_signOf (l := l) (c := c) (k := k) (by omega) (by omega) (by omega)) ?_
      refine zm_stz (pc := 43) (j := (217 + 16 * (8 * t + u) + k)) (v := ((mcpc z t u l c k) (217 + 16 * (8 * l + c) + k))) rfl (by omega) ?_
      refine zn_iincN (pc := 44) (L' := [some (.ref 50), some (.int (nI t)), some (.int (nI u)), some (.int (nI l)), some (.int (nI c)), some (.int (nI (k + 1)))]) 1 rfl rfl rfl (by decide) rfl ?_
      refine zn_goto (pc := 47) (tgt := 16) rfl rfl ?_
      exfalso; omega
  | succ n ih =>
    intro k hn0
    refine zn_iload (pc := 16) rfl rfl ?_
    refine zn_bipushN (pc := 18) 16 rfl rfl ?_
    refine zn_icmp_geN (pc := 20) (tgt := 50) (x := k) (y := 16) rfl rfl (by omega) (by omega) (fun c1 => ?_) (fun c1 => ?_)
    · obtain rfl : k = 16 := by omega
      exact zx_v (pc := 50) rfl rfl rfl rfl
    · refine zn_aload_n (pc := 23) rfl rfl ?_
      refine zn_get (pc := 24) (v := .ref 51) rfl rfl rfl ?_
      refine zn_iload_n (pc := 27) rfl rfl ?_
      refine zn_iload_n (pc := 28) rfl rfl ?_
      refine zn_iload (pc := 29) rfl rfl ?_
      refine zn_callSx (pc := 31) (J := zX10_place) (as := [.int (nI t), .int (nI u), .int (nI k)]) (rest := [.ref 51]) rfl (by decide) rfl rfl rfl rfl (Nat.le_of_ble_eq_true rfl) (Nat.le_of_ble_eq_true rfl) (Nat.le_of_ble_eq_true rfl) (Nat.le_of_ble_eq_true rfl) (m_place t u k) ?_
      refine zn_aload_n (pc := 34) rfl rfl ?_
      refine zn_iload_n (pc := 35) rfl rfl ?_
      refine zn_iload (pc := 36) rfl rfl ?_
      refine zn_iload (pc := 38) rfl rfl ?_
      refine zn_callVx (pc := 40) (J := zX10_signOf) (o := 50) (as := [.int (nI l), .int (nI c), .int (nI k)]) (rest := [.int (nI (217 + 16 * (8 * t + u) + k)), .ref 51]) rfl rfl rfl rfl rfl rfl rfl rfl (Nat.le_of_ble_eq_true rfl) (Nat.le_of_ble_eq_true rfl) (Nat.le_of_ble_eq_true rfl) (Nat.le_of_ble_eq_true rfl) (m_signOf (l := l) (c := c) (k := k) (by omega) (by omega) (by omega)) ?_
      refine zm_stz (pc := 43) (j := (217 + 16 * (8 * t + u) + k)) (v := ((mcpc z t u l c k) (217 + 16 * (8 * l + c) + k))) rfl (by omega) ?_
      refine zn_iincN (pc := 44) (L' := [some (.ref 50), some (.int (nI t)), some (.int (nI u)), some (.int (nI l)), some (.int (nI c)), some (.int (nI (k + 1)))]) 1 rfl rfl rfl (by decide) rfl ?_
      refine zn_goto (pc := 47) (tgt := 16) rfl rfl ?_
      refine zn_heq (h' := mhp h F S (mcpc z t u l c (k + 1)) A X) (congrArg (fun w => mhp h F S w A X) ?_) (ih (k + 1) (by omega))
      · funext j
        simp only [va_up, mcpc]
        repeat' split
        all_goals first | omega | exact congrArg z (by omega)
theorem m_copyCell  {t u l c : Nat} (ht : t < 24) (hu : u < 8) (hl : l < 24) (hc : c < 8) (hne : 8 * t + u ≠ 8 * l + c) : Zx g zX10_copyCell [.ref 50, .int (nI t), .int (nI u), .int (nI l), .int (nI c)] (mhp h F S z A X) none (mhp h F S (mcpc z t u l c 16) A X) := by
  show Zn g zX10_copyCell 0 [some (.ref 50), some (.int (nI t)), some (.int (nI u)), some (.int (nI l)), some (.int (nI c)), none] [] (mhp h F S z A X) 0 0 _
  refine zn_aload_n (pc := 0) rfl rfl ?_
  refine zn_iload_n (pc := 1) rfl rfl ?_
  refine zn_iload_n (pc := 2) rfl rfl ?_
  refine zn_aload_n (pc := 3) rfl rfl ?_
  refine zn_iload_n (pc := 4) rfl rfl ?_
  refine zn_iload (pc := 5) rfl rfl ?_
  refine zn_callVx (pc := 7) (J := zX10_lengthOf) (o := 50) (as := [.int (nI l), .int (nI c)]) (rest := [.int (nI u), .int (nI t), .ref 50]) rfl rfl rfl rfl rfl rfl rfl rfl (Nat.le_of_ble_eq_true rfl) (Nat.le_of_ble_eq_true rfl) (Nat.le_of_ble_eq_true rfl) (Nat.le_of_ble_eq_true rfl) (m_lengthOf (l := l) (c := c) (by omega) (by omega)) ?_
  refine zn_callVx (pc := 10) (J := zX10_setLength) (o := 50) (as := [.int (nI t), .int (nI u), .int (nI (z (25 + 8 * l + c)))]) (rest := []) rfl rfl rfl rfl rfl rfl rfl rfl (Nat.le_of_ble_eq_true rfl) (Nat.le_of_ble_eq_true rfl) (Nat.le_of_ble_eq_true rfl) (Nat.le_of_ble_eq_true rfl) (m_setLength (l := t) (c := u) (n := (z (25 + 8 * l + c))) (by omega) (by omega)) ?_
  refine zn_iconstN (pc := 13) 0 rfl rfl ?_
  refine zn_istore (pc := 14) (L' := [some (.ref 50), some (.int (nI t)), some (.int (nI u)), some (.int (nI l)), some (.int (nI c)), some (.int (nI 0))]) rfl (by decide) rfl ?_
  refine zn_heq (h' := mhp h F S (mcpc z t u l c 0) A X) (congrArg (fun w => mhp h F S w A X) ?_) (m_copyCell_l ht hu hl hc hne 16 0 (by omega))
  · funext j
    simp only [va_up, mcpc]
    repeat' split
    all_goals first | omega | exact congrArg z (by omega)
theorem m_copyLine_l {t l : Nat} (ht : t < 24) (hl : l < 24) (hne : t ≠ l) : ∀ (n : Nat) (k : Nat), k + n = 8 → Zn g zX10_copyLine 15 [some (.ref 50), some (.int (nI t)), some (.int (nI l)), some (.int (nI k))] [] (mhp h F S (mcpl z t l k) A X) 0 0 (fun r' h' => r' = .inl none ∧ h' = (mhp h F S (mcpl z t l 8) A X)) := by
  intro n
  induction n with
  | zero =>
    intro k hn0
    refine zn_iload_n (pc := 15) rfl rfl ?_
    refine zn_bipushN (pc := 16) 8 rfl rfl ?_
    refine zn_icmp_geN (pc := 18) (tgt := 35) (x := k) (y := 8) rfl rfl (by omega) (by omega) (fun c1 => ?_) (fun c1 => ?_)
    · obtain rfl : k = 8 := by omega
      exact zx_v (pc := 35) rfl rfl rfl rfl
    · refine zn_aload_n (pc := 21) rfl rfl ?_
      refine zn_iload_n (pc := 22) rfl rfl ?_
      refine zn_iload_n (pc := 23) rfl rfl ?_
      refine zn_iload_n (pc := 24) rfl rfl ?_
      refine zn_iload_n (pc := 25) rfl rfl ?_
      refine zn_callVx (pc := 26) (J := zX10_copyCell) (o := 50) (as := [.int (nI t), .int (nI k), .int (nI l), .int (nI k)]) (rest := []) rfl rfl rfl rfl rfl rfl rfl rfl (Nat.le_of_ble_eq_true rfl) (Nat.le_of_ble_eq_true rfl) (Nat.le_of_ble_eq_true rfl) (Nat.le_of_ble_eq_true rfl) (m_copyCell (t := t) (u := k) (l := l) (c := k) (by omega) (by omega) (by omega) (by omega) (by omega)) ?_
      refine zn_iincN (pc := 29) (L' := [some (.ref 50), some (.int (nI t)), some (.int (nI l)), some (.int (nI (k + 1)))]) 1 rfl rfl rfl (by decide) rfl ?_
      refine zn_goto (pc := 32) (tgt := 15) rfl rfl ?_
      exfalso; omega
  | succ n ih =>
    intro k hn0
    refine zn_iload_n (pc := 15) rfl rfl ?_
    refine zn_bipushN (pc := 16) 8 rfl rfl ?_
    refine zn_icmp_geN (pc := 18) (tgt := 35) (x := k) (y := 8) rfl rfl (by omega) (by omega) (fun c1 => ?_) (fun c1 => ?_)
    · obtain rfl : k = 8 := by omega
      exact zx_v (pc := 35) rfl rfl rfl rfl
    · refine zn_aload_n (pc := 21) rfl rfl ?_
      refine zn_iload_n (pc := 22) rfl rfl ?_
      refine zn_iload_n (pc := 23) rfl rfl ?_
      refine zn_iload_n (pc := 24) rfl rfl ?_
      refine zn_iload_n (pc := 25) rfl rfl ?_
      refine zn_callVx (pc := 26) (J := zX10_copyCell) (o := 50) (as := [.int (nI t), .int (nI k), .int (nI l), .int (nI k)]) (rest := []) rfl rfl rfl rfl rfl rfl rfl rfl (Nat.le_of_ble_eq_true rfl) (Nat.le_of_ble_eq_true rfl) (Nat.le_of_ble_eq_true rfl) (Nat.le_of_ble_eq_true rfl) (m_copyCell (t := t) (u := k) (l := l) (c := k) (by omega) (by omega) (by omega) (by omega) (by omega)) ?_
      refine zn_iincN (pc := 29) (L' := [some (.ref 50), some (.int (nI t)), some (.int (nI l)), some (.int (nI (k + 1)))]) 1 rfl rfl rfl (by decide) rfl ?_
      refine zn_goto (pc := 32) (tgt := 15) rfl rfl ?_
      refine zn_heq (h' := mhp h F S (mcpl z t l (k + 1)) A X) (congrArg (fun w => mhp h F S w A X) ?_) (ih (k + 1) (by omega))
      · funext j
        simp only [va_up, mcpl, mcpc]
        repeat' split
        all_goals first | omega | exact congrArg z (by omega)
theorem m_copyLine  {t l : Nat} (ht : t < 24) (hl : l < 24) (hne : t ≠ l) : Zx g zX10_copyLine [.ref 50, .int (nI t), .int (nI l)] (mhp h F S z A X) none (mhp h F S (mcpl z t l 8) A X) := by
  show Zn g zX10_copyLine 0 [some (.ref 50), some (.int (nI t)), some (.int (nI l)), none] [] (mhp h F S z A X) 0 0 _
  refine zn_aload_n (pc := 0) rfl rfl ?_
  refine zn_get (pc := 1) (v := .ref 51) rfl rfl rfl ?_
  refine zn_iconstN (pc := 4) 1 rfl rfl ?_
  refine zn_iload_n (pc := 5) rfl rfl ?_
  refine zn_iaddN (pc := 6) (x := 1) (y := t) rfl ?_
  refine zn_aload_n (pc := 7) rfl rfl ?_
  refine zn_iload_n (pc := 8) rfl rfl ?_
  refine zn_callVx (pc := 9) (J := zX10_cells) (o := 50) (as := [.int (nI l)]) (rest := [.int (nI (1 + t)), .ref 51]) rfl rfl rfl rfl rfl rfl rfl rfl (Nat.le_of_ble_eq_true rfl) (Nat.le_of_ble_eq_true rfl) (Nat.le_of_ble_eq_true rfl) (Nat.le_of_ble_eq_true rfl) (m_cells (l := l) (by omega)) ?_
  refine zm_stz (pc := 12) (j := (1 + t)) (v := (z (1 + l))) rfl (by omega) ?_
  refine zn_iconstN (pc := 13) 0 rfl rfl ?_
  refine zn_istore_n (pc := 14) (L' := [some (.ref 50), some (.int (nI t)), some (.int (nI l)), some (.int (nI 0))]) rfl (by decide) rfl ?_
  refine zn_heq (h' := mhp h F S (mcpl z t l 0) A X) (congrArg (fun w => mhp h F S w A X) ?_) (m_copyLine_l ht hl hne 8 0 (by omega))
  · funext j
    simp only [va_up, mcpl]
    repeat' split
    all_goals first | omega | exact congrArg z (by omega)
theorem m_openLine_l {l : Nat} (h0 : 1 ≤ z 0) (h1 : z 0 < 24) (hl : l ≤ z 0) : ∀ (n : Nat) (m : Nat), m = l + n → m ≤ z 0 → Zn g zX10_openLine 9 [some (.ref 50), some (.int (nI l)), some (.int (nI m - 1))] [] (mhp h F S (mshf z (z 0) m) A X) 0 0 (fun r' h' => r' = .inl none ∧ h' = (mhp h F S (mopl z l) A X)) := by
  intro n
  induction n with
  | zero =>
    intro m hn0 hn1
    refine zn_iload_n (pc := 9) rfl rfl ?_
    refine zn_iload_n (pc := 10) rfl rfl ?_
    refine zn_icmp_lt (pc := 11) (tgt := 28) (x := (nI m - 1)) (y := (nI l)) rfl rfl (fun c1 => ?_) (fun c1 => ?_)
    · have hm9 := dm_lt (by omega) (by omega) c1
      refine zn_aload_n (pc := 28) rfl rfl ?_
      refine zn_get (pc := 29) (v := .ref 51) rfl rfl rfl ?_
      refine zn_iconstN (pc := 32) 0 rfl rfl ?_
      refine zn_dup2 (pc := 33) rfl rfl rfl ?_
      refine zn_naLd (pc := 34) (o := 51) (n := 3289) (Z := (mshf z (z 0) m)) (j := 0) rfl rfl (by omega) (by decide) ?_
      refine zn_iconstN (pc := 35) 1 rfl rfl ?_
      refine zn_iaddN (pc := 36) (x := ((mshf z (z 0) m) 0)) (y := 1) rfl ?_
      refine zm_stz (pc := 37) (j := 0) (v := (((mshf z (z 0) m) 0) + 1)) rfl (by omega) ?_
      refine zn_aload_n (pc := 38) rfl rfl ?_
      refine zn_get (pc := 39) (v := .ref 51) rfl rfl rfl ?_
      refine zn_iconstN (pc := 42) 1 rfl rfl ?_
      refine zn_iload_n (pc := 43) rfl rfl ?_
      refine zn_iaddN (pc := 44) (x := 1) (y := l) rfl ?_
      refine zn_iconstN (pc := 45) 1 rfl rfl ?_
      refine zm_stz (pc := 46) (j := (1 + l)) (v := 1) rfl (by omega) ?_
      refine zn_aload_n (pc := 47) rfl rfl ?_
      refine zn_iload_n (pc := 48) rfl rfl ?_
      refine zn_iconstN (pc := 49) 0 rfl rfl ?_
      refine zn_iconstN (pc := 50) 0 rfl rfl ?_
      refine zn_callVx (pc := 51) (J := zX10_setLength) (o := 50) (as := [.int (nI l), .int (nI 0), .int (nI 0)]) (rest := []) rfl rfl rfl rfl rfl rfl rfl rfl (Nat.le_of_ble_eq_true rfl) (Nat.le_of_ble_eq_true rfl) (Nat.le_of_ble_eq_true rfl) (Nat.le_of_ble_eq_true rfl) (m_setLength (l := l) (c := 0) (n := 0) (by omega) (by omega)) ?_
      obtain rfl : m = l := by omega
      exact zx_v (pc := 54) rfl rfl rfl (congrArg (fun w => mhp h F S w A X) (by unfold mopl; rw [show mshf z (z 0) m 0 = z 0 by simp [mshf]]))
    · obtain ⟨k, rfl, hk9⟩ := dm_ge (by omega) (by omega) c1
      refine zn_sub (L' := [some (.ref 50), some (.int (nI l)), some (.int (nI k))]) ?_ ?_
      · exact ⟨rfl, rfl, by rw [nI_pred], trivial⟩
      refine zn_aload_n (pc := 14) rfl rfl ?_
      refine zn_iload_n (pc := 15) rfl rfl ?_
      refine zn_iconstN (pc := 16) 1 rfl rfl ?_
      refine zn_iaddN (pc := 17) (x := k) (y := 1) rfl ?_
      refine zn_iload_n (pc := 18) rfl rfl ?_
      refine zn_callVx (pc := 19) (J := zX10_copyLine) (o := 50) (as := [.int (nI (k + 1)), .int (nI k)]) (rest := []) rfl rfl rfl rfl rfl rfl rfl rfl (Nat.le_of_ble_eq_true rfl) (Nat.le_of_ble_eq_true rfl) (Nat.le_of_ble_eq_true rfl) (Nat.le_of_ble_eq_true rfl) (m_copyLine (t := (k + 1)) (l := k) (by omega) (by omega) (by omega)) ?_
      refine zn_iinc (pc := 22) (L' := [some (.ref 50), some (.int (nI l)), some (.int (nI k - 1))]) (v := nI k - 1) rfl rfl (dm_dec _) (by decide) rfl ?_
      refine zn_goto (pc := 25) (tgt := 9) rfl rfl ?_
      exfalso; omega
  | succ n ih =>
    intro m hn0 hn1
    refine zn_iload_n (pc := 9) rfl rfl ?_
    refine zn_iload_n (pc := 10) rfl rfl ?_
    refine zn_icmp_lt (pc := 11) (tgt := 28) (x := (nI m - 1)) (y := (nI l)) rfl rfl (fun c1 => ?_) (fun c1 => ?_)
    · have hm9 := dm_lt (by omega) (by omega) c1
      refine zn_aload_n (pc := 28) rfl rfl ?_
      refine zn_get (pc := 29) (v := .ref 51) rfl rfl rfl ?_
      refine zn_iconstN (pc := 32) 0 rfl rfl ?_
      refine zn_dup2 (pc := 33) rfl rfl rfl ?_
      refine zn_naLd (pc := 34) (o := 51) (n := 3289) (Z := (mshf z (z 0) m)) (j := 0) rfl rfl (by omega) (by decide) ?_
      refine zn_iconstN (pc := 35) 1 rfl rfl ?_
      refine zn_iaddN (pc := 36) (x := ((mshf z (z 0) m) 0)) (y := 1) rfl ?_
      refine zm_stz (pc := 37) (j := 0) (v := (((mshf z (z 0) m) 0) + 1)) rfl (by omega) ?_
      refine zn_aload_n (pc := 38) rfl rfl ?_
      refine zn_get (pc := 39) (v := .ref 51) rfl rfl rfl ?_
      refine zn_iconstN (pc := 42) 1 rfl rfl ?_
      refine zn_iload_n (pc := 43) rfl rfl ?_
      refine zn_iaddN (pc := 44) (x := 1) (y := l) rfl ?_
      refine zn_iconstN (pc := 45) 1 rfl rfl ?_
      refine zm_stz (pc := 46) (j := (1 + l)) (v := 1) rfl (by omega) ?_
      refine zn_aload_n (pc := 47) rfl rfl ?_
      refine zn_iload_n (pc := 48) rfl rfl ?_
      refine zn_iconstN (pc := 49) 0 rfl rfl ?_
      refine zn_iconstN (pc := 50) 0 rfl rfl ?_
      refine zn_callVx (pc := 51) (J := zX10_setLength) (o := 50) (as := [.int (nI l), .int (nI 0), .int (nI 0)]) (rest := []) rfl rfl rfl rfl rfl rfl rfl rfl (Nat.le_of_ble_eq_true rfl) (Nat.le_of_ble_eq_true rfl) (Nat.le_of_ble_eq_true rfl) (Nat.le_of_ble_eq_true rfl) (m_setLength (l := l) (c := 0) (n := 0) (by omega) (by omega)) ?_
      obtain rfl : m = l := by omega
      exact zx_v (pc := 54) rfl rfl rfl (congrArg (fun w => mhp h F S w A X) (by unfold mopl; rw [show mshf z (z 0) m 0 = z 0 by simp [mshf]]))
    · obtain ⟨k, rfl, hk9⟩ := dm_ge (by omega) (by omega) c1
      refine zn_sub (L' := [some (.ref 50), some (.int (nI l)), some (.int (nI k))]) ?_ ?_
      · exact ⟨rfl, rfl, by rw [nI_pred], trivial⟩
      refine zn_aload_n (pc := 14) rfl rfl ?_
      refine zn_iload_n (pc := 15) rfl rfl ?_
      refine zn_iconstN (pc := 16) 1 rfl rfl ?_
      refine zn_iaddN (pc := 17) (x := k) (y := 1) rfl ?_
      refine zn_iload_n (pc := 18) rfl rfl ?_
      refine zn_callVx (pc := 19) (J := zX10_copyLine) (o := 50) (as := [.int (nI (k + 1)), .int (nI k)]) (rest := []) rfl rfl rfl rfl rfl rfl rfl rfl (Nat.le_of_ble_eq_true rfl) (Nat.le_of_ble_eq_true rfl) (Nat.le_of_ble_eq_true rfl) (Nat.le_of_ble_eq_true rfl) (m_copyLine (t := (k + 1)) (l := k) (by omega) (by omega) (by omega)) ?_
      refine zn_iinc (pc := 22) (L' := [some (.ref 50), some (.int (nI l)), some (.int (nI k - 1))]) (v := nI k - 1) rfl rfl (dm_dec _) (by decide) rfl ?_
      refine zn_goto (pc := 25) (tgt := 9) rfl rfl ?_
      refine zn_heq (h' := mhp h F S (mshf z (z 0) k) A X) (congrArg (fun w => mhp h F S w A X) ?_) (ih k (by omega) (by omega))
      · funext j
        simp only [va_up, mshf, mcpl]
        repeat' split
        all_goals first | omega | exact congrArg z (by omega)
theorem m_openLine  {l : Nat} (h0 : 1 ≤ z 0) (h1 : z 0 < 24) (hl : l ≤ z 0) : Zx g zX10_openLine [.ref 50, .int (nI l)] (mhp h F S z A X) none (mhp h F S (mopl z l) A X) := by
  show Zn g zX10_openLine 0 [some (.ref 50), some (.int (nI l)), none] [] (mhp h F S z A X) 0 0 _
  refine zn_aload_n (pc := 0) rfl rfl ?_
  refine zn_get (pc := 1) (v := .ref 51) rfl rfl rfl ?_
  refine zn_iconstN (pc := 4) 0 rfl rfl ?_
  refine zn_naLd (pc := 5) (o := 51) (n := 3289) (Z := z) (j := 0) rfl rfl (by omega) (by decide) ?_
  refine zn_iconstN (pc := 6) 1 rfl rfl ?_
  refine zn_isub (pc := 7) rfl ?_
  refine zn_istore_n (pc := 8) (L' := [some (.ref 50), some (.int (nI l)), some (.int (nI (z 0) - 1))]) rfl (by decide) rfl ?_
  refine zn_heq (h' := mhp h F S (mshf z (z 0) (z 0)) A X) (congrArg (fun w => mhp h F S w A X) ?_) (m_openLine_l h0 h1 hl (z 0 - l) (z 0) (by omega) (by omega))
  · funext j
    simp only [va_up, mshf]
    repeat' split
    all_goals first | omega | exact congrArg z (by omega)
theorem m_closeLine_l {l : Nat} (h0 : 1 ≤ z 0) (h1 : z 0 ≤ 24) (hl : l < z 0) : ∀ (n : Nat) (k : Nat), k + 1 + n = z 0 → l ≤ k → Zn g zX10_closeLine 2 [some (.ref 50), some (.int (nI l)), some (.int (nI k))] [] (mhp h F S (mbck z l k) A X) 0 0 (fun r' h' => r' = .inl none ∧ h' = (mhp h F S (mcll z l) A X)) := by
  intro n
  induction n with
  | zero =>
    intro k hn0 hn1
    refine zn_iload_n (pc := 2) rfl rfl ?_
    refine zn_iconstN (pc := 3) 1 rfl rfl ?_
    refine zn_iaddN (pc := 4) (x := k) (y := 1) rfl ?_
    refine zn_aload_n (pc := 5) rfl rfl ?_
    refine zn_get (pc := 6) (v := .ref 51) rfl rfl rfl ?_
    refine zn_iconstN (pc := 9) 0 rfl rfl ?_
    refine zn_naLd (pc := 10) (o := 51) (n := 3289) (Z := (mbck z l k)) (j := 0) rfl rfl (by omega) (by decide) ?_
    refine zn_top (v' := .int (nI (z 0))) (by rw [show mbck z l k 0 = z 0 by simp [mbck]]) ?_
    refine zn_icmp_geN (pc := 11) (tgt := 28) (x := (k + 1)) (y := (z 0)) rfl rfl (by omega) (by omega) (fun c1 => ?_) (fun c1 => ?_)
    · refine zn_aload_n (pc := 28) rfl rfl ?_
      refine zn_get (pc := 29) (v := .ref 51) rfl rfl rfl ?_
      refine zn_iconstN (pc := 32) 0 rfl rfl ?_
      refine zn_dup2 (pc := 33) rfl rfl rfl ?_
      refine zn_naLd (pc := 34) (o := 51) (n := 3289) (Z := (mbck z l k)) (j := 0) rfl rfl (by omega) (by decide) ?_
      refine zn_top (v' := .int (nI (z 0))) (by rw [show mbck z l k 0 = z 0 by simp [mbck]]) ?_
      refine zn_iconstN (pc := 35) 1 rfl rfl ?_
      refine zn_isubN (pc := 36) (x := (z 0)) (y := 1) rfl (by omega) ?_
      refine zm_stz (pc := 37) (j := 0) (v := ((z 0) - 1)) rfl (by omega) ?_
      obtain rfl : k = z 0 - 1 := by omega
      exact zx_v (pc := 38) rfl rfl rfl rfl
    · refine zn_aload_n (pc := 14) rfl rfl ?_
      refine zn_iload_n (pc := 15) rfl rfl ?_
      refine zn_iload_n (pc := 16) rfl rfl ?_
      refine zn_iconstN (pc := 17) 1 rfl rfl ?_
      refine zn_iaddN (pc := 18) (x := k) (y := 1) rfl ?_
      refine zn_callVx (pc := 19) (J := zX10_copyLine) (o := 50) (as := [.int (nI k), .int (nI (k + 1))]) (rest := []) rfl rfl rfl rfl rfl rfl rfl rfl (Nat.le_of_ble_eq_true rfl) (Nat.le_of_ble_eq_true rfl) (Nat.le_of_ble_eq_true rfl) (Nat.le_of_ble_eq_true rfl) (m_copyLine (t := k) (l := (k + 1)) (by omega) (by omega) (by omega)) ?_
      refine zn_iincN (pc := 22) (L' := [some (.ref 50), some (.int (nI l)), some (.int (nI (k + 1)))]) 1 rfl rfl rfl (by decide) rfl ?_
      refine zn_goto (pc := 25) (tgt := 2) rfl rfl ?_
      exfalso; omega
  | succ n ih =>
    intro k hn0 hn1
    refine zn_iload_n (pc := 2) rfl rfl ?_
    refine zn_iconstN (pc := 3) 1 rfl rfl ?_
    refine zn_iaddN (pc := 4) (x := k) (y := 1) rfl ?_
    refine zn_aload_n (pc := 5) rfl rfl ?_
    refine zn_get (pc := 6) (v := .ref 51) rfl rfl rfl ?_
    refine zn_iconstN (pc := 9) 0 rfl rfl ?_
    refine zn_naLd (pc := 10) (o := 51) (n := 3289) (Z := (mbck z l k)) (j := 0) rfl rfl (by omega) (by decide) ?_
    refine zn_top (v' := .int (nI (z 0))) (by rw [show mbck z l k 0 = z 0 by simp [mbck]]) ?_
    refine zn_icmp_geN (pc := 11) (tgt := 28) (x := (k + 1)) (y := (z 0)) rfl rfl (by omega) (by omega) (fun c1 => ?_) (fun c1 => ?_)
    · refine zn_aload_n (pc := 28) rfl rfl ?_
      refine zn_get (pc := 29) (v := .ref 51) rfl rfl rfl ?_
      refine zn_iconstN (pc := 32) 0 rfl rfl ?_
      refine zn_dup2 (pc := 33) rfl rfl rfl ?_
      refine zn_naLd (pc := 34) (o := 51) (n := 3289) (Z := (mbck z l k)) (j := 0) rfl rfl (by omega) (by decide) ?_
      refine zn_top (v' := .int (nI (z 0))) (by rw [show mbck z l k 0 = z 0 by simp [mbck]]) ?_
      refine zn_iconstN (pc := 35) 1 rfl rfl ?_
      refine zn_isubN (pc := 36) (x := (z 0)) (y := 1) rfl (by omega) ?_
      refine zm_stz (pc := 37) (j := 0) (v := ((z 0) - 1)) rfl (by omega) ?_
      obtain rfl : k = z 0 - 1 := by omega
      exact zx_v (pc := 38) rfl rfl rfl rfl
    · refine zn_aload_n (pc := 14) rfl rfl ?_
      refine zn_iload_n (pc := 15) rfl rfl ?_
      refine zn_iload_n (pc := 16) rfl rfl ?_
      refine zn_iconstN (pc := 17) 1 rfl rfl ?_
      refine zn_iaddN (pc := 18) (x := k) (y := 1) rfl ?_
      refine zn_callVx (pc := 19) (J := zX10_copyLine) (o := 50) (as := [.int (nI k), .int (nI (k + 1))]) (rest := []) rfl rfl rfl rfl rfl rfl rfl rfl (Nat.le_of_ble_eq_true rfl) (Nat.le_of_ble_eq_true rfl) (Nat.le_of_ble_eq_true rfl) (Nat.le_of_ble_eq_true rfl) (m_copyLine (t := k) (l := (k + 1)) (by omega) (by omega) (by omega)) ?_
      refine zn_iincN (pc := 22) (L' := [some (.ref 50), some (.int (nI l)), some (.int (nI (k + 1)))]) 1 rfl rfl rfl (by decide) rfl ?_
      refine zn_goto (pc := 25) (tgt := 2) rfl rfl ?_
      refine zn_heq (h' := mhp h F S (mbck z l (k + 1)) A X) (congrArg (fun w => mhp h F S w A X) ?_) (ih (k + 1) (by omega) (by omega))
      · funext j
        simp only [va_up, mbck, mcpl]
        repeat' split
        all_goals first | omega | exact congrArg z (by omega)
theorem m_closeLine  {l : Nat} (h0 : 1 ≤ z 0) (h1 : z 0 ≤ 24) (hl : l < z 0) : Zx g zX10_closeLine [.ref 50, .int (nI l)] (mhp h F S z A X) none (mhp h F S (mcll z l) A X) := by
  show Zn g zX10_closeLine 0 [some (.ref 50), some (.int (nI l)), none] [] (mhp h F S z A X) 0 0 _
  refine zn_iload_n (pc := 0) rfl rfl ?_
  refine zn_istore_n (pc := 1) (L' := [some (.ref 50), some (.int (nI l)), some (.int (nI l))]) rfl (by decide) rfl ?_
  refine zn_heq (h' := mhp h F S (mbck z l l) A X) (congrArg (fun w => mhp h F S w A X) ?_) (m_closeLine_l h0 h1 hl (z 0 - 1 - l) l (by omega) (by omega))
  · funext j
    simp only [va_up, mbck]
    repeat' split
    all_goals first | omega | exact congrArg z (by omega)
theorem m_openCell_l {l c : Nat} (hl : l < 24) (h1 : z (1 + l) < 8) (hc : c ≤ z (1 + l)) : ∀ (n : Nat) (m : Nat), m = c + n → m ≤ z (1 + l) → Zn g zX10_openCell 8 [some (.ref 50), some (.int (nI l)), some (.int (nI c)), some (.int (nI m - 1))] [] (mhp h F S (mshc z l (z (1 + l)) m) A X) 0 0 (fun r' h' => r' = .inl none ∧ h' = (mhp h F S (mopc z l c) A X)) := by
  intro n
  induction n with
  | zero =>
    intro m hn0 hn1
    refine zn_iload_n (pc := 8) rfl rfl ?_
    refine zn_iload_n (pc := 9) rfl rfl ?_
    refine zn_icmp_lt (pc := 10) (tgt := 29) (x := (nI m - 1)) (y := (nI c)) rfl rfl (fun c1 => ?_) (fun c1 => ?_)
    · have hm9 := dm_lt (by omega) (by omega) c1
      refine zn_aload_n (pc := 29) rfl rfl ?_
      refine zn_get (pc := 30) (v := .ref 51) rfl rfl rfl ?_
      refine zn_iconstN (pc := 33) 1 rfl rfl ?_
      refine zn_iload_n (pc := 34) rfl rfl ?_
      refine zn_iaddN (pc := 35) (x := 1) (y := l) rfl ?_
      refine zn_dup2 (pc := 36) rfl rfl rfl ?_
      refine zn_naLd (pc := 37) (o := 51) (n := 3289) (Z := (mshc z l (z (1 + l)) m)) (j := (1 + l)) rfl rfl (by omega) (by decide) ?_
      refine zn_top (v' := .int (nI (z (1 + l)))) (by rw [show mshc z l (z (1 + l)) m (1 + l) = z (1 + l) by unfold mshc; rw [if_neg (by omega), if_neg (by omega)]]) ?_
      refine zn_iconstN (pc := 38) 1 rfl rfl ?_
      refine zn_iaddN (pc := 39) (x := (z (1 + l))) (y := 1) rfl ?_
      refine zm_stz (pc := 40) (j := (1 + l)) (v := ((z (1 + l)) + 1)) rfl (by omega) ?_
      refine zn_aload_n (pc := 41) rfl rfl ?_
      refine zn_iload_n (pc := 42) rfl rfl ?_
      refine zn_iload_n (pc := 43) rfl rfl ?_
      refine zn_iconstN (pc := 44) 0 rfl rfl ?_
      refine zn_callVx (pc := 45) (J := zX10_setLength) (o := 50) (as := [.int (nI l), .int (nI c), .int (nI 0)]) (rest := []) rfl rfl rfl rfl rfl rfl rfl rfl (Nat.le_of_ble_eq_true rfl) (Nat.le_of_ble_eq_true rfl) (Nat.le_of_ble_eq_true rfl) (Nat.le_of_ble_eq_true rfl) (m_setLength (l := l) (c := c) (n := 0) (by omega) (by omega)) ?_
      obtain rfl : m = c := by omega
      exact zx_v (pc := 48) rfl rfl rfl rfl
    · obtain ⟨k, rfl, hk9⟩ := dm_ge (by omega) (by omega) c1
      refine zn_sub (L' := [some (.ref 50), some (.int (nI l)), some (.int (nI c)), some (.int (nI k))]) ?_ ?_
      · exact ⟨rfl, rfl, rfl, by rw [nI_pred], trivial⟩
      refine zn_aload_n (pc := 13) rfl rfl ?_
      refine zn_iload_n (pc := 14) rfl rfl ?_
      refine zn_iload_n (pc := 15) rfl rfl ?_
      refine zn_iconstN (pc := 16) 1 rfl rfl ?_
      refine zn_iaddN (pc := 17) (x := k) (y := 1) rfl ?_
      refine zn_iload_n (pc := 18) rfl rfl ?_
      refine zn_iload_n (pc := 19) rfl rfl ?_
      refine zn_callVx (pc := 20) (J := zX10_copyCell) (o := 50) (as := [.int (nI l), .int (nI (k + 1)), .int (nI l), .int (nI k)]) (rest := []) rfl rfl rfl rfl rfl rfl rfl rfl (Nat.le_of_ble_eq_true rfl) (Nat.le_of_ble_eq_true rfl) (Nat.le_of_ble_eq_true rfl) (Nat.le_of_ble_eq_true rfl) (m_copyCell (t := l) (u := (k + 1)) (l := l) (c := k) (by omega) (by omega) (by omega) (by omega) (by omega)) ?_
      refine zn_iinc (pc := 23) (L' := [some (.ref 50), some (.int (nI l)), some (.int (nI c)), some (.int (nI k - 1))]) (v := nI k - 1) rfl rfl (dm_dec _) (by decide) rfl ?_
      refine zn_goto (pc := 26) (tgt := 8) rfl rfl ?_
      exfalso; omega
  | succ n ih =>
    intro m hn0 hn1
    refine zn_iload_n (pc := 8) rfl rfl ?_
    refine zn_iload_n (pc := 9) rfl rfl ?_
    refine zn_icmp_lt (pc := 10) (tgt := 29) (x := (nI m - 1)) (y := (nI c)) rfl rfl (fun c1 => ?_) (fun c1 => ?_)
    · have hm9 := dm_lt (by omega) (by omega) c1
      refine zn_aload_n (pc := 29) rfl rfl ?_
      refine zn_get (pc := 30) (v := .ref 51) rfl rfl rfl ?_
      refine zn_iconstN (pc := 33) 1 rfl rfl ?_
      refine zn_iload_n (pc := 34) rfl rfl ?_
      refine zn_iaddN (pc := 35) (x := 1) (y := l) rfl ?_
      refine zn_dup2 (pc := 36) rfl rfl rfl ?_
      refine zn_naLd (pc := 37) (o := 51) (n := 3289) (Z := (mshc z l (z (1 + l)) m)) (j := (1 + l)) rfl rfl (by omega) (by decide) ?_
      refine zn_top (v' := .int (nI (z (1 + l)))) (by rw [show mshc z l (z (1 + l)) m (1 + l) = z (1 + l) by unfold mshc; rw [if_neg (by omega), if_neg (by omega)]]) ?_
      refine zn_iconstN (pc := 38) 1 rfl rfl ?_
      refine zn_iaddN (pc := 39) (x := (z (1 + l))) (y := 1) rfl ?_
      refine zm_stz (pc := 40) (j := (1 + l)) (v := ((z (1 + l)) + 1)) rfl (by omega) ?_
      refine zn_aload_n (pc := 41) rfl rfl ?_
      refine zn_iload_n (pc := 42) rfl rfl ?_
      refine zn_iload_n (pc := 43) rfl rfl ?_
      refine zn_iconstN (pc := 44) 0 rfl rfl ?_
      refine zn_callVx (pc := 45) (J := zX10_setLength) (o := 50) (as := [.int (nI l), .int (nI c), .int (nI 0)]) (rest := []) rfl rfl rfl rfl rfl rfl rfl rfl (Nat.le_of_ble_eq_true rfl) (Nat.le_of_ble_eq_true rfl) (Nat.le_of_ble_eq_true rfl) (Nat.le_of_ble_eq_true rfl) (m_setLength (l := l) (c := c) (n := 0) (by omega) (by omega)) ?_
      obtain rfl : m = c := by omega
      exact zx_v (pc := 48) rfl rfl rfl rfl
    · obtain ⟨k, rfl, hk9⟩ := dm_ge (by omega) (by omega) c1
      refine zn_sub (L' := [some (.ref 50), some (.int (nI l)), some (.int (nI c)), some (.int (nI k))]) ?_ ?_
      · exact ⟨rfl, rfl, rfl, by rw [nI_pred], trivial⟩
      refine zn_aload_n (pc := 13) rfl rfl ?_
      refine zn_iload_n (pc := 14) rfl rfl ?_
      refine zn_iload_n (pc := 15) rfl rfl ?_
      refine zn_iconstN (pc := 16) 1 rfl rfl ?_
      refine zn_iaddN (pc := 17) (x := k) (y := 1) rfl ?_
      refine zn_iload_n (pc := 18) rfl rfl ?_
      refine zn_iload_n (pc := 19) rfl rfl ?_
      refine zn_callVx (pc := 20) (J := zX10_copyCell) (o := 50) (as := [.int (nI l), .int (nI (k + 1)), .int (nI l), .int (nI k)]) (rest := []) rfl rfl rfl rfl rfl rfl rfl rfl (Nat.le_of_ble_eq_true rfl) (Nat.le_of_ble_eq_true rfl) (Nat.le_of_ble_eq_true rfl) (Nat.le_of_ble_eq_true rfl) (m_copyCell (t := l) (u := (k + 1)) (l := l) (c := k) (by omega) (by omega) (by omega) (by omega) (by omega)) ?_
      refine zn_iinc (pc := 23) (L' := [some (.ref 50), some (.int (nI l)), some (.int (nI c)), some (.int (nI k - 1))]) (v := nI k - 1) rfl rfl (dm_dec _) (by decide) rfl ?_
      refine zn_goto (pc := 26) (tgt := 8) rfl rfl ?_
      refine zn_heq (h' := mhp h F S (mshc z l (z (1 + l)) k) A X) (congrArg (fun w => mhp h F S w A X) ?_) (ih k (by omega) (by omega))
      · funext j
        simp only [va_up, mshc, mcpc]
        repeat' split
        all_goals first | omega | exact congrArg z (by omega)
theorem m_openCell  {l c : Nat} (hl : l < 24) (h1 : z (1 + l) < 8) (hc : c ≤ z (1 + l)) : Zx g zX10_openCell [.ref 50, .int (nI l), .int (nI c)] (mhp h F S z A X) none (mhp h F S (mopc z l c) A X) := by
  show Zn g zX10_openCell 0 [some (.ref 50), some (.int (nI l)), some (.int (nI c)), none] [] (mhp h F S z A X) 0 0 _
  refine zn_aload_n (pc := 0) rfl rfl ?_
  refine zn_iload_n (pc := 1) rfl rfl ?_
  refine zn_callVx (pc := 2) (J := zX10_cells) (o := 50) (as := [.int (nI l)]) (rest := []) rfl rfl rfl rfl rfl rfl rfl rfl (Nat.le_of_ble_eq_true rfl) (Nat.le_of_ble_eq_true rfl) (Nat.le_of_ble_eq_true rfl) (Nat.le_of_ble_eq_true rfl) (m_cells (l := l) (by omega)) ?_
  refine zn_iconstN (pc := 5) 1 rfl rfl ?_
  refine zn_isub (pc := 6) rfl ?_
  refine zn_istore_n (pc := 7) (L' := [some (.ref 50), some (.int (nI l)), some (.int (nI c)), some (.int (nI (z (1 + l)) - 1))]) rfl (by decide) rfl ?_
  refine zn_heq (h' := mhp h F S (mshc z l (z (1 + l)) (z (1 + l))) A X) (congrArg (fun w => mhp h F S w A X) ?_) (m_openCell_l hl h1 hc (z (1 + l) - c) (z (1 + l)) (by omega) (by omega))
  · funext j
    simp only [va_up, mshc]
    repeat' split
    all_goals first | omega | exact congrArg z (by omega)
theorem m_closeCell_l {l c : Nat} (hl : l < 24) (h1 : z (1 + l) ≤ 8) (hc : c < z (1 + l)) : ∀ (n : Nat) (k : Nat), k + 1 + n = z (1 + l) → c ≤ k → Zn g zX10_closeCell 2 [some (.ref 50), some (.int (nI l)), some (.int (nI c)), some (.int (nI k))] [] (mhp h F S (mbcc z l c k) A X) 0 0 (fun r' h' => r' = .inl none ∧ h' = (mhp h F S (mclc z l c) A X)) := by
  intro n
  induction n with
  | zero =>
    intro k hn0 hn1
    refine zn_iload_n (pc := 2) rfl rfl ?_
    refine zn_iconstN (pc := 3) 1 rfl rfl ?_
    refine zn_iaddN (pc := 4) (x := k) (y := 1) rfl ?_
    refine zn_aload_n (pc := 5) rfl rfl ?_
    refine zn_iload_n (pc := 6) rfl rfl ?_
    refine zn_callVx (pc := 7) (J := zX10_cells) (o := 50) (as := [.int (nI l)]) (rest := [.int (nI (k + 1))]) rfl rfl rfl rfl rfl rfl rfl rfl (Nat.le_of_ble_eq_true rfl) (Nat.le_of_ble_eq_true rfl) (Nat.le_of_ble_eq_true rfl) (Nat.le_of_ble_eq_true rfl) (m_cells (l := l) (by omega)) ?_
    refine zn_top (v' := .int (nI (z (1 + l)))) (by rw [show mbcc z l c k (1 + l) = z (1 + l) by unfold mbcc; rw [if_neg (by omega), if_neg (by omega)]]) ?_
    refine zn_icmp_geN (pc := 10) (tgt := 29) (x := (k + 1)) (y := (z (1 + l))) rfl rfl (by omega) (by omega) (fun c1 => ?_) (fun c1 => ?_)
    · refine zn_aload_n (pc := 29) rfl rfl ?_
      refine zn_get (pc := 30) (v := .ref 51) rfl rfl rfl ?_
      refine zn_iconstN (pc := 33) 1 rfl rfl ?_
      refine zn_iload_n (pc := 34) rfl rfl ?_
      refine zn_iaddN (pc := 35) (x := 1) (y := l) rfl ?_
      refine zn_dup2 (pc := 36) rfl rfl rfl ?_
      refine zn_naLd (pc := 37) (o := 51) (n := 3289) (Z := (mbcc z l c k)) (j := (1 + l)) rfl rfl (by omega) (by decide) ?_
      refine zn_top (v' := .int (nI (z (1 + l)))) (by rw [show mbcc z l c k (1 + l) = z (1 + l) by unfold mbcc; rw [if_neg (by omega), if_neg (by omega)]]) ?_
      refine zn_iconstN (pc := 38) 1 rfl rfl ?_
      refine zn_isubN (pc := 39) (x := (z (1 + l))) (y := 1) rfl (by omega) ?_
      refine zm_stz (pc := 40) (j := (1 + l)) (v := ((z (1 + l)) - 1)) rfl (by omega) ?_
      obtain rfl : k = z (1 + l) - 1 := by omega
      exact zx_v (pc := 41) rfl rfl rfl rfl
    · refine zn_aload_n (pc := 13) rfl rfl ?_
      refine zn_iload_n (pc := 14) rfl rfl ?_
      refine zn_iload_n (pc := 15) rfl rfl ?_
      refine zn_iload_n (pc := 16) rfl rfl ?_
      refine zn_iload_n (pc := 17) rfl rfl ?_
      refine zn_iconstN (pc := 18) 1 rfl rfl ?_
      refine zn_iaddN (pc := 19) (x := k) (y := 1) rfl ?_
      refine zn_callVx (pc := 20) (J := zX10_copyCell) (o := 50) (as := [.int (nI l), .int (nI k), .int (nI l), .int (nI (k + 1))]) (rest := []) rfl rfl rfl rfl rfl rfl rfl rfl (Nat.le_of_ble_eq_true rfl) (Nat.le_of_ble_eq_true rfl) (Nat.le_of_ble_eq_true rfl) (Nat.le_of_ble_eq_true rfl) (m_copyCell (t := l) (u := k) (l := l) (c := (k + 1)) (by omega) (by omega) (by omega) (by omega) (by omega)) ?_
      refine zn_iincN (pc := 23) (L' := [some (.ref 50), some (.int (nI l)), some (.int (nI c)), some (.int (nI (k + 1)))]) 1 rfl rfl rfl (by decide) rfl ?_
      refine zn_goto (pc := 26) (tgt := 2) rfl rfl ?_
      exfalso; omega
  | succ n ih =>
    intro k hn0 hn1
    refine zn_iload_n (pc := 2) rfl rfl ?_
    refine zn_iconstN (pc := 3) 1 rfl rfl ?_
    refine zn_iaddN (pc := 4) (x := k) (y := 1) rfl ?_
    refine zn_aload_n (pc := 5) rfl rfl ?_
    refine zn_iload_n (pc := 6) rfl rfl ?_
    refine zn_callVx (pc := 7) (J := zX10_cells) (o := 50) (as := [.int (nI l)]) (rest := [.int (nI (k + 1))]) rfl rfl rfl rfl rfl rfl rfl rfl (Nat.le_of_ble_eq_true rfl) (Nat.le_of_ble_eq_true rfl) (Nat.le_of_ble_eq_true rfl) (Nat.le_of_ble_eq_true rfl) (m_cells (l := l) (by omega)) ?_
    refine zn_top (v' := .int (nI (z (1 + l)))) (by rw [show mbcc z l c k (1 + l) = z (1 + l) by unfold mbcc; rw [if_neg (by omega), if_neg (by omega)]]) ?_
    refine zn_icmp_geN (pc := 10) (tgt := 29) (x := (k + 1)) (y := (z (1 + l))) rfl rfl (by omega) (by omega) (fun c1 => ?_) (fun c1 => ?_)
    · refine zn_aload_n (pc := 29) rfl rfl ?_
      refine zn_get (pc := 30) (v := .ref 51) rfl rfl rfl ?_
      refine zn_iconstN (pc := 33) 1 rfl rfl ?_
      refine zn_iload_n (pc := 34) rfl rfl ?_
      refine zn_iaddN (pc := 35) (x := 1) (y := l) rfl ?_
      refine zn_dup2 (pc := 36) rfl rfl rfl ?_
      refine zn_naLd (pc := 37) (o := 51) (n := 3289) (Z := (mbcc z l c k)) (j := (1 + l)) rfl rfl (by omega) (by decide) ?_
      refine zn_top (v' := .int (nI (z (1 + l)))) (by rw [show mbcc z l c k (1 + l) = z (1 + l) by unfold mbcc; rw [if_neg (by omega), if_neg (by omega)]]) ?_
      refine zn_iconstN (pc := 38) 1 rfl rfl ?_
      refine zn_isubN (pc := 39) (x := (z (1 + l))) (y := 1) rfl (by omega) ?_
      refine zm_stz (pc := 40) (j := (1 + l)) (v := ((z (1 + l)) - 1)) rfl (by omega) ?_
      obtain rfl : k = z (1 + l) - 1 := by omega
      exact zx_v (pc := 41) rfl rfl rfl rfl
    · refine zn_aload_n (pc := 13) rfl rfl ?_
      refine zn_iload_n (pc := 14) rfl rfl ?_
      refine zn_iload_n (pc := 15) rfl rfl ?_
      refine zn_iload_n (pc := 16) rfl rfl ?_
      refine zn_iload_n (pc := 17) rfl rfl ?_
      refine zn_iconstN (pc := 18) 1 rfl rfl ?_
      refine zn_iaddN (pc := 19) (x := k) (y := 1) rfl ?_
      refine zn_callVx (pc := 20) (J := zX10_copyCell) (o := 50) (as := [.int (nI l), .int (nI k), .int (nI l), .int (nI (k + 1))]) (rest := []) rfl rfl rfl rfl rfl rfl rfl rfl (Nat.le_of_ble_eq_true rfl) (Nat.le_of_ble_eq_true rfl) (Nat.le_of_ble_eq_true rfl) (Nat.le_of_ble_eq_true rfl) (m_copyCell (t := l) (u := k) (l := l) (c := (k + 1)) (by omega) (by omega) (by omega) (by omega) (by omega)) ?_
      refine zn_iincN (pc := 23) (L' := [some (.ref 50), some (.int (nI l)), some (.int (nI c)), some (.int (nI (k + 1)))]) 1 rfl rfl rfl (by decide) rfl ?_
      refine zn_goto (pc := 26) (tgt := 2) rfl rfl ?_
      refine zn_heq (h' := mhp h F S (mbcc z l c (k + 1)) A X) (congrArg (fun w => mhp h F S w A X) ?_) (ih (k + 1) (by omega) (by omega))
      · funext j
        simp only [va_up, mbcc, mcpc]
        repeat' split
        all_goals first | omega | exact congrArg z (by omega)
theorem m_closeCell  {l c : Nat} (hl : l < 24) (h1 : z (1 + l) ≤ 8) (hc : c < z (1 + l)) : Zx g zX10_closeCell [.ref 50, .int (nI l), .int (nI c)] (mhp h F S z A X) none (mhp h F S (mclc z l c) A X) := by
  show Zn g zX10_closeCell 0 [some (.ref 50), some (.int (nI l)), some (.int (nI c)), none] [] (mhp h F S z A X) 0 0 _
  refine zn_iload_n (pc := 0) rfl rfl ?_
  refine zn_istore_n (pc := 1) (L' := [some (.ref 50), some (.int (nI l)), some (.int (nI c)), some (.int (nI c))]) rfl (by decide) rfl ?_
  refine zn_heq (h' := mhp h F S (mbcc z l c c) A X) (congrArg (fun w => mhp h F S w A X) ?_) (m_closeCell_l hl h1 hc (z (1 + l) - 1 - c) c (by omega) (by omega))
  · funext j
    simp only [va_up, mbcc]
    repeat' split
    all_goals first | omega | exact congrArg z (by omega)
theorem m_giveTail_l {l c f t u : Nat} (hl : l < 24) (hc : c < 8) (ht : t < 24) (hu : u < 8) (hne : 8 * t + u ≠ 8 * l + c) (hf : f ≤ z (25 + 8 * l + c)) (h16 : z (25 + 8 * l + c) ≤ 16) (hs : z (25 + 8 * t + u) + (z (25 + 8 * l + c) - f) ≤ 16) : ∀ (n : Nat) (d : Nat), f + d + n = z (25 + 8 * l + c) → Zn g zX10_giveTail 13 [some (.ref 50), some (.int (nI l)), some (.int (nI c)), some (.int (nI f)), some (.int (nI t)), some (.int (nI u)), some (.int (nI (z (25 + 8 * t + u) + d))), some (.int (nI (f + d)))] [] (mhp h F S (mtail z l c f t u d) A X) 0 0 (fun r' h' => r' = .inl none ∧ h' = (mhp h F S (mgt z l c f t u) A X)) := by
  intro n
  induction n with
  | zero =>
    intro d hn0
    refine zn_iload (pc := 13) rfl rfl ?_
    refine zn_aload_n (pc := 15) rfl rfl ?_
    refine zn_iload_n (pc := 16) rfl rfl ?_
    refine zn_iload_n (pc := 17) rfl rfl ?_
    refine zn_callVx (pc := 18) (J := zX10_lengthOf) (o := 50) (as := [.int (nI l), .int (nI c)]) (rest := [.int (nI (f + d))]) rfl rfl rfl rfl rfl rfl rfl rfl (Nat.le_of_ble_eq_true rfl) (Nat.le_of_ble_eq_true rfl) (Nat.le_of_ble_eq_true rfl) (Nat.le_of_ble_eq_true rfl) (m_lengthOf (l := l) (c := c) (by omega) (by omega)) ?_
    refine zn_top (v' := .int (nI (z (25 + 8 * l + c)))) (by rw [show mtail z l c f t u d (25 + 8 * l + c) = z (25 + 8 * l + c) by unfold mtail; rw [if_neg (by omega)]]) ?_
    refine zn_icmp_geN (pc := 21) (tgt := 55) (x := (f + d)) (y := (z (25 + 8 * l + c))) rfl rfl (by omega) (by omega) (fun c1 => ?_) (fun c1 => ?_)
    · refine zn_aload_n (pc := 55) rfl rfl ?_
      refine zn_iload (pc := 56) rfl rfl ?_
      refine zn_iload (pc := 58) rfl rfl ?_
      refine zn_iload (pc := 60) rfl rfl ?_
      refine zn_callVx (pc := 62) (J := zX10_setLength) (o := 50) (as := [.int (nI t), .int (nI u), .int (nI (z (25 + 8 * t + u) + d))]) (rest := []) rfl rfl rfl rfl rfl rfl rfl rfl (Nat.le_of_ble_eq_true rfl) (Nat.le_of_ble_eq_true rfl) (Nat.le_of_ble_eq_true rfl) (Nat.le_of_ble_eq_true rfl) (m_setLength (l := t) (c := u) (n := (z (25 + 8 * t + u) + d)) (by omega) (by omega)) ?_
      refine zn_aload_n (pc := 65) rfl rfl ?_
      refine zn_iload_n (pc := 66) rfl rfl ?_
      refine zn_iload_n (pc := 67) rfl rfl ?_
      refine zn_iload_n (pc := 68) rfl rfl ?_
      refine zn_callVx (pc := 69) (J := zX10_setLength) (o := 50) (as := [.int (nI l), .int (nI c), .int (nI f)]) (rest := []) rfl rfl rfl rfl rfl rfl rfl rfl (Nat.le_of_ble_eq_true rfl) (Nat.le_of_ble_eq_true rfl) (Nat.le_of_ble_eq_true rfl) (Nat.le_of_ble_eq_true rfl) (m_setLength (l := l) (c := c) (n := f) (by omega) (by omega)) ?_
      obtain rfl : d = z (25 + 8 * l + c) - f := by omega
      exact zx_v (pc := 72) rfl rfl rfl rfl
    · refine zn_aload_n (pc := 24) rfl rfl ?_
      refine zn_get (pc := 25) (v := .ref 51) rfl rfl rfl ?_
      refine zn_iload (pc := 28) rfl rfl ?_
      refine zn_iload (pc := 30) rfl rfl ?_
      refine zn_iload (pc := 32) rfl rfl ?_
      refine zn_callSx (pc := 34) (J := zX10_place) (as := [.int (nI t), .int (nI u), .int (nI (z (25 + 8 * t + u) + d))]) (rest := [.ref 51]) rfl (by decide) rfl rfl rfl rfl (Nat.le_of_ble_eq_true rfl) (Nat.le_of_ble_eq_true rfl) (Nat.le_of_ble_eq_true rfl) (Nat.le_of_ble_eq_true rfl) (m_place t u (z (25 + 8 * t + u) + d)) ?_
      refine zn_aload_n (pc := 37) rfl rfl ?_
      refine zn_iload_n (pc := 38) rfl rfl ?_
      refine zn_iload_n (pc := 39) rfl rfl ?_
      refine zn_iload (pc := 40) rfl rfl ?_
      refine zn_callVx (pc := 42) (J := zX10_signOf) (o := 50) (as := [.int (nI l), .int (nI c), .int (nI (f + d))]) (rest := [.int (nI (217 + 16 * (8 * t + u) + (z (25 + 8 * t + u) + d))), .ref 51]) rfl rfl rfl rfl rfl rfl rfl rfl (Nat.le_of_ble_eq_true rfl) (Nat.le_of_ble_eq_true rfl) (Nat.le_of_ble_eq_true rfl) (Nat.le_of_ble_eq_true rfl) (m_signOf (l := l) (c := c) (k := (f + d)) (by omega) (by omega) (by omega)) ?_
      refine zm_stz (pc := 45) (j := (217 + 16 * (8 * t + u) + (z (25 + 8 * t + u) + d))) (v := ((mtail z l c f t u d) (217 + 16 * (8 * l + c) + (f + d)))) rfl (by omega) ?_
      refine zn_iincN (pc := 46) (L' := [some (.ref 50), some (.int (nI l)), some (.int (nI c)), some (.int (nI f)), some (.int (nI t)), some (.int (nI u)), some (.int (nI ((z (25 + 8 * t + u) + d) + 1))), some (.int (nI (f + d)))]) 1 rfl rfl rfl (by decide) rfl ?_
      refine zn_iincN (pc := 49) (L' := [some (.ref 50), some (.int (nI l)), some (.int (nI c)), some (.int (nI f)), some (.int (nI t)), some (.int (nI u)), some (.int (nI ((z (25 + 8 * t + u) + d) + 1))), some (.int (nI (f + d + 1)))]) 1 rfl rfl rfl (by decide) rfl ?_
      refine zn_goto (pc := 52) (tgt := 13) rfl rfl ?_
      exfalso; omega
  | succ n ih =>
    intro d hn0
    refine zn_iload (pc := 13) rfl rfl ?_
    refine zn_aload_n (pc := 15) rfl rfl ?_
    refine zn_iload_n (pc := 16) rfl rfl ?_
    refine zn_iload_n (pc := 17) rfl rfl ?_
    refine zn_callVx (pc := 18) (J := zX10_lengthOf) (o := 50) (as := [.int (nI l), .int (nI c)]) (rest := [.int (nI (f + d))]) rfl rfl rfl rfl rfl rfl rfl rfl (Nat.le_of_ble_eq_true rfl) (Nat.le_of_ble_eq_true rfl) (Nat.le_of_ble_eq_true rfl) (Nat.le_of_ble_eq_true rfl) (m_lengthOf (l := l) (c := c) (by omega) (by omega)) ?_
    refine zn_top (v' := .int (nI (z (25 + 8 * l + c)))) (by rw [show mtail z l c f t u d (25 + 8 * l + c) = z (25 + 8 * l + c) by unfold mtail; rw [if_neg (by omega)]]) ?_
    refine zn_icmp_geN (pc := 21) (tgt := 55) (x := (f + d)) (y := (z (25 + 8 * l + c))) rfl rfl (by omega) (by omega) (fun c1 => ?_) (fun c1 => ?_)
    · refine zn_aload_n (pc := 55) rfl rfl ?_
      refine zn_iload (pc := 56) rfl rfl ?_
      refine zn_iload (pc := 58) rfl rfl ?_
      refine zn_iload (pc := 60) rfl rfl ?_
      refine zn_callVx (pc := 62) (J := zX10_setLength) (o := 50) (as := [.int (nI t), .int (nI u), .int (nI (z (25 + 8 * t + u) + d))]) (rest := []) rfl rfl rfl rfl rfl rfl rfl rfl (Nat.le_of_ble_eq_true rfl) (Nat.le_of_ble_eq_true rfl) (Nat.le_of_ble_eq_true rfl) (Nat.le_of_ble_eq_true rfl) (m_setLength (l := t) (c := u) (n := (z (25 + 8 * t + u) + d)) (by omega) (by omega)) ?_
      refine zn_aload_n (pc := 65) rfl rfl ?_
      refine zn_iload_n (pc := 66) rfl rfl ?_
      refine zn_iload_n (pc := 67) rfl rfl ?_
      refine zn_iload_n (pc := 68) rfl rfl ?_
      refine zn_callVx (pc := 69) (J := zX10_setLength) (o := 50) (as := [.int (nI l), .int (nI c), .int (nI f)]) (rest := []) rfl rfl rfl rfl rfl rfl rfl rfl (Nat.le_of_ble_eq_true rfl) (Nat.le_of_ble_eq_true rfl) (Nat.le_of_ble_eq_true rfl) (Nat.le_of_ble_eq_true rfl) (m_setLength (l := l) (c := c) (n := f) (by omega) (by omega)) ?_
      obtain rfl : d = z (25 + 8 * l + c) - f := by omega
      exact zx_v (pc := 72) rfl rfl rfl rfl
    · refine zn_aload_n (pc := 24) rfl rfl ?_
      refine zn_get (pc := 25) (v := .ref 51) rfl rfl rfl ?_
      refine zn_iload (pc := 28) rfl rfl ?_
      refine zn_iload (pc := 30) rfl rfl ?_
      refine zn_iload (pc := 32) rfl rfl ?_
      refine zn_callSx (pc := 34) (J := zX10_place) (as := [.int (nI t), .int (nI u), .int (nI (z (25 + 8 * t + u) + d))]) (rest := [.ref 51]) rfl (by decide) rfl rfl rfl rfl (Nat.le_of_ble_eq_true rfl) (Nat.le_of_ble_eq_true rfl) (Nat.le_of_ble_eq_true rfl) (Nat.le_of_ble_eq_true rfl) (m_place t u (z (25 + 8 * t + u) + d)) ?_
      refine zn_aload_n (pc := 37) rfl rfl ?_
      refine zn_iload_n (pc := 38) rfl rfl ?_
      refine zn_iload_n (pc := 39) rfl rfl ?_
      refine zn_iload (pc := 40) rfl rfl ?_
      refine zn_callVx (pc := 42) (J := zX10_signOf) (o := 50) (as := [.int (nI l), .int (nI c), .int (nI (f + d))]) (rest := [.int (nI (217 + 16 * (8 * t + u) + (z (25 + 8 * t + u) + d))), .ref 51]) rfl rfl rfl rfl rfl rfl rfl rfl (Nat.le_of_ble_eq_true rfl) (Nat.le_of_ble_eq_true rfl) (Nat.le_of_ble_eq_true rfl) (Nat.le_of_ble_eq_true rfl) (m_signOf (l := l) (c := c) (k := (f + d)) (by omega) (by omega) (by omega)) ?_
      refine zm_stz (pc := 45) (j := (217 + 16 * (8 * t + u) + (z (25 + 8 * t + u) + d))) (v := ((mtail z l c f t u d) (217 + 16 * (8 * l + c) + (f + d)))) rfl (by omega) ?_
      refine zn_iincN (pc := 46) (L' := [some (.ref 50), some (.int (nI l)), some (.int (nI c)), some (.int (nI f)), some (.int (nI t)), some (.int (nI u)), some (.int (nI ((z (25 + 8 * t + u) + d) + 1))), some (.int (nI (f + d)))]) 1 rfl rfl rfl (by decide) rfl ?_
      refine zn_iincN (pc := 49) (L' := [some (.ref 50), some (.int (nI l)), some (.int (nI c)), some (.int (nI f)), some (.int (nI t)), some (.int (nI u)), some (.int (nI ((z (25 + 8 * t + u) + d) + 1))), some (.int (nI (f + d + 1)))]) 1 rfl rfl rfl (by decide) rfl ?_
      refine zn_goto (pc := 52) (tgt := 13) rfl rfl ?_
      refine zn_heq (h' := mhp h F S (mtail z l c f t u (d + 1)) A X) (congrArg (fun w => mhp h F S w A X) ?_) (ih (d + 1) (by omega))
      · funext j
        simp only [va_up, mtail]
        repeat' split
        all_goals first | omega | exact congrArg z (by omega)
theorem m_giveTail  {l c f t u : Nat} (hl : l < 24) (hc : c < 8) (ht : t < 24) (hu : u < 8) (hne : 8 * t + u ≠ 8 * l + c) (hf : f ≤ z (25 + 8 * l + c)) (h16 : z (25 + 8 * l + c) ≤ 16) (hs : z (25 + 8 * t + u) + (z (25 + 8 * l + c) - f) ≤ 16) : Zx g zX10_giveTail [.ref 50, .int (nI l), .int (nI c), .int (nI f), .int (nI t), .int (nI u)] (mhp h F S z A X) none (mhp h F S (mgt z l c f t u) A X) := by
  show Zn g zX10_giveTail 0 [some (.ref 50), some (.int (nI l)), some (.int (nI c)), some (.int (nI f)), some (.int (nI t)), some (.int (nI u)), none, none] [] (mhp h F S z A X) 0 0 _
  refine zn_aload_n (pc := 0) rfl rfl ?_
  refine zn_iload (pc := 1) rfl rfl ?_
  refine zn_iload (pc := 3) rfl rfl ?_
  refine zn_callVx (pc := 5) (J := zX10_lengthOf) (o := 50) (as := [.int (nI t), .int (nI u)]) (rest := []) rfl rfl rfl rfl rfl rfl rfl rfl (Nat.le_of_ble_eq_true rfl) (Nat.le_of_ble_eq_true rfl) (Nat.le_of_ble_eq_true rfl) (Nat.le_of_ble_eq_true rfl) (m_lengthOf (l := t) (c := u) (by omega) (by omega)) ?_
  refine zn_istore (pc := 8) (L' := [some (.ref 50), some (.int (nI l)), some (.int (nI c)), some (.int (nI f)), some (.int (nI t)), some (.int (nI u)), some (.int (nI (z (25 + 8 * t + u)))), none]) rfl (by decide) rfl ?_
  refine zn_iload_n (pc := 10) rfl rfl ?_
  refine zn_istore (pc := 11) (L' := [some (.ref 50), some (.int (nI l)), some (.int (nI c)), some (.int (nI f)), some (.int (nI t)), some (.int (nI u)), some (.int (nI (z (25 + 8 * t + u)))), some (.int (nI f))]) rfl (by decide) rfl ?_
  refine zn_heq (h' := mhp h F S (mtail z l c f t u 0) A X) (congrArg (fun w => mhp h F S w A X) ?_) (m_giveTail_l hl hc ht hu hne hf h16 hs (z (25 + 8 * l + c) - f) 0 (by omega))
  · funext j
    simp only [va_up, mtail]
    repeat' split
    all_goals first | omega | exact congrArg z (by omega)
end m1
end
