section
-- ===== PART A: goes FIRST, ahead of the names: the tables' words, and 'selects' of the private methods out of them =====
/-- a private method of a class that the tables say can be made, by its rows of tables_1 -/
def lw_okq (q : MethodName × Nat) : Prop := (q.1.cls ≠ "java/lang/invoke/MethodHandle" ∧ q.1.cls ≠ "java/lang/invoke/VarHandle") ∧ Cond.instantiable q.1.cls q.2 ∈ tables_1 ∧ Cond.privateMethod q.1 ∈ tables_1 ∧ Cond.instanceMethod q.1 ∈ tables_1
theorem lw_p0 : lw_okq (⟨"InkBars", "changed", "()V"⟩, 15) := ⟨⟨by decide +kernel, by decide +kernel⟩, List.mem_of_getElem? (i := 18) (by decide +kernel), List.mem_of_getElem? (i := 406) (by decide +kernel), List.mem_of_getElem? (i := 407) (by decide +kernel)⟩
theorem lw_p1 : lw_okq (⟨"InkBars$Words", "stands", "(I)Z"⟩, 3) := ⟨⟨by decide +kernel, by decide +kernel⟩, List.mem_of_getElem? (i := 59) (by decide +kernel), List.mem_of_getElem? (i := 450) (by decide +kernel), List.mem_of_getElem? (i := 451) (by decide +kernel)⟩
theorem lw_p2 : lw_okq (⟨"InkBars$Sheets", "beginToken", "(IZI)I"⟩, 11) := ⟨⟨by decide +kernel, by decide +kernel⟩, List.mem_of_getElem? (i := 143) (by decide +kernel), List.mem_of_getElem? (i := 540) (by decide +kernel), List.mem_of_getElem? (i := 541) (by decide +kernel)⟩
theorem lw_p3 : lw_okq (⟨"InkBars$Sheets", "stands", "(II)Z"⟩, 11) := ⟨⟨by decide +kernel, by decide +kernel⟩, List.mem_of_getElem? (i := 143) (by decide +kernel), List.mem_of_getElem? (i := 562) (by decide +kernel), List.mem_of_getElem? (i := 563) (by decide +kernel)⟩
theorem lw_p4 : lw_okq (⟨"InkBars$Sheets", "heedArticle", "(II)V"⟩, 11) := ⟨⟨by decide +kernel, by decide +kernel⟩, List.mem_of_getElem? (i := 143) (by decide +kernel), List.mem_of_getElem? (i := 570) (by decide +kernel), List.mem_of_getElem? (i := 571) (by decide +kernel)⟩
theorem lw_p5 : lw_okq (⟨"InkBars$Rules", "begin", "(ZII)V"⟩, 11) := ⟨⟨by decide +kernel, by decide +kernel⟩, List.mem_of_getElem? (i := 186) (by decide +kernel), List.mem_of_getElem? (i := 585) (by decide +kernel), List.mem_of_getElem? (i := 586) (by decide +kernel)⟩
theorem lw_p6 : lw_okq (⟨"InkBars$Rules", "go", "(I)V"⟩, 11) := ⟨⟨by decide +kernel, by decide +kernel⟩, List.mem_of_getElem? (i := 186) (by decide +kernel), List.mem_of_getElem? (i := 589) (by decide +kernel), List.mem_of_getElem? (i := 590) (by decide +kernel)⟩
theorem lw_p7 : lw_okq (⟨"InkBars$Rules", "clause", "(I)V"⟩, 11) := ⟨⟨by decide +kernel, by decide +kernel⟩, List.mem_of_getElem? (i := 186) (by decide +kernel), List.mem_of_getElem? (i := 593) (by decide +kernel), List.mem_of_getElem? (i := 594) (by decide +kernel)⟩
theorem lw_p8 : lw_okq (⟨"InkBars$Rules", "condition", "(IZ)Z"⟩, 11) := ⟨⟨by decide +kernel, by decide +kernel⟩, List.mem_of_getElem? (i := 186) (by decide +kernel), List.mem_of_getElem? (i := 598) (by decide +kernel), List.mem_of_getElem? (i := 599) (by decide +kernel)⟩
theorem lw_p9 : lw_okq (⟨"InkBars$Rules", "part", "(IZ)Z"⟩, 11) := ⟨⟨by decide +kernel, by decide +kernel⟩, List.mem_of_getElem? (i := 186) (by decide +kernel), List.mem_of_getElem? (i := 602) (by decide +kernel), List.mem_of_getElem? (i := 603) (by decide +kernel)⟩
theorem lw_p10 : lw_okq (⟨"InkBars$Rules", "piece", "(IZ)Z"⟩, 11) := ⟨⟨by decide +kernel, by decide +kernel⟩, List.mem_of_getElem? (i := 186) (by decide +kernel), List.mem_of_getElem? (i := 606) (by decide +kernel), List.mem_of_getElem? (i := 607) (by decide +kernel)⟩
theorem lw_p11 : lw_okq (⟨"InkBars$Rules", "nested", "(IZ)Z"⟩, 11) := ⟨⟨by decide +kernel, by decide +kernel⟩, List.mem_of_getElem? (i := 186) (by decide +kernel), List.mem_of_getElem? (i := 610) (by decide +kernel), List.mem_of_getElem? (i := 611) (by decide +kernel)⟩
theorem lw_p12 : lw_okq (⟨"InkBars$Rules", "sum", "(IZ)I"⟩, 11) := ⟨⟨by decide +kernel, by decide +kernel⟩, List.mem_of_getElem? (i := 186) (by decide +kernel), List.mem_of_getElem? (i := 614) (by decide +kernel), List.mem_of_getElem? (i := 615) (by decide +kernel)⟩
theorem lw_p13 : lw_okq (⟨"InkBars$Rules", "product", "(IZ)I"⟩, 11) := ⟨⟨by decide +kernel, by decide +kernel⟩, List.mem_of_getElem? (i := 186) (by decide +kernel), List.mem_of_getElem? (i := 618) (by decide +kernel), List.mem_of_getElem? (i := 619) (by decide +kernel)⟩
theorem lw_p14 : lw_okq (⟨"InkBars$Rules", "factor", "(IZ)I"⟩, 11) := ⟨⟨by decide +kernel, by decide +kernel⟩, List.mem_of_getElem? (i := 186) (by decide +kernel), List.mem_of_getElem? (i := 622) (by decide +kernel), List.mem_of_getElem? (i := 623) (by decide +kernel)⟩
theorem lw_p15 : lw_okq (⟨"InkBars$Habits", "bound", "(IZLInkBars$Names;LInkBars$Letters;)I"⟩, 4) := ⟨⟨by decide +kernel, by decide +kernel⟩, List.mem_of_getElem? (i := 226) (by decide +kernel), List.mem_of_getElem? (i := 690) (by decide +kernel), List.mem_of_getElem? (i := 691) (by decide +kernel)⟩
def lw_privs_1 : List (MethodName × Nat) := [(⟨"InkBars", "changed", "()V"⟩, 15), (⟨"InkBars$Words", "stands", "(I)Z"⟩, 3), (⟨"InkBars$Sheets", "beginToken", "(IZI)I"⟩, 11), (⟨"InkBars$Sheets", "stands", "(II)Z"⟩, 11), (⟨"InkBars$Sheets", "heedArticle", "(II)V"⟩, 11), (⟨"InkBars$Rules", "begin", "(ZII)V"⟩, 11), (⟨"InkBars$Rules", "go", "(I)V"⟩, 11), (⟨"InkBars$Rules", "clause", "(I)V"⟩, 11), (⟨"InkBars$Rules", "condition", "(IZ)Z"⟩, 11), (⟨"InkBars$Rules", "part", "(IZ)Z"⟩, 11), (⟨"InkBars$Rules", "piece", "(IZ)Z"⟩, 11), (⟨"InkBars$Rules", "nested", "(IZ)Z"⟩, 11), (⟨"InkBars$Rules", "sum", "(IZ)I"⟩, 11), (⟨"InkBars$Rules", "product", "(IZ)I"⟩, 11), (⟨"InkBars$Rules", "factor", "(IZ)I"⟩, 11), (⟨"InkBars$Habits", "bound", "(IZLInkBars$Names;LInkBars$Letters;)I"⟩, 4)]
theorem lw_r1 : ∀ q ∈ lw_privs_1, lw_okq q := List.forall_mem_cons.mpr ⟨lw_p0, List.forall_mem_cons.mpr ⟨lw_p1, List.forall_mem_cons.mpr ⟨lw_p2, List.forall_mem_cons.mpr ⟨lw_p3, List.forall_mem_cons.mpr ⟨lw_p4, List.forall_mem_cons.mpr ⟨lw_p5, List.forall_mem_cons.mpr ⟨lw_p6, List.forall_mem_cons.mpr ⟨lw_p7, List.forall_mem_cons.mpr ⟨lw_p8, List.forall_mem_cons.mpr ⟨lw_p9, List.forall_mem_cons.mpr ⟨lw_p10, List.forall_mem_cons.mpr ⟨lw_p11, List.forall_mem_cons.mpr ⟨lw_p12, List.forall_mem_cons.mpr ⟨lw_p13, List.forall_mem_cons.mpr ⟨lw_p14, List.forall_mem_cons.mpr ⟨lw_p15, fun _ h => absurd h List.not_mem_nil⟩⟩⟩⟩⟩⟩⟩⟩⟩⟩⟩⟩⟩⟩⟩⟩
theorem lw_p16 : lw_okq (⟨"InkBars", "reasonsButInk", "(II)I"⟩, 15) := ⟨⟨by decide +kernel, by decide +kernel⟩, List.mem_of_getElem? (i := 18) (by decide +kernel), List.mem_of_getElem? (i := 707) (by decide +kernel), List.mem_of_getElem? (i := 708) (by decide +kernel)⟩
theorem lw_p17 : lw_okq (⟨"InkBars", "tellFacts", "(IIZ)V"⟩, 15) := ⟨⟨by decide +kernel, by decide +kernel⟩, List.mem_of_getElem? (i := 18) (by decide +kernel), List.mem_of_getElem? (i := 731) (by decide +kernel), List.mem_of_getElem? (i := 732) (by decide +kernel)⟩
theorem lw_p18 : lw_okq (⟨"InkBars", "inkReason", "(II)I"⟩, 15) := ⟨⟨by decide +kernel, by decide +kernel⟩, List.mem_of_getElem? (i := 18) (by decide +kernel), List.mem_of_getElem? (i := 791) (by decide +kernel), List.mem_of_getElem? (i := 792) (by decide +kernel)⟩
theorem lw_p19 : lw_okq (⟨"InkBars", "lay", "(I)Z"⟩, 15) := ⟨⟨by decide +kernel, by decide +kernel⟩, List.mem_of_getElem? (i := 18) (by decide +kernel), List.mem_of_getElem? (i := 799) (by decide +kernel), List.mem_of_getElem? (i := 800) (by decide +kernel)⟩
theorem lw_p20 : lw_okq (⟨"InkBars", "tiesReason", "()I"⟩, 15) := ⟨⟨by decide +kernel, by decide +kernel⟩, List.mem_of_getElem? (i := 18) (by decide +kernel), List.mem_of_getElem? (i := 803) (by decide +kernel), List.mem_of_getElem? (i := 804) (by decide +kernel)⟩
theorem lw_p21 : lw_okq (⟨"InkBars$Bars", "tied", "(I)Z"⟩, 12) := ⟨⟨by decide +kernel, by decide +kernel⟩, List.mem_of_getElem? (i := 100) (by decide +kernel), List.mem_of_getElem? (i := 815) (by decide +kernel), List.mem_of_getElem? (i := 816) (by decide +kernel)⟩
theorem lw_p22 : lw_okq (⟨"InkBars", "linesReason", "()I"⟩, 15) := ⟨⟨by decide +kernel, by decide +kernel⟩, List.mem_of_getElem? (i := 18) (by decide +kernel), List.mem_of_getElem? (i := 832) (by decide +kernel), List.mem_of_getElem? (i := 833) (by decide +kernel)⟩
theorem lw_p23 : lw_okq (⟨"InkBars", "countWithout", "(I)I"⟩, 15) := ⟨⟨by decide +kernel, by decide +kernel⟩, List.mem_of_getElem? (i := 18) (by decide +kernel), List.mem_of_getElem? (i := 879) (by decide +kernel), List.mem_of_getElem? (i := 880) (by decide +kernel)⟩
theorem lw_p24 : lw_okq (⟨"InkBars", "prepare", "()V"⟩, 15) := ⟨⟨by decide +kernel, by decide +kernel⟩, List.mem_of_getElem? (i := 18) (by decide +kernel), List.mem_of_getElem? (i := 883) (by decide +kernel), List.mem_of_getElem? (i := 884) (by decide +kernel)⟩
theorem lw_p25 : lw_okq (⟨"InkBars$Lines", "readSheet", "(ILInkBars$Sheets;LInkBars$Letters;)V"⟩, 8) := ⟨⟨by decide +kernel, by decide +kernel⟩, List.mem_of_getElem? (i := 273) (by decide +kernel), List.mem_of_getElem? (i := 925) (by decide +kernel), List.mem_of_getElem? (i := 926) (by decide +kernel)⟩
theorem lw_p26 : lw_okq (⟨"InkBars$Lines", "stand", "(IZ)V"⟩, 8) := ⟨⟨by decide +kernel, by decide +kernel⟩, List.mem_of_getElem? (i := 273) (by decide +kernel), List.mem_of_getElem? (i := 933) (by decide +kernel), List.mem_of_getElem? (i := 934) (by decide +kernel)⟩
theorem lw_p27 : lw_okq (⟨"InkBars$Lines", "add", "(IZ)V"⟩, 8) := ⟨⟨by decide +kernel, by decide +kernel⟩, List.mem_of_getElem? (i := 273) (by decide +kernel), List.mem_of_getElem? (i := 939) (by decide +kernel), List.mem_of_getElem? (i := 940) (by decide +kernel)⟩
theorem lw_p28 : lw_okq (⟨"InkBars$Lines", "asksOfTheSame", "(I)Z"⟩, 8) := ⟨⟨by decide +kernel, by decide +kernel⟩, List.mem_of_getElem? (i := 273) (by decide +kernel), List.mem_of_getElem? (i := 943) (by decide +kernel), List.mem_of_getElem? (i := 944) (by decide +kernel)⟩
theorem lw_p29 : lw_okq (⟨"InkBars$Lines", "put", "(IIZ)V"⟩, 8) := ⟨⟨by decide +kernel, by decide +kernel⟩, List.mem_of_getElem? (i := 273) (by decide +kernel), List.mem_of_getElem? (i := 949) (by decide +kernel), List.mem_of_getElem? (i := 950) (by decide +kernel)⟩
theorem lw_p30 : lw_okq (⟨"InkBars", "fit", "(III)V"⟩, 15) := ⟨⟨by decide +kernel, by decide +kernel⟩, List.mem_of_getElem? (i := 18) (by decide +kernel), List.mem_of_getElem? (i := 953) (by decide +kernel), List.mem_of_getElem? (i := 954) (by decide +kernel)⟩
theorem lw_p31 : lw_okq (⟨"InkBars$Fillings", "hopeful", "()Z"⟩, 14) := ⟨⟨by decide +kernel, by decide +kernel⟩, List.mem_of_getElem? (i := 267) (by decide +kernel), List.mem_of_getElem? (i := 973) (by decide +kernel), List.mem_of_getElem? (i := 974) (by decide +kernel)⟩
def lw_privs_2 : List (MethodName × Nat) := [(⟨"InkBars", "reasonsButInk", "(II)I"⟩, 15), (⟨"InkBars", "tellFacts", "(IIZ)V"⟩, 15), (⟨"InkBars", "inkReason", "(II)I"⟩, 15), (⟨"InkBars", "lay", "(I)Z"⟩, 15), (⟨"InkBars", "tiesReason", "()I"⟩, 15), (⟨"InkBars$Bars", "tied", "(I)Z"⟩, 12), (⟨"InkBars", "linesReason", "()I"⟩, 15), (⟨"InkBars", "countWithout", "(I)I"⟩, 15), (⟨"InkBars", "prepare", "()V"⟩, 15), (⟨"InkBars$Lines", "readSheet", "(ILInkBars$Sheets;LInkBars$Letters;)V"⟩, 8), (⟨"InkBars$Lines", "stand", "(IZ)V"⟩, 8), (⟨"InkBars$Lines", "add", "(IZ)V"⟩, 8), (⟨"InkBars$Lines", "asksOfTheSame", "(I)Z"⟩, 8), (⟨"InkBars$Lines", "put", "(IIZ)V"⟩, 8), (⟨"InkBars", "fit", "(III)V"⟩, 15), (⟨"InkBars$Fillings", "hopeful", "()Z"⟩, 14)]
theorem lw_r2 : ∀ q ∈ lw_privs_2, lw_okq q := List.forall_mem_cons.mpr ⟨lw_p16, List.forall_mem_cons.mpr ⟨lw_p17, List.forall_mem_cons.mpr ⟨lw_p18, List.forall_mem_cons.mpr ⟨lw_p19, List.forall_mem_cons.mpr ⟨lw_p20, List.forall_mem_cons.mpr ⟨lw_p21, List.forall_mem_cons.mpr ⟨lw_p22, List.forall_mem_cons.mpr ⟨lw_p23, List.forall_mem_cons.mpr ⟨lw_p24, List.forall_mem_cons.mpr ⟨lw_p25, List.forall_mem_cons.mpr ⟨lw_p26, List.forall_mem_cons.mpr ⟨lw_p27, List.forall_mem_cons.mpr ⟨lw_p28, List.forall_mem_cons.mpr ⟨lw_p29, List.forall_mem_cons.mpr ⟨lw_p30, List.forall_mem_cons.mpr ⟨lw_p31, fun _ h => absurd h List.not_mem_nil⟩⟩⟩⟩⟩⟩⟩⟩⟩⟩⟩⟩⟩⟩⟩⟩
theorem lw_p32 : lw_okq (⟨"InkBars$Fillings", "countFrom", "(I)I"⟩, 14) := ⟨⟨by decide +kernel, by decide +kernel⟩, List.mem_of_getElem? (i := 267) (by decide +kernel), List.mem_of_getElem? (i := 981) (by decide +kernel), List.mem_of_getElem? (i := 982) (by decide +kernel)⟩
theorem lw_p33 : lw_okq (⟨"InkBars$Fillings", "candidates", "(I)I"⟩, 14) := ⟨⟨by decide +kernel, by decide +kernel⟩, List.mem_of_getElem? (i := 267) (by decide +kernel), List.mem_of_getElem? (i := 985) (by decide +kernel), List.mem_of_getElem? (i := 986) (by decide +kernel)⟩
theorem lw_p34 : lw_okq (⟨"InkBars$Fillings", "countBehind", "(II)I"⟩, 14) := ⟨⟨by decide +kernel, by decide +kernel⟩, List.mem_of_getElem? (i := 267) (by decide +kernel), List.mem_of_getElem? (i := 1018) (by decide +kernel), List.mem_of_getElem? (i := 1019) (by decide +kernel)⟩
theorem lw_p35 : lw_okq (⟨"InkBars", "weigh", "()V"⟩, 15) := ⟨⟨by decide +kernel, by decide +kernel⟩, List.mem_of_getElem? (i := 18) (by decide +kernel), List.mem_of_getElem? (i := 1026) (by decide +kernel), List.mem_of_getElem? (i := 1027) (by decide +kernel)⟩
theorem lw_p36 : lw_okq (⟨"InkBars$Fillings", "weighFrom", "(IJ)J"⟩, 14) := ⟨⟨by decide +kernel, by decide +kernel⟩, List.mem_of_getElem? (i := 267) (by decide +kernel), List.mem_of_getElem? (i := 1034) (by decide +kernel), List.mem_of_getElem? (i := 1035) (by decide +kernel)⟩
theorem lw_p37 : lw_okq (⟨"InkBars$Fillings", "weighBehind", "(IIJ)J"⟩, 14) := ⟨⟨by decide +kernel, by decide +kernel⟩, List.mem_of_getElem? (i := 267) (by decide +kernel), List.mem_of_getElem? (i := 1038) (by decide +kernel), List.mem_of_getElem? (i := 1039) (by decide +kernel)⟩
theorem lw_p38 : lw_okq (⟨"InkBars", "keeps", "(II)Z"⟩, 15) := ⟨⟨by decide +kernel, by decide +kernel⟩, List.mem_of_getElem? (i := 18) (by decide +kernel), List.mem_of_getElem? (i := 1068) (by decide +kernel), List.mem_of_getElem? (i := 1069) (by decide +kernel)⟩
theorem lw_p39 : lw_okq (⟨"InkBars$Fillings", "reachFrom", "(I)Z"⟩, 14) := ⟨⟨by decide +kernel, by decide +kernel⟩, List.mem_of_getElem? (i := 267) (by decide +kernel), List.mem_of_getElem? (i := 1076) (by decide +kernel), List.mem_of_getElem? (i := 1077) (by decide +kernel)⟩
theorem lw_p40 : lw_okq (⟨"InkBars$Fillings", "reachBehind", "(II)Z"⟩, 14) := ⟨⟨by decide +kernel, by decide +kernel⟩, List.mem_of_getElem? (i := 267) (by decide +kernel), List.mem_of_getElem? (i := 1080) (by decide +kernel), List.mem_of_getElem? (i := 1081) (by decide +kernel)⟩
theorem lw_p41 : lw_okq (⟨"InkBars$Copies", "copied", "(II)Z"⟩, 5) := ⟨⟨by decide +kernel, by decide +kernel⟩, List.mem_of_getElem? (i := 245) (by decide +kernel), List.mem_of_getElem? (i := 1170) (by decide +kernel), List.mem_of_getElem? (i := 1171) (by decide +kernel)⟩
theorem lw_p42 : lw_okq (⟨"InkBars$Copies", "coveredBy", "(II)I"⟩, 5) := ⟨⟨by decide +kernel, by decide +kernel⟩, List.mem_of_getElem? (i := 245) (by decide +kernel), List.mem_of_getElem? (i := 1174) (by decide +kernel), List.mem_of_getElem? (i := 1175) (by decide +kernel)⟩
theorem lw_p43 : lw_okq (⟨"InkBars", "firstWrong", "(II)I"⟩, 15) := ⟨⟨by decide +kernel, by decide +kernel⟩, List.mem_of_getElem? (i := 18) (by decide +kernel), List.mem_of_getElem? (i := 1210) (by decide +kernel), List.mem_of_getElem? (i := 1211) (by decide +kernel)⟩
theorem lw_p44 : lw_okq (⟨"InkBarsModel", "push", "(I)V"⟩, 77) := ⟨⟨by decide +kernel, by decide +kernel⟩, List.mem_of_getElem? (i := 1243) (by decide +kernel), List.mem_of_getElem? (i := 1501) (by decide +kernel), List.mem_of_getElem? (i := 1502) (by decide +kernel)⟩
theorem lw_p45 : lw_okq (⟨"InkBarsModel", "compared", "(II)I"⟩, 77) := ⟨⟨by decide +kernel, by decide +kernel⟩, List.mem_of_getElem? (i := 1243) (by decide +kernel), List.mem_of_getElem? (i := 1516) (by decide +kernel), List.mem_of_getElem? (i := 1517) (by decide +kernel)⟩
theorem lw_p46 : lw_okq (⟨"InkBarsModel", "isName", "(I)Z"⟩, 77) := ⟨⟨by decide +kernel, by decide +kernel⟩, List.mem_of_getElem? (i := 1243) (by decide +kernel), List.mem_of_getElem? (i := 1524) (by decide +kernel), List.mem_of_getElem? (i := 1525) (by decide +kernel)⟩
theorem lw_p47 : lw_okq (⟨"InkBarsModel", "wideOf", "(I)I"⟩, 77) := ⟨⟨by decide +kernel, by decide +kernel⟩, List.mem_of_getElem? (i := 1243) (by decide +kernel), List.mem_of_getElem? (i := 1528) (by decide +kernel), List.mem_of_getElem? (i := 1529) (by decide +kernel)⟩
def lw_privs_3 : List (MethodName × Nat) := [(⟨"InkBars$Fillings", "countFrom", "(I)I"⟩, 14), (⟨"InkBars$Fillings", "candidates", "(I)I"⟩, 14), (⟨"InkBars$Fillings", "countBehind", "(II)I"⟩, 14), (⟨"InkBars", "weigh", "()V"⟩, 15), (⟨"InkBars$Fillings", "weighFrom", "(IJ)J"⟩, 14), (⟨"InkBars$Fillings", "weighBehind", "(IIJ)J"⟩, 14), (⟨"InkBars", "keeps", "(II)Z"⟩, 15), (⟨"InkBars$Fillings", "reachFrom", "(I)Z"⟩, 14), (⟨"InkBars$Fillings", "reachBehind", "(II)Z"⟩, 14), (⟨"InkBars$Copies", "copied", "(II)Z"⟩, 5), (⟨"InkBars$Copies", "coveredBy", "(II)I"⟩, 5), (⟨"InkBars", "firstWrong", "(II)I"⟩, 15), (⟨"InkBarsModel", "push", "(I)V"⟩, 77), (⟨"InkBarsModel", "compared", "(II)I"⟩, 77), (⟨"InkBarsModel", "isName", "(I)Z"⟩, 77), (⟨"InkBarsModel", "wideOf", "(I)I"⟩, 77)]
theorem lw_r3 : ∀ q ∈ lw_privs_3, lw_okq q := List.forall_mem_cons.mpr ⟨lw_p32, List.forall_mem_cons.mpr ⟨lw_p33, List.forall_mem_cons.mpr ⟨lw_p34, List.forall_mem_cons.mpr ⟨lw_p35, List.forall_mem_cons.mpr ⟨lw_p36, List.forall_mem_cons.mpr ⟨lw_p37, List.forall_mem_cons.mpr ⟨lw_p38, List.forall_mem_cons.mpr ⟨lw_p39, List.forall_mem_cons.mpr ⟨lw_p40, List.forall_mem_cons.mpr ⟨lw_p41, List.forall_mem_cons.mpr ⟨lw_p42, List.forall_mem_cons.mpr ⟨lw_p43, List.forall_mem_cons.mpr ⟨lw_p44, List.forall_mem_cons.mpr ⟨lw_p45, List.forall_mem_cons.mpr ⟨lw_p46, List.forall_mem_cons.mpr ⟨lw_p47, fun _ h => absurd h List.not_mem_nil⟩⟩⟩⟩⟩⟩⟩⟩⟩⟩⟩⟩⟩⟩⟩⟩
theorem lw_p48 : lw_okq (⟨"InkBarsModel", "isGood", "()Z"⟩, 77) := ⟨⟨by decide +kernel, by decide +kernel⟩, List.mem_of_getElem? (i := 1243) (by decide +kernel), List.mem_of_getElem? (i := 1546) (by decide +kernel), List.mem_of_getElem? (i := 1547) (by decide +kernel)⟩
theorem lw_p49 : lw_okq (⟨"InkBarsModel", "token", "(II)V"⟩, 77) := ⟨⟨by decide +kernel, by decide +kernel⟩, List.mem_of_getElem? (i := 1243) (by decide +kernel), List.mem_of_getElem? (i := 1550) (by decide +kernel), List.mem_of_getElem? (i := 1551) (by decide +kernel)⟩
theorem lw_p50 : lw_okq (⟨"InkBarsModel", "here", "()I"⟩, 77) := ⟨⟨by decide +kernel, by decide +kernel⟩, List.mem_of_getElem? (i := 1243) (by decide +kernel), List.mem_of_getElem? (i := 1554) (by decide +kernel), List.mem_of_getElem? (i := 1555) (by decide +kernel)⟩
theorem lw_p51 : lw_okq (⟨"InkBarsModel", "wrongs", "(II)V"⟩, 77) := ⟨⟨by decide +kernel, by decide +kernel⟩, List.mem_of_getElem? (i := 1243) (by decide +kernel), List.mem_of_getElem? (i := 1561) (by decide +kernel), List.mem_of_getElem? (i := 1562) (by decide +kernel)⟩
theorem lw_p52 : lw_okq (⟨"InkBarsModel", "clause", "()V"⟩, 77) := ⟨⟨by decide +kernel, by decide +kernel⟩, List.mem_of_getElem? (i := 1243) (by decide +kernel), List.mem_of_getElem? (i := 1569) (by decide +kernel), List.mem_of_getElem? (i := 1570) (by decide +kernel)⟩
theorem lw_p53 : lw_okq (⟨"InkBarsModel", "condition", "()V"⟩, 77) := ⟨⟨by decide +kernel, by decide +kernel⟩, List.mem_of_getElem? (i := 1243) (by decide +kernel), List.mem_of_getElem? (i := 1573) (by decide +kernel), List.mem_of_getElem? (i := 1574) (by decide +kernel)⟩
theorem lw_p54 : lw_okq (⟨"InkBarsModel", "opens", "()V"⟩, 77) := ⟨⟨by decide +kernel, by decide +kernel⟩, List.mem_of_getElem? (i := 1243) (by decide +kernel), List.mem_of_getElem? (i := 1577) (by decide +kernel), List.mem_of_getElem? (i := 1578) (by decide +kernel)⟩
theorem lw_p55 : lw_okq (⟨"InkBarsModel", "puts", "(I)V"⟩, 77) := ⟨⟨by decide +kernel, by decide +kernel⟩, List.mem_of_getElem? (i := 1243) (by decide +kernel), List.mem_of_getElem? (i := 1581) (by decide +kernel), List.mem_of_getElem? (i := 1582) (by decide +kernel)⟩
theorem lw_p56 : lw_okq (⟨"InkBarsModel", "pieceOfC", "()V"⟩, 77) := ⟨⟨by decide +kernel, by decide +kernel⟩, List.mem_of_getElem? (i := 1243) (by decide +kernel), List.mem_of_getElem? (i := 1585) (by decide +kernel), List.mem_of_getElem? (i := 1586) (by decide +kernel)⟩
theorem lw_p57 : lw_okq (⟨"InkBarsModel", "factor", "()V"⟩, 77) := ⟨⟨by decide +kernel, by decide +kernel⟩, List.mem_of_getElem? (i := 1243) (by decide +kernel), List.mem_of_getElem? (i := 1589) (by decide +kernel), List.mem_of_getElem? (i := 1590) (by decide +kernel)⟩
theorem lw_p58 : lw_okq (⟨"InkBarsModel", "reads", "()I"⟩, 77) := ⟨⟨by decide +kernel, by decide +kernel⟩, List.mem_of_getElem? (i := 1243) (by decide +kernel), List.mem_of_getElem? (i := 1593) (by decide +kernel), List.mem_of_getElem? (i := 1594) (by decide +kernel)⟩
theorem lw_p59 : lw_okq (⟨"InkBarsModel", "emit", "(II)V"⟩, 77) := ⟨⟨by decide +kernel, by decide +kernel⟩, List.mem_of_getElem? (i := 1243) (by decide +kernel), List.mem_of_getElem? (i := 1597) (by decide +kernel), List.mem_of_getElem? (i := 1598) (by decide +kernel)⟩
theorem lw_p60 : lw_okq (⟨"InkBarsModel", "goesOn", "()Z"⟩, 77) := ⟨⟨by decide +kernel, by decide +kernel⟩, List.mem_of_getElem? (i := 1243) (by decide +kernel), List.mem_of_getElem? (i := 1604) (by decide +kernel), List.mem_of_getElem? (i := 1605) (by decide +kernel)⟩
theorem lw_p61 : lw_okq (⟨"InkBarsModel", "sums", "(Z)V"⟩, 77) := ⟨⟨by decide +kernel, by decide +kernel⟩, List.mem_of_getElem? (i := 1243) (by decide +kernel), List.mem_of_getElem? (i := 1614) (by decide +kernel), List.mem_of_getElem? (i := 1615) (by decide +kernel)⟩
theorem lw_p62 : lw_okq (⟨"InkBarsModel", "top", "()I"⟩, 77) := ⟨⟨by decide +kernel, by decide +kernel⟩, List.mem_of_getElem? (i := 1243) (by decide +kernel), List.mem_of_getElem? (i := 1618) (by decide +kernel), List.mem_of_getElem? (i := 1619) (by decide +kernel)⟩
theorem lw_p63 : lw_okq (⟨"InkBarsModel", "ends", "()V"⟩, 77) := ⟨⟨by decide +kernel, by decide +kernel⟩, List.mem_of_getElem? (i := 1243) (by decide +kernel), List.mem_of_getElem? (i := 1625) (by decide +kernel), List.mem_of_getElem? (i := 1626) (by decide +kernel)⟩
def lw_privs_4 : List (MethodName × Nat) := [(⟨"InkBarsModel", "isGood", "()Z"⟩, 77), (⟨"InkBarsModel", "token", "(II)V"⟩, 77), (⟨"InkBarsModel", "here", "()I"⟩, 77), (⟨"InkBarsModel", "wrongs", "(II)V"⟩, 77), (⟨"InkBarsModel", "clause", "()V"⟩, 77), (⟨"InkBarsModel", "condition", "()V"⟩, 77), (⟨"InkBarsModel", "opens", "()V"⟩, 77), (⟨"InkBarsModel", "puts", "(I)V"⟩, 77), (⟨"InkBarsModel", "pieceOfC", "()V"⟩, 77), (⟨"InkBarsModel", "factor", "()V"⟩, 77), (⟨"InkBarsModel", "reads", "()I"⟩, 77), (⟨"InkBarsModel", "emit", "(II)V"⟩, 77), (⟨"InkBarsModel", "goesOn", "()Z"⟩, 77), (⟨"InkBarsModel", "sums", "(Z)V"⟩, 77), (⟨"InkBarsModel", "top", "()I"⟩, 77), (⟨"InkBarsModel", "ends", "()V"⟩, 77)]
theorem lw_r4 : ∀ q ∈ lw_privs_4, lw_okq q := List.forall_mem_cons.mpr ⟨lw_p48, List.forall_mem_cons.mpr ⟨lw_p49, List.forall_mem_cons.mpr ⟨lw_p50, List.forall_mem_cons.mpr ⟨lw_p51, List.forall_mem_cons.mpr ⟨lw_p52, List.forall_mem_cons.mpr ⟨lw_p53, List.forall_mem_cons.mpr ⟨lw_p54, List.forall_mem_cons.mpr ⟨lw_p55, List.forall_mem_cons.mpr ⟨lw_p56, List.forall_mem_cons.mpr ⟨lw_p57, List.forall_mem_cons.mpr ⟨lw_p58, List.forall_mem_cons.mpr ⟨lw_p59, List.forall_mem_cons.mpr ⟨lw_p60, List.forall_mem_cons.mpr ⟨lw_p61, List.forall_mem_cons.mpr ⟨lw_p62, List.forall_mem_cons.mpr ⟨lw_p63, fun _ h => absurd h List.not_mem_nil⟩⟩⟩⟩⟩⟩⟩⟩⟩⟩⟩⟩⟩⟩⟩⟩
theorem lw_p64 : lw_okq (⟨"InkBarsModel", "goesBehind", "()Z"⟩, 77) := ⟨⟨by decide +kernel, by decide +kernel⟩, List.mem_of_getElem? (i := 1243) (by decide +kernel), List.mem_of_getElem? (i := 1629) (by decide +kernel), List.mem_of_getElem? (i := 1630) (by decide +kernel)⟩
theorem lw_p65 : lw_okq (⟨"InkBarsModel", "joins", "(Z)V"⟩, 77) := ⟨⟨by decide +kernel, by decide +kernel⟩, List.mem_of_getElem? (i := 1243) (by decide +kernel), List.mem_of_getElem? (i := 1633) (by decide +kernel), List.mem_of_getElem? (i := 1634) (by decide +kernel)⟩
theorem lw_p66 : lw_okq (⟨"InkBarsModel", "isBar", "(I)Z"⟩, 77) := ⟨⟨by decide +kernel, by decide +kernel⟩, List.mem_of_getElem? (i := 1243) (by decide +kernel), List.mem_of_getElem? (i := 1642) (by decide +kernel), List.mem_of_getElem? (i := 1643) (by decide +kernel)⟩
theorem lw_p67 : lw_okq (⟨"InkBarsModel", "habitOf", "(IZ)I"⟩, 77) := ⟨⟨by decide +kernel, by decide +kernel⟩, List.mem_of_getElem? (i := 1243) (by decide +kernel), List.mem_of_getElem? (i := 1662) (by decide +kernel), List.mem_of_getElem? (i := 1663) (by decide +kernel)⟩
theorem lw_p68 : lw_okq (⟨"InkBarsModel", "againstOf", "(II)I"⟩, 77) := ⟨⟨by decide +kernel, by decide +kernel⟩, List.mem_of_getElem? (i := 1243) (by decide +kernel), List.mem_of_getElem? (i := 1674) (by decide +kernel), List.mem_of_getElem? (i := 1675) (by decide +kernel)⟩
theorem lw_p69 : lw_okq (⟨"InkBarsModel", "isAgainstGrammar", "(II)Z"⟩, 77) := ⟨⟨by decide +kernel, by decide +kernel⟩, List.mem_of_getElem? (i := 1243) (by decide +kernel), List.mem_of_getElem? (i := 1678) (by decide +kernel), List.mem_of_getElem? (i := 1679) (by decide +kernel)⟩
theorem lw_p70 : lw_okq (⟨"InkBarsModel", "isWord", "(IIZ)Z"⟩, 77) := ⟨⟨by decide +kernel, by decide +kernel⟩, List.mem_of_getElem? (i := 1243) (by decide +kernel), List.mem_of_getElem? (i := 1682) (by decide +kernel), List.mem_of_getElem? (i := 1683) (by decide +kernel)⟩
theorem lw_p71 : lw_okq (⟨"InkBarsModel", "isVowel", "(I)Z"⟩, 77) := ⟨⟨by decide +kernel, by decide +kernel⟩, List.mem_of_getElem? (i := 1243) (by decide +kernel), List.mem_of_getElem? (i := 1686) (by decide +kernel), List.mem_of_getElem? (i := 1687) (by decide +kernel)⟩
theorem lw_p72 : lw_okq (⟨"InkBarsModel", "isAgainstRules", "(II)Z"⟩, 77) := ⟨⟨by decide +kernel, by decide +kernel⟩, List.mem_of_getElem? (i := 1243) (by decide +kernel), List.mem_of_getElem? (i := 1690) (by decide +kernel), List.mem_of_getElem? (i := 1691) (by decide +kernel)⟩
theorem lw_p73 : lw_okq (⟨"InkBarsModel", "holds", "(I)Z"⟩, 77) := ⟨⟨by decide +kernel, by decide +kernel⟩, List.mem_of_getElem? (i := 1243) (by decide +kernel), List.mem_of_getElem? (i := 1694) (by decide +kernel), List.mem_of_getElem? (i := 1695) (by decide +kernel)⟩
theorem lw_p74 : lw_okq (⟨"InkBarsModel", "does", "(II)V"⟩, 77) := ⟨⟨by decide +kernel, by decide +kernel⟩, List.mem_of_getElem? (i := 1243) (by decide +kernel), List.mem_of_getElem? (i := 1698) (by decide +kernel), List.mem_of_getElem? (i := 1699) (by decide +kernel)⟩
theorem lw_p75 : lw_okq (⟨"InkBarsModel", "valueOf", "(I)I"⟩, 77) := ⟨⟨by decide +kernel, by decide +kernel⟩, List.mem_of_getElem? (i := 1243) (by decide +kernel), List.mem_of_getElem? (i := 1705) (by decide +kernel), List.mem_of_getElem? (i := 1706) (by decide +kernel)⟩
theorem lw_p76 : lw_okq (⟨"InkBarsModel", "isAgainstLists", "(II)Z"⟩, 77) := ⟨⟨by decide +kernel, by decide +kernel⟩, List.mem_of_getElem? (i := 1243) (by decide +kernel), List.mem_of_getElem? (i := 1709) (by decide +kernel), List.mem_of_getElem? (i := 1710) (by decide +kernel)⟩
theorem lw_p77 : lw_okq (⟨"InkBarsModel", "rowsOf", "()I"⟩, 77) := ⟨⟨by decide +kernel, by decide +kernel⟩, List.mem_of_getElem? (i := 1243) (by decide +kernel), List.mem_of_getElem? (i := 1720) (by decide +kernel), List.mem_of_getElem? (i := 1721) (by decide +kernel)⟩
theorem lw_p78 : lw_okq (⟨"InkBarsModel", "takes", "(I)Z"⟩, 77) := ⟨⟨by decide +kernel, by decide +kernel⟩, List.mem_of_getElem? (i := 1243) (by decide +kernel), List.mem_of_getElem? (i := 1724) (by decide +kernel), List.mem_of_getElem? (i := 1725) (by decide +kernel)⟩
theorem lw_p79 : lw_okq (⟨"InkBarsModel", "asks", "()V"⟩, 77) := ⟨⟨by decide +kernel, by decide +kernel⟩, List.mem_of_getElem? (i := 1243) (by decide +kernel), List.mem_of_getElem? (i := 1728) (by decide +kernel), List.mem_of_getElem? (i := 1729) (by decide +kernel)⟩
def lw_privs_5 : List (MethodName × Nat) := [(⟨"InkBarsModel", "goesBehind", "()Z"⟩, 77), (⟨"InkBarsModel", "joins", "(Z)V"⟩, 77), (⟨"InkBarsModel", "isBar", "(I)Z"⟩, 77), (⟨"InkBarsModel", "habitOf", "(IZ)I"⟩, 77), (⟨"InkBarsModel", "againstOf", "(II)I"⟩, 77), (⟨"InkBarsModel", "isAgainstGrammar", "(II)Z"⟩, 77), (⟨"InkBarsModel", "isWord", "(IIZ)Z"⟩, 77), (⟨"InkBarsModel", "isVowel", "(I)Z"⟩, 77), (⟨"InkBarsModel", "isAgainstRules", "(II)Z"⟩, 77), (⟨"InkBarsModel", "holds", "(I)Z"⟩, 77), (⟨"InkBarsModel", "does", "(II)V"⟩, 77), (⟨"InkBarsModel", "valueOf", "(I)I"⟩, 77), (⟨"InkBarsModel", "isAgainstLists", "(II)Z"⟩, 77), (⟨"InkBarsModel", "rowsOf", "()I"⟩, 77), (⟨"InkBarsModel", "takes", "(I)Z"⟩, 77), (⟨"InkBarsModel", "asks", "()V"⟩, 77)]
theorem lw_r5 : ∀ q ∈ lw_privs_5, lw_okq q := List.forall_mem_cons.mpr ⟨lw_p64, List.forall_mem_cons.mpr ⟨lw_p65, List.forall_mem_cons.mpr ⟨lw_p66, List.forall_mem_cons.mpr ⟨lw_p67, List.forall_mem_cons.mpr ⟨lw_p68, List.forall_mem_cons.mpr ⟨lw_p69, List.forall_mem_cons.mpr ⟨lw_p70, List.forall_mem_cons.mpr ⟨lw_p71, List.forall_mem_cons.mpr ⟨lw_p72, List.forall_mem_cons.mpr ⟨lw_p73, List.forall_mem_cons.mpr ⟨lw_p74, List.forall_mem_cons.mpr ⟨lw_p75, List.forall_mem_cons.mpr ⟨lw_p76, List.forall_mem_cons.mpr ⟨lw_p77, List.forall_mem_cons.mpr ⟨lw_p78, List.forall_mem_cons.mpr ⟨lw_p79, fun _ h => absurd h List.not_mem_nil⟩⟩⟩⟩⟩⟩⟩⟩⟩⟩⟩⟩⟩⟩⟩⟩
theorem lw_p80 : lw_okq (⟨"InkBarsModel", "speaks", "(II)I"⟩, 77) := ⟨⟨by decide +kernel, by decide +kernel⟩, List.mem_of_getElem? (i := 1243) (by decide +kernel), List.mem_of_getElem? (i := 1732) (by decide +kernel), List.mem_of_getElem? (i := 1733) (by decide +kernel)⟩
theorem lw_p81 : lw_okq (⟨"InkBarsModel", "breaksSo", "(I)Z"⟩, 77) := ⟨⟨by decide +kernel, by decide +kernel⟩, List.mem_of_getElem? (i := 1243) (by decide +kernel), List.mem_of_getElem? (i := 1736) (by decide +kernel), List.mem_of_getElem? (i := 1737) (by decide +kernel)⟩
theorem lw_p82 : lw_okq (⟨"InkBarsModel", "sets", "(I)V"⟩, 77) := ⟨⟨by decide +kernel, by decide +kernel⟩, List.mem_of_getElem? (i := 1243) (by decide +kernel), List.mem_of_getElem? (i := 1740) (by decide +kernel), List.mem_of_getElem? (i := 1741) (by decide +kernel)⟩
theorem lw_p83 : lw_okq (⟨"InkBarsModel", "wideOfToken", "(II)I"⟩, 77) := ⟨⟨by decide +kernel, by decide +kernel⟩, List.mem_of_getElem? (i := 1243) (by decide +kernel), List.mem_of_getElem? (i := 1744) (by decide +kernel), List.mem_of_getElem? (i := 1745) (by decide +kernel)⟩
theorem lw_p84 : lw_okq (⟨"InkBarsModel", "isSheet", "(I)Z"⟩, 77) := ⟨⟨by decide +kernel, by decide +kernel⟩, List.mem_of_getElem? (i := 1243) (by decide +kernel), List.mem_of_getElem? (i := 1752) (by decide +kernel), List.mem_of_getElem? (i := 1753) (by decide +kernel)⟩
theorem lw_p85 : lw_okq (⟨"InkBarsModel", "fills", "(I)V"⟩, 77) := ⟨⟨by decide +kernel, by decide +kernel⟩, List.mem_of_getElem? (i := 1243) (by decide +kernel), List.mem_of_getElem? (i := 1761) (by decide +kernel), List.mem_of_getElem? (i := 1762) (by decide +kernel)⟩
theorem lw_p86 : lw_okq (⟨"InkBarsModel", "begins", "()Z"⟩, 77) := ⟨⟨by decide +kernel, by decide +kernel⟩, List.mem_of_getElem? (i := 1243) (by decide +kernel), List.mem_of_getElem? (i := 1765) (by decide +kernel), List.mem_of_getElem? (i := 1766) (by decide +kernel)⟩
theorem lw_p87 : lw_okq (⟨"InkBarsModel", "tableOf", "()I"⟩, 77) := ⟨⟨by decide +kernel, by decide +kernel⟩, List.mem_of_getElem? (i := 1243) (by decide +kernel), List.mem_of_getElem? (i := 1769) (by decide +kernel), List.mem_of_getElem? (i := 1770) (by decide +kernel)⟩
theorem lw_p88 : lw_okq (⟨"InkBarsModel", "goesOnNames", "()Z"⟩, 77) := ⟨⟨by decide +kernel, by decide +kernel⟩, List.mem_of_getElem? (i := 1243) (by decide +kernel), List.mem_of_getElem? (i := 1773) (by decide +kernel), List.mem_of_getElem? (i := 1774) (by decide +kernel)⟩
theorem lw_p89 : lw_okq (⟨"InkBarsModel", "mayOf", "(I)I"⟩, 77) := ⟨⟨by decide +kernel, by decide +kernel⟩, List.mem_of_getElem? (i := 1243) (by decide +kernel), List.mem_of_getElem? (i := 1781) (by decide +kernel), List.mem_of_getElem? (i := 1782) (by decide +kernel)⟩
theorem lw_p90 : lw_okq (⟨"InkBarsModel", "habits", "()V"⟩, 77) := ⟨⟨by decide +kernel, by decide +kernel⟩, List.mem_of_getElem? (i := 1243) (by decide +kernel), List.mem_of_getElem? (i := 1798) (by decide +kernel), List.mem_of_getElem? (i := 1799) (by decide +kernel)⟩
theorem lw_p91 : lw_okq (⟨"InkBarsModel", "haveAll", "(II)Z"⟩, 77) := ⟨⟨by decide +kernel, by decide +kernel⟩, List.mem_of_getElem? (i := 1243) (by decide +kernel), List.mem_of_getElem? (i := 1802) (by decide +kernel), List.mem_of_getElem? (i := 1803) (by decide +kernel)⟩
theorem lw_p92 : lw_okq (⟨"InkBarsModel", "says", "(II)I"⟩, 77) := ⟨⟨by decide +kernel, by decide +kernel⟩, List.mem_of_getElem? (i := 1243) (by decide +kernel), List.mem_of_getElem? (i := 1811) (by decide +kernel), List.mem_of_getElem? (i := 1812) (by decide +kernel)⟩
theorem lw_p93 : lw_okq (⟨"InkBarsModel", "openOf", "(II)I"⟩, 77) := ⟨⟨by decide +kernel, by decide +kernel⟩, List.mem_of_getElem? (i := 1243) (by decide +kernel), List.mem_of_getElem? (i := 1830) (by decide +kernel), List.mem_of_getElem? (i := 1831) (by decide +kernel)⟩
theorem lw_p94 : lw_okq (⟨"InkBarsModel", "isCopy", "(I)Z"⟩, 77) := ⟨⟨by decide +kernel, by decide +kernel⟩, List.mem_of_getElem? (i := 1243) (by decide +kernel), List.mem_of_getElem? (i := 1838) (by decide +kernel), List.mem_of_getElem? (i := 1839) (by decide +kernel)⟩
theorem lw_p95 : lw_okq (⟨"InkBarsModel", "hasCopy", "(II)Z"⟩, 77) := ⟨⟨by decide +kernel, by decide +kernel⟩, List.mem_of_getElem? (i := 1243) (by decide +kernel), List.mem_of_getElem? (i := 1854) (by decide +kernel), List.mem_of_getElem? (i := 1855) (by decide +kernel)⟩
def lw_privs_6 : List (MethodName × Nat) := [(⟨"InkBarsModel", "speaks", "(II)I"⟩, 77), (⟨"InkBarsModel", "breaksSo", "(I)Z"⟩, 77), (⟨"InkBarsModel", "sets", "(I)V"⟩, 77), (⟨"InkBarsModel", "wideOfToken", "(II)I"⟩, 77), (⟨"InkBarsModel", "isSheet", "(I)Z"⟩, 77), (⟨"InkBarsModel", "fills", "(I)V"⟩, 77), (⟨"InkBarsModel", "begins", "()Z"⟩, 77), (⟨"InkBarsModel", "tableOf", "()I"⟩, 77), (⟨"InkBarsModel", "goesOnNames", "()Z"⟩, 77), (⟨"InkBarsModel", "mayOf", "(I)I"⟩, 77), (⟨"InkBarsModel", "habits", "()V"⟩, 77), (⟨"InkBarsModel", "haveAll", "(II)Z"⟩, 77), (⟨"InkBarsModel", "says", "(II)I"⟩, 77), (⟨"InkBarsModel", "openOf", "(II)I"⟩, 77), (⟨"InkBarsModel", "isCopy", "(I)Z"⟩, 77), (⟨"InkBarsModel", "hasCopy", "(II)Z"⟩, 77)]
theorem lw_r6 : ∀ q ∈ lw_privs_6, lw_okq q := List.forall_mem_cons.mpr ⟨lw_p80, List.forall_mem_cons.mpr ⟨lw_p81, List.forall_mem_cons.mpr ⟨lw_p82, List.forall_mem_cons.mpr ⟨lw_p83, List.forall_mem_cons.mpr ⟨lw_p84, List.forall_mem_cons.mpr ⟨lw_p85, List.forall_mem_cons.mpr ⟨lw_p86, List.forall_mem_cons.mpr ⟨lw_p87, List.forall_mem_cons.mpr ⟨lw_p88, List.forall_mem_cons.mpr ⟨lw_p89, List.forall_mem_cons.mpr ⟨lw_p90, List.forall_mem_cons.mpr ⟨lw_p91, List.forall_mem_cons.mpr ⟨lw_p92, List.forall_mem_cons.mpr ⟨lw_p93, List.forall_mem_cons.mpr ⟨lw_p94, List.forall_mem_cons.mpr ⟨lw_p95, fun _ h => absurd h List.not_mem_nil⟩⟩⟩⟩⟩⟩⟩⟩⟩⟩⟩⟩⟩⟩⟩⟩
theorem lw_p96 : lw_okq (⟨"InkBarsModel", "coversOf", "(II)I"⟩, 77) := ⟨⟨by decide +kernel, by decide +kernel⟩, List.mem_of_getElem? (i := 1243) (by decide +kernel), List.mem_of_getElem? (i := 1858) (by decide +kernel), List.mem_of_getElem? (i := 1859) (by decide +kernel)⟩
theorem lw_p97 : lw_okq (⟨"InkBarsModel", "numberAt", "(I)I"⟩, 77) := ⟨⟨by decide +kernel, by decide +kernel⟩, List.mem_of_getElem? (i := 1243) (by decide +kernel), List.mem_of_getElem? (i := 1875) (by decide +kernel), List.mem_of_getElem? (i := 1876) (by decide +kernel)⟩
theorem lw_p98 : lw_okq (⟨"InkBarsModel", "linesOf", "(I)I"⟩, 77) := ⟨⟨by decide +kernel, by decide +kernel⟩, List.mem_of_getElem? (i := 1243) (by decide +kernel), List.mem_of_getElem? (i := 1884) (by decide +kernel), List.mem_of_getElem? (i := 1885) (by decide +kernel)⟩
def lw_privs_7 : List (MethodName × Nat) := [(⟨"InkBarsModel", "coversOf", "(II)I"⟩, 77), (⟨"InkBarsModel", "numberAt", "(I)I"⟩, 77), (⟨"InkBarsModel", "linesOf", "(I)I"⟩, 77)]
theorem lw_r7 : ∀ q ∈ lw_privs_7, lw_okq q := List.forall_mem_cons.mpr ⟨lw_p96, List.forall_mem_cons.mpr ⟨lw_p97, List.forall_mem_cons.mpr ⟨lw_p98, fun _ h => absurd h List.not_mem_nil⟩⟩⟩
def lw_privs : List (MethodName × Nat) := lw_privs_1 ++ (lw_privs_2 ++ (lw_privs_3 ++ (lw_privs_4 ++ (lw_privs_5 ++ (lw_privs_6 ++ (lw_privs_7))))))
def lw_tbl : List Cond := k2_sels lw_privs ++ tables_1
theorem lw_privs_ok : ∀ q ∈ lw_privs, lw_okq q := by
  show ∀ q ∈ lw_privs_1 ++ (lw_privs_2 ++ (lw_privs_3 ++ (lw_privs_4 ++ (lw_privs_5 ++ (lw_privs_6 ++ (lw_privs_7)))))), lw_okq q
  exact List.forall_mem_append.mpr ⟨lw_r1, List.forall_mem_append.mpr ⟨lw_r2, List.forall_mem_append.mpr ⟨lw_r3, List.forall_mem_append.mpr ⟨lw_r4, List.forall_mem_append.mpr ⟨lw_r5, List.forall_mem_append.mpr ⟨lw_r6, lw_r7⟩⟩⟩⟩⟩⟩
-- ===== end of PART A; then your names; then what follows =====
end
section
def RX0 : String := "InkBars$Bars"
def TX0 : u_T := fun k => match k with
  | 0 => ("InkBars$Bars", "inks", "[I", true)
  | 1 => ("InkBars$Bars", "years", "[I", true)
  | 2 => ("InkBars$Bars", "sorts", "[I", true)
  | 3 => ("InkBars$Bars", "tieSorts", "[I", true)
  | 4 => ("InkBars$Bars", "tieFirsts", "[I", true)
  | 5 => ("InkBars$Bars", "tieSeconds", "[I", true)
  | 6 => ("InkBars$Bars", "listBars", "[I", true)
  | 7 => ("InkBars$Bars", "listBehinds", "[I", true)
  | 8 => ("InkBars$Bars", "listAheads", "[I", true)
  | 9 => ("InkBars$Bars", "count", "I", false)
  | 10 => ("InkBars$Bars", "ties", "I", false)
  | _ => ("InkBars$Bars", "lists", "I", false)
def tyX0 : Nat → FieldType := fun k => match k with
  | 0 => .array .int
  | 1 => .array .int
  | 2 => .array .int
  | 3 => .array .int
  | 4 => .array .int
  | 5 => .array .int
  | 6 => .array .int
  | 7 => .array .int
  | 8 => .array .int
  | 9 => .int
  | 10 => .int
  | _ => .int
theorem nmX0 : ∀ a, a < 12 → ∀ b, b < 12 → a ≠ b → (TX0 a).2.1 ≠ (TX0 b).2.1 := by decide +kernel
theorem tyX0_ok : ∀ k, k < 12 → parseFieldDescriptor (TX0 k).2.2.1 = some (tyX0 k) := by decide +kernel
abbrev cX0_init : ByteArray := prog_2_method_1_code
def yX0_init : MethodName := ⟨RX0, "<init>", "()V"⟩
abbrev cX0_count : ByteArray := prog_2_method_2_code
def yX0_count : MethodName := ⟨RX0, "count", "()I"⟩
abbrev cX0_ties : ByteArray := prog_2_method_3_code
def yX0_ties : MethodName := ⟨RX0, "ties", "()I"⟩
abbrev cX0_lists : ByteArray := prog_2_method_4_code
def yX0_lists : MethodName := ⟨RX0, "lists", "()I"⟩
abbrev cX0_full : ByteArray := prog_2_method_5_code
def yX0_full : MethodName := ⟨RX0, "full", "()Z"⟩
abbrev cX0_tiesFull : ByteArray := prog_2_method_6_code
def yX0_tiesFull : MethodName := ⟨RX0, "tiesFull", "()Z"⟩
abbrev cX0_listsFull : ByteArray := prog_2_method_7_code
def yX0_listsFull : MethodName := ⟨RX0, "listsFull", "()Z"⟩
abbrev cX0_has : ByteArray := prog_2_method_8_code
def yX0_has : MethodName := ⟨RX0, "has", "(I)Z"⟩
abbrev cX0_add : ByteArray := prog_2_method_9_code
def yX0_add : MethodName := ⟨RX0, "add", "(III)I"⟩
abbrev cX0_addTie : ByteArray := prog_2_method_10_code
def yX0_addTie : MethodName := ⟨RX0, "addTie", "(III)V"⟩
abbrev cX0_addListed : ByteArray := prog_2_method_11_code
def yX0_addListed : MethodName := ⟨RX0, "addListed", "(III)V"⟩
abbrev cX0_ink : ByteArray := prog_2_method_12_code
def yX0_ink : MethodName := ⟨RX0, "ink", "(I)I"⟩
abbrev cX0_year : ByteArray := prog_2_method_13_code
def yX0_year : MethodName := ⟨RX0, "year", "(I)I"⟩
abbrev cX0_sorts : ByteArray := prog_2_method_14_code
def yX0_sorts : MethodName := ⟨RX0, "sorts", "(I)I"⟩
abbrev cX0_tied : ByteArray := prog_2_method_15_code
def yX0_tied : MethodName := ⟨RX0, "tied", "(I)Z"⟩
abbrev cX0_tieSort : ByteArray := prog_2_method_16_code
def yX0_tieSort : MethodName := ⟨RX0, "tieSort", "(I)I"⟩
abbrev cX0_tieFirst : ByteArray := prog_2_method_17_code
def yX0_tieFirst : MethodName := ⟨RX0, "tieFirst", "(I)I"⟩
abbrev cX0_tieSecond : ByteArray := prog_2_method_18_code
def yX0_tieSecond : MethodName := ⟨RX0, "tieSecond", "(I)I"⟩
abbrev cX0_inLists : ByteArray := prog_2_method_19_code
def yX0_inLists : MethodName := ⟨RX0, "inLists", "(IILInkBars$Names;)Z"⟩
def RX1 : String := "InkBars$Copies"
def TX1 : u_T := fun k => match k with
  | 0 => ("InkBars$Copies", "sheets", "[I", true)
  | 1 => ("InkBars$Copies", "days", "[I", true)
  | 2 => ("InkBars$Copies", "houses", "[I", true)
  | 3 => ("InkBars$Copies", "covers", "[I", true)
  | _ => ("InkBars$Copies", "count", "I", false)
def tyX1 : Nat → FieldType := fun k => match k with
  | 0 => .array .int
  | 1 => .array .int
  | 2 => .array .int
  | 3 => .array .int
  | _ => .int
theorem nmX1 : ∀ a, a < 5 → ∀ b, b < 5 → a ≠ b → (TX1 a).2.1 ≠ (TX1 b).2.1 := by decide +kernel
theorem tyX1_ok : ∀ k, k < 5 → parseFieldDescriptor (TX1 k).2.2.1 = some (tyX1 k) := by decide +kernel
abbrev cX1_init : ByteArray := prog_3_method_1_code
def yX1_init : MethodName := ⟨RX1, "<init>", "()V"⟩
abbrev cX1_count : ByteArray := prog_3_method_2_code
def yX1_count : MethodName := ⟨RX1, "count", "()I"⟩
abbrev cX1_full : ByteArray := prog_3_method_3_code
def yX1_full : MethodName := ⟨RX1, "full", "()Z"⟩
abbrev cX1_has : ByteArray := prog_3_method_4_code
def yX1_has : MethodName := ⟨RX1, "has", "(I)Z"⟩
abbrev cX1_add : ByteArray := prog_3_method_5_code
def yX1_add : MethodName := ⟨RX1, "add", "(IIII)I"⟩
abbrev cX1_sheet : ByteArray := prog_3_method_6_code
def yX1_sheet : MethodName := ⟨RX1, "sheet", "(I)I"⟩
abbrev cX1_day : ByteArray := prog_3_method_7_code
def yX1_day : MethodName := ⟨RX1, "day", "(I)I"⟩
abbrev cX1_covered : ByteArray := prog_3_method_8_code
def yX1_covered : MethodName := ⟨RX1, "covered", "(I)I"⟩
abbrev cX1_openBy : ByteArray := prog_3_method_9_code
def yX1_openBy : MethodName := ⟨RX1, "openBy", "(III)I"⟩
abbrev cX1_firstOpen : ByteArray := prog_3_method_10_code
def yX1_firstOpen : MethodName := ⟨RX1, "firstOpen", "(II)I"⟩
abbrev cX1_copied : ByteArray := prog_3_method_11_code
def yX1_copied : MethodName := ⟨RX1, "copied", "(II)Z"⟩
abbrev cX1_coveredBy : ByteArray := prog_3_method_12_code
def yX1_coveredBy : MethodName := ⟨RX1, "coveredBy", "(II)I"⟩
abbrev cX1_compare : ByteArray := prog_3_method_13_code
def yX1_compare : MethodName := ⟨RX1, "compare", "(II)I"⟩
def RX2 : String := "InkBars$Fillings"
def TX2 : u_T := fun k => match k with
  | 0 => ("InkBars$Fillings", "lines", "LInkBars$Lines;", true)
  | 1 => ("InkBars$Fillings", "fits", "[I", true)
  | 2 => ("InkBars$Fillings", "pairs", "[I", true)
  | 3 => ("InkBars$Fillings", "wides", "[I", true)
  | 4 => ("InkBars$Fillings", "weights", "[I", true)
  | 5 => ("InkBars$Fillings", "under", "[I", true)
  | 6 => ("InkBars$Fillings", "underWides", "[I", true)
  | 7 => ("InkBars$Fillings", "reached", "[I", true)
  | 8 => ("InkBars$Fillings", "odds", "[J", true)
  | 9 => ("InkBars$Fillings", "bars", "I", false)
  | 10 => ("InkBars$Fillings", "names", "I", false)
  | 11 => ("InkBars$Fillings", "tied", "Z", false)
  | 12 => ("InkBars$Fillings", "lined", "Z", false)
  | _ => ("InkBars$Fillings", "all", "J", false)
def tyX2 : Nat → FieldType := fun k => match k with
  | 0 => .object "InkBars$Lines"
  | 1 => .array .int
  | 2 => .array .int
  | 3 => .array .int
  | 4 => .array .int
  | 5 => .array .int
  | 6 => .array .int
  | 7 => .array .int
  | 8 => .array .long
  | 9 => .int
  | 10 => .int
  | 11 => .boolean
  | 12 => .boolean
  | _ => .long
theorem nmX2 : ∀ a, a < 14 → ∀ b, b < 14 → a ≠ b → (TX2 a).2.1 ≠ (TX2 b).2.1 := by decide +kernel
theorem tyX2_ok : ∀ k, k < 14 → parseFieldDescriptor (TX2 k).2.2.1 = some (tyX2 k) := by decide +kernel
abbrev cX2_init : ByteArray := prog_4_method_1_code
def yX2_init : MethodName := ⟨RX2, "<init>", "()V"⟩
abbrev cX2_begin : ByteArray := prog_4_method_2_code
def yX2_begin : MethodName := ⟨RX2, "begin", "(II)V"⟩
abbrev cX2_isBar : ByteArray := prog_4_method_3_code
def yX2_isBar : MethodName := ⟨RX2, "isBar", "(I)Z"⟩
abbrev cX2_isName : ByteArray := prog_4_method_4_code
def yX2_isName : MethodName := ⟨RX2, "isName", "(I)Z"⟩
abbrev cX2_pairPlace : ByteArray := prog_4_method_5_code
def yX2_pairPlace : MethodName := ⟨RX2, "pairPlace", "(III)I"⟩
abbrev cX2_setName : ByteArray := prog_4_method_6_code
def yX2_setName : MethodName := ⟨RX2, "setName", "(III)V"⟩
abbrev cX2_wide : ByteArray := prog_4_method_7_code
def yX2_wide : MethodName := ⟨RX2, "wide", "(I)I"⟩
abbrev cX2_pair : ByteArray := prog_4_method_8_code
def yX2_pair : MethodName := ⟨RX2, "pair", "(IIII)V"⟩
abbrev cX2_setFits : ByteArray := prog_4_method_9_code
def yX2_setFits : MethodName := ⟨RX2, "setFits", "(II)V"⟩
abbrev cX2_heed : ByteArray := prog_4_method_10_code
def yX2_heed : MethodName := ⟨RX2, "heed", "(ZZ)V"⟩
abbrev cX2_hopeful : ByteArray := prog_4_method_11_code
def yX2_hopeful : MethodName := ⟨RX2, "hopeful", "()Z"⟩
abbrev cX2_number : ByteArray := prog_4_method_12_code
def yX2_number : MethodName := ⟨RX2, "number", "()I"⟩
abbrev cX2_fewest : ByteArray := prog_4_method_13_code
def yX2_fewest : MethodName := ⟨RX2, "fewest", "()I"⟩
abbrev cX2_weighAll : ByteArray := prog_4_method_14_code
def yX2_weighAll : MethodName := ⟨RX2, "weighAll", "()V"⟩
abbrev cX2_all : ByteArray := prog_4_method_15_code
def yX2_all : MethodName := ⟨RX2, "all", "()J"⟩
abbrev cX2_odds : ByteArray := prog_4_method_16_code
def yX2_odds : MethodName := ⟨RX2, "odds", "(II)J"⟩
abbrev cX2_may : ByteArray := prog_4_method_17_code
def yX2_may : MethodName := ⟨RX2, "may", "(I)I"⟩
abbrev cX2_likeliest : ByteArray := prog_4_method_18_code
def yX2_likeliest : MethodName := ⟨RX2, "likeliest", "(I)I"⟩
abbrev cX2_candidates : ByteArray := prog_4_method_19_code
def yX2_candidates : MethodName := ⟨RX2, "candidates", "(I)I"⟩
abbrev cX2_countFrom : ByteArray := prog_4_method_20_code
def yX2_countFrom : MethodName := ⟨RX2, "countFrom", "(I)I"⟩
abbrev cX2_countBehind : ByteArray := prog_4_method_21_code
def yX2_countBehind : MethodName := ⟨RX2, "countBehind", "(II)I"⟩
abbrev cX2_reachFrom : ByteArray := prog_4_method_22_code
def yX2_reachFrom : MethodName := ⟨RX2, "reachFrom", "(I)Z"⟩
abbrev cX2_reachBehind : ByteArray := prog_4_method_23_code
def yX2_reachBehind : MethodName := ⟨RX2, "reachBehind", "(II)Z"⟩
abbrev cX2_weighFrom : ByteArray := prog_4_method_24_code
def yX2_weighFrom : MethodName := ⟨RX2, "weighFrom", "(IJ)J"⟩
abbrev cX2_weighBehind : ByteArray := prog_4_method_25_code
def yX2_weighBehind : MethodName := ⟨RX2, "weighBehind", "(IIJ)J"⟩
def RX3 : String := "InkBars$Habits"
def TX3 : u_T := fun k => match k with
  | 0 => ("InkBars$Habits", "houses", "[I", true)
  | 1 => ("InkBars$Habits", "lifted", "[I", true)
  | 2 => ("InkBars$Habits", "inks", "[I", true)
  | _ => ("InkBars$Habits", "count", "I", false)
def tyX3 : Nat → FieldType := fun k => match k with
  | 0 => .array .int
  | 1 => .array .int
  | 2 => .array .int
  | _ => .int
theorem nmX3 : ∀ a, a < 4 → ∀ b, b < 4 → a ≠ b → (TX3 a).2.1 ≠ (TX3 b).2.1 := by decide +kernel
theorem tyX3_ok : ∀ k, k < 4 → parseFieldDescriptor (TX3 k).2.2.1 = some (tyX3 k) := by decide +kernel
abbrev cX3_init : ByteArray := prog_5_method_1_code
def yX3_init : MethodName := ⟨RX3, "<init>", "()V"⟩
abbrev cX3_count : ByteArray := prog_5_method_2_code
def yX3_count : MethodName := ⟨RX3, "count", "()I"⟩
abbrev cX3_full : ByteArray := prog_5_method_3_code
def yX3_full : MethodName := ⟨RX3, "full", "()Z"⟩
abbrev cX3_add : ByteArray := prog_5_method_4_code
def yX3_add : MethodName := ⟨RX3, "add", "(III)V"⟩
abbrev cX3_least : ByteArray := prog_5_method_5_code
def yX3_least : MethodName := ⟨RX3, "least", "(ILInkBars$Names;LInkBars$Letters;)I"⟩
abbrev cX3_greatest : ByteArray := prog_5_method_6_code
def yX3_greatest : MethodName := ⟨RX3, "greatest", "(ILInkBars$Names;LInkBars$Letters;)I"⟩
abbrev cX3_bound : ByteArray := prog_5_method_7_code
def yX3_bound : MethodName := ⟨RX3, "bound", "(IZLInkBars$Names;LInkBars$Letters;)I"⟩
def RX4 : String := "InkBars$Letters"
def TX4 : u_T := fun k => match k with
  | 0 => ("InkBars$Letters", "wides", "[I", true)
  | _ => ("InkBars$Letters", "joins", "[I", true)
def tyX4 : Nat → FieldType := fun k => match k with
  | 0 => .array .int
  | _ => .array .int
theorem nmX4 : ∀ a, a < 2 → ∀ b, b < 2 → a ≠ b → (TX4 a).2.1 ≠ (TX4 b).2.1 := by decide +kernel
theorem tyX4_ok : ∀ k, k < 2 → parseFieldDescriptor (TX4 k).2.2.1 = some (tyX4 k) := by decide +kernel
abbrev cX4_init : ByteArray := prog_6_method_1_code
def yX4_init : MethodName := ⟨RX4, "<init>", "()V"⟩
abbrev cX4_setWide : ByteArray := prog_6_method_2_code
def yX4_setWide : MethodName := ⟨RX4, "setWide", "(II)V"⟩
abbrev cX4_setJoined : ByteArray := prog_6_method_3_code
def yX4_setJoined : MethodName := ⟨RX4, "setJoined", "(III)V"⟩
abbrev cX4_wideOf : ByteArray := prog_6_method_4_code
def yX4_wideOf : MethodName := ⟨RX4, "wideOf", "(I)I"⟩
abbrev cX4_joinOf : ByteArray := prog_6_method_5_code
def yX4_joinOf : MethodName := ⟨RX4, "joinOf", "(II)I"⟩
def RX5 : String := "InkBars$Lines"
def TX5 : u_T := fun k => match k with
  | 0 => ("InkBars$Lines", "many", "[I", true)
  | 1 => ("InkBars$Lines", "left", "[I", true)
  | 2 => ("InkBars$Lines", "wider", "[Z", true)
  | 3 => ("InkBars$Lines", "times", "[I", true)
  | 4 => ("InkBars$Lines", "now", "[I", true)
  | 5 => ("InkBars$Lines", "broken", "Z", false)
  | 6 => ("InkBars$Lines", "least", "I", false)
  | _ => ("InkBars$Lines", "greatest", "I", false)
def tyX5 : Nat → FieldType := fun k => match k with
  | 0 => .array .int
  | 1 => .array .int
  | 2 => .array .boolean
  | 3 => .array .int
  | 4 => .array .int
  | 5 => .boolean
  | 6 => .int
  | _ => .int
theorem nmX5 : ∀ a, a < 8 → ∀ b, b < 8 → a ≠ b → (TX5 a).2.1 ≠ (TX5 b).2.1 := by decide +kernel
theorem tyX5_ok : ∀ k, k < 8 → parseFieldDescriptor (TX5 k).2.2.1 = some (tyX5 k) := by decide +kernel
abbrev cX5_init : ByteArray := prog_7_method_1_code
def yX5_init : MethodName := ⟨RX5, "<init>", "()V"⟩
abbrev cX5_broken : ByteArray := prog_7_method_2_code
def yX5_broken : MethodName := ⟨RX5, "broken", "()Z"⟩
abbrev cX5_least : ByteArray := prog_7_method_3_code
def yX5_least : MethodName := ⟨RX5, "least", "()I"⟩
abbrev cX5_greatest : ByteArray := prog_7_method_4_code
def yX5_greatest : MethodName := ⟨RX5, "greatest", "()I"⟩
abbrev cX5_read : ByteArray := prog_7_method_5_code
def yX5_read : MethodName := ⟨RX5, "read", "(LInkBars$Sheets;LInkBars$Letters;)V"⟩
abbrev cX5_readSheet : ByteArray := prog_7_method_6_code
def yX5_readSheet : MethodName := ⟨RX5, "readSheet", "(ILInkBars$Sheets;LInkBars$Letters;)V"⟩
abbrev cX5_stand : ByteArray := prog_7_method_7_code
def yX5_stand : MethodName := ⟨RX5, "stand", "(IZ)V"⟩
abbrev cX5_add : ByteArray := prog_7_method_8_code
def yX5_add : MethodName := ⟨RX5, "add", "(IZ)V"⟩
abbrev cX5_asksOfTheSame : ByteArray := prog_7_method_9_code
def yX5_asksOfTheSame : MethodName := ⟨RX5, "asksOfTheSame", "(I)Z"⟩
abbrev cX5_put : ByteArray := prog_7_method_10_code
def yX5_put : MethodName := ⟨RX5, "put", "(IIZ)V"⟩
abbrev cX5_heeds : ByteArray := prog_7_method_11_code
def yX5_heeds : MethodName := ⟨RX5, "heeds", "(I)Z"⟩
abbrev cX5_narrow : ByteArray := prog_7_method_12_code
def yX5_narrow : MethodName := ⟨RX5, "narrow", "(I[I)V"⟩
def RX6 : String := "InkBars$Names"
def TX6 : u_T := fun k => match k with
  | 0 => ("InkBars$Names", "words", "LInkBars$Words;", true)
  | 1 => ("InkBars$Names", "sorts", "[I", true)
  | 2 => ("InkBars$Names", "froms", "[I", true)
  | 3 => ("InkBars$Names", "tos", "[I", true)
  | 4 => ("InkBars$Names", "weights", "[I", true)
  | 5 => ("InkBars$Names", "aheads", "[I", true)
  | _ => ("InkBars$Names", "count", "I", false)
def tyX6 : Nat → FieldType := fun k => match k with
  | 0 => .object "InkBars$Words"
  | 1 => .array .int
  | 2 => .array .int
  | 3 => .array .int
  | 4 => .array .int
  | 5 => .array .int
  | _ => .int
theorem nmX6 : ∀ a, a < 7 → ∀ b, b < 7 → a ≠ b → (TX6 a).2.1 ≠ (TX6 b).2.1 := by decide +kernel
theorem tyX6_ok : ∀ k, k < 7 → parseFieldDescriptor (TX6 k).2.2.1 = some (tyX6 k) := by decide +kernel
abbrev cX6_init : ByteArray := prog_8_method_1_code
def yX6_init : MethodName := ⟨RX6, "<init>", "()V"⟩
abbrev cX6_count : ByteArray := prog_8_method_2_code
def yX6_count : MethodName := ⟨RX6, "count", "()I"⟩
abbrev cX6_full : ByteArray := prog_8_method_3_code
def yX6_full : MethodName := ⟨RX6, "full", "()Z"⟩
abbrev cX6_has : ByteArray := prog_8_method_4_code
def yX6_has : MethodName := ⟨RX6, "has", "(I)Z"⟩
abbrev cX6_read : ByteArray := prog_8_method_5_code
def yX6_read : MethodName := ⟨RX6, "read", "(LInkBars$Tape;I)Z"⟩
abbrev cX6_add : ByteArray := prog_8_method_6_code
def yX6_add : MethodName := ⟨RX6, "add", "(IIII)I"⟩
abbrev cX6_wide : ByteArray := prog_8_method_7_code
def yX6_wide : MethodName := ⟨RX6, "wide", "(ILInkBars$Letters;)I"⟩
abbrev cX6_length : ByteArray := prog_8_method_8_code
def yX6_length : MethodName := ⟨RX6, "length", "(I)I"⟩
abbrev cX6_first : ByteArray := prog_8_method_9_code
def yX6_first : MethodName := ⟨RX6, "first", "(I)I"⟩
abbrev cX6_vowel : ByteArray := prog_8_method_10_code
def yX6_vowel : MethodName := ⟨RX6, "vowel", "(I)Z"⟩
abbrev cX6_sort : ByteArray := prog_8_method_11_code
def yX6_sort : MethodName := ⟨RX6, "sort", "(I)I"⟩
abbrev cX6_from : ByteArray := prog_8_method_12_code
def yX6_from : MethodName := ⟨RX6, "from", "(I)I"⟩
abbrev cX6_to : ByteArray := prog_8_method_13_code
def yX6_to : MethodName := ⟨RX6, "to", "(I)I"⟩
abbrev cX6_weight : ByteArray := prog_8_method_14_code
def yX6_weight : MethodName := ⟨RX6, "weight", "(I)I"⟩
abbrev cX6_lives : ByteArray := prog_8_method_15_code
def yX6_lives : MethodName := ⟨RX6, "lives", "(II)Z"⟩
abbrev cX6_ahead : ByteArray := prog_8_method_16_code
def yX6_ahead : MethodName := ⟨RX6, "ahead", "(I)I"⟩
abbrev cX6_mates : ByteArray := prog_8_method_17_code
def yX6_mates : MethodName := ⟨RX6, "mates", "(IIZ)I"⟩
abbrev cX6_oneSort : ByteArray := prog_8_method_18_code
def yX6_oneSort : MethodName := ⟨RX6, "oneSort", "(I)I"⟩
def RX7 : String := "InkBars$Rules"
def TX7 : u_T := fun k => match k with
  | 0 => ("InkBars$Rules", "text", "[I", true)
  | 1 => ("InkBars$Rules", "draft", "[I", true)
  | 2 => ("InkBars$Rules", "facts", "[I", true)
  | 3 => ("InkBars$Rules", "length", "I", false)
  | 4 => ("InkBars$Rules", "clauses", "I", false)
  | 5 => ("InkBars$Rules", "asking", "Z", false)
  | 6 => ("InkBars$Rules", "end", "I", false)
  | 7 => ("InkBars$Rules", "at", "I", false)
  | 8 => ("InkBars$Rules", "next", "I", false)
  | 9 => ("InkBars$Rules", "fault", "I", false)
  | _ => ("InkBars$Rules", "refused", "Z", false)
def tyX7 : Nat → FieldType := fun k => match k with
  | 0 => .array .int
  | 1 => .array .int
  | 2 => .array .int
  | 3 => .int
  | 4 => .int
  | 5 => .boolean
  | 6 => .int
  | 7 => .int
  | 8 => .int
  | 9 => .int
  | _ => .boolean
theorem nmX7 : ∀ a, a < 11 → ∀ b, b < 11 → a ≠ b → (TX7 a).2.1 ≠ (TX7 b).2.1 := by decide +kernel
theorem tyX7_ok : ∀ k, k < 11 → parseFieldDescriptor (TX7 k).2.2.1 = some (tyX7 k) := by decide +kernel
abbrev cX7_init : ByteArray := prog_9_method_1_code
def yX7_init : MethodName := ⟨RX7, "<init>", "()V"⟩
abbrev cX7_clauses : ByteArray := prog_9_method_2_code
def yX7_clauses : MethodName := ⟨RX7, "clauses", "()I"⟩
abbrev cX7_tell : ByteArray := prog_9_method_3_code
def yX7_tell : MethodName := ⟨RX7, "tell", "(CI)V"⟩
abbrev cX7_take : ByteArray := prog_9_method_4_code
def yX7_take : MethodName := ⟨RX7, "take", "(LInkBars$Tape;I)I"⟩
abbrev cX7_hold : ByteArray := prog_9_method_5_code
def yX7_hold : MethodName := ⟨RX7, "hold", "(I)Z"⟩
abbrev cX7_begin : ByteArray := prog_9_method_6_code
def yX7_begin : MethodName := ⟨RX7, "begin", "(ZII)V"⟩
abbrev cX7_go : ByteArray := prog_9_method_7_code
def yX7_go : MethodName := ⟨RX7, "go", "(I)V"⟩
abbrev cX7_clause : ByteArray := prog_9_method_8_code
def yX7_clause : MethodName := ⟨RX7, "clause", "(I)V"⟩
abbrev cX7_condition : ByteArray := prog_9_method_9_code
def yX7_condition : MethodName := ⟨RX7, "condition", "(IZ)Z"⟩
abbrev cX7_part : ByteArray := prog_9_method_10_code
def yX7_part : MethodName := ⟨RX7, "part", "(IZ)Z"⟩
abbrev cX7_piece : ByteArray := prog_9_method_11_code
def yX7_piece : MethodName := ⟨RX7, "piece", "(IZ)Z"⟩
abbrev cX7_nested : ByteArray := prog_9_method_12_code
def yX7_nested : MethodName := ⟨RX7, "nested", "(IZ)Z"⟩
abbrev cX7_sum : ByteArray := prog_9_method_13_code
def yX7_sum : MethodName := ⟨RX7, "sum", "(IZ)I"⟩
abbrev cX7_product : ByteArray := prog_9_method_14_code
def yX7_product : MethodName := ⟨RX7, "product", "(IZ)I"⟩
abbrev cX7_factor : ByteArray := prog_9_method_15_code
def yX7_factor : MethodName := ⟨RX7, "factor", "(IZ)I"⟩
abbrev cX7_isFact : ByteArray := prog_9_method_16_code
def yX7_isFact : MethodName := ⟨RX7, "isFact", "(I)Z"⟩
def RX8 : String := "InkBars$Sheets"
def TX8 : u_T := fun k => match k with
  | 0 => ("InkBars$Sheets", "words", "LInkBars$Words;", true)
  | 1 => ("InkBars$Sheets", "bars", "[I", true)
  | 2 => ("InkBars$Sheets", "begins", "[Z", true)
  | 3 => ("InkBars$Sheets", "setBegins", "[Z", true)
  | 4 => ("InkBars$Sheets", "wides", "[I", true)
  | 5 => ("InkBars$Sheets", "tokens", "[I", true)
  | 6 => ("InkBars$Sheets", "notes", "[I", true)
  | 7 => ("InkBars$Sheets", "count", "I", false)
  | 8 => ("InkBars$Sheets", "read", "I", false)
  | 9 => ("InkBars$Sheets", "behindA", "I", false)
  | _ => ("InkBars$Sheets", "behindAn", "I", false)
def tyX8 : Nat → FieldType := fun k => match k with
  | 0 => .object "InkBars$Words"
  | 1 => .array .int
  | 2 => .array .boolean
  | 3 => .array .boolean
  | 4 => .array .int
  | 5 => .array .int
  | 6 => .array .int
  | 7 => .int
  | 8 => .int
  | 9 => .int
  | _ => .int
theorem nmX8 : ∀ a, a < 11 → ∀ b, b < 11 → a ≠ b → (TX8 a).2.1 ≠ (TX8 b).2.1 := by decide +kernel
theorem tyX8_ok : ∀ k, k < 11 → parseFieldDescriptor (TX8 k).2.2.1 = some (tyX8 k) := by decide +kernel
abbrev cX8_init : ByteArray := prog_10_method_1_code
def yX8_init : MethodName := ⟨RX8, "<init>", "()V"⟩
abbrev cX8_count : ByteArray := prog_10_method_2_code
def yX8_count : MethodName := ⟨RX8, "count", "()I"⟩
abbrev cX8_full : ByteArray := prog_10_method_3_code
def yX8_full : MethodName := ⟨RX8, "full", "()Z"⟩
abbrev cX8_has : ByteArray := prog_10_method_4_code
def yX8_has : MethodName := ⟨RX8, "has", "(I)Z"⟩
abbrev cX8_read : ByteArray := prog_10_method_5_code
def yX8_read : MethodName := ⟨RX8, "read", "(LInkBars$Tape;II)I"⟩
abbrev cX8_beginToken : ByteArray := prog_10_method_6_code
def yX8_beginToken : MethodName := ⟨RX8, "beginToken", "(IZI)I"⟩
abbrev cX8_add : ByteArray := prog_10_method_7_code
def yX8_add : MethodName := ⟨RX8, "add", "(I)I"⟩
abbrev cX8_heedArticle : ByteArray := prog_10_method_8_code
def yX8_heedArticle : MethodName := ⟨RX8, "heedArticle", "(II)V"⟩
abbrev cX8_isBehindA : ByteArray := prog_10_method_9_code
def yX8_isBehindA : MethodName := ⟨RX8, "isBehindA", "(I)Z"⟩
abbrev cX8_isBehindAn : ByteArray := prog_10_method_10_code
def yX8_isBehindAn : MethodName := ⟨RX8, "isBehindAn", "(I)Z"⟩
abbrev cX8_slot : ByteArray := prog_10_method_11_code
def yX8_slot : MethodName := ⟨RX8, "slot", "(II)I"⟩
abbrev cX8_stands : ByteArray := prog_10_method_12_code
def yX8_stands : MethodName := ⟨RX8, "stands", "(II)Z"⟩
abbrev cX8_tokens : ByteArray := prog_10_method_13_code
def yX8_tokens : MethodName := ⟨RX8, "tokens", "(I)I"⟩
abbrev cX8_allTokens : ByteArray := prog_10_method_14_code
def yX8_allTokens : MethodName := ⟨RX8, "allTokens", "(I)I"⟩
abbrev cX8_wide : ByteArray := prog_10_method_15_code
def yX8_wide : MethodName := ⟨RX8, "wide", "(I)I"⟩
abbrev cX8_barAt : ByteArray := prog_10_method_16_code
def yX8_barAt : MethodName := ⟨RX8, "barAt", "(II)I"⟩
abbrev cX8_begins : ByteArray := prog_10_method_17_code
def yX8_begins : MethodName := ⟨RX8, "begins", "(II)Z"⟩
abbrev cX8_wordWide : ByteArray := prog_10_method_18_code
def yX8_wordWide : MethodName := ⟨RX8, "wordWide", "(IILInkBars$Letters;)I"⟩
abbrev cX8_lines : ByteArray := prog_10_method_19_code
def yX8_lines : MethodName := ⟨RX8, "lines", "(I)I"⟩
abbrev cX8_set : ByteArray := prog_10_method_20_code
def yX8_set : MethodName := ⟨RX8, "set", "(I[ILInkBars$Letters;)V"⟩
abbrev cX8_setLine : ByteArray := prog_10_method_21_code
def yX8_setLine : MethodName := ⟨RX8, "setLine", "(II)I"⟩
abbrev cX8_breaksOtherwise : ByteArray := prog_10_method_22_code
def yX8_breaksOtherwise : MethodName := ⟨RX8, "breaksOtherwise", "(I)Z"⟩
abbrev cX8_takesNote : ByteArray := prog_10_method_23_code
def yX8_takesNote : MethodName := ⟨RX8, "takesNote", "(II)Z"⟩
abbrev cX8_addNote : ByteArray := prog_10_method_24_code
def yX8_addNote : MethodName := ⟨RX8, "addNote", "(II)V"⟩
abbrev cX8_notes : ByteArray := prog_10_method_25_code
def yX8_notes : MethodName := ⟨RX8, "notes", "()I"⟩
abbrev cX8_misses : ByteArray := prog_10_method_26_code
def yX8_misses : MethodName := ⟨RX8, "misses", "(I)Z"⟩
abbrev cX8_noteBelow : ByteArray := prog_10_method_27_code
def yX8_noteBelow : MethodName := ⟨RX8, "noteBelow", "(I)I"⟩
abbrev cX8_noteAbove : ByteArray := prog_10_method_28_code
def yX8_noteAbove : MethodName := ⟨RX8, "noteAbove", "(I)I"⟩
def RX9 : String := "InkBars$Tape"
def TX9 : u_T := fun k => match k with
  | 0 => ("InkBars$Tape", "bytes", "[I", true)
  | _ => ("InkBars$Tape", "length", "I", false)
def tyX9 : Nat → FieldType := fun k => match k with
  | 0 => .array .int
  | _ => .int
theorem nmX9 : ∀ a, a < 2 → ∀ b, b < 2 → a ≠ b → (TX9 a).2.1 ≠ (TX9 b).2.1 := by decide +kernel
theorem tyX9_ok : ∀ k, k < 2 → parseFieldDescriptor (TX9 k).2.2.1 = some (tyX9 k) := by decide +kernel
abbrev cX9_init : ByteArray := prog_11_method_1_code
def yX9_init : MethodName := ⟨RX9, "<init>", "()V"⟩
abbrev cX9_length : ByteArray := prog_11_method_2_code
def yX9_length : MethodName := ⟨RX9, "length", "()I"⟩
abbrev cX9_takes : ByteArray := prog_11_method_3_code
def yX9_takes : MethodName := ⟨RX9, "takes", "(I)Z"⟩
abbrev cX9_push : ByteArray := prog_11_method_4_code
def yX9_push : MethodName := ⟨RX9, "push", "(I)V"⟩
abbrev cX9_at : ByteArray := prog_11_method_5_code
def yX9_at : MethodName := ⟨RX9, "at", "(I)I"⟩
abbrev cX9_number : ByteArray := prog_11_method_6_code
def yX9_number : MethodName := ⟨RX9, "number", "(I)I"⟩
abbrev cX9_clear : ByteArray := prog_11_method_7_code
def yX9_clear : MethodName := ⟨RX9, "clear", "()V"⟩
def RX10 : String := "InkBars$Words"
def TX10 : u_T := fun k => match k with
  | 0 => ("InkBars$Words", "room", "I", true)
  | 1 => ("InkBars$Words", "signs", "[I", true)
  | _ => ("InkBars$Words", "lengths", "[I", true)
def tyX10 : Nat → FieldType := fun k => match k with
  | 0 => .int
  | 1 => .array .int
  | _ => .array .int
theorem nmX10 : ∀ a, a < 3 → ∀ b, b < 3 → a ≠ b → (TX10 a).2.1 ≠ (TX10 b).2.1 := by decide +kernel
theorem tyX10_ok : ∀ k, k < 3 → parseFieldDescriptor (TX10 k).2.2.1 = some (tyX10 k) := by decide +kernel
abbrev cX10_init : ByteArray := prog_12_method_1_code
def yX10_init : MethodName := ⟨RX10, "<init>", "(I)V"⟩
abbrev cX10_stands : ByteArray := prog_12_method_2_code
def yX10_stands : MethodName := ⟨RX10, "stands", "(I)Z"⟩
abbrev cX10_wipe : ByteArray := prog_12_method_3_code
def yX10_wipe : MethodName := ⟨RX10, "wipe", "(I)V"⟩
abbrev cX10_grow : ByteArray := prog_12_method_4_code
def yX10_grow : MethodName := ⟨RX10, "grow", "(II)Z"⟩
abbrev cX10_length : ByteArray := prog_12_method_5_code
def yX10_length : MethodName := ⟨RX10, "length", "(I)I"⟩
abbrev cX10_letter : ByteArray := prog_12_method_6_code
def yX10_letter : MethodName := ⟨RX10, "letter", "(II)I"⟩
abbrev cX10_wide : ByteArray := prog_12_method_7_code
def yX10_wide : MethodName := ⟨RX10, "wide", "(ILInkBars$Letters;)I"⟩
abbrev cX10_compare : ByteArray := prog_12_method_8_code
def yX10_compare : MethodName := ⟨RX10, "compare", "(II)I"⟩
def RX11 : String := "InkBars"
def TX11 : u_T := fun k => match k with
  | 0 => ("InkBars", "tape", "LInkBars$Tape;", true)
  | 1 => ("InkBars", "letters", "LInkBars$Letters;", true)
  | 2 => ("InkBars", "names", "LInkBars$Names;", true)
  | 3 => ("InkBars", "bars", "LInkBars$Bars;", true)
  | 4 => ("InkBars", "sheets", "LInkBars$Sheets;", true)
  | 5 => ("InkBars", "rules", "LInkBars$Rules;", true)
  | 6 => ("InkBars", "habits", "LInkBars$Habits;", true)
  | 7 => ("InkBars", "copies", "LInkBars$Copies;", true)
  | 8 => ("InkBars", "fillings", "LInkBars$Fillings;", true)
  | 9 => ("InkBars", "alone", "[I", true)
  | 10 => ("InkBars", "under", "[I", true)
  | 11 => ("InkBars", "barWides", "[I", true)
  | 12 => ("InkBars", "theHouse", "I", false)
  | 13 => ("InkBars", "prepared", "Z", false)
  | _ => ("InkBars", "weighed", "Z", false)
def tyX11 : Nat → FieldType := fun k => match k with
  | 0 => .object "InkBars$Tape"
  | 1 => .object "InkBars$Letters"
  | 2 => .object "InkBars$Names"
  | 3 => .object "InkBars$Bars"
  | 4 => .object "InkBars$Sheets"
  | 5 => .object "InkBars$Rules"
  | 6 => .object "InkBars$Habits"
  | 7 => .object "InkBars$Copies"
  | 8 => .object "InkBars$Fillings"
  | 9 => .array .int
  | 10 => .array .int
  | 11 => .array .int
  | 12 => .int
  | 13 => .boolean
  | _ => .boolean
theorem nmX11 : ∀ a, a < 15 → ∀ b, b < 15 → a ≠ b → (TX11 a).2.1 ≠ (TX11 b).2.1 := by decide +kernel
theorem tyX11_ok : ∀ k, k < 15 → parseFieldDescriptor (TX11 k).2.2.1 = some (tyX11 k) := by decide +kernel
abbrev cX11_init : ByteArray := prog_1_method_1_code
def yX11_init : MethodName := ⟨RX11, "<init>", "()V"⟩
abbrev cX11_width : ByteArray := prog_1_method_2_code
def yX11_width : MethodName := ⟨RX11, "width", "(II)Z"⟩
abbrev cX11_joined : ByteArray := prog_1_method_3_code
def yX11_joined : MethodName := ⟨RX11, "joined", "(III)Z"⟩
abbrev cX11_feed : ByteArray := prog_1_method_4_code
def yX11_feed : MethodName := ⟨RX11, "feed", "(IIIII)I"⟩
abbrev cX11_name : ByteArray := prog_1_method_5_code
def yX11_name : MethodName := ⟨RX11, "name", "(IIIII)I"⟩
abbrev cX11_wide : ByteArray := prog_1_method_6_code
def yX11_wide : MethodName := ⟨RX11, "wide", "(I)I"⟩
abbrev cX11_bar : ByteArray := prog_1_method_7_code
def yX11_bar : MethodName := ⟨RX11, "bar", "(III)I"⟩
abbrev cX11_sheet : ByteArray := prog_1_method_8_code
def yX11_sheet : MethodName := ⟨RX11, "sheet", "(II)I"⟩
abbrev cX11_rules : ByteArray := prog_1_method_9_code
def yX11_rules : MethodName := ⟨RX11, "rules", "(I)I"⟩
abbrev cX11_tie : ByteArray := prog_1_method_10_code
def yX11_tie : MethodName := ⟨RX11, "tie", "(III)Z"⟩
abbrev cX11_listed : ByteArray := prog_1_method_11_code
def yX11_listed : MethodName := ⟨RX11, "listed", "(III)Z"⟩
abbrev cX11_lifted : ByteArray := prog_1_method_12_code
def yX11_lifted : MethodName := ⟨RX11, "lifted", "(III)Z"⟩
abbrev cX11_habit : ByteArray := prog_1_method_13_code
def yX11_habit : MethodName := ⟨RX11, "habit", "(II)I"⟩
abbrev cX11_house : ByteArray := prog_1_method_14_code
def yX11_house : MethodName := ⟨RX11, "house", "(I)Z"⟩
abbrev cX11_against : ByteArray := prog_1_method_15_code
def yX11_against : MethodName := ⟨RX11, "against", "(II)I"⟩
abbrev cX11_judge : ByteArray := prog_1_method_16_code
def yX11_judge : MethodName := ⟨RX11, "judge", "(I)I"⟩
abbrev cX11_line : ByteArray := prog_1_method_17_code
def yX11_line : MethodName := ⟨RX11, "line", "(III)I"⟩
abbrev cX11_fillings : ByteArray := prog_1_method_18_code
def yX11_fillings : MethodName := ⟨RX11, "fillings", "(I)I"⟩
abbrev cX11_may : ByteArray := prog_1_method_19_code
def yX11_may : MethodName := ⟨RX11, "may", "(I)I"⟩
abbrev cX11_odds : ByteArray := prog_1_method_20_code
def yX11_odds : MethodName := ⟨RX11, "odds", "(II)J"⟩
abbrev cX11_given : ByteArray := prog_1_method_21_code
def yX11_given : MethodName := ⟨RX11, "given", "()I"⟩
abbrev cX11_kept : ByteArray := prog_1_method_22_code
def yX11_kept : MethodName := ⟨RX11, "kept", "(I)I"⟩
abbrev cX11_said : ByteArray := prog_1_method_23_code
def yX11_said : MethodName := ⟨RX11, "said", "(III)I"⟩
abbrev cX11_copy : ByteArray := prog_1_method_24_code
def yX11_copy : MethodName := ⟨RX11, "copy", "(IIII)I"⟩
abbrev cX11_open : ByteArray := prog_1_method_25_code
def yX11_open : MethodName := ⟨RX11, "open", "(II)I"⟩
abbrev cX11_needless : ByteArray := prog_1_method_26_code
def yX11_needless : MethodName := ⟨RX11, "needless", "(I)I"⟩
abbrev cX11_since : ByteArray := prog_1_method_27_code
def yX11_since : MethodName := ⟨RX11, "since", "(II)I"⟩
abbrev cX11_twice : ByteArray := prog_1_method_28_code
def yX11_twice : MethodName := ⟨RX11, "twice", "(II)I"⟩
abbrev cX11_stricter : ByteArray := prog_1_method_29_code
def yX11_stricter : MethodName := ⟨RX11, "stricter", "(II)I"⟩
abbrev cX11_note : ByteArray := prog_1_method_30_code
def yX11_note : MethodName := ⟨RX11, "note", "(II)Z"⟩
abbrev cX11_missing : ByteArray := prog_1_method_31_code
def yX11_missing : MethodName := ⟨RX11, "missing", "(II)I"⟩
abbrev cX11_check : ByteArray := prog_1_method_32_code
def yX11_check : MethodName := ⟨RX11, "check", "(II)I"⟩
abbrev cX11_count : ByteArray := prog_1_method_33_code
def yX11_count : MethodName := ⟨RX11, "count", "(I)I"⟩
abbrev cX11_within : ByteArray := prog_1_method_34_code
def yX11_within : MethodName := ⟨RX11, "within", "(III)Z"⟩
abbrev cX11_isHouse : ByteArray := prog_1_method_35_code
def yX11_isHouse : MethodName := ⟨RX11, "isHouse", "(I)Z"⟩
abbrev cX11_isDay : ByteArray := prog_1_method_36_code
def yX11_isDay : MethodName := ⟨RX11, "isDay", "(I)Z"⟩
abbrev cX11_isLetter : ByteArray := prog_1_method_37_code
def yX11_isLetter : MethodName := ⟨RX11, "isLetter", "(I)Z"⟩
abbrev cX11_isDigit : ByteArray := prog_1_method_38_code
def yX11_isDigit : MethodName := ⟨RX11, "isDigit", "(I)Z"⟩
abbrev cX11_bit : ByteArray := prog_1_method_39_code
def yX11_bit : MethodName := ⟨RX11, "bit", "(II)Z"⟩
abbrev cX11_changed : ByteArray := prog_1_method_40_code
def yX11_changed : MethodName := ⟨RX11, "changed", "()V"⟩
abbrev cX11_inkReason : ByteArray := prog_1_method_41_code
def yX11_inkReason : MethodName := ⟨RX11, "inkReason", "(II)I"⟩
abbrev cX11_reasonsButInk : ByteArray := prog_1_method_42_code
def yX11_reasonsButInk : MethodName := ⟨RX11, "reasonsButInk", "(II)I"⟩
abbrev cX11_tellFacts : ByteArray := prog_1_method_43_code
def yX11_tellFacts : MethodName := ⟨RX11, "tellFacts", "(IIZ)V"⟩
abbrev cX11_lay : ByteArray := prog_1_method_44_code
def yX11_lay : MethodName := ⟨RX11, "lay", "(I)Z"⟩
abbrev cX11_tiesReason : ByteArray := prog_1_method_45_code
def yX11_tiesReason : MethodName := ⟨RX11, "tiesReason", "()I"⟩
abbrev cX11_linesReason : ByteArray := prog_1_method_46_code
def yX11_linesReason : MethodName := ⟨RX11, "linesReason", "()I"⟩
abbrev cX11_prepare : ByteArray := prog_1_method_47_code
def yX11_prepare : MethodName := ⟨RX11, "prepare", "()V"⟩
abbrev cX11_fit : ByteArray := prog_1_method_48_code
def yX11_fit : MethodName := ⟨RX11, "fit", "(III)V"⟩
abbrev cX11_countWithout : ByteArray := prog_1_method_49_code
def yX11_countWithout : MethodName := ⟨RX11, "countWithout", "(I)I"⟩
abbrev cX11_weigh : ByteArray := prog_1_method_50_code
def yX11_weigh : MethodName := ⟨RX11, "weigh", "()V"⟩
abbrev cX11_keeps : ByteArray := prog_1_method_51_code
def yX11_keeps : MethodName := ⟨RX11, "keeps", "(II)Z"⟩
abbrev cX11_firstWrong : ByteArray := prog_1_method_52_code
def yX11_firstWrong : MethodName := ⟨RX11, "firstWrong", "(II)I"⟩
def RX12 : String := "InkBarsModel"
def TX12 : u_T := fun k => match k with
  | 0 => ("InkBarsModel", "tape", "[B", true)
  | 1 => ("InkBarsModel", "taped", "I", false)
  | 2 => ("InkBarsModel", "names", "I", false)
  | 3 => ("InkBarsModel", "bars", "I", false)
  | 4 => ("InkBarsModel", "sheets", "I", false)
  | 5 => ("InkBarsModel", "clauses", "I", false)
  | 6 => ("InkBarsModel", "ties", "I", false)
  | 7 => ("InkBarsModel", "lists", "I", false)
  | 8 => ("InkBarsModel", "liftedMany", "I", false)
  | 9 => ("InkBarsModel", "copies", "I", false)
  | 10 => ("InkBarsModel", "notes", "I", false)
  | 11 => ("InkBarsModel", "theHouse", "I", false)
  | 12 => ("InkBarsModel", "width", "[I", true)
  | 13 => ("InkBarsModel", "join", "[I", true)
  | 14 => ("InkBarsModel", "nameLetters", "[B", true)
  | 15 => ("InkBarsModel", "nameSize", "[I", true)
  | 16 => ("InkBarsModel", "sort", "[I", true)
  | 17 => ("InkBarsModel", "yearFrom", "[I", true)
  | 18 => ("InkBarsModel", "yearTo", "[I", true)
  | 19 => ("InkBarsModel", "weight", "[I", true)
  | 20 => ("InkBarsModel", "ink", "[I", true)
  | 21 => ("InkBarsModel", "barYear", "[I", true)
  | 22 => ("InkBarsModel", "barSorts", "[I", true)
  | 23 => ("InkBarsModel", "sheetWide", "[I", true)
  | 24 => ("InkBarsModel", "tokens", "[I", true)
  | 25 => ("InkBarsModel", "sheetText", "[B", true)
  | 26 => ("InkBarsModel", "tokenBar", "[I", true)
  | 27 => ("InkBarsModel", "tokenFrom", "[I", true)
  | 28 => ("InkBarsModel", "tokenTo", "[I", true)
  | 29 => ("InkBarsModel", "isBreak", "[Z", true)
  | 30 => ("InkBarsModel", "place", "I", false)
  | 31 => ("InkBarsModel", "end", "I", false)
  | 32 => ("InkBarsModel", "bad", "I", false)
  | 33 => ("InkBarsModel", "under", "[I", true)
  | 34 => ("InkBarsModel", "lineMany", "I", false)
  | 35 => ("InkBarsModel", "lineAt", "[I", true)
  | 36 => ("InkBarsModel", "clauseBar", "[I", true)
  | 37 => ("InkBarsModel", "codeFrom", "[I", true)
  | 38 => ("InkBarsModel", "codeTo", "[I", true)
  | 39 => ("InkBarsModel", "code", "[I", true)
  | 40 => ("InkBarsModel", "codeArg", "[I", true)
  | 41 => ("InkBarsModel", "newBar", "[I", true)
  | 42 => ("InkBarsModel", "newFrom", "[I", true)
  | 43 => ("InkBarsModel", "newTo", "[I", true)
  | 44 => ("InkBarsModel", "newCode", "[I", true)
  | 45 => ("InkBarsModel", "newArg", "[I", true)
  | 46 => ("InkBarsModel", "many", "I", false)
  | 47 => ("InkBarsModel", "codes", "I", false)
  | 48 => ("InkBarsModel", "opened", "I", false)
  | 49 => ("InkBarsModel", "stacked", "I", false)
  | 50 => ("InkBarsModel", "isOver", "Z", false)
  | 51 => ("InkBarsModel", "isBehind", "Z", false)
  | 52 => ("InkBarsModel", "stack", "[I", true)
  | 53 => ("InkBarsModel", "askedBar", "I", false)
  | 54 => ("InkBarsModel", "askedName", "I", false)
  | 55 => ("InkBarsModel", "value", "[I", true)
  | 56 => ("InkBarsModel", "isRefused", "[Z", true)
  | 57 => ("InkBarsModel", "tieSort", "[I", true)
  | 58 => ("InkBarsModel", "tieX", "[I", true)
  | 59 => ("InkBarsModel", "tieY", "[I", true)
  | 60 => ("InkBarsModel", "listBar", "[I", true)
  | 61 => ("InkBarsModel", "listA", "[I", true)
  | 62 => ("InkBarsModel", "listB", "[I", true)
  | 63 => ("InkBarsModel", "liftHouse", "[I", true)
  | 64 => ("InkBarsModel", "liftName", "[I", true)
  | 65 => ("InkBarsModel", "liftInk", "[I", true)
  | 66 => ("InkBarsModel", "reasons", "[I", true)
  | 67 => ("InkBarsModel", "fillings", "I", false)
  | 68 => ("InkBarsModel", "found", "I", false)
  | 69 => ("InkBarsModel", "allWorth", "J", false)
  | 70 => ("InkBarsModel", "worth", "[J", true)
  | 71 => ("InkBarsModel", "leastHabit", "[I", true)
  | 72 => ("InkBarsModel", "copySheet", "[I", true)
  | 73 => ("InkBarsModel", "copyDay", "[I", true)
  | 74 => ("InkBarsModel", "copyHouse", "[I", true)
  | 75 => ("InkBarsModel", "copyCovered", "[I", true)
  | _ => ("InkBarsModel", "noteIn", "[I", true)
def tyX12 : Nat → FieldType := fun k => match k with
  | 0 => .array .byte
  | 1 => .int
  | 2 => .int
  | 3 => .int
  | 4 => .int
  | 5 => .int
  | 6 => .int
  | 7 => .int
  | 8 => .int
  | 9 => .int
  | 10 => .int
  | 11 => .int
  | 12 => .array .int
  | 13 => .array .int
  | 14 => .array .byte
  | 15 => .array .int
  | 16 => .array .int
  | 17 => .array .int
  | 18 => .array .int
  | 19 => .array .int
  | 20 => .array .int
  | 21 => .array .int
  | 22 => .array .int
  | 23 => .array .int
  | 24 => .array .int
  | 25 => .array .byte
  | 26 => .array .int
  | 27 => .array .int
  | 28 => .array .int
  | 29 => .array .boolean
  | 30 => .int
  | 31 => .int
  | 32 => .int
  | 33 => .array .int
  | 34 => .int
  | 35 => .array .int
  | 36 => .array .int
  | 37 => .array .int
  | 38 => .array .int
  | 39 => .array .int
  | 40 => .array .int
  | 41 => .array .int
  | 42 => .array .int
  | 43 => .array .int
  | 44 => .array .int
  | 45 => .array .int
  | 46 => .int
  | 47 => .int
  | 48 => .int
  | 49 => .int
  | 50 => .boolean
  | 51 => .boolean
  | 52 => .array .int
  | 53 => .int
  | 54 => .int
  | 55 => .array .int
  | 56 => .array .boolean
  | 57 => .array .int
  | 58 => .array .int
  | 59 => .array .int
  | 60 => .array .int
  | 61 => .array .int
  | 62 => .array .int
  | 63 => .array .int
  | 64 => .array .int
  | 65 => .array .int
  | 66 => .array .int
  | 67 => .int
  | 68 => .int
  | 69 => .long
  | 70 => .array .long
  | 71 => .array .int
  | 72 => .array .int
  | 73 => .array .int
  | 74 => .array .int
  | 75 => .array .int
  | _ => .array .int
theorem nmX12 : ∀ a, a < 77 → ∀ b, b < 77 → a ≠ b → (TX12 a).2.1 ≠ (TX12 b).2.1 := by decide +kernel
theorem tyX12_ok : ∀ k, k < 77 → parseFieldDescriptor (TX12 k).2.2.1 = some (tyX12 k) := by decide +kernel
abbrev cX12_init : ByteArray := prog_14_method_1_code
def yX12_init : MethodName := ⟨RX12, "<init>", "()V"⟩
abbrev cX12_lies : ByteArray := prog_14_method_2_code
def yX12_lies : MethodName := ⟨RX12, "lies", "(JJJ)Z"⟩
abbrev cX12_has : ByteArray := prog_14_method_3_code
def yX12_has : MethodName := ⟨RX12, "has", "(II)Z"⟩
abbrev cX12_sizeOf : ByteArray := prog_14_method_4_code
def yX12_sizeOf : MethodName := ⟨RX12, "sizeOf", "(I)I"⟩
abbrev cX12_isName : ByteArray := prog_14_method_5_code
def yX12_isName : MethodName := ⟨RX12, "isName", "(I)Z"⟩
abbrev cX12_isBar : ByteArray := prog_14_method_6_code
def yX12_isBar : MethodName := ⟨RX12, "isBar", "(I)Z"⟩
abbrev cX12_isSheet : ByteArray := prog_14_method_7_code
def yX12_isSheet : MethodName := ⟨RX12, "isSheet", "(I)Z"⟩
abbrev cX12_isHouse : ByteArray := prog_14_method_8_code
def yX12_isHouse : MethodName := ⟨RX12, "isHouse", "(I)Z"⟩
abbrev cX12_width : ByteArray := prog_14_method_9_code
def yX12_width : MethodName := ⟨RX12, "width", "(II)Z"⟩
abbrev cX12_joined : ByteArray := prog_14_method_10_code
def yX12_joined : MethodName := ⟨RX12, "joined", "(III)Z"⟩
abbrev cX12_push : ByteArray := prog_14_method_11_code
def yX12_push : MethodName := ⟨RX12, "push", "(I)V"⟩
abbrev cX12_feed : ByteArray := prog_14_method_12_code
def yX12_feed : MethodName := ⟨RX12, "feed", "(IIIII)I"⟩
abbrev cX12_isLetter : ByteArray := prog_14_method_13_code
def yX12_isLetter : MethodName := ⟨RX12, "isLetter", "(I)Z"⟩
abbrev cX12_isDigit : ByteArray := prog_14_method_14_code
def yX12_isDigit : MethodName := ⟨RX12, "isDigit", "(I)Z"⟩
abbrev cX12_compared : ByteArray := prog_14_method_15_code
def yX12_compared : MethodName := ⟨RX12, "compared", "(II)I"⟩
abbrev cX12_name : ByteArray := prog_14_method_16_code
def yX12_name : MethodName := ⟨RX12, "name", "(IIIII)I"⟩
abbrev cX12_wideOf : ByteArray := prog_14_method_17_code
def yX12_wideOf : MethodName := ⟨RX12, "wideOf", "(I)I"⟩
abbrev cX12_wide : ByteArray := prog_14_method_18_code
def yX12_wide : MethodName := ⟨RX12, "wide", "(I)I"⟩
abbrev cX12_bar : ByteArray := prog_14_method_19_code
def yX12_bar : MethodName := ⟨RX12, "bar", "(III)I"⟩
abbrev cX12_here : ByteArray := prog_14_method_20_code
def yX12_here : MethodName := ⟨RX12, "here", "()I"⟩
abbrev cX12_wrongs : ByteArray := prog_14_method_21_code
def yX12_wrongs : MethodName := ⟨RX12, "wrongs", "(II)V"⟩
abbrev cX12_isGood : ByteArray := prog_14_method_22_code
def yX12_isGood : MethodName := ⟨RX12, "isGood", "()Z"⟩
abbrev cX12_token : ByteArray := prog_14_method_23_code
def yX12_token : MethodName := ⟨RX12, "token", "(II)V"⟩
abbrev cX12_sheet : ByteArray := prog_14_method_24_code
def yX12_sheet : MethodName := ⟨RX12, "sheet", "(II)I"⟩
abbrev cX12_wideOfToken : ByteArray := prog_14_method_25_code
def yX12_wideOfToken : MethodName := ⟨RX12, "wideOfToken", "(II)I"⟩
abbrev cX12_sets : ByteArray := prog_14_method_26_code
def yX12_sets : MethodName := ⟨RX12, "sets", "(I)V"⟩
abbrev cX12_breaksSo : ByteArray := prog_14_method_27_code
def yX12_breaksSo : MethodName := ⟨RX12, "breaksSo", "(I)Z"⟩
abbrev cX12_emit : ByteArray := prog_14_method_28_code
def yX12_emit : MethodName := ⟨RX12, "emit", "(II)V"⟩
abbrev cX12_top : ByteArray := prog_14_method_29_code
def yX12_top : MethodName := ⟨RX12, "top", "()I"⟩
abbrev cX12_puts : ByteArray := prog_14_method_30_code
def yX12_puts : MethodName := ⟨RX12, "puts", "(I)V"⟩
abbrev cX12_opens : ByteArray := prog_14_method_31_code
def yX12_opens : MethodName := ⟨RX12, "opens", "()V"⟩
abbrev cX12_reads : ByteArray := prog_14_method_32_code
def yX12_reads : MethodName := ⟨RX12, "reads", "()I"⟩
abbrev cX12_isTimes : ByteArray := prog_14_method_33_code
def yX12_isTimes : MethodName := ⟨RX12, "isTimes", "(I)Z"⟩
abbrev cX12_isPlus : ByteArray := prog_14_method_34_code
def yX12_isPlus : MethodName := ⟨RX12, "isPlus", "(I)Z"⟩
abbrev cX12_isSign : ByteArray := prog_14_method_35_code
def yX12_isSign : MethodName := ⟨RX12, "isSign", "(I)Z"⟩
abbrev cX12_isValue : ByteArray := prog_14_method_36_code
def yX12_isValue : MethodName := ⟨RX12, "isValue", "(I)Z"⟩
abbrev cX12_sums : ByteArray := prog_14_method_37_code
def yX12_sums : MethodName := ⟨RX12, "sums", "(Z)V"⟩
abbrev cX12_joins : ByteArray := prog_14_method_38_code
def yX12_joins : MethodName := ⟨RX12, "joins", "(Z)V"⟩
abbrev cX12_ends : ByteArray := prog_14_method_39_code
def yX12_ends : MethodName := ⟨RX12, "ends", "()V"⟩
abbrev cX12_factor : ByteArray := prog_14_method_40_code
def yX12_factor : MethodName := ⟨RX12, "factor", "()V"⟩
abbrev cX12_goesOn : ByteArray := prog_14_method_41_code
def yX12_goesOn : MethodName := ⟨RX12, "goesOn", "()Z"⟩
abbrev cX12_pieceOfC : ByteArray := prog_14_method_42_code
def yX12_pieceOfC : MethodName := ⟨RX12, "pieceOfC", "()V"⟩
abbrev cX12_goesBehind : ByteArray := prog_14_method_43_code
def yX12_goesBehind : MethodName := ⟨RX12, "goesBehind", "()Z"⟩
abbrev cX12_condition : ByteArray := prog_14_method_44_code
def yX12_condition : MethodName := ⟨RX12, "condition", "()V"⟩
abbrev cX12_clause : ByteArray := prog_14_method_45_code
def yX12_clause : MethodName := ⟨RX12, "clause", "()V"⟩
abbrev cX12_rules : ByteArray := prog_14_method_46_code
def yX12_rules : MethodName := ⟨RX12, "rules", "(I)I"⟩
abbrev cX12_isVowel : ByteArray := prog_14_method_47_code
def yX12_isVowel : MethodName := ⟨RX12, "isVowel", "(I)Z"⟩
abbrev cX12_valueOf : ByteArray := prog_14_method_48_code
def yX12_valueOf : MethodName := ⟨RX12, "valueOf", "(I)I"⟩
abbrev cX12_worked : ByteArray := prog_14_method_49_code
def yX12_worked : MethodName := ⟨RX12, "worked", "(III)I"⟩
abbrev cX12_does : ByteArray := prog_14_method_50_code
def yX12_does : MethodName := ⟨RX12, "does", "(II)V"⟩
abbrev cX12_holds : ByteArray := prog_14_method_51_code
def yX12_holds : MethodName := ⟨RX12, "holds", "(I)Z"⟩
abbrev cX12_tie : ByteArray := prog_14_method_52_code
def yX12_tie : MethodName := ⟨RX12, "tie", "(III)Z"⟩
abbrev cX12_listed : ByteArray := prog_14_method_53_code
def yX12_listed : MethodName := ⟨RX12, "listed", "(III)Z"⟩
abbrev cX12_lifted : ByteArray := prog_14_method_54_code
def yX12_lifted : MethodName := ⟨RX12, "lifted", "(III)Z"⟩
abbrev cX12_habitOf : ByteArray := prog_14_method_55_code
def yX12_habitOf : MethodName := ⟨RX12, "habitOf", "(IZ)I"⟩
abbrev cX12_habit : ByteArray := prog_14_method_56_code
def yX12_habit : MethodName := ⟨RX12, "habit", "(II)I"⟩
abbrev cX12_house : ByteArray := prog_14_method_57_code
def yX12_house : MethodName := ⟨RX12, "house", "(I)Z"⟩
abbrev cX12_isWord : ByteArray := prog_14_method_58_code
def yX12_isWord : MethodName := ⟨RX12, "isWord", "(IIZ)Z"⟩
abbrev cX12_isAgainstGrammar : ByteArray := prog_14_method_59_code
def yX12_isAgainstGrammar : MethodName := ⟨RX12, "isAgainstGrammar", "(II)Z"⟩
abbrev cX12_isAgainstRules : ByteArray := prog_14_method_60_code
def yX12_isAgainstRules : MethodName := ⟨RX12, "isAgainstRules", "(II)Z"⟩
abbrev cX12_isAgainstLists : ByteArray := prog_14_method_61_code
def yX12_isAgainstLists : MethodName := ⟨RX12, "isAgainstLists", "(II)Z"⟩
abbrev cX12_againstOf : ByteArray := prog_14_method_62_code
def yX12_againstOf : MethodName := ⟨RX12, "againstOf", "(II)I"⟩
abbrev cX12_against : ByteArray := prog_14_method_63_code
def yX12_against : MethodName := ⟨RX12, "against", "(II)I"⟩
abbrev cX12_asks : ByteArray := prog_14_method_64_code
def yX12_asks : MethodName := ⟨RX12, "asks", "()V"⟩
abbrev cX12_speaks : ByteArray := prog_14_method_65_code
def yX12_speaks : MethodName := ⟨RX12, "speaks", "(II)I"⟩
abbrev cX12_rowsOf : ByteArray := prog_14_method_66_code
def yX12_rowsOf : MethodName := ⟨RX12, "rowsOf", "()I"⟩
abbrev cX12_takes : ByteArray := prog_14_method_67_code
def yX12_takes : MethodName := ⟨RX12, "takes", "(I)Z"⟩
abbrev cX12_judge : ByteArray := prog_14_method_68_code
def yX12_judge : MethodName := ⟨RX12, "judge", "(I)I"⟩
abbrev cX12_line : ByteArray := prog_14_method_69_code
def yX12_line : MethodName := ⟨RX12, "line", "(III)I"⟩
abbrev cX12_goesOnNames : ByteArray := prog_14_method_70_code
def yX12_goesOnNames : MethodName := ⟨RX12, "goesOnNames", "()Z"⟩
abbrev cX12_begins : ByteArray := prog_14_method_71_code
def yX12_begins : MethodName := ⟨RX12, "begins", "()Z"⟩
abbrev cX12_tableOf : ByteArray := prog_14_method_72_code
def yX12_tableOf : MethodName := ⟨RX12, "tableOf", "()I"⟩
abbrev cX12_fills : ByteArray := prog_14_method_73_code
def yX12_fills : MethodName := ⟨RX12, "fills", "(I)V"⟩
abbrev cX12_fillings : ByteArray := prog_14_method_74_code
def yX12_fillings : MethodName := ⟨RX12, "fillings", "(I)I"⟩
abbrev cX12_mayOf : ByteArray := prog_14_method_75_code
def yX12_mayOf : MethodName := ⟨RX12, "mayOf", "(I)I"⟩
abbrev cX12_may : ByteArray := prog_14_method_76_code
def yX12_may : MethodName := ⟨RX12, "may", "(I)I"⟩
abbrev cX12_odds : ByteArray := prog_14_method_77_code
def yX12_odds : MethodName := ⟨RX12, "odds", "(II)J"⟩
abbrev cX12_given : ByteArray := prog_14_method_78_code
def yX12_given : MethodName := ⟨RX12, "given", "()I"⟩
abbrev cX12_habits : ByteArray := prog_14_method_79_code
def yX12_habits : MethodName := ⟨RX12, "habits", "()V"⟩
abbrev cX12_haveAll : ByteArray := prog_14_method_80_code
def yX12_haveAll : MethodName := ⟨RX12, "haveAll", "(II)Z"⟩
abbrev cX12_kept : ByteArray := prog_14_method_81_code
def yX12_kept : MethodName := ⟨RX12, "kept", "(I)I"⟩
abbrev cX12_says : ByteArray := prog_14_method_82_code
def yX12_says : MethodName := ⟨RX12, "says", "(II)I"⟩
abbrev cX12_said : ByteArray := prog_14_method_83_code
def yX12_said : MethodName := ⟨RX12, "said", "(III)I"⟩
abbrev cX12_isDay : ByteArray := prog_14_method_84_code
def yX12_isDay : MethodName := ⟨RX12, "isDay", "(I)Z"⟩
abbrev cX12_isCopy : ByteArray := prog_14_method_85_code
def yX12_isCopy : MethodName := ⟨RX12, "isCopy", "(I)Z"⟩
abbrev cX12_copy : ByteArray := prog_14_method_86_code
def yX12_copy : MethodName := ⟨RX12, "copy", "(IIII)I"⟩
abbrev cX12_openOf : ByteArray := prog_14_method_87_code
def yX12_openOf : MethodName := ⟨RX12, "openOf", "(II)I"⟩
abbrev cX12_open : ByteArray := prog_14_method_88_code
def yX12_open : MethodName := ⟨RX12, "open", "(II)I"⟩
abbrev cX12_needless : ByteArray := prog_14_method_89_code
def yX12_needless : MethodName := ⟨RX12, "needless", "(I)I"⟩
abbrev cX12_since : ByteArray := prog_14_method_90_code
def yX12_since : MethodName := ⟨RX12, "since", "(II)I"⟩
abbrev cX12_twice : ByteArray := prog_14_method_91_code
def yX12_twice : MethodName := ⟨RX12, "twice", "(II)I"⟩
abbrev cX12_hasCopy : ByteArray := prog_14_method_92_code
def yX12_hasCopy : MethodName := ⟨RX12, "hasCopy", "(II)Z"⟩
abbrev cX12_coversOf : ByteArray := prog_14_method_93_code
def yX12_coversOf : MethodName := ⟨RX12, "coversOf", "(II)I"⟩
abbrev cX12_stricter : ByteArray := prog_14_method_94_code
def yX12_stricter : MethodName := ⟨RX12, "stricter", "(II)I"⟩
abbrev cX12_note : ByteArray := prog_14_method_95_code
def yX12_note : MethodName := ⟨RX12, "note", "(II)Z"⟩
abbrev cX12_missing : ByteArray := prog_14_method_96_code
def yX12_missing : MethodName := ⟨RX12, "missing", "(II)I"⟩
abbrev cX12_numberAt : ByteArray := prog_14_method_97_code
def yX12_numberAt : MethodName := ⟨RX12, "numberAt", "(I)I"⟩
abbrev cX12_check : ByteArray := prog_14_method_98_code
def yX12_check : MethodName := ⟨RX12, "check", "(II)I"⟩
abbrev cX12_linesOf : ByteArray := prog_14_method_99_code
def yX12_linesOf : MethodName := ⟨RX12, "linesOf", "(I)I"⟩
abbrev cX12_count : ByteArray := prog_14_method_100_code
def yX12_count : MethodName := ⟨RX12, "count", "(I)I"⟩
def RJ6 : String := "java/lang/Integer"
abbrev cJ6_bitCount_0f7a4 : ByteArray := prog_15_method_49_code
def yJ6_bitCount_0f7a4 : MethodName := ⟨RJ6, "bitCount", "(I)I"⟩
def RJ9 : String := "java/lang/Math"
abbrev cJ9_floorDiv_7cf53 : ByteArray := prog_16_method_47_code
def yJ9_floorDiv_7cf53 : MethodName := ⟨RJ9, "floorDiv", "(II)I"⟩
abbrev cJ9_max_7cf53 : ByteArray := prog_16_method_65_code
def yJ9_max_7cf53 : MethodName := ⟨RJ9, "max", "(II)I"⟩
abbrev cJ9_min_7cf53 : ByteArray := prog_16_method_69_code
def yJ9_min_7cf53 : MethodName := ⟨RJ9, "min", "(II)I"⟩
def RJ10 : String := "java/lang/System"
def RL : String := "InkBarsLaw"
abbrev cL_law : ByteArray := code
def yL_law : MethodName := ⟨RL, "law", "([I)Z"⟩
abbrev vwCl : List vw_C := [(RX0, TX0, 12), (RX1, TX1, 5), (RX2, TX2, 14), (RX3, TX3, 4), (RX4, TX4, 2), (RX5, TX5, 8), (RX6, TX6, 7), (RX7, TX7, 11), (RX8, TX8, 11), (RX9, TX9, 2), (RX10, TX10, 3), (RX11, TX11, 15), (RX12, TX12, 77)]
/-- words of a list, by their places in another -/
theorem ik_places {big ws : List Cond} (ps : List Nat) (hp : ws = ps.filterMap (fun i => big[i]?)) : ∀ w ∈ ws, w ∈ big := by
  intro w hw
  rw [hp] at hw
  obtain ⟨i, -, hi⟩ := List.mem_filterMap.mp hw
  exact List.mem_of_getElem? hi
theorem ik_inT {w : Cond} (h : w ∈ tables_1) : w ∈ lw_tbl := List.mem_append_right _ h
theorem ik_inS {w : Cond} (h : w ∈ k2_sels lw_privs) : w ∈ lw_tbl := List.mem_append_left _ h
theorem inX0 : ∀ w ∈ u_ws RX0 TX0 12, w ∈ lw_tbl := fun w h => ik_inT (ik_places [117, 119, 121, 123, 125, 127, 129, 131, 133, 135, 137, 139] (by decide +kernel) w h)
theorem inX1 : ∀ w ∈ u_ws RX1 TX1 5, w ∈ lw_tbl := fun w h => ik_inT (ik_places [255, 257, 259, 261, 263] (by decide +kernel) w h)
theorem inX2 : ∀ w ∈ u_ws RX2 TX2 14, w ∈ lw_tbl := fun w h => ik_inT (ik_places [318, 320, 322, 324, 326, 328, 330, 332, 334, 336, 338, 340, 342, 344] (by decide +kernel) w h)
theorem inX3 : ∀ w ∈ u_ws RX3 TX3 4, w ∈ lw_tbl := fun w h => ik_inT (ik_places [235, 237, 239, 241] (by decide +kernel) w h)
theorem inX4 : ∀ w ∈ u_ws RX4 TX4 2, w ∈ lw_tbl := fun w h => ik_inT (ik_places [47, 49] (by decide +kernel) w h)
theorem inX5 : ∀ w ∈ u_ws RX5 TX5 8, w ∈ lw_tbl := fun w h => ik_inT (ik_places [286, 288, 290, 292, 294, 296, 298, 300] (by decide +kernel) w h)
theorem inX6 : ∀ w ∈ u_ws RX6 TX6 7, w ∈ lw_tbl := fun w h => ik_inT (ik_places [84, 86, 88, 90, 92, 94, 96] (by decide +kernel) w h)
theorem inX7 : ∀ w ∈ u_ws RX7 TX7 11, w ∈ lw_tbl := fun w h => ik_inT (ik_places [202, 204, 206, 208, 210, 212, 214, 216, 218, 220, 222] (by decide +kernel) w h)
theorem inX8 : ∀ w ∈ u_ws RX8 TX8 11, w ∈ lw_tbl := fun w h => ik_inT (ik_places [161, 163, 165, 167, 169, 171, 173, 175, 177, 179, 181] (by decide +kernel) w h)
theorem inX9 : ∀ w ∈ u_ws RX9 TX9 2, w ∈ lw_tbl := fun w h => ik_inT (ik_places [33, 35] (by decide +kernel) w h)
theorem inX10 : ∀ w ∈ u_ws RX10 TX10 3, w ∈ lw_tbl := fun w h => ik_inT (ik_places [70, 72, 74] (by decide +kernel) w h)
theorem inX11 : ∀ w ∈ u_ws RX11 TX11 15, w ∈ lw_tbl := fun w h => ik_inT (ik_places [363, 365, 367, 369, 371, 373, 375, 377, 379, 381, 383, 385, 387, 389, 391] (by decide +kernel) w h)
theorem inX12 : ∀ w ∈ u_ws RX12 TX12 77, w ∈ lw_tbl := fun w h => ik_inT (ik_places [1325, 1327, 1329, 1331, 1333, 1335, 1337, 1339, 1341, 1343, 1345, 1347, 1349, 1351, 1353, 1355, 1357, 1359, 1361, 1363, 1365, 1367, 1369, 1371, 1373, 1375, 1377, 1379, 1381, 1383, 1385, 1387, 1389, 1391, 1393, 1395, 1397, 1399, 1401, 1403, 1405, 1407, 1409, 1411, 1413, 1415, 1417, 1419, 1421, 1423, 1425, 1427, 1429, 1431, 1433, 1435, 1437, 1439, 1441, 1443, 1445, 1447, 1449, 1451, 1453, 1455, 1457, 1459, 1461, 1463, 1465, 1467, 1469, 1471, 1473, 1475, 1477] (by decide +kernel) w h)
end
section
-- the words that every method of ours takes along: those that stay as classes warm up; and the links between nest mates
def lw_gd : List Cond := lw_tbl.filter goodWord
theorem ik_gd {w : Cond} (h : w ∈ lw_tbl) (hg : goodWord w = true) : w ∈ lw_gd := List.mem_filter.mpr ⟨h, hg⟩
theorem ik_gd_good : ∀ w ∈ lw_gd, (w.onTables && w.keeps) = true ∨ ∃ ty, w = .arrayClass ty := fun _ h => good_of_word (List.mem_filter.mp h).2
theorem ik_lay_good (C : String) (T : u_T) (k : Nat) : goodWord (u_lay C T k) = true := by
  unfold u_lay
  split <;> rfl
theorem ik_gd_lays {C : String} {T : u_T} {N : Nat} (h : ∀ w ∈ u_ws C T N, w ∈ lw_tbl) : ∀ w ∈ u_ws C T N, w ∈ lw_gd := by
  intro w hw
  obtain ⟨k, -, rfl⟩ := List.mem_map.mp hw
  exact ik_gd (h _ hw) (ik_lay_good C T k)
def ik_nest (U : State) : Prop := ∀ (own : String) (i : Nat) (y : MethodName) (host : String), Cond.methodLinkNest own i y host ∈ lw_tbl → va_Nw (.methodLinkNest own i y host) U
theorem ik_nest.warm {s U : State} (hW : s.WarmedH U.vm) (h : ik_nest s) : ik_nest U := fun own i y host hm => (h own i y host hm).warmM hW
theorem ik_nest.same {u U : State} (h : u.vm = U.vm) (hn : ik_nest u) : ik_nest U := fun own i y host hm => (hn own i y host hm).same rfl h
/-! the state of a system: what its cells hold, by the cell's number and the place in it (ints; longs) -/
abbrev GG : Type := (Nat → Nat → Int32) × (Nat → Nat → Int64)
/-- a method's state: its ints and longs by their places among the locals, and the system's state -/
abbrev SS : Type := (Nat → Int32) × (Nat → Int64) × GG
/-- a cell: an array (kind, length) or an object (class, its fields: a kind or the cell that it names). Kinds: 0 int, 1 long, 2 byte, 3 boolean -/
abbrev ik_CD : Type := (Nat × Nat) ⊕ (Nat × List (Nat ⊕ Nat))
def ik_ty : Nat → FieldType
  | 0 => .int
  | 1 => .long
  | 2 => .byte
  | _ => .boolean
abbrev ik_tys (cA : Nat → ClassId) : List (ClassId × FieldType) := [(cA 0, .int), (cA 1, .long), (cA 2, .byte), (cA 3, .boolean)]
def ik_fv (ad : Nat → Nat) (g : GG) (id : Nat) : Nat → List (Nat ⊕ Nat) → List Value
  | _, [] => []
  | j, .inl t :: r => (if t = 1 then .long (g.2 id j) else .int (g.1 id j)) :: ik_fv ad g id (j + 1) r
  | j, .inr q :: r => .ref (ad q) :: ik_fv ad g id (j + 1) r
def ik_ce (ad : Nat → Nat) (cA : Nat → ClassId) (g : GG) (id : Nat) : ik_CD → va_E
  | .inl (k, n) => .inl (cA k, n, if k = 1 then .inr (.inl (g.2 id)) else .inl (g.1 id))
  | .inr (ci, fds) => .inr (ci, ik_fv ad g id 0 fds)
def ik_w (wd : List ik_CD) (ad : Nat → Nat) (cA : Nat → ClassId) (g : GG) : va_W := wd.mapIdx (fun id cd => (ad id, ik_ce ad cA g id cd))
theorem ik_w_at (wd : List ik_CD) (ad : Nat → Nat) (cA : Nat → ClassId) (g : GG) (id : Nat) : (ik_w wd ad cA g)[id]? = (wd[id]?).map (fun cd => (ad id, ik_ce ad cA g id cd)) := by
  simp [ik_w, List.getElem?_mapIdx]
theorem ik_fv_congr {ad : Nat → Nat} {g g' : GG} {id : Nat} (h1 : g.1 id = g'.1 id) (h2 : g.2 id = g'.2 id) : ∀ (fds : List (Nat ⊕ Nat)) (j : Nat), ik_fv ad g id j fds = ik_fv ad g' id j fds
  | [], _ => rfl
  | .inl t :: r, j => by simp only [ik_fv, h1, h2, ik_fv_congr h1 h2 r (j + 1)]
  | .inr q :: r, j => by simp only [ik_fv, ik_fv_congr h1 h2 r (j + 1)]
theorem ik_ce_congr {ad : Nat → Nat} {cA : Nat → ClassId} {g g' : GG} {id : Nat} (h1 : g.1 id = g'.1 id) (h2 : g.2 id = g'.2 id) (cd : ik_CD) : ik_ce ad cA g id cd = ik_ce ad cA g' id cd := by
  rcases cd with ⟨k, n⟩ | ⟨ci, fds⟩
  · simp only [ik_ce, h1, h2]
  · simp only [ik_ce, ik_fv_congr h1 h2]
theorem ik_fv_at {ad : Nat → Nat} {g : GG} {id : Nat} : ∀ (fds : List (Nat ⊕ Nat)) (j k : Nat), (ik_fv ad g id j fds)[k]? = (fds[k]?).map (fun fd => match fd with
    | .inl t => if t = 1 then Value.long (g.2 id (j + k)) else Value.int (g.1 id (j + k))
    | .inr q => Value.ref (ad q))
  | [], j, k => by simp [ik_fv]
  | .inl t :: r, j, 0 => by simp [ik_fv]
  | .inr q :: r, j, 0 => by simp [ik_fv]
  | .inl t :: r, j, k + 1 => by
    have h := ik_fv_at (ad := ad) (g := g) (id := id) r (j + 1) k
    simp only [ik_fv, List.getElem?_cons_succ, h, show j + 1 + k = j + (k + 1) by omega]
  | .inr q :: r, j, k + 1 => by
    have h := ik_fv_at (ad := ad) (g := g) (id := id) r (j + 1) k
    simp only [ik_fv, List.getElem?_cons_succ, h, show j + 1 + k = j + (k + 1) by omega]
theorem ik_fv_len {ad : Nat → Nat} {g : GG} {id : Nat} : ∀ (fds : List (Nat ⊕ Nat)) (j : Nat), (ik_fv ad g id j fds).length = fds.length
  | [], j => rfl
  | .inl t :: r, j => by simp [ik_fv, ik_fv_len r]
  | .inr q :: r, j => by simp [ik_fv, ik_fv_len r]
theorem ik_w_set {wd : List ik_CD} {ad : Nat → Nat} {cA : Nat → ClassId} {g g' : GG} {id : Nat} {cd : ik_CD} {e : va_E} (hc : wd[id]? = some cd) (he : ik_ce ad cA g' id cd = e) (h : ∀ a, a ≠ id → g.1 a = g'.1 a ∧ g.2 a = g'.2 a) : (ik_w wd ad cA g).set id (ad id, e) = ik_w wd ad cA g' := by
  refine List.ext_getElem? fun k => ?_
  by_cases hk : k = id
  · subst hk
    have hl : k < (ik_w wd ad cA g).length := (List.getElem?_eq_some_iff.mp (show (ik_w wd ad cA g)[k]? = some _ by rw [ik_w_at, hc]; rfl)).1
    rw [List.getElem?_set_self hl, ik_w_at, hc, ← he]
    rfl
  · rw [List.getElem?_set_ne (Ne.symm hk), ik_w_at, ik_w_at]
    cases wd[k]? with
    | none => rfl
    | some cd => simp only [Option.map_some, ik_ce_congr (h k hk).1 (h k hk).2]
/-- an int, a long put at a place of a cell -/
def ik_si (g : GG) (id j : Nat) (x : Int32) : GG := (fun a b => if a = id ∧ b = j then x else g.1 a b, g.2)
def ik_sl (g : GG) (id j : Nat) (x : Int64) : GG := (g.1, fun a b => if a = id ∧ b = j then x else g.2 a b)
theorem ik_w_si_arr {wd : List ik_CD} {ad : Nat → Nat} {cA : Nat → ClassId} {g : GG} {id k n j : Nat} {x : Int32} (hc : wd[id]? = some (.inl (k, n))) (hk : k ≠ 1) : (ik_w wd ad cA g).set id (ad id, .inl (cA k, n, .inl (upd (g.1 id) j x))) = ik_w wd ad cA (ik_si g id j x) := by
  refine ik_w_set hc ?_ (fun a ha => ⟨?_, rfl⟩)
  · simp only [ik_ce, if_neg hk, ik_si]
    congr 4
    funext b
    simp [upd]
  · funext b
    simp [ik_si, ha]
theorem ik_w_sl_arr {wd : List ik_CD} {ad : Nat → Nat} {cA : Nat → ClassId} {g : GG} {id n j : Nat} {x : Int64} (hc : wd[id]? = some (.inl (1, n))) : (ik_w wd ad cA g).set id (ad id, .inl (cA 1, n, .inr (.inl (vp_updL (g.2 id) j x)))) = ik_w wd ad cA (ik_sl g id j x) := by
  refine ik_w_set hc ?_ (fun a ha => ⟨rfl, ?_⟩)
  · have e : (fun b => if id = id ∧ b = j then x else g.2 id b) = vp_updL (g.2 id) j x := by
      funext b
      simp [vp_updL]
    show Sum.inl (cA 1, n, if (1 : Nat) = 1 then Sum.inr (Sum.inl (fun b => if id = id ∧ b = j then x else g.2 id b)) else _) = _
    rw [e]
    rfl
  · funext b
    simp [ik_sl, ha]
theorem ik_w_si_obj {wd : List ik_CD} {ad : Nat → Nat} {cA : Nat → ClassId} {g : GG} {id ci j t : Nat} {fds : List (Nat ⊕ Nat)} {x : Int32} (hc : wd[id]? = some (.inr (ci, fds))) (hf : fds[j]? = some (.inl t)) (ht : t ≠ 1) : (ik_w wd ad cA g).set id (ad id, .inr (ci, (ik_fv ad g id 0 fds).set j (.int x))) = ik_w wd ad cA (ik_si g id j x) := by
  refine ik_w_set hc ?_ (fun a ha => ⟨?_, rfl⟩)
  · simp only [ik_ce]
    congr 2
    refine List.ext_getElem? fun k => ?_
    by_cases hk : k = j
    · subst hk
      rw [List.getElem?_set_self (by rw [ik_fv_len]; exact (List.getElem?_eq_some_iff.mp hf).1), ik_fv_at, hf]
      simp [ht, ik_si]
    · rw [List.getElem?_set_ne (Ne.symm hk), ik_fv_at, ik_fv_at]
      cases fds[k]? with
      | none => rfl
      | some fd => cases fd <;> simp [ik_si, hk]
  · funext b
    simp [ik_si, ha]
theorem ik_w_sl_obj {wd : List ik_CD} {ad : Nat → Nat} {cA : Nat → ClassId} {g : GG} {id ci j : Nat} {fds : List (Nat ⊕ Nat)} {x : Int64} (hc : wd[id]? = some (.inr (ci, fds))) (hf : fds[j]? = some (.inl 1)) : (ik_w wd ad cA g).set id (ad id, .inr (ci, (ik_fv ad g id 0 fds).set j (.long x))) = ik_w wd ad cA (ik_sl g id j x) := by
  refine ik_w_set hc ?_ (fun a ha => ⟨rfl, ?_⟩)
  · simp only [ik_ce]
    congr 2
    refine List.ext_getElem? fun k => ?_
    by_cases hk : k = j
    · subst hk
      rw [List.getElem?_set_self (by rw [ik_fv_len]; exact (List.getElem?_eq_some_iff.mp hf).1), ik_fv_at, hf]
      simp [ik_sl]
    · rw [List.getElem?_set_ne (Ne.symm hk), ik_fv_at, ik_fv_at]
      cases fds[k]? with
      | none => rfl
      | some fd => cases fd <;> simp [ik_sl, hk]
  · funext b
    simp [ik_sl, ha]
/-- the cells' addresses are apart and of a kind: that says nothing of what they hold -/
theorem ik_w_D {wd : List ik_CD} {ad : Nat → Nat} {cA : Nat → ClassId} {g g' : GG} {A : Nat → Prop} (h : va_D A (ik_w wd ad cA g)) : va_D A (ik_w wd ad cA g') := by
  have key : ∀ (k : Nat) (q : Nat × va_E), (ik_w wd ad cA g')[k]? = some q → ∃ q0, (ik_w wd ad cA g)[k]? = some q0 ∧ q0.1 = q.1 := by
    intro k q hk
    rw [ik_w_at] at hk ⊢
    cases hw : wd[k]? with
    | none => rw [hw] at hk; cases hk
    | some cd => rw [hw] at hk; cases hk; exact ⟨_, rfl, rfl⟩
  refine ⟨fun i j x y hi hj hxy => ?_, fun k q hk => ?_⟩
  · obtain ⟨x0, h1, h2⟩ := key i x hi
    obtain ⟨y0, h3, h4⟩ := key j y hj
    exact h.1 i j x0 y0 h1 h3 (h2.trans (hxy.trans h4.symm))
  · obtain ⟨q0, h1, h2⟩ := key k q hk
    rw [← h2]
    exact h.2 k q0 h1
/-! what is fixed for a method: the cells, its bytes, its locals' number, its class, its locals that name cells, its level (room), what it returns -/
abbrev ik_SC : Type := List ik_CD × ByteArray × Nat × String × List (Nat × Nat) × Nat × Option FieldType
abbrev ik_DX : Type := Program × Launch × Env × State × MethodId × Array Value × List Frame × Method × Code × (Nat → Nat) × va_G × (Nat → ClassId) × (Nat → Prop) × Value × GG
abbrev ik_rm (k : Nat) : Room := { frames := k, cells := 0, slots := 0, locals := 200 * k }
abbrev ik_B (wd : List ik_CD) (ad : Nat → Nat) (D : va_G) (cA : Nat → ClassId) (g : GG) : Unit → State → Prop := fun _ t => va_P D vwCl (ik_w wd ad cA g) t.heap
def ik_Q (wd : List ik_CD) (ad : Nat → Nat) (D : va_G) (cA : Nat → ClassId) (A : Nat → Prop) (v : Value) (g : GG) : Array Value → State → Outcome → State → Prop := match v with
  | .int r => va_Qi (fun r' _ => r' = r) (ik_B wd ad D cA g) A
  | .long r => va_Ql (fun r' _ => r' = r) (ik_B wd ad D cA g) A
  | _ => va_Qv (fun _ => True) (ik_B wd ad D cA g) A
def ik_lv (ad : Nat → Nat) (rl lv : List (Nat × Nat)) (σ : SS) : List (Nat × Value) := rl.map (fun q => (q.1, Value.ref (ad q.2))) ++ lv.map (fun q => (q.1, if q.2 = 1 then Value.long (σ.2.1 q.1) else Value.int (σ.1 q.1)))
/-- the machine, with these locals and this stack, in this state of the system, comes to the method's end -/
def ik_Go (sc : ik_SC) : ik_DX → List (Nat × Nat) → Nat → List Value → SS → Prop
  | (p, l, e, s, m, args, below, meth, c, ad, D, cA, A, v0, g0), lv, pc, st, σ => ∀ (H : Heap) (locs : List Loc) (ls : Array Slot), va_P D vwCl (ik_w sc.1 ad cA σ.2.2) H → va_S A s.heap H locs → lv_has ls sc.2.2.1 (ik_lv ad sc.2.2.2.2.1 lv σ) →
    W p l e (ik_rm sc.2.2.2.2.2.1) s m args below meth c H locs 0 0 (MQ below (ik_Q sc.1 ad D cA A v0 g0) args s 0 0 A) (F0 m pc ls st)
/-- what holds of the machine all through a method -/
def ik_Cx (sc : ik_SC) : ik_DX → Prop
  | (p, l, e, s, m, args, below, meth, c, ad, D, cA, A, v0, g0) => p.tables.exec = Jvm.exec ∧ c.code = sc.2.1 ∧ c.maxLocals = sc.2.2.1 ∧ s.vm.findClass sc.2.2.2.1 = some m.cls ∧ (∀ w ∈ lw_gd, w.before args s = true) ∧ ik_nest s ∧ va_K D vwCl (ik_tys cA) s ∧ (∀ g, va_D A (ik_w sc.1 ad cA g)) ∧ meth.sig.returnType = sc.2.2.2.2.2.2 ∧ meth.locks = false
def ik_cat (st : List Value) : Nat := (st.map fun v => v.category).sum
abbrev ik_LV : Type := List (Nat × Nat)
end
section
/-! pieces: what a stretch of bytes does, as a function of the method's state; each carries the check of its bytes and the proof that the machine does so -/
def ik_okE (sc : ik_SC) (chk : ik_LV → Nat → Nat → Option Nat) (sem : SS → Option (Int32 × GG)) : Prop :=
  ∀ (x : ik_DX), ik_Cx sc x → ∀ (lv : ik_LV) (d pc pc' : Nat) (st : List Value) (σ : SS) (v : Int32) (g' : GG), chk lv d pc = some pc' → ik_cat st ≤ d → sem σ = some (v, g') → ik_Go sc x lv pc' (.int v :: st) (σ.1, σ.2.1, g') → ik_Go sc x lv pc st σ
def ik_okL (sc : ik_SC) (chk : ik_LV → Nat → Nat → Option Nat) (sem : SS → Option (Int64 × GG)) : Prop :=
  ∀ (x : ik_DX), ik_Cx sc x → ∀ (lv : ik_LV) (d pc pc' : Nat) (st : List Value) (σ : SS) (v : Int64) (g' : GG), chk lv d pc = some pc' → ik_cat st ≤ d → sem σ = some (v, g') → ik_Go sc x lv pc' (.long v :: st) (σ.1, σ.2.1, g') → ik_Go sc x lv pc st σ
def ik_xad (x : ik_DX) : Nat → Nat := x.2.2.2.2.2.2.2.2.2.1
def ik_okR (sc : ik_SC) (id : Nat) (chk : ik_LV → Nat → Nat → Option Nat) : Prop :=
  ∀ (x : ik_DX), ik_Cx sc x → ∀ (lv : ik_LV) (d pc pc' : Nat) (st : List Value) (σ : SS), chk lv d pc = some pc' → ik_Go sc x lv pc' (.ref (ik_xad x id) :: st) σ → ik_Go sc x lv pc st σ
def ik_okC (sc : ik_SC) (T F : Nat) (chk : ik_LV → Nat → Nat → Bool) (sem : SS → Option (Bool × GG)) : Prop :=
  ∀ (x : ik_DX), ik_Cx sc x → ∀ (lv : ik_LV) (d pc : Nat) (st : List Value) (σ : SS) (b : Bool) (g' : GG), chk lv d pc = true → ik_cat st ≤ d → sem σ = some (b, g') → ik_Go sc x lv (if b then T else F) st (σ.1, σ.2.1, g') → ik_Go sc x lv pc st σ
abbrev EP (sc : ik_SC) : Type := { q : (ik_LV → Nat → Nat → Option Nat) × (SS → Option (Int32 × GG)) // ik_okE sc q.1 q.2 }
abbrev JP (sc : ik_SC) : Type := { q : (ik_LV → Nat → Nat → Option Nat) × (SS → Option (Int64 × GG)) // ik_okL sc q.1 q.2 }
abbrev RP (sc : ik_SC) (id : Nat) : Type := { q : ik_LV → Nat → Nat → Option Nat // ik_okR sc id q }
abbrev CP (sc : ik_SC) (T F : Nat) : Type := { q : (ik_LV → Nat → Nat → Bool) × (SS → Option (Bool × GG)) // ik_okC sc T F q.1 q.2 }
theorem ik_cat_i {v : Int32} {st : List Value} {d : Nat} (h : ik_cat st ≤ d) : ik_cat (.int v :: st) ≤ d + 1 := by
  have e : ik_cat (.int v :: st) = 1 + ik_cat st := by simp [ik_cat, Value.category]
  omega
theorem ik_cat_l {v : Int64} {st : List Value} {d : Nat} (h : ik_cat st ≤ d) : ik_cat (.long v :: st) ≤ d + 2 := by
  have e : ik_cat (.long v :: st) = 2 + ik_cat st := by simp [ik_cat, Value.category]
  omega
theorem ik_cat_r {v : Nat} {st : List Value} {d : Nat} (h : ik_cat st ≤ d) : ik_cat (.ref v :: st) ≤ d + 1 := by
  have e : ik_cat (.ref v :: st) = 1 + ik_cat st := by simp [ik_cat, Value.category]
  omega
-- jumps that lead on to a place
def ik_reach (cc : ByteArray) : Nat → Nat → Nat → Bool
  | 0, pc, t => pc == t
  | n + 1, pc, t => pc == t || (match decode cc pc with
    | .ok (.goto off, 3) => decide (0 ≤ (pc : Int) + off) && ik_reach cc n ((pc : Int) + off).toNat t
    | _ => false)
theorem ik_reach_ok {sc : ik_SC} {x : ik_DX} (hC : ik_Cx sc x) {lv : ik_LV} {st : List Value} {σ : SS} {t : Nat} (hk : ik_Go sc x lv t st σ) : ∀ (n pc : Nat), ik_reach sc.2.1 n pc t = true → ik_Go sc x lv pc st σ := by
  intro n
  induction n with
  | zero =>
    intro pc h
    simp only [ik_reach, beq_iff_eq] at h
    rw [h]; exact hk
  | succ n ih =>
    intro pc h
    simp only [ik_reach, Bool.or_eq_true, beq_iff_eq] at h
    rcases h with h | h
    · rw [h]; exact hk
    · split at h
      · rename_i off hdg
        simp only [Bool.and_eq_true, decide_eq_true_eq] at h
        have h2 := ih _ h.2
        obtain ⟨p, l, e, s, m, args, below, meth, c, ad, D, cA, A, v0, g0⟩ := x
        obtain ⟨hx, hb, hml, hown, hts, hns, hK, hD, hr, hlk⟩ := hC
        intro H locs ls hP hS hl
        exact lv_goto (tgt := ((pc : Int) + off).toNat) hx hb hdg (by omega) (h2 H locs ls hP hS hl)
      · cases h
-- a state seen with fewer locals
theorem ik_Go_sub {sc : ik_SC} {x : ik_DX} {lv lv' : ik_LV} {pc : Nat} {st : List Value} {σ : SS} (h : ∀ q ∈ lv', q ∈ lv) (hk : ik_Go sc x lv' pc st σ) : ik_Go sc x lv pc st σ := by
  obtain ⟨p, l, e, s, m, args, below, meth, c, ad, D, cA, A, v0, g0⟩ := x
  intro H locs ls hP hS hl
  refine hk H locs ls hP hS ⟨hl.1, hl.2.1, fun q hq => hl.2.2 q ?_⟩
  simp only [ik_lv, List.mem_append, List.mem_map] at hq ⊢
  rcases hq with hq | ⟨a, ha, rfl⟩
  · exact Or.inl hq
  · exact Or.inr ⟨a, h a ha, rfl⟩
theorem ik_lv_int {ad : Nat → Nat} {rl lv : ik_LV} {σ : SS} {ls : Array Slot} {n k : Nat} (hl : lv_has ls n (ik_lv ad rl lv σ)) (h : (k, 0) ∈ lv) : ls[k]? = some (.val (.int (σ.1 k))) :=
  hl.2.2 (k, .int (σ.1 k)) (List.mem_append_right _ (List.mem_map.mpr ⟨(k, 0), h, rfl⟩))
theorem ik_lv_long {ad : Nat → Nat} {rl lv : ik_LV} {σ : SS} {ls : Array Slot} {n k : Nat} (hl : lv_has ls n (ik_lv ad rl lv σ)) (h : (k, 1) ∈ lv) : ls[k]? = some (.val (.long (σ.2.1 k))) :=
  hl.2.2 (k, .long (σ.2.1 k)) (List.mem_append_right _ (List.mem_map.mpr ⟨(k, 1), h, rfl⟩))
theorem ik_lv_ref {ad : Nat → Nat} {rl lv : ik_LV} {σ : SS} {ls : Array Slot} {n k id : Nat} (hl : lv_has ls n (ik_lv ad rl lv σ)) (h : (k, id) ∈ rl) : ls[k]? = some (.val (.ref (ad id))) :=
  hl.2.2 (k, .ref (ad id)) (List.mem_append_left _ (List.mem_map.mpr ⟨(k, id), h, rfl⟩))
section EX
variable {sc : ik_SC}
-- a number
def cLit (cc : ByteArray) (v : Int32) (pc : Nat) : Option Nat := match decode cc pc with
  | .ok (.iconst n, 1) => if Int32.ofInt n = v then some (pc + 1) else none
  | .ok (.bipush n, 2) => if (Int8.ofInt n).toInt32 = v then some (pc + 2) else none
  | .ok (.sipush n, 3) => if (Int16.ofInt n).toInt32 = v then some (pc + 3) else none
  | _ => none
def sLit (v : Int32) : SS → Option (Int32 × GG) := fun σ => some (v, σ.2.2)
theorem okLit (v : Int32) : ik_okE sc (fun _ _ pc => cLit sc.2.1 v pc) (sLit v) := by
  rintro ⟨p, l, e, s, m, args, below, meth, c, ad, D, cA, A, v0, g0⟩ ⟨hx, hb, hml, hown, hts, hns, hK, hD, hr, hlk⟩ lv d pc pc' st ⟨I, L, g⟩ v g' hc hd hs hk
  cases hs
  intro H locs ls hP hS hl
  have hk := hk H locs ls hP hS hl
  dsimp only [cLit] at hc
  split at hc
  · rename_i n hdg
    split at hc
    · rename_i he
      cases hc
      exact lv_iconst hx hb hdg he hk
    · cases hc
  · rename_i n hdg
    split at hc
    · rename_i he
      cases hc
      exact lv_bipush hx hb hdg he hk
    · cases hc
  · rename_i n hdg
    split at hc
    · rename_i he
      cases hc
      exact lv_sipush hx hb hdg he hk
    · cases hc
  · cases hc
def eLit (v : Int32) : EP sc := ⟨(fun _ _ pc => cLit sc.2.1 v pc, sLit v), okLit v⟩
def cLdc (cc : ByteArray) (idx pc : Nat) : Option Nat := match decode cc pc with
  | .ok (.ldc i, 2) => if i = idx then some (pc + 2) else none
  | .ok (.ldc_w i, 3) => if i = idx then some (pc + 3) else none
  | _ => none
theorem okLdc (idx : Nat) (v : Int32) (hw : Cond.constant sc.2.2.2.1 idx v ∈ lw_tbl) : ik_okE sc (fun _ _ pc => cLdc sc.2.1 idx pc) (sLit v) := by
  rintro ⟨p, l, e, s, m, args, below, meth, c, ad, D, cA, A, v0, g0⟩ ⟨hx, hb, hml, hown, hts, hns, hK, hD, hr, hlk⟩ lv d pc pc' st ⟨I, L, g⟩ v g' hc hd hs hk
  cases hs
  intro H locs ls hP hS hl
  have hk := hk H locs ls hP hS hl
  have hc2 := hts _ (ik_gd hw rfl)
  dsimp only [cLdc] at hc
  split at hc
  · rename_i n hdg
    split at hc
    · rename_i he
      subst he
      cases hc
      exact lv_ldc hx hb hown hc2 hdg hk
    · cases hc
  · rename_i n hdg
    split at hc
    · rename_i he
      subst he
      cases hc
      exact lv_ldcw hx hb hown hc2 hdg hk
    · cases hc
  · cases hc
def eLdc (idx : Nat) (v : Int32) (hw : Cond.constant sc.2.2.2.1 idx v ∈ lw_tbl) : EP sc := ⟨(fun _ _ pc => cLdc sc.2.1 idx pc, sLit v), okLdc idx v hw⟩
def cLdcL (cc : ByteArray) (idx pc : Nat) : Option Nat := match decode cc pc with
  | .ok (.ldc2_w i, 3) => if i = idx then some (pc + 3) else none
  | _ => none
def sLitL (v : Int64) : SS → Option (Int64 × GG) := fun σ => some (v, σ.2.2)
theorem okLdcL (idx : Nat) (v : Int64) (hw : Cond.constantLong sc.2.2.2.1 idx v ∈ lw_tbl) : ik_okL sc (fun _ _ pc => cLdcL sc.2.1 idx pc) (sLitL v) := by
  rintro ⟨p, l, e, s, m, args, below, meth, c, ad, D, cA, A, v0, g0⟩ ⟨hx, hb, hml, hown, hts, hns, hK, hD, hr, hlk⟩ lv d pc pc' st ⟨I, L, g⟩ v g' hc hd hs hk
  cases hs
  intro H locs ls hP hS hl
  have hk := hk H locs ls hP hS hl
  have hc2 := hts _ (ik_gd hw rfl)
  dsimp only [cLdcL] at hc
  split at hc
  · rename_i n hdg
    split at hc
    · rename_i he
      subst he
      cases hc
      exact lv_ldc2 hx hb hown hc2 hdg hk
    · cases hc
  · cases hc
def lLdc (idx : Nat) (v : Int64) (hw : Cond.constantLong sc.2.2.2.1 idx v ∈ lw_tbl) : JP sc := ⟨(fun _ _ pc => cLdcL sc.2.1 idx pc, sLitL v), okLdcL idx v hw⟩
def cLitL (cc : ByteArray) (v : Int64) (pc : Nat) : Option Nat := match decode cc pc with
  | .ok (.lconst n, 1) => if Int64.ofNat (n : Nat) = v then some (pc + 1) else none
  | _ => none
theorem okLitL (v : Int64) : ik_okL sc (fun _ _ pc => cLitL sc.2.1 v pc) (sLitL v) := by
  rintro ⟨p, l, e, s, m, args, below, meth, c, ad, D, cA, A, v0, g0⟩ ⟨hx, hb, hml, hown, hts, hns, hK, hD, hr, hlk⟩ lv d pc pc' st ⟨I, L, g⟩ v g' hc hd hs hk
  cases hs
  intro H locs ls hP hS hl
  have hk := hk H locs ls hP hS hl
  dsimp only [cLitL] at hc
  split at hc
  · rename_i n hdg
    split at hc
    · rename_i he
      cases hc
      exact lv_lconst hx hb hdg he hk
    · cases hc
  · cases hc
def lLit (v : Int64) : JP sc := ⟨(fun _ _ pc => cLitL sc.2.1 v pc, sLitL v), okLitL v⟩
-- a local
def cLoc (cc : ByteArray) (k : Nat) (lv : ik_LV) (pc : Nat) : Option Nat := if (k, 0) ∈ lv then (match decode cc pc with
  | .ok (.iload_n n, 1) => if (n : Nat) = k then some (pc + 1) else none
  | .ok (.iload n, 2) => if n = k then some (pc + 2) else none
  | _ => none) else none
def sLoc (k : Nat) : SS → Option (Int32 × GG) := fun σ => some (σ.1 k, σ.2.2)
theorem okLoc (k : Nat) : ik_okE sc (fun lv _ pc => cLoc sc.2.1 k lv pc) (sLoc k) := by
  rintro ⟨p, l, e, s, m, args, below, meth, c, ad, D, cA, A, v0, g0⟩ ⟨hx, hb, hml, hown, hts, hns, hK, hD, hr, hlk⟩ lv d pc pc' st ⟨I, L, g⟩ v g' hc hd hs hk
  cases hs
  intro H locs ls hP hS hl
  have hk := hk H locs ls hP hS hl
  dsimp only [cLoc] at hc
  split at hc
  · rename_i hin
    have h1 := ik_lv_int hl hin
    split at hc
    · rename_i n hdg
      split at hc
      · rename_i he
        cases hc
        exact lv_iload_n hx hb hdg he h1 hk
      · cases hc
    · rename_i n hdg
      split at hc
      · rename_i he
        subst he
        cases hc
        exact lv_iload hx hb hdg h1 hk
      · cases hc
    · cases hc
  · cases hc
def eLoc (k : Nat) : EP sc := ⟨(fun lv _ pc => cLoc sc.2.1 k lv pc, sLoc k), okLoc k⟩
def cLocL (cc : ByteArray) (k : Nat) (lv : ik_LV) (pc : Nat) : Option Nat := if (k, 1) ∈ lv then (match decode cc pc with
  | .ok (.lload_n n, 1) => if (n : Nat) = k then some (pc + 1) else none
  | .ok (.lload n, 2) => if n = k then some (pc + 2) else none
  | _ => none) else none
def sLocL (k : Nat) : SS → Option (Int64 × GG) := fun σ => some (σ.2.1 k, σ.2.2)
theorem okLocL (k : Nat) : ik_okL sc (fun lv _ pc => cLocL sc.2.1 k lv pc) (sLocL k) := by
  rintro ⟨p, l, e, s, m, args, below, meth, c, ad, D, cA, A, v0, g0⟩ ⟨hx, hb, hml, hown, hts, hns, hK, hD, hr, hlk⟩ lv d pc pc' st ⟨I, L, g⟩ v g' hc hd hs hk
  cases hs
  intro H locs ls hP hS hl
  have hk := hk H locs ls hP hS hl
  dsimp only [cLocL] at hc
  split at hc
  · rename_i hin
    have h1 := ik_lv_long hl hin
    split at hc
    · rename_i n hdg
      split at hc
      · rename_i he
        cases hc
        exact lv_lload_n hx hb hdg he h1 hk
      · cases hc
    · rename_i n hdg
      split at hc
      · rename_i he
        subst he
        cases hc
        exact lv_lload hx hb hdg h1 hk
      · cases hc
    · cases hc
  · cases hc
def lLoc (k : Nat) : JP sc := ⟨(fun lv _ pc => cLocL sc.2.1 k lv pc, sLocL k), okLocL k⟩
-- two ints made one: 0 + 1 - 2 * 3 and 4 or 5 xor 6 << 7 >> 8 >>> 9 / 10 %
def ik_bi : Nat → Instr
  | 0 => .iadd | 1 => .isub | 2 => .imul | 3 => .iand | 4 => .ior | 5 => .ixor | 6 => .ishl | 7 => .ishr | 8 => .iushr | 9 => .idiv | _ => .irem
def ik_bo : Nat → Int32 → Int32 → Option Int32
  | 0, x, y => some (x + y)
  | 1, x, y => some (x - y)
  | 2, x, y => some (x * y)
  | 3, x, y => some (x &&& y)
  | 4, x, y => some (x ||| y)
  | 5, x, y => some (x ^^^ y)
  | 6, x, y => some (x <<< (y &&& 31))
  | 7, x, y => some (x >>> (y &&& 31))
  | 8, x, y => some (x.toUInt32 >>> (y.toUInt32 &&& Int32.toUInt32 31)).toInt32
  | 9, x, y => if y = 0 then none else some (x / y)
  | _, x, y => if y = 0 then none else some (x - x / y * y)
section BO
variable {p : Program} {l : Launch} {e : Env} {R : Room} {s : State} {m : MethodId} {args : Array Value} {below : List Frame} {meth : Method} {c : Code} {H : Heap} {locs : List Loc} {cells slots : Nat} {Q : State → Prop}
theorem ik_bin_row {cc : ByteArray} {pc : Nat} {ls : Array Slot} {rest : List Value} (hx : p.tables.exec = Jvm.exec) (hb : c.code = cc) {o : Nat} {x y z : Int32} (hz : ik_bo o x y = some z) (hdg : decode cc pc = .ok (ik_bi o, 1)) (k : W p l e R s m args below meth c H locs cells slots Q (F0 m (pc + 1) ls (.int z :: rest))) : W p l e R s m args below meth c H locs cells slots Q (F0 m pc ls (.int y :: .int x :: rest)) := by
  match o, hz, hdg with
  | 0, hz, hdg => cases hz; exact lv_iadd hx hb hdg k
  | 1, hz, hdg => cases hz; exact lv_isub hx hb hdg k
  | 2, hz, hdg => cases hz; exact lv_imul hx hb hdg k
  | 3, hz, hdg => cases hz; exact lv_iand hx hb hdg k
  | 4, hz, hdg => cases hz; exact lv_ior hx hb hdg k
  | 5, hz, hdg => cases hz; exact lv_ixor hx hb hdg k
  | 6, hz, hdg => cases hz; exact lv_ishl hx hb hdg k
  | 7, hz, hdg => cases hz; exact lv_ishr hx hb hdg k
  | 8, hz, hdg => cases hz; exact lv_iushr hx hb hdg rfl k
  | 9, hz, hdg =>
    simp only [ik_bo] at hz
    split at hz
    · cases hz
    · rename_i h; cases hz; exact lv_idiv hx hb hdg h k
  | n + 10, hz, hdg =>
    simp only [ik_bo] at hz
    split at hz
    · cases hz
    · rename_i h; cases hz; exact lv_irem hx hb hdg h k
end BO
def cOp (cc : ByteArray) (i : Instr) (pc : Nat) : Option Nat := match decode cc pc with
  | .ok (j, 1) => if j = i then some (pc + 1) else none
  | _ => none
theorem cOp_ok {cc : ByteArray} {i : Instr} {pc pc' : Nat} (h : cOp cc i pc = some pc') : decode cc pc = .ok (i, 1) ∧ pc' = pc + 1 := by
  unfold cOp at h
  split at h
  · rename_i j hdg
    split at h
    · rename_i he
      subst he
      cases h
      exact ⟨hdg, rfl⟩
    · cases h
  · cases h
def sBin (o : Nat) (a b : SS → Option (Int32 × GG)) : SS → Option (Int32 × GG) := fun σ => (a σ).bind fun q => (b (σ.1, σ.2.1, q.2)).bind fun r => (ik_bo o q.1 r.1).map fun z => (z, r.2)
theorem okBin (o : Nat) (a b : EP sc) : ik_okE sc (fun lv d pc => (a.1.1 lv d pc).bind fun p1 => (b.1.1 lv (d + 1) p1).bind fun p2 => cOp sc.2.1 (ik_bi o) p2) (sBin o a.1.2 b.1.2) := by
  intro x hC lv d pc pc' st σ v g' hc hd hs hk
  simp only [Option.bind_eq_some_iff] at hc
  obtain ⟨p1, h1, p2, h2, h3⟩ := hc
  obtain ⟨hdg, rfl⟩ := cOp_ok h3
  simp only [sBin, Option.bind_eq_some_iff, Option.map_eq_some_iff] at hs
  obtain ⟨⟨v1, g1⟩, e1, ⟨v2, g2⟩, e2, z, e3, e4⟩ := hs
  cases e4
  refine a.2 x hC lv d pc p1 st σ v1 g1 h1 hd e1 ?_
  refine b.2 x hC lv (d + 1) p1 p2 (.int v1 :: st) (σ.1, σ.2.1, g1) v2 g2 h2 (ik_cat_i hd) e2 ?_
  obtain ⟨p, l, e, s, m, args, below, meth, c, ad, D, cA, A, v0, g0⟩ := x
  obtain ⟨hx, hb, hml, hown, hts, hns, hK, hD, hr, hlk⟩ := hC
  intro H locs ls hP hS hl
  exact ik_bin_row hx hb e3 hdg (hk H locs ls hP hS hl)
def eBin (o : Nat) (a b : EP sc) : EP sc := ⟨(fun lv d pc => (a.1.1 lv d pc).bind fun p1 => (b.1.1 lv (d + 1) p1).bind fun p2 => cOp sc.2.1 (ik_bi o) p2, sBin o a.1.2 b.1.2), okBin o a b⟩
end EX
end
section
section EH
variable {sc : ik_SC}
-- one int made another: 0 neg, 1 i2b
def ik_ui : Nat → Instr
  | 0 => .ineg | _ => .i2b
def ik_uo : Nat → Int32 → Int32
  | 0, x => -x
  | _, x => x.toInt8.toInt32
def sUn (o : Nat) (a : SS → Option (Int32 × GG)) : SS → Option (Int32 × GG) := fun σ => (a σ).map fun q => (ik_uo o q.1, q.2)
theorem okUn (o : Nat) (a : EP sc) : ik_okE sc (fun lv d pc => (a.1.1 lv d pc).bind fun p1 => cOp sc.2.1 (ik_ui o) p1) (sUn o a.1.2) := by
  intro x hC lv d pc pc' st σ v g' hc hd hs hk
  simp only [Option.bind_eq_some_iff] at hc
  obtain ⟨p1, h1, h3⟩ := hc
  obtain ⟨hdg, rfl⟩ := cOp_ok h3
  simp only [sUn, Option.map_eq_some_iff] at hs
  obtain ⟨⟨v1, g1⟩, e1, e4⟩ := hs
  cases e4
  refine a.2 x hC lv d pc p1 st σ v1 g1 h1 hd e1 ?_
  obtain ⟨p, l, e, s, m, args, below, meth, c, ad, D, cA, A, v0, g0⟩ := x
  obtain ⟨hx, hb, hml, hown, hts, hns, hK, hD, hr, hlk⟩ := hC
  intro H locs ls hP hS hl
  have hk := hk H locs ls hP hS hl
  match o, hk, hdg with
  | 0, hk, hdg => exact lv_ineg hx hb hdg hk
  | n + 1, hk, hdg => exact lv_i2b hx hb hdg rfl hk
def eUn (o : Nat) (a : EP sc) : EP sc := ⟨(fun lv d pc => (a.1.1 lv d pc).bind fun p1 => cOp sc.2.1 (ik_ui o) p1, sUn o a.1.2), okUn o a⟩
def sL2i (a : SS → Option (Int64 × GG)) : SS → Option (Int32 × GG) := fun σ => (a σ).map fun q => (q.1.toInt32, q.2)
theorem okL2i (a : JP sc) : ik_okE sc (fun lv d pc => (a.1.1 lv d pc).bind fun p1 => cOp sc.2.1 .l2i p1) (sL2i a.1.2) := by
  intro x hC lv d pc pc' st σ v g' hc hd hs hk
  simp only [Option.bind_eq_some_iff] at hc
  obtain ⟨p1, h1, h3⟩ := hc
  obtain ⟨hdg, rfl⟩ := cOp_ok h3
  simp only [sL2i, Option.map_eq_some_iff] at hs
  obtain ⟨⟨v1, g1⟩, e1, e4⟩ := hs
  cases e4
  refine a.2 x hC lv d pc p1 st σ v1 g1 h1 hd e1 ?_
  obtain ⟨p, l, e, s, m, args, below, meth, c, ad, D, cA, A, v0, g0⟩ := x
  obtain ⟨hx, hb, hml, hown, hts, hns, hK, hD, hr, hlk⟩ := hC
  intro H locs ls hP hS hl
  exact lv_l2i hx hb hdg rfl (hk H locs ls hP hS hl)
def eL2i (a : JP sc) : EP sc := ⟨(fun lv d pc => (a.1.1 lv d pc).bind fun p1 => cOp sc.2.1 .l2i p1, sL2i a.1.2), okL2i a⟩
def sI2l (a : SS → Option (Int32 × GG)) : SS → Option (Int64 × GG) := fun σ => (a σ).map fun q => (q.1.toInt64, q.2)
theorem okI2l (a : EP sc) : ik_okL sc (fun lv d pc => (a.1.1 lv d pc).bind fun p1 => cOp sc.2.1 .i2l p1) (sI2l a.1.2) := by
  intro x hC lv d pc pc' st σ v g' hc hd hs hk
  simp only [Option.bind_eq_some_iff] at hc
  obtain ⟨p1, h1, h3⟩ := hc
  obtain ⟨hdg, rfl⟩ := cOp_ok h3
  simp only [sI2l, Option.map_eq_some_iff] at hs
  obtain ⟨⟨v1, g1⟩, e1, e4⟩ := hs
  cases e4
  refine a.2 x hC lv d pc p1 st σ v1 g1 h1 hd e1 ?_
  obtain ⟨p, l, e, s, m, args, below, meth, c, ad, D, cA, A, v0, g0⟩ := x
  obtain ⟨hx, hb, hml, hown, hts, hns, hK, hD, hr, hlk⟩ := hC
  intro H locs ls hP hS hl
  exact lv_i2l hx hb hdg rfl (hk H locs ls hP hS hl)
def lI2l (a : EP sc) : JP sc := ⟨(fun lv d pc => (a.1.1 lv d pc).bind fun p1 => cOp sc.2.1 .i2l p1, sI2l a.1.2), okI2l a⟩
-- two longs made one: 0 + 1 *
def ik_ji : Nat → Instr
  | 0 => .ladd | _ => .lmul
def ik_jo : Nat → Int64 → Int64 → Int64
  | 0, x, y => x + y
  | _, x, y => x * y
def sBinL (o : Nat) (a b : SS → Option (Int64 × GG)) : SS → Option (Int64 × GG) := fun σ => (a σ).bind fun q => (b (σ.1, σ.2.1, q.2)).map fun r => (ik_jo o q.1 r.1, r.2)
theorem okBinL (o : Nat) (a b : JP sc) : ik_okL sc (fun lv d pc => (a.1.1 lv d pc).bind fun p1 => (b.1.1 lv (d + 2) p1).bind fun p2 => cOp sc.2.1 (ik_ji o) p2) (sBinL o a.1.2 b.1.2) := by
  intro x hC lv d pc pc' st σ v g' hc hd hs hk
  simp only [Option.bind_eq_some_iff] at hc
  obtain ⟨p1, h1, p2, h2, h3⟩ := hc
  obtain ⟨hdg, rfl⟩ := cOp_ok h3
  simp only [sBinL, Option.bind_eq_some_iff, Option.map_eq_some_iff] at hs
  obtain ⟨⟨v1, g1⟩, e1, ⟨v2, g2⟩, e2, e4⟩ := hs
  cases e4
  refine a.2 x hC lv d pc p1 st σ v1 g1 h1 hd e1 ?_
  refine b.2 x hC lv (d + 2) p1 p2 (.long v1 :: st) (σ.1, σ.2.1, g1) v2 g2 h2 (ik_cat_l hd) e2 ?_
  obtain ⟨p, l, e, s, m, args, below, meth, c, ad, D, cA, A, v0, g0⟩ := x
  obtain ⟨hx, hb, hml, hown, hts, hns, hK, hD, hr, hlk⟩ := hC
  intro H locs ls hP hS hl
  have hk := hk H locs ls hP hS hl
  match o, hk, hdg with
  | 0, hk, hdg => exact lv_ladd hx hb hdg hk
  | n + 1, hk, hdg => exact lv_lmul hx hb hdg hk
def lBin (o : Nat) (a b : JP sc) : JP sc := ⟨(fun lv d pc => (a.1.1 lv d pc).bind fun p1 => (b.1.1 lv (d + 2) p1).bind fun p2 => cOp sc.2.1 (ik_ji o) p2, sBinL o a.1.2 b.1.2), okBinL o a b⟩
-- a reference in a local
def cRloc (cc : ByteArray) (k pc : Nat) : Option Nat := match decode cc pc with
  | .ok (.aload_n n, 1) => if (n : Nat) = k then some (pc + 1) else none
  | .ok (.aload n, 2) => if n = k then some (pc + 2) else none
  | _ => none
theorem okRloc (k id : Nat) : ik_okR sc id (fun _ _ pc => if (k, id) ∈ sc.2.2.2.2.1 then cRloc sc.2.1 k pc else none) := by
  rintro ⟨p, l, e, s, m, args, below, meth, c, ad, D, cA, A, v0, g0⟩ ⟨hx, hb, hml, hown, hts, hns, hK, hD, hr, hlk⟩ lv d pc pc' st σ hc hk
  intro H locs ls hP hS hl
  have hk := hk H locs ls hP hS hl
  dsimp only [cRloc] at hc
  split at hc
  · rename_i hin
    have h1 := ik_lv_ref hl hin
    split at hc
    · rename_i n hdg
      split at hc
      · rename_i he
        cases hc
        exact lv_aload_n hx hb hdg he h1 hk
      · cases hc
    · rename_i n hdg
      split at hc
      · rename_i he
        subst he
        cases hc
        exact lv_aload hx hb hdg h1 hk
      · cases hc
    · cases hc
  · cases hc
def rLoc (k id : Nat) : RP sc id := ⟨fun _ _ pc => if (k, id) ∈ sc.2.2.2.2.1 then cRloc sc.2.1 k pc else none, okRloc k id⟩
-- what the tables say of a field: the number idx in the pool of class own is field k of class ci; and (FW) that it is of kind t, and not final
def ik_FL (own : String) (idx ci k : Nat) : Prop := ∃ (C : String) (T : u_T) (N : Nat) (ty : Nat → FieldType), vwCl[ci]? = some (C, T, N) ∧ k < N ∧ (∀ w ∈ u_ws C T N, w ∈ lw_tbl) ∧ (∀ j, j < N → parseFieldDescriptor (T j).2.2.1 = some (ty j)) ∧ (∀ a, a < N → ∀ b, b < N → a ≠ b → (T a).2.1 ≠ (T b).2.1) ∧ (T k).1 = C ∧ Cond.fieldLink own idx C (T k).2.1 (T k).2.2.1 ∈ lw_tbl
def ik_FW (own : String) (idx ci k t : Nat) : Prop := ∃ (C : String) (T : u_T) (N : Nat) (ty : Nat → FieldType), vwCl[ci]? = some (C, T, N) ∧ k < N ∧ (∀ w ∈ u_ws C T N, w ∈ lw_tbl) ∧ (∀ j, j < N → parseFieldDescriptor (T j).2.2.1 = some (ty j)) ∧ (∀ a, a < N → ∀ b, b < N → a ≠ b → (T a).2.1 ≠ (T b).2.1) ∧ (T k).1 = C ∧ Cond.fieldLink own idx C (T k).2.1 (T k).2.2.1 ∈ lw_tbl ∧ (T k).2.2.2 = false ∧ ty k = ik_ty t
theorem ik_FW.fl {own : String} {idx ci k t : Nat} (h : ik_FW own idx ci k t) : ik_FL own idx ci k := by
  obtain ⟨C, T, N, ty, h1, h2, h3, h4, h5, h6, h7, -⟩ := h
  exact ⟨C, T, N, ty, h1, h2, h3, h4, h5, h6, h7⟩
-- the cell o is an object of class ci, its field k is fd
def ik_isF (wd : List ik_CD) (o ci k : Nat) (fd : Nat ⊕ Nat) : Bool := match wd[o]? with
  | some (.inr (c, fds)) => c == ci && decide (fds[k]? = some fd)
  | _ => false
theorem ik_isF_ok {wd : List ik_CD} {o ci k : Nat} {fd : Nat ⊕ Nat} (h : ik_isF wd o ci k fd = true) : ∃ fds, wd[o]? = some (.inr (ci, fds)) ∧ fds[k]? = some fd := by
  unfold ik_isF at h
  split at h
  · rename_i c fds hw
    simp only [Bool.and_eq_true, beq_iff_eq, decide_eq_true_eq] at h
    exact ⟨fds, by rw [hw, h.1], h.2⟩
  · cases h
def ik_isA (wd : List ik_CD) (a k n : Nat) : Bool := decide (wd[a]? = some (.inl (k, n)))
def cGet (cc : ByteArray) (idx pc : Nat) : Option Nat := match decode cc pc with
  | .ok (.getfield i, 3) => if i = idx then some (pc + 3) else none
  | _ => none
theorem cGet_ok {cc : ByteArray} {idx pc pc' : Nat} (h : cGet cc idx pc = some pc') : decode cc pc = .ok (.getfield idx, 3) ∧ pc' = pc + 3 := by
  unfold cGet at h
  split at h
  · rename_i j hdg
    split at h
    · rename_i he
      subst he
      cases h
      exact ⟨hdg, rfl⟩
    · cases h
  · cases h
-- the row of a getfield in our words
theorem ik_get_row {x : ik_DX} (hC : ik_Cx sc x) {lv : ik_LV} {pc o ci k idx : Nat} {st : List Value} {σ : SS} {fd : Nat ⊕ Nat} {v : Value} (hF : ik_FL sc.2.2.2.1 idx ci k) (hi : ik_isF sc.1 o ci k fd = true) (hv : v = (match fd with
    | .inl t => if t = 1 then Value.long (σ.2.2.2 o k) else Value.int (σ.2.2.1 o k)
    | .inr q => Value.ref (ik_xad x q))) (hdg : decode sc.2.1 pc = .ok (.getfield idx, 3)) (hk : ik_Go sc x lv (pc + 3) (v :: st) σ) : ik_Go sc x lv pc (.ref (ik_xad x o) :: st) σ := by
  obtain ⟨p, l, e, s, m, args, below, meth, c, ad, D, cA, A, v0, g0⟩ := x
  obtain ⟨hx, hb, hml, hown, hts, hns, hK, hD, hr, hlk⟩ := hC
  obtain ⟨C, T, N, ty, h1, h2, h3, h4, h5, h6, h7⟩ := hF
  obtain ⟨fds, hw, hf⟩ := ik_isF_ok hi
  intro H locs ls hP hS hl
  refine va_get (D := D) (ci := ci) (C := C) (T := T) (N := N) (ref := C) (fs := ik_fv ad σ.2.2 o 0 fds) hx hb hts (ik_gd_lays h3) hown hK hP o (by rw [ik_w_at, hw]; rfl) h1 k h2 (hts _ (ik_gd h7 rfl)) (fun y hy => by rw [h6] at hy; exact hy) (v := v) ?_ hdg (hk H locs ls hP hS hl)
  rw [ik_fv_at, hf, hv]
  cases fd with
  | inl t => simp
  | inr q => rfl
-- a reference in a field
theorem okRfld {o : Nat} (r : RP sc o) (idx ci k q : Nat) (hF : ik_FL sc.2.2.2.1 idx ci k) : ik_okR sc q (fun lv d pc => (r.1 lv d pc).bind fun p1 => if ik_isF sc.1 o ci k (.inr q) = true then cGet sc.2.1 idx p1 else none) := by
  intro x hC lv d pc pc' st σ hc hk
  simp only [Option.bind_eq_some_iff] at hc
  obtain ⟨p1, h1, h3⟩ := hc
  split at h3
  · rename_i hi
    obtain ⟨hdg, rfl⟩ := cGet_ok h3
    exact r.2 x hC lv d pc p1 st σ h1 (ik_get_row hC hF hi rfl hdg hk)
  · cases h3
def rFld {o : Nat} (r : RP sc o) (idx ci k q : Nat) (hF : ik_FL sc.2.2.2.1 idx ci k) : RP sc q := ⟨fun lv d pc => (r.1 lv d pc).bind fun p1 => if ik_isF sc.1 o ci k (.inr q) = true then cGet sc.2.1 idx p1 else none, okRfld r idx ci k q hF⟩
-- an int, a long in a field
def sFld (o k : Nat) : SS → Option (Int32 × GG) := fun σ => some (σ.2.2.1 o k, σ.2.2)
def sFldL (o k : Nat) : SS → Option (Int64 × GG) := fun σ => some (σ.2.2.2 o k, σ.2.2)
theorem okFld {o : Nat} (r : RP sc o) (idx ci k t : Nat) (hF : ik_FL sc.2.2.2.1 idx ci k) : ik_okE sc (fun lv d pc => (r.1 lv d pc).bind fun p1 => if ik_isF sc.1 o ci k (.inl t) = true ∧ t ≠ 1 then cGet sc.2.1 idx p1 else none) (sFld o k) := by
  intro x hC lv d pc pc' st σ v g' hc hd hs hk
  simp only [Option.bind_eq_some_iff] at hc
  obtain ⟨p1, h1, h3⟩ := hc
  cases hs
  split at h3
  · rename_i hi
    obtain ⟨hdg, rfl⟩ := cGet_ok h3
    exact r.2 x hC lv d pc p1 st σ h1 (ik_get_row hC hF hi.1 (by simp [hi.2]) hdg hk)
  · cases h3
def eFld {o : Nat} (r : RP sc o) (idx ci k t : Nat) (hF : ik_FL sc.2.2.2.1 idx ci k) : EP sc := ⟨(fun lv d pc => (r.1 lv d pc).bind fun p1 => if ik_isF sc.1 o ci k (.inl t) = true ∧ t ≠ 1 then cGet sc.2.1 idx p1 else none, sFld o k), okFld r idx ci k t hF⟩
theorem okFldL {o : Nat} (r : RP sc o) (idx ci k : Nat) (hF : ik_FL sc.2.2.2.1 idx ci k) : ik_okL sc (fun lv d pc => (r.1 lv d pc).bind fun p1 => if ik_isF sc.1 o ci k (.inl 1) = true then cGet sc.2.1 idx p1 else none) (sFldL o k) := by
  intro x hC lv d pc pc' st σ v g' hc hd hs hk
  simp only [Option.bind_eq_some_iff] at hc
  obtain ⟨p1, h1, h3⟩ := hc
  cases hs
  split at h3
  · rename_i hi
    obtain ⟨hdg, rfl⟩ := cGet_ok h3
    exact r.2 x hC lv d pc p1 st σ h1 (ik_get_row hC hF hi (by simp) hdg hk)
  · cases h3
def lFld {o : Nat} (r : RP sc o) (idx ci k : Nat) (hF : ik_FL sc.2.2.2.1 idx ci k) : JP sc := ⟨(fun lv d pc => (r.1 lv d pc).bind fun p1 => if ik_isF sc.1 o ci k (.inl 1) = true then cGet sc.2.1 idx p1 else none, sFldL o k), okFldL r idx ci k hF⟩
-- an element of an array of n
def ik_ix (i : Int32) (n : Nat) : Option Nat := if i < 0 ∨ n ≤ i.toNatClampNeg then none else some i.toNatClampNeg
theorem ik_ix_ok {i : Int32} {n j : Nat} (h : ik_ix i n = some j) : vp_in i n ∧ j = i.toNatClampNeg := by
  unfold ik_ix at h
  split at h
  · cases h
  · rename_i hn
    cases h
    exact ⟨hn, rfl⟩
theorem ik_isA_ok {wd : List ik_CD} {ad : Nat → Nat} {cA : Nat → ClassId} {g : GG} {a k n : Nat} (h : ik_isA wd a k n = true) : wd[a]? = some (.inl (k, n)) ∧ (ik_w wd ad cA g)[a]? = some (ad a, .inl (cA k, n, if k = 1 then .inr (.inl (g.2 a)) else .inl (g.1 a))) := by
  simp only [ik_isA, decide_eq_true_eq] at h
  exact ⟨h, by rw [ik_w_at, h]; rfl⟩
-- iaload for an int array, baload for the others
def ik_ai : Nat → Instr
  | 0 => .iaload | _ => .baload
def sArr (a n : Nat) (i : SS → Option (Int32 × GG)) : SS → Option (Int32 × GG) := fun σ => (i σ).bind fun q => (ik_ix q.1 n).map fun j => (q.2.1 a j, q.2)
theorem okArr (k n : Nat) {a : Nat} (r : RP sc a) (i : EP sc) : ik_okE sc (fun lv d pc => (r.1 lv d pc).bind fun p1 => (i.1.1 lv (d + 1) p1).bind fun p2 => if ik_isA sc.1 a k n = true ∧ (k = 0 ∨ k = 2 ∨ k = 3) then cOp sc.2.1 (ik_ai k) p2 else none) (sArr a n i.1.2) := by
  intro x hC lv d pc pc' st σ v g' hc hd hs hk
  simp only [Option.bind_eq_some_iff] at hc
  obtain ⟨p1, h1, p2, h2, h3⟩ := hc
  split at h3
  · rename_i hi
    obtain ⟨hdg, rfl⟩ := cOp_ok h3
    simp only [sArr, Option.bind_eq_some_iff, Option.map_eq_some_iff] at hs
    obtain ⟨⟨v1, g1⟩, e1, j, e2, e4⟩ := hs
    cases e4
    obtain ⟨hin, rfl⟩ := ik_ix_ok e2
    refine r.2 x hC lv d pc p1 st σ h1 ?_
    refine i.2 x hC lv (d + 1) p1 p2 _ σ v1 g1 h2 (ik_cat_r hd) e1 ?_
    obtain ⟨p, l, e, s, m, args, below, meth, c, ad, D, cA, A, v0, g0⟩ := x
    obtain ⟨hx, hb, hml, hown, hts, hns, hK, hD, hr, hlk⟩ := hC
    intro H locs ls hP hS hl
    have hk := hk H locs ls hP hS hl
    have ha := (ik_isA_ok (ad := ad) (cA := cA) (g := g1) hi.1).2
    rcases hi.2 with rfl | rfl | rfl
    · exact va_iald hx hb hK hP a 0 ha rfl hin hdg hk
    · exact va_bald hx hb hK hP a 2 ha rfl hin hdg hk
    · exact va_zald hx hb hK hP a 3 ha rfl hin hdg hk
  · cases h3
def eArr (k n : Nat) {a : Nat} (r : RP sc a) (i : EP sc) : EP sc := ⟨(fun lv d pc => (r.1 lv d pc).bind fun p1 => (i.1.1 lv (d + 1) p1).bind fun p2 => if ik_isA sc.1 a k n = true ∧ (k = 0 ∨ k = 2 ∨ k = 3) then cOp sc.2.1 (ik_ai k) p2 else none, sArr a n i.1.2), okArr k n r i⟩
def sArrL (a n : Nat) (i : SS → Option (Int32 × GG)) : SS → Option (Int64 × GG) := fun σ => (i σ).bind fun q => (ik_ix q.1 n).map fun j => (q.2.2 a j, q.2)
theorem okArrL (n : Nat) {a : Nat} (r : RP sc a) (i : EP sc) : ik_okL sc (fun lv d pc => (r.1 lv d pc).bind fun p1 => (i.1.1 lv (d + 1) p1).bind fun p2 => if ik_isA sc.1 a 1 n = true then cOp sc.2.1 .laload p2 else none) (sArrL a n i.1.2) := by
  intro x hC lv d pc pc' st σ v g' hc hd hs hk
  simp only [Option.bind_eq_some_iff] at hc
  obtain ⟨p1, h1, p2, h2, h3⟩ := hc
  split at h3
  · rename_i hi
    obtain ⟨hdg, rfl⟩ := cOp_ok h3
    simp only [sArrL, Option.bind_eq_some_iff, Option.map_eq_some_iff] at hs
    obtain ⟨⟨v1, g1⟩, e1, j, e2, e4⟩ := hs
    cases e4
    obtain ⟨hin, rfl⟩ := ik_ix_ok e2
    refine r.2 x hC lv d pc p1 st σ h1 ?_
    refine i.2 x hC lv (d + 1) p1 p2 _ σ v1 g1 h2 (ik_cat_r hd) e1 ?_
    obtain ⟨p, l, e, s, m, args, below, meth, c, ad, D, cA, A, v0, g0⟩ := x
    obtain ⟨hx, hb, hml, hown, hts, hns, hK, hD, hr, hlk⟩ := hC
    intro H locs ls hP hS hl
    have ha := (ik_isA_ok (ad := ad) (cA := cA) (g := g1) hi).2
    exact va_lald hx hb hK hP a 1 ha rfl hin hdg (hk H locs ls hP hS hl)
  · cases h3
def lArr (n : Nat) {a : Nat} (r : RP sc a) (i : EP sc) : JP sc := ⟨(fun lv d pc => (r.1 lv d pc).bind fun p1 => (i.1.1 lv (d + 1) p1).bind fun p2 => if ik_isA sc.1 a 1 n = true then cOp sc.2.1 .laload p2 else none, sArrL a n i.1.2), okArrL n r i⟩
-- an array's length
theorem okLen (k n : Nat) {a : Nat} (r : RP sc a) : ik_okE sc (fun lv d pc => (r.1 lv d pc).bind fun p1 => if ik_isA sc.1 a k n = true ∧ k ≤ 3 then cOp sc.2.1 .arraylength p1 else none) (sLit (Int32.ofNat n)) := by
  intro x hC lv d pc pc' st σ v g' hc hd hs hk
  simp only [Option.bind_eq_some_iff] at hc
  obtain ⟨p1, h1, h3⟩ := hc
  cases hs
  split at h3
  · rename_i hi
    obtain ⟨hdg, rfl⟩ := cOp_ok h3
    refine r.2 x hC lv d pc p1 st σ h1 ?_
    obtain ⟨p, l, e, s, m, args, below, meth, c, ad, D, cA, A, v0, g0⟩ := x
    obtain ⟨hx, hb, hml, hown, hts, hns, hK, hD, hr, hlk⟩ := hC
    intro H locs ls hP hS hl
    have ha := (ik_isA_ok (ad := ad) (cA := cA) (g := σ.2.2) hi.1).2
    have hk3 : k = 0 ∨ k = 1 ∨ k = 2 ∨ k = 3 := by omega
    rcases hk3 with rfl | rfl | rfl | rfl
    · exact va_alen hx hb hK hP a 0 ha (ty := .int) rfl rfl hdg (hk H locs ls hP hS hl)
    · exact va_alen hx hb hK hP a 1 ha (ty := .long) rfl rfl hdg (hk H locs ls hP hS hl)
    · exact va_alen hx hb hK hP a 2 ha (ty := .byte) rfl rfl hdg (hk H locs ls hP hS hl)
    · exact va_alen hx hb hK hP a 3 ha (ty := .boolean) rfl rfl hdg (hk H locs ls hP hS hl)
  · cases h3
def eLen (k n : Nat) {a : Nat} (r : RP sc a) : EP sc := ⟨(fun lv d pc => (r.1 lv d pc).bind fun p1 => if ik_isA sc.1 a k n = true ∧ k ≤ 3 then cOp sc.2.1 .arraylength p1 else none, sLit (Int32.ofNat n)), okLen k n r⟩
end EH
end
section
-- comparisons: 0 = 1 ≠ 2 < 3 ≥ 4 > 5 ≤
def ik_cc : Nat → ClassFile.Cond
  | 0 => .eq | 1 => .ne | 2 => .lt | 3 => .ge | 4 => .gt | _ => .le
def ik_cmp : Nat → Int32 → Int32 → Bool
  | 0, x, y => decide (x = y)
  | 1, x, y => !decide (x = y)
  | 2, x, y => decide (x < y)
  | 3, x, y => decide (y ≤ x)
  | 4, x, y => decide (y < x)
  | _, x, y => decide (x ≤ y)
def ik_cmpL : Nat → Int64 → Int64 → Bool
  | 0, x, y => decide (x = y)
  | 1, x, y => !decide (x = y)
  | 2, x, y => decide (x < y)
  | 3, x, y => decide (y ≤ x)
  | 4, x, y => decide (y < x)
  | _, x, y => decide (x ≤ y)
def ik_neg : Nat → Nat
  | 0 => 1 | 1 => 0 | 2 => 3 | 3 => 2 | 4 => 5 | _ => 4
theorem ik_cmp_neg (o : Nat) (x y : Int32) : ik_cmp (ik_neg o) x y = !ik_cmp o x y := by
  match o with
  | 0 => rfl
  | 1 => simp [ik_neg, ik_cmp]
  | 2 => simp [ik_neg, ik_cmp, ← Int32.not_lt]
  | 3 => simp [ik_neg, ik_cmp, ← Int32.not_lt]
  | 4 => simp [ik_neg, ik_cmp, ← Int32.not_lt]
  | n + 5 => simp [ik_neg, ik_cmp, ← Int32.not_lt]
theorem ik_lcmp (o : Nat) (x y : Int64) : ik_cmp o (lg_cmp x y) 0 = ik_cmpL o x y := by
  have h1 : (lg_cmp x y = 0) ↔ x = y := by
    unfold lg_cmp
    simp only [gt_iff_lt, Int64.lt_iff_toInt_lt, ← Int64.toInt_inj]
    repeat' split
    · constructor
      · intro h; cases h
      · intro h; omega
    · constructor
      · intro h; assumption
      · intro h; rfl
    · constructor
      · intro h; cases h
      · intro h; omega
  have h2 : (lg_cmp x y < 0) ↔ x < y := by
    unfold lg_cmp
    simp only [gt_iff_lt, Int64.lt_iff_toInt_lt, ← Int64.toInt_inj]
    repeat' split
    · constructor
      · intro h; exact absurd h (by decide)
      · intro h; omega
    · constructor
      · intro h; exact absurd h (by decide)
      · intro h; omega
    · constructor
      · intro h; omega
      · intro h; decide
  have h3 : (0 < lg_cmp x y) ↔ y < x := by
    unfold lg_cmp
    simp only [gt_iff_lt, Int64.lt_iff_toInt_lt, ← Int64.toInt_inj]
    repeat' split
    · constructor
      · intro h; omega
      · intro h; decide
    · constructor
      · intro h; exact absurd h (by decide)
      · intro h; omega
    · constructor
      · intro h; exact absurd h (by decide)
      · intro h; omega
  match o with
  | 0 => simp [ik_cmp, ik_cmpL, h1]
  | 1 => simp [ik_cmp, ik_cmpL, h1]
  | 2 => simp [ik_cmp, ik_cmpL, h2]
  | 3 => simp [ik_cmp, ik_cmpL, ← Int32.not_lt, ← Int64.not_lt, h2]
  | 4 => simp [ik_cmp, ik_cmpL, h3]
  | n + 5 => simp [ik_cmp, ik_cmpL, ← Int32.not_lt, ← Int64.not_lt, h3]
section CR
variable {p : Program} {l : Launch} {e : Env} {R : Room} {s : State} {m : MethodId} {args : Array Value} {below : List Frame} {meth : Method} {c : Code} {H : Heap} {locs : List Loc} {cells slots : Nat} {Q : State → Prop}
theorem ik_icmp_row {cc : ByteArray} {pc : Nat} {ls : Array Slot} {rest : List Value} (hx : p.tables.exec = Jvm.exec) (hb : c.code = cc) {o : Nat} {x y : Int32} {off : Int} {tgt : Nat} (hdg : decode cc pc = .ok (.if_icmp (ik_cc o) off, 3)) (ht : (pc : Int) + off = (tgt : Int)) (k : W p l e R s m args below meth c H locs cells slots Q (F0 m (if ik_cmp o x y = true then tgt else pc + 3) ls rest)) : W p l e R s m args below meth c H locs cells slots Q (F0 m pc ls (.int y :: .int x :: rest)) := by
  match o, k, hdg with
  | 0, k, hdg => exact lv_icmp_eq hx hb hdg ht (fun h => by rwa [if_pos (by simpa [ik_cmp] using h)] at k) (fun h => by rwa [if_neg (by simpa [ik_cmp] using h)] at k)
  | 1, k, hdg => exact lv_icmp_ne hx hb hdg ht (fun h => by rwa [if_pos (by simpa [ik_cmp] using h)] at k) (fun h => by rwa [if_neg (by simpa [ik_cmp] using h)] at k)
  | 2, k, hdg => exact lv_icmp_lt hx hb hdg ht (fun h => by rwa [if_pos (by simpa only [ik_cmp, decide_eq_true_eq] using h)] at k) (fun h => by rwa [if_neg (by simpa only [ik_cmp, decide_eq_true_eq] using h)] at k)
  | 3, k, hdg => exact lv_icmp_ge hx hb hdg ht (fun h => by rwa [if_pos (by simpa only [ik_cmp, decide_eq_true_eq] using h)] at k) (fun h => by rwa [if_neg (by simpa only [ik_cmp, decide_eq_true_eq] using h)] at k)
  | 4, k, hdg => exact lv_icmp_gt hx hb hdg ht (fun h => by rwa [if_pos (by simpa only [ik_cmp, decide_eq_true_eq] using h)] at k) (fun h => by rwa [if_neg (by simpa only [ik_cmp, decide_eq_true_eq] using h)] at k)
  | n + 5, k, hdg => exact lv_icmp_le hx hb hdg ht (fun h => by rwa [if_pos (by simpa only [ik_cmp, decide_eq_true_eq] using h)] at k) (fun h => by rwa [if_neg (by simpa only [ik_cmp, decide_eq_true_eq] using h)] at k)
theorem ik_if_row {cc : ByteArray} {pc : Nat} {ls : Array Slot} {rest : List Value} (hx : p.tables.exec = Jvm.exec) (hb : c.code = cc) {o : Nat} {x : Int32} {off : Int} {tgt : Nat} (hdg : decode cc pc = .ok (.ifCond (ik_cc o) off, 3)) (ht : (pc : Int) + off = (tgt : Int)) (k : W p l e R s m args below meth c H locs cells slots Q (F0 m (if ik_cmp o x 0 = true then tgt else pc + 3) ls rest)) : W p l e R s m args below meth c H locs cells slots Q (F0 m pc ls (.int x :: rest)) := by
  match o, k, hdg with
  | 0, k, hdg => exact lv_if_eq hx hb hdg ht (fun h => by rwa [if_pos (by simpa [ik_cmp] using h)] at k) (fun h => by rwa [if_neg (by simpa [ik_cmp] using h)] at k)
  | 1, k, hdg => exact lv_if_ne hx hb hdg ht (fun h => by rwa [if_pos (by simpa [ik_cmp] using h)] at k) (fun h => by rwa [if_neg (by simpa [ik_cmp] using h)] at k)
  | 2, k, hdg => exact lv_if_lt hx hb hdg ht (fun h => by rwa [if_pos (by simpa only [ik_cmp, decide_eq_true_eq] using h)] at k) (fun h => by rwa [if_neg (by simpa only [ik_cmp, decide_eq_true_eq] using h)] at k)
  | 3, k, hdg => exact lv_if_ge hx hb hdg ht (fun h => by rwa [if_pos (by simpa only [ik_cmp, decide_eq_true_eq] using h)] at k) (fun h => by rwa [if_neg (by simpa only [ik_cmp, decide_eq_true_eq] using h)] at k)
  | 4, k, hdg => exact lv_if_gt hx hb hdg ht (fun h => by rwa [if_pos (by simpa only [ik_cmp, decide_eq_true_eq] using h)] at k) (fun h => by rwa [if_neg (by simpa only [ik_cmp, decide_eq_true_eq] using h)] at k)
  | n + 5, k, hdg => exact lv_if_le hx hb hdg ht (fun h => by rwa [if_pos (by simpa only [ik_cmp, decide_eq_true_eq] using h)] at k) (fun h => by rwa [if_neg (by simpa only [ik_cmp, decide_eq_true_eq] using h)] at k)
end CR
-- the jump at a comparison's end: on true to T, on false to F; behind the jump it may go on by jumps
def ik_jmp (cc : ByteArray) (pc : Nat) (off : Int) (c : ClassFile.Cond) (o T F : Nat) : Bool := (decide (c = ik_cc o) && (decide ((pc : Int) + off = (T : Int)) && ik_reach cc 3 (pc + 3) F)) || (decide (c = ik_cc (ik_neg o)) && (decide ((pc : Int) + off = (F : Int)) && ik_reach cc 3 (pc + 3) T))
def cIcmp (cc : ByteArray) (o T F pc : Nat) : Bool := match decode cc pc with
  | .ok (.if_icmp c off, 3) => ik_jmp cc pc off c o T F
  | _ => false
def cIf (cc : ByteArray) (o T F pc : Nat) : Bool := match decode cc pc with
  | .ok (.ifCond c off, 3) => ik_jmp cc pc off c o T F
  | _ => false
theorem ik_jmp_ok {sc : ik_SC} {x : ik_DX} (hC : ik_Cx sc x) {lv : ik_LV} {st : List Value} {σ : SS} {pc : Nat} {off : Int} {c : ClassFile.Cond} {o T F : Nat} {a b : Int32} (h : ik_jmp sc.2.1 pc off c o T F = true) (hk : ik_Go sc x lv (if ik_cmp o a b = true then T else F) st σ) : ∃ (o' tgt : Nat), c = ik_cc o' ∧ (pc : Int) + off = (tgt : Int) ∧ ik_Go sc x lv (if ik_cmp o' a b = true then tgt else pc + 3) st σ := by
  simp only [ik_jmp, Bool.or_eq_true, Bool.and_eq_true, decide_eq_true_eq] at h
  rcases h with ⟨h1, h2, h3⟩ | ⟨h1, h2, h3⟩
  · refine ⟨o, T, h1, h2, ?_⟩
    cases hb : ik_cmp o a b with
    | true => rw [hb] at hk; exact hk
    | false => rw [hb] at hk; exact ik_reach_ok hC hk 3 _ h3
  · refine ⟨ik_neg o, F, h1, h2, ?_⟩
    rw [ik_cmp_neg]
    cases hb : ik_cmp o a b with
    | true => rw [hb] at hk; exact ik_reach_ok hC hk 3 _ h3
    | false => rw [hb] at hk; exact hk
section CX
variable {sc : ik_SC} {T F : Nat}
def sCmp (o : Nat) (a b : SS → Option (Int32 × GG)) : SS → Option (Bool × GG) := fun σ => (a σ).bind fun q => (b (σ.1, σ.2.1, q.2)).map fun r => (ik_cmp o q.1 r.1, r.2)
theorem okCmp (o : Nat) (a b : EP sc) : ik_okC sc T F (fun lv d pc => match a.1.1 lv d pc with
    | none => false
    | some p1 => match b.1.1 lv (d + 1) p1 with
      | none => false
      | some p2 => cIcmp sc.2.1 o T F p2) (sCmp o a.1.2 b.1.2) := by
  intro x hC lv d pc st σ v g' hc hd hs hk
  dsimp only at hc
  split at hc
  · cases hc
  · rename_i p1 h1
    split at hc
    · cases hc
    · rename_i p2 h2
      unfold cIcmp at hc
      split at hc
      · rename_i c' off hdg
        simp only [sCmp, Option.bind_eq_some_iff, Option.map_eq_some_iff] at hs
        obtain ⟨⟨v1, g1⟩, e1, ⟨v2, g2⟩, e2, e4⟩ := hs
        cases e4
        refine a.2 x hC lv d pc p1 st σ v1 g1 h1 hd e1 ?_
        refine b.2 x hC lv (d + 1) p1 p2 (.int v1 :: st) (σ.1, σ.2.1, g1) v2 g2 h2 (ik_cat_i hd) e2 ?_
        obtain ⟨o', tgt, rfl, ht, hj⟩ := ik_jmp_ok hC hc hk
        obtain ⟨p, l, e, s, m, args, below, meth, c, ad, D, cA, A, v0, g0⟩ := x
        obtain ⟨hx, hb, hml, hown, hts, hns, hK, hD, hr, hlk⟩ := hC
        intro H locs ls hP hS hl
        exact ik_icmp_row hx hb hdg ht (hj H locs ls hP hS hl)
      · cases hc
def cCmp (o : Nat) (a b : EP sc) : CP sc T F := ⟨(fun lv d pc => match a.1.1 lv d pc with
    | none => false
    | some p1 => match b.1.1 lv (d + 1) p1 with
      | none => false
      | some p2 => cIcmp sc.2.1 o T F p2, sCmp o a.1.2 b.1.2), okCmp o a b⟩
def sCmp0 (o : Nat) (a : SS → Option (Int32 × GG)) : SS → Option (Bool × GG) := fun σ => (a σ).map fun q => (ik_cmp o q.1 0, q.2)
theorem okCmp0 (o : Nat) (a : EP sc) : ik_okC sc T F (fun lv d pc => match a.1.1 lv d pc with
    | none => false
    | some p1 => cIf sc.2.1 o T F p1) (sCmp0 o a.1.2) := by
  intro x hC lv d pc st σ v g' hc hd hs hk
  dsimp only at hc
  split at hc
  · cases hc
  · rename_i p1 h1
    unfold cIf at hc
    split at hc
    · rename_i c' off hdg
      simp only [sCmp0, Option.map_eq_some_iff] at hs
      obtain ⟨⟨v1, g1⟩, e1, e4⟩ := hs
      cases e4
      refine a.2 x hC lv d pc p1 st σ v1 g1 h1 hd e1 ?_
      obtain ⟨o', tgt, rfl, ht, hj⟩ := ik_jmp_ok hC hc hk
      obtain ⟨p, l, e, s, m, args, below, meth, c, ad, D, cA, A, v0, g0⟩ := x
      obtain ⟨hx, hb, hml, hown, hts, hns, hK, hD, hr, hlk⟩ := hC
      intro H locs ls hP hS hl
      exact ik_if_row hx hb hdg ht (hj H locs ls hP hS hl)
    · cases hc
def cCmp0 (o : Nat) (a : EP sc) : CP sc T F := ⟨(fun lv d pc => match a.1.1 lv d pc with
    | none => false
    | some p1 => cIf sc.2.1 o T F p1, sCmp0 o a.1.2), okCmp0 o a⟩
def sCmpL (o : Nat) (a b : SS → Option (Int64 × GG)) : SS → Option (Bool × GG) := fun σ => (a σ).bind fun q => (b (σ.1, σ.2.1, q.2)).map fun r => (ik_cmpL o q.1 r.1, r.2)
theorem okCmpL (o : Nat) (a b : JP sc) : ik_okC sc T F (fun lv d pc => match a.1.1 lv d pc with
    | none => false
    | some p1 => match b.1.1 lv (d + 2) p1 with
      | none => false
      | some p2 => match cOp sc.2.1 .lcmp p2 with
        | none => false
        | some p3 => cIf sc.2.1 o T F p3) (sCmpL o a.1.2 b.1.2) := by
  intro x hC lv d pc st σ v g' hc hd hs hk
  dsimp only at hc
  split at hc
  · cases hc
  · rename_i p1 h1
    split at hc
    · cases hc
    · rename_i p2 h2
      split at hc
      · cases hc
      · rename_i p3 h3
        obtain ⟨hdg3, rfl⟩ := cOp_ok h3
        unfold cIf at hc
        split at hc
        · rename_i c' off hdg
          simp only [sCmpL, Option.bind_eq_some_iff, Option.map_eq_some_iff] at hs
          obtain ⟨⟨v1, g1⟩, e1, ⟨v2, g2⟩, e2, e4⟩ := hs
          cases e4
          refine a.2 x hC lv d pc p1 st σ v1 g1 h1 hd e1 ?_
          refine b.2 x hC lv (d + 2) p1 p2 (.long v1 :: st) (σ.1, σ.2.1, g1) v2 g2 h2 (ik_cat_l hd) e2 ?_
          rw [← ik_lcmp] at hk
          obtain ⟨o', tgt, rfl, ht, hj⟩ := ik_jmp_ok hC hc hk
          obtain ⟨p, l, e, s, m, args, below, meth, c, ad, D, cA, A, v0, g0⟩ := x
          obtain ⟨hx, hb, hml, hown, hts, hns, hK, hD, hr, hlk⟩ := hC
          intro H locs ls hP hS hl
          exact W.lcmp hx hb hdg3 (ik_if_row hx hb hdg ht (hj H locs ls hP hS hl))
        · cases hc
def cCmpL (o : Nat) (a b : JP sc) : CP sc T F := ⟨(fun lv d pc => match a.1.1 lv d pc with
    | none => false
    | some p1 => match b.1.1 lv (d + 2) p1 with
      | none => false
      | some p2 => match cOp sc.2.1 .lcmp p2 with
        | none => false
        | some p3 => cIf sc.2.1 o T F p3, sCmpL o a.1.2 b.1.2), okCmpL o a b⟩
-- one and the other; one or the other; not so; of one of two
def sAnd (a b : SS → Option (Bool × GG)) : SS → Option (Bool × GG) := fun σ => (a σ).bind fun q => if q.1 = true then b (σ.1, σ.2.1, q.2) else some (false, q.2)
theorem okAnd (M : Nat) (a : CP sc M F) (b : CP sc T F) : ik_okC sc T F (fun lv d pc => a.1.1 lv d pc && b.1.1 lv d M) (sAnd a.1.2 b.1.2) := by
  intro x hC lv d pc st σ v g' hc hd hs hk
  simp only [Bool.and_eq_true] at hc
  simp only [sAnd, Option.bind_eq_some_iff] at hs
  obtain ⟨⟨v1, g1⟩, e1, e2⟩ := hs
  refine a.2 x hC lv d pc st σ v1 g1 hc.1 hd e1 ?_
  cases v1 with
  | true => exact b.2 x hC lv d M st (σ.1, σ.2.1, g1) v g' hc.2 hd e2 hk
  | false => cases e2; exact hk
def cAnd (M : Nat) (a : CP sc M F) (b : CP sc T F) : CP sc T F := ⟨(fun lv d pc => a.1.1 lv d pc && b.1.1 lv d M, sAnd a.1.2 b.1.2), okAnd M a b⟩
def sOr (a b : SS → Option (Bool × GG)) : SS → Option (Bool × GG) := fun σ => (a σ).bind fun q => if q.1 = true then some (true, q.2) else b (σ.1, σ.2.1, q.2)
theorem okOr (M : Nat) (a : CP sc T M) (b : CP sc T F) : ik_okC sc T F (fun lv d pc => a.1.1 lv d pc && b.1.1 lv d M) (sOr a.1.2 b.1.2) := by
  intro x hC lv d pc st σ v g' hc hd hs hk
  simp only [Bool.and_eq_true] at hc
  simp only [sOr, Option.bind_eq_some_iff] at hs
  obtain ⟨⟨v1, g1⟩, e1, e2⟩ := hs
  refine a.2 x hC lv d pc st σ v1 g1 hc.1 hd e1 ?_
  cases v1 with
  | false => exact b.2 x hC lv d M st (σ.1, σ.2.1, g1) v g' hc.2 hd e2 hk
  | true => cases e2; exact hk
def cOr (M : Nat) (a : CP sc T M) (b : CP sc T F) : CP sc T F := ⟨(fun lv d pc => a.1.1 lv d pc && b.1.1 lv d M, sOr a.1.2 b.1.2), okOr M a b⟩
def sNot (a : SS → Option (Bool × GG)) : SS → Option (Bool × GG) := fun σ => (a σ).map fun q => (!q.1, q.2)
theorem okNot (a : CP sc F T) : ik_okC sc T F (fun lv d pc => a.1.1 lv d pc) (sNot a.1.2) := by
  intro x hC lv d pc st σ v g' hc hd hs hk
  simp only [sNot, Option.map_eq_some_iff] at hs
  obtain ⟨⟨v1, g1⟩, e1, e2⟩ := hs
  cases e2
  refine a.2 x hC lv d pc st σ v1 g1 hc hd e1 ?_
  cases v1 <;> exact hk
def cNot (a : CP sc F T) : CP sc T F := ⟨(fun lv d pc => a.1.1 lv d pc, sNot a.1.2), okNot a⟩
def sIteC (c a b : SS → Option (Bool × GG)) : SS → Option (Bool × GG) := fun σ => (c σ).bind fun q => if q.1 = true then a (σ.1, σ.2.1, q.2) else b (σ.1, σ.2.1, q.2)
theorem okIteC (M1 M2 T1 : Nat) (c : CP sc M1 M2) (a : CP sc T1 F) (b : CP sc T F) : ik_okC sc T F (fun lv d pc => c.1.1 lv d pc && (a.1.1 lv d M1 && (b.1.1 lv d M2 && ik_reach sc.2.1 3 T1 T))) (sIteC c.1.2 a.1.2 b.1.2) := by
  intro x hC lv d pc st σ v g' hc hd hs hk
  simp only [Bool.and_eq_true] at hc
  simp only [sIteC, Option.bind_eq_some_iff] at hs
  obtain ⟨⟨v1, g1⟩, e1, e2⟩ := hs
  refine c.2 x hC lv d pc st σ v1 g1 hc.1 hd e1 ?_
  cases v1 with
  | true =>
    refine a.2 x hC lv d M1 st (σ.1, σ.2.1, g1) v g' hc.2.1 hd e2 ?_
    cases v with
    | true => exact ik_reach_ok hC hk 3 T1 hc.2.2.2
    | false => exact hk
  | false => exact b.2 x hC lv d M2 st (σ.1, σ.2.1, g1) v g' hc.2.2.1 hd e2 hk
def cIteC (M1 M2 T1 : Nat) (c : CP sc M1 M2) (a : CP sc T1 F) (b : CP sc T F) : CP sc T F := ⟨(fun lv d pc => c.1.1 lv d pc && (a.1.1 lv d M1 && (b.1.1 lv d M2 && ik_reach sc.2.1 3 T1 T)), sIteC c.1.2 a.1.2 b.1.2), okIteC M1 M2 T1 c a b⟩
-- of two ints one, by a condition; of two longs
def ik_cnd (cc : ByteArray) (c : Bool) (a b : Option Nat) (E : Nat) : Option Nat := match c, a, b with
  | true, some e1, some e2 => if ik_reach cc 3 e1 E = true ∧ ik_reach cc 3 e2 E = true then some E else none
  | _, _, _ => none
theorem ik_cnd_ok {cc : ByteArray} {c : Bool} {a b : Option Nat} {E p : Nat} (h : ik_cnd cc c a b E = some p) : ∃ e1 e2, c = true ∧ a = some e1 ∧ b = some e2 ∧ ik_reach cc 3 e1 E = true ∧ ik_reach cc 3 e2 E = true ∧ p = E := by
  unfold ik_cnd at h
  split at h
  · split at h
    · rename_i e1 e2 h2
      cases h
      exact ⟨e1, e2, rfl, rfl, rfl, h2.1, h2.2, rfl⟩
    · cases h
  · cases h
def sIte (c : SS → Option (Bool × GG)) (a b : SS → Option (Int32 × GG)) : SS → Option (Int32 × GG) := fun σ => (c σ).bind fun q => if q.1 = true then a (σ.1, σ.2.1, q.2) else b (σ.1, σ.2.1, q.2)
theorem okIte (M1 M2 E : Nat) (c : CP sc M1 M2) (a b : EP sc) : ik_okE sc (fun lv d pc => ik_cnd sc.2.1 (c.1.1 lv d pc) (a.1.1 lv d M1) (b.1.1 lv d M2) E) (sIte c.1.2 a.1.2 b.1.2) := by
  intro x hC lv d pc pc' st σ v g' hc hd hs hk
  obtain ⟨p1, p2, h1, h2, h3, h4, h5, rfl⟩ := ik_cnd_ok hc
  simp only [sIte, Option.bind_eq_some_iff] at hs
  obtain ⟨⟨v1, g1⟩, e1, e2⟩ := hs
  refine c.2 x hC lv d pc st σ v1 g1 h1 hd e1 ?_
  cases v1 with
  | true => exact a.2 x hC lv d M1 p1 st (σ.1, σ.2.1, g1) v g' h2 hd e2 (ik_reach_ok hC hk 3 p1 h4)
  | false => exact b.2 x hC lv d M2 p2 st (σ.1, σ.2.1, g1) v g' h3 hd e2 (ik_reach_ok hC hk 3 p2 h5)
def eIte (M1 M2 E : Nat) (c : CP sc M1 M2) (a b : EP sc) : EP sc := ⟨(fun lv d pc => ik_cnd sc.2.1 (c.1.1 lv d pc) (a.1.1 lv d M1) (b.1.1 lv d M2) E, sIte c.1.2 a.1.2 b.1.2), okIte M1 M2 E c a b⟩
def sIteL (c : SS → Option (Bool × GG)) (a b : SS → Option (Int64 × GG)) : SS → Option (Int64 × GG) := fun σ => (c σ).bind fun q => if q.1 = true then a (σ.1, σ.2.1, q.2) else b (σ.1, σ.2.1, q.2)
theorem okIteL (M1 M2 E : Nat) (c : CP sc M1 M2) (a b : JP sc) : ik_okL sc (fun lv d pc => ik_cnd sc.2.1 (c.1.1 lv d pc) (a.1.1 lv d M1) (b.1.1 lv d M2) E) (sIteL c.1.2 a.1.2 b.1.2) := by
  intro x hC lv d pc pc' st σ v g' hc hd hs hk
  obtain ⟨p1, p2, h1, h2, h3, h4, h5, rfl⟩ := ik_cnd_ok hc
  simp only [sIteL, Option.bind_eq_some_iff] at hs
  obtain ⟨⟨v1, g1⟩, e1, e2⟩ := hs
  refine c.2 x hC lv d pc st σ v1 g1 h1 hd e1 ?_
  cases v1 with
  | true => exact a.2 x hC lv d M1 p1 st (σ.1, σ.2.1, g1) v g' h2 hd e2 (ik_reach_ok hC hk 3 p1 h4)
  | false => exact b.2 x hC lv d M2 p2 st (σ.1, σ.2.1, g1) v g' h3 hd e2 (ik_reach_ok hC hk 3 p2 h5)
def lIte (M1 M2 E : Nat) (c : CP sc M1 M2) (a b : JP sc) : JP sc := ⟨(fun lv d pc => ik_cnd sc.2.1 (c.1.1 lv d pc) (a.1.1 lv d M1) (b.1.1 lv d M2) E, sIteL c.1.2 a.1.2 b.1.2), okIteL M1 M2 E c a b⟩
end CX
end
section
abbrev ST : Type := SS → Option (SS ⊕ (Value × GG))
def ik_res (x : ik_DX) : Value × GG := x.2.2.2.2.2.2.2.2.2.2.2.2.2
def ik_okS (sc : ik_SC) (chk : ik_LV → Nat → Option (ik_LV × Nat)) (sem : ST) : Prop :=
  ∀ (x : ik_DX), ik_Cx sc x → ∀ (lv : ik_LV) (pc : Nat) (lv' : ik_LV) (pc' : Nat) (σ : SS) (o : SS ⊕ (Value × GG)), chk lv pc = some (lv', pc') → sem σ = some o → (∀ σ', o = .inl σ' → ik_Go sc x lv' pc' [] σ') → (∀ r, o = .inr r → ik_res x = r) → ik_Go sc x lv pc [] σ
abbrev SP (sc : ik_SC) : Type := { q : (ik_LV → Nat → Option (ik_LV × Nat)) × ST // ik_okS sc q.1 q.2 }
theorem ik_cat_0 : ik_cat [] ≤ 0 := Nat.le_refl 0
-- locals that a store leaves
def ik_set1 (k : Nat) (lv : ik_LV) : ik_LV := (k, 0) :: lv.filter (fun q => !(q.1 == k) && !(q.1 + 1 == k && q.2 == 1))
def ik_set2 (k : Nat) (lv : ik_LV) : ik_LV := (k, 1) :: lv.filter (fun q => !(q.1 == k) && (!(q.1 == k + 1) && !(q.1 + 1 == k && q.2 == 1)))
theorem ik_lv_set1 {ad : Nat → Nat} {rl lv : ik_LV} {σ : SS} {ls : Array Slot} {n k : Nat} {x : Int32} {g : GG} (hr : rl.all (fun q => !(q.1 == k)) = true) (hl : lv_has ls n ((k, Value.int x) :: (ik_lv ad rl lv σ).filter (fun q => !(q.1 == k) && !(q.1 + 1 == k && q.2.category == 2)))) : lv_has ls n (ik_lv ad rl (ik_set1 k lv) (upd σ.1 k x, σ.2.1, g)) := by
  refine ⟨hl.1, hl.2.1, fun q hq => hl.2.2 q ?_⟩
  simp only [ik_lv, List.mem_append, List.mem_map] at hq
  rcases hq with ⟨a, ha, rfl⟩ | ⟨a, ha, rfl⟩
  · have h1 := List.all_eq_true.mp hr a ha
    refine List.mem_cons_of_mem _ (List.mem_filter.mpr ⟨List.mem_append_left _ (List.mem_map.mpr ⟨a, ha, rfl⟩), ?_⟩)
    simp only [Bool.not_eq_true', beq_eq_false_iff_ne, ne_eq] at h1
    simp [h1, Value.category]
  · rcases List.mem_cons.mp ha with rfl | ha
    · simp [upd]
    · obtain ⟨h1, h2⟩ := List.mem_filter.mp ha
      simp only [Bool.and_eq_true, Bool.not_eq_true', beq_eq_false_iff_ne, ne_eq, Bool.and_eq_false_iff] at h2
      refine List.mem_cons_of_mem _ (List.mem_filter.mpr ⟨List.mem_append_right _ (List.mem_map.mpr ⟨a, h1, ?_⟩), ?_⟩)
      · simp [upd, h2.1]
      · rcases h2.2 with h3 | h3
        · simp [h2.1, h3]
        · simp [h2.1, h3, Value.category]
theorem ik_lv_set2 {ad : Nat → Nat} {rl lv : ik_LV} {σ : SS} {ls : Array Slot} {n k : Nat} {x : Int64} {g : GG} (hr : rl.all (fun q => !(q.1 == k) && !(q.1 == k + 1)) = true) (hl : lv_has ls n ((k, Value.long x) :: (ik_lv ad rl lv σ).filter (fun q => !(q.1 == k) && (!(q.1 == k + 1) && !(q.1 + 1 == k && q.2.category == 2))))) : lv_has ls n (ik_lv ad rl (ik_set2 k lv) (σ.1, vp_updL σ.2.1 k x, g)) := by
  refine ⟨hl.1, hl.2.1, fun q hq => hl.2.2 q ?_⟩
  simp only [ik_lv, List.mem_append, List.mem_map] at hq
  rcases hq with ⟨a, ha, rfl⟩ | ⟨a, ha, rfl⟩
  · have h1 := List.all_eq_true.mp hr a ha
    refine List.mem_cons_of_mem _ (List.mem_filter.mpr ⟨List.mem_append_left _ (List.mem_map.mpr ⟨a, ha, rfl⟩), ?_⟩)
    simp only [Bool.and_eq_true, Bool.not_eq_true', beq_eq_false_iff_ne, ne_eq] at h1
    simp [h1.1, h1.2, Value.category]
  · rcases List.mem_cons.mp ha with rfl | ha
    · simp [vp_updL]
    · obtain ⟨h1, h2⟩ := List.mem_filter.mp ha
      simp only [Bool.and_eq_true, Bool.not_eq_true', beq_eq_false_iff_ne, ne_eq, Bool.and_eq_false_iff] at h2
      refine List.mem_cons_of_mem _ (List.mem_filter.mpr ⟨List.mem_append_right _ (List.mem_map.mpr ⟨a, h1, ?_⟩), ?_⟩)
      · simp [vp_updL, h2.1]
      · rcases h2.2.2 with h3 | h3
        · simp [h2.1, h2.2.1, h3]
        · simp [h2.1, h2.2.1, h3, Value.category]
section SX
variable {sc : ik_SC}
def sSkip : ST := fun σ => some (.inl σ)
theorem okSkip : ik_okS sc (fun lv pc => some (lv, pc)) sSkip := by
  intro x hC lv pc lv' pc' σ o hc hs hk hr
  cases hc
  cases hs
  exact hk _ rfl
def pSkip : SP sc := ⟨(fun lv pc => some (lv, pc), sSkip), okSkip⟩
def sSeq (a b : ST) : ST := fun σ => (a σ).bind fun o => match o with
  | .inl σ' => b σ'
  | .inr r => some (.inr r)
theorem okSeq (a b : SP sc) : ik_okS sc (fun lv pc => (a.1.1 lv pc).bind fun q => b.1.1 q.1 q.2) (sSeq a.1.2 b.1.2) := by
  intro x hC lv pc lv' pc' σ o hc hs hk hr
  simp only [Option.bind_eq_some_iff] at hc
  obtain ⟨⟨lv1, p1⟩, h1, h2⟩ := hc
  simp only [sSeq, Option.bind_eq_some_iff] at hs
  obtain ⟨o1, e1, e2⟩ := hs
  refine a.2 x hC lv pc lv1 p1 σ o1 h1 e1 (fun σ' he => ?_) (fun r he => ?_)
  · subst he
    exact b.2 x hC lv1 p1 lv' pc' σ' o h2 e2 hk hr
  · subst he
    cases e2
    exact hr r rfl
def pSeq (a b : SP sc) : SP sc := ⟨(fun lv pc => (a.1.1 lv pc).bind fun q => b.1.1 q.1 q.2, sSeq a.1.2 b.1.2), okSeq a b⟩
-- a local set
def cIst (cc : ByteArray) (k pc : Nat) : Option Nat := match decode cc pc with
  | .ok (.istore_n n, 1) => if (n : Nat) = k then some (pc + 1) else none
  | .ok (.istore n, 2) => if n = k then some (pc + 2) else none
  | _ => none
def sSet (k : Nat) (e : SS → Option (Int32 × GG)) : ST := fun σ => (e σ).map fun q => .inl (upd σ.1 k q.1, σ.2.1, q.2)
theorem okSet (k : Nat) (e : EP sc) : ik_okS sc (fun lv pc => (e.1.1 lv 0 pc).bind fun p1 => if sc.2.2.2.2.1.all (fun q => !(q.1 == k)) = true ∧ k < sc.2.2.1 then (cIst sc.2.1 k p1).map fun p2 => (ik_set1 k lv, p2) else none) (sSet k e.1.2) := by
  intro x hC lv pc lv' pc' σ o hc hs hk hr
  simp only [Option.bind_eq_some_iff] at hc
  obtain ⟨p1, h1, h2⟩ := hc
  split at h2
  · rename_i hcond
    simp only [Option.map_eq_some_iff] at h2
    obtain ⟨p2, h3, h4⟩ := h2
    cases h4
    simp only [sSet, Option.map_eq_some_iff] at hs
    obtain ⟨⟨v1, g1⟩, e1, e4⟩ := hs
    have hk := hk _ e4.symm
    refine e.2 x hC lv 0 pc p1 [] σ v1 g1 h1 ik_cat_0 e1 ?_
    obtain ⟨p, l, e, s, m, args, below, meth, c, ad, D, cA, A, v0, g0⟩ := x
    obtain ⟨hx, hb, hml, hown, hts, hns, hK, hD, hr, hlk⟩ := hC
    intro H locs ls hP hS hl
    unfold cIst at h3
    split at h3
    · rename_i n hdg
      split at h3
      · rename_i he
        cases h3
        exact lv_istore_n hx hb hdg he hl hcond.2 rfl (fun ls' hl' => hk H locs ls' hP hS (ik_lv_set1 hcond.1 hl'))
      · cases h3
    · rename_i n hdg
      split at h3
      · rename_i he
        subst he
        cases h3
        exact lv_istore hx hb hdg hl hcond.2 rfl (fun ls' hl' => hk H locs ls' hP hS (ik_lv_set1 hcond.1 hl'))
      · cases h3
    · cases h3
  · cases h2
def pSet (k : Nat) (e : EP sc) : SP sc := ⟨(fun lv pc => (e.1.1 lv 0 pc).bind fun p1 => if sc.2.2.2.2.1.all (fun q => !(q.1 == k)) = true ∧ k < sc.2.2.1 then (cIst sc.2.1 k p1).map fun p2 => (ik_set1 k lv, p2) else none, sSet k e.1.2), okSet k e⟩
def cLst (cc : ByteArray) (k pc : Nat) : Option Nat := match decode cc pc with
  | .ok (.lstore_n n, 1) => if (n : Nat) = k then some (pc + 1) else none
  | .ok (.lstore n, 2) => if n = k then some (pc + 2) else none
  | _ => none
def sSetL (k : Nat) (e : SS → Option (Int64 × GG)) : ST := fun σ => (e σ).map fun q => .inl (σ.1, vp_updL σ.2.1 k q.1, q.2)
theorem okSetL (k : Nat) (e : JP sc) : ik_okS sc (fun lv pc => (e.1.1 lv 0 pc).bind fun p1 => if sc.2.2.2.2.1.all (fun q => !(q.1 == k) && !(q.1 == k + 1)) = true ∧ k + 1 < sc.2.2.1 then (cLst sc.2.1 k p1).map fun p2 => (ik_set2 k lv, p2) else none) (sSetL k e.1.2) := by
  intro x hC lv pc lv' pc' σ o hc hs hk hr
  simp only [Option.bind_eq_some_iff] at hc
  obtain ⟨p1, h1, h2⟩ := hc
  split at h2
  · rename_i hcond
    simp only [Option.map_eq_some_iff] at h2
    obtain ⟨p2, h3, h4⟩ := h2
    cases h4
    simp only [sSetL, Option.map_eq_some_iff] at hs
    obtain ⟨⟨v1, g1⟩, e1, e4⟩ := hs
    have hk := hk _ e4.symm
    refine e.2 x hC lv 0 pc p1 [] σ v1 g1 h1 ik_cat_0 e1 ?_
    obtain ⟨p, l, e, s, m, args, below, meth, c, ad, D, cA, A, v0, g0⟩ := x
    obtain ⟨hx, hb, hml, hown, hts, hns, hK, hD, hr, hlk⟩ := hC
    intro H locs ls hP hS hl
    unfold cLst at h3
    split at h3
    · rename_i n hdg
      split at h3
      · rename_i he
        cases h3
        exact lv_lstore_n hx hb hdg he hl hcond.2 rfl (fun ls' hl' => hk H locs ls' hP hS (ik_lv_set2 hcond.1 hl'))
      · cases h3
    · rename_i n hdg
      split at h3
      · rename_i he
        subst he
        cases h3
        exact lv_lstore hx hb hdg hl hcond.2 rfl (fun ls' hl' => hk H locs ls' hP hS (ik_lv_set2 hcond.1 hl'))
      · cases h3
    · cases h3
  · cases h2
def pSetL (k : Nat) (e : JP sc) : SP sc := ⟨(fun lv pc => (e.1.1 lv 0 pc).bind fun p1 => if sc.2.2.2.2.1.all (fun q => !(q.1 == k) && !(q.1 == k + 1)) = true ∧ k + 1 < sc.2.2.1 then (cLst sc.2.1 k p1).map fun p2 => (ik_set2 k lv, p2) else none, sSetL k e.1.2), okSetL k e⟩
def sInc (k : Nat) (v : Int32) : ST := fun σ => some (.inl (upd σ.1 k (σ.1 k + v), σ.2.1, σ.2.2))
def cInc (cc : ByteArray) (k : Nat) (v : Int32) (pc : Nat) : Option Nat := match decode cc pc with
  | .ok (.iinc i n, 3) => if i = k ∧ Int32.ofInt n = v then some (pc + 3) else none
  | _ => none
theorem okInc (k : Nat) (v : Int32) : ik_okS sc (fun lv pc => if sc.2.2.2.2.1.all (fun q => !(q.1 == k)) = true ∧ k < sc.2.2.1 ∧ (k, 0) ∈ lv then (cInc sc.2.1 k v pc).map fun p2 => (ik_set1 k lv, p2) else none) (sInc k v) := by
  intro x hC lv pc lv' pc' σ o hc hs hk hr
  dsimp only at hc
  split at hc
  · rename_i hcond
    simp only [Option.map_eq_some_iff] at hc
    obtain ⟨p2, h3, h4⟩ := hc
    cases h4
    cases hs
    have hk := hk _ rfl
    obtain ⟨p, l, e, s, m, args, below, meth, c, ad, D, cA, A, v0, g0⟩ := x
    obtain ⟨hx, hb, hml, hown, hts, hns, hK, hD, hr, hlk⟩ := hC
    intro H locs ls hP hS hl
    unfold cInc at h3
    split at h3
    · rename_i i n hdg
      split at h3
      · rename_i he
        obtain ⟨rfl, rfl⟩ := he
        cases h3
        have hm : (i, Value.int (σ.1 i)) ∈ ik_lv ad sc.2.2.2.2.1 lv σ := List.mem_append_right _ (List.mem_map.mpr ⟨(i, 0), hcond.2.2, rfl⟩)
        obtain ⟨kk, hkk⟩ := List.getElem?_of_mem hm
        exact lv_iinc hx hb hdg hl hkk rfl hcond.2.1 rfl (fun ls' hl' => hk H locs ls' hP hS (ik_lv_set1 hcond.1 hl'))
      · cases h3
    · cases h3
  · cases hc
def pInc (k : Nat) (v : Int32) : SP sc := ⟨(fun lv pc => if sc.2.2.2.2.1.all (fun q => !(q.1 == k)) = true ∧ k < sc.2.2.1 ∧ (k, 0) ∈ lv then (cInc sc.2.1 k v pc).map fun p2 => (ik_set1 k lv, p2) else none, sInc k v), okInc k v⟩
-- one of two, by a condition
def ik_meet (lv lv1 lv2 : ik_LV) : ik_LV := lv1.filter (fun q => decide (q ∈ lv2))
def ik_cif (cc : ByteArray) (c : Bool) (a b : Option (ik_LV × Nat)) (E : Nat) : Option (ik_LV × Nat) := match c, a, b with
  | true, some q1, some q2 => if ik_reach cc 3 q1.2 E = true ∧ ik_reach cc 3 q2.2 E = true then some (q1.1.filter (fun q => decide (q ∈ q2.1)), E) else none
  | _, _, _ => none
theorem ik_cif_ok {cc : ByteArray} {c : Bool} {a b : Option (ik_LV × Nat)} {E : Nat} {r : ik_LV × Nat} (h : ik_cif cc c a b E = some r) : ∃ q1 q2, c = true ∧ a = some q1 ∧ b = some q2 ∧ ik_reach cc 3 q1.2 E = true ∧ ik_reach cc 3 q2.2 E = true ∧ r = (q1.1.filter (fun q => decide (q ∈ q2.1)), E) := by
  unfold ik_cif at h
  split at h
  · split at h
    · rename_i q1 q2 h2
      cases h
      exact ⟨q1, q2, rfl, rfl, rfl, h2.1, h2.2, rfl⟩
    · cases h
  · cases h
def sIf (c : SS → Option (Bool × GG)) (a b : ST) : ST := fun σ => (c σ).bind fun q => if q.1 = true then a (σ.1, σ.2.1, q.2) else b (σ.1, σ.2.1, q.2)
theorem okIf (T F E : Nat) (c : CP sc T F) (a b : SP sc) : ik_okS sc (fun lv pc => ik_cif sc.2.1 (c.1.1 lv 0 pc) (a.1.1 lv T) (b.1.1 lv F) E) (sIf c.1.2 a.1.2 b.1.2) := by
  intro x hC lv pc lv' pc' σ o hc hs hk hr
  obtain ⟨q1, q2, h1, h2, h3, h4, h5, h6⟩ := ik_cif_ok hc
  cases h6
  simp only [sIf, Option.bind_eq_some_iff] at hs
  obtain ⟨⟨v1, g1⟩, e1, e2⟩ := hs
  refine c.2 x hC lv 0 pc [] σ v1 g1 h1 ik_cat_0 e1 ?_
  cases v1 with
  | true => exact a.2 x hC lv T q1.1 q1.2 (σ.1, σ.2.1, g1) o h2 e2 (fun σ' he => ik_reach_ok hC (ik_Go_sub (fun q hq => (List.mem_filter.mp hq).1) (hk σ' he)) 3 q1.2 h4) hr
  | false => exact b.2 x hC lv F q2.1 q2.2 (σ.1, σ.2.1, g1) o h3 e2 (fun σ' he => ik_reach_ok hC (ik_Go_sub (fun q hq => of_decide_eq_true (List.mem_filter.mp hq).2) (hk σ' he)) 3 q2.2 h5) hr
def pIf (T F E : Nat) (c : CP sc T F) (a b : SP sc) : SP sc := ⟨(fun lv pc => ik_cif sc.2.1 (c.1.1 lv 0 pc) (a.1.1 lv T) (b.1.1 lv F) E, sIf c.1.2 a.1.2 b.1.2), okIf T F E c a b⟩
-- while: at most n times
def sWh (c : SS → Option (Bool × GG)) (b : ST) : Nat → ST
  | 0, _ => none
  | n + 1, σ => (c σ).bind fun q => if q.1 = true then (b (σ.1, σ.2.1, q.2)).bind (fun o => match o with
      | .inl σ' => sWh c b n σ'
      | .inr r => some (.inr r)) else some (.inl (σ.1, σ.2.1, q.2))
def ik_fuel : Nat := 1000000
def ik_cwh (cc : ByteArray) (c : Bool) (lv : ik_LV) (b : Option (ik_LV × Nat)) (pc F E : Nat) : Option (ik_LV × Nat) := match c, b with
  | true, some q1 => if ik_reach cc 3 q1.2 pc = true ∧ ik_reach cc 3 F E = true ∧ lv.all (fun q => decide (q ∈ q1.1)) = true then some (lv, E) else none
  | _, _ => none
theorem ik_cwh_ok {cc : ByteArray} {c : Bool} {lv : ik_LV} {b : Option (ik_LV × Nat)} {pc F E : Nat} {r : ik_LV × Nat} (h : ik_cwh cc c lv b pc F E = some r) : ∃ q1, c = true ∧ b = some q1 ∧ ik_reach cc 3 q1.2 pc = true ∧ ik_reach cc 3 F E = true ∧ (∀ q ∈ lv, q ∈ q1.1) ∧ r = (lv, E) := by
  unfold ik_cwh at h
  split at h
  · split at h
    · rename_i q1 h2
      cases h
      exact ⟨q1, rfl, rfl, h2.1, h2.2.1, fun q hq => of_decide_eq_true (List.all_eq_true.mp h2.2.2 q hq), rfl⟩
    · cases h
  · cases h
theorem okWh (T F E : Nat) (c : CP sc T F) (b : SP sc) (n : Nat) : ik_okS sc (fun lv pc => ik_cwh sc.2.1 (c.1.1 lv 0 pc) lv (b.1.1 lv T) pc F E) (sWh c.1.2 b.1.2 n) := by
  intro x hC lv pc lv' pc' σ o hc
  obtain ⟨q1, h1, h2, h3, h4, h5, h6⟩ := ik_cwh_ok hc
  cases h6
  induction n generalizing σ with
  | zero => intro hs; cases hs
  | succ n ih =>
    intro hs hk hr
    simp only [sWh, Option.bind_eq_some_iff] at hs
    obtain ⟨⟨v1, g1⟩, e1, e2⟩ := hs
    refine c.2 x hC lv 0 pc [] σ v1 g1 h1 ik_cat_0 e1 ?_
    cases v1 with
    | true =>
      simp only [if_true, Option.bind_eq_some_iff] at e2
      obtain ⟨o1, e3, e4⟩ := e2
      refine b.2 x hC lv T q1.1 q1.2 (σ.1, σ.2.1, g1) o1 h2 e3 (fun σ' he => ?_) (fun r he => ?_)
      · subst he
        exact ik_reach_ok hC (ik_Go_sub h5 (ih σ' e4 hk hr)) 3 q1.2 h3
      · subst he
        cases e4
        exact hr r rfl
    | false =>
      simp only [Bool.false_eq_true, if_false] at e2
      cases e2
      exact ik_reach_ok hC (hk _ rfl) 3 F h4
def pWh (T F E : Nat) (c : CP sc T F) (b : SP sc) : SP sc := ⟨(fun lv pc => ik_cwh sc.2.1 (c.1.1 lv 0 pc) lv (b.1.1 lv T) pc F E, sWh c.1.2 b.1.2 ik_fuel), okWh T F E c b ik_fuel⟩
end SX
end
section
section SY
variable {sc : ik_SC}
-- a field written
def ik_bz (t : Nat) (x : Int32) : Bool := !(t == 3) || (decide (x = 0) || decide (x = 1))
theorem ik_bz_ok {t : Nat} {x : Int32} (h : ik_bz t x = true) (ht : t = 0 ∨ t = 3) : narrow (ik_ty t) (.int x) = .int x ∧ fits (ik_ty t) (.int x) = true := by
  rcases ht with rfl | rfl
  · exact ⟨rfl, rfl⟩
  · simp only [ik_bz, Bool.or_eq_true, decide_eq_true_eq] at h
    rcases h with h | h | h
    · exact absurd h (by decide)
    · subst h; exact ⟨rfl, rfl⟩
    · subst h; exact ⟨rfl, rfl⟩
def cPut (cc : ByteArray) (idx pc : Nat) : Option Nat := match decode cc pc with
  | .ok (.putfield i, 3) => if i = idx then some (pc + 3) else none
  | _ => none
theorem cPut_ok {cc : ByteArray} {idx pc pc' : Nat} (h : cPut cc idx pc = some pc') : decode cc pc = .ok (.putfield idx, 3) ∧ pc' = pc + 3 := by
  unfold cPut at h
  split at h
  · rename_i j hdg
    split at h
    · rename_i he
      subst he
      cases h
      exact ⟨hdg, rfl⟩
    · cases h
  · cases h
theorem ik_put_row {x : ik_DX} (hC : ik_Cx sc x) {lv : ik_LV} {pc o ci k t idx : Nat} {st : List Value} {σ : SS} {v : Int32} (hF : ik_FW sc.2.2.2.1 idx ci k t) (hi : ik_isF sc.1 o ci k (.inl t) = true) (ht : t = 0 ∨ t = 3) (hv : ik_bz t v = true) (hdg : decode sc.2.1 pc = .ok (.putfield idx, 3)) (hk : ik_Go sc x lv (pc + 3) st (σ.1, σ.2.1, ik_si σ.2.2 o k v)) : ik_Go sc x lv pc (.int v :: .ref (ik_xad x o) :: st) σ := by
  obtain ⟨p, l, e, s, m, args, below, meth, c, ad, D, cA, A, v0, g0⟩ := x
  obtain ⟨hx, hb, hml, hown, hts, hns, hK, hD, hr, hlk⟩ := hC
  obtain ⟨C, T, N, ty, h1, h2, h3, h4, h5, h6, h7, h8, h9⟩ := hF
  obtain ⟨fds, hw, hf⟩ := ik_isF_ok hi
  obtain ⟨n1, n2⟩ := ik_bz_ok hv ht
  intro H locs ls hP hS hl
  refine va_put (D := D) (ci := ci) (C := C) (T := T) (N := N) (ref := C) (fs := ik_fv ad σ.2.2 o 0 fds) hx hb hts (ik_gd_lays h3) ty h4 h5 hown hK hP (hD σ.2.2) hS o (by rw [ik_w_at, hw]; rfl) h1 k h2 (hts _ (ik_gd h7 rfl)) (fun y hy => by rw [h6] at hy; exact hy) h8 (ty := ik_ty t) (by rw [h4 k h2, h9]) n1 n2 (by rw [ik_fv_len]; exact (List.getElem?_eq_some_iff.mp hf).1) hdg (fun H1 locs1 hP1 hD1 hS1 => ?_)
  have e := ik_w_si_obj (ad := ad) (cA := cA) (g := σ.2.2) (x := v) hw hf (by omega)
  exact hk H1 locs1 ls (by rw [← e]; exact hP1) hS1 hl
theorem ik_putL_row {x : ik_DX} (hC : ik_Cx sc x) {lv : ik_LV} {pc o ci k idx : Nat} {st : List Value} {σ : SS} {v : Int64} (hF : ik_FW sc.2.2.2.1 idx ci k 1) (hi : ik_isF sc.1 o ci k (.inl 1) = true) (hdg : decode sc.2.1 pc = .ok (.putfield idx, 3)) (hk : ik_Go sc x lv (pc + 3) st (σ.1, σ.2.1, ik_sl σ.2.2 o k v)) : ik_Go sc x lv pc (.long v :: .ref (ik_xad x o) :: st) σ := by
  obtain ⟨p, l, e, s, m, args, below, meth, c, ad, D, cA, A, v0, g0⟩ := x
  obtain ⟨hx, hb, hml, hown, hts, hns, hK, hD, hr, hlk⟩ := hC
  obtain ⟨C, T, N, ty, h1, h2, h3, h4, h5, h6, h7, h8, h9⟩ := hF
  obtain ⟨fds, hw, hf⟩ := ik_isF_ok hi
  intro H locs ls hP hS hl
  refine va_put (D := D) (ci := ci) (C := C) (T := T) (N := N) (ref := C) (fs := ik_fv ad σ.2.2 o 0 fds) hx hb hts (ik_gd_lays h3) ty h4 h5 hown hK hP (hD σ.2.2) hS o (by rw [ik_w_at, hw]; rfl) h1 k h2 (hts _ (ik_gd h7 rfl)) (fun y hy => by rw [h6] at hy; exact hy) h8 (ty := ik_ty 1) (by rw [h4 k h2, h9]) rfl rfl (by rw [ik_fv_len]; exact (List.getElem?_eq_some_iff.mp hf).1) hdg (fun H1 locs1 hP1 hD1 hS1 => ?_)
  have e := ik_w_sl_obj (ad := ad) (cA := cA) (g := σ.2.2) (x := v) hw hf
  exact hk H1 locs1 ls (by rw [← e]; exact hP1) hS1 hl
def sPut (o k t : Nat) (e : SS → Option (Int32 × GG)) : ST := fun σ => (e σ).bind fun q => if ik_bz t q.1 = true then some (.inl (σ.1, σ.2.1, ik_si q.2 o k q.1)) else none
theorem okPut {o : Nat} (r : RP sc o) (idx ci k t : Nat) (hF : ik_FW sc.2.2.2.1 idx ci k t) (e : EP sc) : ik_okS sc (fun lv pc => (r.1 lv 0 pc).bind fun p1 => (e.1.1 lv 1 p1).bind fun p2 => if ik_isF sc.1 o ci k (.inl t) = true ∧ (t = 0 ∨ t = 3) then (cPut sc.2.1 idx p2).map fun p3 => (lv, p3) else none) (sPut o k t e.1.2) := by
  intro x hC lv pc lv' pc' σ o1 hc hs hk hr
  simp only [Option.bind_eq_some_iff] at hc
  obtain ⟨p1, h1, p2, h2, h3⟩ := hc
  split at h3
  · rename_i hi
    simp only [Option.map_eq_some_iff] at h3
    obtain ⟨p3, h4, h5⟩ := h3
    cases h5
    obtain ⟨hdg, rfl⟩ := cPut_ok h4
    simp only [sPut, Option.bind_eq_some_iff] at hs
    obtain ⟨⟨v1, g1⟩, e1, e2⟩ := hs
    split at e2
    · rename_i hb
      cases e2
      refine r.2 x hC lv 0 pc p1 [] σ h1 ?_
      refine e.2 x hC lv 1 p1 p2 _ σ v1 g1 h2 (ik_cat_r ik_cat_0) e1 ?_
      exact ik_put_row hC hF hi.1 hi.2 hb hdg (hk _ rfl)
    · cases e2
  · cases h3
def pPut {o : Nat} (r : RP sc o) (idx ci k t : Nat) (hF : ik_FW sc.2.2.2.1 idx ci k t) (e : EP sc) : SP sc := ⟨(fun lv pc => (r.1 lv 0 pc).bind fun p1 => (e.1.1 lv 1 p1).bind fun p2 => if ik_isF sc.1 o ci k (.inl t) = true ∧ (t = 0 ∨ t = 3) then (cPut sc.2.1 idx p2).map fun p3 => (lv, p3) else none, sPut o k t e.1.2), okPut r idx ci k t hF e⟩
def sPutL (o k : Nat) (e : SS → Option (Int64 × GG)) : ST := fun σ => (e σ).map fun q => .inl (σ.1, σ.2.1, ik_sl q.2 o k q.1)
theorem okPutL {o : Nat} (r : RP sc o) (idx ci k : Nat) (hF : ik_FW sc.2.2.2.1 idx ci k 1) (e : JP sc) : ik_okS sc (fun lv pc => (r.1 lv 0 pc).bind fun p1 => (e.1.1 lv 1 p1).bind fun p2 => if ik_isF sc.1 o ci k (.inl 1) = true then (cPut sc.2.1 idx p2).map fun p3 => (lv, p3) else none) (sPutL o k e.1.2) := by
  intro x hC lv pc lv' pc' σ o1 hc hs hk hr
  simp only [Option.bind_eq_some_iff] at hc
  obtain ⟨p1, h1, p2, h2, h3⟩ := hc
  split at h3
  · rename_i hi
    simp only [Option.map_eq_some_iff] at h3
    obtain ⟨p3, h4, h5⟩ := h3
    cases h5
    obtain ⟨hdg, rfl⟩ := cPut_ok h4
    simp only [sPutL, Option.map_eq_some_iff] at hs
    obtain ⟨⟨v1, g1⟩, e1, e2⟩ := hs
    cases e2
    refine r.2 x hC lv 0 pc p1 [] σ h1 ?_
    refine e.2 x hC lv 1 p1 p2 _ σ v1 g1 h2 (ik_cat_r ik_cat_0) e1 ?_
    exact ik_putL_row hC hF hi hdg (hk _ rfl)
  · cases h3
def pPutL {o : Nat} (r : RP sc o) (idx ci k : Nat) (hF : ik_FW sc.2.2.2.1 idx ci k 1) (e : JP sc) : SP sc := ⟨(fun lv pc => (r.1 lv 0 pc).bind fun p1 => (e.1.1 lv 1 p1).bind fun p2 => if ik_isF sc.1 o ci k (.inl 1) = true then (cPut sc.2.1 idx p2).map fun p3 => (lv, p3) else none, sPutL o k e.1.2), okPutL r idx ci k hF e⟩
-- a field changed in place: r; dup; getfield; e; op; putfield
theorem ik_dup_row {x : ik_DX} (hC : ik_Cx sc x) {lv : ik_LV} {pc : Nat} {v : Value} {st : List Value} {σ : SS} (hv : v.category = 1) (hdg : decode sc.2.1 pc = .ok (.dup, 1)) (hk : ik_Go sc x lv (pc + 1) (v :: v :: st) σ) : ik_Go sc x lv pc (v :: st) σ := by
  obtain ⟨p, l, e, s, m, args, below, meth, c, ad, D, cA, A, v0, g0⟩ := x
  obtain ⟨hx, hb, hml, hown, hts, hns, hK, hD, hr, hlk⟩ := hC
  intro H locs ls hP hS hl
  exact lv_dup hx hb hdg hv (hk H locs ls hP hS hl)
theorem ik_dup2_row {x : ik_DX} (hC : ik_Cx sc x) {lv : ik_LV} {pc : Nat} {v w : Value} {st : List Value} {σ : SS} (hv : v.category = 1) (hw : w.category = 1) (hdg : decode sc.2.1 pc = .ok (.dup2, 1)) (hk : ik_Go sc x lv (pc + 1) (v :: w :: v :: w :: st) σ) : ik_Go sc x lv pc (v :: w :: st) σ := by
  obtain ⟨p, l, e, s, m, args, below, meth, c, ad, D, cA, A, v0, g0⟩ := x
  obtain ⟨hx, hb, hml, hown, hts, hns, hK, hD, hr, hlk⟩ := hC
  intro H locs ls hP hS hl
  exact lv_dup2_11 hx hb hdg hv hw (hk H locs ls hP hS hl)
theorem ik_op_row {x : ik_DX} (hC : ik_Cx sc x) {lv : ik_LV} {pc o : Nat} {a b z : Int32} {st : List Value} {σ : SS} (hz : ik_bo o a b = some z) (hdg : decode sc.2.1 pc = .ok (ik_bi o, 1)) (hk : ik_Go sc x lv (pc + 1) (.int z :: st) σ) : ik_Go sc x lv pc (.int b :: .int a :: st) σ := by
  obtain ⟨p, l, e, s, m, args, below, meth, c, ad, D, cA, A, v0, g0⟩ := x
  obtain ⟨hx, hb, hml, hown, hts, hns, hK, hD, hr, hlk⟩ := hC
  intro H locs ls hP hS hl
  exact ik_bin_row hx hb hz hdg (hk H locs ls hP hS hl)
theorem ik_ladd_row {x : ik_DX} (hC : ik_Cx sc x) {lv : ik_LV} {pc : Nat} {a b : Int64} {st : List Value} {σ : SS} (hdg : decode sc.2.1 pc = .ok (.ladd, 1)) (hk : ik_Go sc x lv (pc + 1) (.long (a + b) :: st) σ) : ik_Go sc x lv pc (.long b :: .long a :: st) σ := by
  obtain ⟨p, l, e, s, m, args, below, meth, c, ad, D, cA, A, v0, g0⟩ := x
  obtain ⟨hx, hb, hml, hown, hts, hns, hK, hD, hr, hlk⟩ := hC
  intro H locs ls hP hS hl
  exact lv_ladd hx hb hdg (hk H locs ls hP hS hl)
def sPutOp (o k w : Nat) (e : SS → Option (Int32 × GG)) : ST := fun σ => (e σ).bind fun q => (ik_bo w (σ.2.2.1 o k) q.1).map fun z => .inl (σ.1, σ.2.1, ik_si q.2 o k z)
theorem okPutOp {o : Nat} (r : RP sc o) (idx ci k w : Nat) (hF : ik_FW sc.2.2.2.1 idx ci k 0) (e : EP sc) : ik_okS sc (fun lv pc => (r.1 lv 0 pc).bind fun p1 => (cOp sc.2.1 .dup p1).bind fun p2 => if ik_isF sc.1 o ci k (.inl 0) = true then (cGet sc.2.1 idx p2).bind fun p3 => (e.1.1 lv 2 p3).bind fun p4 => (cOp sc.2.1 (ik_bi w) p4).bind fun p5 => (cPut sc.2.1 idx p5).map fun p6 => (lv, p6) else none) (sPutOp o k w e.1.2) := by
  intro x hC lv pc lv' pc' σ o1 hc hs hk hr
  simp only [Option.bind_eq_some_iff] at hc
  obtain ⟨p1, h1, p2, h2, h3⟩ := hc
  split at h3
  · rename_i hi
    simp only [Option.bind_eq_some_iff, Option.map_eq_some_iff] at h3
    obtain ⟨p3, h4, p4, h5, p5, h6, p6, h7, h8⟩ := h3
    cases h8
    obtain ⟨d2, rfl⟩ := cOp_ok h2
    obtain ⟨d3, rfl⟩ := cGet_ok h4
    obtain ⟨d5, rfl⟩ := cOp_ok h6
    obtain ⟨d6, rfl⟩ := cPut_ok h7
    simp only [sPutOp, Option.bind_eq_some_iff, Option.map_eq_some_iff] at hs
    obtain ⟨⟨v1, g1⟩, e1, z, e2, e3⟩ := hs
    cases e3
    refine r.2 x hC lv 0 pc p1 [] σ h1 ?_
    refine ik_dup_row hC rfl d2 ?_
    refine ik_get_row hC hF.fl hi (by simp; rfl) d3 ?_
    refine e.2 x hC lv 2 _ p4 _ σ v1 g1 h5 (ik_cat_i (ik_cat_r ik_cat_0)) e1 ?_
    refine ik_op_row hC e2 d5 ?_
    exact ik_put_row hC hF hi (Or.inl rfl) rfl d6 (hk _ rfl)
  · cases h3
def pPutOp {o : Nat} (r : RP sc o) (idx ci k w : Nat) (hF : ik_FW sc.2.2.2.1 idx ci k 0) (e : EP sc) : SP sc := ⟨(fun lv pc => (r.1 lv 0 pc).bind fun p1 => (cOp sc.2.1 .dup p1).bind fun p2 => if ik_isF sc.1 o ci k (.inl 0) = true then (cGet sc.2.1 idx p2).bind fun p3 => (e.1.1 lv 2 p3).bind fun p4 => (cOp sc.2.1 (ik_bi w) p4).bind fun p5 => (cPut sc.2.1 idx p5).map fun p6 => (lv, p6) else none, sPutOp o k w e.1.2), okPutOp r idx ci k w hF e⟩
def sPutOpL (o k : Nat) (e : SS → Option (Int64 × GG)) : ST := fun σ => (e σ).map fun q => .inl (σ.1, σ.2.1, ik_sl q.2 o k (σ.2.2.2 o k + q.1))
theorem okPutOpL {o : Nat} (r : RP sc o) (idx ci k : Nat) (hF : ik_FW sc.2.2.2.1 idx ci k 1) (e : JP sc) : ik_okS sc (fun lv pc => (r.1 lv 0 pc).bind fun p1 => (cOp sc.2.1 .dup p1).bind fun p2 => if ik_isF sc.1 o ci k (.inl 1) = true then (cGet sc.2.1 idx p2).bind fun p3 => (e.1.1 lv 3 p3).bind fun p4 => (cOp sc.2.1 .ladd p4).bind fun p5 => (cPut sc.2.1 idx p5).map fun p6 => (lv, p6) else none) (sPutOpL o k e.1.2) := by
  intro x hC lv pc lv' pc' σ o1 hc hs hk hr
  simp only [Option.bind_eq_some_iff] at hc
  obtain ⟨p1, h1, p2, h2, h3⟩ := hc
  split at h3
  · rename_i hi
    simp only [Option.bind_eq_some_iff, Option.map_eq_some_iff] at h3
    obtain ⟨p3, h4, p4, h5, p5, h6, p6, h7, h8⟩ := h3
    cases h8
    obtain ⟨d2, rfl⟩ := cOp_ok h2
    obtain ⟨d3, rfl⟩ := cGet_ok h4
    obtain ⟨d5, rfl⟩ := cOp_ok h6
    obtain ⟨d6, rfl⟩ := cPut_ok h7
    simp only [sPutOpL, Option.map_eq_some_iff] at hs
    obtain ⟨⟨v1, g1⟩, e1, e3⟩ := hs
    cases e3
    refine r.2 x hC lv 0 pc p1 [] σ h1 ?_
    refine ik_dup_row hC rfl d2 ?_
    refine ik_get_row hC hF.fl hi (by simp; rfl) d3 ?_
    refine e.2 x hC lv 3 _ p4 _ σ v1 g1 h5 (ik_cat_l (ik_cat_r ik_cat_0)) e1 ?_
    refine ik_ladd_row hC d5 ?_
    exact ik_putL_row hC hF hi d6 (hk _ rfl)
  · cases h3
def pPutOpL {o : Nat} (r : RP sc o) (idx ci k : Nat) (hF : ik_FW sc.2.2.2.1 idx ci k 1) (e : JP sc) : SP sc := ⟨(fun lv pc => (r.1 lv 0 pc).bind fun p1 => (cOp sc.2.1 .dup p1).bind fun p2 => if ik_isF sc.1 o ci k (.inl 1) = true then (cGet sc.2.1 idx p2).bind fun p3 => (e.1.1 lv 3 p3).bind fun p4 => (cOp sc.2.1 .ladd p4).bind fun p5 => (cPut sc.2.1 idx p5).map fun p6 => (lv, p6) else none, sPutOpL o k e.1.2), okPutOpL r idx ci k hF e⟩
-- an element written: what is kept of x in an array of kind k
def ik_as (k : Nat) (x : Int32) : Option Int32 := match k with
  | 0 => some x
  | 2 => some x.toInt8.toInt32
  | 3 => if x = 0 ∨ x = 1 then some x else none
  | _ => none
def ik_asi : Nat → Instr
  | 0 => .iastore | _ => .bastore
theorem ik_ast_row {x : ik_DX} (hC : ik_Cx sc x) {lv : ik_LV} {pc a k n : Nat} {st : List Value} {σ : SS} {i v z : Int32} {j : Nat} (hi : ik_isA sc.1 a k n = true) (hv : ik_as k v = some z) (hj : ik_ix i n = some j) (hdg : decode sc.2.1 pc = .ok (ik_asi k, 1)) (hk : ik_Go sc x lv (pc + 1) st (σ.1, σ.2.1, ik_si σ.2.2 a j z)) : ik_Go sc x lv pc (.int v :: .int i :: .ref (ik_xad x a) :: st) σ := by
  obtain ⟨p, l, e, s, m, args, below, meth, c, ad, D, cA, A, v0, g0⟩ := x
  obtain ⟨hx, hb, hml, hown, hts, hns, hK, hD, hr, hlk⟩ := hC
  obtain ⟨hin, rfl⟩ := ik_ix_ok hj
  obtain ⟨hw, ha⟩ := ik_isA_ok (ad := ad) (cA := cA) (g := σ.2.2) hi
  intro H locs ls hP hS hl
  have fin : ∀ (H1 : Heap) (locs1 : List Loc), k ≠ 1 → va_P D vwCl ((ik_w sc.1 ad cA σ.2.2).set a (ad a, .inl (cA k, n, .inl (upd (σ.2.2.1 a) i.toNatClampNeg z)))) H1 → va_S A s.heap H1 locs1 → W p l e (ik_rm sc.2.2.2.2.2.1) s m args below meth c H1 locs1 0 0 (MQ below (ik_Q sc.1 ad D cA A v0 g0) args s 0 0 A) (F0 m (pc + 1) ls st) := by
    intro H1 locs1 hk1 hP1 hS1
    rw [ik_w_si_arr hw hk1] at hP1
    exact hk H1 locs1 ls hP1 hS1 hl
  unfold ik_as at hv
  split at hv
  · cases hv
    exact va_iast hx hb hK hP (hD _) hS a 0 ha rfl hin hdg (fun H1 locs1 hP1 _ hS1 => fin H1 locs1 (by decide) hP1 hS1)
  · cases hv
    exact va_bast hx hb hK hP (hD _) hS a 2 ha rfl hin hdg (fun H1 locs1 hP1 _ hS1 => fin H1 locs1 (by decide) hP1 hS1)
  · split at hv
    · rename_i hb1
      cases hv
      have e : vp_nar .boolean v = v := by rcases hb1 with rfl | rfl <;> rfl
      exact va_zast hx hb hK hP (hD _) hS a 3 ha rfl hin hdg (fun H1 locs1 hP1 _ hS1 => fin H1 locs1 (by decide) (by rw [e] at hP1; exact hP1) hS1)
    · cases hv
  · cases hv
theorem ik_lst_row {x : ik_DX} (hC : ik_Cx sc x) {lv : ik_LV} {pc a n : Nat} {st : List Value} {σ : SS} {i : Int32} {v : Int64} {j : Nat} (hi : ik_isA sc.1 a 1 n = true) (hj : ik_ix i n = some j) (hdg : decode sc.2.1 pc = .ok (.lastore, 1)) (hk : ik_Go sc x lv (pc + 1) st (σ.1, σ.2.1, ik_sl σ.2.2 a j v)) : ik_Go sc x lv pc (.long v :: .int i :: .ref (ik_xad x a) :: st) σ := by
  obtain ⟨p, l, e, s, m, args, below, meth, c, ad, D, cA, A, v0, g0⟩ := x
  obtain ⟨hx, hb, hml, hown, hts, hns, hK, hD, hr, hlk⟩ := hC
  obtain ⟨hin, rfl⟩ := ik_ix_ok hj
  obtain ⟨hw, ha⟩ := ik_isA_ok (ad := ad) (cA := cA) (g := σ.2.2) hi
  intro H locs ls hP hS hl
  refine va_last hx hb hK hP (hD _) hS a 1 ha rfl hin hdg (fun H1 locs1 hP1 _ hS1 => ?_)
  rw [ik_w_sl_arr hw] at hP1
  exact hk H1 locs1 ls hP1 hS1 hl
theorem ik_ald_row {x : ik_DX} (hC : ik_Cx sc x) {lv : ik_LV} {pc a n : Nat} {st : List Value} {σ : SS} {i : Int32} {j : Nat} (hi : ik_isA sc.1 a 0 n = true) (hj : ik_ix i n = some j) (hdg : decode sc.2.1 pc = .ok (.iaload, 1)) (hk : ik_Go sc x lv (pc + 1) (.int (σ.2.2.1 a j) :: st) σ) : ik_Go sc x lv pc (.int i :: .ref (ik_xad x a) :: st) σ := by
  obtain ⟨p, l, e, s, m, args, below, meth, c, ad, D, cA, A, v0, g0⟩ := x
  obtain ⟨hx, hb, hml, hown, hts, hns, hK, hD, hr, hlk⟩ := hC
  obtain ⟨hin, rfl⟩ := ik_ix_ok hj
  obtain ⟨hw, ha⟩ := ik_isA_ok (ad := ad) (cA := cA) (g := σ.2.2) hi
  intro H locs ls hP hS hl
  exact va_iald hx hb hK hP a 0 ha rfl hin hdg (hk H locs ls hP hS hl)
theorem ik_lld_row {x : ik_DX} (hC : ik_Cx sc x) {lv : ik_LV} {pc a n : Nat} {st : List Value} {σ : SS} {i : Int32} {j : Nat} (hi : ik_isA sc.1 a 1 n = true) (hj : ik_ix i n = some j) (hdg : decode sc.2.1 pc = .ok (.laload, 1)) (hk : ik_Go sc x lv (pc + 1) (.long (σ.2.2.2 a j) :: st) σ) : ik_Go sc x lv pc (.int i :: .ref (ik_xad x a) :: st) σ := by
  obtain ⟨p, l, e, s, m, args, below, meth, c, ad, D, cA, A, v0, g0⟩ := x
  obtain ⟨hx, hb, hml, hown, hts, hns, hK, hD, hr, hlk⟩ := hC
  obtain ⟨hin, rfl⟩ := ik_ix_ok hj
  obtain ⟨hw, ha⟩ := ik_isA_ok (ad := ad) (cA := cA) (g := σ.2.2) hi
  intro H locs ls hP hS hl
  exact va_lald hx hb hK hP a 1 ha rfl hin hdg (hk H locs ls hP hS hl)
def sAst (a k n : Nat) (i e : SS → Option (Int32 × GG)) : ST := fun σ => (i σ).bind fun q => (e (σ.1, σ.2.1, q.2)).bind fun w => (ik_ix q.1 n).bind fun j => (ik_as k w.1).map fun z => .inl (σ.1, σ.2.1, ik_si w.2 a j z)
theorem okAst (k n : Nat) {a : Nat} (r : RP sc a) (i e : EP sc) : ik_okS sc (fun lv pc => (r.1 lv 0 pc).bind fun p1 => (i.1.1 lv 1 p1).bind fun p2 => (e.1.1 lv 2 p2).bind fun p3 => if ik_isA sc.1 a k n = true then (cOp sc.2.1 (ik_asi k) p3).map fun p4 => (lv, p4) else none) (sAst a k n i.1.2 e.1.2) := by
  intro x hC lv pc lv' pc' σ o1 hc hs hk hr
  simp only [Option.bind_eq_some_iff] at hc
  obtain ⟨p1, h1, p2, h2, p3, h3, h4⟩ := hc
  split at h4
  · rename_i hi
    simp only [Option.map_eq_some_iff] at h4
    obtain ⟨p4, h5, h6⟩ := h4
    cases h6
    obtain ⟨hdg, rfl⟩ := cOp_ok h5
    simp only [sAst, Option.bind_eq_some_iff, Option.map_eq_some_iff] at hs
    obtain ⟨⟨v1, g1⟩, e1, ⟨v2, g2⟩, e2, j, e3, z, e4, e5⟩ := hs
    cases e5
    refine r.2 x hC lv 0 pc p1 [] σ h1 ?_
    refine i.2 x hC lv 1 p1 p2 _ σ v1 g1 h2 (ik_cat_r ik_cat_0) e1 ?_
    refine e.2 x hC lv 2 p2 p3 _ (σ.1, σ.2.1, g1) v2 g2 h3 (ik_cat_i (ik_cat_r ik_cat_0)) e2 ?_
    exact ik_ast_row hC hi e4 e3 hdg (hk _ rfl)
  · cases h4
def pAst (k n : Nat) {a : Nat} (r : RP sc a) (i e : EP sc) : SP sc := ⟨(fun lv pc => (r.1 lv 0 pc).bind fun p1 => (i.1.1 lv 1 p1).bind fun p2 => (e.1.1 lv 2 p2).bind fun p3 => if ik_isA sc.1 a k n = true then (cOp sc.2.1 (ik_asi k) p3).map fun p4 => (lv, p4) else none, sAst a k n i.1.2 e.1.2), okAst k n r i e⟩
def sAstL (a n : Nat) (i : SS → Option (Int32 × GG)) (e : SS → Option (Int64 × GG)) : ST := fun σ => (i σ).bind fun q => (e (σ.1, σ.2.1, q.2)).bind fun w => (ik_ix q.1 n).map fun j => .inl (σ.1, σ.2.1, ik_sl w.2 a j w.1)
theorem okAstL (n : Nat) {a : Nat} (r : RP sc a) (i : EP sc) (e : JP sc) : ik_okS sc (fun lv pc => (r.1 lv 0 pc).bind fun p1 => (i.1.1 lv 1 p1).bind fun p2 => (e.1.1 lv 2 p2).bind fun p3 => if ik_isA sc.1 a 1 n = true then (cOp sc.2.1 .lastore p3).map fun p4 => (lv, p4) else none) (sAstL a n i.1.2 e.1.2) := by
  intro x hC lv pc lv' pc' σ o1 hc hs hk hr
  simp only [Option.bind_eq_some_iff] at hc
  obtain ⟨p1, h1, p2, h2, p3, h3, h4⟩ := hc
  split at h4
  · rename_i hi
    simp only [Option.map_eq_some_iff] at h4
    obtain ⟨p4, h5, h6⟩ := h4
    cases h6
    obtain ⟨hdg, rfl⟩ := cOp_ok h5
    simp only [sAstL, Option.bind_eq_some_iff, Option.map_eq_some_iff] at hs
    obtain ⟨⟨v1, g1⟩, e1, ⟨v2, g2⟩, e2, j, e3, e5⟩ := hs
    cases e5
    refine r.2 x hC lv 0 pc p1 [] σ h1 ?_
    refine i.2 x hC lv 1 p1 p2 _ σ v1 g1 h2 (ik_cat_r ik_cat_0) e1 ?_
    refine e.2 x hC lv 2 p2 p3 _ (σ.1, σ.2.1, g1) v2 g2 h3 (ik_cat_i (ik_cat_r ik_cat_0)) e2 ?_
    exact ik_lst_row hC hi e3 hdg (hk _ rfl)
  · cases h4
def pAstL (n : Nat) {a : Nat} (r : RP sc a) (i : EP sc) (e : JP sc) : SP sc := ⟨(fun lv pc => (r.1 lv 0 pc).bind fun p1 => (i.1.1 lv 1 p1).bind fun p2 => (e.1.1 lv 2 p2).bind fun p3 => if ik_isA sc.1 a 1 n = true then (cOp sc.2.1 .lastore p3).map fun p4 => (lv, p4) else none, sAstL a n i.1.2 e.1.2), okAstL n r i e⟩
-- an element changed in place: r; i; dup2; iaload; e; op; iastore
def sAop (a n w : Nat) (i e : SS → Option (Int32 × GG)) : ST := fun σ => (i σ).bind fun q => (ik_ix q.1 n).bind fun j => (e (σ.1, σ.2.1, q.2)).bind fun y => (ik_bo w (q.2.1 a j) y.1).map fun z => .inl (σ.1, σ.2.1, ik_si y.2 a j z)
theorem okAop (n w : Nat) {a : Nat} (r : RP sc a) (i e : EP sc) : ik_okS sc (fun lv pc => (r.1 lv 0 pc).bind fun p1 => (i.1.1 lv 1 p1).bind fun p2 => (cOp sc.2.1 .dup2 p2).bind fun p3 => if ik_isA sc.1 a 0 n = true then (cOp sc.2.1 .iaload p3).bind fun p4 => (e.1.1 lv 3 p4).bind fun p5 => (cOp sc.2.1 (ik_bi w) p5).bind fun p6 => (cOp sc.2.1 .iastore p6).map fun p7 => (lv, p7) else none) (sAop a n w i.1.2 e.1.2) := by
  intro x hC lv pc lv' pc' σ o1 hc hs hk hr
  simp only [Option.bind_eq_some_iff] at hc
  obtain ⟨p1, h1, p2, h2, p3, h3, h4⟩ := hc
  split at h4
  · rename_i hi
    simp only [Option.bind_eq_some_iff, Option.map_eq_some_iff] at h4
    obtain ⟨p4, h5, p5, h6, p6, h7, p7, h8, h9⟩ := h4
    cases h9
    obtain ⟨d3, rfl⟩ := cOp_ok h3
    obtain ⟨d4, rfl⟩ := cOp_ok h5
    obtain ⟨d6, rfl⟩ := cOp_ok h7
    obtain ⟨d7, rfl⟩ := cOp_ok h8
    simp only [sAop, Option.bind_eq_some_iff, Option.map_eq_some_iff] at hs
    obtain ⟨⟨v1, g1⟩, e1, j, e3, ⟨v2, g2⟩, e2, z, e4, e5⟩ := hs
    cases e5
    refine r.2 x hC lv 0 pc p1 [] σ h1 ?_
    refine i.2 x hC lv 1 p1 p2 _ σ v1 g1 h2 (ik_cat_r ik_cat_0) e1 ?_
    refine ik_dup2_row hC rfl rfl d3 ?_
    refine ik_ald_row hC hi e3 d4 ?_
    refine e.2 x hC lv 3 _ p5 _ (σ.1, σ.2.1, g1) v2 g2 h6 (ik_cat_i (ik_cat_i (ik_cat_r ik_cat_0))) e2 ?_
    refine ik_op_row hC e4 d6 ?_
    exact ik_ast_row hC hi rfl e3 d7 (hk _ rfl)
  · cases h4
def pAop (n w : Nat) {a : Nat} (r : RP sc a) (i e : EP sc) : SP sc := ⟨(fun lv pc => (r.1 lv 0 pc).bind fun p1 => (i.1.1 lv 1 p1).bind fun p2 => (cOp sc.2.1 .dup2 p2).bind fun p3 => if ik_isA sc.1 a 0 n = true then (cOp sc.2.1 .iaload p3).bind fun p4 => (e.1.1 lv 3 p4).bind fun p5 => (cOp sc.2.1 (ik_bi w) p5).bind fun p6 => (cOp sc.2.1 .iastore p6).map fun p7 => (lv, p7) else none, sAop a n w i.1.2 e.1.2), okAop n w r i e⟩
def sAopL (a n : Nat) (i : SS → Option (Int32 × GG)) (e : SS → Option (Int64 × GG)) : ST := fun σ => (i σ).bind fun q => (ik_ix q.1 n).bind fun j => (e (σ.1, σ.2.1, q.2)).map fun y => .inl (σ.1, σ.2.1, ik_sl y.2 a j (q.2.2 a j + y.1))
theorem okAopL (n : Nat) {a : Nat} (r : RP sc a) (i : EP sc) (e : JP sc) : ik_okS sc (fun lv pc => (r.1 lv 0 pc).bind fun p1 => (i.1.1 lv 1 p1).bind fun p2 => (cOp sc.2.1 .dup2 p2).bind fun p3 => if ik_isA sc.1 a 1 n = true then (cOp sc.2.1 .laload p3).bind fun p4 => (e.1.1 lv 4 p4).bind fun p5 => (cOp sc.2.1 .ladd p5).bind fun p6 => (cOp sc.2.1 .lastore p6).map fun p7 => (lv, p7) else none) (sAopL a n i.1.2 e.1.2) := by
  intro x hC lv pc lv' pc' σ o1 hc hs hk hr
  simp only [Option.bind_eq_some_iff] at hc
  obtain ⟨p1, h1, p2, h2, p3, h3, h4⟩ := hc
  split at h4
  · rename_i hi
    simp only [Option.bind_eq_some_iff, Option.map_eq_some_iff] at h4
    obtain ⟨p4, h5, p5, h6, p6, h7, p7, h8, h9⟩ := h4
    cases h9
    obtain ⟨d3, rfl⟩ := cOp_ok h3
    obtain ⟨d4, rfl⟩ := cOp_ok h5
    obtain ⟨d6, rfl⟩ := cOp_ok h7
    obtain ⟨d7, rfl⟩ := cOp_ok h8
    simp only [sAopL, Option.bind_eq_some_iff, Option.map_eq_some_iff] at hs
    obtain ⟨⟨v1, g1⟩, e1, j, e3, ⟨v2, g2⟩, e2, e5⟩ := hs
    cases e5
    refine r.2 x hC lv 0 pc p1 [] σ h1 ?_
    refine i.2 x hC lv 1 p1 p2 _ σ v1 g1 h2 (ik_cat_r ik_cat_0) e1 ?_
    refine ik_dup2_row hC rfl rfl d3 ?_
    refine ik_lld_row hC hi e3 d4 ?_
    refine e.2 x hC lv 4 _ p5 _ (σ.1, σ.2.1, g1) v2 g2 h6 (ik_cat_l (ik_cat_i (ik_cat_r ik_cat_0))) e2 ?_
    refine ik_ladd_row hC d6 ?_
    exact ik_lst_row hC hi e3 d7 (hk _ rfl)
  · cases h4
def pAopL (n : Nat) {a : Nat} (r : RP sc a) (i : EP sc) (e : JP sc) : SP sc := ⟨(fun lv pc => (r.1 lv 0 pc).bind fun p1 => (i.1.1 lv 1 p1).bind fun p2 => (cOp sc.2.1 .dup2 p2).bind fun p3 => if ik_isA sc.1 a 1 n = true then (cOp sc.2.1 .laload p3).bind fun p4 => (e.1.1 lv 4 p4).bind fun p5 => (cOp sc.2.1 .ladd p5).bind fun p6 => (cOp sc.2.1 .lastore p6).map fun p7 => (lv, p7) else none, sAopL a n i.1.2 e.1.2), okAopL n r i e⟩
-- the method's end
theorem ik_ret_S {A : Nat → Prop} {s t : State} {H : Heap} {locs : List Loc} (h : va_S A s.heap H locs) (ht : t.heap = H) : va_F A s t := h.F ht
def sRet (t : Nat) (e : SS → Option (Int32 × GG)) : ST := fun σ => (e σ).bind fun q => if ik_bz t q.1 = true then some (.inr (.int q.1, q.2)) else none
theorem okRet (t nx : Nat) (e : EP sc) : ik_okS sc (fun lv pc => (e.1.1 lv 0 pc).bind fun p1 => if sc.2.2.2.2.2.2 = some (ik_ty t) ∧ (t = 0 ∨ t = 3) then (cOp sc.2.1 .ireturn p1).map fun _ => (lv, nx) else none) (sRet t e.1.2) := by
  intro x hC lv pc lv' pc' σ o1 hc hs hk hr
  simp only [Option.bind_eq_some_iff] at hc
  obtain ⟨p1, h1, h2⟩ := hc
  split at h2
  · rename_i hi
    simp only [Option.map_eq_some_iff] at h2
    obtain ⟨p2, h3, h4⟩ := h2
    obtain ⟨hdg, -⟩ := cOp_ok h3
    simp only [sRet, Option.bind_eq_some_iff] at hs
    obtain ⟨⟨v1, g1⟩, e1, e2⟩ := hs
    split at e2
    · rename_i hb
      cases e2
      have hres := hr _ rfl
      refine e.2 x hC lv 0 pc p1 [] σ v1 g1 h1 ik_cat_0 e1 ?_
      obtain ⟨p, l, e, s, m, args, below, meth, c, ad, D, cA, A, v0, g0⟩ := x
      obtain ⟨hx, hbc, hml, hown, hts, hns, hK, hD, hrt, hlk⟩ := hC
      cases hres
      intro H locs ls hP hS hl
      exact W.zret hx hbc (hrt.trans hi.1) (ik_bz_ok hb hi.2).1 (fun t ht hW => ⟨⟨v1, (), rfl, rfl, by show va_P _ _ _ _; rw [ht]; exact hP⟩, hS.F ht⟩) hS.2.2 hdg
    · cases e2
  · cases h2
def pRet (t nx : Nat) (e : EP sc) : SP sc := ⟨(fun lv pc => (e.1.1 lv 0 pc).bind fun p1 => if sc.2.2.2.2.2.2 = some (ik_ty t) ∧ (t = 0 ∨ t = 3) then (cOp sc.2.1 .ireturn p1).map fun _ => (lv, nx) else none, sRet t e.1.2), okRet t nx e⟩
def sRetL (e : SS → Option (Int64 × GG)) : ST := fun σ => (e σ).map fun q => .inr (.long q.1, q.2)
theorem okRetL (nx : Nat) (e : JP sc) : ik_okS sc (fun lv pc => (e.1.1 lv 0 pc).bind fun p1 => if sc.2.2.2.2.2.2 = some .long then (cOp sc.2.1 .lreturn p1).map fun _ => (lv, nx) else none) (sRetL e.1.2) := by
  intro x hC lv pc lv' pc' σ o1 hc hs hk hr
  simp only [Option.bind_eq_some_iff] at hc
  obtain ⟨p1, h1, h2⟩ := hc
  split at h2
  · rename_i hi
    simp only [Option.map_eq_some_iff] at h2
    obtain ⟨p2, h3, h4⟩ := h2
    obtain ⟨hdg, -⟩ := cOp_ok h3
    simp only [sRetL, Option.map_eq_some_iff] at hs
    obtain ⟨⟨v1, g1⟩, e1, e2⟩ := hs
    cases e2
    have hres := hr _ rfl
    refine e.2 x hC lv 0 pc p1 [] σ v1 g1 h1 ik_cat_0 e1 ?_
    obtain ⟨p, l, e, s, m, args, below, meth, c, ad, D, cA, A, v0, g0⟩ := x
    obtain ⟨hx, hbc, hml, hown, hts, hns, hK, hD, hrt, hlk⟩ := hC
    cases hres
    intro H locs ls hP hS hl
    exact W.lret hx hbc (hrt.trans hi) (fun t ht hW => ⟨⟨v1, (), rfl, rfl, by show va_P _ _ _ _; rw [ht]; exact hP⟩, hS.F ht⟩) hS.2.2 hdg
  · cases h2
def pRetL (nx : Nat) (e : JP sc) : SP sc := ⟨(fun lv pc => (e.1.1 lv 0 pc).bind fun p1 => if sc.2.2.2.2.2.2 = some .long then (cOp sc.2.1 .lreturn p1).map fun _ => (lv, nx) else none, sRetL e.1.2), okRetL nx e⟩
def sRetV : ST := fun σ => some (.inr (.null, σ.2.2))
theorem okRetV (nx : Nat) : ik_okS sc (fun lv pc => if sc.2.2.2.2.2.2 = none then (cOp sc.2.1 .return_ pc).map fun _ => (lv, nx) else none) sRetV := by
  intro x hC lv pc lv' pc' σ o1 hc hs hk hr
  dsimp only at hc
  split at hc
  · rename_i hi
    simp only [Option.map_eq_some_iff] at hc
    obtain ⟨p2, h3, h4⟩ := hc
    obtain ⟨hdg, -⟩ := cOp_ok h3
    cases hs
    have hres := hr _ rfl
    obtain ⟨p, l, e, s, m, args, below, meth, c, ad, D, cA, A, v0, g0⟩ := x
    obtain ⟨hx, hbc, hml, hown, hts, hns, hK, hD, hrt, hlk⟩ := hC
    cases hres
    intro H locs ls hP hS hl
    exact W.vret hx hbc (hrt.trans hi) (fun t ht hW => ⟨⟨(), rfl, trivial, by show va_P _ _ _ _; rw [ht]; exact hP⟩, hS.F ht⟩) hS.2.2 hdg
  · cases hc
def pRetV (nx : Nat) : SP sc := ⟨(fun lv pc => if sc.2.2.2.2.2.2 = none then (cOp sc.2.1 .return_ pc).map fun _ => (lv, nx) else none, sRetV), okRetV nx⟩
end SY
end
section
-- a method's parameters, the receiver first: a kind (0 int, 1 long), or the cell that it names; what is told are the numbers alone
abbrev ik_sg : Type := List (Nat ⊕ Nat)
def ik_kind : ik_sg → List Value → Prop
  | [], [] => True
  | .inr _ :: r, vs => ik_kind r vs
  | .inl 0 :: r, .int _ :: vs => ik_kind r vs
  | .inl 1 :: r, .long _ :: vs => ik_kind r vs
  | _, _ => False
def ik_wv (ad : Nat → Nat) : ik_sg → List Value → List Value
  | [], _ => []
  | .inr q :: r, vs => .ref (ad q) :: ik_wv ad r vs
  | .inl _ :: r, v :: vs => v :: ik_wv ad r vs
  | .inl _ :: _, [] => []
def ik_eI : Nat → ik_sg → List Value → Nat → Int32
  | s, .inr _ :: r, vs, k => ik_eI (s + 1) r vs k
  | s, .inl _ :: r, .int v :: vs, k => if k = s then v else ik_eI (s + 1) r vs k
  | s, .inl _ :: r, .long _ :: vs, k => ik_eI (s + 2) r vs k
  | _, _, _, _ => 0
def ik_eL : Nat → ik_sg → List Value → Nat → Int64
  | s, .inr _ :: r, vs, k => ik_eL (s + 1) r vs k
  | s, .inl _ :: r, .int _ :: vs, k => ik_eL (s + 1) r vs k
  | s, .inl _ :: r, .long v :: vs, k => if k = s then v else ik_eL (s + 2) r vs k
  | _, _, _, _ => 0
def ik_elv : Nat → ik_sg → ik_LV
  | _, [] => []
  | s, .inr _ :: r => ik_elv (s + 1) r
  | s, .inl 0 :: r => (s, 0) :: ik_elv (s + 1) r
  | s, .inl _ :: r => (s, 1) :: ik_elv (s + 2) r
def ik_erl : Nat → ik_sg → ik_LV
  | _, [] => []
  | s, .inr q :: r => (s, q) :: ik_erl (s + 1) r
  | s, .inl 0 :: r => ik_erl (s + 1) r
  | s, .inl _ :: r => ik_erl (s + 2) r
def ik_wds : ik_sg → Nat
  | [] => 0
  | .inr _ :: r => ik_wds r + 1
  | .inl 0 :: r => ik_wds r + 1
  | .inl _ :: r => ik_wds r + 2
theorem ik_elv_ge : ∀ (sig : ik_sg) (s : Nat), ∀ q ∈ ik_elv s sig, s ≤ q.1
  | [], s, q, h => by simp [ik_elv] at h
  | .inr _ :: r, s, q, h => by
    have := ik_elv_ge r (s + 1) q h
    omega
  | .inl 0 :: r, s, q, h => by
    rcases List.mem_cons.mp h with rfl | h
    · exact Nat.le_refl _
    · have := ik_elv_ge r (s + 1) q h
      omega
  | .inl (n + 1) :: r, s, q, h => by
    rcases List.mem_cons.mp h with rfl | h
    · exact Nat.le_refl _
    · have := ik_elv_ge r (s + 2) q h
      omega
theorem ik_sl1 {v : Value} {vs : List Value} (h : v.category = 1) : (lg_sl (v :: vs)).length = (lg_sl vs).length + 1 := by
  have e : lg_sl (v :: vs) = [.val v] ++ lg_sl vs := by simp [lg_sl, h]
  rw [e, List.length_append]
  simp
  omega
theorem ik_sl2 {v : Value} {vs : List Value} (h : v.category = 2) : (lg_sl (v :: vs)).length = (lg_sl vs).length + 2 := by
  have e : lg_sl (v :: vs) = [.val v, .second] ++ lg_sl vs := by simp [lg_sl, h]
  rw [e, List.length_append]
  simp
  omega
theorem ik_kind_wds {ad : Nat → Nat} : ∀ (sig : ik_sg) (vs : List Value), ik_kind sig vs → (lg_sl (ik_wv ad sig vs)).length = ik_wds sig
  | [], [], _ => rfl
  | .inr q :: r, vs, h => by
    rw [ik_wv, ik_sl1 rfl, ik_kind_wds (ad := ad) r vs h]
    rfl
  | .inl 0 :: r, .int v :: vs, h => by
    rw [ik_wv, ik_sl1 rfl, ik_kind_wds (ad := ad) r vs h]
    rfl
  | .inl 1 :: r, .long v :: vs, h => by
    rw [ik_wv, ik_sl2 rfl, ik_kind_wds (ad := ad) r vs h]
    rfl
theorem ik_entry {ad : Nat → Nat} {g : GG} : ∀ (sig : ik_sg) (vs : List Value) (s : Nat), ik_kind sig vs → (∀ q ∈ ik_erl s sig, (q.1, Value.ref (ad q.2)) ∈ lv_args s (ik_wv ad sig vs)) ∧ ∀ q ∈ ik_elv s sig, (q.1, if q.2 = 1 then Value.long (ik_eL s sig vs q.1) else Value.int (ik_eI s sig vs q.1)) ∈ lv_args s (ik_wv ad sig vs)
  | [], [], s, _ => ⟨fun q h => by simp [ik_erl] at h, fun q h => by simp [ik_elv] at h⟩
  | .inr i :: r, vs, s, h => by
    obtain ⟨h1, h2⟩ := ik_entry (ad := ad) (g := g) r vs (s + 1) h
    refine ⟨fun q hq => ?_, fun q hq => ?_⟩
    · rcases List.mem_cons.mp hq with rfl | hq
      · exact List.mem_cons_self
      · exact List.mem_cons_of_mem _ (by simpa [Value.category] using h1 q hq)
    · exact List.mem_cons_of_mem _ (by simpa [Value.category, ik_eI, ik_eL] using h2 q hq)
  | .inl 0 :: r, .int v :: vs, s, h => by
    obtain ⟨h1, h2⟩ := ik_entry (ad := ad) (g := g) r vs (s + 1) h
    refine ⟨fun q hq => ?_, fun q hq => ?_⟩
    · exact List.mem_cons_of_mem _ (by simpa [Value.category] using h1 q hq)
    · rcases List.mem_cons.mp hq with rfl | hq
      · simp [ik_eI, ik_wv, lv_args]
      · have hne : q.1 ≠ s := by have := ik_elv_ge r (s + 1) q hq; omega
        exact List.mem_cons_of_mem _ (by simpa [Value.category, ik_eI, ik_eL, hne] using h2 q hq)
  | .inl 1 :: r, .long v :: vs, s, h => by
    obtain ⟨h1, h2⟩ := ik_entry (ad := ad) (g := g) r vs (s + 2) h
    refine ⟨fun q hq => ?_, fun q hq => ?_⟩
    · exact List.mem_cons_of_mem _ (by simpa [Value.category] using h1 q hq)
    · rcases List.mem_cons.mp hq with rfl | hq
      · simp [ik_eL, ik_wv, lv_args]
      · have hne : q.1 ≠ s := by have := ik_elv_ge r (s + 2) q hq; omega
        exact List.mem_cons_of_mem _ (by simpa [Value.category, ik_eI, ik_eL, hne] using h2 q hq)
-- what a method does: of its numbers and the system's state, its answer and the new state; and that the machine does so
def ik_okM (wd : List ik_CD) (y : MethodName) (cc : ByteArray) (mL : Nat) (rt : Option FieldType) (k : Nat) (sig : ik_sg) (f : List Value → GG → Option (Value × GG)) : Prop :=
  ∀ (l : Launch) (ad : Nat → Nat) (D : va_G) (cA : Nat → ClassId) (A : Nat → Prop) (g : GG) (vs : List Value) (v : Value) (g' : GG), ik_kind sig vs → f vs g = some (v, g') →
    Met l y (Cond.code y cc mL rt :: lw_gd) (ik_rm k) (va_Pc (ik_wv ad sig vs) (fun U => va_P D vwCl (ik_w wd ad cA g) U.heap ∧ va_K D vwCl (ik_tys cA) U ∧ ik_nest U ∧ ∀ g, va_D A (ik_w wd ad cA g))) (ik_Q wd ad D cA A v g') 0 0 A
abbrev MP (wd : List ik_CD) (y : MethodName) (cc : ByteArray) (mL : Nat) (rt : Option FieldType) (k : Nat) (sig : ik_sg) : Type := { f : List Value → GG → Option (Value × GG) // ik_okM wd y cc mL rt k sig f }
theorem ik_ofW {l : Launch} {y : MethodName} {ws ws' : List Cond} {rm : Room} {Pc : Array Value → State → Prop} {Qc : Array Value → State → Outcome → State → Prop} {mc ms : Nat} {free : Addr → Prop} {cc : ByteArray} {maxL : Nat} {ret : Option FieldType}
    (hy : plainFor y = true) (hw : ws = Cond.code y cc maxL ret :: ws')
    (body : ∀ p e s m args below meth c s₁, BodyLoose p l y (headSpec ws rm) cc maxL ret e s m args below meth c s₁ → c.maxLocals = maxL → Pc args s →
      W p l e (headSpec ws rm).room s m args below meth c s.heap [] 0 0 (MQ below Qc args s mc ms free) (entryFrame m args maxL)) : Met l y ws rm Pc Qc mc ms free := by
  refine MetFree.of_bodySF (code := cc) (maxLocals := maxL) (ret := ret) hy ?_ ?_
  · intro args s m h hn
    obtain ⟨meth, c, h1, h2, h3, h4, h5, h6, -, -⟩ := Cond.code_spec hn (atoms_spec (ws := ws) h _ (by rw [hw]; exact List.mem_cons_self))
    exact ⟨meth, c, h1, h2, h3, h4, h5, h6⟩
  · intro p e s m args below meth c s₁ B hml hP _
    have hh0 : s₁.heap = s.heap := by rw [B.state]; rfl
    obtain ⟨t, a1, o, b1, b2, b3⟩ := body p e s m args below meth c s₁ B hml hP s₁ hh0 (Stand.of_body B)
    exact ⟨t, o, a1, b1, b2, ⟨b3.1, b3.2⟩⟩
def sBody (sig : ik_sg) (b : ST) : List Value → GG → Option (Value × GG) := fun vs g => (b (ik_eI 0 sig vs, ik_eL 0 sig vs, g)).bind fun o => match o with
  | .inr r => some r
  | .inl _ => none
theorem okBody (sc : ik_SC) (y : MethodName) (sig : ik_sg) (body : SP sc) (hy : plainFor y = true) (hrl : sc.2.2.2.2.1 = ik_erl 0 sig) (hown : sc.2.2.2.1 = y.cls) (hsz : ik_wds sig ≤ sc.2.2.1) (hck : (body.1.1 (ik_elv 0 sig) 0).isSome = true) : ik_okM sc.1 y sc.2.1 sc.2.2.1 sc.2.2.2.2.2.2 sc.2.2.2.2.2.1 sig (sBody sig body.1.2) := by
  intro l ad D cA A g vs v g' hkd hf
  refine ik_ofW (cc := sc.2.1) (maxL := sc.2.2.1) (ret := sc.2.2.2.2.2.2) hy rfl ?_
  intro p e s m args below meth c s₁ B hml hv
  obtain ⟨rfl, hP, hK, hN, hD⟩ := hv
  have hts := atoms_spec (ws := Cond.code y sc.2.1 sc.2.2.1 sc.2.2.2.2.2.2 :: lw_gd) B.pre
  have hcls : s.vm.findClass y.cls = some m.cls := findClass_of_methodNamed B.named
  obtain ⟨⟨lv', pc'⟩, hc⟩ := Option.isSome_iff_exists.mp hck
  simp only [sBody, Option.bind_eq_some_iff] at hf
  obtain ⟨o, e1, e2⟩ := hf
  have hl := lv_entry (ik_wv ad sig vs) (n := sc.2.2.1) (by rw [ik_kind_wds sig vs hkd]; exact hsz)
  rw [lg_entry_eq]
  refine body.2 (p, l, e, s, m, (ik_wv ad sig vs).toArray, below, meth, c, ad, D, cA, A, v, g') ⟨B.exec, B.bytes, hml, by rw [hown]; exact hcls, fun w hw => hts w (List.mem_cons_of_mem _ hw), hN, hK, hD, B.returns, B.notSynchronized⟩ (ik_elv 0 sig) 0 lv' pc' (ik_eI 0 sig vs, ik_eL 0 sig vs, g) o hc e1 (fun σ' he => ?_) (fun r he => ?_) s.heap [] _ hP va_S.rf ?_
  · subst he; cases e2
  · subst he
    cases e2
    rfl
  · refine ⟨hl.1, hl.2.1, fun q hq => hl.2.2 q ?_⟩
    obtain ⟨h1, h2⟩ := ik_entry (ad := ad) (g := g) sig vs 0 hkd
    simp only [ik_lv, List.mem_append, List.mem_map] at hq
    rcases hq with ⟨a, ha, rfl⟩ | ⟨a, ha, rfl⟩
    · rw [hrl] at ha
      exact h1 a ha
    · exact h2 a ha
def mkM (sc : ik_SC) (y : MethodName) (sig : ik_sg) (body : SP sc) (hy : plainFor y = true) (hrl : sc.2.2.2.2.1 = ik_erl 0 sig) (hown : sc.2.2.2.1 = y.cls) (hsz : ik_wds sig ≤ sc.2.2.1) (hck : (body.1.1 (ik_elv 0 sig) 0).isSome = true) : MP sc.1 y sc.2.1 sc.2.2.1 sc.2.2.2.2.2.2 sc.2.2.2.2.2.1 sig := ⟨sBody sig body.1.2, okBody sc y sig body hy hrl hown hsz hck⟩
-- numbers put on the stack for a call
def ik_okA (sc : ik_SC) (sig : ik_sg) (chk : ik_LV → Nat → Nat → Option Nat) (sem : SS → Option (List Value × GG)) : Prop :=
  ∀ (x : ik_DX), ik_Cx sc x → ∀ (lv : ik_LV) (d pc pc' : Nat) (st : List Value) (σ : SS) (vs : List Value) (g' : GG), chk lv d pc = some pc' → ik_cat st ≤ d → sem σ = some (vs, g') → ik_kind sig vs ∧ (ik_Go sc x lv pc' ((ik_wv (ik_xad x) sig vs).reverse ++ st) (σ.1, σ.2.1, g') → ik_Go sc x lv pc st σ)
abbrev AP (sc : ik_SC) (sig : ik_sg) : Type := { q : (ik_LV → Nat → Nat → Option Nat) × (SS → Option (List Value × GG)) // ik_okA sc sig q.1 q.2 }
section CA
variable {sc : ik_SC} {sig : ik_sg}
def sNil : SS → Option (List Value × GG) := fun σ => some ([], σ.2.2)
theorem okNil : ik_okA sc [] (fun _ _ pc => some pc) sNil := by
  intro x hC lv d pc pc' st σ vs g' hc hd hs
  cases hc
  cases hs
  exact ⟨trivial, fun h => h⟩
def aNil : AP sc [] := ⟨(fun _ _ pc => some pc, sNil), okNil⟩
def sArgI (e : SS → Option (Int32 × GG)) (r : SS → Option (List Value × GG)) : SS → Option (List Value × GG) := fun σ => (e σ).bind fun q => (r (σ.1, σ.2.1, q.2)).map fun w => (.int q.1 :: w.1, w.2)
theorem okArgI (e : EP sc) (r : AP sc sig) : ik_okA sc (.inl 0 :: sig) (fun lv d pc => (e.1.1 lv d pc).bind fun p1 => r.1.1 lv (d + 1) p1) (sArgI e.1.2 r.1.2) := by
  intro x hC lv d pc pc' st σ vs g' hc hd hs
  simp only [Option.bind_eq_some_iff] at hc
  obtain ⟨p1, h1, h2⟩ := hc
  simp only [sArgI, Option.bind_eq_some_iff, Option.map_eq_some_iff] at hs
  obtain ⟨⟨v1, g1⟩, e1, ⟨ws, g2⟩, e2, e3⟩ := hs
  cases e3
  obtain ⟨hk, hgo⟩ := r.2 x hC lv (d + 1) p1 pc' (.int v1 :: st) (σ.1, σ.2.1, g1) ws g2 h2 (ik_cat_i hd) e2
  refine ⟨hk, fun h => e.2 x hC lv d pc p1 st σ v1 g1 h1 hd e1 (hgo ?_)⟩
  simpa [ik_wv] using h
def aI (e : EP sc) (r : AP sc sig) : AP sc (.inl 0 :: sig) := ⟨(fun lv d pc => (e.1.1 lv d pc).bind fun p1 => r.1.1 lv (d + 1) p1, sArgI e.1.2 r.1.2), okArgI e r⟩
def sArgL (e : SS → Option (Int64 × GG)) (r : SS → Option (List Value × GG)) : SS → Option (List Value × GG) := fun σ => (e σ).bind fun q => (r (σ.1, σ.2.1, q.2)).map fun w => (.long q.1 :: w.1, w.2)
theorem okArgL (e : JP sc) (r : AP sc sig) : ik_okA sc (.inl 1 :: sig) (fun lv d pc => (e.1.1 lv d pc).bind fun p1 => r.1.1 lv (d + 2) p1) (sArgL e.1.2 r.1.2) := by
  intro x hC lv d pc pc' st σ vs g' hc hd hs
  simp only [Option.bind_eq_some_iff] at hc
  obtain ⟨p1, h1, h2⟩ := hc
  simp only [sArgL, Option.bind_eq_some_iff, Option.map_eq_some_iff] at hs
  obtain ⟨⟨v1, g1⟩, e1, ⟨ws, g2⟩, e2, e3⟩ := hs
  cases e3
  obtain ⟨hk, hgo⟩ := r.2 x hC lv (d + 2) p1 pc' (.long v1 :: st) (σ.1, σ.2.1, g1) ws g2 h2 (ik_cat_l hd) e2
  refine ⟨hk, fun h => e.2 x hC lv d pc p1 st σ v1 g1 h1 hd e1 (hgo ?_)⟩
  simpa [ik_wv] using h
def aL (e : JP sc) (r : AP sc sig) : AP sc (.inl 1 :: sig) := ⟨(fun lv d pc => (e.1.1 lv d pc).bind fun p1 => r.1.1 lv (d + 2) p1, sArgL e.1.2 r.1.2), okArgL e r⟩
theorem okArgR {id : Nat} (e : RP sc id) (r : AP sc sig) : ik_okA sc (.inr id :: sig) (fun lv d pc => (e.1 lv d pc).bind fun p1 => r.1.1 lv (d + 1) p1) r.1.2 := by
  intro x hC lv d pc pc' st σ vs g' hc hd hs
  simp only [Option.bind_eq_some_iff] at hc
  obtain ⟨p1, h1, h2⟩ := hc
  obtain ⟨hk, hgo⟩ := r.2 x hC lv (d + 1) p1 pc' (.ref (ik_xad x id) :: st) σ vs g' h2 (ik_cat_r hd) hs
  refine ⟨hk, fun h => e.2 x hC lv d pc p1 st σ h1 (hgo ?_)⟩
  simpa [ik_wv] using h
def aR {id : Nat} (e : RP sc id) (r : AP sc sig) : AP sc (.inr id :: sig) := ⟨(fun lv d pc => (e.1 lv d pc).bind fun p1 => r.1.1 lv (d + 1) p1, r.1.2), okArgR e r⟩
end CA
-- a call that the tables link: by it the machine runs the method that a contract tells of
def ik_LK (sc : ik_SC) (y : MethodName) (cc : ByteArray) (mL : Nat) (rt : Option FieldType) (k : Nat) (sig : ik_sg) (ins : Instr) : Prop :=
  ∀ (p : Program) (l : Launch) (e : Env) (s : State) (m : MethodId) (args : Array Value) (below : List Frame) (meth : Method) (c : Code) (ad : Nat → Nat) (D : va_G) (cA : Nat → ClassId) (A : Nat → Prop) (v0 : Value) (g0 : GG), ik_Cx sc (p, l, e, s, m, args, below, meth, c, ad, D, cA, A, v0, g0) →
    ∀ (H : Heap) (locs : List Loc) (ls : Array Slot) (pc : Nat) (st vs : List Value) (g : GG) (v : Value) (g' : GG), Met l y (Cond.code y cc mL rt :: lw_gd) (ik_rm k) (va_Pc (ik_wv ad sig vs) (fun U => va_P D vwCl (ik_w sc.1 ad cA g) U.heap ∧ va_K D vwCl (ik_tys cA) U ∧ ik_nest U ∧ ∀ g, va_D A (ik_w sc.1 ad cA g))) (ik_Q sc.1 ad D cA A v g') 0 0 A →
    va_P D vwCl (ik_w sc.1 ad cA g) H → decode sc.2.1 pc = .ok (ins, 3) → ik_cat st ≤ 8 → ik_kind sig vs → ls.size = sc.2.2.1 →
    ∃ a : Array Value, va_Run p l e (ik_rm sc.2.2.2.2.2.1) s m args below meth c H locs 0 0 0 0 (F0 m pc ls ((ik_wv ad sig vs).reverse ++ st)) st (ik_Q sc.1 ad D cA A v g' a) A
-- what the tables say of a method
def ik_MF (y : MethodName) (cc : ByteArray) (mL : Nat) (rt : Option FieldType) (n : Nat) : Prop := Cond.code y cc mL rt ∈ lw_tbl ∧ Cond.initialized y.cls ∈ lw_tbl ∧ (y.cls ≠ "java/lang/invoke/MethodHandle" ∧ y.cls ≠ "java/lang/invoke/VarHandle" ∧ (parseMethodDescriptor y.desc).map (fun d => d.parameters.length) = some n)
def ik_MV (y : MethodName) : Prop := Cond.instanceMethod y ∈ lw_tbl ∧ Cond.selects y.cls y y ∈ lw_tbl
theorem ik_goodIn {ws : List Cond} (h : ∀ w ∈ ws, w ∈ lw_gd) : GoodIn lw_gd ws := fun w hw => ⟨h w hw, ik_gd_good w (h w hw)⟩
theorem ik_goodM {y : MethodName} {cc : ByteArray} {mL : Nat} {rt : Option FieldType} {n : Nat} (h : ik_MF y cc mL rt n) : GoodIn lw_gd (Cond.code y cc mL rt :: lw_gd) := ik_goodIn (fun w hw => by
  rcases List.mem_cons.mp hw with rfl | hw
  · exact ik_gd h.1 rfl
  · exact hw)
theorem ik_blind {ad : Nat → Nat} {wd : List ik_CD} {D : va_G} {cA : Nat → ClassId} {A : Nat → Prop} {g : GG} {vs : List Value} : FrameBlind (va_Pc vs (fun U => va_P D vwCl (ik_w wd ad cA g) U.heap ∧ va_K D vwCl (ik_tys cA) U ∧ ik_nest U ∧ ∀ g, va_D A (ik_w wd ad cA g))) := by
  intro a U gg mk q
  obtain ⟨q0, qP, qK, qN, qD⟩ := q
  exact ⟨q0, qP, va_K.moved (u := U) (U := U.calling gg mk a) (Vm.Alike.refl U.vm) qK, qN.same rfl, qD⟩
theorem ik_kind_len {ad : Nat → Nat} : ∀ (sig : ik_sg) (vs : List Value), ik_kind sig vs → (ik_wv ad sig vs).length = sig.length
  | [], [], _ => rfl
  | .inr q :: r, vs, h => by simp [ik_wv, ik_kind_len (ad := ad) r vs h]
  | .inl 0 :: r, .int v :: vs, h => by simp [ik_wv, ik_kind_len (ad := ad) r vs h]
  | .inl 1 :: r, .long v :: vs, h => by simp [ik_wv, ik_kind_len (ad := ad) r vs h]
theorem lkV {sc : ik_SC} {y : MethodName} {cc : ByteArray} {mL : Nat} {rt : Option FieldType} {k o n idx ci : Nat} {sig : ik_sg} {T : u_T} {N : Nat} {fds : List (Nat ⊕ Nat)} (hf : ik_MF y cc mL rt n) (hv : ik_MV y) (hl : Cond.methodLink sc.2.2.2.1 idx y ∈ lw_tbl) (ho : sc.1[o]? = some (.inr (ci, fds))) (hci : vwCl[ci]? = some (y.cls, T, N)) (hn : sig.length = n) (hk : k + 1 ≤ sc.2.2.2.2.2.1) (hm : mL ≤ 181) : ik_LK sc y cc mL rt k (.inr o :: sig) (.invokevirtual idx) := by
  intro p l e s m args below meth c ad D cA A v0 g0 hC H locs ls pc st vs g v g' hM hP hdg hst hkd hls
  obtain ⟨hx, hb, hml, hown, hts, hns, hK, hD, hr, hlk⟩ := hC
  have hcell : (ik_w sc.1 ad cA g)[o]? = some (ad o, .inr (ci, ik_fv ad g o 0 fds)) := by rw [ik_w_at, ho]; rfl
  refine ⟨(ik_wv ad (.inr o :: sig) vs).toArray, ?_⟩
  have hGo : GoodIn lw_gd (wsV sc.2.2.2.1 idx y.cls y (Cond.code y cc mL rt :: lw_gd)) := ik_goodIn (fun w hw => by
    unfold wsV at hw
    rcases List.mem_append.mp hw with hw | hw
    · simp only [List.mem_cons, List.not_mem_nil, or_false] at hw
      rcases hw with rfl | rfl | rfl | rfl
      · exact ik_gd hl rfl
      · exact ik_gd hv.1 rfl
      · exact ik_gd hv.2 rfl
      · exact ik_gd hf.2.1 rfl
    · exact (ik_goodM hf w hw).1)
  refine va_runV (As := ik_wv ad sig vs) (rest := st) (C := y.cls) (n := n) (b := ad o) ⟨hx, hb, hml, hown, hts⟩ hM (cwV n hts hGo rfl rfl rfl ⟨rfl, hf.2.2⟩ ⟨hk, by show 8 + (mL + 11) + 200 * k ≤ 200 * _; omega⟩) ⟨ik_blind, va_recv hK hP hci hcell, fun U hU hW => ⟨rfl, by rw [hU]; exact hP, va_K.moved hW.alike hK, hns.warm hW, hD⟩⟩ rfl (by rw [ik_kind_len sig vs hkd]; exact hn) hls ?_ (lv_room hst) hdg ⟨Nat.le_refl _, Nat.le_refl _⟩
  simp [ik_wv]
theorem lkS {sc : ik_SC} {y : MethodName} {cc : ByteArray} {mL : Nat} {rt : Option FieldType} {k n idx : Nat} {sig : ik_sg} (hf : ik_MF y cc mL rt n) (hv : Cond.static y ∈ lw_tbl) (hl : Cond.methodLink sc.2.2.2.1 idx y ∈ lw_tbl) (hn : sig.length = n) (hk : k + 1 ≤ sc.2.2.2.2.2.1) (hm : mL ≤ 181) : ik_LK sc y cc mL rt k sig (.invokestatic idx) := by
  intro p l e s m args below meth c ad D cA A v0 g0 hC H locs ls pc st vs g v g' hM hP hdg hst hkd hls
  obtain ⟨hx, hb, hml, hown, hts, hns, hK, hD, hr, hlk⟩ := hC
  refine ⟨(ik_wv ad sig vs).toArray, ?_⟩
  have hGo : GoodIn lw_gd (va_wsS sc.2.2.2.1 idx y (Cond.code y cc mL rt :: lw_gd)) := ik_goodIn (fun w hw => by
    unfold va_wsS at hw
    rcases List.mem_append.mp hw with hw | hw
    · simp only [List.mem_cons, List.not_mem_nil, or_false] at hw
      rcases hw with rfl | rfl | rfl
      · exact ik_gd hl rfl
      · exact ik_gd hv rfl
      · exact ik_gd hf.2.1 rfl
    · exact (ik_goodM hf w hw).1)
  exact va_runS (As := ik_wv ad sig vs) (rest := st) (n := n) ⟨hx, hb, hml, hown, hts⟩ hM (va_cwS n hts hGo rfl rfl rfl hf.2.2 ⟨hk, by show 8 + (mL + 11) + 200 * k ≤ 200 * _; omega⟩) ⟨ik_blind, fun U hU hW => ⟨rfl, by rw [hU]; exact hP, va_K.moved hW.alike hK, hns.warm hW, hD⟩⟩ rfl (by rw [ik_kind_len sig vs hkd]; exact hn) hls rfl (lv_room hst) hdg ⟨Nat.le_refl _, Nat.le_refl _⟩
theorem lkN {sc : ik_SC} {y : MethodName} {cc : ByteArray} {mL : Nat} {rt : Option FieldType} {k n idx : Nat} {sig : ik_sg} {host : String} (hf : ik_MF y cc mL rt n) (hv : Cond.static y ∈ lw_tbl) (hl : Cond.methodLinkNest sc.2.2.2.1 idx y host ∈ lw_tbl) (hn : sig.length = n) (hk : k + 1 ≤ sc.2.2.2.2.2.1) (hm : mL ≤ 181) : ik_LK sc y cc mL rt k sig (.invokestatic idx) := by
  intro p l e s m args below meth c ad D cA A v0 g0 hC H locs ls pc st vs g v g' hM hP hdg hst hkd hls
  obtain ⟨hx, hb, hml, hown, hts, hns, hK, hD, hr, hlk⟩ := hC
  refine ⟨(ik_wv ad sig vs).toArray, ?_⟩
  exact va_runSN (As := ik_wv ad sig vs) (rest := st) (n := n) ⟨hx, hb, hml, hown, hts⟩ hM ⟨va_cnB n hts (ik_goodM hf) rfl rfl rfl (hns _ _ _ _ hl) (hts _ (ik_gd hf.2.1 rfl)) hf.2.2 ⟨hk, by show 8 + (mL + 11) + 200 * k ≤ 200 * _; omega⟩, hts _ (ik_gd hv rfl), trivial⟩ ⟨ik_blind, fun U hU hW => ⟨rfl, by rw [hU]; exact hP, va_K.moved hW.alike hK, hns.warm hW, hD⟩⟩ rfl (by rw [ik_kind_len sig vs hkd]; exact hn) hls rfl (lv_room hst) hdg ⟨Nat.le_refl _, Nat.le_refl _⟩
-- behind a call
theorem ik_call_i {sc : ik_SC} {y : MethodName} {cc : ByteArray} {mL : Nat} {rt : Option FieldType} {k : Nat} {sig : ik_sg} {ins : Instr} (h : ik_LK sc y cc mL rt k sig ins) (M : MP sc.1 y cc mL rt k sig) {x : ik_DX} (hC : ik_Cx sc x) {lv : ik_LV} {pc : Nat} {st vs : List Value} {σ : SS} {r : Int32} {g' : GG} (hf : M.1 vs σ.2.2 = some (.int r, g')) (hkd : ik_kind sig vs) (hst : ik_cat st ≤ 8) (hdg : decode sc.2.1 pc = .ok (ins, 3)) (hk : ik_Go sc x lv (pc + 3) (.int r :: st) (σ.1, σ.2.1, g')) : ik_Go sc x lv pc ((ik_wv (ik_xad x) sig vs).reverse ++ st) σ := by
  obtain ⟨p, l, e, s, m, args, below, meth, c, ad, D, cA, A, v0, g0⟩ := x
  intro H locs ls hP hS hl
  obtain ⟨a, hrun⟩ := h p l e s m args below meth c ad D cA A v0 g0 hC H locs ls pc st vs σ.2.2 (.int r) g' (M.2 l ad D cA A σ.2.2 vs (.int r) g' hkd hf) hP hdg hst hkd hl.1
  refine va_calli (a := a) (S := Unit) (post := fun r' _ => r' = r) (B := ik_B sc.1 ad D cA g') hrun hS (fun _ _ h => h) (fun _ h => h) (fun r' u t H1 locs1 ht hvm hw hB hz hk1 hS1 => ?_)
  subst hw
  subst ht
  exact hk t.heap locs1 ls hB hS1 hl
theorem ik_call_l {sc : ik_SC} {y : MethodName} {cc : ByteArray} {mL : Nat} {rt : Option FieldType} {k : Nat} {sig : ik_sg} {ins : Instr} (h : ik_LK sc y cc mL rt k sig ins) (M : MP sc.1 y cc mL rt k sig) {x : ik_DX} (hC : ik_Cx sc x) {lv : ik_LV} {pc : Nat} {st vs : List Value} {σ : SS} {r : Int64} {g' : GG} (hf : M.1 vs σ.2.2 = some (.long r, g')) (hkd : ik_kind sig vs) (hst : ik_cat st ≤ 8) (hdg : decode sc.2.1 pc = .ok (ins, 3)) (hk : ik_Go sc x lv (pc + 3) (.long r :: st) (σ.1, σ.2.1, g')) : ik_Go sc x lv pc ((ik_wv (ik_xad x) sig vs).reverse ++ st) σ := by
  obtain ⟨p, l, e, s, m, args, below, meth, c, ad, D, cA, A, v0, g0⟩ := x
  intro H locs ls hP hS hl
  obtain ⟨a, hrun⟩ := h p l e s m args below meth c ad D cA A v0 g0 hC H locs ls pc st vs σ.2.2 (.long r) g' (M.2 l ad D cA A σ.2.2 vs (.long r) g' hkd hf) hP hdg hst hkd hl.1
  refine va_calll (a := a) (S := Unit) (post := fun r' _ => r' = r) (B := ik_B sc.1 ad D cA g') hrun hS (fun _ _ h => h) (fun _ h => h) (fun r' u t H1 locs1 ht hvm hw hB hz hk1 hS1 => ?_)
  subst hw
  subst ht
  exact hk t.heap locs1 ls hB hS1 hl
theorem ik_call_v {sc : ik_SC} {y : MethodName} {cc : ByteArray} {mL : Nat} {rt : Option FieldType} {k : Nat} {sig : ik_sg} {ins : Instr} (h : ik_LK sc y cc mL rt k sig ins) (M : MP sc.1 y cc mL rt k sig) {x : ik_DX} (hC : ik_Cx sc x) {lv : ik_LV} {pc : Nat} {st vs : List Value} {σ : SS} {g' : GG} (hf : M.1 vs σ.2.2 = some (.null, g')) (hkd : ik_kind sig vs) (hst : ik_cat st ≤ 8) (hdg : decode sc.2.1 pc = .ok (ins, 3)) (hk : ik_Go sc x lv (pc + 3) st (σ.1, σ.2.1, g')) : ik_Go sc x lv pc ((ik_wv (ik_xad x) sig vs).reverse ++ st) σ := by
  obtain ⟨p, l, e, s, m, args, below, meth, c, ad, D, cA, A, v0, g0⟩ := x
  intro H locs ls hP hS hl
  obtain ⟨a, hrun⟩ := h p l e s m args below meth c ad D cA A v0 g0 hC H locs ls pc st vs σ.2.2 .null g' (M.2 l ad D cA A σ.2.2 vs .null g' hkd hf) hP hdg hst hkd hl.1
  refine va_callv (a := a) (S := Unit) (post := fun _ => True) (B := ik_B sc.1 ad D cA g') hrun hS (fun _ _ h => h) (fun _ h => h) (fun u t H1 locs1 ht hvm hw hB hz hk1 hS1 => ?_)
  subst ht
  exact hk t.heap locs1 ls hB hS1 hl
section CB
variable {sc : ik_SC} {y : MethodName} {cc : ByteArray} {mL : Nat} {rt : Option FieldType} {k : Nat} {sig : ik_sg}
def cCall (cc : ByteArray) (ins : Instr) (d pc : Nat) : Option Nat := if d ≤ 8 then (match decode cc pc with
  | .ok (i, 3) => if i = ins then some (pc + 3) else none
  | _ => none) else none
theorem cCall_ok {cc : ByteArray} {ins : Instr} {d pc pc' : Nat} (h : cCall cc ins d pc = some pc') : d ≤ 8 ∧ decode cc pc = .ok (ins, 3) ∧ pc' = pc + 3 := by
  unfold cCall at h
  split at h
  · rename_i hd
    split at h
    · rename_i j hdg
      split at h
      · rename_i he
        subst he
        cases h
        exact ⟨hd, hdg, rfl⟩
      · cases h
    · cases h
  · cases h
def sCall (f : List Value → GG → Option (Value × GG)) (a : SS → Option (List Value × GG)) : SS → Option (Int32 × GG) := fun σ => (a σ).bind fun q => (f q.1 q.2).bind fun r => match r with
  | (.int v, g) => some (v, g)
  | _ => none
theorem okCall (ins : Instr) (h : ik_LK sc y cc mL rt k sig ins) (M : MP sc.1 y cc mL rt k sig) (a : AP sc sig) : ik_okE sc (fun lv d pc => (a.1.1 lv d pc).bind fun p1 => cCall sc.2.1 ins d p1) (sCall M.1 a.1.2) := by
  intro x hC lv d pc pc' st σ v g' hc hd hs hk
  simp only [Option.bind_eq_some_iff] at hc
  obtain ⟨p1, h1, h2⟩ := hc
  obtain ⟨hd8, hdg, rfl⟩ := cCall_ok h2
  simp only [sCall, Option.bind_eq_some_iff] at hs
  obtain ⟨⟨vs, g1⟩, e1, ⟨w, g2⟩, e2, e3⟩ := hs
  obtain ⟨hkd, hgo⟩ := a.2 x hC lv d pc p1 st σ vs g1 h1 hd e1
  cases w with
  | int r =>
    cases e3
    exact hgo (ik_call_i (σ := (σ.1, σ.2.1, g1)) h M hC e2 hkd (Nat.le_trans hd hd8) hdg hk)
  | _ => cases e3
def eCall (ins : Instr) (h : ik_LK sc y cc mL rt k sig ins) (M : MP sc.1 y cc mL rt k sig) (a : AP sc sig) : EP sc := ⟨(fun lv d pc => (a.1.1 lv d pc).bind fun p1 => cCall sc.2.1 ins d p1, sCall M.1 a.1.2), okCall ins h M a⟩
def sCallL (f : List Value → GG → Option (Value × GG)) (a : SS → Option (List Value × GG)) : SS → Option (Int64 × GG) := fun σ => (a σ).bind fun q => (f q.1 q.2).bind fun r => match r with
  | (.long v, g) => some (v, g)
  | _ => none
theorem okCallL (ins : Instr) (h : ik_LK sc y cc mL rt k sig ins) (M : MP sc.1 y cc mL rt k sig) (a : AP sc sig) : ik_okL sc (fun lv d pc => (a.1.1 lv d pc).bind fun p1 => cCall sc.2.1 ins d p1) (sCallL M.1 a.1.2) := by
  intro x hC lv d pc pc' st σ v g' hc hd hs hk
  simp only [Option.bind_eq_some_iff] at hc
  obtain ⟨p1, h1, h2⟩ := hc
  obtain ⟨hd8, hdg, rfl⟩ := cCall_ok h2
  simp only [sCallL, Option.bind_eq_some_iff] at hs
  obtain ⟨⟨vs, g1⟩, e1, ⟨w, g2⟩, e2, e3⟩ := hs
  obtain ⟨hkd, hgo⟩ := a.2 x hC lv d pc p1 st σ vs g1 h1 hd e1
  cases w with
  | long r =>
    cases e3
    exact hgo (ik_call_l (σ := (σ.1, σ.2.1, g1)) h M hC e2 hkd (Nat.le_trans hd hd8) hdg hk)
  | _ => cases e3
def lCall (ins : Instr) (h : ik_LK sc y cc mL rt k sig ins) (M : MP sc.1 y cc mL rt k sig) (a : AP sc sig) : JP sc := ⟨(fun lv d pc => (a.1.1 lv d pc).bind fun p1 => cCall sc.2.1 ins d p1, sCallL M.1 a.1.2), okCallL ins h M a⟩
def sDo (f : List Value → GG → Option (Value × GG)) (a : SS → Option (List Value × GG)) : ST := fun σ => (a σ).bind fun q => (f q.1 q.2).bind fun r => match r with
  | (.null, g) => some (.inl (σ.1, σ.2.1, g))
  | _ => none
theorem okDo (ins : Instr) (h : ik_LK sc y cc mL rt k sig ins) (M : MP sc.1 y cc mL rt k sig) (a : AP sc sig) : ik_okS sc (fun lv pc => (a.1.1 lv 0 pc).bind fun p1 => (cCall sc.2.1 ins 0 p1).map fun p2 => (lv, p2)) (sDo M.1 a.1.2) := by
  intro x hC lv pc lv' pc' σ o hc hs hk hr
  simp only [Option.bind_eq_some_iff, Option.map_eq_some_iff] at hc
  obtain ⟨p1, h1, p2, h2, h3⟩ := hc
  cases h3
  obtain ⟨hd8, hdg, rfl⟩ := cCall_ok h2
  simp only [sDo, Option.bind_eq_some_iff] at hs
  obtain ⟨⟨vs, g1⟩, e1, ⟨w, g2⟩, e2, e3⟩ := hs
  obtain ⟨hkd, hgo⟩ := a.2 x hC lv 0 pc p1 [] σ vs g1 h1 ik_cat_0 e1
  cases w with
  | null =>
    cases e3
    exact hgo (ik_call_v (σ := (σ.1, σ.2.1, g1)) h M hC e2 hkd (Nat.zero_le _) hdg (hk _ rfl))
  | _ => cases e3
def pDo (ins : Instr) (h : ik_LK sc y cc mL rt k sig ins) (M : MP sc.1 y cc mL rt k sig) (a : AP sc sig) : SP sc := ⟨(fun lv pc => (a.1.1 lv 0 pc).bind fun p1 => (cCall sc.2.1 ins 0 p1).map fun p2 => (lv, p2), sDo M.1 a.1.2), okDo ins h M a⟩
-- an int dropped
def sPop (e : SS → Option (Int32 × GG)) : ST := fun σ => (e σ).map fun q => .inl (σ.1, σ.2.1, q.2)
theorem okPop (e : EP sc) : ik_okS sc (fun lv pc => (e.1.1 lv 0 pc).bind fun p1 => (cOp sc.2.1 .pop p1).map fun p2 => (lv, p2)) (sPop e.1.2) := by
  intro x hC lv pc lv' pc' σ o hc hs hk hr
  simp only [Option.bind_eq_some_iff, Option.map_eq_some_iff] at hc
  obtain ⟨p1, h1, p2, h2, h3⟩ := hc
  cases h3
  obtain ⟨hdg, rfl⟩ := cOp_ok h2
  simp only [sPop, Option.map_eq_some_iff] at hs
  obtain ⟨⟨v1, g1⟩, e1, e2⟩ := hs
  have hk := hk _ e2.symm
  refine e.2 x hC lv 0 pc p1 [] σ v1 g1 h1 ik_cat_0 e1 ?_
  obtain ⟨p, l, e, s, m, args, below, meth, c, ad, D, cA, A, v0, g0⟩ := x
  obtain ⟨hx, hb, hml, hown, hts, hns, hK, hD, hr, hlk⟩ := hC
  intro H locs ls hP hS hl
  exact lv_pop hx hb hdg rfl (hk H locs ls hP hS hl)
def pPop (e : EP sc) : SP sc := ⟨(fun lv pc => (e.1.1 lv 0 pc).bind fun p1 => (cOp sc.2.1 .pop p1).map fun p2 => (lv, p2), sPop e.1.2), okPop e⟩
end CB
-- no such call is ever made
def mFail (wd : List ik_CD) (y : MethodName) (cc : ByteArray) (mL : Nat) (rt : Option FieldType) (k : Nat) (sig : ik_sg) : MP wd y cc mL rt k sig := ⟨fun _ _ => none, fun _ _ _ _ _ _ _ _ _ _ h => by cases h⟩
end
section
-- a switch: the pairs (value, jump) of either kind
def ik_pairs (lo : Int) (offs : Array Int) : List (Int × Int) := (List.range offs.size).map (fun (i : Nat) => (lo + (i : Int), (offs[i]?).getD 0))
def ik_swt (cs : List (Int32 × Nat)) (dp : Nat) (x : Int32) : Nat := match cs.find? (fun c => decide (c.1 = x)) with
  | some c => c.2
  | none => dp
def ik_swok (pc : Nat) (d : Int) (ps : List (Int × Int)) (cs : List (Int32 × Nat)) (dp : Nat) : Bool := decide ((pc : Int) + d = (dp : Int)) && (ps.all (fun q => decide ((Int32.ofInt q.1).toInt = q.1) && decide ((pc : Int) + q.2 = (ik_swt cs dp (Int32.ofInt q.1) : Int))) && cs.all (fun c => (ps.find? (fun q => q.1 == c.1.toInt)).isSome))
theorem ik_swok_in {pc : Nat} {d : Int} {ps : List (Int × Int)} {cs : List (Int32 × Nat)} {dp : Nat} (h : ik_swok pc d ps cs dp = true) {x : Int32} {q : Int × Int} (hq : ps.find? (fun q => q.1 == x.toInt) = some q) : (pc : Int) + q.2 = (ik_swt cs dp x : Int) := by
  simp only [ik_swok, Bool.and_eq_true, decide_eq_true_eq] at h
  have h1 := List.all_eq_true.mp h.2.1 q (List.mem_of_find?_eq_some hq)
  have h2 := List.find?_some hq
  simp only [Bool.and_eq_true, decide_eq_true_eq, beq_iff_eq] at h1 h2
  rw [h1.2, h2, Int32.ofInt_toInt]
theorem ik_swok_out {pc : Nat} {d : Int} {ps : List (Int × Int)} {cs : List (Int32 × Nat)} {dp : Nat} (h : ik_swok pc d ps cs dp = true) {x : Int32} (hq : ps.find? (fun q => q.1 == x.toInt) = none) : (pc : Int) + d = (ik_swt cs dp x : Int) := by
  simp only [ik_swok, Bool.and_eq_true, decide_eq_true_eq] at h
  rw [h.1]
  unfold ik_swt
  split
  · rename_i c hc
    have h1 := List.all_eq_true.mp h.2.2 c (List.mem_of_find?_eq_some hc)
    have h2 := List.find?_some hc
    simp only [decide_eq_true_eq] at h2
    rw [h2, hq] at h1
    cases h1
  · rfl
section SWR
variable {p : Program} {l : Launch} {e : Env} {R : Room} {s : State} {m : MethodId} {args : Array Value} {below : List Frame} {meth : Method} {c : Code} {H : Heap} {locs : List Loc} {cells slots : Nat} {Q : State → Prop}
theorem ik_table_row {cc : ByteArray} {pc len dp : Nat} {ls : Array Slot} {rest : List Value} (hx : p.tables.exec = Jvm.exec) (hb : c.code = cc) {d lo hi : Int} {offs : Array Int} {x : Int32} {cs : List (Int32 × Nat)} (hdg : decode cc pc = .ok (.tableswitch d lo hi offs, len)) (hsz : hi + 1 = lo + (offs.size : Int)) (h : ik_swok pc d (ik_pairs lo offs) cs dp = true) (k : W p l e R s m args below meth c H locs cells slots Q (F0 m (ik_swt cs dp x) ls rest)) : W p l e R s m args below meth c H locs cells slots Q (F0 m pc ls (.int x :: rest)) := by
  cases hq : (ik_pairs lo offs).find? (fun q => q.1 == x.toInt) with
  | some q =>
    have h1 := List.mem_of_find?_eq_some hq
    have h2 := List.find?_some hq
    simp only [beq_iff_eq] at h2
    obtain ⟨i, hi1, rfl⟩ := List.mem_map.mp h1
    have hi2 := List.mem_range.mp hi1
    dsimp only at h2
    refine lv_tableIn (off := (offs[i]?).getD 0) hx hb hdg (by omega) (by omega) ?_ (ik_swok_in h hq) k
    have e : (x.toInt - lo).toNat = i := by omega
    rw [e, Array.getElem?_eq_getElem hi2]
    rfl
  | none =>
    refine lv_tableOut hx hb hdg ?_ (ik_swok_out h hq) k
    rcases Int.lt_or_le x.toInt lo with h1 | h1
    · exact Or.inl h1
    · rcases Int.lt_or_le hi x.toInt with h2 | h2
      · exact Or.inr h2
      · have h3 := List.find?_eq_none.mp hq (lo + ((x.toInt - lo).toNat : Int), (offs[(x.toInt - lo).toNat]?).getD 0) (List.mem_map.mpr ⟨(x.toInt - lo).toNat, List.mem_range.mpr (by omega), rfl⟩)
        exfalso
        apply h3
        simp only [beq_iff_eq]
        omega
theorem ik_lookup_row {cc : ByteArray} {pc len dp : Nat} {ls : Array Slot} {rest : List Value} (hx : p.tables.exec = Jvm.exec) (hb : c.code = cc) {d : Int} {ps : Array (Int × Int)} {x : Int32} {cs : List (Int32 × Nat)} (hdg : decode cc pc = .ok (.lookupswitch d ps, len)) (hp : (ps.toList.zip (ps.toList.drop 1)).all (fun (a, next) => a.1 < next.1) = true) (h : ik_swok pc d ps.toList cs dp = true) (k : W p l e R s m args below meth c H locs cells slots Q (F0 m (ik_swt cs dp x) ls rest)) : W p l e R s m args below meth c H locs cells slots Q (F0 m pc ls (.int x :: rest)) := by
  cases hq : ps.toList.find? (fun q => q.1 == x.toInt) with
  | some q =>
    obtain ⟨a, o⟩ := q
    exact lv_lookup hx hb hdg hp (Op.lookupswitch.offset_some hq) (ik_swok_in h hq) k
  | none => exact lv_lookup hx hb hdg hp (Op.lookupswitch.offset_none hq) (ik_swok_out h hq) k
end SWR
section SW
variable {sc : ik_SC}
def cSw (cc : ByteArray) (cs : List (Int32 × Nat)) (dp pc : Nat) : Bool := match decode cc pc with
  | .ok (.tableswitch d lo hi offs, _) => decide (hi + 1 = lo + (offs.size : Int)) && ik_swok pc d (ik_pairs lo offs) cs dp
  | .ok (.lookupswitch d ps, _) => (ps.toList.zip (ps.toList.drop 1)).all (fun (a, next) => a.1 < next.1) && ik_swok pc d ps.toList cs dp
  | _ => false
theorem cSw_ok {cs : List (Int32 × Nat)} {dp pc : Nat} {x : ik_DX} (hC : ik_Cx sc x) {lv : ik_LV} {st : List Value} {σ : SS} {v : Int32} (h : cSw sc.2.1 cs dp pc = true) (hk : ik_Go sc x lv (ik_swt cs dp v) st σ) : ik_Go sc x lv pc (.int v :: st) σ := by
  obtain ⟨p, l, e, s, m, args, below, meth, c, ad, D, cA, A, v0, g0⟩ := x
  obtain ⟨hx, hb, hml, hown, hts, hns, hK, hD, hr, hlk⟩ := hC
  intro H locs ls hP hS hl
  unfold cSw at h
  split at h
  · rename_i d lo hi offs len hdg
    simp only [Bool.and_eq_true, decide_eq_true_eq] at h
    exact ik_table_row hx hb hdg h.1 h.2 (hk H locs ls hP hS hl)
  · rename_i d ps len hdg
    rw [Bool.and_eq_true] at h
    exact ik_lookup_row hx hb hdg h.1 h.2 (hk H locs ls hP hS hl)
  · cases h
def ik_pick (cs : List (Int32 × Nat × SP sc)) (D : SP sc) (x : Int32) : SP sc := match cs.find? (fun c => decide (c.1 = x)) with
  | some c => c.2.2
  | none => D
def sSw (e : SS → Option (Int32 × GG)) (f : Int32 → ST) : ST := fun σ => (e σ).bind fun q => f q.1 (σ.1, σ.2.1, q.2)
def ik_arm (cc : ByteArray) (lv : ik_LV) (E : Nat) (q : Option (ik_LV × Nat)) : Bool := match q with
  | some r => ik_reach cc 3 r.2 E && lv.all (fun a => decide (a ∈ r.1))
  | none => false
theorem ik_swt_map (cs : List (Int32 × Nat × SP sc)) (dp : Nat) (x : Int32) : ik_swt (cs.map (fun c => (c.1, c.2.1))) dp x = match cs.find? (fun c => decide (c.1 = x)) with
    | some c => c.2.1
    | none => dp := by
  unfold ik_swt
  rw [List.find?_map]
  cases h : cs.find? ((fun c => decide (c.1 = x)) ∘ fun c => (c.1, c.2.1)) with
  | none =>
    have h2 : cs.find? (fun c => decide (c.1 = x)) = none := h
    simp [h2]
  | some c =>
    have h2 : cs.find? (fun c => decide (c.1 = x)) = some c := h
    simp [h2]
theorem okSw (e : EP sc) (cs : List (Int32 × Nat × SP sc)) (dp : Nat) (D : SP sc) (E : Nat) : ik_okS sc (fun lv pc => (e.1.1 lv 0 pc).bind fun p1 => if cSw sc.2.1 (cs.map (fun c => (c.1, c.2.1))) dp p1 = true ∧ cs.all (fun c => ik_arm sc.2.1 lv E (c.2.2.1.1 lv c.2.1)) = true ∧ ik_arm sc.2.1 lv E (D.1.1 lv dp) = true then some (lv, E) else none) (sSw e.1.2 (fun x => (ik_pick cs D x).1.2)) := by
  intro x hC lv pc lv' pc' σ o hc hs hk hr
  simp only [Option.bind_eq_some_iff] at hc
  obtain ⟨p1, h1, h2⟩ := hc
  split at h2
  · rename_i hcond
    cases h2
    simp only [sSw, Option.bind_eq_some_iff] at hs
    obtain ⟨⟨v1, g1⟩, e1, e2⟩ := hs
    refine e.2 x hC lv 0 pc p1 [] σ v1 g1 h1 ik_cat_0 e1 (cSw_ok hC hcond.1 ?_)
    have fin : ∀ (P : SP sc) (q : Nat), ik_arm sc.2.1 lv E (P.1.1 lv q) = true → P.1.2 (σ.1, σ.2.1, g1) = some o → ik_Go sc x lv q [] (σ.1, σ.2.1, g1) := by
      intro P q ha he
      unfold ik_arm at ha
      split at ha
      · rename_i r hP
        simp only [Bool.and_eq_true] at ha
        exact P.2 x hC lv q r.1 r.2 _ o hP he (fun σ' hσ => ik_reach_ok hC (ik_Go_sub (fun a hx => of_decide_eq_true (List.all_eq_true.mp ha.2 a hx)) (hk σ' hσ)) 3 r.2 ha.1) hr
      · cases ha
    rw [ik_swt_map]
    unfold ik_pick at e2
    cases hf : cs.find? (fun c => decide (c.1 = v1)) with
    | none =>
      rw [hf] at e2
      exact fin D dp hcond.2.2 e2
    | some c =>
      rw [hf] at e2
      exact fin c.2.2 c.2.1 (List.all_eq_true.mp hcond.2.1 c (List.mem_of_find?_eq_some hf)) e2
  · cases h2
def pSw (e : EP sc) (cs : List (Int32 × Nat × SP sc)) (dp : Nat) (D : SP sc) (E : Nat) : SP sc := ⟨(fun lv pc => (e.1.1 lv 0 pc).bind fun p1 => if cSw sc.2.1 (cs.map (fun c => (c.1, c.2.1))) dp p1 = true ∧ cs.all (fun c => ik_arm sc.2.1 lv E (c.2.2.1.1 lv c.2.1)) = true ∧ ik_arm sc.2.1 lv E (D.1.1 lv dp) = true then some (lv, E) else none, sSw e.1.2 (fun x => (ik_pick cs D x).1.2)), okSw e cs dp D E⟩
-- a loop that is left in its midst: while (c) { a; if (x) break; b }
def sWhB (c : SS → Option (Bool × GG)) (a : ST) (x : SS → Option (Bool × GG)) (b : ST) : Nat → ST
  | 0, _ => none
  | n + 1, σ => (c σ).bind fun q => if q.1 = true then (a (σ.1, σ.2.1, q.2)).bind (fun o => match o with
      | .inl σ1 => (x σ1).bind fun q2 => if q2.1 = true then some (.inl (σ1.1, σ1.2.1, q2.2)) else (b (σ1.1, σ1.2.1, q2.2)).bind (fun o2 => match o2 with
        | .inl σ2 => sWhB c a x b n σ2
        | .inr r => some (.inr r))
      | .inr r => some (.inr r)) else some (.inl (σ.1, σ.2.1, q.2))
def ik_cwb (cc : ByteArray) (c : Bool) (lv : ik_LV) (a : Option (ik_LV × Nat)) (x : ik_LV → Nat → Bool) (b : ik_LV → Option (ik_LV × Nat)) (pc F TB E : Nat) : Option (ik_LV × Nat) := match c, a with
  | true, some q1 => match x q1.1 q1.2, b q1.1 with
    | true, some q2 => if ik_reach cc 3 q2.2 pc = true ∧ ik_reach cc 3 F E = true ∧ ik_reach cc 3 TB E = true ∧ lv.all (fun q => decide (q ∈ q1.1)) = true ∧ lv.all (fun q => decide (q ∈ q2.1)) = true then some (lv, E) else none
    | _, _ => none
  | _, _ => none
theorem ik_cwb_ok {cc : ByteArray} {c : Bool} {lv : ik_LV} {a : Option (ik_LV × Nat)} {x : ik_LV → Nat → Bool} {b : ik_LV → Option (ik_LV × Nat)} {pc F TB E : Nat} {r : ik_LV × Nat} (h : ik_cwb cc c lv a x b pc F TB E = some r) : ∃ q1 q2, c = true ∧ a = some q1 ∧ x q1.1 q1.2 = true ∧ b q1.1 = some q2 ∧ ik_reach cc 3 q2.2 pc = true ∧ ik_reach cc 3 F E = true ∧ ik_reach cc 3 TB E = true ∧ (∀ q ∈ lv, q ∈ q1.1) ∧ (∀ q ∈ lv, q ∈ q2.1) ∧ r = (lv, E) := by
  unfold ik_cwb at h
  split at h
  · rename_i q1
    split at h
    · rename_i q2 h3 h4
      split at h
      · rename_i h5
        cases h
        exact ⟨q1, q2, rfl, rfl, h3, h4, h5.1, h5.2.1, h5.2.2.1, fun q hq => of_decide_eq_true (List.all_eq_true.mp h5.2.2.2.1 q hq), fun q hq => of_decide_eq_true (List.all_eq_true.mp h5.2.2.2.2 q hq), rfl⟩
      · cases h
    · cases h
  · cases h
theorem okWhB (T F TB FB E : Nat) (c : CP sc T F) (a : SP sc) (y : CP sc TB FB) (b : SP sc) (n : Nat) : ik_okS sc (fun lv pc => ik_cwb sc.2.1 (c.1.1 lv 0 pc) lv (a.1.1 lv T) (fun lv1 p1 => y.1.1 lv1 0 p1) (fun lv1 => b.1.1 lv1 FB) pc F TB E) (sWhB c.1.2 a.1.2 y.1.2 b.1.2 n) := by
  intro x hC lv pc lv' pc' σ o hc
  obtain ⟨q1, q2, h1, h2, h3, h4, h5, h6, h7, h8, h9, h10⟩ := ik_cwb_ok hc
  cases h10
  induction n generalizing σ with
  | zero => intro hs; cases hs
  | succ n ih =>
    intro hs hk hr
    simp only [sWhB, Option.bind_eq_some_iff] at hs
    obtain ⟨⟨v1, g1⟩, e1, e2⟩ := hs
    refine c.2 x hC lv 0 pc [] σ v1 g1 h1 ik_cat_0 e1 ?_
    cases v1 with
    | true =>
      simp only [if_true, Option.bind_eq_some_iff] at e2
      obtain ⟨o1, e3, e4⟩ := e2
      refine a.2 x hC lv T q1.1 q1.2 (σ.1, σ.2.1, g1) o1 h2 e3 (fun σ' he => ?_) (fun r he => ?_)
      · subst he
        simp only [Option.bind_eq_some_iff] at e4
        obtain ⟨⟨v2, g2⟩, e5, e6⟩ := e4
        refine y.2 x hC q1.1 0 q1.2 [] σ' v2 g2 h3 ik_cat_0 e5 ?_
        cases v2 with
        | true =>
          simp only [if_true] at e6
          cases e6
          exact ik_reach_ok hC (ik_Go_sub h8 (hk _ rfl)) 3 TB h7
        | false =>
          simp only [Bool.false_eq_true, if_false, Option.bind_eq_some_iff] at e6
          obtain ⟨o2, e7, e8⟩ := e6
          refine b.2 x hC q1.1 FB q2.1 q2.2 _ o2 h4 e7 (fun σ2 he => ?_) (fun r he => ?_)
          · subst he
            exact ik_reach_ok hC (ik_Go_sub h9 (ih σ2 e8 hk hr)) 3 q2.2 h5
          · subst he
            cases e8
            exact hr r rfl
      · subst he
        cases e4
        exact hr r rfl
    | false =>
      simp only [Bool.false_eq_true, if_false] at e2
      cases e2
      exact ik_reach_ok hC (hk _ rfl) 3 F h6
def pWhB (T F TB FB E : Nat) (c : CP sc T F) (a : SP sc) (y : CP sc TB FB) (b : SP sc) : SP sc := ⟨(fun lv pc => ik_cwb sc.2.1 (c.1.1 lv 0 pc) lv (a.1.1 lv T) (fun lv1 p1 => y.1.1 lv1 0 p1) (fun lv1 => b.1.1 lv1 FB) pc F TB E, sWhB c.1.2 a.1.2 y.1.2 b.1.2 ik_fuel), okWhB T F TB FB E c a y b ik_fuel⟩
-- a stretch that never comes to its end but by a return
def sDead (b : ST) : ST := fun σ => (b σ).bind fun o => match o with
  | .inl _ => none
  | .inr r => some (.inr r)
theorem okDead (E : Nat) (b : SP sc) : ik_okS sc (fun lv pc => (b.1.1 lv pc).map fun _ => (lv, E)) (sDead b.1.2) := by
  intro x hC lv pc lv' pc' σ o hc hs hk hr
  simp only [Option.map_eq_some_iff] at hc
  obtain ⟨⟨l1, p1⟩, h1, h2⟩ := hc
  simp only [sDead, Option.bind_eq_some_iff] at hs
  obtain ⟨o1, e1, e2⟩ := hs
  refine b.2 x hC lv pc l1 p1 σ o1 h1 e1 (fun σ' he => ?_) (fun r he => ?_)
  · subst he; cases e2
  · subst he; cases e2; exact hr r rfl
def pDead (E : Nat) (b : SP sc) : SP sc := ⟨(fun lv pc => (b.1.1 lv pc).map fun _ => (lv, E), sDead b.1.2), okDead E b⟩
-- System.arraycopy of one int array to another, from 0, n of them
def sCopy (a b n0 n1 : Nat) (n : Int32) : ST := fun σ => if n < 0 ∨ n0 < n.toNatClampNeg ∨ n1 < n.toNatClampNeg then none else some (.inl (σ.1, σ.2.1, (fun i j => if i = b ∧ j < n.toNatClampNeg then σ.2.2.1 a j else σ.2.2.1 i j, σ.2.2.2)))
def ik_ACP (own : String) (idx : Nat) : Prop := Cond.methodLink own idx arraycopyName ∈ lw_tbl ∧ Cond.native arraycopyName ∈ lw_tbl ∧ Cond.static arraycopyName ∈ lw_tbl ∧ Cond.initialized "java/lang/System" ∈ lw_tbl
theorem okCopy {a b : Nat} (idx n0 n1 : Nat) (n : Int32) (h : ik_ACP sc.2.2.2.1 idx) (hlv : 1 ≤ sc.2.2.2.2.2.1) (r1 : RP sc a) (r2 : RP sc b) (z1 z2 e : EP sc) (hz1 : z1.1.2 = sLit 0) (hz2 : z2.1.2 = sLit 0) (he : e.1.2 = sLit n) (hr : nativeFrameWords "java/lang/System" "arraycopy" 5 + 11 ≤ 200) : ik_okS sc (fun lv pc => (r1.1 lv 0 pc).bind fun p1 => (z1.1.1 lv 1 p1).bind fun p2 => (r2.1 lv 2 p2).bind fun p3 => (z2.1.1 lv 3 p3).bind fun p4 => (e.1.1 lv 4 p4).bind fun p5 => if ik_isA sc.1 a 0 n0 = true ∧ ik_isA sc.1 b 0 n1 = true then (cCall sc.2.1 (.invokestatic idx) 0 p5).map fun p6 => (lv, p6) else none) (sCopy a b n0 n1 n) := by
  intro x hC lv pc lv' pc' σ o hc hs hk hrr
  simp only [Option.bind_eq_some_iff] at hc
  obtain ⟨p1, h1, p2, h2, p3, h3, p4, h4, p5, h5, h6⟩ := hc
  split at h6
  · rename_i hi
    simp only [Option.map_eq_some_iff] at h6
    obtain ⟨p6, h7, h8⟩ := h6
    cases h8
    obtain ⟨-, hdg, rfl⟩ := cCall_ok h7
    unfold sCopy at hs
    split at hs
    · cases hs
    · rename_i hn
      cases hs
      have hk := hk _ rfl
      refine r1.2 x hC lv 0 pc p1 [] σ h1 ?_
      refine z1.2 x hC lv 1 p1 p2 _ σ 0 σ.2.2 h2 (ik_cat_r ik_cat_0) (by rw [hz1]; rfl) ?_
      refine r2.2 x hC lv 2 p2 p3 _ σ h3 ?_
      refine z2.2 x hC lv 3 p3 p4 _ σ 0 σ.2.2 h4 (ik_cat_r (ik_cat_i (ik_cat_r ik_cat_0))) (by rw [hz2]; rfl) ?_
      refine e.2 x hC lv 4 p4 p5 _ σ n σ.2.2 h5 (ik_cat_i (ik_cat_r (ik_cat_i (ik_cat_r ik_cat_0)))) (by rw [he]; rfl) ?_
      obtain ⟨p, l, ee, s, m, args, below, meth, c, ad, D, cA, A, v0, g0⟩ := x
      obtain ⟨hx, hb, hml, hown, hts, hns, hK, hD, hrt, hlk⟩ := hC
      intro H locs ls hP hS hl
      have ha := ik_isA_ok (ad := ad) (cA := cA) (g := σ.2.2) hi.1
      have hb2 := ik_isA_ok (ad := ad) (cA := cA) (g := σ.2.2) hi.2
      refine va_copyi hx hb (by rw [hml]; exact hl.1.symm) hown (hts _ (ik_gd h.1 rfl)) (hts _ (ik_gd h.2.1 rfl)) (hts _ (ik_gd h.2.2.1 rfl)) (hts _ (ik_gd h.2.2.2 rfl)) hK hP (hD _) hS a b 0 0 ha.2 hb2.2 rfl rfl rfl (by decide) (by decide) (fun z => hn (Or.inl z)) ?_ ?_ (fun _ _ => rfl) hlv ?_ hdg (fun H1 locs1 hP1 _ hS1 => ?_)
      · show 0 + _ ≤ _
        have := fun z => hn (Or.inr (Or.inl z))
        omega
      · show 0 + _ ≤ _
        have := fun z => hn (Or.inr (Or.inr z))
        omega
      · show 0 + _ ≤ 200 * _
        omega
      · have e1 := ik_w_set (wd := sc.1) (ad := ad) (cA := cA) (g := σ.2.2) (g' := (fun i j => if i = b ∧ j < n.toNatClampNeg then σ.2.2.1 a j else σ.2.2.1 i j, σ.2.2.2)) (e := .inl (cA 0, n1, .inl (va_cpy (σ.2.2.1 a) (σ.2.2.1 b) (Int32.toNatClampNeg 0) (Int32.toNatClampNeg 0) n.toNatClampNeg))) hb2.1 ?_ (fun q hq => ⟨?_, rfl⟩)
        · exact hk H1 locs1 ls (e1 ▸ hP1) hS1 hl
        · have z : Int32.toNatClampNeg 0 = 0 := rfl
          have e2 : (fun j => if b = b ∧ j < n.toNatClampNeg then σ.2.2.1 a j else σ.2.2.1 b j) = va_cpy (σ.2.2.1 a) (σ.2.2.1 b) (Int32.toNatClampNeg 0) (Int32.toNatClampNeg 0) n.toNatClampNeg := by
            funext j
            simp [va_cpy, z]
          show Sum.inl (cA 0, n1, Sum.inl (fun j => if b = b ∧ j < n.toNatClampNeg then σ.2.2.1 a j else σ.2.2.1 b j)) = _
          rw [e2]
        · funext j
          simp [hq]
  · cases h6
def pCopy {a b : Nat} (idx n0 n1 : Nat) (n : Int32) (h : ik_ACP sc.2.2.2.1 idx) (hlv : 1 ≤ sc.2.2.2.2.2.1) (r1 : RP sc a) (r2 : RP sc b) (z1 z2 e : EP sc) (hz1 : z1.1.2 = sLit 0) (hz2 : z2.1.2 = sLit 0) (he : e.1.2 = sLit n) (hr : nativeFrameWords "java/lang/System" "arraycopy" 5 + 11 ≤ 200) : SP sc := ⟨(fun lv pc => (r1.1 lv 0 pc).bind fun p1 => (z1.1.1 lv 1 p1).bind fun p2 => (r2.1 lv 2 p2).bind fun p3 => (z2.1.1 lv 3 p3).bind fun p4 => (e.1.1 lv 4 p4).bind fun p5 => if ik_isA sc.1 a 0 n0 = true ∧ ik_isA sc.1 b 0 n1 = true then (cCall sc.2.1 (.invokestatic idx) 0 p5).map fun p6 => (lv, p6) else none, sCopy a b n0 n1 n), okCopy idx n0 n1 n h hlv r1 r2 z1 z2 e hz1 hz2 he hr⟩
end SW
end
section
/-! printed by program out of the landed class and the reference: what the tables say of their links; the cells of each -/
def wdX : List ik_CD := [.inr (11, [.inr 1, .inr 3, .inr 6, .inr 15, .inr 25, .inr 35, .inr 39, .inr 43, .inr 48, .inr 63, .inr 64, .inr 65, .inl 0, .inl 3, .inl 3]), .inr (9, [.inr 2, .inl 0]), .inl (0, 400), .inr (4, [.inr 4, .inr 5]), .inl (0, 27), .inl (0, 729), .inr (6, [.inr 7, .inr 10, .inr 11, .inr 12, .inr 13, .inr 14, .inl 0]), .inr (10, [.inl 0, .inr 8, .inr 9]), .inl (0, 288), .inl (0, 24), .inl (0, 24), .inl (0, 24), .inl (0, 24), .inl (0, 24), .inl (0, 24), .inr (0, [.inr 16, .inr 17, .inr 18, .inr 19, .inr 20, .inr 21, .inr 22, .inr 23, .inr 24, .inl 0, .inl 0, .inl 0]), .inl (0, 4), .inl (0, 4), .inl (0, 4), .inl (0, 20), .inl (0, 20), .inl (0, 20), .inl (0, 20), .inl (0, 20), .inl (0, 20), .inr (8, [.inr 26, .inr 29, .inr 30, .inr 31, .inr 32, .inr 33, .inr 34, .inl 0, .inl 0, .inl 0, .inl 0]), .inr (10, [.inl 0, .inr 27, .inr 28]), .inl (0, 1728), .inl (0, 144), .inl (0, 144), .inl (3, 144), .inl (3, 24), .inl (0, 6), .inl (0, 6), .inl (0, 6), .inr (7, [.inr 36, .inr 37, .inr 38, .inl 0, .inl 0, .inl 3, .inl 0, .inl 0, .inl 0, .inl 0, .inl 3]), .inl (0, 160), .inl (0, 160), .inl (0, 26), .inr (3, [.inr 40, .inr 41, .inr 42, .inl 0]), .inl (0, 60), .inl (0, 60), .inl (0, 60), .inr (1, [.inr 44, .inr 45, .inr 46, .inr 47, .inl 0]), .inl (0, 8), .inl (0, 8), .inl (0, 8), .inl (0, 8), .inr (2, [.inr 49, .inr 55, .inr 56, .inr 57, .inr 58, .inr 59, .inr 60, .inr 61, .inr 62, .inl 0, .inl 0, .inl 3, .inl 3, .inl 1]), .inr (5, [.inr 50, .inr 51, .inr 52, .inr 53, .inr 54, .inl 3, .inl 0, .inl 0]), .inl (0, 4), .inl (0, 576), .inl (3, 576), .inl (0, 2304), .inl (0, 4), .inl (0, 4), .inl (0, 384), .inl (0, 24), .inl (0, 24), .inl (0, 4), .inl (0, 4), .inl (0, 4), .inl (1, 96), .inl (0, 96), .inl (0, 4), .inl (0, 4)]
def wdM : List ik_CD := [.inr (12, [.inr 1, .inl 0, .inl 0, .inl 0, .inl 0, .inl 0, .inl 0, .inl 0, .inl 0, .inl 0, .inl 0, .inl 0, .inr 2, .inr 3, .inr 4, .inr 5, .inr 6, .inr 7, .inr 8, .inr 9, .inr 10, .inr 11, .inr 12, .inr 13, .inr 14, .inr 15, .inr 16, .inr 17, .inr 18, .inr 19, .inl 0, .inl 0, .inl 0, .inr 20, .inl 0, .inr 21, .inr 22, .inr 23, .inr 24, .inr 25, .inr 26, .inr 27, .inr 28, .inr 29, .inr 30, .inr 31, .inl 0, .inl 0, .inl 0, .inl 0, .inl 3, .inl 3, .inr 32, .inl 0, .inl 0, .inr 33, .inr 34, .inr 35, .inr 36, .inr 37, .inr 38, .inr 39, .inr 40, .inr 41, .inr 42, .inr 43, .inr 44, .inl 0, .inl 0, .inl 1, .inr 45, .inr 46, .inr 47, .inr 48, .inr 49, .inr 50, .inr 51]), .inl (2, 400), .inl (0, 27), .inl (0, 729), .inl (2, 288), .inl (0, 24), .inl (0, 24), .inl (0, 24), .inl (0, 24), .inl (0, 24), .inl (0, 4), .inl (0, 4), .inl (0, 4), .inl (0, 6), .inl (0, 6), .inl (2, 960), .inl (0, 144), .inl (0, 144), .inl (0, 144), .inl (3, 144), .inl (0, 4), .inl (0, 24), .inl (0, 12), .inl (0, 12), .inl (0, 12), .inl (0, 160), .inl (0, 160), .inl (0, 12), .inl (0, 12), .inl (0, 12), .inl (0, 160), .inl (0, 160), .inl (0, 200), .inl (0, 200), .inl (3, 200), .inl (0, 20), .inl (0, 20), .inl (0, 20), .inl (0, 20), .inl (0, 20), .inl (0, 20), .inl (0, 60), .inl (0, 60), .inl (0, 60), .inl (0, 96), .inl (1, 96), .inl (0, 96), .inl (0, 8), .inl (0, 8), .inl (0, 8), .inl (0, 8), .inl (0, 6)]
theorem ik_in1 {w : Cond} (h : w ∈ tables_1_1) : w ∈ lw_tbl := ik_inT (List.mem_append_left _ h)
theorem ik_in2 {w : Cond} (h : w ∈ tables_1_2) : w ∈ lw_tbl := ik_inT (List.mem_append_right _ (List.mem_append_left _ h))
theorem ik_in3 {w : Cond} (h : w ∈ tables_1_3) : w ∈ lw_tbl := ik_inT (List.mem_append_right _ (List.mem_append_right _ (List.mem_append_left _ h)))
theorem ik_in4 {w : Cond} (h : w ∈ tables_1_4) : w ∈ lw_tbl := ik_inT (List.mem_append_right _ (List.mem_append_right _ (List.mem_append_right _ (List.mem_append_left _ h))))
theorem ik_in5 {w : Cond} (h : w ∈ tables_1_5) : w ∈ lw_tbl := ik_inT (List.mem_append_right _ (List.mem_append_right _ (List.mem_append_right _ (List.mem_append_right _ (List.mem_append_left _ h)))))
theorem ik_in6 {w : Cond} (h : w ∈ tables_1_6) : w ∈ lw_tbl := ik_inT (List.mem_append_right _ (List.mem_append_right _ (List.mem_append_right _ (List.mem_append_right _ (List.mem_append_right _ (List.mem_append_left _ h))))))
theorem ik_in7 {w : Cond} (h : w ∈ tables_1_7) : w ∈ lw_tbl := ik_inT (List.mem_append_right _ (List.mem_append_right _ (List.mem_append_right _ (List.mem_append_right _ (List.mem_append_right _ (List.mem_append_right _ (List.mem_append_left _ h)))))))
theorem ik_in8 {w : Cond} (h : w ∈ tables_1_8) : w ∈ lw_tbl := ik_inT (List.mem_append_right _ (List.mem_append_right _ (List.mem_append_right _ (List.mem_append_right _ (List.mem_append_right _ (List.mem_append_right _ (List.mem_append_right _ (h))))))))
theorem ml_X11_82 : Cond.methodLink RX11 82 yX11_within ∈ lw_tbl := ik_in2 (List.mem_of_getElem? (i := 158) rfl)
theorem mf_X11_within : ik_MF yX11_within cX11_within 3 (some .boolean) 3 := ⟨ik_in2 (List.mem_of_getElem? (i := 160) rfl), ik_in1 (List.mem_of_getElem? (i := 1) rfl), by decide +kernel, by decide +kernel, by decide +kernel⟩
theorem ms_X11_within : Cond.static yX11_within ∈ lw_tbl := ik_in2 (List.mem_of_getElem? (i := 159) rfl)
theorem fl_X11_19 : ik_FL RX11 19 11 1 := ⟨RX11, TX11, 15, tyX11, rfl, by decide, inX11, tyX11_ok, nmX11, rfl, ik_in2 (List.mem_of_getElem? (i := 109) rfl)⟩
theorem fl_X4_11 : ik_FL RX4 11 4 0 := ⟨RX4, TX4, 2, tyX4, rfl, by decide, inX4, tyX4_ok, nmX4, rfl, ik_in1 (List.mem_of_getElem? (i := 45) rfl)⟩
theorem ml_X11_86 : Cond.methodLink RX11 86 yX4_setWide ∈ lw_tbl := ik_in2 (List.mem_of_getElem? (i := 161) rfl)
theorem mf_X4_setWide : ik_MF yX4_setWide cX4_setWide 3 (none) 2 := ⟨ik_in2 (List.mem_of_getElem? (i := 164) rfl), ik_in1 (List.mem_of_getElem? (i := 3) rfl), by decide +kernel, by decide +kernel, by decide +kernel⟩
theorem mv_X4_setWide : ik_MV yX4_setWide := ⟨ik_in2 (List.mem_of_getElem? (i := 162) rfl), ik_in2 (List.mem_of_getElem? (i := 163) rfl)⟩
theorem fw_X11_309 : ik_FW RX11 309 11 13 3 := ⟨RX11, TX11, 15, tyX11, rfl, by decide, inX11, tyX11_ok, nmX11, rfl, ik_in2 (List.mem_of_getElem? (i := 121) rfl), rfl, rfl⟩
theorem ml_X11_90 : Cond.methodLink RX11 90 yX11_changed ∈ lw_tbl := ik_in2 (List.mem_of_getElem? (i := 165) rfl)
theorem mf_X11_changed : ik_MF yX11_changed cX11_changed 1 (none) 0 := ⟨ik_in2 (List.mem_of_getElem? (i := 168) rfl), ik_in1 (List.mem_of_getElem? (i := 1) rfl), by decide +kernel, by decide +kernel, by decide +kernel⟩
theorem mv_X11_changed : ik_MV yX11_changed := ⟨ik_in2 (List.mem_of_getElem? (i := 167) rfl), ik_inS (List.mem_of_getElem? (i := 0) (by decide +kernel))⟩
theorem fl_X4_15 : ik_FL RX4 15 4 1 := ⟨RX4, TX4, 2, tyX4, rfl, by decide, inX4, tyX4_ok, nmX4, rfl, ik_in1 (List.mem_of_getElem? (i := 46) rfl)⟩
theorem ml_X11_93 : Cond.methodLink RX11 93 yX4_setJoined ∈ lw_tbl := ik_in2 (List.mem_of_getElem? (i := 173) rfl)
theorem mf_X4_setJoined : ik_MF yX4_setJoined cX4_setJoined 4 (none) 3 := ⟨ik_in2 (List.mem_of_getElem? (i := 176) rfl), ik_in1 (List.mem_of_getElem? (i := 3) rfl), by decide +kernel, by decide +kernel, by decide +kernel⟩
theorem mv_X4_setJoined : ik_MV yX4_setJoined := ⟨ik_in2 (List.mem_of_getElem? (i := 174) rfl), ik_in2 (List.mem_of_getElem? (i := 175) rfl)⟩
theorem fl_X11_10 : ik_FL RX11 10 11 0 := ⟨RX11, TX11, 15, tyX11, rfl, by decide, inX11, tyX11_ok, nmX11, rfl, ik_in2 (List.mem_of_getElem? (i := 108) rfl)⟩
theorem fl_X9_13 : ik_FL RX9 13 9 1 := ⟨RX9, TX9, 2, tyX9, rfl, by decide, inX9, tyX9_ok, nmX9, rfl, ik_in1 (List.mem_of_getElem? (i := 32) rfl)⟩
theorem ml_X11_97 : Cond.methodLink RX11 97 yX9_takes ∈ lw_tbl := ik_in2 (List.mem_of_getElem? (i := 181) rfl)
theorem mf_X9_takes : ik_MF yX9_takes cX9_takes 2 (some .boolean) 1 := ⟨ik_in2 (List.mem_of_getElem? (i := 184) rfl), ik_in1 (List.mem_of_getElem? (i := 2) rfl), by decide +kernel, by decide +kernel, by decide +kernel⟩
theorem mv_X9_takes : ik_MV yX9_takes := ⟨ik_in2 (List.mem_of_getElem? (i := 182) rfl), ik_in2 (List.mem_of_getElem? (i := 183) rfl)⟩
theorem fl_X9_9 : ik_FL RX9 9 9 0 := ⟨RX9, TX9, 2, tyX9, rfl, by decide, inX9, tyX9_ok, nmX9, rfl, ik_in1 (List.mem_of_getElem? (i := 31) rfl)⟩
theorem fw_X9_13 : ik_FW RX9 13 9 1 0 := ⟨RX9, TX9, 2, tyX9, rfl, by decide, inX9, tyX9_ok, nmX9, rfl, ik_in1 (List.mem_of_getElem? (i := 32) rfl), rfl, rfl⟩
theorem ml_X11_101 : Cond.methodLink RX11 101 yX9_push ∈ lw_tbl := ik_in2 (List.mem_of_getElem? (i := 185) rfl)
theorem mf_X9_push : ik_MF yX9_push cX9_push 3 (none) 1 := ⟨ik_in2 (List.mem_of_getElem? (i := 188) rfl), ik_in1 (List.mem_of_getElem? (i := 2) rfl), by decide +kernel, by decide +kernel, by decide +kernel⟩
theorem mv_X9_push : ik_MV yX9_push := ⟨ik_in2 (List.mem_of_getElem? (i := 186) rfl), ik_in2 (List.mem_of_getElem? (i := 187) rfl)⟩
theorem ml_X11_105 : Cond.methodLink RX11 105 yX9_length ∈ lw_tbl := ik_in2 (List.mem_of_getElem? (i := 189) rfl)
theorem mf_X9_length : ik_MF yX9_length cX9_length 1 (some .int) 0 := ⟨ik_in2 (List.mem_of_getElem? (i := 192) rfl), ik_in1 (List.mem_of_getElem? (i := 2) rfl), by decide +kernel, by decide +kernel, by decide +kernel⟩
theorem mv_X9_length : ik_MV yX9_length := ⟨ik_in2 (List.mem_of_getElem? (i := 190) rfl), ik_in2 (List.mem_of_getElem? (i := 191) rfl)⟩
theorem fl_X11_26 : ik_FL RX11 26 11 2 := ⟨RX11, TX11, 15, tyX11, rfl, by decide, inX11, tyX11_ok, nmX11, rfl, ik_in2 (List.mem_of_getElem? (i := 110) rfl)⟩
theorem fl_X6_36 : ik_FL RX6 36 6 6 := ⟨RX6, TX6, 7, tyX6, rfl, by decide, inX6, tyX6_ok, nmX6, rfl, ik_in1 (List.mem_of_getElem? (i := 83) rfl)⟩
theorem ml_X11_109 : Cond.methodLink RX11 109 yX6_full ∈ lw_tbl := ik_in2 (List.mem_of_getElem? (i := 197) rfl)
theorem mf_X6_full : ik_MF yX6_full cX6_full 1 (some .boolean) 0 := ⟨ik_in2 (List.mem_of_getElem? (i := 200) rfl), ik_in1 (List.mem_of_getElem? (i := 4) rfl), by decide +kernel, by decide +kernel, by decide +kernel⟩
theorem mv_X6_full : ik_MV yX6_full := ⟨ik_in2 (List.mem_of_getElem? (i := 198) rfl), ik_in2 (List.mem_of_getElem? (i := 199) rfl)⟩
theorem fl_X6_14 : ik_FL RX6 14 6 0 := ⟨RX6, TX6, 7, tyX6, rfl, by decide, inX6, tyX6_ok, nmX6, rfl, ik_in1 (List.mem_of_getElem? (i := 77) rfl)⟩
theorem fl_X10_15 : ik_FL RX10 15 10 0 := ⟨RX10, TX10, 3, tyX10, rfl, by decide, inX10, tyX10_ok, nmX10, rfl, ik_in1 (List.mem_of_getElem? (i := 67) rfl)⟩
theorem ml_X10_28 : Cond.methodLink RX10 28 yX10_stands ∈ lw_tbl := ik_in2 (List.mem_of_getElem? (i := 209) rfl)
theorem mf_X10_stands : ik_MF yX10_stands cX10_stands 2 (some .boolean) 1 := ⟨ik_in2 (List.mem_of_getElem? (i := 212) rfl), ik_in1 (List.mem_of_getElem? (i := 5) rfl), by decide +kernel, by decide +kernel, by decide +kernel⟩
theorem mv_X10_stands : ik_MV yX10_stands := ⟨ik_in2 (List.mem_of_getElem? (i := 211) rfl), ik_inS (List.mem_of_getElem? (i := 1) (by decide +kernel))⟩
theorem fl_X10_25 : ik_FL RX10 25 10 2 := ⟨RX10, TX10, 3, tyX10, rfl, by decide, inX10, tyX10_ok, nmX10, rfl, ik_in1 (List.mem_of_getElem? (i := 69) rfl)⟩
theorem ml_X6_40 : Cond.methodLink RX6 40 yX10_wipe ∈ lw_tbl := ik_in2 (List.mem_of_getElem? (i := 205) rfl)
theorem mf_X10_wipe : ik_MF yX10_wipe cX10_wipe 2 (none) 1 := ⟨ik_in2 (List.mem_of_getElem? (i := 208) rfl), ik_in1 (List.mem_of_getElem? (i := 5) rfl), by decide +kernel, by decide +kernel, by decide +kernel⟩
theorem mv_X10_wipe : ik_MV yX10_wipe := ⟨ik_in2 (List.mem_of_getElem? (i := 206) rfl), ik_in2 (List.mem_of_getElem? (i := 207) rfl)⟩
theorem ml_X6_43 : Cond.methodLink RX6 43 yX9_at ∈ lw_tbl := ik_in2 (List.mem_of_getElem? (i := 213) rfl)
theorem mf_X9_at : ik_MF yX9_at cX9_at 2 (some .int) 1 := ⟨ik_in2 (List.mem_of_getElem? (i := 216) rfl), ik_in1 (List.mem_of_getElem? (i := 2) rfl), by decide +kernel, by decide +kernel, by decide +kernel⟩
theorem mv_X9_at : ik_MV yX9_at := ⟨ik_in2 (List.mem_of_getElem? (i := 214) rfl), ik_in2 (List.mem_of_getElem? (i := 215) rfl)⟩
theorem ml_X6_49 : Cond.methodLinkNest RX6 49 yX11_isLetter "InkBars" ∈ lw_tbl := ik_in2 (List.mem_of_getElem? (i := 217) rfl)
theorem mf_X11_isLetter : ik_MF yX11_isLetter cX11_isLetter 1 (some .boolean) 1 := ⟨ik_in2 (List.mem_of_getElem? (i := 219) rfl), ik_in1 (List.mem_of_getElem? (i := 1) rfl), by decide +kernel, by decide +kernel, by decide +kernel⟩
theorem ms_X11_isLetter : Cond.static yX11_isLetter ∈ lw_tbl := ik_in2 (List.mem_of_getElem? (i := 218) rfl)
theorem fl_X10_21 : ik_FL RX10 21 10 1 := ⟨RX10, TX10, 3, tyX10, rfl, by decide, inX10, tyX10_ok, nmX10, rfl, ik_in1 (List.mem_of_getElem? (i := 68) rfl)⟩
theorem ml_X6_53 : Cond.methodLink RX6 53 yX10_grow ∈ lw_tbl := ik_in2 (List.mem_of_getElem? (i := 220) rfl)
theorem mf_X10_grow : ik_MF yX10_grow cX10_grow 3 (some .boolean) 2 := ⟨ik_in2 (List.mem_of_getElem? (i := 223) rfl), ik_in1 (List.mem_of_getElem? (i := 5) rfl), by decide +kernel, by decide +kernel, by decide +kernel⟩
theorem mv_X10_grow : ik_MV yX10_grow := ⟨ik_in2 (List.mem_of_getElem? (i := 221) rfl), ik_in2 (List.mem_of_getElem? (i := 222) rfl)⟩
theorem ml_X10_36 : Cond.methodLink RX10 36 yX10_letter ∈ lw_tbl := ik_in2 (List.mem_of_getElem? (i := 228) rfl)
theorem mf_X10_letter : ik_MF yX10_letter cX10_letter 4 (some .int) 2 := ⟨ik_in2 (List.mem_of_getElem? (i := 231) rfl), ik_in1 (List.mem_of_getElem? (i := 5) rfl), by decide +kernel, by decide +kernel, by decide +kernel⟩
theorem mv_X10_letter : ik_MV yX10_letter := ⟨ik_in2 (List.mem_of_getElem? (i := 229) rfl), ik_in2 (List.mem_of_getElem? (i := 230) rfl)⟩
theorem ml_X6_57 : Cond.methodLink RX6 57 yX10_compare ∈ lw_tbl := ik_in2 (List.mem_of_getElem? (i := 224) rfl)
theorem mf_X10_compare : ik_MF yX10_compare cX10_compare 5 (some .int) 2 := ⟨ik_in2 (List.mem_of_getElem? (i := 227) rfl), ik_in1 (List.mem_of_getElem? (i := 5) rfl), by decide +kernel, by decide +kernel, by decide +kernel⟩
theorem mv_X10_compare : ik_MV yX10_compare := ⟨ik_in2 (List.mem_of_getElem? (i := 225) rfl), ik_in2 (List.mem_of_getElem? (i := 226) rfl)⟩
theorem ml_X11_113 : Cond.methodLink RX11 113 yX6_read ∈ lw_tbl := ik_in2 (List.mem_of_getElem? (i := 201) rfl)
theorem mf_X6_read : ik_MF yX6_read cX6_read 5 (some .boolean) 2 := ⟨ik_in2 (List.mem_of_getElem? (i := 204) rfl), ik_in1 (List.mem_of_getElem? (i := 4) rfl), by decide +kernel, by decide +kernel, by decide +kernel⟩
theorem mv_X6_read : ik_MV yX6_read := ⟨ik_in2 (List.mem_of_getElem? (i := 202) rfl), ik_in2 (List.mem_of_getElem? (i := 203) rfl)⟩
theorem ml_X11_117 : Cond.methodLink RX11 117 yX9_clear ∈ lw_tbl := ik_in2 (List.mem_of_getElem? (i := 232) rfl)
theorem mf_X9_clear : ik_MF yX9_clear cX9_clear 1 (none) 0 := ⟨ik_in2 (List.mem_of_getElem? (i := 235) rfl), ik_in1 (List.mem_of_getElem? (i := 2) rfl), by decide +kernel, by decide +kernel, by decide +kernel⟩
theorem mv_X9_clear : ik_MV yX9_clear := ⟨ik_in2 (List.mem_of_getElem? (i := 233) rfl), ik_in2 (List.mem_of_getElem? (i := 234) rfl)⟩
theorem ml_X6_61 : Cond.methodLink RX6 61 yX6_full ∈ lw_tbl := ik_in3 (List.mem_of_getElem? (i := 0) rfl)
theorem fl_X6_20 : ik_FL RX6 20 6 1 := ⟨RX6, TX6, 7, tyX6, rfl, by decide, inX6, tyX6_ok, nmX6, rfl, ik_in1 (List.mem_of_getElem? (i := 78) rfl)⟩
theorem fl_X6_24 : ik_FL RX6 24 6 2 := ⟨RX6, TX6, 7, tyX6, rfl, by decide, inX6, tyX6_ok, nmX6, rfl, ik_in1 (List.mem_of_getElem? (i := 79) rfl)⟩
theorem fl_X6_27 : ik_FL RX6 27 6 3 := ⟨RX6, TX6, 7, tyX6, rfl, by decide, inX6, tyX6_ok, nmX6, rfl, ik_in1 (List.mem_of_getElem? (i := 80) rfl)⟩
theorem fl_X6_30 : ik_FL RX6 30 6 4 := ⟨RX6, TX6, 7, tyX6, rfl, by decide, inX6, tyX6_ok, nmX6, rfl, ik_in1 (List.mem_of_getElem? (i := 81) rfl)⟩
theorem fl_X6_33 : ik_FL RX6 33 6 5 := ⟨RX6, TX6, 7, tyX6, rfl, by decide, inX6, tyX6_ok, nmX6, rfl, ik_in1 (List.mem_of_getElem? (i := 82) rfl)⟩
theorem fw_X6_36 : ik_FW RX6 36 6 6 0 := ⟨RX6, TX6, 7, tyX6, rfl, by decide, inX6, tyX6_ok, nmX6, rfl, ik_in1 (List.mem_of_getElem? (i := 83) rfl), rfl, rfl⟩
theorem ml_X11_120 : Cond.methodLink RX11 120 yX6_add ∈ lw_tbl := ik_in2 (List.mem_of_getElem? (i := 236) rfl)
theorem mf_X6_add : ik_MF yX6_add cX6_add 6 (some .int) 4 := ⟨ik_in2 (List.mem_of_getElem? (i := 239) rfl), ik_in1 (List.mem_of_getElem? (i := 4) rfl), by decide +kernel, by decide +kernel, by decide +kernel⟩
theorem mv_X6_add : ik_MV yX6_add := ⟨ik_in2 (List.mem_of_getElem? (i := 237) rfl), ik_in2 (List.mem_of_getElem? (i := 238) rfl)⟩
theorem ml_X11_124 : Cond.methodLink RX11 124 yX6_has ∈ lw_tbl := ik_in3 (List.mem_of_getElem? (i := 5) rfl)
theorem mf_X6_has : ik_MF yX6_has cX6_has 2 (some .boolean) 1 := ⟨ik_in3 (List.mem_of_getElem? (i := 8) rfl), ik_in1 (List.mem_of_getElem? (i := 4) rfl), by decide +kernel, by decide +kernel, by decide +kernel⟩
theorem mv_X6_has : ik_MV yX6_has := ⟨ik_in3 (List.mem_of_getElem? (i := 6) rfl), ik_in3 (List.mem_of_getElem? (i := 7) rfl)⟩
theorem ml_X10_32 : Cond.methodLink RX10 32 yX10_length ∈ lw_tbl := ik_in3 (List.mem_of_getElem? (i := 17) rfl)
theorem mf_X10_length : ik_MF yX10_length cX10_length 2 (some .int) 1 := ⟨ik_in3 (List.mem_of_getElem? (i := 20) rfl), ik_in1 (List.mem_of_getElem? (i := 5) rfl), by decide +kernel, by decide +kernel, by decide +kernel⟩
theorem mv_X10_length : ik_MV yX10_length := ⟨ik_in3 (List.mem_of_getElem? (i := 18) rfl), ik_in3 (List.mem_of_getElem? (i := 19) rfl)⟩
theorem ml_X10_39 : Cond.methodLink RX10 39 yX4_wideOf ∈ lw_tbl := ik_in3 (List.mem_of_getElem? (i := 21) rfl)
theorem mf_X4_wideOf : ik_MF yX4_wideOf cX4_wideOf 2 (some .int) 1 := ⟨ik_in3 (List.mem_of_getElem? (i := 24) rfl), ik_in1 (List.mem_of_getElem? (i := 3) rfl), by decide +kernel, by decide +kernel, by decide +kernel⟩
theorem mv_X4_wideOf : ik_MV yX4_wideOf := ⟨ik_in3 (List.mem_of_getElem? (i := 22) rfl), ik_in3 (List.mem_of_getElem? (i := 23) rfl)⟩
theorem ml_X10_44 : Cond.methodLink RX10 44 yX4_joinOf ∈ lw_tbl := ik_in3 (List.mem_of_getElem? (i := 25) rfl)
theorem mf_X4_joinOf : ik_MF yX4_joinOf cX4_joinOf 3 (some .int) 2 := ⟨ik_in3 (List.mem_of_getElem? (i := 28) rfl), ik_in1 (List.mem_of_getElem? (i := 3) rfl), by decide +kernel, by decide +kernel, by decide +kernel⟩
theorem mv_X4_joinOf : ik_MV yX4_joinOf := ⟨ik_in3 (List.mem_of_getElem? (i := 26) rfl), ik_in3 (List.mem_of_getElem? (i := 27) rfl)⟩
theorem ml_X6_65 : Cond.methodLink RX6 65 yX10_wide ∈ lw_tbl := ik_in3 (List.mem_of_getElem? (i := 13) rfl)
theorem mf_X10_wide : ik_MF yX10_wide cX10_wide 8 (some .int) 2 := ⟨ik_in3 (List.mem_of_getElem? (i := 16) rfl), ik_in1 (List.mem_of_getElem? (i := 5) rfl), by decide +kernel, by decide +kernel, by decide +kernel⟩
theorem mv_X10_wide : ik_MV yX10_wide := ⟨ik_in3 (List.mem_of_getElem? (i := 14) rfl), ik_in3 (List.mem_of_getElem? (i := 15) rfl)⟩
theorem ml_X11_127 : Cond.methodLink RX11 127 yX6_wide ∈ lw_tbl := ik_in3 (List.mem_of_getElem? (i := 9) rfl)
theorem mf_X6_wide : ik_MF yX6_wide cX6_wide 3 (some .int) 2 := ⟨ik_in3 (List.mem_of_getElem? (i := 12) rfl), ik_in1 (List.mem_of_getElem? (i := 4) rfl), by decide +kernel, by decide +kernel, by decide +kernel⟩
theorem mv_X6_wide : ik_MV yX6_wide := ⟨ik_in3 (List.mem_of_getElem? (i := 10) rfl), ik_in3 (List.mem_of_getElem? (i := 11) rfl)⟩
theorem fl_X11_33 : ik_FL RX11 33 11 3 := ⟨RX11, TX11, 15, tyX11, rfl, by decide, inX11, tyX11_ok, nmX11, rfl, ik_in2 (List.mem_of_getElem? (i := 111) rfl)⟩
theorem fl_X0_39 : ik_FL RX0 39 0 9 := ⟨RX0, TX0, 12, tyX0, rfl, by decide, inX0, tyX0_ok, nmX0, rfl, ik_in1 (List.mem_of_getElem? (i := 114) rfl)⟩
theorem ml_X11_131 : Cond.methodLink RX11 131 yX0_full ∈ lw_tbl := ik_in3 (List.mem_of_getElem? (i := 33) rfl)
theorem mf_X0_full : ik_MF yX0_full cX0_full 1 (some .boolean) 0 := ⟨ik_in3 (List.mem_of_getElem? (i := 36) rfl), ik_in1 (List.mem_of_getElem? (i := 7) rfl), by decide +kernel, by decide +kernel, by decide +kernel⟩
theorem mv_X0_full : ik_MV yX0_full := ⟨ik_in3 (List.mem_of_getElem? (i := 34) rfl), ik_in3 (List.mem_of_getElem? (i := 35) rfl)⟩
theorem ml_X0_49 : Cond.methodLink RX0 49 yX0_full ∈ lw_tbl := ik_in3 (List.mem_of_getElem? (i := 41) rfl)
theorem fl_X0_9 : ik_FL RX0 9 0 0 := ⟨RX0, TX0, 12, tyX0, rfl, by decide, inX0, tyX0_ok, nmX0, rfl, ik_in1 (List.mem_of_getElem? (i := 105) rfl)⟩
theorem fl_X0_15 : ik_FL RX0 15 0 1 := ⟨RX0, TX0, 12, tyX0, rfl, by decide, inX0, tyX0_ok, nmX0, rfl, ik_in1 (List.mem_of_getElem? (i := 106) rfl)⟩
theorem fl_X0_18 : ik_FL RX0 18 0 2 := ⟨RX0, TX0, 12, tyX0, rfl, by decide, inX0, tyX0_ok, nmX0, rfl, ik_in1 (List.mem_of_getElem? (i := 107) rfl)⟩
theorem fw_X0_39 : ik_FW RX0 39 0 9 0 := ⟨RX0, TX0, 12, tyX0, rfl, by decide, inX0, tyX0_ok, nmX0, rfl, ik_in1 (List.mem_of_getElem? (i := 114) rfl), rfl, rfl⟩
theorem ml_X11_132 : Cond.methodLink RX11 132 yX0_add ∈ lw_tbl := ik_in3 (List.mem_of_getElem? (i := 37) rfl)
theorem mf_X0_add : ik_MF yX0_add cX0_add 4 (some .int) 3 := ⟨ik_in3 (List.mem_of_getElem? (i := 40) rfl), ik_in1 (List.mem_of_getElem? (i := 7) rfl), by decide +kernel, by decide +kernel, by decide +kernel⟩
theorem mv_X0_add : ik_MV yX0_add := ⟨ik_in3 (List.mem_of_getElem? (i := 38) rfl), ik_in3 (List.mem_of_getElem? (i := 39) rfl)⟩
theorem fl_X11_40 : ik_FL RX11 40 11 4 := ⟨RX11, TX11, 15, tyX11, rfl, by decide, inX11, tyX11_ok, nmX11, rfl, ik_in2 (List.mem_of_getElem? (i := 112) rfl)⟩
theorem fl_X8_40 : ik_FL RX8 40 8 7 := ⟨RX8, TX8, 11, tyX8, rfl, by decide, inX8, tyX8_ok, nmX8, rfl, ik_in1 (List.mem_of_getElem? (i := 157) rfl)⟩
theorem ml_X11_135 : Cond.methodLink RX11 135 yX8_full ∈ lw_tbl := ik_in3 (List.mem_of_getElem? (i := 46) rfl)
theorem mf_X8_full : ik_MF yX8_full cX8_full 1 (some .boolean) 0 := ⟨ik_in3 (List.mem_of_getElem? (i := 49) rfl), ik_in1 (List.mem_of_getElem? (i := 8) rfl), by decide +kernel, by decide +kernel, by decide +kernel⟩
theorem mv_X8_full : ik_MV yX8_full := ⟨ik_in3 (List.mem_of_getElem? (i := 47) rfl), ik_in3 (List.mem_of_getElem? (i := 48) rfl)⟩
theorem ml_X11_136 : Cond.methodLink RX11 136 yX0_count ∈ lw_tbl := ik_in3 (List.mem_of_getElem? (i := 50) rfl)
theorem mf_X0_count : ik_MF yX0_count cX0_count 1 (some .int) 0 := ⟨ik_in3 (List.mem_of_getElem? (i := 53) rfl), ik_in1 (List.mem_of_getElem? (i := 7) rfl), by decide +kernel, by decide +kernel, by decide +kernel⟩
theorem mv_X0_count : ik_MV yX0_count := ⟨ik_in3 (List.mem_of_getElem? (i := 51) rfl), ik_in3 (List.mem_of_getElem? (i := 52) rfl)⟩
theorem fw_X8_44 : ik_FW RX8 44 8 8 0 := ⟨RX8, TX8, 11, tyX8, rfl, by decide, inX8, tyX8_ok, nmX8, rfl, ik_in1 (List.mem_of_getElem? (i := 158) rfl), rfl, rfl⟩
theorem ml_X8_47 : Cond.methodLink RX8 47 yX9_at ∈ lw_tbl := ik_in3 (List.mem_of_getElem? (i := 58) rfl)
theorem ml_X8_57 : Cond.methodLinkNest RX8 57 yX11_isLetter "InkBars" ∈ lw_tbl := ik_in3 (List.mem_of_getElem? (i := 63) rfl)
theorem ml_X8_69 : Cond.methodLinkNest RX8 69 yX11_isDigit "InkBars" ∈ lw_tbl := ik_in3 (List.mem_of_getElem? (i := 64) rfl)
theorem mf_X11_isDigit : ik_MF yX11_isDigit cX11_isDigit 1 (some .boolean) 1 := ⟨ik_in3 (List.mem_of_getElem? (i := 66) rfl), ik_in1 (List.mem_of_getElem? (i := 1) rfl), by decide +kernel, by decide +kernel, by decide +kernel⟩
theorem ms_X11_isDigit : Cond.static yX11_isDigit ∈ lw_tbl := ik_in3 (List.mem_of_getElem? (i := 65) rfl)
theorem fl_X8_44 : ik_FL RX8 44 8 8 := ⟨RX8, TX8, 11, tyX8, rfl, by decide, inX8, tyX8_ok, nmX8, rfl, ik_in1 (List.mem_of_getElem? (i := 158) rfl)⟩
theorem ml_X8_61 : Cond.methodLink RX8 61 yX8_slot ∈ lw_tbl := ik_in3 (List.mem_of_getElem? (i := 67) rfl)
theorem mf_X8_slot : ik_MF yX8_slot cX8_slot 2 (some .int) 2 := ⟨ik_in3 (List.mem_of_getElem? (i := 69) rfl), ik_in1 (List.mem_of_getElem? (i := 8) rfl), by decide +kernel, by decide +kernel, by decide +kernel⟩
theorem ms_X8_slot : Cond.static yX8_slot ∈ lw_tbl := ik_in3 (List.mem_of_getElem? (i := 68) rfl)
theorem fl_X8_16 : ik_FL RX8 16 8 0 := ⟨RX8, TX8, 11, tyX8, rfl, by decide, inX8, tyX8_ok, nmX8, rfl, ik_in1 (List.mem_of_getElem? (i := 150) rfl)⟩
theorem ml_X8_72 : Cond.methodLink RX8 72 yX10_wipe ∈ lw_tbl := ik_in3 (List.mem_of_getElem? (i := 70) rfl)
theorem fl_X8_20 : ik_FL RX8 20 8 1 := ⟨RX8, TX8, 11, tyX8, rfl, by decide, inX8, tyX8_ok, nmX8, rfl, ik_in1 (List.mem_of_getElem? (i := 151) rfl)⟩
theorem fl_X8_24 : ik_FL RX8 24 8 2 := ⟨RX8, TX8, 11, tyX8, rfl, by decide, inX8, tyX8_ok, nmX8, rfl, ik_in1 (List.mem_of_getElem? (i := 152) rfl)⟩
theorem ml_X8_65 : Cond.methodLink RX8 65 yX10_grow ∈ lw_tbl := ik_in3 (List.mem_of_getElem? (i := 71) rfl)
theorem ml_X8_53 : Cond.methodLink RX8 53 yX8_beginToken ∈ lw_tbl := ik_in3 (List.mem_of_getElem? (i := 59) rfl)
theorem mf_X8_beginToken : ik_MF yX8_beginToken cX8_beginToken 5 (some .int) 3 := ⟨ik_in3 (List.mem_of_getElem? (i := 62) rfl), ik_in1 (List.mem_of_getElem? (i := 8) rfl), by decide +kernel, by decide +kernel, by decide +kernel⟩
theorem mv_X8_beginToken : ik_MV yX8_beginToken := ⟨ik_in3 (List.mem_of_getElem? (i := 61) rfl), ik_inS (List.mem_of_getElem? (i := 2) (by decide +kernel))⟩
theorem ml_X11_139 : Cond.methodLink RX11 139 yX8_read ∈ lw_tbl := ik_in3 (List.mem_of_getElem? (i := 54) rfl)
theorem mf_X8_read : ik_MF yX8_read cX8_read 9 (some .int) 3 := ⟨ik_in3 (List.mem_of_getElem? (i := 57) rfl), ik_in1 (List.mem_of_getElem? (i := 8) rfl), by decide +kernel, by decide +kernel, by decide +kernel⟩
theorem mv_X8_read : ik_MV yX8_read := ⟨ik_in3 (List.mem_of_getElem? (i := 55) rfl), ik_in3 (List.mem_of_getElem? (i := 56) rfl)⟩
theorem ml_X8_75 : Cond.methodLink RX8 75 yX8_full ∈ lw_tbl := ik_in3 (List.mem_of_getElem? (i := 76) rfl)
theorem fl_X8_31 : ik_FL RX8 31 8 4 := ⟨RX8, TX8, 11, tyX8, rfl, by decide, inX8, tyX8_ok, nmX8, rfl, ik_in1 (List.mem_of_getElem? (i := 154) rfl)⟩
theorem fl_X8_34 : ik_FL RX8 34 8 5 := ⟨RX8, TX8, 11, tyX8, rfl, by decide, inX8, tyX8_ok, nmX8, rfl, ik_in1 (List.mem_of_getElem? (i := 155) rfl)⟩
theorem fl_X8_37 : ik_FL RX8 37 8 6 := ⟨RX8, TX8, 11, tyX8, rfl, by decide, inX8, tyX8_ok, nmX8, rfl, ik_in1 (List.mem_of_getElem? (i := 156) rfl)⟩
theorem fw_X8_40 : ik_FW RX8 40 8 7 0 := ⟨RX8, TX8, 11, tyX8, rfl, by decide, inX8, tyX8_ok, nmX8, rfl, ik_in1 (List.mem_of_getElem? (i := 157) rfl), rfl, rfl⟩
theorem ml_X8_101 : Cond.methodLink RX8 101 yX8_has ∈ lw_tbl := ik_in3 (List.mem_of_getElem? (i := 85) rfl)
theorem mf_X8_has : ik_MF yX8_has cX8_has 2 (some .boolean) 1 := ⟨ik_in3 (List.mem_of_getElem? (i := 88) rfl), ik_in1 (List.mem_of_getElem? (i := 8) rfl), by decide +kernel, by decide +kernel, by decide +kernel⟩
theorem mv_X8_has : ik_MV yX8_has := ⟨ik_in3 (List.mem_of_getElem? (i := 86) rfl), ik_in3 (List.mem_of_getElem? (i := 87) rfl)⟩
theorem ml_X8_106 : Cond.methodLink RX8 106 yX8_stands ∈ lw_tbl := ik_in3 (List.mem_of_getElem? (i := 81) rfl)
theorem mf_X8_stands : ik_MF yX8_stands cX8_stands 3 (some .boolean) 2 := ⟨ik_in3 (List.mem_of_getElem? (i := 84) rfl), ik_in1 (List.mem_of_getElem? (i := 8) rfl), by decide +kernel, by decide +kernel, by decide +kernel⟩
theorem mv_X8_stands : ik_MV yX8_stands := ⟨ik_in3 (List.mem_of_getElem? (i := 83) rfl), ik_inS (List.mem_of_getElem? (i := 3) (by decide +kernel))⟩
theorem ml_X8_79 : Cond.methodLink RX8 79 yX8_barAt ∈ lw_tbl := ik_in3 (List.mem_of_getElem? (i := 77) rfl)
theorem mf_X8_barAt : ik_MF yX8_barAt cX8_barAt 3 (some .int) 2 := ⟨ik_in3 (List.mem_of_getElem? (i := 80) rfl), ik_in1 (List.mem_of_getElem? (i := 8) rfl), by decide +kernel, by decide +kernel, by decide +kernel⟩
theorem mv_X8_barAt : ik_MV yX8_barAt := ⟨ik_in3 (List.mem_of_getElem? (i := 78) rfl), ik_in3 (List.mem_of_getElem? (i := 79) rfl)⟩
theorem ml_X8_86 : Cond.methodLink RX8 86 yX10_letter ∈ lw_tbl := ik_in3 (List.mem_of_getElem? (i := 93) rfl)
theorem ml_X8_89 : Cond.methodLink RX8 89 yX10_length ∈ lw_tbl := ik_in3 (List.mem_of_getElem? (i := 94) rfl)
theorem fw_X8_92 : ik_FW RX8 92 8 9 0 := ⟨RX8, TX8, 11, tyX8, rfl, by decide, inX8, tyX8_ok, nmX8, rfl, ik_in1 (List.mem_of_getElem? (i := 159) rfl), rfl, rfl⟩
theorem fw_X8_95 : ik_FW RX8 95 8 10 0 := ⟨RX8, TX8, 11, tyX8, rfl, by decide, inX8, tyX8_ok, nmX8, rfl, ik_in1 (List.mem_of_getElem? (i := 160) rfl), rfl, rfl⟩
theorem ml_X8_82 : Cond.methodLink RX8 82 yX8_heedArticle ∈ lw_tbl := ik_in3 (List.mem_of_getElem? (i := 89) rfl)
theorem mf_X8_heedArticle : ik_MF yX8_heedArticle cX8_heedArticle 3 (none) 2 := ⟨ik_in3 (List.mem_of_getElem? (i := 92) rfl), ik_in1 (List.mem_of_getElem? (i := 8) rfl), by decide +kernel, by decide +kernel, by decide +kernel⟩
theorem mv_X8_heedArticle : ik_MV yX8_heedArticle := ⟨ik_in3 (List.mem_of_getElem? (i := 91) rfl), ik_inS (List.mem_of_getElem? (i := 4) (by decide +kernel))⟩
theorem ml_X11_142 : Cond.methodLink RX11 142 yX8_add ∈ lw_tbl := ik_in3 (List.mem_of_getElem? (i := 72) rfl)
theorem mf_X8_add : ik_MF yX8_add cX8_add 3 (some .int) 1 := ⟨ik_in3 (List.mem_of_getElem? (i := 75) rfl), ik_in1 (List.mem_of_getElem? (i := 8) rfl), by decide +kernel, by decide +kernel, by decide +kernel⟩
theorem mv_X8_add : ik_MV yX8_add := ⟨ik_in3 (List.mem_of_getElem? (i := 73) rfl), ik_in3 (List.mem_of_getElem? (i := 74) rfl)⟩
theorem fl_X11_47 : ik_FL RX11 47 11 5 := ⟨RX11, TX11, 15, tyX11, rfl, by decide, inX11, tyX11_ok, nmX11, rfl, ik_in2 (List.mem_of_getElem? (i := 113) rfl)⟩
theorem fl_X7_15 : ik_FL RX7 15 7 1 := ⟨RX7, TX7, 11, tyX7, rfl, by decide, inX7, tyX7_ok, nmX7, rfl, ik_in1 (List.mem_of_getElem? (i := 192) rfl)⟩
theorem ml_X7_25 : Cond.methodLink RX7 25 yX9_at ∈ lw_tbl := ik_in3 (List.mem_of_getElem? (i := 103) rfl)
theorem fw_X7_65 : ik_FW RX7 65 7 5 3 := ⟨RX7, TX7, 11, tyX7, rfl, by decide, inX7, tyX7_ok, nmX7, rfl, ik_in1 (List.mem_of_getElem? (i := 196) rfl), rfl, rfl⟩
theorem fw_X7_68 : ik_FW RX7 68 7 6 0 := ⟨RX7, TX7, 11, tyX7, rfl, by decide, inX7, tyX7_ok, nmX7, rfl, ik_in1 (List.mem_of_getElem? (i := 197) rfl), rfl, rfl⟩
theorem fw_X7_71 : ik_FW RX7 71 7 7 0 := ⟨RX7, TX7, 11, tyX7, rfl, by decide, inX7, tyX7_ok, nmX7, rfl, ik_in1 (List.mem_of_getElem? (i := 198) rfl), rfl, rfl⟩
theorem fw_X7_45 : ik_FW RX7 45 7 9 0 := ⟨RX7, TX7, 11, tyX7, rfl, by decide, inX7, tyX7_ok, nmX7, rfl, ik_in1 (List.mem_of_getElem? (i := 200) rfl), rfl, rfl⟩
theorem fw_X7_61 : ik_FW RX7 61 7 10 3 := ⟨RX7, TX7, 11, tyX7, rfl, by decide, inX7, tyX7_ok, nmX7, rfl, ik_in1 (List.mem_of_getElem? (i := 201) rfl), rfl, rfl⟩
theorem fl_X7_45 : ik_FL RX7 45 7 9 := ⟨RX7, TX7, 11, tyX7, rfl, by decide, inX7, tyX7_ok, nmX7, rfl, ik_in1 (List.mem_of_getElem? (i := 200) rfl)⟩
theorem fl_X7_71 : ik_FL RX7 71 7 7 := ⟨RX7, TX7, 11, tyX7, rfl, by decide, inX7, tyX7_ok, nmX7, rfl, ik_in1 (List.mem_of_getElem? (i := 198) rfl)⟩
theorem fw_X7_39 : ik_FW RX7 39 7 8 0 := ⟨RX7, TX7, 11, tyX7, rfl, by decide, inX7, tyX7_ok, nmX7, rfl, ik_in1 (List.mem_of_getElem? (i := 199) rfl), rfl, rfl⟩
theorem fl_X7_68 : ik_FL RX7 68 7 6 := ⟨RX7, TX7, 11, tyX7, rfl, by decide, inX7, tyX7_ok, nmX7, rfl, ik_in1 (List.mem_of_getElem? (i := 197) rfl)⟩
theorem fl_X7_65 : ik_FL RX7 65 7 5 := ⟨RX7, TX7, 11, tyX7, rfl, by decide, inX7, tyX7_ok, nmX7, rfl, ik_in1 (List.mem_of_getElem? (i := 196) rfl)⟩
theorem fl_X7_9 : ik_FL RX7 9 7 0 := ⟨RX7, TX7, 11, tyX7, rfl, by decide, inX7, tyX7_ok, nmX7, rfl, ik_in1 (List.mem_of_getElem? (i := 191) rfl)⟩
theorem ml_X7_42 : Cond.methodLink RX7 42 yX7_go ∈ lw_tbl := ik_in3 (List.mem_of_getElem? (i := 108) rfl)
theorem mf_X7_go : ik_MF yX7_go cX7_go 3 (none) 1 := ⟨ik_in3 (List.mem_of_getElem? (i := 111) rfl), ik_in1 (List.mem_of_getElem? (i := 9) rfl), by decide +kernel, by decide +kernel, by decide +kernel⟩
theorem mv_X7_go : ik_MV yX7_go := ⟨ik_in3 (List.mem_of_getElem? (i := 110) rfl), ik_inS (List.mem_of_getElem? (i := 6) (by decide +kernel))⟩
theorem ml_X7_31 : Cond.methodLink RX7 31 yX7_begin ∈ lw_tbl := ik_in3 (List.mem_of_getElem? (i := 104) rfl)
theorem mf_X7_begin : ik_MF yX7_begin cX7_begin 4 (none) 3 := ⟨ik_in3 (List.mem_of_getElem? (i := 107) rfl), ik_in1 (List.mem_of_getElem? (i := 9) rfl), by decide +kernel, by decide +kernel, by decide +kernel⟩
theorem mv_X7_begin : ik_MV yX7_begin := ⟨ik_in3 (List.mem_of_getElem? (i := 106) rfl), ik_inS (List.mem_of_getElem? (i := 5) (by decide +kernel))⟩
theorem fl_X7_39 : ik_FL RX7 39 7 8 := ⟨RX7, TX7, 11, tyX7, rfl, by decide, inX7, tyX7_ok, nmX7, rfl, ik_in1 (List.mem_of_getElem? (i := 199) rfl)⟩
theorem ml_X7_73 : Cond.methodLinkNest RX7 73 yX11_isDigit "InkBars" ∈ lw_tbl := ik_in3 (List.mem_of_getElem? (i := 116) rfl)
theorem ml_X7_80 : Cond.methodLink RX7 80 yX7_piece ∈ lw_tbl := ik_in3 (List.mem_of_getElem? (i := 125) rfl)
theorem mf_X7_piece : ik_MF yX7_piece cX7_piece 6 (some .boolean) 2 := ⟨ik_in3 (List.mem_of_getElem? (i := 128) rfl), ik_in1 (List.mem_of_getElem? (i := 9) rfl), by decide +kernel, by decide +kernel, by decide +kernel⟩
theorem mv_X7_piece : ik_MV yX7_piece := ⟨ik_in3 (List.mem_of_getElem? (i := 127) rfl), ik_inS (List.mem_of_getElem? (i := 10) (by decide +kernel))⟩
theorem ml_X7_57 : Cond.methodLink RX7 57 yX7_condition ∈ lw_tbl := ik_in3 (List.mem_of_getElem? (i := 117) rfl)
theorem mf_X7_condition : ik_MF yX7_condition cX7_condition 6 (some .boolean) 2 := ⟨ik_in3 (List.mem_of_getElem? (i := 120) rfl), ik_in1 (List.mem_of_getElem? (i := 9) rfl), by decide +kernel, by decide +kernel, by decide +kernel⟩
theorem mv_X7_condition : ik_MV yX7_condition := ⟨ik_in3 (List.mem_of_getElem? (i := 119) rfl), ik_inS (List.mem_of_getElem? (i := 8) (by decide +kernel))⟩
theorem ml_X7_83 : Cond.methodLink RX7 83 yX7_nested ∈ lw_tbl := ik_in3 (List.mem_of_getElem? (i := 129) rfl)
theorem mf_X7_nested : ik_MF yX7_nested cX7_nested 5 (some .boolean) 2 := ⟨ik_in3 (List.mem_of_getElem? (i := 132) rfl), ik_in1 (List.mem_of_getElem? (i := 9) rfl), by decide +kernel, by decide +kernel, by decide +kernel⟩
theorem mv_X7_nested : ik_MV yX7_nested := ⟨ik_in3 (List.mem_of_getElem? (i := 131) rfl), ik_inS (List.mem_of_getElem? (i := 11) (by decide +kernel))⟩
theorem ml_X7_86 : Cond.methodLink RX7 86 yX7_sum ∈ lw_tbl := ik_in3 (List.mem_of_getElem? (i := 133) rfl)
theorem mf_X7_sum : ik_MF yX7_sum cX7_sum 7 (some .int) 2 := ⟨ik_in3 (List.mem_of_getElem? (i := 136) rfl), ik_in1 (List.mem_of_getElem? (i := 9) rfl), by decide +kernel, by decide +kernel, by decide +kernel⟩
theorem mv_X7_sum : ik_MV yX7_sum := ⟨ik_in3 (List.mem_of_getElem? (i := 135) rfl), ik_inS (List.mem_of_getElem? (i := 12) (by decide +kernel))⟩
theorem ml_X7_96 : Cond.methodLink RX7 96 yX7_isFact ∈ lw_tbl := ik_in3 (List.mem_of_getElem? (i := 145) rfl)
theorem mf_X7_isFact : ik_MF yX7_isFact cX7_isFact 1 (some .boolean) 1 := ⟨ik_in3 (List.mem_of_getElem? (i := 147) rfl), ik_in1 (List.mem_of_getElem? (i := 9) rfl), by decide +kernel, by decide +kernel, by decide +kernel⟩
theorem ms_X7_isFact : Cond.static yX7_isFact ∈ lw_tbl := ik_in3 (List.mem_of_getElem? (i := 146) rfl)
theorem fl_X7_18 : ik_FL RX7 18 7 2 := ⟨RX7, TX7, 11, tyX7, rfl, by decide, inX7, tyX7_ok, nmX7, rfl, ik_in1 (List.mem_of_getElem? (i := 193) rfl)⟩
theorem ml_X7_93 : Cond.methodLink RX7 93 yX7_factor ∈ lw_tbl := ik_in3 (List.mem_of_getElem? (i := 141) rfl)
theorem mf_X7_factor : ik_MF yX7_factor cX7_factor 6 (some .int) 2 := ⟨ik_in3 (List.mem_of_getElem? (i := 144) rfl), ik_in1 (List.mem_of_getElem? (i := 9) rfl), by decide +kernel, by decide +kernel, by decide +kernel⟩
theorem mv_X7_factor : ik_MV yX7_factor := ⟨ik_in3 (List.mem_of_getElem? (i := 143) rfl), ik_inS (List.mem_of_getElem? (i := 14) (by decide +kernel))⟩
theorem fl_X7_61 : ik_FL RX7 61 7 10 := ⟨RX7, TX7, 11, tyX7, rfl, by decide, inX7, tyX7_ok, nmX7, rfl, ik_in1 (List.mem_of_getElem? (i := 201) rfl)⟩
theorem ml_X7_90 : Cond.methodLink RX7 90 yX7_product ∈ lw_tbl := ik_in3 (List.mem_of_getElem? (i := 137) rfl)
theorem mf_X7_product : ik_MF yX7_product cX7_product 7 (some .int) 2 := ⟨ik_in3 (List.mem_of_getElem? (i := 140) rfl), ik_in1 (List.mem_of_getElem? (i := 9) rfl), by decide +kernel, by decide +kernel, by decide +kernel⟩
theorem mv_X7_product : ik_MV yX7_product := ⟨ik_in3 (List.mem_of_getElem? (i := 139) rfl), ik_inS (List.mem_of_getElem? (i := 13) (by decide +kernel))⟩
theorem ml_X7_77 : Cond.methodLink RX7 77 yX7_part ∈ lw_tbl := ik_in3 (List.mem_of_getElem? (i := 121) rfl)
theorem mf_X7_part : ik_MF yX7_part cX7_part 6 (some .boolean) 2 := ⟨ik_in3 (List.mem_of_getElem? (i := 124) rfl), ik_in1 (List.mem_of_getElem? (i := 9) rfl), by decide +kernel, by decide +kernel, by decide +kernel⟩
theorem mv_X7_part : ik_MV yX7_part := ⟨ik_in3 (List.mem_of_getElem? (i := 123) rfl), ik_inS (List.mem_of_getElem? (i := 9) (by decide +kernel))⟩
theorem ml_X7_35 : Cond.methodLink RX7 35 yX7_clause ∈ lw_tbl := ik_in3 (List.mem_of_getElem? (i := 112) rfl)
theorem mf_X7_clause : ik_MF yX7_clause cX7_clause 3 (none) 1 := ⟨ik_in3 (List.mem_of_getElem? (i := 115) rfl), ik_in1 (List.mem_of_getElem? (i := 9) rfl), by decide +kernel, by decide +kernel, by decide +kernel⟩
theorem mv_X7_clause : ik_MV yX7_clause := ⟨ik_in3 (List.mem_of_getElem? (i := 114) rfl), ik_inS (List.mem_of_getElem? (i := 7) (by decide +kernel))⟩
theorem acp_X7_48 : ik_ACP RX7 48 := ⟨ik_in3 (List.mem_of_getElem? (i := 148) rfl), ik_in3 (List.mem_of_getElem? (i := 150) rfl), ik_in3 (List.mem_of_getElem? (i := 149) rfl), ik_in1 (List.mem_of_getElem? (i := 15) rfl)⟩
theorem fw_X7_54 : ik_FW RX7 54 7 3 0 := ⟨RX7, TX7, 11, tyX7, rfl, by decide, inX7, tyX7_ok, nmX7, rfl, ik_in1 (List.mem_of_getElem? (i := 194) rfl), rfl, rfl⟩
theorem fw_X7_21 : ik_FW RX7 21 7 4 0 := ⟨RX7, TX7, 11, tyX7, rfl, by decide, inX7, tyX7_ok, nmX7, rfl, ik_in1 (List.mem_of_getElem? (i := 195) rfl), rfl, rfl⟩
theorem ml_X11_145 : Cond.methodLink RX11 145 yX7_take ∈ lw_tbl := ik_in3 (List.mem_of_getElem? (i := 99) rfl)
theorem mf_X7_take : ik_MF yX7_take cX7_take 5 (some .int) 2 := ⟨ik_in3 (List.mem_of_getElem? (i := 102) rfl), ik_in1 (List.mem_of_getElem? (i := 9) rfl), by decide +kernel, by decide +kernel, by decide +kernel⟩
theorem mv_X7_take : ik_MV yX7_take := ⟨ik_in3 (List.mem_of_getElem? (i := 100) rfl), ik_in3 (List.mem_of_getElem? (i := 101) rfl)⟩
theorem fl_X7_21 : ik_FL RX7 21 7 4 := ⟨RX7, TX7, 11, tyX7, rfl, by decide, inX7, tyX7_ok, nmX7, rfl, ik_in1 (List.mem_of_getElem? (i := 195) rfl)⟩
theorem ml_X11_149 : Cond.methodLink RX11 149 yX7_clauses ∈ lw_tbl := ik_in3 (List.mem_of_getElem? (i := 151) rfl)
theorem mf_X7_clauses : ik_MF yX7_clauses cX7_clauses 1 (some .int) 0 := ⟨ik_in3 (List.mem_of_getElem? (i := 154) rfl), ik_in1 (List.mem_of_getElem? (i := 9) rfl), by decide +kernel, by decide +kernel, by decide +kernel⟩
theorem mv_X7_clauses : ik_MV yX7_clauses := ⟨ik_in3 (List.mem_of_getElem? (i := 152) rfl), ik_in3 (List.mem_of_getElem? (i := 153) rfl)⟩
theorem ml_X11_152 : Cond.methodLink RX11 152 yX0_has ∈ lw_tbl := ik_in3 (List.mem_of_getElem? (i := 159) rfl)
theorem mf_X0_has : ik_MF yX0_has cX0_has 2 (some .boolean) 1 := ⟨ik_in3 (List.mem_of_getElem? (i := 162) rfl), ik_in1 (List.mem_of_getElem? (i := 7) rfl), by decide +kernel, by decide +kernel, by decide +kernel⟩
theorem mv_X0_has : ik_MV yX0_has := ⟨ik_in3 (List.mem_of_getElem? (i := 160) rfl), ik_in3 (List.mem_of_getElem? (i := 161) rfl)⟩
theorem fl_X0_43 : ik_FL RX0 43 0 10 := ⟨RX0, TX0, 12, tyX0, rfl, by decide, inX0, tyX0_ok, nmX0, rfl, ik_in1 (List.mem_of_getElem? (i := 115) rfl)⟩
theorem ml_X11_153 : Cond.methodLink RX11 153 yX0_tiesFull ∈ lw_tbl := ik_in3 (List.mem_of_getElem? (i := 163) rfl)
theorem mf_X0_tiesFull : ik_MF yX0_tiesFull cX0_tiesFull 1 (some .boolean) 0 := ⟨ik_in3 (List.mem_of_getElem? (i := 166) rfl), ik_in1 (List.mem_of_getElem? (i := 7) rfl), by decide +kernel, by decide +kernel, by decide +kernel⟩
theorem mv_X0_tiesFull : ik_MV yX0_tiesFull := ⟨ik_in3 (List.mem_of_getElem? (i := 164) rfl), ik_in3 (List.mem_of_getElem? (i := 165) rfl)⟩
theorem ml_X0_53 : Cond.methodLink RX0 53 yX0_tiesFull ∈ lw_tbl := ik_in3 (List.mem_of_getElem? (i := 171) rfl)
theorem fl_X0_21 : ik_FL RX0 21 0 3 := ⟨RX0, TX0, 12, tyX0, rfl, by decide, inX0, tyX0_ok, nmX0, rfl, ik_in1 (List.mem_of_getElem? (i := 108) rfl)⟩
theorem fl_X0_24 : ik_FL RX0 24 0 4 := ⟨RX0, TX0, 12, tyX0, rfl, by decide, inX0, tyX0_ok, nmX0, rfl, ik_in1 (List.mem_of_getElem? (i := 109) rfl)⟩
theorem fl_X0_27 : ik_FL RX0 27 0 5 := ⟨RX0, TX0, 12, tyX0, rfl, by decide, inX0, tyX0_ok, nmX0, rfl, ik_in1 (List.mem_of_getElem? (i := 110) rfl)⟩
theorem fw_X0_43 : ik_FW RX0 43 0 10 0 := ⟨RX0, TX0, 12, tyX0, rfl, by decide, inX0, tyX0_ok, nmX0, rfl, ik_in1 (List.mem_of_getElem? (i := 115) rfl), rfl, rfl⟩
theorem ml_X11_156 : Cond.methodLink RX11 156 yX0_addTie ∈ lw_tbl := ik_in3 (List.mem_of_getElem? (i := 167) rfl)
theorem mf_X0_addTie : ik_MF yX0_addTie cX0_addTie 4 (none) 3 := ⟨ik_in3 (List.mem_of_getElem? (i := 170) rfl), ik_in1 (List.mem_of_getElem? (i := 7) rfl), by decide +kernel, by decide +kernel, by decide +kernel⟩
theorem mv_X0_addTie : ik_MV yX0_addTie := ⟨ik_in3 (List.mem_of_getElem? (i := 168) rfl), ik_in3 (List.mem_of_getElem? (i := 169) rfl)⟩
theorem fl_X0_46 : ik_FL RX0 46 0 11 := ⟨RX0, TX0, 12, tyX0, rfl, by decide, inX0, tyX0_ok, nmX0, rfl, ik_in1 (List.mem_of_getElem? (i := 116) rfl)⟩
theorem ml_X11_159 : Cond.methodLink RX11 159 yX0_listsFull ∈ lw_tbl := ik_in3 (List.mem_of_getElem? (i := 176) rfl)
theorem mf_X0_listsFull : ik_MF yX0_listsFull cX0_listsFull 1 (some .boolean) 0 := ⟨ik_in3 (List.mem_of_getElem? (i := 179) rfl), ik_in1 (List.mem_of_getElem? (i := 7) rfl), by decide +kernel, by decide +kernel, by decide +kernel⟩
theorem mv_X0_listsFull : ik_MV yX0_listsFull := ⟨ik_in3 (List.mem_of_getElem? (i := 177) rfl), ik_in3 (List.mem_of_getElem? (i := 178) rfl)⟩
theorem ml_X0_56 : Cond.methodLink RX0 56 yX0_listsFull ∈ lw_tbl := ik_in3 (List.mem_of_getElem? (i := 184) rfl)
theorem fl_X0_30 : ik_FL RX0 30 0 6 := ⟨RX0, TX0, 12, tyX0, rfl, by decide, inX0, tyX0_ok, nmX0, rfl, ik_in1 (List.mem_of_getElem? (i := 111) rfl)⟩
theorem fl_X0_33 : ik_FL RX0 33 0 7 := ⟨RX0, TX0, 12, tyX0, rfl, by decide, inX0, tyX0_ok, nmX0, rfl, ik_in1 (List.mem_of_getElem? (i := 112) rfl)⟩
theorem fl_X0_36 : ik_FL RX0 36 0 8 := ⟨RX0, TX0, 12, tyX0, rfl, by decide, inX0, tyX0_ok, nmX0, rfl, ik_in1 (List.mem_of_getElem? (i := 113) rfl)⟩
theorem fw_X0_46 : ik_FW RX0 46 0 11 0 := ⟨RX0, TX0, 12, tyX0, rfl, by decide, inX0, tyX0_ok, nmX0, rfl, ik_in1 (List.mem_of_getElem? (i := 116) rfl), rfl, rfl⟩
theorem ml_X11_162 : Cond.methodLink RX11 162 yX0_addListed ∈ lw_tbl := ik_in3 (List.mem_of_getElem? (i := 180) rfl)
theorem mf_X0_addListed : ik_MF yX0_addListed cX0_addListed 4 (none) 3 := ⟨ik_in3 (List.mem_of_getElem? (i := 183) rfl), ik_in1 (List.mem_of_getElem? (i := 7) rfl), by decide +kernel, by decide +kernel, by decide +kernel⟩
theorem mv_X0_addListed : ik_MV yX0_addListed := ⟨ik_in3 (List.mem_of_getElem? (i := 181) rfl), ik_in3 (List.mem_of_getElem? (i := 182) rfl)⟩
theorem ml_X11_165 : Cond.methodLink RX11 165 yX11_isHouse ∈ lw_tbl := ik_in3 (List.mem_of_getElem? (i := 189) rfl)
theorem mf_X11_isHouse : ik_MF yX11_isHouse cX11_isHouse 1 (some .boolean) 1 := ⟨ik_in3 (List.mem_of_getElem? (i := 191) rfl), ik_in1 (List.mem_of_getElem? (i := 1) rfl), by decide +kernel, by decide +kernel, by decide +kernel⟩
theorem ms_X11_isHouse : Cond.static yX11_isHouse ∈ lw_tbl := ik_in3 (List.mem_of_getElem? (i := 190) rfl)
theorem fl_X11_54 : ik_FL RX11 54 11 6 := ⟨RX11, TX11, 15, tyX11, rfl, by decide, inX11, tyX11_ok, nmX11, rfl, ik_in2 (List.mem_of_getElem? (i := 114) rfl)⟩
theorem fl_X3_19 : ik_FL RX3 19 3 3 := ⟨RX3, TX3, 4, tyX3, rfl, by decide, inX3, tyX3_ok, nmX3, rfl, ik_in1 (List.mem_of_getElem? (i := 234) rfl)⟩
theorem ml_X11_168 : Cond.methodLink RX11 168 yX3_full ∈ lw_tbl := ik_in3 (List.mem_of_getElem? (i := 192) rfl)
theorem mf_X3_full : ik_MF yX3_full cX3_full 1 (some .boolean) 0 := ⟨ik_in3 (List.mem_of_getElem? (i := 195) rfl), ik_in1 (List.mem_of_getElem? (i := 10) rfl), by decide +kernel, by decide +kernel, by decide +kernel⟩
theorem mv_X3_full : ik_MV yX3_full := ⟨ik_in3 (List.mem_of_getElem? (i := 193) rfl), ik_in3 (List.mem_of_getElem? (i := 194) rfl)⟩
theorem ml_X3_23 : Cond.methodLink RX3 23 yX3_full ∈ lw_tbl := ik_in3 (List.mem_of_getElem? (i := 200) rfl)
theorem fl_X3_9 : ik_FL RX3 9 3 0 := ⟨RX3, TX3, 4, tyX3, rfl, by decide, inX3, tyX3_ok, nmX3, rfl, ik_in1 (List.mem_of_getElem? (i := 231) rfl)⟩
theorem fl_X3_13 : ik_FL RX3 13 3 1 := ⟨RX3, TX3, 4, tyX3, rfl, by decide, inX3, tyX3_ok, nmX3, rfl, ik_in1 (List.mem_of_getElem? (i := 232) rfl)⟩
theorem fl_X3_16 : ik_FL RX3 16 3 2 := ⟨RX3, TX3, 4, tyX3, rfl, by decide, inX3, tyX3_ok, nmX3, rfl, ik_in1 (List.mem_of_getElem? (i := 233) rfl)⟩
theorem fw_X3_19 : ik_FW RX3 19 3 3 0 := ⟨RX3, TX3, 4, tyX3, rfl, by decide, inX3, tyX3_ok, nmX3, rfl, ik_in1 (List.mem_of_getElem? (i := 234) rfl), rfl, rfl⟩
theorem ml_X11_169 : Cond.methodLink RX11 169 yX3_add ∈ lw_tbl := ik_in3 (List.mem_of_getElem? (i := 196) rfl)
theorem mf_X3_add : ik_MF yX3_add cX3_add 4 (none) 3 := ⟨ik_in3 (List.mem_of_getElem? (i := 199) rfl), ik_in1 (List.mem_of_getElem? (i := 10) rfl), by decide +kernel, by decide +kernel, by decide +kernel⟩
theorem mv_X3_add : ik_MV yX3_add := ⟨ik_in3 (List.mem_of_getElem? (i := 197) rfl), ik_in3 (List.mem_of_getElem? (i := 198) rfl)⟩
theorem ml_X3_31 : Cond.methodLink RX3 31 yX6_wide ∈ lw_tbl := ik_in3 (List.mem_of_getElem? (i := 213) rfl)
theorem ml_X3_27 : Cond.methodLink RX3 27 yX3_bound ∈ lw_tbl := ik_in3 (List.mem_of_getElem? (i := 209) rfl)
theorem mf_X3_bound : ik_MF yX3_bound cX3_bound 10 (some .int) 4 := ⟨ik_in3 (List.mem_of_getElem? (i := 212) rfl), ik_in1 (List.mem_of_getElem? (i := 10) rfl), by decide +kernel, by decide +kernel, by decide +kernel⟩
theorem mv_X3_bound : ik_MV yX3_bound := ⟨ik_in3 (List.mem_of_getElem? (i := 211) rfl), ik_inS (List.mem_of_getElem? (i := 15) (by decide +kernel))⟩
theorem ml_X11_171 : Cond.methodLink RX11 171 yX3_least ∈ lw_tbl := ik_in3 (List.mem_of_getElem? (i := 205) rfl)
theorem mf_X3_least : ik_MF yX3_least cX3_least 4 (some .int) 3 := ⟨ik_in3 (List.mem_of_getElem? (i := 208) rfl), ik_in1 (List.mem_of_getElem? (i := 10) rfl), by decide +kernel, by decide +kernel, by decide +kernel⟩
theorem mv_X3_least : ik_MV yX3_least := ⟨ik_in3 (List.mem_of_getElem? (i := 206) rfl), ik_in3 (List.mem_of_getElem? (i := 207) rfl)⟩
theorem ml_X11_175 : Cond.methodLink RX11 175 yX3_greatest ∈ lw_tbl := ik_in3 (List.mem_of_getElem? (i := 214) rfl)
theorem mf_X3_greatest : ik_MF yX3_greatest cX3_greatest 4 (some .int) 3 := ⟨ik_in3 (List.mem_of_getElem? (i := 217) rfl), ik_in1 (List.mem_of_getElem? (i := 10) rfl), by decide +kernel, by decide +kernel, by decide +kernel⟩
theorem mv_X3_greatest : ik_MV yX3_greatest := ⟨ik_in3 (List.mem_of_getElem? (i := 215) rfl), ik_in3 (List.mem_of_getElem? (i := 216) rfl)⟩
theorem fw_X11_178 : ik_FW RX11 178 11 12 0 := ⟨RX11, TX11, 15, tyX11, rfl, by decide, inX11, tyX11_ok, nmX11, rfl, ik_in2 (List.mem_of_getElem? (i := 120) rfl), rfl, rfl⟩
theorem ml_X6_72 : Cond.methodLink RX6 72 yX10_letter ∈ lw_tbl := ik_in3 (List.mem_of_getElem? (i := 238) rfl)
theorem ml_X6_75 : Cond.methodLink RX6 75 yX6_first ∈ lw_tbl := ik_in3 (List.mem_of_getElem? (i := 234) rfl)
theorem mf_X6_first : ik_MF yX6_first cX6_first 2 (some .int) 1 := ⟨ik_in3 (List.mem_of_getElem? (i := 237) rfl), ik_in1 (List.mem_of_getElem? (i := 4) rfl), by decide +kernel, by decide +kernel, by decide +kernel⟩
theorem mv_X6_first : ik_MV yX6_first := ⟨ik_in3 (List.mem_of_getElem? (i := 235) rfl), ik_in3 (List.mem_of_getElem? (i := 236) rfl)⟩
theorem ml_X11_316 : Cond.methodLink RX11 316 yX6_vowel ∈ lw_tbl := ik_in3 (List.mem_of_getElem? (i := 230) rfl)
theorem mf_X6_vowel : ik_MF yX6_vowel cX6_vowel 3 (some .boolean) 1 := ⟨ik_in3 (List.mem_of_getElem? (i := 233) rfl), ik_in1 (List.mem_of_getElem? (i := 4) rfl), by decide +kernel, by decide +kernel, by decide +kernel⟩
theorem mv_X6_vowel : ik_MV yX6_vowel := ⟨ik_in3 (List.mem_of_getElem? (i := 231) rfl), ik_in3 (List.mem_of_getElem? (i := 232) rfl)⟩
theorem fl_X8_92 : ik_FL RX8 92 8 9 := ⟨RX8, TX8, 11, tyX8, rfl, by decide, inX8, tyX8_ok, nmX8, rfl, ik_in1 (List.mem_of_getElem? (i := 159) rfl)⟩
theorem ml_X8_98 : Cond.methodLinkNest RX8 98 yX11_bit "InkBars" ∈ lw_tbl := ik_in4 (List.mem_of_getElem? (i := 3) rfl)
theorem mf_X11_bit : ik_MF yX11_bit cX11_bit 2 (some .boolean) 2 := ⟨ik_in4 (List.mem_of_getElem? (i := 5) rfl), ik_in1 (List.mem_of_getElem? (i := 1) rfl), by decide +kernel, by decide +kernel, by decide +kernel⟩
theorem ms_X11_bit : Cond.static yX11_bit ∈ lw_tbl := ik_in4 (List.mem_of_getElem? (i := 4) rfl)
theorem ml_X11_319 : Cond.methodLink RX11 319 yX8_isBehindA ∈ lw_tbl := ik_in3 (List.mem_of_getElem? (i := 239) rfl)
theorem mf_X8_isBehindA : ik_MF yX8_isBehindA cX8_isBehindA 2 (some .boolean) 1 := ⟨ik_in4 (List.mem_of_getElem? (i := 2) rfl), ik_in1 (List.mem_of_getElem? (i := 8) rfl), by decide +kernel, by decide +kernel, by decide +kernel⟩
theorem mv_X8_isBehindA : ik_MV yX8_isBehindA := ⟨ik_in4 (List.mem_of_getElem? (i := 0) rfl), ik_in4 (List.mem_of_getElem? (i := 1) rfl)⟩
theorem fl_X8_95 : ik_FL RX8 95 8 10 := ⟨RX8, TX8, 11, tyX8, rfl, by decide, inX8, tyX8_ok, nmX8, rfl, ik_in1 (List.mem_of_getElem? (i := 160) rfl)⟩
theorem ml_X11_322 : Cond.methodLink RX11 322 yX8_isBehindAn ∈ lw_tbl := ik_in4 (List.mem_of_getElem? (i := 6) rfl)
theorem mf_X8_isBehindAn : ik_MF yX8_isBehindAn cX8_isBehindAn 2 (some .boolean) 1 := ⟨ik_in4 (List.mem_of_getElem? (i := 9) rfl), ik_in1 (List.mem_of_getElem? (i := 8) rfl), by decide +kernel, by decide +kernel, by decide +kernel⟩
theorem mv_X8_isBehindAn : ik_MV yX8_isBehindAn := ⟨ik_in4 (List.mem_of_getElem? (i := 7) rfl), ik_in4 (List.mem_of_getElem? (i := 8) rfl)⟩
theorem ml_X11_351 : Cond.methodLink RX11 351 yX7_tell ∈ lw_tbl := ik_in4 (List.mem_of_getElem? (i := 14) rfl)
theorem mf_X7_tell : ik_MF yX7_tell cX7_tell 4 (none) 2 := ⟨ik_in4 (List.mem_of_getElem? (i := 17) rfl), ik_in1 (List.mem_of_getElem? (i := 9) rfl), by decide +kernel, by decide +kernel, by decide +kernel⟩
theorem mv_X7_tell : ik_MV yX7_tell := ⟨ik_in4 (List.mem_of_getElem? (i := 15) rfl), ik_in4 (List.mem_of_getElem? (i := 16) rfl)⟩
theorem ml_X6_69 : Cond.methodLink RX6 69 yX10_length ∈ lw_tbl := ik_in4 (List.mem_of_getElem? (i := 22) rfl)
theorem ml_X11_355 : Cond.methodLink RX11 355 yX6_length ∈ lw_tbl := ik_in4 (List.mem_of_getElem? (i := 18) rfl)
theorem mf_X6_length : ik_MF yX6_length cX6_length 2 (some .int) 1 := ⟨ik_in4 (List.mem_of_getElem? (i := 21) rfl), ik_in1 (List.mem_of_getElem? (i := 4) rfl), by decide +kernel, by decide +kernel, by decide +kernel⟩
theorem mv_X6_length : ik_MV yX6_length := ⟨ik_in4 (List.mem_of_getElem? (i := 19) rfl), ik_in4 (List.mem_of_getElem? (i := 20) rfl)⟩
theorem ml_X6_78 : Cond.methodLink RX6 78 yX6_has ∈ lw_tbl := ik_in4 (List.mem_of_getElem? (i := 27) rfl)
theorem ml_X11_345 : Cond.methodLink RX11 345 yX6_sort ∈ lw_tbl := ik_in4 (List.mem_of_getElem? (i := 23) rfl)
theorem mf_X6_sort : ik_MF yX6_sort cX6_sort 2 (some .int) 1 := ⟨ik_in4 (List.mem_of_getElem? (i := 26) rfl), ik_in1 (List.mem_of_getElem? (i := 4) rfl), by decide +kernel, by decide +kernel, by decide +kernel⟩
theorem mv_X6_sort : ik_MV yX6_sort := ⟨ik_in4 (List.mem_of_getElem? (i := 24) rfl), ik_in4 (List.mem_of_getElem? (i := 25) rfl)⟩
theorem ml_X11_357 : Cond.methodLink RX11 357 yX6_from ∈ lw_tbl := ik_in4 (List.mem_of_getElem? (i := 28) rfl)
theorem mf_X6_from : ik_MF yX6_from cX6_from 2 (some .int) 1 := ⟨ik_in4 (List.mem_of_getElem? (i := 31) rfl), ik_in1 (List.mem_of_getElem? (i := 4) rfl), by decide +kernel, by decide +kernel, by decide +kernel⟩
theorem mv_X6_from : ik_MV yX6_from := ⟨ik_in4 (List.mem_of_getElem? (i := 29) rfl), ik_in4 (List.mem_of_getElem? (i := 30) rfl)⟩
theorem ml_X11_360 : Cond.methodLink RX11 360 yX6_to ∈ lw_tbl := ik_in4 (List.mem_of_getElem? (i := 32) rfl)
theorem mf_X6_to : ik_MF yX6_to cX6_to 2 (some .int) 1 := ⟨ik_in4 (List.mem_of_getElem? (i := 35) rfl), ik_in1 (List.mem_of_getElem? (i := 4) rfl), by decide +kernel, by decide +kernel, by decide +kernel⟩
theorem mv_X6_to : ik_MV yX6_to := ⟨ik_in4 (List.mem_of_getElem? (i := 33) rfl), ik_in4 (List.mem_of_getElem? (i := 34) rfl)⟩
theorem ml_X11_363 : Cond.methodLink RX11 363 yX6_first ∈ lw_tbl := ik_in4 (List.mem_of_getElem? (i := 36) rfl)
theorem ml_X0_59 : Cond.methodLink RX0 59 yX0_has ∈ lw_tbl := ik_in4 (List.mem_of_getElem? (i := 41) rfl)
theorem ml_X11_313 : Cond.methodLink RX11 313 yX0_ink ∈ lw_tbl := ik_in4 (List.mem_of_getElem? (i := 37) rfl)
theorem mf_X0_ink : ik_MF yX0_ink cX0_ink 2 (some .int) 1 := ⟨ik_in4 (List.mem_of_getElem? (i := 40) rfl), ik_in1 (List.mem_of_getElem? (i := 7) rfl), by decide +kernel, by decide +kernel, by decide +kernel⟩
theorem mv_X0_ink : ik_MV yX0_ink := ⟨ik_in4 (List.mem_of_getElem? (i := 38) rfl), ik_in4 (List.mem_of_getElem? (i := 39) rfl)⟩
theorem ml_X11_325 : Cond.methodLink RX11 325 yX11_tellFacts ∈ lw_tbl := ik_in4 (List.mem_of_getElem? (i := 10) rfl)
theorem mf_X11_tellFacts : ik_MF yX11_tellFacts cX11_tellFacts 4 (none) 3 := ⟨ik_in4 (List.mem_of_getElem? (i := 13) rfl), ik_in1 (List.mem_of_getElem? (i := 1) rfl), by decide +kernel, by decide +kernel, by decide +kernel⟩
theorem mv_X11_tellFacts : ik_MV yX11_tellFacts := ⟨ik_in4 (List.mem_of_getElem? (i := 12) rfl), ik_inS (List.mem_of_getElem? (i := 17) (by decide +kernel))⟩
theorem fl_X7_54 : ik_FL RX7 54 7 3 := ⟨RX7, TX7, 11, tyX7, rfl, by decide, inX7, tyX7_ok, nmX7, rfl, ik_in1 (List.mem_of_getElem? (i := 194) rfl)⟩
theorem ml_X11_329 : Cond.methodLink RX11 329 yX7_hold ∈ lw_tbl := ik_in4 (List.mem_of_getElem? (i := 42) rfl)
theorem mf_X7_hold : ik_MF yX7_hold cX7_hold 4 (some .boolean) 1 := ⟨ik_in4 (List.mem_of_getElem? (i := 45) rfl), ik_in1 (List.mem_of_getElem? (i := 9) rfl), by decide +kernel, by decide +kernel, by decide +kernel⟩
theorem mv_X7_hold : ik_MV yX7_hold := ⟨ik_in4 (List.mem_of_getElem? (i := 43) rfl), ik_in4 (List.mem_of_getElem? (i := 44) rfl)⟩
theorem ml_X0_66 : Cond.methodLink RX0 66 yX6_ahead ∈ lw_tbl := ik_in4 (List.mem_of_getElem? (i := 50) rfl)
theorem mf_X6_ahead : ik_MF yX6_ahead cX6_ahead 2 (some .int) 1 := ⟨ik_in4 (List.mem_of_getElem? (i := 53) rfl), ik_in1 (List.mem_of_getElem? (i := 4) rfl), by decide +kernel, by decide +kernel, by decide +kernel⟩
theorem mv_X6_ahead : ik_MV yX6_ahead := ⟨ik_in4 (List.mem_of_getElem? (i := 51) rfl), ik_in4 (List.mem_of_getElem? (i := 52) rfl)⟩
theorem ml_X0_72 : Cond.methodLinkNest RX0 72 yX11_bit "InkBars" ∈ lw_tbl := ik_in4 (List.mem_of_getElem? (i := 54) rfl)
theorem ml_X11_332 : Cond.methodLink RX11 332 yX0_inLists ∈ lw_tbl := ik_in4 (List.mem_of_getElem? (i := 46) rfl)
theorem mf_X0_inLists : ik_MF yX0_inLists cX0_inLists 7 (some .boolean) 3 := ⟨ik_in4 (List.mem_of_getElem? (i := 49) rfl), ik_in1 (List.mem_of_getElem? (i := 7) rfl), by decide +kernel, by decide +kernel, by decide +kernel⟩
theorem mv_X0_inLists : ik_MV yX0_inLists := ⟨ik_in4 (List.mem_of_getElem? (i := 47) rfl), ik_in4 (List.mem_of_getElem? (i := 48) rfl)⟩
theorem ml_X11_336 : Cond.methodLink RX11 336 yX0_year ∈ lw_tbl := ik_in4 (List.mem_of_getElem? (i := 55) rfl)
theorem mf_X0_year : ik_MF yX0_year cX0_year 2 (some .int) 1 := ⟨ik_in4 (List.mem_of_getElem? (i := 58) rfl), ik_in1 (List.mem_of_getElem? (i := 7) rfl), by decide +kernel, by decide +kernel, by decide +kernel⟩
theorem mv_X0_year : ik_MV yX0_year := ⟨ik_in4 (List.mem_of_getElem? (i := 56) rfl), ik_in4 (List.mem_of_getElem? (i := 57) rfl)⟩
theorem ml_X6_81 : Cond.methodLink RX6 81 yX6_from ∈ lw_tbl := ik_in4 (List.mem_of_getElem? (i := 63) rfl)
theorem ml_X6_84 : Cond.methodLink RX6 84 yX6_to ∈ lw_tbl := ik_in4 (List.mem_of_getElem? (i := 64) rfl)
theorem ml_X11_339 : Cond.methodLink RX11 339 yX6_lives ∈ lw_tbl := ik_in4 (List.mem_of_getElem? (i := 59) rfl)
theorem mf_X6_lives : ik_MF yX6_lives cX6_lives 3 (some .boolean) 2 := ⟨ik_in4 (List.mem_of_getElem? (i := 62) rfl), ik_in1 (List.mem_of_getElem? (i := 4) rfl), by decide +kernel, by decide +kernel, by decide +kernel⟩
theorem mv_X6_lives : ik_MV yX6_lives := ⟨ik_in4 (List.mem_of_getElem? (i := 60) rfl), ik_in4 (List.mem_of_getElem? (i := 61) rfl)⟩
theorem ml_X11_342 : Cond.methodLink RX11 342 yX0_sorts ∈ lw_tbl := ik_in4 (List.mem_of_getElem? (i := 65) rfl)
theorem mf_X0_sorts : ik_MF yX0_sorts cX0_sorts 2 (some .int) 1 := ⟨ik_in4 (List.mem_of_getElem? (i := 68) rfl), ik_in1 (List.mem_of_getElem? (i := 7) rfl), by decide +kernel, by decide +kernel, by decide +kernel⟩
theorem mv_X0_sorts : ik_MV yX0_sorts := ⟨ik_in4 (List.mem_of_getElem? (i := 66) rfl), ik_in4 (List.mem_of_getElem? (i := 67) rfl)⟩
theorem ml_X11_348 : Cond.methodLink RX11 348 yX11_bit ∈ lw_tbl := ik_in4 (List.mem_of_getElem? (i := 69) rfl)
theorem ml_X11_182 : Cond.methodLink RX11 182 yX11_reasonsButInk ∈ lw_tbl := ik_in3 (List.mem_of_getElem? (i := 226) rfl)
theorem mf_X11_reasonsButInk : ik_MF yX11_reasonsButInk cX11_reasonsButInk 6 (some .int) 2 := ⟨ik_in3 (List.mem_of_getElem? (i := 229) rfl), ik_in1 (List.mem_of_getElem? (i := 1) rfl), by decide +kernel, by decide +kernel, by decide +kernel⟩
theorem mv_X11_reasonsButInk : ik_MV yX11_reasonsButInk := ⟨ik_in3 (List.mem_of_getElem? (i := 228) rfl), ik_inS (List.mem_of_getElem? (i := 16) (by decide +kernel))⟩
theorem fl_X11_178 : ik_FL RX11 178 11 12 := ⟨RX11, TX11, 15, tyX11, rfl, by decide, inX11, tyX11_ok, nmX11, rfl, ik_in2 (List.mem_of_getElem? (i := 120) rfl)⟩
theorem ml_X11_186 : Cond.methodLink RX11 186 yX11_inkReason ∈ lw_tbl := ik_in4 (List.mem_of_getElem? (i := 70) rfl)
theorem mf_X11_inkReason : ik_MF yX11_inkReason cX11_inkReason 5 (some .int) 2 := ⟨ik_in4 (List.mem_of_getElem? (i := 73) rfl), ik_in1 (List.mem_of_getElem? (i := 1) rfl), by decide +kernel, by decide +kernel, by decide +kernel⟩
theorem mv_X11_inkReason : ik_MV yX11_inkReason := ⟨ik_in4 (List.mem_of_getElem? (i := 72) rfl), ik_inS (List.mem_of_getElem? (i := 18) (by decide +kernel))⟩
theorem fl_X11_76 : ik_FL RX11 76 11 10 := ⟨RX11, TX11, 15, tyX11, rfl, by decide, inX11, tyX11_ok, nmX11, rfl, ik_in2 (List.mem_of_getElem? (i := 118) rfl)⟩
theorem fl_X11_79 : ik_FL RX11 79 11 11 := ⟨RX11, TX11, 15, tyX11, rfl, by decide, inX11, tyX11_ok, nmX11, rfl, ik_in2 (List.mem_of_getElem? (i := 119) rfl)⟩
theorem ml_X11_189 : Cond.methodLink RX11 189 yX11_lay ∈ lw_tbl := ik_in4 (List.mem_of_getElem? (i := 78) rfl)
theorem mf_X11_lay : ik_MF yX11_lay cX11_lay 5 (some .boolean) 1 := ⟨ik_in4 (List.mem_of_getElem? (i := 81) rfl), ik_in1 (List.mem_of_getElem? (i := 1) rfl), by decide +kernel, by decide +kernel, by decide +kernel⟩
theorem mv_X11_lay : ik_MV yX11_lay := ⟨ik_in4 (List.mem_of_getElem? (i := 80) rfl), ik_inS (List.mem_of_getElem? (i := 19) (by decide +kernel))⟩
theorem ml_X11_295 : Cond.methodLink RX11 295 yX0_ties ∈ lw_tbl := ik_in4 (List.mem_of_getElem? (i := 86) rfl)
theorem mf_X0_ties : ik_MF yX0_ties cX0_ties 1 (some .int) 0 := ⟨ik_in4 (List.mem_of_getElem? (i := 89) rfl), ik_in1 (List.mem_of_getElem? (i := 7) rfl), by decide +kernel, by decide +kernel, by decide +kernel⟩
theorem mv_X0_ties : ik_MV yX0_ties := ⟨ik_in4 (List.mem_of_getElem? (i := 87) rfl), ik_in4 (List.mem_of_getElem? (i := 88) rfl)⟩
theorem ml_X0_63 : Cond.methodLink RX0 63 yX0_tied ∈ lw_tbl := ik_in4 (List.mem_of_getElem? (i := 94) rfl)
theorem mf_X0_tied : ik_MF yX0_tied cX0_tied 2 (some .boolean) 1 := ⟨ik_in4 (List.mem_of_getElem? (i := 97) rfl), ik_in1 (List.mem_of_getElem? (i := 7) rfl), by decide +kernel, by decide +kernel, by decide +kernel⟩
theorem mv_X0_tied : ik_MV yX0_tied := ⟨ik_in4 (List.mem_of_getElem? (i := 96) rfl), ik_inS (List.mem_of_getElem? (i := 21) (by decide +kernel))⟩
theorem ml_X11_366 : Cond.methodLink RX11 366 yX0_tieFirst ∈ lw_tbl := ik_in4 (List.mem_of_getElem? (i := 90) rfl)
theorem mf_X0_tieFirst : ik_MF yX0_tieFirst cX0_tieFirst 2 (some .int) 1 := ⟨ik_in4 (List.mem_of_getElem? (i := 93) rfl), ik_in1 (List.mem_of_getElem? (i := 7) rfl), by decide +kernel, by decide +kernel, by decide +kernel⟩
theorem mv_X0_tieFirst : ik_MV yX0_tieFirst := ⟨ik_in4 (List.mem_of_getElem? (i := 91) rfl), ik_in4 (List.mem_of_getElem? (i := 92) rfl)⟩
theorem ml_X11_369 : Cond.methodLink RX11 369 yX0_tieSecond ∈ lw_tbl := ik_in4 (List.mem_of_getElem? (i := 98) rfl)
theorem mf_X0_tieSecond : ik_MF yX0_tieSecond cX0_tieSecond 2 (some .int) 1 := ⟨ik_in4 (List.mem_of_getElem? (i := 101) rfl), ik_in1 (List.mem_of_getElem? (i := 7) rfl), by decide +kernel, by decide +kernel, by decide +kernel⟩
theorem mv_X0_tieSecond : ik_MV yX0_tieSecond := ⟨ik_in4 (List.mem_of_getElem? (i := 99) rfl), ik_in4 (List.mem_of_getElem? (i := 100) rfl)⟩
theorem ml_X11_372 : Cond.methodLink RX11 372 yX0_tieSort ∈ lw_tbl := ik_in4 (List.mem_of_getElem? (i := 102) rfl)
theorem mf_X0_tieSort : ik_MF yX0_tieSort cX0_tieSort 2 (some .int) 1 := ⟨ik_in4 (List.mem_of_getElem? (i := 105) rfl), ik_in1 (List.mem_of_getElem? (i := 7) rfl), by decide +kernel, by decide +kernel, by decide +kernel⟩
theorem mv_X0_tieSort : ik_MV yX0_tieSort := ⟨ik_in4 (List.mem_of_getElem? (i := 103) rfl), ik_in4 (List.mem_of_getElem? (i := 104) rfl)⟩
theorem ml_X6_87 : Cond.methodLink RX6 87 yX6_ahead ∈ lw_tbl := ik_in4 (List.mem_of_getElem? (i := 110) rfl)
theorem ml_X11_375 : Cond.methodLink RX11 375 yX6_mates ∈ lw_tbl := ik_in4 (List.mem_of_getElem? (i := 106) rfl)
theorem mf_X6_mates : ik_MF yX6_mates cX6_mates 5 (some .int) 3 := ⟨ik_in4 (List.mem_of_getElem? (i := 109) rfl), ik_in1 (List.mem_of_getElem? (i := 4) rfl), by decide +kernel, by decide +kernel, by decide +kernel⟩
theorem mv_X6_mates : ik_MV yX6_mates := ⟨ik_in4 (List.mem_of_getElem? (i := 107) rfl), ik_in4 (List.mem_of_getElem? (i := 108) rfl)⟩
theorem ml_X11_192 : Cond.methodLink RX11 192 yX11_tiesReason ∈ lw_tbl := ik_in4 (List.mem_of_getElem? (i := 82) rfl)
theorem mf_X11_tiesReason : ik_MF yX11_tiesReason cX11_tiesReason 4 (some .int) 0 := ⟨ik_in4 (List.mem_of_getElem? (i := 85) rfl), ik_in1 (List.mem_of_getElem? (i := 1) rfl), by decide +kernel, by decide +kernel, by decide +kernel⟩
theorem mv_X11_tiesReason : ik_MV yX11_tiesReason := ⟨ik_in4 (List.mem_of_getElem? (i := 84) rfl), ik_inS (List.mem_of_getElem? (i := 20) (by decide +kernel))⟩
theorem ml_X11_294 : Cond.methodLink RX11 294 yX8_count ∈ lw_tbl := ik_in4 (List.mem_of_getElem? (i := 115) rfl)
theorem mf_X8_count : ik_MF yX8_count cX8_count 1 (some .int) 0 := ⟨ik_in4 (List.mem_of_getElem? (i := 118) rfl), ik_in1 (List.mem_of_getElem? (i := 8) rfl), by decide +kernel, by decide +kernel, by decide +kernel⟩
theorem mv_X8_count : ik_MV yX8_count := ⟨ik_in4 (List.mem_of_getElem? (i := 116) rfl), ik_in4 (List.mem_of_getElem? (i := 117) rfl)⟩
theorem ml_X8_104 : Cond.methodLink RX8 104 yX8_tokens ∈ lw_tbl := ik_in4 (List.mem_of_getElem? (i := 123) rfl)
theorem mf_X8_tokens : ik_MF yX8_tokens cX8_tokens 2 (some .int) 1 := ⟨ik_in4 (List.mem_of_getElem? (i := 126) rfl), ik_in1 (List.mem_of_getElem? (i := 8) rfl), by decide +kernel, by decide +kernel, by decide +kernel⟩
theorem mv_X8_tokens : ik_MV yX8_tokens := ⟨ik_in4 (List.mem_of_getElem? (i := 124) rfl), ik_in4 (List.mem_of_getElem? (i := 125) rfl)⟩
theorem ml_X8_109 : Cond.methodLink RX8 109 yX10_wide ∈ lw_tbl := ik_in4 (List.mem_of_getElem? (i := 131) rfl)
theorem ml_X8_115 : Cond.methodLink RX8 115 yX8_wordWide ∈ lw_tbl := ik_in4 (List.mem_of_getElem? (i := 127) rfl)
theorem mf_X8_wordWide : ik_MF yX8_wordWide cX8_wordWide 4 (some .int) 3 := ⟨ik_in4 (List.mem_of_getElem? (i := 130) rfl), ik_in1 (List.mem_of_getElem? (i := 8) rfl), by decide +kernel, by decide +kernel, by decide +kernel⟩
theorem mv_X8_wordWide : ik_MV yX8_wordWide := ⟨ik_in4 (List.mem_of_getElem? (i := 128) rfl), ik_in4 (List.mem_of_getElem? (i := 129) rfl)⟩
theorem ml_X8_119 : Cond.methodLink RX8 119 yX4_wideOf ∈ lw_tbl := ik_in4 (List.mem_of_getElem? (i := 132) rfl)
theorem fl_X8_28 : ik_FL RX8 28 8 3 := ⟨RX8, TX8, 11, tyX8, rfl, by decide, inX8, tyX8_ok, nmX8, rfl, ik_in1 (List.mem_of_getElem? (i := 153) rfl)⟩
theorem ml_X8_124 : Cond.methodLink RX8 124 yX8_wide ∈ lw_tbl := ik_in4 (List.mem_of_getElem? (i := 133) rfl)
theorem mf_X8_wide : ik_MF yX8_wide cX8_wide 2 (some .int) 1 := ⟨ik_in4 (List.mem_of_getElem? (i := 136) rfl), ik_in1 (List.mem_of_getElem? (i := 8) rfl), by decide +kernel, by decide +kernel, by decide +kernel⟩
theorem mv_X8_wide : ik_MV yX8_wide := ⟨ik_in4 (List.mem_of_getElem? (i := 134) rfl), ik_in4 (List.mem_of_getElem? (i := 135) rfl)⟩
theorem ml_X11_199 : Cond.methodLink RX11 199 yX8_set ∈ lw_tbl := ik_in4 (List.mem_of_getElem? (i := 119) rfl)
theorem mf_X8_set : ik_MF yX8_set cX8_set 9 (none) 3 := ⟨ik_in4 (List.mem_of_getElem? (i := 122) rfl), ik_in1 (List.mem_of_getElem? (i := 8) rfl), by decide +kernel, by decide +kernel, by decide +kernel⟩
theorem mv_X8_set : ik_MV yX8_set := ⟨ik_in4 (List.mem_of_getElem? (i := 120) rfl), ik_in4 (List.mem_of_getElem? (i := 121) rfl)⟩
theorem ml_X8_113 : Cond.methodLink RX8 113 yX8_begins ∈ lw_tbl := ik_in4 (List.mem_of_getElem? (i := 141) rfl)
theorem mf_X8_begins : ik_MF yX8_begins cX8_begins 3 (some .boolean) 2 := ⟨ik_in4 (List.mem_of_getElem? (i := 144) rfl), ik_in1 (List.mem_of_getElem? (i := 8) rfl), by decide +kernel, by decide +kernel, by decide +kernel⟩
theorem mv_X8_begins : ik_MV yX8_begins := ⟨ik_in4 (List.mem_of_getElem? (i := 142) rfl), ik_in4 (List.mem_of_getElem? (i := 143) rfl)⟩
theorem ml_X11_379 : Cond.methodLink RX11 379 yX8_breaksOtherwise ∈ lw_tbl := ik_in4 (List.mem_of_getElem? (i := 137) rfl)
theorem mf_X8_breaksOtherwise : ik_MF yX8_breaksOtherwise cX8_breaksOtherwise 3 (some .boolean) 1 := ⟨ik_in4 (List.mem_of_getElem? (i := 140) rfl), ik_in1 (List.mem_of_getElem? (i := 8) rfl), by decide +kernel, by decide +kernel, by decide +kernel⟩
theorem mv_X8_breaksOtherwise : ik_MV yX8_breaksOtherwise := ⟨ik_in4 (List.mem_of_getElem? (i := 138) rfl), ik_in4 (List.mem_of_getElem? (i := 139) rfl)⟩
theorem ml_X11_195 : Cond.methodLink RX11 195 yX11_linesReason ∈ lw_tbl := ik_in4 (List.mem_of_getElem? (i := 111) rfl)
theorem mf_X11_linesReason : ik_MF yX11_linesReason cX11_linesReason 2 (some .int) 0 := ⟨ik_in4 (List.mem_of_getElem? (i := 114) rfl), ik_in1 (List.mem_of_getElem? (i := 1) rfl), by decide +kernel, by decide +kernel, by decide +kernel⟩
theorem mv_X11_linesReason : ik_MV yX11_linesReason := ⟨ik_in4 (List.mem_of_getElem? (i := 113) rfl), ik_inS (List.mem_of_getElem? (i := 22) (by decide +kernel))⟩
theorem ml_X11_198 : Cond.methodLink RX11 198 yX8_has ∈ lw_tbl := ik_in4 (List.mem_of_getElem? (i := 149) rfl)
theorem ml_X11_203 : Cond.methodLink RX11 203 yX8_setLine ∈ lw_tbl := ik_in4 (List.mem_of_getElem? (i := 150) rfl)
theorem mf_X8_setLine : ik_MF yX8_setLine cX8_setLine 5 (some .int) 2 := ⟨ik_in4 (List.mem_of_getElem? (i := 153) rfl), ik_in1 (List.mem_of_getElem? (i := 8) rfl), by decide +kernel, by decide +kernel, by decide +kernel⟩
theorem mv_X8_setLine : ik_MV yX8_setLine := ⟨ik_in4 (List.mem_of_getElem? (i := 151) rfl), ik_in4 (List.mem_of_getElem? (i := 152) rfl)⟩
theorem fl_X11_309 : ik_FL RX11 309 11 13 := ⟨RX11, TX11, 15, tyX11, rfl, by decide, inX11, tyX11_ok, nmX11, rfl, ik_in2 (List.mem_of_getElem? (i := 121) rfl)⟩
theorem fl_X11_68 : ik_FL RX11 68 11 8 := ⟨RX11, TX11, 15, tyX11, rfl, by decide, inX11, tyX11_ok, nmX11, rfl, ik_in2 (List.mem_of_getElem? (i := 116) rfl)⟩
theorem ml_X11_293 : Cond.methodLink RX11 293 yX6_count ∈ lw_tbl := ik_in4 (List.mem_of_getElem? (i := 166) rfl)
theorem mf_X6_count : ik_MF yX6_count cX6_count 1 (some .int) 0 := ⟨ik_in4 (List.mem_of_getElem? (i := 169) rfl), ik_in1 (List.mem_of_getElem? (i := 4) rfl), by decide +kernel, by decide +kernel, by decide +kernel⟩
theorem mv_X6_count : ik_MV yX6_count := ⟨ik_in4 (List.mem_of_getElem? (i := 167) rfl), ik_in4 (List.mem_of_getElem? (i := 168) rfl)⟩
theorem ml_X2_44 : Cond.methodLink RX2 44 yJ9_max_7cf53 ∈ lw_tbl := ik_in4 (List.mem_of_getElem? (i := 174) rfl)
theorem mf_J9_max_7cf53 : ik_MF yJ9_max_7cf53 cJ9_max_7cf53 2 (some .int) 2 := ⟨ik_in1 (List.mem_of_getElem? (i := 66) rfl), ik_in1 (List.mem_of_getElem? (i := 6) rfl), by decide +kernel, by decide +kernel, by decide +kernel⟩
theorem ms_J9_max_7cf53 : Cond.static yJ9_max_7cf53 ∈ lw_tbl := ik_in1 (List.mem_of_getElem? (i := 65) rfl)
theorem ml_X2_50 : Cond.methodLink RX2 50 yJ9_min_7cf53 ∈ lw_tbl := ik_in4 (List.mem_of_getElem? (i := 175) rfl)
theorem mf_J9_min_7cf53 : ik_MF yJ9_min_7cf53 cJ9_min_7cf53 2 (some .int) 2 := ⟨ik_in4 (List.mem_of_getElem? (i := 177) rfl), ik_in1 (List.mem_of_getElem? (i := 6) rfl), by decide +kernel, by decide +kernel, by decide +kernel⟩
theorem ms_J9_min_7cf53 : Cond.static yJ9_min_7cf53 ∈ lw_tbl := ik_in4 (List.mem_of_getElem? (i := 176) rfl)
theorem fw_X2_53 : ik_FW RX2 53 2 9 0 := ⟨RX2, TX2, 14, tyX2, rfl, by decide, inX2, tyX2_ok, nmX2, rfl, ik_in2 (List.mem_of_getElem? (i := 73) rfl), rfl, rfl⟩
theorem fw_X2_57 : ik_FW RX2 57 2 10 0 := ⟨RX2, TX2, 14, tyX2, rfl, by decide, inX2, tyX2_ok, nmX2, rfl, ik_in2 (List.mem_of_getElem? (i := 74) rfl), rfl, rfl⟩
theorem fl_X2_22 : ik_FL RX2 22 2 2 := ⟨RX2, TX2, 14, tyX2, rfl, by decide, inX2, tyX2_ok, nmX2, rfl, ik_in2 (List.mem_of_getElem? (i := 66) rfl)⟩
theorem ml_X11_382 : Cond.methodLink RX11 382 yX2_begin ∈ lw_tbl := ik_in4 (List.mem_of_getElem? (i := 170) rfl)
theorem mf_X2_begin : ik_MF yX2_begin cX2_begin 4 (none) 2 := ⟨ik_in4 (List.mem_of_getElem? (i := 173) rfl), ik_in1 (List.mem_of_getElem? (i := 12) rfl), by decide +kernel, by decide +kernel, by decide +kernel⟩
theorem mv_X2_begin : ik_MV yX2_begin := ⟨ik_in4 (List.mem_of_getElem? (i := 171) rfl), ik_in4 (List.mem_of_getElem? (i := 172) rfl)⟩
theorem ml_X11_385 : Cond.methodLink RX11 385 yX6_weight ∈ lw_tbl := ik_in4 (List.mem_of_getElem? (i := 178) rfl)
theorem mf_X6_weight : ik_MF yX6_weight cX6_weight 2 (some .int) 1 := ⟨ik_in4 (List.mem_of_getElem? (i := 181) rfl), ik_in1 (List.mem_of_getElem? (i := 4) rfl), by decide +kernel, by decide +kernel, by decide +kernel⟩
theorem mv_X6_weight : ik_MV yX6_weight := ⟨ik_in4 (List.mem_of_getElem? (i := 179) rfl), ik_in4 (List.mem_of_getElem? (i := 180) rfl)⟩
theorem ml_X2_60 : Cond.methodLink RX2 60 yX2_isName ∈ lw_tbl := ik_in4 (List.mem_of_getElem? (i := 186) rfl)
theorem mf_X2_isName : ik_MF yX2_isName cX2_isName 1 (some .boolean) 1 := ⟨ik_in4 (List.mem_of_getElem? (i := 188) rfl), ik_in1 (List.mem_of_getElem? (i := 12) rfl), by decide +kernel, by decide +kernel, by decide +kernel⟩
theorem ms_X2_isName : Cond.static yX2_isName ∈ lw_tbl := ik_in4 (List.mem_of_getElem? (i := 187) rfl)
theorem fl_X2_25 : ik_FL RX2 25 2 3 := ⟨RX2, TX2, 14, tyX2, rfl, by decide, inX2, tyX2_ok, nmX2, rfl, ik_in2 (List.mem_of_getElem? (i := 67) rfl)⟩
theorem fl_X2_28 : ik_FL RX2 28 2 4 := ⟨RX2, TX2, 14, tyX2, rfl, by decide, inX2, tyX2_ok, nmX2, rfl, ik_in2 (List.mem_of_getElem? (i := 68) rfl)⟩
theorem ml_X11_388 : Cond.methodLink RX11 388 yX2_setName ∈ lw_tbl := ik_in4 (List.mem_of_getElem? (i := 182) rfl)
theorem mf_X2_setName : ik_MF yX2_setName cX2_setName 4 (none) 3 := ⟨ik_in4 (List.mem_of_getElem? (i := 185) rfl), ik_in1 (List.mem_of_getElem? (i := 12) rfl), by decide +kernel, by decide +kernel, by decide +kernel⟩
theorem mv_X2_setName : ik_MV yX2_setName := ⟨ik_in4 (List.mem_of_getElem? (i := 183) rfl), ik_in4 (List.mem_of_getElem? (i := 184) rfl)⟩
theorem ml_X2_64 : Cond.methodLink RX2 64 yX2_isBar ∈ lw_tbl := ik_in4 (List.mem_of_getElem? (i := 193) rfl)
theorem mf_X2_isBar : ik_MF yX2_isBar cX2_isBar 1 (some .boolean) 1 := ⟨ik_in4 (List.mem_of_getElem? (i := 195) rfl), ik_in1 (List.mem_of_getElem? (i := 12) rfl), by decide +kernel, by decide +kernel, by decide +kernel⟩
theorem ms_X2_isBar : Cond.static yX2_isBar ∈ lw_tbl := ik_in4 (List.mem_of_getElem? (i := 194) rfl)
theorem ml_X2_67 : Cond.methodLink RX2 67 yX2_pairPlace ∈ lw_tbl := ik_in4 (List.mem_of_getElem? (i := 196) rfl)
theorem mf_X2_pairPlace : ik_MF yX2_pairPlace cX2_pairPlace 3 (some .int) 3 := ⟨ik_in4 (List.mem_of_getElem? (i := 198) rfl), ik_in1 (List.mem_of_getElem? (i := 12) rfl), by decide +kernel, by decide +kernel, by decide +kernel⟩
theorem ms_X2_pairPlace : Cond.static yX2_pairPlace ∈ lw_tbl := ik_in4 (List.mem_of_getElem? (i := 197) rfl)
theorem ml_X11_391 : Cond.methodLink RX11 391 yX2_pair ∈ lw_tbl := ik_in4 (List.mem_of_getElem? (i := 189) rfl)
theorem mf_X2_pair : ik_MF yX2_pair cX2_pair 5 (none) 4 := ⟨ik_in4 (List.mem_of_getElem? (i := 192) rfl), ik_in1 (List.mem_of_getElem? (i := 12) rfl), by decide +kernel, by decide +kernel, by decide +kernel⟩
theorem mv_X2_pair : ik_MV yX2_pair := ⟨ik_in4 (List.mem_of_getElem? (i := 190) rfl), ik_in4 (List.mem_of_getElem? (i := 191) rfl)⟩
theorem fl_X11_395 : ik_FL RX11 395 2 0 := ⟨RX2, TX2, 14, tyX2, rfl, by decide, inX2, tyX2_ok, nmX2, rfl, ik_in2 (List.mem_of_getElem? (i := 64) rfl)⟩
theorem fw_X5_28 : ik_FW RX5 28 5 5 3 := ⟨RX5, TX5, 8, tyX5, rfl, by decide, inX5, tyX5_ok, nmX5, rfl, ik_in2 (List.mem_of_getElem? (i := 43) rfl), rfl, rfl⟩
theorem fl_X5_9 : ik_FL RX5 9 5 0 := ⟨RX5, TX5, 8, tyX5, rfl, by decide, inX5, tyX5_ok, nmX5, rfl, ik_in2 (List.mem_of_getElem? (i := 38) rfl)⟩
theorem ml_X5_39 : Cond.methodLink RX5 39 yX8_count ∈ lw_tbl := ik_in4 (List.mem_of_getElem? (i := 203) rfl)
theorem ml_X5_49 : Cond.methodLink RX5 49 yX8_tokens ∈ lw_tbl := ik_in4 (List.mem_of_getElem? (i := 208) rfl)
theorem ml_X5_53 : Cond.methodLink RX5 53 yX8_barAt ∈ lw_tbl := ik_in4 (List.mem_of_getElem? (i := 209) rfl)
theorem ml_X5_57 : Cond.methodLink RX5 57 yX8_wordWide ∈ lw_tbl := ik_in4 (List.mem_of_getElem? (i := 210) rfl)
theorem ml_X5_61 : Cond.methodLink RX5 61 yX4_wideOf ∈ lw_tbl := ik_in4 (List.mem_of_getElem? (i := 211) rfl)
theorem fl_X5_25 : ik_FL RX5 25 5 4 := ⟨RX5, TX5, 8, tyX5, rfl, by decide, inX5, tyX5_ok, nmX5, rfl, ik_in2 (List.mem_of_getElem? (i := 42) rfl)⟩
theorem ml_X5_66 : Cond.methodLink RX5 66 yX5_stand ∈ lw_tbl := ik_in4 (List.mem_of_getElem? (i := 212) rfl)
theorem mf_X5_stand : ik_MF yX5_stand cX5_stand 4 (none) 2 := ⟨ik_in4 (List.mem_of_getElem? (i := 215) rfl), ik_in1 (List.mem_of_getElem? (i := 13) rfl), by decide +kernel, by decide +kernel, by decide +kernel⟩
theorem mv_X5_stand : ik_MV yX5_stand := ⟨ik_in4 (List.mem_of_getElem? (i := 214) rfl), ik_inS (List.mem_of_getElem? (i := 26) (by decide +kernel))⟩
theorem ml_X5_70 : Cond.methodLink RX5 70 yX8_wide ∈ lw_tbl := ik_in4 (List.mem_of_getElem? (i := 216) rfl)
theorem ml_X5_73 : Cond.methodLink RX5 73 yX8_begins ∈ lw_tbl := ik_in4 (List.mem_of_getElem? (i := 217) rfl)
theorem fl_X5_28 : ik_FL RX5 28 5 5 := ⟨RX5, TX5, 8, tyX5, rfl, by decide, inX5, tyX5_ok, nmX5, rfl, ik_in2 (List.mem_of_getElem? (i := 43) rfl)⟩
theorem fl_X5_18 : ik_FL RX5 18 5 2 := ⟨RX5, TX5, 8, tyX5, rfl, by decide, inX5, tyX5_ok, nmX5, rfl, ik_in2 (List.mem_of_getElem? (i := 40) rfl)⟩
theorem fl_X5_22 : ik_FL RX5 22 5 3 := ⟨RX5, TX5, 8, tyX5, rfl, by decide, inX5, tyX5_ok, nmX5, rfl, ik_in2 (List.mem_of_getElem? (i := 41) rfl)⟩
theorem ml_X5_80 : Cond.methodLink RX5 80 yX5_asksOfTheSame ∈ lw_tbl := ik_in4 (List.mem_of_getElem? (i := 222) rfl)
theorem mf_X5_asksOfTheSame : ik_MF yX5_asksOfTheSame cX5_asksOfTheSame 3 (some .boolean) 1 := ⟨ik_in4 (List.mem_of_getElem? (i := 225) rfl), ik_in1 (List.mem_of_getElem? (i := 13) rfl), by decide +kernel, by decide +kernel, by decide +kernel⟩
theorem mv_X5_asksOfTheSame : ik_MV yX5_asksOfTheSame := ⟨ik_in4 (List.mem_of_getElem? (i := 224) rfl), ik_inS (List.mem_of_getElem? (i := 28) (by decide +kernel))⟩
theorem fl_X5_15 : ik_FL RX5 15 5 1 := ⟨RX5, TX5, 8, tyX5, rfl, by decide, inX5, tyX5_ok, nmX5, rfl, ik_in2 (List.mem_of_getElem? (i := 39) rfl)⟩
theorem ml_X5_84 : Cond.methodLink RX5 84 yJ9_max_7cf53 ∈ lw_tbl := ik_in4 (List.mem_of_getElem? (i := 226) rfl)
theorem ml_X5_89 : Cond.methodLink RX5 89 yJ9_min_7cf53 ∈ lw_tbl := ik_in4 (List.mem_of_getElem? (i := 227) rfl)
theorem ml_X5_92 : Cond.methodLink RX5 92 yX5_put ∈ lw_tbl := ik_in4 (List.mem_of_getElem? (i := 228) rfl)
theorem mf_X5_put : ik_MF yX5_put cX5_put 5 (none) 3 := ⟨ik_in4 (List.mem_of_getElem? (i := 231) rfl), ik_in1 (List.mem_of_getElem? (i := 13) rfl), by decide +kernel, by decide +kernel, by decide +kernel⟩
theorem mv_X5_put : ik_MV yX5_put := ⟨ik_in4 (List.mem_of_getElem? (i := 230) rfl), ik_inS (List.mem_of_getElem? (i := 29) (by decide +kernel))⟩
theorem ml_X5_77 : Cond.methodLink RX5 77 yX5_add ∈ lw_tbl := ik_in4 (List.mem_of_getElem? (i := 218) rfl)
theorem mf_X5_add : ik_MF yX5_add cX5_add 6 (none) 2 := ⟨ik_in4 (List.mem_of_getElem? (i := 221) rfl), ik_in1 (List.mem_of_getElem? (i := 13) rfl), by decide +kernel, by decide +kernel, by decide +kernel⟩
theorem mv_X5_add : ik_MV yX5_add := ⟨ik_in4 (List.mem_of_getElem? (i := 220) rfl), ik_inS (List.mem_of_getElem? (i := 27) (by decide +kernel))⟩
theorem ml_X5_45 : Cond.methodLink RX5 45 yX5_readSheet ∈ lw_tbl := ik_in4 (List.mem_of_getElem? (i := 204) rfl)
theorem mf_X5_readSheet : ik_MF yX5_readSheet cX5_readSheet 8 (none) 3 := ⟨ik_in4 (List.mem_of_getElem? (i := 207) rfl), ik_in1 (List.mem_of_getElem? (i := 13) rfl), by decide +kernel, by decide +kernel, by decide +kernel⟩
theorem mv_X5_readSheet : ik_MV yX5_readSheet := ⟨ik_in4 (List.mem_of_getElem? (i := 206) rfl), ik_inS (List.mem_of_getElem? (i := 25) (by decide +kernel))⟩
theorem ml_X11_398 : Cond.methodLink RX11 398 yX5_read ∈ lw_tbl := ik_in4 (List.mem_of_getElem? (i := 199) rfl)
theorem mf_X5_read : ik_MF yX5_read cX5_read 4 (none) 2 := ⟨ik_in4 (List.mem_of_getElem? (i := 202) rfl), ik_in1 (List.mem_of_getElem? (i := 13) rfl), by decide +kernel, by decide +kernel, by decide +kernel⟩
theorem mv_X5_read : ik_MV yX5_read := ⟨ik_in4 (List.mem_of_getElem? (i := 200) rfl), ik_in4 (List.mem_of_getElem? (i := 201) rfl)⟩
theorem fl_X11_72 : ik_FL RX11 72 11 9 := ⟨RX11, TX11, 15, tyX11, rfl, by decide, inX11, tyX11_ok, nmX11, rfl, ik_in2 (List.mem_of_getElem? (i := 117) rfl)⟩
theorem fw_X11_403 : ik_FW RX11 403 11 14 3 := ⟨RX11, TX11, 15, tyX11, rfl, by decide, inX11, tyX11_ok, nmX11, rfl, ik_in2 (List.mem_of_getElem? (i := 122) rfl), rfl, rfl⟩
theorem ml_X11_225 : Cond.methodLink RX11 225 yX11_prepare ∈ lw_tbl := ik_in4 (List.mem_of_getElem? (i := 162) rfl)
theorem mf_X11_prepare : ik_MF yX11_prepare cX11_prepare 5 (none) 0 := ⟨ik_in4 (List.mem_of_getElem? (i := 165) rfl), ik_in1 (List.mem_of_getElem? (i := 1) rfl), by decide +kernel, by decide +kernel, by decide +kernel⟩
theorem mv_X11_prepare : ik_MV yX11_prepare := ⟨ik_in4 (List.mem_of_getElem? (i := 164) rfl), ik_inS (List.mem_of_getElem? (i := 24) (by decide +kernel))⟩
theorem ml_X11_406 : Cond.methodLink RX11 406 yX2_wide ∈ lw_tbl := ik_in4 (List.mem_of_getElem? (i := 236) rfl)
theorem mf_X2_wide : ik_MF yX2_wide cX2_wide 2 (some .int) 1 := ⟨ik_in4 (List.mem_of_getElem? (i := 239) rfl), ik_in1 (List.mem_of_getElem? (i := 12) rfl), by decide +kernel, by decide +kernel, by decide +kernel⟩
theorem mv_X2_wide : ik_MV yX2_wide := ⟨ik_in4 (List.mem_of_getElem? (i := 237) rfl), ik_in4 (List.mem_of_getElem? (i := 238) rfl)⟩
theorem fl_X2_18 : ik_FL RX2 18 2 1 := ⟨RX2, TX2, 14, tyX2, rfl, by decide, inX2, tyX2_ok, nmX2, rfl, ik_in2 (List.mem_of_getElem? (i := 65) rfl)⟩
theorem ml_X11_408 : Cond.methodLink RX11 408 yX2_setFits ∈ lw_tbl := ik_in5 (List.mem_of_getElem? (i := 0) rfl)
theorem mf_X2_setFits : ik_MF yX2_setFits cX2_setFits 3 (none) 2 := ⟨ik_in5 (List.mem_of_getElem? (i := 3) rfl), ik_in1 (List.mem_of_getElem? (i := 12) rfl), by decide +kernel, by decide +kernel, by decide +kernel⟩
theorem mv_X2_setFits : ik_MV yX2_setFits := ⟨ik_in5 (List.mem_of_getElem? (i := 1) rfl), ik_in5 (List.mem_of_getElem? (i := 2) rfl)⟩
theorem fw_X2_71 : ik_FW RX2 71 2 11 3 := ⟨RX2, TX2, 14, tyX2, rfl, by decide, inX2, tyX2_ok, nmX2, rfl, ik_in2 (List.mem_of_getElem? (i := 75) rfl), rfl, rfl⟩
theorem fw_X2_75 : ik_FW RX2 75 2 12 3 := ⟨RX2, TX2, 14, tyX2, rfl, by decide, inX2, tyX2_ok, nmX2, rfl, ik_in2 (List.mem_of_getElem? (i := 76) rfl), rfl, rfl⟩
theorem ml_X11_411 : Cond.methodLink RX11 411 yX2_heed ∈ lw_tbl := ik_in5 (List.mem_of_getElem? (i := 4) rfl)
theorem mf_X2_heed : ik_MF yX2_heed cX2_heed 3 (none) 2 := ⟨ik_in5 (List.mem_of_getElem? (i := 7) rfl), ik_in1 (List.mem_of_getElem? (i := 12) rfl), by decide +kernel, by decide +kernel, by decide +kernel⟩
theorem mv_X2_heed : ik_MV yX2_heed := ⟨ik_in5 (List.mem_of_getElem? (i := 5) rfl), ik_in5 (List.mem_of_getElem? (i := 6) rfl)⟩
theorem ml_X11_415 : Cond.methodLink RX11 415 yX11_fit ∈ lw_tbl := ik_in4 (List.mem_of_getElem? (i := 232) rfl)
theorem mf_X11_fit : ik_MF yX11_fit cX11_fit 9 (none) 3 := ⟨ik_in4 (List.mem_of_getElem? (i := 235) rfl), ik_in1 (List.mem_of_getElem? (i := 1) rfl), by decide +kernel, by decide +kernel, by decide +kernel⟩
theorem mv_X11_fit : ik_MV yX11_fit := ⟨ik_in4 (List.mem_of_getElem? (i := 234) rfl), ik_inS (List.mem_of_getElem? (i := 30) (by decide +kernel))⟩
theorem fl_X2_53 : ik_FL RX2 53 2 9 := ⟨RX2, TX2, 14, tyX2, rfl, by decide, inX2, tyX2_ok, nmX2, rfl, ik_in2 (List.mem_of_getElem? (i := 73) rfl)⟩
theorem fl_X2_75 : ik_FL RX2 75 2 12 := ⟨RX2, TX2, 14, tyX2, rfl, by decide, inX2, tyX2_ok, nmX2, rfl, ik_in2 (List.mem_of_getElem? (i := 76) rfl)⟩
theorem fl_X2_12 : ik_FL RX2 12 2 0 := ⟨RX2, TX2, 14, tyX2, rfl, by decide, inX2, tyX2_ok, nmX2, rfl, ik_in2 (List.mem_of_getElem? (i := 63) rfl)⟩
theorem ml_X2_78 : Cond.methodLink RX2 78 yX5_broken ∈ lw_tbl := ik_in5 (List.mem_of_getElem? (i := 16) rfl)
theorem mf_X5_broken : ik_MF yX5_broken cX5_broken 1 (some .boolean) 0 := ⟨ik_in5 (List.mem_of_getElem? (i := 19) rfl), ik_in1 (List.mem_of_getElem? (i := 13) rfl), by decide +kernel, by decide +kernel, by decide +kernel⟩
theorem mv_X5_broken : ik_MV yX5_broken := ⟨ik_in5 (List.mem_of_getElem? (i := 17) rfl), ik_in5 (List.mem_of_getElem? (i := 18) rfl)⟩
theorem ml_X2_82 : Cond.methodLink RX2 82 yX2_hopeful ∈ lw_tbl := ik_in5 (List.mem_of_getElem? (i := 12) rfl)
theorem mf_X2_hopeful : ik_MF yX2_hopeful cX2_hopeful 1 (some .boolean) 0 := ⟨ik_in5 (List.mem_of_getElem? (i := 15) rfl), ik_in1 (List.mem_of_getElem? (i := 12) rfl), by decide +kernel, by decide +kernel, by decide +kernel⟩
theorem mv_X2_hopeful : ik_MV yX2_hopeful := ⟨ik_in5 (List.mem_of_getElem? (i := 14) rfl), ik_inS (List.mem_of_getElem? (i := 31) (by decide +kernel))⟩
theorem fl_X2_71 : ik_FL RX2 71 2 11 := ⟨RX2, TX2, 14, tyX2, rfl, by decide, inX2, tyX2_ok, nmX2, rfl, ik_in2 (List.mem_of_getElem? (i := 75) rfl)⟩
theorem fl_X2_31 : ik_FL RX2 31 2 5 := ⟨RX2, TX2, 14, tyX2, rfl, by decide, inX2, tyX2_ok, nmX2, rfl, ik_in2 (List.mem_of_getElem? (i := 69) rfl)⟩
theorem ml_X2_108 : Cond.methodLink RX2 108 yX5_heeds ∈ lw_tbl := ik_in5 (List.mem_of_getElem? (i := 28) rfl)
theorem mf_X5_heeds : ik_MF yX5_heeds cX5_heeds 2 (some .boolean) 1 := ⟨ik_in5 (List.mem_of_getElem? (i := 31) rfl), ik_in1 (List.mem_of_getElem? (i := 13) rfl), by decide +kernel, by decide +kernel, by decide +kernel⟩
theorem mv_X5_heeds : ik_MV yX5_heeds := ⟨ik_in5 (List.mem_of_getElem? (i := 29) rfl), ik_in5 (List.mem_of_getElem? (i := 30) rfl)⟩
theorem fl_X2_34 : ik_FL RX2 34 2 6 := ⟨RX2, TX2, 14, tyX2, rfl, by decide, inX2, tyX2_ok, nmX2, rfl, ik_in2 (List.mem_of_getElem? (i := 70) rfl)⟩
theorem kc_X5_96 : Cond.constant RX5 96 (-1000000) ∈ lw_tbl := ik_in5 (List.mem_of_getElem? (i := 36) rfl)
theorem fw_X5_32 : ik_FW RX5 32 5 6 0 := ⟨RX5, TX5, 8, tyX5, rfl, by decide, inX5, tyX5_ok, nmX5, rfl, ik_in2 (List.mem_of_getElem? (i := 44) rfl), rfl, rfl⟩
theorem kc_X5_97 : Cond.constant RX5 97 (1000000) ∈ lw_tbl := ik_in5 (List.mem_of_getElem? (i := 37) rfl)
theorem fw_X5_36 : ik_FW RX5 36 5 7 0 := ⟨RX5, TX5, 8, tyX5, rfl, by decide, inX5, tyX5_ok, nmX5, rfl, ik_in2 (List.mem_of_getElem? (i := 45) rfl), rfl, rfl⟩
theorem ml_X5_98 : Cond.methodLink RX5 98 yX5_heeds ∈ lw_tbl := ik_in5 (List.mem_of_getElem? (i := 38) rfl)
theorem ml_X5_101 : Cond.methodLink RX5 101 yJ9_floorDiv_7cf53 ∈ lw_tbl := ik_in5 (List.mem_of_getElem? (i := 39) rfl)
theorem mf_J9_floorDiv_7cf53 : ik_MF yJ9_floorDiv_7cf53 cJ9_floorDiv_7cf53 3 (some .int) 2 := ⟨ik_in5 (List.mem_of_getElem? (i := 41) rfl), ik_in1 (List.mem_of_getElem? (i := 6) rfl), by decide +kernel, by decide +kernel, by decide +kernel⟩
theorem ms_J9_floorDiv_7cf53 : Cond.static yJ9_floorDiv_7cf53 ∈ lw_tbl := ik_in5 (List.mem_of_getElem? (i := 40) rfl)
theorem fl_X5_32 : ik_FL RX5 32 5 6 := ⟨RX5, TX5, 8, tyX5, rfl, by decide, inX5, tyX5_ok, nmX5, rfl, ik_in2 (List.mem_of_getElem? (i := 44) rfl)⟩
theorem fl_X5_36 : ik_FL RX5 36 5 7 := ⟨RX5, TX5, 8, tyX5, rfl, by decide, inX5, tyX5_ok, nmX5, rfl, ik_in2 (List.mem_of_getElem? (i := 45) rfl)⟩
theorem ml_X2_111 : Cond.methodLink RX2 111 yX5_narrow ∈ lw_tbl := ik_in5 (List.mem_of_getElem? (i := 32) rfl)
theorem mf_X5_narrow : ik_MF yX5_narrow cX5_narrow 8 (none) 2 := ⟨ik_in5 (List.mem_of_getElem? (i := 35) rfl), ik_in1 (List.mem_of_getElem? (i := 13) rfl), by decide +kernel, by decide +kernel, by decide +kernel⟩
theorem mv_X5_narrow : ik_MV yX5_narrow := ⟨ik_in5 (List.mem_of_getElem? (i := 33) rfl), ik_in5 (List.mem_of_getElem? (i := 34) rfl)⟩
theorem fl_X2_57 : ik_FL RX2 57 2 10 := ⟨RX2, TX2, 14, tyX2, rfl, by decide, inX2, tyX2_ok, nmX2, rfl, ik_in2 (List.mem_of_getElem? (i := 74) rfl)⟩
theorem ml_X2_115 : Cond.methodLink RX2 115 yX5_least ∈ lw_tbl := ik_in5 (List.mem_of_getElem? (i := 42) rfl)
theorem mf_X5_least : ik_MF yX5_least cX5_least 1 (some .int) 0 := ⟨ik_in5 (List.mem_of_getElem? (i := 45) rfl), ik_in1 (List.mem_of_getElem? (i := 13) rfl), by decide +kernel, by decide +kernel, by decide +kernel⟩
theorem mv_X5_least : ik_MV yX5_least := ⟨ik_in5 (List.mem_of_getElem? (i := 43) rfl), ik_in5 (List.mem_of_getElem? (i := 44) rfl)⟩
theorem ml_X2_119 : Cond.methodLink RX2 119 yX5_greatest ∈ lw_tbl := ik_in5 (List.mem_of_getElem? (i := 46) rfl)
theorem mf_X5_greatest : ik_MF yX5_greatest cX5_greatest 1 (some .int) 0 := ⟨ik_in5 (List.mem_of_getElem? (i := 49) rfl), ik_in1 (List.mem_of_getElem? (i := 13) rfl), by decide +kernel, by decide +kernel, by decide +kernel⟩
theorem mv_X5_greatest : ik_MV yX5_greatest := ⟨ik_in5 (List.mem_of_getElem? (i := 47) rfl), ik_in5 (List.mem_of_getElem? (i := 48) rfl)⟩
theorem ml_X2_122 : Cond.methodLink RX2 122 yX2_candidates ∈ lw_tbl := ik_in5 (List.mem_of_getElem? (i := 24) rfl)
theorem mf_X2_candidates : ik_MF yX2_candidates cX2_candidates 4 (some .int) 1 := ⟨ik_in5 (List.mem_of_getElem? (i := 27) rfl), ik_in1 (List.mem_of_getElem? (i := 12) rfl), by decide +kernel, by decide +kernel, by decide +kernel⟩
theorem mv_X2_candidates : ik_MV yX2_candidates := ⟨ik_in5 (List.mem_of_getElem? (i := 26) rfl), ik_inS (List.mem_of_getElem? (i := 33) (by decide +kernel))⟩
theorem kc_J6_265 : Cond.constant RJ6 265 (1431655765) ∈ lw_tbl := ik_in5 (List.mem_of_getElem? (i := 53) rfl)
theorem kc_J6_266 : Cond.constant RJ6 266 (858993459) ∈ lw_tbl := ik_in5 (List.mem_of_getElem? (i := 54) rfl)
theorem kc_J6_267 : Cond.constant RJ6 267 (252645135) ∈ lw_tbl := ik_in5 (List.mem_of_getElem? (i := 55) rfl)
theorem ml_X2_92 : Cond.methodLink RX2 92 yJ6_bitCount_0f7a4 ∈ lw_tbl := ik_in5 (List.mem_of_getElem? (i := 50) rfl)
theorem mf_J6_bitCount_0f7a4 : ik_MF yJ6_bitCount_0f7a4 cJ6_bitCount_0f7a4 1 (some .int) 1 := ⟨ik_in5 (List.mem_of_getElem? (i := 52) rfl), ik_in1 (List.mem_of_getElem? (i := 16) rfl), by decide +kernel, by decide +kernel, by decide +kernel⟩
theorem ms_J6_bitCount_0f7a4 : Cond.static yJ6_bitCount_0f7a4 ∈ lw_tbl := ik_in5 (List.mem_of_getElem? (i := 51) rfl)
theorem ml_X2_125 : Cond.methodLinkNest RX2 125 yX11_bit "InkBars" ∈ lw_tbl := ik_in5 (List.mem_of_getElem? (i := 56) rfl)
theorem ml_X2_85 : Cond.methodLink RX2 85 yX2_countFrom ∈ lw_tbl := ik_in5 (List.mem_of_getElem? (i := 20) rfl)
theorem mf_X2_countFrom : ik_MF yX2_countFrom cX2_countFrom 5 (some .int) 1 := ⟨ik_in5 (List.mem_of_getElem? (i := 23) rfl), ik_in1 (List.mem_of_getElem? (i := 12) rfl), by decide +kernel, by decide +kernel, by decide +kernel⟩
theorem mv_X2_countFrom : ik_MV yX2_countFrom := ⟨ik_in5 (List.mem_of_getElem? (i := 22) rfl), ik_inS (List.mem_of_getElem? (i := 32) (by decide +kernel))⟩
theorem ml_X2_129 : Cond.methodLink RX2 129 yX2_countBehind ∈ lw_tbl := ik_in5 (List.mem_of_getElem? (i := 57) rfl)
theorem mf_X2_countBehind : ik_MF yX2_countBehind cX2_countBehind 3 (some .int) 2 := ⟨ik_in5 (List.mem_of_getElem? (i := 60) rfl), ik_in1 (List.mem_of_getElem? (i := 12) rfl), by decide +kernel, by decide +kernel, by decide +kernel⟩
theorem mv_X2_countBehind : ik_MV yX2_countBehind := ⟨ik_in5 (List.mem_of_getElem? (i := 59) rfl), ik_inS (List.mem_of_getElem? (i := 34) (by decide +kernel))⟩
theorem ml_X11_418 : Cond.methodLink RX11 418 yX2_number ∈ lw_tbl := ik_in5 (List.mem_of_getElem? (i := 8) rfl)
theorem mf_X2_number : ik_MF yX2_number cX2_number 1 (some .int) 0 := ⟨ik_in5 (List.mem_of_getElem? (i := 11) rfl), ik_in1 (List.mem_of_getElem? (i := 12) rfl), by decide +kernel, by decide +kernel, by decide +kernel⟩
theorem mv_X2_number : ik_MV yX2_number := ⟨ik_in5 (List.mem_of_getElem? (i := 9) rfl), ik_in5 (List.mem_of_getElem? (i := 10) rfl)⟩
theorem ml_X11_206 : Cond.methodLink RX11 206 yX11_countWithout ∈ lw_tbl := ik_in4 (List.mem_of_getElem? (i := 158) rfl)
theorem mf_X11_countWithout : ik_MF yX11_countWithout cX11_countWithout 2 (some .int) 1 := ⟨ik_in4 (List.mem_of_getElem? (i := 161) rfl), ik_in1 (List.mem_of_getElem? (i := 1) rfl), by decide +kernel, by decide +kernel, by decide +kernel⟩
theorem mv_X11_countWithout : ik_MV yX11_countWithout := ⟨ik_in4 (List.mem_of_getElem? (i := 160) rfl), ik_inS (List.mem_of_getElem? (i := 23) (by decide +kernel))⟩
theorem fl_X11_403 : ik_FL RX11 403 11 14 := ⟨RX11, TX11, 15, tyX11, rfl, by decide, inX11, tyX11_ok, nmX11, rfl, ik_in2 (List.mem_of_getElem? (i := 122) rfl)⟩
theorem fl_X2_40 : ik_FL RX2 40 2 8 := ⟨RX2, TX2, 14, tyX2, rfl, by decide, inX2, tyX2_ok, nmX2, rfl, ik_in2 (List.mem_of_getElem? (i := 72) rfl)⟩
theorem ml_X2_97 : Cond.methodLink RX2 97 yX2_weighFrom ∈ lw_tbl := ik_in5 (List.mem_of_getElem? (i := 73) rfl)
theorem mf_X2_weighFrom : ik_MF yX2_weighFrom cX2_weighFrom 10 (some .long) 2 := ⟨ik_in5 (List.mem_of_getElem? (i := 76) rfl), ik_in1 (List.mem_of_getElem? (i := 12) rfl), by decide +kernel, by decide +kernel, by decide +kernel⟩
theorem mv_X2_weighFrom : ik_MV yX2_weighFrom := ⟨ik_in5 (List.mem_of_getElem? (i := 75) rfl), ik_inS (List.mem_of_getElem? (i := 36) (by decide +kernel))⟩
theorem ml_X2_135 : Cond.methodLink RX2 135 yX2_weighBehind ∈ lw_tbl := ik_in5 (List.mem_of_getElem? (i := 77) rfl)
theorem mf_X2_weighBehind : ik_MF yX2_weighBehind cX2_weighBehind 5 (some .long) 3 := ⟨ik_in5 (List.mem_of_getElem? (i := 80) rfl), ik_in1 (List.mem_of_getElem? (i := 12) rfl), by decide +kernel, by decide +kernel, by decide +kernel⟩
theorem mv_X2_weighBehind : ik_MV yX2_weighBehind := ⟨ik_in5 (List.mem_of_getElem? (i := 79) rfl), ik_inS (List.mem_of_getElem? (i := 37) (by decide +kernel))⟩
theorem fw_X2_101 : ik_FW RX2 101 2 13 1 := ⟨RX2, TX2, 14, tyX2, rfl, by decide, inX2, tyX2_ok, nmX2, rfl, ik_in2 (List.mem_of_getElem? (i := 77) rfl), rfl, rfl⟩
theorem ml_X11_421 : Cond.methodLink RX11 421 yX2_weighAll ∈ lw_tbl := ik_in5 (List.mem_of_getElem? (i := 69) rfl)
theorem mf_X2_weighAll : ik_MF yX2_weighAll cX2_weighAll 2 (none) 0 := ⟨ik_in5 (List.mem_of_getElem? (i := 72) rfl), ik_in1 (List.mem_of_getElem? (i := 12) rfl), by decide +kernel, by decide +kernel, by decide +kernel⟩
theorem mv_X2_weighAll : ik_MV yX2_weighAll := ⟨ik_in5 (List.mem_of_getElem? (i := 70) rfl), ik_in5 (List.mem_of_getElem? (i := 71) rfl)⟩
theorem ml_X11_209 : Cond.methodLink RX11 209 yX11_weigh ∈ lw_tbl := ik_in5 (List.mem_of_getElem? (i := 65) rfl)
theorem mf_X11_weigh : ik_MF yX11_weigh cX11_weigh 1 (none) 0 := ⟨ik_in5 (List.mem_of_getElem? (i := 68) rfl), ik_in1 (List.mem_of_getElem? (i := 1) rfl), by decide +kernel, by decide +kernel, by decide +kernel⟩
theorem mv_X11_weigh : ik_MV yX11_weigh := ⟨ik_in5 (List.mem_of_getElem? (i := 67) rfl), ik_inS (List.mem_of_getElem? (i := 35) (by decide +kernel))⟩
theorem ml_X2_105 : Cond.methodLink RX2 105 yX2_odds ∈ lw_tbl := ik_in5 (List.mem_of_getElem? (i := 85) rfl)
theorem mf_X2_odds : ik_MF yX2_odds cX2_odds 3 (some .long) 2 := ⟨ik_in5 (List.mem_of_getElem? (i := 88) rfl), ik_in1 (List.mem_of_getElem? (i := 12) rfl), by decide +kernel, by decide +kernel, by decide +kernel⟩
theorem mv_X2_odds : ik_MV yX2_odds := ⟨ik_in5 (List.mem_of_getElem? (i := 86) rfl), ik_in5 (List.mem_of_getElem? (i := 87) rfl)⟩
theorem ml_X11_212 : Cond.methodLink RX11 212 yX2_may ∈ lw_tbl := ik_in5 (List.mem_of_getElem? (i := 81) rfl)
theorem mf_X2_may : ik_MF yX2_may cX2_may 4 (some .int) 1 := ⟨ik_in5 (List.mem_of_getElem? (i := 84) rfl), ik_in1 (List.mem_of_getElem? (i := 12) rfl), by decide +kernel, by decide +kernel, by decide +kernel⟩
theorem mv_X2_may : ik_MV yX2_may := ⟨ik_in5 (List.mem_of_getElem? (i := 82) rfl), ik_in5 (List.mem_of_getElem? (i := 83) rfl)⟩
theorem kc_X11_215 : Cond.constantLong RX11 215 (-1) ∈ lw_tbl := ik_in5 (List.mem_of_getElem? (i := 93) rfl)
theorem fl_X2_101 : ik_FL RX2 101 2 13 := ⟨RX2, TX2, 14, tyX2, rfl, by decide, inX2, tyX2_ok, nmX2, rfl, ik_in2 (List.mem_of_getElem? (i := 77) rfl)⟩
theorem ml_X11_217 : Cond.methodLink RX11 217 yX2_all ∈ lw_tbl := ik_in5 (List.mem_of_getElem? (i := 94) rfl)
theorem mf_X2_all : ik_MF yX2_all cX2_all 1 (some .long) 0 := ⟨ik_in5 (List.mem_of_getElem? (i := 97) rfl), ik_in1 (List.mem_of_getElem? (i := 12) rfl), by decide +kernel, by decide +kernel, by decide +kernel⟩
theorem mv_X2_all : ik_MV yX2_all := ⟨ik_in5 (List.mem_of_getElem? (i := 95) rfl), ik_in5 (List.mem_of_getElem? (i := 96) rfl)⟩
theorem ml_X11_221 : Cond.methodLink RX11 221 yX2_odds ∈ lw_tbl := ik_in5 (List.mem_of_getElem? (i := 98) rfl)
theorem fl_X2_37 : ik_FL RX2 37 2 7 := ⟨RX2, TX2, 14, tyX2, rfl, by decide, inX2, tyX2_ok, nmX2, rfl, ik_in2 (List.mem_of_getElem? (i := 71) rfl)⟩
theorem ml_X2_89 : Cond.methodLink RX2 89 yX2_reachFrom ∈ lw_tbl := ik_in5 (List.mem_of_getElem? (i := 115) rfl)
theorem mf_X2_reachFrom : ik_MF yX2_reachFrom cX2_reachFrom 4 (some .boolean) 1 := ⟨ik_in5 (List.mem_of_getElem? (i := 118) rfl), ik_in1 (List.mem_of_getElem? (i := 12) rfl), by decide +kernel, by decide +kernel, by decide +kernel⟩
theorem mv_X2_reachFrom : ik_MV yX2_reachFrom := ⟨ik_in5 (List.mem_of_getElem? (i := 117) rfl), ik_inS (List.mem_of_getElem? (i := 39) (by decide +kernel))⟩
theorem ml_X2_132 : Cond.methodLink RX2 132 yX2_reachBehind ∈ lw_tbl := ik_in5 (List.mem_of_getElem? (i := 119) rfl)
theorem mf_X2_reachBehind : ik_MF yX2_reachBehind cX2_reachBehind 3 (some .boolean) 2 := ⟨ik_in5 (List.mem_of_getElem? (i := 122) rfl), ik_in1 (List.mem_of_getElem? (i := 12) rfl), by decide +kernel, by decide +kernel, by decide +kernel⟩
theorem mv_X2_reachBehind : ik_MV yX2_reachBehind := ⟨ik_in5 (List.mem_of_getElem? (i := 121) rfl), ik_inS (List.mem_of_getElem? (i := 40) (by decide +kernel))⟩
theorem ml_X11_424 : Cond.methodLink RX11 424 yX2_fewest ∈ lw_tbl := ik_in5 (List.mem_of_getElem? (i := 111) rfl)
theorem mf_X2_fewest : ik_MF yX2_fewest cX2_fewest 3 (some .int) 0 := ⟨ik_in5 (List.mem_of_getElem? (i := 114) rfl), ik_in1 (List.mem_of_getElem? (i := 12) rfl), by decide +kernel, by decide +kernel, by decide +kernel⟩
theorem mv_X2_fewest : ik_MV yX2_fewest := ⟨ik_in5 (List.mem_of_getElem? (i := 112) rfl), ik_in5 (List.mem_of_getElem? (i := 113) rfl)⟩
theorem ml_X11_228 : Cond.methodLink RX11 228 yX11_keeps ∈ lw_tbl := ik_in5 (List.mem_of_getElem? (i := 107) rfl)
theorem mf_X11_keeps : ik_MF yX11_keeps cX11_keeps 3 (some .boolean) 2 := ⟨ik_in5 (List.mem_of_getElem? (i := 110) rfl), ik_in1 (List.mem_of_getElem? (i := 1) rfl), by decide +kernel, by decide +kernel, by decide +kernel⟩
theorem mv_X11_keeps : ik_MV yX11_keeps := ⟨ik_in5 (List.mem_of_getElem? (i := 109) rfl), ik_inS (List.mem_of_getElem? (i := 38) (by decide +kernel))⟩
theorem ml_X11_232 : Cond.methodLink RX11 232 yX2_likeliest ∈ lw_tbl := ik_in5 (List.mem_of_getElem? (i := 127) rfl)
theorem mf_X2_likeliest : ik_MF yX2_likeliest cX2_likeliest 4 (some .int) 1 := ⟨ik_in5 (List.mem_of_getElem? (i := 130) rfl), ik_in1 (List.mem_of_getElem? (i := 12) rfl), by decide +kernel, by decide +kernel, by decide +kernel⟩
theorem mv_X2_likeliest : ik_MV yX2_likeliest := ⟨ik_in5 (List.mem_of_getElem? (i := 128) rfl), ik_in5 (List.mem_of_getElem? (i := 129) rfl)⟩
theorem ml_X11_235 : Cond.methodLink RX11 235 yJ6_bitCount_0f7a4 ∈ lw_tbl := ik_in5 (List.mem_of_getElem? (i := 131) rfl)
theorem kc_X11_240 : Cond.constantLong RX11 240 (1000) ∈ lw_tbl := ik_in5 (List.mem_of_getElem? (i := 132) rfl)
theorem ml_X6_90 : Cond.methodLinkNest RX6 90 yX11_bit "InkBars" ∈ lw_tbl := ik_in5 (List.mem_of_getElem? (i := 137) rfl)
theorem ml_X11_242 : Cond.methodLink RX11 242 yX6_oneSort ∈ lw_tbl := ik_in5 (List.mem_of_getElem? (i := 133) rfl)
theorem mf_X6_oneSort : ik_MF yX6_oneSort cX6_oneSort 4 (some .int) 1 := ⟨ik_in5 (List.mem_of_getElem? (i := 136) rfl), ik_in1 (List.mem_of_getElem? (i := 4) rfl), by decide +kernel, by decide +kernel, by decide +kernel⟩
theorem mv_X6_oneSort : ik_MV yX6_oneSort := ⟨ik_in5 (List.mem_of_getElem? (i := 134) rfl), ik_in5 (List.mem_of_getElem? (i := 135) rfl)⟩
theorem ml_X11_245 : Cond.methodLink RX11 245 yX11_isDay ∈ lw_tbl := ik_in5 (List.mem_of_getElem? (i := 142) rfl)
theorem mf_X11_isDay : ik_MF yX11_isDay cX11_isDay 1 (some .boolean) 1 := ⟨ik_in5 (List.mem_of_getElem? (i := 144) rfl), ik_in1 (List.mem_of_getElem? (i := 1) rfl), by decide +kernel, by decide +kernel, by decide +kernel⟩
theorem ms_X11_isDay : Cond.static yX11_isDay ∈ lw_tbl := ik_in5 (List.mem_of_getElem? (i := 143) rfl)
theorem fl_X11_61 : ik_FL RX11 61 11 7 := ⟨RX11, TX11, 15, tyX11, rfl, by decide, inX11, tyX11_ok, nmX11, rfl, ik_in2 (List.mem_of_getElem? (i := 115) rfl)⟩
theorem fl_X1_24 : ik_FL RX1 24 1 4 := ⟨RX1, TX1, 5, tyX1, rfl, by decide, inX1, tyX1_ok, nmX1, rfl, ik_in2 (List.mem_of_getElem? (i := 14) rfl)⟩
theorem ml_X11_248 : Cond.methodLink RX11 248 yX1_full ∈ lw_tbl := ik_in5 (List.mem_of_getElem? (i := 145) rfl)
theorem mf_X1_full : ik_MF yX1_full cX1_full 1 (some .boolean) 0 := ⟨ik_in5 (List.mem_of_getElem? (i := 148) rfl), ik_in1 (List.mem_of_getElem? (i := 11) rfl), by decide +kernel, by decide +kernel, by decide +kernel⟩
theorem mv_X1_full : ik_MV yX1_full := ⟨ik_in5 (List.mem_of_getElem? (i := 146) rfl), ik_in5 (List.mem_of_getElem? (i := 147) rfl)⟩
theorem ml_X11_249 : Cond.methodLink RX11 249 yX8_allTokens ∈ lw_tbl := ik_in5 (List.mem_of_getElem? (i := 149) rfl)
theorem mf_X8_allTokens : ik_MF yX8_allTokens cX8_allTokens 2 (some .int) 1 := ⟨ik_in5 (List.mem_of_getElem? (i := 152) rfl), ik_in1 (List.mem_of_getElem? (i := 8) rfl), by decide +kernel, by decide +kernel, by decide +kernel⟩
theorem mv_X8_allTokens : ik_MV yX8_allTokens := ⟨ik_in5 (List.mem_of_getElem? (i := 150) rfl), ik_in5 (List.mem_of_getElem? (i := 151) rfl)⟩
theorem ml_X1_28 : Cond.methodLink RX1 28 yX1_full ∈ lw_tbl := ik_in5 (List.mem_of_getElem? (i := 157) rfl)
theorem fl_X1_11 : ik_FL RX1 11 1 0 := ⟨RX1, TX1, 5, tyX1, rfl, by decide, inX1, tyX1_ok, nmX1, rfl, ik_in2 (List.mem_of_getElem? (i := 10) rfl)⟩
theorem fl_X1_15 : ik_FL RX1 15 1 1 := ⟨RX1, TX1, 5, tyX1, rfl, by decide, inX1, tyX1_ok, nmX1, rfl, ik_in2 (List.mem_of_getElem? (i := 11) rfl)⟩
theorem fl_X1_18 : ik_FL RX1 18 1 2 := ⟨RX1, TX1, 5, tyX1, rfl, by decide, inX1, tyX1_ok, nmX1, rfl, ik_in2 (List.mem_of_getElem? (i := 12) rfl)⟩
theorem fl_X1_21 : ik_FL RX1 21 1 3 := ⟨RX1, TX1, 5, tyX1, rfl, by decide, inX1, tyX1_ok, nmX1, rfl, ik_in2 (List.mem_of_getElem? (i := 13) rfl)⟩
theorem fw_X1_24 : ik_FW RX1 24 1 4 0 := ⟨RX1, TX1, 5, tyX1, rfl, by decide, inX1, tyX1_ok, nmX1, rfl, ik_in2 (List.mem_of_getElem? (i := 14) rfl), rfl, rfl⟩
theorem ml_X11_252 : Cond.methodLink RX11 252 yX1_add ∈ lw_tbl := ik_in5 (List.mem_of_getElem? (i := 153) rfl)
theorem mf_X1_add : ik_MF yX1_add cX1_add 5 (some .int) 4 := ⟨ik_in5 (List.mem_of_getElem? (i := 156) rfl), ik_in1 (List.mem_of_getElem? (i := 11) rfl), by decide +kernel, by decide +kernel, by decide +kernel⟩
theorem mv_X1_add : ik_MV yX1_add := ⟨ik_in5 (List.mem_of_getElem? (i := 154) rfl), ik_in5 (List.mem_of_getElem? (i := 155) rfl)⟩
theorem ml_X11_253 : Cond.methodLink RX11 253 yX1_openBy ∈ lw_tbl := ik_in5 (List.mem_of_getElem? (i := 162) rfl)
theorem mf_X1_openBy : ik_MF yX1_openBy cX1_openBy 6 (some .int) 3 := ⟨ik_in5 (List.mem_of_getElem? (i := 165) rfl), ik_in1 (List.mem_of_getElem? (i := 11) rfl), by decide +kernel, by decide +kernel, by decide +kernel⟩
theorem mv_X1_openBy : ik_MV yX1_openBy := ⟨ik_in5 (List.mem_of_getElem? (i := 163) rfl), ik_in5 (List.mem_of_getElem? (i := 164) rfl)⟩
theorem ml_X11_256 : Cond.methodLink RX11 256 yX1_has ∈ lw_tbl := ik_in5 (List.mem_of_getElem? (i := 170) rfl)
theorem mf_X1_has : ik_MF yX1_has cX1_has 2 (some .boolean) 1 := ⟨ik_in5 (List.mem_of_getElem? (i := 173) rfl), ik_in1 (List.mem_of_getElem? (i := 11) rfl), by decide +kernel, by decide +kernel, by decide +kernel⟩
theorem mv_X1_has : ik_MV yX1_has := ⟨ik_in5 (List.mem_of_getElem? (i := 171) rfl), ik_in5 (List.mem_of_getElem? (i := 172) rfl)⟩
theorem ml_X1_32 : Cond.methodLink RX1 32 yX1_has ∈ lw_tbl := ik_in5 (List.mem_of_getElem? (i := 178) rfl)
theorem ml_X11_257 : Cond.methodLink RX11 257 yX1_sheet ∈ lw_tbl := ik_in5 (List.mem_of_getElem? (i := 174) rfl)
theorem mf_X1_sheet : ik_MF yX1_sheet cX1_sheet 2 (some .int) 1 := ⟨ik_in5 (List.mem_of_getElem? (i := 177) rfl), ik_in1 (List.mem_of_getElem? (i := 11) rfl), by decide +kernel, by decide +kernel, by decide +kernel⟩
theorem mv_X1_sheet : ik_MV yX1_sheet := ⟨ik_in5 (List.mem_of_getElem? (i := 175) rfl), ik_in5 (List.mem_of_getElem? (i := 176) rfl)⟩
theorem ml_X11_260 : Cond.methodLink RX11 260 yX1_covered ∈ lw_tbl := ik_in5 (List.mem_of_getElem? (i := 179) rfl)
theorem mf_X1_covered : ik_MF yX1_covered cX1_covered 2 (some .int) 1 := ⟨ik_in5 (List.mem_of_getElem? (i := 182) rfl), ik_in1 (List.mem_of_getElem? (i := 11) rfl), by decide +kernel, by decide +kernel, by decide +kernel⟩
theorem mv_X1_covered : ik_MV yX1_covered := ⟨ik_in5 (List.mem_of_getElem? (i := 180) rfl), ik_in5 (List.mem_of_getElem? (i := 181) rfl)⟩
theorem ml_X11_263 : Cond.methodLink RX11 263 yX1_day ∈ lw_tbl := ik_in5 (List.mem_of_getElem? (i := 183) rfl)
theorem mf_X1_day : ik_MF yX1_day cX1_day 2 (some .int) 1 := ⟨ik_in5 (List.mem_of_getElem? (i := 186) rfl), ik_in1 (List.mem_of_getElem? (i := 11) rfl), by decide +kernel, by decide +kernel, by decide +kernel⟩
theorem mv_X1_day : ik_MV yX1_day := ⟨ik_in5 (List.mem_of_getElem? (i := 184) rfl), ik_in5 (List.mem_of_getElem? (i := 185) rfl)⟩
theorem ml_X11_266 : Cond.methodLink RX11 266 yX8_tokens ∈ lw_tbl := ik_in5 (List.mem_of_getElem? (i := 191) rfl)
theorem ml_X1_36 : Cond.methodLinkNest RX1 36 yX11_bit "InkBars" ∈ lw_tbl := ik_in5 (List.mem_of_getElem? (i := 196) rfl)
theorem ml_X11_269 : Cond.methodLink RX11 269 yX1_firstOpen ∈ lw_tbl := ik_in5 (List.mem_of_getElem? (i := 192) rfl)
theorem mf_X1_firstOpen : ik_MF yX1_firstOpen cX1_firstOpen 5 (some .int) 2 := ⟨ik_in5 (List.mem_of_getElem? (i := 195) rfl), ik_in1 (List.mem_of_getElem? (i := 11) rfl), by decide +kernel, by decide +kernel, by decide +kernel⟩
theorem mv_X1_firstOpen : ik_MV yX1_firstOpen := ⟨ik_in5 (List.mem_of_getElem? (i := 193) rfl), ik_in5 (List.mem_of_getElem? (i := 194) rfl)⟩
theorem ml_X1_40 : Cond.methodLink RX1 40 yX1_copied ∈ lw_tbl := ik_in5 (List.mem_of_getElem? (i := 209) rfl)
theorem mf_X1_copied : ik_MF yX1_copied cX1_copied 4 (some .boolean) 2 := ⟨ik_in5 (List.mem_of_getElem? (i := 212) rfl), ik_in1 (List.mem_of_getElem? (i := 11) rfl), by decide +kernel, by decide +kernel, by decide +kernel⟩
theorem mv_X1_copied : ik_MV yX1_copied := ⟨ik_in5 (List.mem_of_getElem? (i := 211) rfl), ik_inS (List.mem_of_getElem? (i := 41) (by decide +kernel))⟩
theorem ml_X1_43 : Cond.methodLink RX1 43 yX1_coveredBy ∈ lw_tbl := ik_in5 (List.mem_of_getElem? (i := 213) rfl)
theorem mf_X1_coveredBy : ik_MF yX1_coveredBy cX1_coveredBy 5 (some .int) 2 := ⟨ik_in5 (List.mem_of_getElem? (i := 216) rfl), ik_in1 (List.mem_of_getElem? (i := 11) rfl), by decide +kernel, by decide +kernel, by decide +kernel⟩
theorem mv_X1_coveredBy : ik_MV yX1_coveredBy := ⟨ik_in5 (List.mem_of_getElem? (i := 215) rfl), ik_inS (List.mem_of_getElem? (i := 42) (by decide +kernel))⟩
theorem ml_X11_272 : Cond.methodLink RX11 272 yX1_compare ∈ lw_tbl := ik_in5 (List.mem_of_getElem? (i := 205) rfl)
theorem mf_X1_compare : ik_MF yX1_compare cX1_compare 7 (some .int) 2 := ⟨ik_in5 (List.mem_of_getElem? (i := 208) rfl), ik_in1 (List.mem_of_getElem? (i := 11) rfl), by decide +kernel, by decide +kernel, by decide +kernel⟩
theorem mv_X1_compare : ik_MV yX1_compare := ⟨ik_in5 (List.mem_of_getElem? (i := 206) rfl), ik_in5 (List.mem_of_getElem? (i := 207) rfl)⟩
theorem ml_X11_275 : Cond.methodLink RX11 275 yX8_takesNote ∈ lw_tbl := ik_in5 (List.mem_of_getElem? (i := 221) rfl)
theorem mf_X8_takesNote : ik_MF yX8_takesNote cX8_takesNote 5 (some .boolean) 2 := ⟨ik_in5 (List.mem_of_getElem? (i := 224) rfl), ik_in1 (List.mem_of_getElem? (i := 8) rfl), by decide +kernel, by decide +kernel, by decide +kernel⟩
theorem mv_X8_takesNote : ik_MV yX8_takesNote := ⟨ik_in5 (List.mem_of_getElem? (i := 222) rfl), ik_in5 (List.mem_of_getElem? (i := 223) rfl)⟩
theorem ml_X11_278 : Cond.methodLink RX11 278 yX8_addNote ∈ lw_tbl := ik_in5 (List.mem_of_getElem? (i := 225) rfl)
theorem mf_X8_addNote : ik_MF yX8_addNote cX8_addNote 3 (none) 2 := ⟨ik_in5 (List.mem_of_getElem? (i := 228) rfl), ik_in1 (List.mem_of_getElem? (i := 8) rfl), by decide +kernel, by decide +kernel, by decide +kernel⟩
theorem mv_X8_addNote : ik_MV yX8_addNote := ⟨ik_in5 (List.mem_of_getElem? (i := 226) rfl), ik_in5 (List.mem_of_getElem? (i := 227) rfl)⟩
theorem ml_X11_281 : Cond.methodLink RX11 281 yX8_misses ∈ lw_tbl := ik_in5 (List.mem_of_getElem? (i := 233) rfl)
theorem mf_X8_misses : ik_MF yX8_misses cX8_misses 4 (some .boolean) 1 := ⟨ik_in5 (List.mem_of_getElem? (i := 236) rfl), ik_in1 (List.mem_of_getElem? (i := 8) rfl), by decide +kernel, by decide +kernel, by decide +kernel⟩
theorem mv_X8_misses : ik_MV yX8_misses := ⟨ik_in5 (List.mem_of_getElem? (i := 234) rfl), ik_in5 (List.mem_of_getElem? (i := 235) rfl)⟩
theorem ml_X11_284 : Cond.methodLink RX11 284 yX8_noteBelow ∈ lw_tbl := ik_in5 (List.mem_of_getElem? (i := 237) rfl)
theorem mf_X8_noteBelow : ik_MF yX8_noteBelow cX8_noteBelow 4 (some .int) 1 := ⟨ik_in6 (List.mem_of_getElem? (i := 0) rfl), ik_in1 (List.mem_of_getElem? (i := 8) rfl), by decide +kernel, by decide +kernel, by decide +kernel⟩
theorem mv_X8_noteBelow : ik_MV yX8_noteBelow := ⟨ik_in5 (List.mem_of_getElem? (i := 238) rfl), ik_in5 (List.mem_of_getElem? (i := 239) rfl)⟩
theorem ml_X11_287 : Cond.methodLink RX11 287 yX8_noteAbove ∈ lw_tbl := ik_in6 (List.mem_of_getElem? (i := 1) rfl)
theorem mf_X8_noteAbove : ik_MF yX8_noteAbove cX8_noteAbove 3 (some .int) 1 := ⟨ik_in6 (List.mem_of_getElem? (i := 4) rfl), ik_in1 (List.mem_of_getElem? (i := 8) rfl), by decide +kernel, by decide +kernel, by decide +kernel⟩
theorem mv_X8_noteAbove : ik_MV yX8_noteAbove := ⟨ik_in6 (List.mem_of_getElem? (i := 2) rfl), ik_in6 (List.mem_of_getElem? (i := 3) rfl)⟩
theorem ml_X9_17 : Cond.methodLink RX9 17 yX9_at ∈ lw_tbl := ik_in6 (List.mem_of_getElem? (i := 17) rfl)
theorem ml_X11_427 : Cond.methodLink RX11 427 yX9_number ∈ lw_tbl := ik_in6 (List.mem_of_getElem? (i := 13) rfl)
theorem mf_X9_number : ik_MF yX9_number cX9_number 3 (some .int) 1 := ⟨ik_in6 (List.mem_of_getElem? (i := 16) rfl), ik_in1 (List.mem_of_getElem? (i := 2) rfl), by decide +kernel, by decide +kernel, by decide +kernel⟩
theorem mv_X9_number : ik_MV yX9_number := ⟨ik_in6 (List.mem_of_getElem? (i := 14) rfl), ik_in6 (List.mem_of_getElem? (i := 15) rfl)⟩
theorem ml_X11_290 : Cond.methodLink RX11 290 yX11_firstWrong ∈ lw_tbl := ik_in6 (List.mem_of_getElem? (i := 9) rfl)
theorem mf_X11_firstWrong : ik_MF yX11_firstWrong cX11_firstWrong 5 (some .int) 2 := ⟨ik_in6 (List.mem_of_getElem? (i := 12) rfl), ik_in1 (List.mem_of_getElem? (i := 1) rfl), by decide +kernel, by decide +kernel, by decide +kernel⟩
theorem mv_X11_firstWrong : ik_MV yX11_firstWrong := ⟨ik_in6 (List.mem_of_getElem? (i := 11) rfl), ik_inS (List.mem_of_getElem? (i := 43) (by decide +kernel))⟩
theorem ml_X11_298 : Cond.methodLink RX11 298 yX0_lists ∈ lw_tbl := ik_in6 (List.mem_of_getElem? (i := 22) rfl)
theorem mf_X0_lists : ik_MF yX0_lists cX0_lists 1 (some .int) 0 := ⟨ik_in6 (List.mem_of_getElem? (i := 25) rfl), ik_in1 (List.mem_of_getElem? (i := 7) rfl), by decide +kernel, by decide +kernel, by decide +kernel⟩
theorem mv_X0_lists : ik_MV yX0_lists := ⟨ik_in6 (List.mem_of_getElem? (i := 23) rfl), ik_in6 (List.mem_of_getElem? (i := 24) rfl)⟩
theorem ml_X11_301 : Cond.methodLink RX11 301 yX3_count ∈ lw_tbl := ik_in6 (List.mem_of_getElem? (i := 26) rfl)
theorem mf_X3_count : ik_MF yX3_count cX3_count 1 (some .int) 0 := ⟨ik_in6 (List.mem_of_getElem? (i := 29) rfl), ik_in1 (List.mem_of_getElem? (i := 10) rfl), by decide +kernel, by decide +kernel, by decide +kernel⟩
theorem mv_X3_count : ik_MV yX3_count := ⟨ik_in6 (List.mem_of_getElem? (i := 27) rfl), ik_in6 (List.mem_of_getElem? (i := 28) rfl)⟩
theorem ml_X11_302 : Cond.methodLink RX11 302 yX1_count ∈ lw_tbl := ik_in6 (List.mem_of_getElem? (i := 30) rfl)
theorem mf_X1_count : ik_MF yX1_count cX1_count 1 (some .int) 0 := ⟨ik_in6 (List.mem_of_getElem? (i := 33) rfl), ik_in1 (List.mem_of_getElem? (i := 11) rfl), by decide +kernel, by decide +kernel, by decide +kernel⟩
theorem mv_X1_count : ik_MV yX1_count := ⟨ik_in6 (List.mem_of_getElem? (i := 31) rfl), ik_in6 (List.mem_of_getElem? (i := 32) rfl)⟩
theorem ml_X11_303 : Cond.methodLink RX11 303 yX8_notes ∈ lw_tbl := ik_in6 (List.mem_of_getElem? (i := 34) rfl)
theorem mf_X8_notes : ik_MF yX8_notes cX8_notes 3 (some .int) 0 := ⟨ik_in6 (List.mem_of_getElem? (i := 37) rfl), ik_in1 (List.mem_of_getElem? (i := 8) rfl), by decide +kernel, by decide +kernel, by decide +kernel⟩
theorem mv_X8_notes : ik_MV yX8_notes := ⟨ik_in6 (List.mem_of_getElem? (i := 35) rfl), ik_in6 (List.mem_of_getElem? (i := 36) rfl)⟩
theorem ml_X11_306 : Cond.methodLink RX11 306 yX8_lines ∈ lw_tbl := ik_in6 (List.mem_of_getElem? (i := 38) rfl)
theorem mf_X8_lines : ik_MF yX8_lines cX8_lines 4 (some .int) 1 := ⟨ik_in6 (List.mem_of_getElem? (i := 41) rfl), ik_in1 (List.mem_of_getElem? (i := 8) rfl), by decide +kernel, by decide +kernel, by decide +kernel⟩
theorem mv_X8_lines : ik_MV yX8_lines := ⟨ik_in6 (List.mem_of_getElem? (i := 39) rfl), ik_in6 (List.mem_of_getElem? (i := 40) rfl)⟩
theorem kc_X12_182 : Cond.constantLong RX12 182 (26) ∈ lw_tbl := ik_in7 (List.mem_of_getElem? (i := 45) rfl)
theorem ml_X12_170 : Cond.methodLink RX12 170 yX12_lies ∈ lw_tbl := ik_in7 (List.mem_of_getElem? (i := 46) rfl)
theorem mf_X12_lies : ik_MF yX12_lies cX12_lies 6 (some .boolean) 3 := ⟨ik_in7 (List.mem_of_getElem? (i := 48) rfl), ik_in1 (List.mem_of_getElem? (i := 14) rfl), by decide +kernel, by decide +kernel, by decide +kernel⟩
theorem ms_X12_lies : Cond.static yX12_lies ∈ lw_tbl := ik_in7 (List.mem_of_getElem? (i := 47) rfl)
theorem kc_X12_184 : Cond.constantLong RX12 184 (60) ∈ lw_tbl := ik_in7 (List.mem_of_getElem? (i := 49) rfl)
theorem fl_X12_13 : ik_FL RX12 13 12 12 := ⟨RX12, TX12, 77, tyX12, rfl, by decide, inX12, tyX12_ok, nmX12, rfl, ik_in6 (List.mem_of_getElem? (i := 60) rfl)⟩
theorem kc_X12_186 : Cond.constantLong RX12 186 (-20) ∈ lw_tbl := ik_in7 (List.mem_of_getElem? (i := 54) rfl)
theorem kc_X12_188 : Cond.constantLong RX12 188 (20) ∈ lw_tbl := ik_in7 (List.mem_of_getElem? (i := 55) rfl)
theorem fl_X12_17 : ik_FL RX12 17 12 13 := ⟨RX12, TX12, 77, tyX12, rfl, by decide, inX12, tyX12_ok, nmX12, rfl, ik_in6 (List.mem_of_getElem? (i := 61) rfl)⟩
theorem fl_X12_190 : ik_FL RX12 190 12 1 := ⟨RX12, TX12, 77, tyX12, rfl, by decide, inX12, tyX12_ok, nmX12, rfl, ik_in6 (List.mem_of_getElem? (i := 49) rfl)⟩
theorem fl_X12_7 : ik_FL RX12 7 12 0 := ⟨RX12, TX12, 77, tyX12, rfl, by decide, inX12, tyX12_ok, nmX12, rfl, ik_in6 (List.mem_of_getElem? (i := 48) rfl)⟩
theorem fw_X12_190 : ik_FW RX12 190 12 1 0 := ⟨RX12, TX12, 77, tyX12, rfl, by decide, inX12, tyX12_ok, nmX12, rfl, ik_in6 (List.mem_of_getElem? (i := 49) rfl), rfl, rfl⟩
theorem ml_X12_193 : Cond.methodLink RX12 193 yX12_push ∈ lw_tbl := ik_in7 (List.mem_of_getElem? (i := 60) rfl)
theorem mf_X12_push : ik_MF yX12_push cX12_push 3 (none) 1 := ⟨ik_in7 (List.mem_of_getElem? (i := 63) rfl), ik_in1 (List.mem_of_getElem? (i := 14) rfl), by decide +kernel, by decide +kernel, by decide +kernel⟩
theorem mv_X12_push : ik_MV yX12_push := ⟨ik_in7 (List.mem_of_getElem? (i := 62) rfl), ik_inS (List.mem_of_getElem? (i := 44) (by decide +kernel))⟩
theorem fl_X12_166 : ik_FL RX12 166 12 2 := ⟨RX12, TX12, 77, tyX12, rfl, by decide, inX12, tyX12_ok, nmX12, rfl, ik_in6 (List.mem_of_getElem? (i := 50) rfl)⟩
theorem kc_X12_197 : Cond.constantLong RX12 197 (12) ∈ lw_tbl := ik_in7 (List.mem_of_getElem? (i := 68) rfl)
theorem kc_X12_199 : Cond.constantLong RX12 199 (7) ∈ lw_tbl := ik_in7 (List.mem_of_getElem? (i := 69) rfl)
theorem kc_X12_201 : Cond.constantLong RX12 201 (199) ∈ lw_tbl := ik_in7 (List.mem_of_getElem? (i := 70) rfl)
theorem kc_X12_203 : Cond.constantLong RX12 203 (100) ∈ lw_tbl := ik_in7 (List.mem_of_getElem? (i := 71) rfl)
theorem fl_X12_23 : ik_FL RX12 23 12 15 := ⟨RX12, TX12, 77, tyX12, rfl, by decide, inX12, tyX12_ok, nmX12, rfl, ik_in6 (List.mem_of_getElem? (i := 63) rfl)⟩
theorem ml_X12_205 : Cond.methodLink RX12 205 yX12_isLetter ∈ lw_tbl := ik_in7 (List.mem_of_getElem? (i := 72) rfl)
theorem mf_X12_isLetter : ik_MF yX12_isLetter cX12_isLetter 1 (some .boolean) 1 := ⟨ik_in7 (List.mem_of_getElem? (i := 74) rfl), ik_in1 (List.mem_of_getElem? (i := 14) rfl), by decide +kernel, by decide +kernel, by decide +kernel⟩
theorem ms_X12_isLetter : Cond.static yX12_isLetter ∈ lw_tbl := ik_in7 (List.mem_of_getElem? (i := 73) rfl)
theorem fl_X12_20 : ik_FL RX12 20 12 14 := ⟨RX12, TX12, 77, tyX12, rfl, by decide, inX12, tyX12_ok, nmX12, rfl, ik_in6 (List.mem_of_getElem? (i := 62) rfl)⟩
theorem ml_X12_209 : Cond.methodLink RX12 209 yX12_compared ∈ lw_tbl := ik_in7 (List.mem_of_getElem? (i := 75) rfl)
theorem mf_X12_compared : ik_MF yX12_compared cX12_compared 6 (some .int) 2 := ⟨ik_in7 (List.mem_of_getElem? (i := 78) rfl), ik_in1 (List.mem_of_getElem? (i := 14) rfl), by decide +kernel, by decide +kernel, by decide +kernel⟩
theorem mv_X12_compared : ik_MV yX12_compared := ⟨ik_in7 (List.mem_of_getElem? (i := 77) rfl), ik_inS (List.mem_of_getElem? (i := 45) (by decide +kernel))⟩
theorem fl_X12_26 : ik_FL RX12 26 12 16 := ⟨RX12, TX12, 77, tyX12, rfl, by decide, inX12, tyX12_ok, nmX12, rfl, ik_in6 (List.mem_of_getElem? (i := 64) rfl)⟩
theorem fl_X12_29 : ik_FL RX12 29 12 17 := ⟨RX12, TX12, 77, tyX12, rfl, by decide, inX12, tyX12_ok, nmX12, rfl, ik_in6 (List.mem_of_getElem? (i := 65) rfl)⟩
theorem fl_X12_32 : ik_FL RX12 32 12 18 := ⟨RX12, TX12, 77, tyX12, rfl, by decide, inX12, tyX12_ok, nmX12, rfl, ik_in6 (List.mem_of_getElem? (i := 66) rfl)⟩
theorem fl_X12_35 : ik_FL RX12 35 12 19 := ⟨RX12, TX12, 77, tyX12, rfl, by decide, inX12, tyX12_ok, nmX12, rfl, ik_in6 (List.mem_of_getElem? (i := 67) rfl)⟩
theorem fw_X12_166 : ik_FW RX12 166 12 2 0 := ⟨RX12, TX12, 77, tyX12, rfl, by decide, inX12, tyX12_ok, nmX12, rfl, ik_in6 (List.mem_of_getElem? (i := 50) rfl), rfl, rfl⟩
theorem ml_X12_213 : Cond.methodLink RX12 213 yX12_isName ∈ lw_tbl := ik_in7 (List.mem_of_getElem? (i := 83) rfl)
theorem mf_X12_isName : ik_MF yX12_isName cX12_isName 2 (some .boolean) 1 := ⟨ik_in7 (List.mem_of_getElem? (i := 86) rfl), ik_in1 (List.mem_of_getElem? (i := 14) rfl), by decide +kernel, by decide +kernel, by decide +kernel⟩
theorem mv_X12_isName : ik_MV yX12_isName := ⟨ik_in7 (List.mem_of_getElem? (i := 85) rfl), ik_inS (List.mem_of_getElem? (i := 46) (by decide +kernel))⟩
theorem ml_X12_216 : Cond.methodLink RX12 216 yX12_wideOf ∈ lw_tbl := ik_in7 (List.mem_of_getElem? (i := 87) rfl)
theorem mf_X12_wideOf : ik_MF yX12_wideOf cX12_wideOf 6 (some .int) 1 := ⟨ik_in7 (List.mem_of_getElem? (i := 90) rfl), ik_in1 (List.mem_of_getElem? (i := 14) rfl), by decide +kernel, by decide +kernel, by decide +kernel⟩
theorem mv_X12_wideOf : ik_MV yX12_wideOf := ⟨ik_in7 (List.mem_of_getElem? (i := 89) rfl), ik_inS (List.mem_of_getElem? (i := 47) (by decide +kernel))⟩
theorem fl_X12_174 : ik_FL RX12 174 12 3 := ⟨RX12, TX12, 77, tyX12, rfl, by decide, inX12, tyX12_ok, nmX12, rfl, ik_in6 (List.mem_of_getElem? (i := 51) rfl)⟩
theorem kc_X12_220 : Cond.constantLong RX12 220 (3000) ∈ lw_tbl := ik_in7 (List.mem_of_getElem? (i := 95) rfl)
theorem kc_X12_222 : Cond.constantLong RX12 222 (-1) ∈ lw_tbl := ik_in7 (List.mem_of_getElem? (i := 96) rfl)
theorem kc_X12_224 : Cond.constantLong RX12 224 (255) ∈ lw_tbl := ik_in7 (List.mem_of_getElem? (i := 97) rfl)
theorem fl_X12_38 : ik_FL RX12 38 12 20 := ⟨RX12, TX12, 77, tyX12, rfl, by decide, inX12, tyX12_ok, nmX12, rfl, ik_in6 (List.mem_of_getElem? (i := 68) rfl)⟩
theorem fl_X12_41 : ik_FL RX12 41 12 21 := ⟨RX12, TX12, 77, tyX12, rfl, by decide, inX12, tyX12_ok, nmX12, rfl, ik_in6 (List.mem_of_getElem? (i := 69) rfl)⟩
theorem fl_X12_44 : ik_FL RX12 44 12 22 := ⟨RX12, TX12, 77, tyX12, rfl, by decide, inX12, tyX12_ok, nmX12, rfl, ik_in6 (List.mem_of_getElem? (i := 70) rfl)⟩
theorem fw_X12_174 : ik_FW RX12 174 12 3 0 := ⟨RX12, TX12, 77, tyX12, rfl, by decide, inX12, tyX12_ok, nmX12, rfl, ik_in6 (List.mem_of_getElem? (i := 51) rfl), rfl, rfl⟩
theorem fl_X12_177 : ik_FL RX12 177 12 4 := ⟨RX12, TX12, 77, tyX12, rfl, by decide, inX12, tyX12_ok, nmX12, rfl, ik_in6 (List.mem_of_getElem? (i := 52) rfl)⟩
theorem kc_X12_250 : Cond.constantLong RX12 250 (50) ∈ lw_tbl := ik_in7 (List.mem_of_getElem? (i := 102) rfl)
theorem kc_X12_252 : Cond.constantLong RX12 252 (5000) ∈ lw_tbl := ik_in7 (List.mem_of_getElem? (i := 103) rfl)
theorem kc_X12_254 : Cond.constantLong RX12 254 (160) ∈ lw_tbl := ik_in7 (List.mem_of_getElem? (i := 104) rfl)
theorem fw_X12_226 : ik_FW RX12 226 12 30 0 := ⟨RX12, TX12, 77, tyX12, rfl, by decide, inX12, tyX12_ok, nmX12, rfl, ik_in6 (List.mem_of_getElem? (i := 78) rfl), rfl, rfl⟩
theorem fw_X12_229 : ik_FW RX12 229 12 31 0 := ⟨RX12, TX12, 77, tyX12, rfl, by decide, inX12, tyX12_ok, nmX12, rfl, ik_in6 (List.mem_of_getElem? (i := 79) rfl), rfl, rfl⟩
theorem fw_X12_232 : ik_FW RX12 232 12 32 0 := ⟨RX12, TX12, 77, tyX12, rfl, by decide, inX12, tyX12_ok, nmX12, rfl, ik_in6 (List.mem_of_getElem? (i := 80) rfl), rfl, rfl⟩
theorem fl_X12_232 : ik_FL RX12 232 12 32 := ⟨RX12, TX12, 77, tyX12, rfl, by decide, inX12, tyX12_ok, nmX12, rfl, ik_in6 (List.mem_of_getElem? (i := 80) rfl)⟩
theorem ml_X12_246 : Cond.methodLink RX12 246 yX12_isGood ∈ lw_tbl := ik_in7 (List.mem_of_getElem? (i := 105) rfl)
theorem mf_X12_isGood : ik_MF yX12_isGood cX12_isGood 1 (some .boolean) 0 := ⟨ik_in7 (List.mem_of_getElem? (i := 108) rfl), ik_in1 (List.mem_of_getElem? (i := 14) rfl), by decide +kernel, by decide +kernel, by decide +kernel⟩
theorem mv_X12_isGood : ik_MV yX12_isGood := ⟨ik_in7 (List.mem_of_getElem? (i := 107) rfl), ik_inS (List.mem_of_getElem? (i := 48) (by decide +kernel))⟩
theorem fl_X12_226 : ik_FL RX12 226 12 30 := ⟨RX12, TX12, 77, tyX12, rfl, by decide, inX12, tyX12_ok, nmX12, rfl, ik_in6 (List.mem_of_getElem? (i := 78) rfl)⟩
theorem fl_X12_229 : ik_FL RX12 229 12 31 := ⟨RX12, TX12, 77, tyX12, rfl, by decide, inX12, tyX12_ok, nmX12, rfl, ik_in6 (List.mem_of_getElem? (i := 79) rfl)⟩
theorem ml_X12_235 : Cond.methodLink RX12 235 yX12_here ∈ lw_tbl := ik_in7 (List.mem_of_getElem? (i := 113) rfl)
theorem mf_X12_here : ik_MF yX12_here cX12_here 1 (some .int) 0 := ⟨ik_in7 (List.mem_of_getElem? (i := 116) rfl), ik_in1 (List.mem_of_getElem? (i := 14) rfl), by decide +kernel, by decide +kernel, by decide +kernel⟩
theorem mv_X12_here : ik_MV yX12_here := ⟨ik_in7 (List.mem_of_getElem? (i := 115) rfl), ik_inS (List.mem_of_getElem? (i := 50) (by decide +kernel))⟩
theorem ml_X12_239 : Cond.methodLink RX12 239 yX12_isDigit ∈ lw_tbl := ik_in7 (List.mem_of_getElem? (i := 117) rfl)
theorem mf_X12_isDigit : ik_MF yX12_isDigit cX12_isDigit 1 (some .boolean) 1 := ⟨ik_in7 (List.mem_of_getElem? (i := 119) rfl), ik_in1 (List.mem_of_getElem? (i := 14) rfl), by decide +kernel, by decide +kernel, by decide +kernel⟩
theorem ms_X12_isDigit : Cond.static yX12_isDigit ∈ lw_tbl := ik_in7 (List.mem_of_getElem? (i := 118) rfl)
theorem ml_X12_242 : Cond.methodLink RX12 242 yX12_wrongs ∈ lw_tbl := ik_in7 (List.mem_of_getElem? (i := 120) rfl)
theorem mf_X12_wrongs : ik_MF yX12_wrongs cX12_wrongs 3 (none) 2 := ⟨ik_in7 (List.mem_of_getElem? (i := 123) rfl), ik_in1 (List.mem_of_getElem? (i := 14) rfl), by decide +kernel, by decide +kernel, by decide +kernel⟩
theorem mv_X12_wrongs : ik_MV yX12_wrongs := ⟨ik_in7 (List.mem_of_getElem? (i := 122) rfl), ik_inS (List.mem_of_getElem? (i := 51) (by decide +kernel))⟩
theorem fl_X12_56 : ik_FL RX12 56 12 26 := ⟨RX12, TX12, 77, tyX12, rfl, by decide, inX12, tyX12_ok, nmX12, rfl, ik_in6 (List.mem_of_getElem? (i := 74) rfl)⟩
theorem fl_X12_59 : ik_FL RX12 59 12 27 := ⟨RX12, TX12, 77, tyX12, rfl, by decide, inX12, tyX12_ok, nmX12, rfl, ik_in6 (List.mem_of_getElem? (i := 75) rfl)⟩
theorem fl_X12_62 : ik_FL RX12 62 12 28 := ⟨RX12, TX12, 77, tyX12, rfl, by decide, inX12, tyX12_ok, nmX12, rfl, ik_in6 (List.mem_of_getElem? (i := 76) rfl)⟩
theorem ml_X12_256 : Cond.methodLink RX12 256 yX12_token ∈ lw_tbl := ik_in7 (List.mem_of_getElem? (i := 109) rfl)
theorem mf_X12_token : ik_MF yX12_token cX12_token 5 (none) 2 := ⟨ik_in7 (List.mem_of_getElem? (i := 112) rfl), ik_in1 (List.mem_of_getElem? (i := 14) rfl), by decide +kernel, by decide +kernel, by decide +kernel⟩
theorem mv_X12_token : ik_MV yX12_token := ⟨ik_in7 (List.mem_of_getElem? (i := 111) rfl), ik_inS (List.mem_of_getElem? (i := 49) (by decide +kernel))⟩
theorem fl_X12_65 : ik_FL RX12 65 12 29 := ⟨RX12, TX12, 77, tyX12, rfl, by decide, inX12, tyX12_ok, nmX12, rfl, ik_in6 (List.mem_of_getElem? (i := 77) rfl)⟩
theorem fl_X12_53 : ik_FL RX12 53 12 25 := ⟨RX12, TX12, 77, tyX12, rfl, by decide, inX12, tyX12_ok, nmX12, rfl, ik_in6 (List.mem_of_getElem? (i := 73) rfl)⟩
theorem fl_X12_47 : ik_FL RX12 47 12 23 := ⟨RX12, TX12, 77, tyX12, rfl, by decide, inX12, tyX12_ok, nmX12, rfl, ik_in6 (List.mem_of_getElem? (i := 71) rfl)⟩
theorem fl_X12_50 : ik_FL RX12 50 12 24 := ⟨RX12, TX12, 77, tyX12, rfl, by decide, inX12, tyX12_ok, nmX12, rfl, ik_in6 (List.mem_of_getElem? (i := 72) rfl)⟩
theorem fw_X12_177 : ik_FW RX12 177 12 4 0 := ⟨RX12, TX12, 77, tyX12, rfl, by decide, inX12, tyX12_ok, nmX12, rfl, ik_in6 (List.mem_of_getElem? (i := 52) rfl), rfl, rfl⟩
theorem fw_X12_333 : ik_FW RX12 333 12 46 0 := ⟨RX12, TX12, 77, tyX12, rfl, by decide, inX12, tyX12_ok, nmX12, rfl, ik_in6 (List.mem_of_getElem? (i := 94) rfl), rfl, rfl⟩
theorem fw_X12_268 : ik_FW RX12 268 12 47 0 := ⟨RX12, TX12, 77, tyX12, rfl, by decide, inX12, tyX12_ok, nmX12, rfl, ik_in6 (List.mem_of_getElem? (i := 95) rfl), rfl, rfl⟩
theorem fl_X12_333 : ik_FL RX12 333 12 46 := ⟨RX12, TX12, 77, tyX12, rfl, by decide, inX12, tyX12_ok, nmX12, rfl, ik_in6 (List.mem_of_getElem? (i := 94) rfl)⟩
theorem fl_X12_90 : ik_FL RX12 90 12 41 := ⟨RX12, TX12, 77, tyX12, rfl, by decide, inX12, tyX12_ok, nmX12, rfl, ik_in6 (List.mem_of_getElem? (i := 89) rfl)⟩
theorem fl_X12_93 : ik_FL RX12 93 12 42 := ⟨RX12, TX12, 77, tyX12, rfl, by decide, inX12, tyX12_ok, nmX12, rfl, ik_in6 (List.mem_of_getElem? (i := 90) rfl)⟩
theorem fl_X12_268 : ik_FL RX12 268 12 47 := ⟨RX12, TX12, 77, tyX12, rfl, by decide, inX12, tyX12_ok, nmX12, rfl, ik_in6 (List.mem_of_getElem? (i := 95) rfl)⟩
theorem fw_X12_271 : ik_FW RX12 271 12 49 0 := ⟨RX12, TX12, 77, tyX12, rfl, by decide, inX12, tyX12_ok, nmX12, rfl, ik_in6 (List.mem_of_getElem? (i := 97) rfl), rfl, rfl⟩
theorem fw_X12_274 : ik_FW RX12 274 12 48 0 := ⟨RX12, TX12, 77, tyX12, rfl, by decide, inX12, tyX12_ok, nmX12, rfl, ik_in6 (List.mem_of_getElem? (i := 96) rfl), rfl, rfl⟩
theorem fw_X12_324 : ik_FW RX12 324 12 50 3 := ⟨RX12, TX12, 77, tyX12, rfl, by decide, inX12, tyX12_ok, nmX12, rfl, ik_in6 (List.mem_of_getElem? (i := 98) rfl), rfl, rfl⟩
theorem fl_X12_274 : ik_FL RX12 274 12 48 := ⟨RX12, TX12, 77, tyX12, rfl, by decide, inX12, tyX12_ok, nmX12, rfl, ik_in6 (List.mem_of_getElem? (i := 96) rfl)⟩
theorem fl_X12_105 : ik_FL RX12 105 12 52 := ⟨RX12, TX12, 77, tyX12, rfl, by decide, inX12, tyX12_ok, nmX12, rfl, ik_in6 (List.mem_of_getElem? (i := 100) rfl)⟩
theorem fl_X12_271 : ik_FL RX12 271 12 49 := ⟨RX12, TX12, 77, tyX12, rfl, by decide, inX12, tyX12_ok, nmX12, rfl, ik_in6 (List.mem_of_getElem? (i := 97) rfl)⟩
theorem ml_X12_277 : Cond.methodLink RX12 277 yX12_puts ∈ lw_tbl := ik_in7 (List.mem_of_getElem? (i := 140) rfl)
theorem mf_X12_puts : ik_MF yX12_puts cX12_puts 2 (none) 1 := ⟨ik_in7 (List.mem_of_getElem? (i := 143) rfl), ik_in1 (List.mem_of_getElem? (i := 14) rfl), by decide +kernel, by decide +kernel, by decide +kernel⟩
theorem mv_X12_puts : ik_MV yX12_puts := ⟨ik_in7 (List.mem_of_getElem? (i := 142) rfl), ik_inS (List.mem_of_getElem? (i := 55) (by decide +kernel))⟩
theorem ml_X12_292 : Cond.methodLink RX12 292 yX12_opens ∈ lw_tbl := ik_in7 (List.mem_of_getElem? (i := 136) rfl)
theorem mf_X12_opens : ik_MF yX12_opens cX12_opens 1 (none) 0 := ⟨ik_in7 (List.mem_of_getElem? (i := 139) rfl), ik_in1 (List.mem_of_getElem? (i := 14) rfl), by decide +kernel, by decide +kernel, by decide +kernel⟩
theorem mv_X12_opens : ik_MV yX12_opens := ⟨ik_in7 (List.mem_of_getElem? (i := 138) rfl), ik_inS (List.mem_of_getElem? (i := 54) (by decide +kernel))⟩
theorem fl_X12_324 : ik_FL RX12 324 12 50 := ⟨RX12, TX12, 77, tyX12, rfl, by decide, inX12, tyX12_ok, nmX12, rfl, ik_in6 (List.mem_of_getElem? (i := 98) rfl)⟩
theorem fw_X12_305 : ik_FW RX12 305 12 51 3 := ⟨RX12, TX12, 77, tyX12, rfl, by decide, inX12, tyX12_ok, nmX12, rfl, ik_in6 (List.mem_of_getElem? (i := 99) rfl), rfl, rfl⟩
theorem fl_X12_305 : ik_FL RX12 305 12 51 := ⟨RX12, TX12, 77, tyX12, rfl, by decide, inX12, tyX12_ok, nmX12, rfl, ik_in6 (List.mem_of_getElem? (i := 99) rfl)⟩
theorem ml_X12_295 : Cond.methodLink RX12 295 yX12_reads ∈ lw_tbl := ik_in7 (List.mem_of_getElem? (i := 152) rfl)
theorem mf_X12_reads : ik_MF yX12_reads cX12_reads 3 (some .int) 0 := ⟨ik_in7 (List.mem_of_getElem? (i := 155) rfl), ik_in1 (List.mem_of_getElem? (i := 14) rfl), by decide +kernel, by decide +kernel, by decide +kernel⟩
theorem mv_X12_reads : ik_MV yX12_reads := ⟨ik_in7 (List.mem_of_getElem? (i := 154) rfl), ik_inS (List.mem_of_getElem? (i := 58) (by decide +kernel))⟩
theorem fl_X12_99 : ik_FL RX12 99 12 44 := ⟨RX12, TX12, 77, tyX12, rfl, by decide, inX12, tyX12_ok, nmX12, rfl, ik_in6 (List.mem_of_getElem? (i := 92) rfl)⟩
theorem fl_X12_102 : ik_FL RX12 102 12 45 := ⟨RX12, TX12, 77, tyX12, rfl, by decide, inX12, tyX12_ok, nmX12, rfl, ik_in6 (List.mem_of_getElem? (i := 93) rfl)⟩
theorem ml_X12_289 : Cond.methodLink RX12 289 yX12_emit ∈ lw_tbl := ik_in7 (List.mem_of_getElem? (i := 156) rfl)
theorem mf_X12_emit : ik_MF yX12_emit cX12_emit 3 (none) 2 := ⟨ik_in7 (List.mem_of_getElem? (i := 159) rfl), ik_in1 (List.mem_of_getElem? (i := 14) rfl), by decide +kernel, by decide +kernel, by decide +kernel⟩
theorem mv_X12_emit : ik_MV yX12_emit := ⟨ik_in7 (List.mem_of_getElem? (i := 158) rfl), ik_inS (List.mem_of_getElem? (i := 59) (by decide +kernel))⟩
theorem ml_X12_298 : Cond.methodLink RX12 298 yX12_isValue ∈ lw_tbl := ik_in7 (List.mem_of_getElem? (i := 160) rfl)
theorem mf_X12_isValue : ik_MF yX12_isValue cX12_isValue 1 (some .boolean) 1 := ⟨ik_in7 (List.mem_of_getElem? (i := 162) rfl), ik_in1 (List.mem_of_getElem? (i := 14) rfl), by decide +kernel, by decide +kernel, by decide +kernel⟩
theorem ms_X12_isValue : Cond.static yX12_isValue ∈ lw_tbl := ik_in7 (List.mem_of_getElem? (i := 161) rfl)
theorem ml_X12_312 : Cond.methodLink RX12 312 yX12_factor ∈ lw_tbl := ik_in7 (List.mem_of_getElem? (i := 148) rfl)
theorem mf_X12_factor : ik_MF yX12_factor cX12_factor 1 (none) 0 := ⟨ik_in7 (List.mem_of_getElem? (i := 151) rfl), ik_in1 (List.mem_of_getElem? (i := 14) rfl), by decide +kernel, by decide +kernel, by decide +kernel⟩
theorem mv_X12_factor : ik_MV yX12_factor := ⟨ik_in7 (List.mem_of_getElem? (i := 150) rfl), ik_inS (List.mem_of_getElem? (i := 57) (by decide +kernel))⟩
theorem ml_X12_283 : Cond.methodLink RX12 283 yX12_isTimes ∈ lw_tbl := ik_in7 (List.mem_of_getElem? (i := 167) rfl)
theorem mf_X12_isTimes : ik_MF yX12_isTimes cX12_isTimes 1 (some .boolean) 1 := ⟨ik_in7 (List.mem_of_getElem? (i := 169) rfl), ik_in1 (List.mem_of_getElem? (i := 14) rfl), by decide +kernel, by decide +kernel, by decide +kernel⟩
theorem ms_X12_isTimes : Cond.static yX12_isTimes ∈ lw_tbl := ik_in7 (List.mem_of_getElem? (i := 168) rfl)
theorem ml_X12_286 : Cond.methodLink RX12 286 yX12_isPlus ∈ lw_tbl := ik_in7 (List.mem_of_getElem? (i := 170) rfl)
theorem mf_X12_isPlus : ik_MF yX12_isPlus cX12_isPlus 1 (some .boolean) 1 := ⟨ik_in7 (List.mem_of_getElem? (i := 172) rfl), ik_in1 (List.mem_of_getElem? (i := 14) rfl), by decide +kernel, by decide +kernel, by decide +kernel⟩
theorem ms_X12_isPlus : Cond.static yX12_isPlus ∈ lw_tbl := ik_in7 (List.mem_of_getElem? (i := 171) rfl)
theorem ml_X12_280 : Cond.methodLink RX12 280 yX12_top ∈ lw_tbl := ik_in7 (List.mem_of_getElem? (i := 177) rfl)
theorem mf_X12_top : ik_MF yX12_top cX12_top 1 (some .int) 0 := ⟨ik_in7 (List.mem_of_getElem? (i := 180) rfl), ik_in1 (List.mem_of_getElem? (i := 14) rfl), by decide +kernel, by decide +kernel, by decide +kernel⟩
theorem mv_X12_top : ik_MV yX12_top := ⟨ik_in7 (List.mem_of_getElem? (i := 179) rfl), ik_inS (List.mem_of_getElem? (i := 62) (by decide +kernel))⟩
theorem ml_X12_301 : Cond.methodLink RX12 301 yX12_sums ∈ lw_tbl := ik_in7 (List.mem_of_getElem? (i := 173) rfl)
theorem mf_X12_sums : ik_MF yX12_sums cX12_sums 2 (none) 1 := ⟨ik_in7 (List.mem_of_getElem? (i := 176) rfl), ik_in1 (List.mem_of_getElem? (i := 14) rfl), by decide +kernel, by decide +kernel, by decide +kernel⟩
theorem mv_X12_sums : ik_MV yX12_sums := ⟨ik_in7 (List.mem_of_getElem? (i := 175) rfl), ik_inS (List.mem_of_getElem? (i := 61) (by decide +kernel))⟩
theorem ml_X12_309 : Cond.methodLink RX12 309 yX12_isSign ∈ lw_tbl := ik_in7 (List.mem_of_getElem? (i := 181) rfl)
theorem mf_X12_isSign : ik_MF yX12_isSign cX12_isSign 1 (some .boolean) 1 := ⟨ik_in7 (List.mem_of_getElem? (i := 183) rfl), ik_in1 (List.mem_of_getElem? (i := 14) rfl), by decide +kernel, by decide +kernel, by decide +kernel⟩
theorem ms_X12_isSign : Cond.static yX12_isSign ∈ lw_tbl := ik_in7 (List.mem_of_getElem? (i := 182) rfl)
theorem ml_X12_315 : Cond.methodLink RX12 315 yX12_goesOn ∈ lw_tbl := ik_in7 (List.mem_of_getElem? (i := 163) rfl)
theorem mf_X12_goesOn : ik_MF yX12_goesOn cX12_goesOn 2 (some .boolean) 0 := ⟨ik_in7 (List.mem_of_getElem? (i := 166) rfl), ik_in1 (List.mem_of_getElem? (i := 14) rfl), by decide +kernel, by decide +kernel, by decide +kernel⟩
theorem mv_X12_goesOn : ik_MV yX12_goesOn := ⟨ik_in7 (List.mem_of_getElem? (i := 165) rfl), ik_inS (List.mem_of_getElem? (i := 60) (by decide +kernel))⟩
theorem ml_X12_318 : Cond.methodLink RX12 318 yX12_ends ∈ lw_tbl := ik_in7 (List.mem_of_getElem? (i := 184) rfl)
theorem mf_X12_ends : ik_MF yX12_ends cX12_ends 1 (none) 0 := ⟨ik_in7 (List.mem_of_getElem? (i := 187) rfl), ik_in1 (List.mem_of_getElem? (i := 14) rfl), by decide +kernel, by decide +kernel, by decide +kernel⟩
theorem mv_X12_ends : ik_MV yX12_ends := ⟨ik_in7 (List.mem_of_getElem? (i := 186) rfl), ik_inS (List.mem_of_getElem? (i := 63) (by decide +kernel))⟩
theorem ml_X12_327 : Cond.methodLink RX12 327 yX12_pieceOfC ∈ lw_tbl := ik_in7 (List.mem_of_getElem? (i := 144) rfl)
theorem mf_X12_pieceOfC : ik_MF yX12_pieceOfC cX12_pieceOfC 2 (none) 0 := ⟨ik_in7 (List.mem_of_getElem? (i := 147) rfl), ik_in1 (List.mem_of_getElem? (i := 14) rfl), by decide +kernel, by decide +kernel, by decide +kernel⟩
theorem mv_X12_pieceOfC : ik_MV yX12_pieceOfC := ⟨ik_in7 (List.mem_of_getElem? (i := 146) rfl), ik_inS (List.mem_of_getElem? (i := 56) (by decide +kernel))⟩
theorem ml_X12_321 : Cond.methodLink RX12 321 yX12_joins ∈ lw_tbl := ik_in7 (List.mem_of_getElem? (i := 192) rfl)
theorem mf_X12_joins : ik_MF yX12_joins cX12_joins 2 (none) 1 := ⟨ik_in7 (List.mem_of_getElem? (i := 195) rfl), ik_in1 (List.mem_of_getElem? (i := 14) rfl), by decide +kernel, by decide +kernel, by decide +kernel⟩
theorem mv_X12_joins : ik_MV yX12_joins := ⟨ik_in7 (List.mem_of_getElem? (i := 194) rfl), ik_inS (List.mem_of_getElem? (i := 65) (by decide +kernel))⟩
theorem ml_X12_330 : Cond.methodLink RX12 330 yX12_goesBehind ∈ lw_tbl := ik_in7 (List.mem_of_getElem? (i := 188) rfl)
theorem mf_X12_goesBehind : ik_MF yX12_goesBehind cX12_goesBehind 2 (some .boolean) 0 := ⟨ik_in7 (List.mem_of_getElem? (i := 191) rfl), ik_in1 (List.mem_of_getElem? (i := 14) rfl), by decide +kernel, by decide +kernel, by decide +kernel⟩
theorem mv_X12_goesBehind : ik_MV yX12_goesBehind := ⟨ik_in7 (List.mem_of_getElem? (i := 190) rfl), ik_inS (List.mem_of_getElem? (i := 64) (by decide +kernel))⟩
theorem ml_X12_336 : Cond.methodLink RX12 336 yX12_condition ∈ lw_tbl := ik_in7 (List.mem_of_getElem? (i := 132) rfl)
theorem mf_X12_condition : ik_MF yX12_condition cX12_condition 2 (none) 0 := ⟨ik_in7 (List.mem_of_getElem? (i := 135) rfl), ik_in1 (List.mem_of_getElem? (i := 14) rfl), by decide +kernel, by decide +kernel, by decide +kernel⟩
theorem mv_X12_condition : ik_MV yX12_condition := ⟨ik_in7 (List.mem_of_getElem? (i := 134) rfl), ik_inS (List.mem_of_getElem? (i := 53) (by decide +kernel))⟩
theorem fl_X12_96 : ik_FL RX12 96 12 43 := ⟨RX12, TX12, 77, tyX12, rfl, by decide, inX12, tyX12_ok, nmX12, rfl, ik_in6 (List.mem_of_getElem? (i := 91) rfl)⟩
theorem ml_X12_339 : Cond.methodLink RX12 339 yX12_clause ∈ lw_tbl := ik_in7 (List.mem_of_getElem? (i := 128) rfl)
theorem mf_X12_clause : ik_MF yX12_clause cX12_clause 2 (none) 0 := ⟨ik_in7 (List.mem_of_getElem? (i := 131) rfl), ik_in1 (List.mem_of_getElem? (i := 14) rfl), by decide +kernel, by decide +kernel, by decide +kernel⟩
theorem mv_X12_clause : ik_MV yX12_clause := ⟨ik_in7 (List.mem_of_getElem? (i := 130) rfl), ik_inS (List.mem_of_getElem? (i := 52) (by decide +kernel))⟩
theorem fl_X12_75 : ik_FL RX12 75 12 36 := ⟨RX12, TX12, 77, tyX12, rfl, by decide, inX12, tyX12_ok, nmX12, rfl, ik_in6 (List.mem_of_getElem? (i := 84) rfl)⟩
theorem fl_X12_78 : ik_FL RX12 78 12 37 := ⟨RX12, TX12, 77, tyX12, rfl, by decide, inX12, tyX12_ok, nmX12, rfl, ik_in6 (List.mem_of_getElem? (i := 85) rfl)⟩
theorem fl_X12_81 : ik_FL RX12 81 12 38 := ⟨RX12, TX12, 77, tyX12, rfl, by decide, inX12, tyX12_ok, nmX12, rfl, ik_in6 (List.mem_of_getElem? (i := 86) rfl)⟩
theorem fl_X12_84 : ik_FL RX12 84 12 39 := ⟨RX12, TX12, 77, tyX12, rfl, by decide, inX12, tyX12_ok, nmX12, rfl, ik_in6 (List.mem_of_getElem? (i := 87) rfl)⟩
theorem fl_X12_87 : ik_FL RX12 87 12 40 := ⟨RX12, TX12, 77, tyX12, rfl, by decide, inX12, tyX12_ok, nmX12, rfl, ik_in6 (List.mem_of_getElem? (i := 88) rfl)⟩
theorem fw_X12_342 : ik_FW RX12 342 12 5 0 := ⟨RX12, TX12, 77, tyX12, rfl, by decide, inX12, tyX12_ok, nmX12, rfl, ik_in6 (List.mem_of_getElem? (i := 53) rfl), rfl, rfl⟩
theorem fl_X12_364 : ik_FL RX12 364 12 6 := ⟨RX12, TX12, 77, tyX12, rfl, by decide, inX12, tyX12_ok, nmX12, rfl, ik_in6 (List.mem_of_getElem? (i := 54) rfl)⟩
theorem kc_X12_367 : Cond.constantLong RX12 367 (2) ∈ lw_tbl := ik_in7 (List.mem_of_getElem? (i := 200) rfl)
theorem ml_X12_369 : Cond.methodLink RX12 369 yX12_isBar ∈ lw_tbl := ik_in7 (List.mem_of_getElem? (i := 201) rfl)
theorem mf_X12_isBar : ik_MF yX12_isBar cX12_isBar 2 (some .boolean) 1 := ⟨ik_in7 (List.mem_of_getElem? (i := 204) rfl), ik_in1 (List.mem_of_getElem? (i := 14) rfl), by decide +kernel, by decide +kernel, by decide +kernel⟩
theorem mv_X12_isBar : ik_MV yX12_isBar := ⟨ik_in7 (List.mem_of_getElem? (i := 203) rfl), ik_inS (List.mem_of_getElem? (i := 66) (by decide +kernel))⟩
theorem fl_X12_114 : ik_FL RX12 114 12 57 := ⟨RX12, TX12, 77, tyX12, rfl, by decide, inX12, tyX12_ok, nmX12, rfl, ik_in6 (List.mem_of_getElem? (i := 105) rfl)⟩
theorem fl_X12_117 : ik_FL RX12 117 12 58 := ⟨RX12, TX12, 77, tyX12, rfl, by decide, inX12, tyX12_ok, nmX12, rfl, ik_in6 (List.mem_of_getElem? (i := 106) rfl)⟩
theorem fl_X12_120 : ik_FL RX12 120 12 59 := ⟨RX12, TX12, 77, tyX12, rfl, by decide, inX12, tyX12_ok, nmX12, rfl, ik_in6 (List.mem_of_getElem? (i := 107) rfl)⟩
theorem fw_X12_364 : ik_FW RX12 364 12 6 0 := ⟨RX12, TX12, 77, tyX12, rfl, by decide, inX12, tyX12_ok, nmX12, rfl, ik_in6 (List.mem_of_getElem? (i := 54) rfl), rfl, rfl⟩
theorem fl_X12_372 : ik_FL RX12 372 12 7 := ⟨RX12, TX12, 77, tyX12, rfl, by decide, inX12, tyX12_ok, nmX12, rfl, ik_in6 (List.mem_of_getElem? (i := 55) rfl)⟩
theorem fl_X12_123 : ik_FL RX12 123 12 60 := ⟨RX12, TX12, 77, tyX12, rfl, by decide, inX12, tyX12_ok, nmX12, rfl, ik_in6 (List.mem_of_getElem? (i := 108) rfl)⟩
theorem fl_X12_126 : ik_FL RX12 126 12 61 := ⟨RX12, TX12, 77, tyX12, rfl, by decide, inX12, tyX12_ok, nmX12, rfl, ik_in6 (List.mem_of_getElem? (i := 109) rfl)⟩
theorem fl_X12_129 : ik_FL RX12 129 12 62 := ⟨RX12, TX12, 77, tyX12, rfl, by decide, inX12, tyX12_ok, nmX12, rfl, ik_in6 (List.mem_of_getElem? (i := 110) rfl)⟩
theorem fw_X12_372 : ik_FW RX12 372 12 7 0 := ⟨RX12, TX12, 77, tyX12, rfl, by decide, inX12, tyX12_ok, nmX12, rfl, ik_in6 (List.mem_of_getElem? (i := 55) rfl), rfl, rfl⟩
theorem fl_X12_375 : ik_FL RX12 375 12 8 := ⟨RX12, TX12, 77, tyX12, rfl, by decide, inX12, tyX12_ok, nmX12, rfl, ik_in6 (List.mem_of_getElem? (i := 56) rfl)⟩
theorem kc_X12_180 : Cond.constantLong RX12 180 (3) ∈ lw_tbl := ik_in7 (List.mem_of_getElem? (i := 216) rfl)
theorem ml_X12_378 : Cond.methodLink RX12 378 yX12_isHouse ∈ lw_tbl := ik_in7 (List.mem_of_getElem? (i := 213) rfl)
theorem mf_X12_isHouse : ik_MF yX12_isHouse cX12_isHouse 1 (some .boolean) 1 := ⟨ik_in7 (List.mem_of_getElem? (i := 215) rfl), ik_in1 (List.mem_of_getElem? (i := 14) rfl), by decide +kernel, by decide +kernel, by decide +kernel⟩
theorem ms_X12_isHouse : Cond.static yX12_isHouse ∈ lw_tbl := ik_in7 (List.mem_of_getElem? (i := 214) rfl)
theorem fl_X12_132 : ik_FL RX12 132 12 63 := ⟨RX12, TX12, 77, tyX12, rfl, by decide, inX12, tyX12_ok, nmX12, rfl, ik_in6 (List.mem_of_getElem? (i := 111) rfl)⟩
theorem fl_X12_135 : ik_FL RX12 135 12 64 := ⟨RX12, TX12, 77, tyX12, rfl, by decide, inX12, tyX12_ok, nmX12, rfl, ik_in6 (List.mem_of_getElem? (i := 112) rfl)⟩
theorem fl_X12_138 : ik_FL RX12 138 12 65 := ⟨RX12, TX12, 77, tyX12, rfl, by decide, inX12, tyX12_ok, nmX12, rfl, ik_in6 (List.mem_of_getElem? (i := 113) rfl)⟩
theorem fw_X12_375 : ik_FW RX12 375 12 8 0 := ⟨RX12, TX12, 77, tyX12, rfl, by decide, inX12, tyX12_ok, nmX12, rfl, ik_in6 (List.mem_of_getElem? (i := 56) rfl), rfl, rfl⟩
theorem ml_X12_381 : Cond.methodLink RX12 381 yX12_habitOf ∈ lw_tbl := ik_in7 (List.mem_of_getElem? (i := 221) rfl)
theorem mf_X12_habitOf : ik_MF yX12_habitOf cX12_habitOf 7 (some .int) 2 := ⟨ik_in7 (List.mem_of_getElem? (i := 224) rfl), ik_in1 (List.mem_of_getElem? (i := 14) rfl), by decide +kernel, by decide +kernel, by decide +kernel⟩
theorem mv_X12_habitOf : ik_MV yX12_habitOf := ⟨ik_in7 (List.mem_of_getElem? (i := 223) rfl), ik_inS (List.mem_of_getElem? (i := 67) (by decide +kernel))⟩
theorem fw_X12_385 : ik_FW RX12 385 12 11 0 := ⟨RX12, TX12, 77, tyX12, rfl, by decide, inX12, tyX12_ok, nmX12, rfl, ik_in6 (List.mem_of_getElem? (i := 59) rfl), rfl, rfl⟩
theorem fl_X12_385 : ik_FL RX12 385 12 11 := ⟨RX12, TX12, 77, tyX12, rfl, by decide, inX12, tyX12_ok, nmX12, rfl, ik_in6 (List.mem_of_getElem? (i := 59) rfl)⟩
theorem ml_X12_388 : Cond.methodLink RX12 388 yX12_isWord ∈ lw_tbl := ik_in8 (List.mem_of_getElem? (i := 1) rfl)
theorem mf_X12_isWord : ik_MF yX12_isWord cX12_isWord 5 (some .boolean) 3 := ⟨ik_in8 (List.mem_of_getElem? (i := 4) rfl), ik_in1 (List.mem_of_getElem? (i := 14) rfl), by decide +kernel, by decide +kernel, by decide +kernel⟩
theorem mv_X12_isWord : ik_MV yX12_isWord := ⟨ik_in8 (List.mem_of_getElem? (i := 3) rfl), ik_inS (List.mem_of_getElem? (i := 70) (by decide +kernel))⟩
theorem ml_X12_348 : Cond.methodLink RX12 348 yX12_isVowel ∈ lw_tbl := ik_in8 (List.mem_of_getElem? (i := 5) rfl)
theorem mf_X12_isVowel : ik_MF yX12_isVowel cX12_isVowel 3 (some .boolean) 1 := ⟨ik_in8 (List.mem_of_getElem? (i := 8) rfl), ik_in1 (List.mem_of_getElem? (i := 14) rfl), by decide +kernel, by decide +kernel, by decide +kernel⟩
theorem mv_X12_isVowel : ik_MV yX12_isVowel := ⟨ik_in8 (List.mem_of_getElem? (i := 7) rfl), ik_inS (List.mem_of_getElem? (i := 71) (by decide +kernel))⟩
theorem ml_X12_395 : Cond.methodLink RX12 395 yX12_isAgainstGrammar ∈ lw_tbl := ik_in7 (List.mem_of_getElem? (i := 237) rfl)
theorem mf_X12_isAgainstGrammar : ik_MF yX12_isAgainstGrammar cX12_isAgainstGrammar 6 (some .boolean) 2 := ⟨ik_in8 (List.mem_of_getElem? (i := 0) rfl), ik_in1 (List.mem_of_getElem? (i := 14) rfl), by decide +kernel, by decide +kernel, by decide +kernel⟩
theorem mv_X12_isAgainstGrammar : ik_MV yX12_isAgainstGrammar := ⟨ik_in7 (List.mem_of_getElem? (i := 239) rfl), ik_inS (List.mem_of_getElem? (i := 69) (by decide +kernel))⟩
theorem fw_X12_351 : ik_FW RX12 351 12 53 0 := ⟨RX12, TX12, 77, tyX12, rfl, by decide, inX12, tyX12_ok, nmX12, rfl, ik_in6 (List.mem_of_getElem? (i := 101) rfl), rfl, rfl⟩
theorem fw_X12_345 : ik_FW RX12 345 12 54 0 := ⟨RX12, TX12, 77, tyX12, rfl, by decide, inX12, tyX12_ok, nmX12, rfl, ik_in6 (List.mem_of_getElem? (i := 102) rfl), rfl, rfl⟩
theorem fl_X12_342 : ik_FL RX12 342 12 5 := ⟨RX12, TX12, 77, tyX12, rfl, by decide, inX12, tyX12_ok, nmX12, rfl, ik_in6 (List.mem_of_getElem? (i := 53) rfl)⟩
theorem fl_X12_111 : ik_FL RX12 111 12 56 := ⟨RX12, TX12, 77, tyX12, rfl, by decide, inX12, tyX12_ok, nmX12, rfl, ik_in6 (List.mem_of_getElem? (i := 104) rfl)⟩
theorem fl_X12_108 : ik_FL RX12 108 12 55 := ⟨RX12, TX12, 77, tyX12, rfl, by decide, inX12, tyX12_ok, nmX12, rfl, ik_in6 (List.mem_of_getElem? (i := 103) rfl)⟩
theorem ml_X12_354 : Cond.methodLink RX12 354 yX12_worked ∈ lw_tbl := ik_in8 (List.mem_of_getElem? (i := 21) rfl)
theorem mf_X12_worked : ik_MF yX12_worked cX12_worked 3 (some .int) 3 := ⟨ik_in8 (List.mem_of_getElem? (i := 23) rfl), ik_in1 (List.mem_of_getElem? (i := 14) rfl), by decide +kernel, by decide +kernel, by decide +kernel⟩
theorem ms_X12_worked : Cond.static yX12_worked ∈ lw_tbl := ik_in8 (List.mem_of_getElem? (i := 22) rfl)
theorem ml_X12_358 : Cond.methodLink RX12 358 yX12_does ∈ lw_tbl := ik_in8 (List.mem_of_getElem? (i := 17) rfl)
theorem mf_X12_does : ik_MF yX12_does cX12_does 4 (none) 2 := ⟨ik_in8 (List.mem_of_getElem? (i := 20) rfl), ik_in1 (List.mem_of_getElem? (i := 14) rfl), by decide +kernel, by decide +kernel, by decide +kernel⟩
theorem mv_X12_does : ik_MV yX12_does := ⟨ik_in8 (List.mem_of_getElem? (i := 19) rfl), ik_inS (List.mem_of_getElem? (i := 74) (by decide +kernel))⟩
theorem fl_X12_345 : ik_FL RX12 345 12 54 := ⟨RX12, TX12, 77, tyX12, rfl, by decide, inX12, tyX12_ok, nmX12, rfl, ik_in6 (List.mem_of_getElem? (i := 102) rfl)⟩
theorem fl_X12_351 : ik_FL RX12 351 12 53 := ⟨RX12, TX12, 77, tyX12, rfl, by decide, inX12, tyX12_ok, nmX12, rfl, ik_in6 (List.mem_of_getElem? (i := 101) rfl)⟩
theorem ml_X12_361 : Cond.methodLink RX12 361 yX12_valueOf ∈ lw_tbl := ik_in8 (List.mem_of_getElem? (i := 24) rfl)
theorem mf_X12_valueOf : ik_MF yX12_valueOf cX12_valueOf 3 (some .int) 1 := ⟨ik_in8 (List.mem_of_getElem? (i := 27) rfl), ik_in1 (List.mem_of_getElem? (i := 14) rfl), by decide +kernel, by decide +kernel, by decide +kernel⟩
theorem mv_X12_valueOf : ik_MV yX12_valueOf := ⟨ik_in8 (List.mem_of_getElem? (i := 26) rfl), ik_inS (List.mem_of_getElem? (i := 75) (by decide +kernel))⟩
theorem ml_X12_392 : Cond.methodLink RX12 392 yX12_holds ∈ lw_tbl := ik_in8 (List.mem_of_getElem? (i := 13) rfl)
theorem mf_X12_holds : ik_MF yX12_holds cX12_holds 4 (some .boolean) 1 := ⟨ik_in8 (List.mem_of_getElem? (i := 16) rfl), ik_in1 (List.mem_of_getElem? (i := 14) rfl), by decide +kernel, by decide +kernel, by decide +kernel⟩
theorem mv_X12_holds : ik_MV yX12_holds := ⟨ik_in8 (List.mem_of_getElem? (i := 15) rfl), ik_inS (List.mem_of_getElem? (i := 73) (by decide +kernel))⟩
theorem ml_X12_399 : Cond.methodLink RX12 399 yX12_isAgainstRules ∈ lw_tbl := ik_in8 (List.mem_of_getElem? (i := 9) rfl)
theorem mf_X12_isAgainstRules : ik_MF yX12_isAgainstRules cX12_isAgainstRules 4 (some .boolean) 2 := ⟨ik_in8 (List.mem_of_getElem? (i := 12) rfl), ik_in1 (List.mem_of_getElem? (i := 14) rfl), by decide +kernel, by decide +kernel, by decide +kernel⟩
theorem mv_X12_isAgainstRules : ik_MV yX12_isAgainstRules := ⟨ik_in8 (List.mem_of_getElem? (i := 11) rfl), ik_inS (List.mem_of_getElem? (i := 72) (by decide +kernel))⟩
theorem ml_X12_402 : Cond.methodLink RX12 402 yX12_isAgainstLists ∈ lw_tbl := ik_in8 (List.mem_of_getElem? (i := 28) rfl)
theorem mf_X12_isAgainstLists : ik_MF yX12_isAgainstLists cX12_isAgainstLists 4 (some .boolean) 2 := ⟨ik_in8 (List.mem_of_getElem? (i := 31) rfl), ik_in1 (List.mem_of_getElem? (i := 14) rfl), by decide +kernel, by decide +kernel, by decide +kernel⟩
theorem mv_X12_isAgainstLists : ik_MV yX12_isAgainstLists := ⟨ik_in8 (List.mem_of_getElem? (i := 30) rfl), ik_inS (List.mem_of_getElem? (i := 76) (by decide +kernel))⟩
theorem ml_X12_405 : Cond.methodLink RX12 405 yX12_has ∈ lw_tbl := ik_in8 (List.mem_of_getElem? (i := 32) rfl)
theorem mf_X12_has : ik_MF yX12_has cX12_has 2 (some .boolean) 2 := ⟨ik_in8 (List.mem_of_getElem? (i := 34) rfl), ik_in1 (List.mem_of_getElem? (i := 14) rfl), by decide +kernel, by decide +kernel, by decide +kernel⟩
theorem ms_X12_has : Cond.static yX12_has ∈ lw_tbl := ik_in8 (List.mem_of_getElem? (i := 33) rfl)
theorem ml_X12_408 : Cond.methodLink RX12 408 yX12_againstOf ∈ lw_tbl := ik_in7 (List.mem_of_getElem? (i := 233) rfl)
theorem mf_X12_againstOf : ik_MF yX12_againstOf cX12_againstOf 6 (some .int) 2 := ⟨ik_in7 (List.mem_of_getElem? (i := 236) rfl), ik_in1 (List.mem_of_getElem? (i := 14) rfl), by decide +kernel, by decide +kernel, by decide +kernel⟩
theorem mv_X12_againstOf : ik_MV yX12_againstOf := ⟨ik_in7 (List.mem_of_getElem? (i := 235) rfl), ik_inS (List.mem_of_getElem? (i := 68) (by decide +kernel))⟩
theorem ml_X12_414 : Cond.methodLink RX12 414 yX12_rowsOf ∈ lw_tbl := ik_in8 (List.mem_of_getElem? (i := 39) rfl)
theorem mf_X12_rowsOf : ik_MF yX12_rowsOf cX12_rowsOf 3 (some .int) 0 := ⟨ik_in8 (List.mem_of_getElem? (i := 42) rfl), ik_in1 (List.mem_of_getElem? (i := 14) rfl), by decide +kernel, by decide +kernel, by decide +kernel⟩
theorem mv_X12_rowsOf : ik_MV yX12_rowsOf := ⟨ik_in8 (List.mem_of_getElem? (i := 41) rfl), ik_inS (List.mem_of_getElem? (i := 77) (by decide +kernel))⟩
theorem fl_X12_69 : ik_FL RX12 69 12 33 := ⟨RX12, TX12, 77, tyX12, rfl, by decide, inX12, tyX12_ok, nmX12, rfl, ik_in6 (List.mem_of_getElem? (i := 81) rfl)⟩
theorem ml_X12_417 : Cond.methodLink RX12 417 yX12_takes ∈ lw_tbl := ik_in8 (List.mem_of_getElem? (i := 43) rfl)
theorem mf_X12_takes : ik_MF yX12_takes cX12_takes 4 (some .boolean) 1 := ⟨ik_in8 (List.mem_of_getElem? (i := 46) rfl), ik_in1 (List.mem_of_getElem? (i := 14) rfl), by decide +kernel, by decide +kernel, by decide +kernel⟩
theorem mv_X12_takes : ik_MV yX12_takes := ⟨ik_in8 (List.mem_of_getElem? (i := 45) rfl), ik_inS (List.mem_of_getElem? (i := 78) (by decide +kernel))⟩
theorem fl_X12_141 : ik_FL RX12 141 12 66 := ⟨RX12, TX12, 77, tyX12, rfl, by decide, inX12, tyX12_ok, nmX12, rfl, ik_in6 (List.mem_of_getElem? (i := 114) rfl)⟩
theorem ml_X12_420 : Cond.methodLink RX12 420 yX12_asks ∈ lw_tbl := ik_in8 (List.mem_of_getElem? (i := 47) rfl)
theorem mf_X12_asks : ik_MF yX12_asks cX12_asks 3 (none) 0 := ⟨ik_in8 (List.mem_of_getElem? (i := 50) rfl), ik_in1 (List.mem_of_getElem? (i := 14) rfl), by decide +kernel, by decide +kernel, by decide +kernel⟩
theorem mv_X12_asks : ik_MV yX12_asks := ⟨ik_in8 (List.mem_of_getElem? (i := 49) rfl), ik_inS (List.mem_of_getElem? (i := 79) (by decide +kernel))⟩
theorem fw_X12_259 : ik_FW RX12 259 12 34 0 := ⟨RX12, TX12, 77, tyX12, rfl, by decide, inX12, tyX12_ok, nmX12, rfl, ik_in6 (List.mem_of_getElem? (i := 82) rfl), rfl, rfl⟩
theorem ml_X12_262 : Cond.methodLink RX12 262 yX12_wideOfToken ∈ lw_tbl := ik_in8 (List.mem_of_getElem? (i := 63) rfl)
theorem mf_X12_wideOfToken : ik_MF yX12_wideOfToken cX12_wideOfToken 8 (some .int) 2 := ⟨ik_in8 (List.mem_of_getElem? (i := 66) rfl), ik_in1 (List.mem_of_getElem? (i := 14) rfl), by decide +kernel, by decide +kernel, by decide +kernel⟩
theorem mv_X12_wideOfToken : ik_MV yX12_wideOfToken := ⟨ik_in8 (List.mem_of_getElem? (i := 65) rfl), ik_inS (List.mem_of_getElem? (i := 83) (by decide +kernel))⟩
theorem fl_X12_72 : ik_FL RX12 72 12 35 := ⟨RX12, TX12, 77, tyX12, rfl, by decide, inX12, tyX12_ok, nmX12, rfl, ik_in6 (List.mem_of_getElem? (i := 83) rfl)⟩
theorem fl_X12_259 : ik_FL RX12 259 12 34 := ⟨RX12, TX12, 77, tyX12, rfl, by decide, inX12, tyX12_ok, nmX12, rfl, ik_in6 (List.mem_of_getElem? (i := 82) rfl)⟩
theorem ml_X12_265 : Cond.methodLink RX12 265 yX12_sets ∈ lw_tbl := ik_in8 (List.mem_of_getElem? (i := 59) rfl)
theorem mf_X12_sets : ik_MF yX12_sets cX12_sets 5 (none) 1 := ⟨ik_in8 (List.mem_of_getElem? (i := 62) rfl), ik_in1 (List.mem_of_getElem? (i := 14) rfl), by decide +kernel, by decide +kernel, by decide +kernel⟩
theorem mv_X12_sets : ik_MV yX12_sets := ⟨ik_in8 (List.mem_of_getElem? (i := 61) rfl), ik_inS (List.mem_of_getElem? (i := 82) (by decide +kernel))⟩
theorem ml_X12_411 : Cond.methodLink RX12 411 yX12_breaksSo ∈ lw_tbl := ik_in8 (List.mem_of_getElem? (i := 55) rfl)
theorem mf_X12_breaksSo : ik_MF yX12_breaksSo cX12_breaksSo 5 (some .boolean) 1 := ⟨ik_in8 (List.mem_of_getElem? (i := 58) rfl), ik_in1 (List.mem_of_getElem? (i := 14) rfl), by decide +kernel, by decide +kernel, by decide +kernel⟩
theorem mv_X12_breaksSo : ik_MV yX12_breaksSo := ⟨ik_in8 (List.mem_of_getElem? (i := 57) rfl), ik_inS (List.mem_of_getElem? (i := 81) (by decide +kernel))⟩
theorem ml_X12_423 : Cond.methodLink RX12 423 yX12_speaks ∈ lw_tbl := ik_in8 (List.mem_of_getElem? (i := 51) rfl)
theorem mf_X12_speaks : ik_MF yX12_speaks cX12_speaks 7 (some .int) 2 := ⟨ik_in8 (List.mem_of_getElem? (i := 54) rfl), ik_in1 (List.mem_of_getElem? (i := 14) rfl), by decide +kernel, by decide +kernel, by decide +kernel⟩
theorem mv_X12_speaks : ik_MV yX12_speaks := ⟨ik_in8 (List.mem_of_getElem? (i := 53) rfl), ik_inS (List.mem_of_getElem? (i := 80) (by decide +kernel))⟩
theorem ml_X12_426 : Cond.methodLink RX12 426 yX12_isSheet ∈ lw_tbl := ik_in8 (List.mem_of_getElem? (i := 71) rfl)
theorem mf_X12_isSheet : ik_MF yX12_isSheet cX12_isSheet 2 (some .boolean) 1 := ⟨ik_in8 (List.mem_of_getElem? (i := 74) rfl), ik_in1 (List.mem_of_getElem? (i := 14) rfl), by decide +kernel, by decide +kernel, by decide +kernel⟩
theorem mv_X12_isSheet : ik_MV yX12_isSheet := ⟨ik_in8 (List.mem_of_getElem? (i := 73) rfl), ik_inS (List.mem_of_getElem? (i := 84) (by decide +kernel))⟩
theorem kc_X12_445 : Cond.constantLong RX12 445 (63) ∈ lw_tbl := ik_in8 (List.mem_of_getElem? (i := 79) rfl)
theorem fw_X12_429 : ik_FW RX12 429 12 67 0 := ⟨RX12, TX12, 77, tyX12, rfl, by decide, inX12, tyX12_ok, nmX12, rfl, ik_in6 (List.mem_of_getElem? (i := 115) rfl), rfl, rfl⟩
theorem fw_X12_432 : ik_FW RX12 432 12 69 1 := ⟨RX12, TX12, 77, tyX12, rfl, by decide, inX12, tyX12_ok, nmX12, rfl, ik_in6 (List.mem_of_getElem? (i := 117) rfl), rfl, rfl⟩
theorem fl_X12_144 : ik_FL RX12 144 12 70 := ⟨RX12, TX12, 77, tyX12, rfl, by decide, inX12, tyX12_ok, nmX12, rfl, ik_in6 (List.mem_of_getElem? (i := 118) rfl)⟩
theorem ml_X12_436 : Cond.methodLink RX12 436 yX12_begins ∈ lw_tbl := ik_in8 (List.mem_of_getElem? (i := 84) rfl)
theorem mf_X12_begins : ik_MF yX12_begins cX12_begins 2 (some .boolean) 0 := ⟨ik_in8 (List.mem_of_getElem? (i := 87) rfl), ik_in1 (List.mem_of_getElem? (i := 14) rfl), by decide +kernel, by decide +kernel, by decide +kernel⟩
theorem mv_X12_begins : ik_MV yX12_begins := ⟨ik_in8 (List.mem_of_getElem? (i := 86) rfl), ik_inS (List.mem_of_getElem? (i := 86) (by decide +kernel))⟩
theorem ml_X12_439 : Cond.methodLink RX12 439 yX12_tableOf ∈ lw_tbl := ik_in8 (List.mem_of_getElem? (i := 88) rfl)
theorem mf_X12_tableOf : ik_MF yX12_tableOf cX12_tableOf 3 (some .int) 0 := ⟨ik_in8 (List.mem_of_getElem? (i := 91) rfl), ik_in1 (List.mem_of_getElem? (i := 14) rfl), by decide +kernel, by decide +kernel, by decide +kernel⟩
theorem mv_X12_tableOf : ik_MV yX12_tableOf := ⟨ik_in8 (List.mem_of_getElem? (i := 90) rfl), ik_inS (List.mem_of_getElem? (i := 87) (by decide +kernel))⟩
theorem ml_X12_442 : Cond.methodLink RX12 442 yX12_goesOnNames ∈ lw_tbl := ik_in8 (List.mem_of_getElem? (i := 92) rfl)
theorem mf_X12_goesOnNames : ik_MF yX12_goesOnNames cX12_goesOnNames 2 (some .boolean) 0 := ⟨ik_in8 (List.mem_of_getElem? (i := 95) rfl), ik_in1 (List.mem_of_getElem? (i := 14) rfl), by decide +kernel, by decide +kernel, by decide +kernel⟩
theorem mv_X12_goesOnNames : ik_MV yX12_goesOnNames := ⟨ik_in8 (List.mem_of_getElem? (i := 94) rfl), ik_inS (List.mem_of_getElem? (i := 88) (by decide +kernel))⟩
theorem ml_X12_447 : Cond.methodLink RX12 447 yX12_fills ∈ lw_tbl := ik_in8 (List.mem_of_getElem? (i := 80) rfl)
theorem mf_X12_fills : ik_MF yX12_fills cX12_fills 7 (none) 1 := ⟨ik_in8 (List.mem_of_getElem? (i := 83) rfl), ik_in1 (List.mem_of_getElem? (i := 14) rfl), by decide +kernel, by decide +kernel, by decide +kernel⟩
theorem mv_X12_fills : ik_MV yX12_fills := ⟨ik_in8 (List.mem_of_getElem? (i := 82) rfl), ik_inS (List.mem_of_getElem? (i := 85) (by decide +kernel))⟩
theorem fl_X12_429 : ik_FL RX12 429 12 67 := ⟨RX12, TX12, 77, tyX12, rfl, by decide, inX12, tyX12_ok, nmX12, rfl, ik_in6 (List.mem_of_getElem? (i := 115) rfl)⟩
theorem ml_X12_450 : Cond.methodLink RX12 450 yX12_mayOf ∈ lw_tbl := ik_in8 (List.mem_of_getElem? (i := 100) rfl)
theorem mf_X12_mayOf : ik_MF yX12_mayOf cX12_mayOf 4 (some .int) 1 := ⟨ik_in8 (List.mem_of_getElem? (i := 103) rfl), ik_in1 (List.mem_of_getElem? (i := 14) rfl), by decide +kernel, by decide +kernel, by decide +kernel⟩
theorem mv_X12_mayOf : ik_MV yX12_mayOf := ⟨ik_in8 (List.mem_of_getElem? (i := 102) rfl), ik_inS (List.mem_of_getElem? (i := 89) (by decide +kernel))⟩
theorem fl_X12_432 : ik_FL RX12 432 12 69 := ⟨RX12, TX12, 77, tyX12, rfl, by decide, inX12, tyX12_ok, nmX12, rfl, ik_in6 (List.mem_of_getElem? (i := 117) rfl)⟩
theorem kc_X12_453 : Cond.constantLong RX12 453 (24) ∈ lw_tbl := ik_in8 (List.mem_of_getElem? (i := 116) rfl)
theorem fl_X12_148 : ik_FL RX12 148 12 71 := ⟨RX12, TX12, 77, tyX12, rfl, by decide, inX12, tyX12_ok, nmX12, rfl, ik_in6 (List.mem_of_getElem? (i := 119) rfl)⟩
theorem ml_X12_455 : Cond.methodLink RX12 455 yX12_habits ∈ lw_tbl := ik_in8 (List.mem_of_getElem? (i := 117) rfl)
theorem mf_X12_habits : ik_MF yX12_habits cX12_habits 7 (none) 0 := ⟨ik_in8 (List.mem_of_getElem? (i := 120) rfl), ik_in1 (List.mem_of_getElem? (i := 14) rfl), by decide +kernel, by decide +kernel, by decide +kernel⟩
theorem mv_X12_habits : ik_MV yX12_habits := ⟨ik_in8 (List.mem_of_getElem? (i := 119) rfl), ik_inS (List.mem_of_getElem? (i := 90) (by decide +kernel))⟩
theorem ml_X12_458 : Cond.methodLink RX12 458 yX12_haveAll ∈ lw_tbl := ik_in8 (List.mem_of_getElem? (i := 121) rfl)
theorem mf_X12_haveAll : ik_MF yX12_haveAll cX12_haveAll 6 (some .boolean) 2 := ⟨ik_in8 (List.mem_of_getElem? (i := 124) rfl), ik_in1 (List.mem_of_getElem? (i := 14) rfl), by decide +kernel, by decide +kernel, by decide +kernel⟩
theorem mv_X12_haveAll : ik_MV yX12_haveAll := ⟨ik_in8 (List.mem_of_getElem? (i := 123) rfl), ik_inS (List.mem_of_getElem? (i := 91) (by decide +kernel))⟩
theorem kc_X12_467 : Cond.constantLong RX12 467 (1000) ∈ lw_tbl := ik_in8 (List.mem_of_getElem? (i := 129) rfl)
theorem fw_X12_461 : ik_FW RX12 461 12 68 0 := ⟨RX12, TX12, 77, tyX12, rfl, by decide, inX12, tyX12_ok, nmX12, rfl, ik_in6 (List.mem_of_getElem? (i := 116) rfl), rfl, rfl⟩
theorem ml_X12_464 : Cond.methodLink RX12 464 yX12_sizeOf ∈ lw_tbl := ik_in8 (List.mem_of_getElem? (i := 134) rfl)
theorem mf_X12_sizeOf : ik_MF yX12_sizeOf cX12_sizeOf 3 (some .int) 1 := ⟨ik_in8 (List.mem_of_getElem? (i := 136) rfl), ik_in1 (List.mem_of_getElem? (i := 14) rfl), by decide +kernel, by decide +kernel, by decide +kernel⟩
theorem ms_X12_sizeOf : Cond.static yX12_sizeOf ∈ lw_tbl := ik_in8 (List.mem_of_getElem? (i := 135) rfl)
theorem ml_X12_469 : Cond.methodLink RX12 469 yX12_says ∈ lw_tbl := ik_in8 (List.mem_of_getElem? (i := 130) rfl)
theorem mf_X12_says : ik_MF yX12_says cX12_says 8 (some .int) 2 := ⟨ik_in8 (List.mem_of_getElem? (i := 133) rfl), ik_in1 (List.mem_of_getElem? (i := 14) rfl), by decide +kernel, by decide +kernel, by decide +kernel⟩
theorem mv_X12_says : ik_MV yX12_says := ⟨ik_in8 (List.mem_of_getElem? (i := 132) rfl), ik_inS (List.mem_of_getElem? (i := 92) (by decide +kernel))⟩
theorem fl_X12_461 : ik_FL RX12 461 12 68 := ⟨RX12, TX12, 77, tyX12, rfl, by decide, inX12, tyX12_ok, nmX12, rfl, ik_in6 (List.mem_of_getElem? (i := 116) rfl)⟩
theorem fl_X12_474 : ik_FL RX12 474 12 9 := ⟨RX12, TX12, 77, tyX12, rfl, by decide, inX12, tyX12_ok, nmX12, rfl, ik_in6 (List.mem_of_getElem? (i := 57) rfl)⟩
theorem kc_X12_472 : Cond.constantLong RX12 472 (9999) ∈ lw_tbl := ik_in8 (List.mem_of_getElem? (i := 144) rfl)
theorem ml_X12_477 : Cond.methodLink RX12 477 yX12_isDay ∈ lw_tbl := ik_in8 (List.mem_of_getElem? (i := 141) rfl)
theorem mf_X12_isDay : ik_MF yX12_isDay cX12_isDay 1 (some .boolean) 1 := ⟨ik_in8 (List.mem_of_getElem? (i := 143) rfl), ik_in1 (List.mem_of_getElem? (i := 14) rfl), by decide +kernel, by decide +kernel, by decide +kernel⟩
theorem ms_X12_isDay : Cond.static yX12_isDay ∈ lw_tbl := ik_in8 (List.mem_of_getElem? (i := 142) rfl)
theorem fl_X12_151 : ik_FL RX12 151 12 72 := ⟨RX12, TX12, 77, tyX12, rfl, by decide, inX12, tyX12_ok, nmX12, rfl, ik_in6 (List.mem_of_getElem? (i := 120) rfl)⟩
theorem fl_X12_154 : ik_FL RX12 154 12 73 := ⟨RX12, TX12, 77, tyX12, rfl, by decide, inX12, tyX12_ok, nmX12, rfl, ik_in6 (List.mem_of_getElem? (i := 121) rfl)⟩
theorem fl_X12_157 : ik_FL RX12 157 12 74 := ⟨RX12, TX12, 77, tyX12, rfl, by decide, inX12, tyX12_ok, nmX12, rfl, ik_in6 (List.mem_of_getElem? (i := 122) rfl)⟩
theorem fl_X12_160 : ik_FL RX12 160 12 75 := ⟨RX12, TX12, 77, tyX12, rfl, by decide, inX12, tyX12_ok, nmX12, rfl, ik_in6 (List.mem_of_getElem? (i := 123) rfl)⟩
theorem fw_X12_474 : ik_FW RX12 474 12 9 0 := ⟨RX12, TX12, 77, tyX12, rfl, by decide, inX12, tyX12_ok, nmX12, rfl, ik_in6 (List.mem_of_getElem? (i := 57) rfl), rfl, rfl⟩
theorem ml_X12_480 : Cond.methodLink RX12 480 yX12_openOf ∈ lw_tbl := ik_in8 (List.mem_of_getElem? (i := 149) rfl)
theorem mf_X12_openOf : ik_MF yX12_openOf cX12_openOf 5 (some .int) 2 := ⟨ik_in8 (List.mem_of_getElem? (i := 152) rfl), ik_in1 (List.mem_of_getElem? (i := 14) rfl), by decide +kernel, by decide +kernel, by decide +kernel⟩
theorem mv_X12_openOf : ik_MV yX12_openOf := ⟨ik_in8 (List.mem_of_getElem? (i := 151) rfl), ik_inS (List.mem_of_getElem? (i := 93) (by decide +kernel))⟩
theorem ml_X12_483 : Cond.methodLink RX12 483 yX12_isCopy ∈ lw_tbl := ik_in8 (List.mem_of_getElem? (i := 157) rfl)
theorem mf_X12_isCopy : ik_MF yX12_isCopy cX12_isCopy 2 (some .boolean) 1 := ⟨ik_in8 (List.mem_of_getElem? (i := 160) rfl), ik_in1 (List.mem_of_getElem? (i := 14) rfl), by decide +kernel, by decide +kernel, by decide +kernel⟩
theorem mv_X12_isCopy : ik_MV yX12_isCopy := ⟨ik_in8 (List.mem_of_getElem? (i := 159) rfl), ik_inS (List.mem_of_getElem? (i := 94) (by decide +kernel))⟩
theorem ml_X12_486 : Cond.methodLink RX12 486 yX12_hasCopy ∈ lw_tbl := ik_in8 (List.mem_of_getElem? (i := 173) rfl)
theorem mf_X12_hasCopy : ik_MF yX12_hasCopy cX12_hasCopy 4 (some .boolean) 2 := ⟨ik_in8 (List.mem_of_getElem? (i := 176) rfl), ik_in1 (List.mem_of_getElem? (i := 14) rfl), by decide +kernel, by decide +kernel, by decide +kernel⟩
theorem mv_X12_hasCopy : ik_MV yX12_hasCopy := ⟨ik_in8 (List.mem_of_getElem? (i := 175) rfl), ik_inS (List.mem_of_getElem? (i := 95) (by decide +kernel))⟩
theorem ml_X12_489 : Cond.methodLink RX12 489 yX12_coversOf ∈ lw_tbl := ik_in8 (List.mem_of_getElem? (i := 177) rfl)
theorem mf_X12_coversOf : ik_MF yX12_coversOf cX12_coversOf 5 (some .int) 2 := ⟨ik_in8 (List.mem_of_getElem? (i := 180) rfl), ik_in1 (List.mem_of_getElem? (i := 14) rfl), by decide +kernel, by decide +kernel, by decide +kernel⟩
theorem mv_X12_coversOf : ik_MV yX12_coversOf := ⟨ik_in8 (List.mem_of_getElem? (i := 179) rfl), ik_inS (List.mem_of_getElem? (i := 96) (by decide +kernel))⟩
theorem kc_X12_492 : Cond.constantLong RX12 492 (40) ∈ lw_tbl := ik_in8 (List.mem_of_getElem? (i := 185) rfl)
theorem fl_X12_163 : ik_FL RX12 163 12 76 := ⟨RX12, TX12, 77, tyX12, rfl, by decide, inX12, tyX12_ok, nmX12, rfl, ik_in6 (List.mem_of_getElem? (i := 124) rfl)⟩
theorem fw_X12_494 : ik_FW RX12 494 12 10 0 := ⟨RX12, TX12, 77, tyX12, rfl, by decide, inX12, tyX12_ok, nmX12, rfl, ik_in6 (List.mem_of_getElem? (i := 58) rfl), rfl, rfl⟩
theorem ml_X12_497 : Cond.methodLink RX12 497 yX12_numberAt ∈ lw_tbl := ik_in8 (List.mem_of_getElem? (i := 194) rfl)
theorem mf_X12_numberAt : ik_MF yX12_numberAt cX12_numberAt 4 (some .int) 1 := ⟨ik_in8 (List.mem_of_getElem? (i := 197) rfl), ik_in1 (List.mem_of_getElem? (i := 14) rfl), by decide +kernel, by decide +kernel, by decide +kernel⟩
theorem mv_X12_numberAt : ik_MV yX12_numberAt := ⟨ik_in8 (List.mem_of_getElem? (i := 196) rfl), ik_inS (List.mem_of_getElem? (i := 97) (by decide +kernel))⟩
theorem kc_X12_500 : Cond.constantLong RX12 500 (30) ∈ lw_tbl := ik_in8 (List.mem_of_getElem? (i := 202) rfl)
theorem ml_X12_502 : Cond.methodLink RX12 502 yX12_linesOf ∈ lw_tbl := ik_in8 (List.mem_of_getElem? (i := 203) rfl)
theorem mf_X12_linesOf : ik_MF yX12_linesOf cX12_linesOf 4 (some .int) 1 := ⟨ik_in8 (List.mem_of_getElem? (i := 206) rfl), ik_in1 (List.mem_of_getElem? (i := 14) rfl), by decide +kernel, by decide +kernel, by decide +kernel⟩
theorem mv_X12_linesOf : ik_MV yX12_linesOf := ⟨ik_in8 (List.mem_of_getElem? (i := 205) rfl), ik_inS (List.mem_of_getElem? (i := 98) (by decide +kernel))⟩
theorem fl_X12_494 : ik_FL RX12 494 12 10 := ⟨RX12, TX12, 77, tyX12, rfl, by decide, inX12, tyX12_ok, nmX12, rfl, ik_in6 (List.mem_of_getElem? (i := 58) rfl)⟩
end
section
abbrev scX11_within : ik_SC := (wdX, cX11_within, 3, RX11, [], 0, some .boolean)
set_option maxRecDepth 100000 in
def bX11_within : SP scX11_within := (pRet 3 16 (eIte 10 14 15 (cAnd 5 (cCmp 3 (eLoc 0) (eLoc 1)) (cCmp 5 (eLoc 0) (eLoc 2))) (eLit 1) (eLit 0)))
set_option maxRecDepth 100000 in
def MX11_within : MP wdX yX11_within cX11_within 3 (some .boolean) 0 [.inl 0, .inl 0, .inl 0] := mkM scX11_within yX11_within [.inl 0, .inl 0, .inl 0] bX11_within (by decide +kernel) rfl rfl (by decide) (by decide +kernel)
abbrev scX4_setWide : ik_SC := (wdX, cX4_setWide, 3, RX4, [(0, 3)], 0, none)
set_option maxRecDepth 100000 in
def bX4_setWide : SP scX4_setWide := (pSeq (pIf 10 17 17 (cAnd 4 (cCmp0 3 (eLoc 1)) (cCmp 2 (eLoc 1) (eLit 27))) (pAst 0 27 (rFld (rLoc 0 3) 11 4 0 4 fl_X4_11) (eLoc 1) (eLoc 2)) pSkip) (pRetV 18))
set_option maxRecDepth 100000 in
def MX4_setWide : MP wdX yX4_setWide cX4_setWide 3 (none) 0 [.inr 3, .inl 0, .inl 0] := mkM scX4_setWide yX4_setWide [.inr 3, .inl 0, .inl 0] bX4_setWide (by decide +kernel) rfl rfl (by decide) (by decide +kernel)
abbrev scX11_changed : ik_SC := (wdX, cX11_changed, 1, RX11, [(0, 0)], 0, none)
set_option maxRecDepth 100000 in
def bX11_changed : SP scX11_changed := (pSeq (pPut (rLoc 0 0) 309 11 13 3 fw_X11_309 (eLit 0)) (pRetV 6))
set_option maxRecDepth 100000 in
def MX11_changed : MP wdX yX11_changed cX11_changed 1 (none) 0 [.inr 0] := mkM scX11_changed yX11_changed [.inr 0] bX11_changed (by decide +kernel) rfl rfl (by decide) (by decide +kernel)
abbrev scX11_width : ik_SC := (wdX, cX11_width, 3, RX11, [(0, 0)], 1, some .boolean)
set_option maxRecDepth 100000 in
def bX11_width : SP scX11_width := (pSeq (pIf 20 22 22 (cOr 10 (cNot (cCmp0 1 (eCall (.invokestatic 82) (lkS mf_X11_within ms_X11_within ml_X11_82 rfl (by decide) (by decide)) MX11_within (aI (eLoc 1) (aI (eLit 0) (aI (eLit 26) aNil)))))) (cNot (cCmp0 1 (eCall (.invokestatic 82) (lkS mf_X11_within ms_X11_within ml_X11_82 rfl (by decide) (by decide)) MX11_within (aI (eLoc 2) (aI (eLit 1) (aI (eLit 60) aNil))))))) (pRet 3 22 (eLit 0)) pSkip) (pSeq (pDo (.invokevirtual 86) (lkV (T := TX4) (N := 2) mf_X4_setWide mv_X4_setWide ml_X11_86 rfl rfl rfl (by decide) (by decide)) MX4_setWide (aR (rFld (rLoc 0 0) 19 11 1 3 fl_X11_19) (aI (eLoc 1) (aI (eLoc 2) aNil)))) (pSeq (pDo (.invokevirtual 90) (lkV (T := TX11) (N := 15) mf_X11_changed mv_X11_changed ml_X11_90 rfl rfl rfl (by decide) (by decide)) MX11_changed (aR (rLoc 0 0) aNil)) (pRet 3 37 (eLit 1)))))
set_option maxRecDepth 100000 in
def MX11_width : MP wdX yX11_width cX11_width 3 (some .boolean) 1 [.inr 0, .inl 0, .inl 0] := mkM scX11_width yX11_width [.inr 0, .inl 0, .inl 0] bX11_width (by decide +kernel) rfl rfl (by decide) (by decide +kernel)
abbrev scX4_setJoined : ik_SC := (wdX, cX4_setJoined, 4, RX4, [(0, 3)], 0, none)
set_option maxRecDepth 100000 in
def bX4_setJoined : SP scX4_setJoined := (pSeq (pIf 20 32 32 (cAnd 14 (cAnd 10 (cAnd 4 (cCmp0 3 (eLoc 1)) (cCmp 2 (eLoc 1) (eLit 27))) (cCmp0 3 (eLoc 2))) (cCmp 2 (eLoc 2) (eLit 27))) (pAst 0 729 (rFld (rLoc 0 3) 15 4 1 5 fl_X4_15) (eBin 0 (eBin 2 (eLoc 1) (eLit 27)) (eLoc 2)) (eLoc 3)) pSkip) (pRetV 33))
set_option maxRecDepth 100000 in
def MX4_setJoined : MP wdX yX4_setJoined cX4_setJoined 4 (none) 0 [.inr 3, .inl 0, .inl 0, .inl 0] := mkM scX4_setJoined yX4_setJoined [.inr 3, .inl 0, .inl 0, .inl 0] bX4_setJoined (by decide +kernel) rfl rfl (by decide) (by decide +kernel)
abbrev scX11_joined : ik_SC := (wdX, cX11_joined, 4, RX11, [(0, 0)], 1, some .boolean)
set_option maxRecDepth 100000 in
def bX11_joined : SP scX11_joined := (pSeq (pIf 31 33 33 (cOr 20 (cOr 10 (cNot (cCmp0 1 (eCall (.invokestatic 82) (lkS mf_X11_within ms_X11_within ml_X11_82 rfl (by decide) (by decide)) MX11_within (aI (eLoc 1) (aI (eLit 1) (aI (eLit 26) aNil)))))) (cNot (cCmp0 1 (eCall (.invokestatic 82) (lkS mf_X11_within ms_X11_within ml_X11_82 rfl (by decide) (by decide)) MX11_within (aI (eLoc 2) (aI (eLit 1) (aI (eLit 26) aNil))))))) (cNot (cCmp0 1 (eCall (.invokestatic 82) (lkS mf_X11_within ms_X11_within ml_X11_82 rfl (by decide) (by decide)) MX11_within (aI (eLoc 3) (aI (eLit (-20)) (aI (eLit 20) aNil))))))) (pRet 3 33 (eLit 0)) pSkip) (pSeq (pDo (.invokevirtual 93) (lkV (T := TX4) (N := 2) mf_X4_setJoined mv_X4_setJoined ml_X11_93 rfl rfl rfl (by decide) (by decide)) MX4_setJoined (aR (rFld (rLoc 0 0) 19 11 1 3 fl_X11_19) (aI (eLoc 1) (aI (eLoc 2) (aI (eLoc 3) aNil))))) (pSeq (pDo (.invokevirtual 90) (lkV (T := TX11) (N := 15) mf_X11_changed mv_X11_changed ml_X11_90 rfl rfl rfl (by decide) (by decide)) MX11_changed (aR (rLoc 0 0) aNil)) (pRet 3 49 (eLit 1)))))
set_option maxRecDepth 100000 in
def MX11_joined : MP wdX yX11_joined cX11_joined 4 (some .boolean) 1 [.inr 0, .inl 0, .inl 0, .inl 0] := mkM scX11_joined yX11_joined [.inr 0, .inl 0, .inl 0, .inl 0] bX11_joined (by decide +kernel) rfl rfl (by decide) (by decide +kernel)
abbrev scX9_takes : ik_SC := (wdX, cX9_takes, 2, RX9, [(0, 1)], 0, some .boolean)
set_option maxRecDepth 100000 in
def bX9_takes : SP scX9_takes := (pRet 3 18 (eIte 12 16 17 (cCmp 5 (eBin 0 (eFld (rLoc 0 1) 13 9 1 0 fl_X9_13) (eLoc 1)) (eLit 400)) (eLit 1) (eLit 0)))
set_option maxRecDepth 100000 in
def MX9_takes : MP wdX yX9_takes cX9_takes 2 (some .boolean) 0 [.inr 1, .inl 0] := mkM scX9_takes yX9_takes [.inr 1, .inl 0] bX9_takes (by decide +kernel) rfl rfl (by decide) (by decide +kernel)
abbrev scX9_push : ik_SC := (wdX, cX9_push, 3, RX9, [(0, 1)], 0, none)
set_option maxRecDepth 100000 in
def bX9_push : SP scX9_push := (pSeq (pSeq (pSet 2 (eLit 24)) (pWh 17 49 49 (cAnd 7 (cCmp0 3 (eLoc 2)) (cCmp 2 (eFld (rLoc 0 1) 13 9 1 0 fl_X9_13) (eLit 400))) (pSeq (pSeq (pAst 0 400 (rFld (rLoc 0 1) 9 9 0 2 fl_X9_9) (eFld (rLoc 0 1) 13 9 1 0 fl_X9_13) (eBin 3 (eBin 7 (eLoc 1) (eLoc 2)) (eLit 255))) (pPutOp (rLoc 0 1) 13 9 1 0 fw_X9_13 (eLit 1))) (pInc 2 (-8))))) (pRetV 50))
set_option maxRecDepth 100000 in
def MX9_push : MP wdX yX9_push cX9_push 3 (none) 0 [.inr 1, .inl 0] := mkM scX9_push yX9_push [.inr 1, .inl 0] bX9_push (by decide +kernel) rfl rfl (by decide) (by decide +kernel)
abbrev scX9_length : ik_SC := (wdX, cX9_length, 1, RX9, [(0, 1)], 0, some .int)
set_option maxRecDepth 100000 in
def bX9_length : SP scX9_length := (pRet 0 5 (eFld (rLoc 0 1) 13 9 1 0 fl_X9_13))
set_option maxRecDepth 100000 in
def MX9_length : MP wdX yX9_length cX9_length 1 (some .int) 0 [.inr 1] := mkM scX9_length yX9_length [.inr 1] bX9_length (by decide +kernel) rfl rfl (by decide) (by decide +kernel)
abbrev scX11_feed : ik_SC := (wdX, cX11_feed, 6, RX11, [(0, 0)], 1, some .int)
set_option maxRecDepth 100000 in
def bX11_feed : SP scX11_feed := (pSeq (pIf 12 14 14 (cNot (cCmp0 1 (eCall (.invokevirtual 97) (lkV (T := TX9) (N := 2) mf_X9_takes mv_X9_takes ml_X11_97 rfl rfl rfl (by decide) (by decide)) MX9_takes (aR (rFld (rLoc 0 0) 10 11 0 1 fl_X11_10) (aI (eLit 20) aNil))))) (pRet 0 14 (eLit (-1))) pSkip) (pSeq (pDo (.invokevirtual 101) (lkV (T := TX9) (N := 2) mf_X9_push mv_X9_push ml_X11_101 rfl rfl rfl (by decide) (by decide)) MX9_push (aR (rFld (rLoc 0 0) 10 11 0 1 fl_X11_10) (aI (eLoc 1) aNil))) (pSeq (pDo (.invokevirtual 101) (lkV (T := TX9) (N := 2) mf_X9_push mv_X9_push ml_X11_101 rfl rfl rfl (by decide) (by decide)) MX9_push (aR (rFld (rLoc 0 0) 10 11 0 1 fl_X11_10) (aI (eLoc 2) aNil))) (pSeq (pDo (.invokevirtual 101) (lkV (T := TX9) (N := 2) mf_X9_push mv_X9_push ml_X11_101 rfl rfl rfl (by decide) (by decide)) MX9_push (aR (rFld (rLoc 0 0) 10 11 0 1 fl_X11_10) (aI (eLoc 3) aNil))) (pSeq (pDo (.invokevirtual 101) (lkV (T := TX9) (N := 2) mf_X9_push mv_X9_push ml_X11_101 rfl rfl rfl (by decide) (by decide)) MX9_push (aR (rFld (rLoc 0 0) 10 11 0 1 fl_X11_10) (aI (eLoc 4) aNil))) (pSeq (pDo (.invokevirtual 101) (lkV (T := TX9) (N := 2) mf_X9_push mv_X9_push ml_X11_101 rfl rfl rfl (by decide) (by decide)) MX9_push (aR (rFld (rLoc 0 0) 10 11 0 1 fl_X11_10) (aI (eLoc 5) aNil))) (pRet 0 64 (eCall (.invokevirtual 105) (lkV (T := TX9) (N := 2) mf_X9_length mv_X9_length ml_X11_105 rfl rfl rfl (by decide) (by decide)) MX9_length (aR (rFld (rLoc 0 0) 10 11 0 1 fl_X11_10) aNil)))))))))
set_option maxRecDepth 100000 in
def MX11_feed : MP wdX yX11_feed cX11_feed 6 (some .int) 1 [.inr 0, .inl 0, .inl 0, .inl 0, .inl 0, .inl 0] := mkM scX11_feed yX11_feed [.inr 0, .inl 0, .inl 0, .inl 0, .inl 0, .inl 0] bX11_feed (by decide +kernel) rfl rfl (by decide) (by decide +kernel)
abbrev scX6_full : ik_SC := (wdX, cX6_full, 1, RX6, [(0, 6)], 0, some .boolean)
set_option maxRecDepth 100000 in
def bX6_full : SP scX6_full := (pRet 3 15 (eIte 9 13 14 (cCmp 3 (eFld (rLoc 0 6) 36 6 6 0 fl_X6_36) (eLit 24)) (eLit 1) (eLit 0)))
set_option maxRecDepth 100000 in
def MX6_full : MP wdX yX6_full cX6_full 1 (some .boolean) 0 [.inr 6] := mkM scX6_full yX6_full [.inr 6] bX6_full (by decide +kernel) rfl rfl (by decide) (by decide +kernel)
abbrev scX10_stands_7 : ik_SC := (wdX, cX10_stands, 2, RX10, [(0, 7)], 0, some .boolean)
set_option maxRecDepth 100000 in
def bX10_stands_7 : SP scX10_stands_7 := (pRet 3 18 (eIte 12 16 17 (cAnd 4 (cCmp0 3 (eLoc 1)) (cCmp 2 (eLoc 1) (eFld (rLoc 0 7) 15 10 0 0 fl_X10_15))) (eLit 1) (eLit 0)))
set_option maxRecDepth 100000 in
def MX10_stands_7 : MP wdX yX10_stands cX10_stands 2 (some .boolean) 0 [.inr 7, .inl 0] := mkM scX10_stands_7 yX10_stands [.inr 7, .inl 0] bX10_stands_7 (by decide +kernel) rfl rfl (by decide) (by decide +kernel)
abbrev scX10_wipe_7 : ik_SC := (wdX, cX10_wipe, 2, RX10, [(0, 7)], 1, none)
set_option maxRecDepth 100000 in
def bX10_wipe_7 : SP scX10_wipe_7 := (pSeq (pIf 8 15 15 (cCmp0 1 (eCall (.invokevirtual 28) (lkV (T := TX10) (N := 3) mf_X10_stands mv_X10_stands ml_X10_28 rfl rfl rfl (by decide) (by decide)) MX10_stands_7 (aR (rLoc 0 7) (aI (eLoc 1) aNil)))) (pAst 0 24 (rFld (rLoc 0 7) 25 10 2 9 fl_X10_25) (eLoc 1) (eLit 0)) pSkip) (pRetV 16))
set_option maxRecDepth 100000 in
def MX10_wipe_7 : MP wdX yX10_wipe cX10_wipe 2 (none) 1 [.inr 7, .inl 0] := mkM scX10_wipe_7 yX10_wipe [.inr 7, .inl 0] bX10_wipe_7 (by decide +kernel) rfl rfl (by decide) (by decide +kernel)
abbrev scX9_at : ik_SC := (wdX, cX9_at, 2, RX9, [(0, 1)], 0, some .int)
set_option maxRecDepth 100000 in
def bX9_at : SP scX9_at := (pRet 0 30 (eIte 19 28 29 (cAnd 12 (cAnd 4 (cCmp0 3 (eLoc 1)) (cCmp 2 (eLoc 1) (eFld (rLoc 0 1) 13 9 1 0 fl_X9_13))) (cCmp 2 (eLoc 1) (eLit 400))) (eArr 0 400 (rFld (rLoc 0 1) 9 9 0 2 fl_X9_9) (eLoc 1)) (eLit 0)))
set_option maxRecDepth 100000 in
def MX9_at : MP wdX yX9_at cX9_at 2 (some .int) 0 [.inr 1, .inl 0] := mkM scX9_at yX9_at [.inr 1, .inl 0] bX9_at (by decide +kernel) rfl rfl (by decide) (by decide +kernel)
abbrev scX11_isLetter : ik_SC := (wdX, cX11_isLetter, 1, RX11, [], 0, some .boolean)
set_option maxRecDepth 100000 in
def bX11_isLetter : SP scX11_isLetter := (pRet 3 18 (eIte 12 16 17 (cAnd 6 (cCmp 3 (eLoc 0) (eLit 97)) (cCmp 5 (eLoc 0) (eLit 122))) (eLit 1) (eLit 0)))
set_option maxRecDepth 100000 in
def MX11_isLetter : MP wdX yX11_isLetter cX11_isLetter 1 (some .boolean) 0 [.inl 0] := mkM scX11_isLetter yX11_isLetter [.inl 0] bX11_isLetter (by decide +kernel) rfl rfl (by decide) (by decide +kernel)
abbrev scX10_grow_7 : ik_SC := (wdX, cX10_grow, 3, RX10, [(0, 7)], 1, some .boolean)
set_option maxRecDepth 100000 in
def bX10_grow_7 : SP scX10_grow_7 := (pSeq (pIf 28 30 30 (cOr 17 (cOr 8 (cNot (cCmp0 1 (eCall (.invokevirtual 28) (lkV (T := TX10) (N := 3) mf_X10_stands mv_X10_stands ml_X10_28 rfl rfl rfl (by decide) (by decide)) MX10_stands_7 (aR (rLoc 0 7) (aI (eLoc 1) aNil))))) (cCmp0 2 (eArr 0 24 (rFld (rLoc 0 7) 25 10 2 9 fl_X10_25) (eLoc 1)))) (cCmp 3 (eArr 0 24 (rFld (rLoc 0 7) 25 10 2 9 fl_X10_25) (eLoc 1)) (eLit 12))) (pRet 3 30 (eLit 0)) pSkip) (pSeq (pAst 0 288 (rFld (rLoc 0 7) 21 10 1 8 fl_X10_21) (eBin 0 (eBin 2 (eLoc 1) (eLit 12)) (eArr 0 24 (rFld (rLoc 0 7) 25 10 2 9 fl_X10_25) (eLoc 1))) (eLoc 2)) (pSeq (pAop 24 0 (rFld (rLoc 0 7) 25 10 2 9 fl_X10_25) (eLoc 1) (eLit 1)) (pRet 3 59 (eLit 1)))))
set_option maxRecDepth 100000 in
def MX10_grow_7 : MP wdX yX10_grow cX10_grow 3 (some .boolean) 1 [.inr 7, .inl 0, .inl 0] := mkM scX10_grow_7 yX10_grow [.inr 7, .inl 0, .inl 0] bX10_grow_7 (by decide +kernel) rfl rfl (by decide) (by decide +kernel)
abbrev scX10_letter_7 : ik_SC := (wdX, cX10_letter, 4, RX10, [(0, 7)], 0, some .int)
set_option maxRecDepth 100000 in
def bX10_letter_7 : SP scX10_letter_7 := (pSeq (pSet 3 (eIte 22 26 27 (cAnd 16 (cAnd 12 (cAnd 4 (cCmp0 3 (eLoc 1)) (cCmp 2 (eLoc 1) (eFld (rLoc 0 7) 15 10 0 0 fl_X10_15))) (cCmp0 3 (eLoc 2))) (cCmp 2 (eLoc 2) (eLit 12))) (eLit 1) (eLit 0))) (pRet 0 58 (eIte 42 56 57 (cAnd 32 (cCmp0 1 (eLoc 3)) (cCmp 2 (eLoc 2) (eArr 0 24 (rFld (rLoc 0 7) 25 10 2 9 fl_X10_25) (eLoc 1)))) (eArr 0 288 (rFld (rLoc 0 7) 21 10 1 8 fl_X10_21) (eBin 0 (eBin 2 (eLoc 1) (eLit 12)) (eLoc 2))) (eLit 0))))
set_option maxRecDepth 100000 in
def MX10_letter_7 : MP wdX yX10_letter cX10_letter 4 (some .int) 0 [.inr 7, .inl 0, .inl 0] := mkM scX10_letter_7 yX10_letter [.inr 7, .inl 0, .inl 0] bX10_letter_7 (by decide +kernel) rfl rfl (by decide) (by decide +kernel)
abbrev scX10_compare_7 : ik_SC := (wdX, cX10_compare, 5, RX10, [(0, 7)], 1, some .int)
set_option maxRecDepth 100000 in
def bX10_compare_7 : SP scX10_compare_7 := (pSeq (pSeq (pSet 3 (eLit 0)) (pWh 8 37 37 (cCmp 2 (eLoc 3) (eLit 12)) (pSeq (pSeq (pSet 4 (eBin 1 (eCall (.invokevirtual 36) (lkV (T := TX10) (N := 3) mf_X10_letter mv_X10_letter ml_X10_36 rfl rfl rfl (by decide) (by decide)) MX10_letter_7 (aR (rLoc 0 7) (aI (eLoc 1) (aI (eLoc 3) aNil)))) (eCall (.invokevirtual 36) (lkV (T := TX10) (N := 3) mf_X10_letter mv_X10_letter ml_X10_36 rfl rfl rfl (by decide) (by decide)) MX10_letter_7 (aR (rLoc 0 7) (aI (eLoc 2) (aI (eLoc 3) aNil)))))) (pIf 28 31 31 (cCmp0 1 (eLoc 4)) (pRet 0 31 (eLoc 4)) pSkip)) (pInc 3 1)))) (pRet 0 39 (eLit 0)))
set_option maxRecDepth 100000 in
def MX10_compare_7 : MP wdX yX10_compare cX10_compare 5 (some .int) 1 [.inr 7, .inl 0, .inl 0] := mkM scX10_compare_7 yX10_compare [.inr 7, .inl 0, .inl 0] bX10_compare_7 (by decide +kernel) rfl rfl (by decide) (by decide +kernel)
abbrev scX6_read : ik_SC := (wdX, cX6_read, 5, RX6, [(0, 6), (1, 1)], 2, some .boolean)
set_option maxRecDepth 100000 in
def bX6_read : SP scX6_read := (pSeq (pDo (.invokevirtual 40) (lkV (T := TX10) (N := 3) mf_X10_wipe mv_X10_wipe ml_X6_40 rfl rfl rfl (by decide) (by decide)) MX10_wipe_7 (aR (rFld (rLoc 0 6) 14 6 0 7 fl_X6_14) (aI (eFld (rLoc 0 6) 36 6 6 0 fl_X6_36) aNil))) (pSeq (pSeq (pSet 3 (eLit 0)) (pWh 18 62 62 (cCmp 2 (eLoc 3) (eLoc 2)) (pSeq (pSeq (pSet 4 (eCall (.invokevirtual 43) (lkV (T := TX9) (N := 2) mf_X9_at mv_X9_at ml_X6_43 rfl rfl rfl (by decide) (by decide)) MX9_at (aR (rLoc 1 1) (aI (eLoc 3) aNil)))) (pIf 54 56 56 (cOr 33 (cNot (cCmp0 1 (eCall (.invokestatic 49) (lkN mf_X11_isLetter ms_X11_isLetter ml_X6_49 rfl (by decide) (by decide)) MX11_isLetter (aI (eLoc 4) aNil)))) (cNot (cCmp0 1 (eCall (.invokevirtual 53) (lkV (T := TX10) (N := 3) mf_X10_grow mv_X10_grow ml_X6_53 rfl rfl rfl (by decide) (by decide)) MX10_grow_7 (aR (rFld (rLoc 0 6) 14 6 0 7 fl_X6_14) (aI (eFld (rLoc 0 6) 36 6 6 0 fl_X6_36) (aI (eBin 0 (eBin 1 (eLoc 4) (eLit 97)) (eLit 1)) aNil))))))) (pRet 3 56 (eLit 0)) pSkip)) (pInc 3 1)))) (pSeq (pSeq (pSet 3 (eLit 0)) (pWh 72 95 95 (cCmp 2 (eLoc 3) (eFld (rLoc 0 6) 36 6 6 0 fl_X6_36)) (pSeq (pIf 87 89 89 (cCmp0 0 (eCall (.invokevirtual 57) (lkV (T := TX10) (N := 3) mf_X10_compare mv_X10_compare ml_X6_57 rfl rfl rfl (by decide) (by decide)) MX10_compare_7 (aR (rFld (rLoc 0 6) 14 6 0 7 fl_X6_14) (aI (eLoc 3) (aI (eFld (rLoc 0 6) 36 6 6 0 fl_X6_36) aNil))))) (pRet 3 89 (eLit 0)) pSkip) (pInc 3 1)))) (pRet 3 97 (eLit 1)))))
set_option maxRecDepth 100000 in
def MX6_read : MP wdX yX6_read cX6_read 5 (some .boolean) 2 [.inr 6, .inr 1, .inl 0] := mkM scX6_read yX6_read [.inr 6, .inr 1, .inl 0] bX6_read (by decide +kernel) rfl rfl (by decide) (by decide +kernel)
abbrev scX9_clear : ik_SC := (wdX, cX9_clear, 1, RX9, [(0, 1)], 0, none)
set_option maxRecDepth 100000 in
def bX9_clear : SP scX9_clear := (pSeq (pPut (rLoc 0 1) 13 9 1 0 fw_X9_13 (eLit 0)) (pRetV 6))
set_option maxRecDepth 100000 in
def MX9_clear : MP wdX yX9_clear cX9_clear 1 (none) 0 [.inr 1] := mkM scX9_clear yX9_clear [.inr 1] bX9_clear (by decide +kernel) rfl rfl (by decide) (by decide +kernel)
abbrev scX6_add : ik_SC := (wdX, cX6_add, 6, RX6, [(0, 6)], 2, some .int)
set_option maxRecDepth 100000 in
def bX6_add : SP scX6_add := (pSeq (pIf 14 16 16 (cOr 7 (cCmp0 1 (eCall (.invokevirtual 61) (lkV (T := TX6) (N := 7) mf_X6_full mv_X6_full ml_X6_61 rfl rfl rfl (by decide) (by decide)) MX6_full (aR (rLoc 0 6) aNil))) (cCmp0 2 (eFld (rLoc 0 6) 36 6 6 0 fl_X6_36))) (pRet 0 16 (eLit (-1))) pSkip) (pSeq (pAst 0 24 (rFld (rLoc 0 6) 20 6 1 10 fl_X6_20) (eFld (rLoc 0 6) 36 6 6 0 fl_X6_36) (eLoc 1)) (pSeq (pAst 0 24 (rFld (rLoc 0 6) 24 6 2 11 fl_X6_24) (eFld (rLoc 0 6) 36 6 6 0 fl_X6_36) (eLoc 2)) (pSeq (pAst 0 24 (rFld (rLoc 0 6) 27 6 3 12 fl_X6_27) (eFld (rLoc 0 6) 36 6 6 0 fl_X6_36) (eLoc 3)) (pSeq (pAst 0 24 (rFld (rLoc 0 6) 30 6 4 13 fl_X6_30) (eFld (rLoc 0 6) 36 6 6 0 fl_X6_36) (eLoc 4)) (pSeq (pAst 0 24 (rFld (rLoc 0 6) 33 6 5 14 fl_X6_33) (eFld (rLoc 0 6) 36 6 6 0 fl_X6_36) (eLit 0)) (pSeq (pSeq (pSet 5 (eLit 0)) (pWh 79 136 136 (cCmp 2 (eLoc 5) (eFld (rLoc 0 6) 36 6 6 0 fl_X6_36)) (pSeq (pIf 95 114 130 (cCmp0 2 (eCall (.invokevirtual 57) (lkV (T := TX10) (N := 3) mf_X10_compare mv_X10_compare ml_X6_57 rfl rfl rfl (by decide) (by decide)) MX10_compare_7 (aR (rFld (rLoc 0 6) 14 6 0 7 fl_X6_14) (aI (eLoc 5) (aI (eFld (rLoc 0 6) 36 6 6 0 fl_X6_36) aNil))))) (pAop 24 4 (rFld (rLoc 0 6) 33 6 5 14 fl_X6_33) (eFld (rLoc 0 6) 36 6 6 0 fl_X6_36) (eBin 6 (eLit 1) (eLoc 5))) (pAop 24 4 (rFld (rLoc 0 6) 33 6 5 14 fl_X6_33) (eLoc 5) (eBin 6 (eLit 1) (eFld (rLoc 0 6) 36 6 6 0 fl_X6_36)))) (pInc 5 1)))) (pSeq (pPutOp (rLoc 0 6) 36 6 6 0 fw_X6_36 (eLit 1)) (pRet 0 153 (eBin 1 (eFld (rLoc 0 6) 36 6 6 0 fl_X6_36) (eLit 1)))))))))))
set_option maxRecDepth 100000 in
def MX6_add : MP wdX yX6_add cX6_add 6 (some .int) 2 [.inr 6, .inl 0, .inl 0, .inl 0, .inl 0] := mkM scX6_add yX6_add [.inr 6, .inl 0, .inl 0, .inl 0, .inl 0] bX6_add (by decide +kernel) rfl rfl (by decide) (by decide +kernel)
abbrev scX11_name : ik_SC := (wdX, cX11_name, 7, RX11, [(0, 0)], 3, some .int)
set_option maxRecDepth 100000 in
def bX11_name : SP scX11_name := (pSeq (pIf 31 33 33 (cOr 20 (cOr 10 (cNot (cCmp0 1 (eCall (.invokestatic 82) (lkS mf_X11_within ms_X11_within ml_X11_82 rfl (by decide) (by decide)) MX11_within (aI (eLoc 1) (aI (eLit 1) (aI (eLit 12) aNil)))))) (cNot (cCmp0 1 (eCall (.invokestatic 82) (lkS mf_X11_within ms_X11_within ml_X11_82 rfl (by decide) (by decide)) MX11_within (aI (eLoc 2) (aI (eLit 0) (aI (eLit 7) aNil))))))) (cNot (cCmp0 1 (eCall (.invokestatic 82) (lkS mf_X11_within ms_X11_within ml_X11_82 rfl (by decide) (by decide)) MX11_within (aI (eLoc 3) (aI (eLit 0) (aI (eLit 199) aNil))))))) (pRet 0 33 (eLit (-1))) pSkip) (pSeq (pIf 56 58 58 (cOr 45 (cNot (cCmp0 1 (eCall (.invokestatic 82) (lkS mf_X11_within ms_X11_within ml_X11_82 rfl (by decide) (by decide)) MX11_within (aI (eLoc 4) (aI (eLoc 3) (aI (eLit 199) aNil)))))) (cNot (cCmp0 1 (eCall (.invokestatic 82) (lkS mf_X11_within ms_X11_within ml_X11_82 rfl (by decide) (by decide)) MX11_within (aI (eLoc 5) (aI (eLit 1) (aI (eLit 100) aNil))))))) (pRet 0 58 (eLit (-1))) pSkip) (pSeq (pIf 79 81 81 (cOr 68 (cCmp0 1 (eCall (.invokevirtual 109) (lkV (T := TX6) (N := 7) mf_X6_full mv_X6_full ml_X11_109 rfl rfl rfl (by decide) (by decide)) MX6_full (aR (rFld (rLoc 0 0) 26 11 2 6 fl_X11_26) aNil))) (cCmp 2 (eCall (.invokevirtual 105) (lkV (T := TX9) (N := 2) mf_X9_length mv_X9_length ml_X11_105 rfl rfl rfl (by decide) (by decide)) MX9_length (aR (rFld (rLoc 0 0) 10 11 0 1 fl_X11_10) aNil)) (eLoc 1))) (pRet 0 81 (eLit (-1))) pSkip) (pSeq (pSet 6 (eCall (.invokevirtual 113) (lkV (T := TX6) (N := 7) mf_X6_read mv_X6_read ml_X11_113 rfl rfl rfl (by decide) (by decide)) MX6_read (aR (rFld (rLoc 0 0) 26 11 2 6 fl_X11_26) (aR (rFld (rLoc 0 0) 10 11 0 1 fl_X11_10) (aI (eLoc 1) aNil))))) (pSeq (pDo (.invokevirtual 117) (lkV (T := TX9) (N := 2) mf_X9_clear mv_X9_clear ml_X11_117 rfl rfl rfl (by decide) (by decide)) MX9_clear (aR (rFld (rLoc 0 0) 10 11 0 1 fl_X11_10) aNil)) (pSeq (pIf 107 110 110 (cNot (cCmp0 1 (eLoc 6))) (pRet 0 110 (eLit (-2))) pSkip) (pSeq (pDo (.invokevirtual 90) (lkV (T := TX11) (N := 15) mf_X11_changed mv_X11_changed ml_X11_90 rfl rfl rfl (by decide) (by decide)) MX11_changed (aR (rLoc 0 0) aNil)) (pRet 0 128 (eCall (.invokevirtual 120) (lkV (T := TX6) (N := 7) mf_X6_add mv_X6_add ml_X11_120 rfl rfl rfl (by decide) (by decide)) MX6_add (aR (rFld (rLoc 0 0) 26 11 2 6 fl_X11_26) (aI (eLoc 2) (aI (eLoc 3) (aI (eLoc 4) (aI (eLoc 5) aNil))))))))))))))
set_option maxRecDepth 100000 in
def MX11_name : MP wdX yX11_name cX11_name 7 (some .int) 3 [.inr 0, .inl 0, .inl 0, .inl 0, .inl 0, .inl 0] := mkM scX11_name yX11_name [.inr 0, .inl 0, .inl 0, .inl 0, .inl 0, .inl 0] bX11_name (by decide +kernel) rfl rfl (by decide) (by decide +kernel)
abbrev scX6_has : ik_SC := (wdX, cX6_has, 2, RX6, [(0, 6)], 0, some .boolean)
set_option maxRecDepth 100000 in
def bX6_has : SP scX6_has := (pRet 3 24 (eIte 18 22 23 (cAnd 12 (cAnd 4 (cCmp0 3 (eLoc 1)) (cCmp 2 (eLoc 1) (eFld (rLoc 0 6) 36 6 6 0 fl_X6_36))) (cCmp 2 (eLoc 1) (eLit 24))) (eLit 1) (eLit 0)))
set_option maxRecDepth 100000 in
def MX6_has : MP wdX yX6_has cX6_has 2 (some .boolean) 0 [.inr 6, .inl 0] := mkM scX6_has yX6_has [.inr 6, .inl 0] bX6_has (by decide +kernel) rfl rfl (by decide) (by decide +kernel)
abbrev scX10_length_7 : ik_SC := (wdX, cX10_length, 2, RX10, [(0, 7)], 0, some .int)
set_option maxRecDepth 100000 in
def bX10_length_7 : SP scX10_length_7 := (pRet 0 23 (eIte 12 21 22 (cAnd 4 (cCmp0 3 (eLoc 1)) (cCmp 2 (eLoc 1) (eFld (rLoc 0 7) 15 10 0 0 fl_X10_15))) (eArr 0 24 (rFld (rLoc 0 7) 25 10 2 9 fl_X10_25) (eLoc 1)) (eLit 0)))
set_option maxRecDepth 100000 in
def MX10_length_7 : MP wdX yX10_length cX10_length 2 (some .int) 0 [.inr 7, .inl 0] := mkM scX10_length_7 yX10_length [.inr 7, .inl 0] bX10_length_7 (by decide +kernel) rfl rfl (by decide) (by decide +kernel)
abbrev scX4_wideOf : ik_SC := (wdX, cX4_wideOf, 2, RX4, [(0, 3)], 0, some .int)
set_option maxRecDepth 100000 in
def bX4_wideOf : SP scX4_wideOf := (pRet 0 21 (eIte 10 19 20 (cAnd 4 (cCmp0 3 (eLoc 1)) (cCmp 2 (eLoc 1) (eLit 27))) (eArr 0 27 (rFld (rLoc 0 3) 11 4 0 4 fl_X4_11) (eLoc 1)) (eLit 0)))
set_option maxRecDepth 100000 in
def MX4_wideOf : MP wdX yX4_wideOf cX4_wideOf 2 (some .int) 0 [.inr 3, .inl 0] := mkM scX4_wideOf yX4_wideOf [.inr 3, .inl 0] bX4_wideOf (by decide +kernel) rfl rfl (by decide) (by decide +kernel)
abbrev scX4_joinOf : ik_SC := (wdX, cX4_joinOf, 3, RX4, [(0, 3)], 0, some .int)
set_option maxRecDepth 100000 in
def bX4_joinOf : SP scX4_joinOf := (pRet 0 36 (eIte 20 34 35 (cAnd 14 (cAnd 10 (cAnd 4 (cCmp0 3 (eLoc 1)) (cCmp 2 (eLoc 1) (eLit 27))) (cCmp0 3 (eLoc 2))) (cCmp 2 (eLoc 2) (eLit 27))) (eArr 0 729 (rFld (rLoc 0 3) 15 4 1 5 fl_X4_15) (eBin 0 (eBin 2 (eLoc 1) (eLit 27)) (eLoc 2))) (eLit 0)))
set_option maxRecDepth 100000 in
def MX4_joinOf : MP wdX yX4_joinOf cX4_joinOf 3 (some .int) 0 [.inr 3, .inl 0, .inl 0] := mkM scX4_joinOf yX4_joinOf [.inr 3, .inl 0, .inl 0] bX4_joinOf (by decide +kernel) rfl rfl (by decide) (by decide +kernel)
abbrev scX10_wide_7 : ik_SC := (wdX, cX10_wide, 8, RX10, [(0, 7), (2, 3)], 1, some .int)
set_option maxRecDepth 100000 in
def bX10_wide_7 : SP scX10_wide_7 := (pSeq (pSet 3 (eLit 0)) (pSeq (pSet 4 (eLit 0)) (pSeq (pSet 5 (eCall (.invokevirtual 32) (lkV (T := TX10) (N := 3) mf_X10_length mv_X10_length ml_X10_32 rfl rfl rfl (by decide) (by decide)) MX10_length_7 (aR (rLoc 0 7) (aI (eLoc 1) aNil)))) (pSeq (pSeq (pSet 6 (eLit 0)) (pWh 22 59 59 (cCmp 2 (eLoc 6) (eLoc 5)) (pSeq (pSeq (pSet 7 (eCall (.invokevirtual 36) (lkV (T := TX10) (N := 3) mf_X10_letter mv_X10_letter ml_X10_36 rfl rfl rfl (by decide) (by decide)) MX10_letter_7 (aR (rLoc 0 7) (aI (eLoc 1) (aI (eLoc 6) aNil))))) (pSeq (pSet 3 (eBin 0 (eLoc 3) (eBin 0 (eCall (.invokevirtual 39) (lkV (T := TX4) (N := 2) mf_X4_wideOf mv_X4_wideOf ml_X10_39 rfl rfl rfl (by decide) (by decide)) MX4_wideOf (aR (rLoc 2 3) (aI (eLoc 7) aNil))) (eCall (.invokevirtual 44) (lkV (T := TX4) (N := 2) mf_X4_joinOf mv_X4_joinOf ml_X10_44 rfl rfl rfl (by decide) (by decide)) MX4_joinOf (aR (rLoc 2 3) (aI (eLoc 4) (aI (eLoc 7) aNil))))))) (pSet 4 (eLoc 7)))) (pInc 6 1)))) (pRet 0 61 (eLoc 3))))))
set_option maxRecDepth 100000 in
def MX10_wide_7 : MP wdX yX10_wide cX10_wide 8 (some .int) 1 [.inr 7, .inl 0, .inr 3] := mkM scX10_wide_7 yX10_wide [.inr 7, .inl 0, .inr 3] bX10_wide_7 (by decide +kernel) rfl rfl (by decide) (by decide +kernel)
abbrev scX6_wide : ik_SC := (wdX, cX6_wide, 3, RX6, [(0, 6), (2, 3)], 2, some .int)
set_option maxRecDepth 100000 in
def bX6_wide : SP scX6_wide := (pRet 0 10 (eCall (.invokevirtual 65) (lkV (T := TX10) (N := 3) mf_X10_wide mv_X10_wide ml_X6_65 rfl rfl rfl (by decide) (by decide)) MX10_wide_7 (aR (rFld (rLoc 0 6) 14 6 0 7 fl_X6_14) (aI (eLoc 1) (aR (rLoc 2 3) aNil)))))
set_option maxRecDepth 100000 in
def MX6_wide : MP wdX yX6_wide cX6_wide 3 (some .int) 2 [.inr 6, .inl 0, .inr 3] := mkM scX6_wide yX6_wide [.inr 6, .inl 0, .inr 3] bX6_wide (by decide +kernel) rfl rfl (by decide) (by decide +kernel)
abbrev scX11_wide : ik_SC := (wdX, cX11_wide, 2, RX11, [(0, 0)], 3, some .int)
set_option maxRecDepth 100000 in
def bX11_wide : SP scX11_wide := (pRet 0 28 (eIte 11 26 27 (cCmp0 1 (eCall (.invokevirtual 124) (lkV (T := TX6) (N := 7) mf_X6_has mv_X6_has ml_X11_124 rfl rfl rfl (by decide) (by decide)) MX6_has (aR (rFld (rLoc 0 0) 26 11 2 6 fl_X11_26) (aI (eLoc 1) aNil)))) (eCall (.invokevirtual 127) (lkV (T := TX6) (N := 7) mf_X6_wide mv_X6_wide ml_X11_127 rfl rfl rfl (by decide) (by decide)) MX6_wide (aR (rFld (rLoc 0 0) 26 11 2 6 fl_X11_26) (aI (eLoc 1) (aR (rFld (rLoc 0 0) 19 11 1 3 fl_X11_19) aNil)))) (eLit (-1))))
set_option maxRecDepth 100000 in
def MX11_wide : MP wdX yX11_wide cX11_wide 2 (some .int) 3 [.inr 0, .inl 0] := mkM scX11_wide yX11_wide [.inr 0, .inl 0] bX11_wide (by decide +kernel) rfl rfl (by decide) (by decide +kernel)
abbrev scX0_full : ik_SC := (wdX, cX0_full, 1, RX0, [(0, 15)], 0, some .boolean)
set_option maxRecDepth 100000 in
def bX0_full : SP scX0_full := (pRet 3 14 (eIte 8 12 13 (cCmp 3 (eFld (rLoc 0 15) 39 0 9 0 fl_X0_39) (eLit 4)) (eLit 1) (eLit 0)))
set_option maxRecDepth 100000 in
def MX0_full : MP wdX yX0_full cX0_full 1 (some .boolean) 0 [.inr 15] := mkM scX0_full yX0_full [.inr 15] bX0_full (by decide +kernel) rfl rfl (by decide) (by decide +kernel)
abbrev scX0_add : ik_SC := (wdX, cX0_add, 4, RX0, [(0, 15)], 1, some .int)
set_option maxRecDepth 100000 in
def bX0_add : SP scX0_add := (pSeq (pIf 14 16 16 (cOr 7 (cCmp0 1 (eCall (.invokevirtual 49) (lkV (T := TX0) (N := 12) mf_X0_full mv_X0_full ml_X0_49 rfl rfl rfl (by decide) (by decide)) MX0_full (aR (rLoc 0 15) aNil))) (cCmp0 2 (eFld (rLoc 0 15) 39 0 9 0 fl_X0_39))) (pRet 0 16 (eLit (-1))) pSkip) (pSeq (pAst 0 4 (rFld (rLoc 0 15) 9 0 0 16 fl_X0_9) (eFld (rLoc 0 15) 39 0 9 0 fl_X0_39) (eLoc 1)) (pSeq (pAst 0 4 (rFld (rLoc 0 15) 15 0 1 17 fl_X0_15) (eFld (rLoc 0 15) 39 0 9 0 fl_X0_39) (eLoc 2)) (pSeq (pAst 0 4 (rFld (rLoc 0 15) 18 0 2 18 fl_X0_18) (eFld (rLoc 0 15) 39 0 9 0 fl_X0_39) (eLoc 3)) (pSeq (pPutOp (rLoc 0 15) 39 0 9 0 fw_X0_39 (eLit 1)) (pRet 0 63 (eBin 1 (eFld (rLoc 0 15) 39 0 9 0 fl_X0_39) (eLit 1))))))))
set_option maxRecDepth 100000 in
def MX0_add : MP wdX yX0_add cX0_add 4 (some .int) 1 [.inr 15, .inl 0, .inl 0, .inl 0] := mkM scX0_add yX0_add [.inr 15, .inl 0, .inl 0, .inl 0] bX0_add (by decide +kernel) rfl rfl (by decide) (by decide +kernel)
abbrev scX11_bar : ik_SC := (wdX, cX11_bar, 4, RX11, [(0, 0)], 2, some .int)
set_option maxRecDepth 100000 in
def bX11_bar : SP scX11_bar := (pSeq (pIf 33 35 35 (cOr 22 (cOr 11 (cNot (cCmp0 1 (eCall (.invokestatic 82) (lkS mf_X11_within ms_X11_within ml_X11_82 rfl (by decide) (by decide)) MX11_within (aI (eLoc 1) (aI (eLit 1) (aI (eLit 3000) aNil)))))) (cNot (cCmp0 1 (eCall (.invokestatic 82) (lkS mf_X11_within ms_X11_within ml_X11_82 rfl (by decide) (by decide)) MX11_within (aI (eLoc 2) (aI (eLit (-1)) (aI (eLit 199) aNil))))))) (cNot (cCmp0 1 (eCall (.invokestatic 82) (lkS mf_X11_within ms_X11_within ml_X11_82 rfl (by decide) (by decide)) MX11_within (aI (eLoc 3) (aI (eLit 0) (aI (eLit 255) aNil))))))) (pRet 0 35 (eLit (-1))) pSkip) (pSeq (pIf 45 47 47 (cCmp0 1 (eCall (.invokevirtual 131) (lkV (T := TX0) (N := 12) mf_X0_full mv_X0_full ml_X11_131 rfl rfl rfl (by decide) (by decide)) MX0_full (aR (rFld (rLoc 0 0) 33 11 3 15 fl_X11_33) aNil))) (pRet 0 47 (eLit (-1))) pSkip) (pSeq (pDo (.invokevirtual 90) (lkV (T := TX11) (N := 15) mf_X11_changed mv_X11_changed ml_X11_90 rfl rfl rfl (by decide) (by decide)) MX11_changed (aR (rLoc 0 0) aNil)) (pRet 0 62 (eCall (.invokevirtual 132) (lkV (T := TX0) (N := 12) mf_X0_add mv_X0_add ml_X11_132 rfl rfl rfl (by decide) (by decide)) MX0_add (aR (rFld (rLoc 0 0) 33 11 3 15 fl_X11_33) (aI (eLoc 1) (aI (eLoc 2) (aI (eLoc 3) aNil)))))))))
set_option maxRecDepth 100000 in
def MX11_bar : MP wdX yX11_bar cX11_bar 4 (some .int) 2 [.inr 0, .inl 0, .inl 0, .inl 0] := mkM scX11_bar yX11_bar [.inr 0, .inl 0, .inl 0, .inl 0] bX11_bar (by decide +kernel) rfl rfl (by decide) (by decide +kernel)
abbrev scX8_full : ik_SC := (wdX, cX8_full, 1, RX8, [(0, 25)], 0, some .boolean)
set_option maxRecDepth 100000 in
def bX8_full : SP scX8_full := (pRet 3 15 (eIte 9 13 14 (cCmp 3 (eFld (rLoc 0 25) 40 8 7 0 fl_X8_40) (eLit 6)) (eLit 1) (eLit 0)))
set_option maxRecDepth 100000 in
def MX8_full : MP wdX yX8_full cX8_full 1 (some .boolean) 0 [.inr 25] := mkM scX8_full yX8_full [.inr 25] bX8_full (by decide +kernel) rfl rfl (by decide) (by decide +kernel)
abbrev scX0_count : ik_SC := (wdX, cX0_count, 1, RX0, [(0, 15)], 0, some .int)
set_option maxRecDepth 100000 in
def bX0_count : SP scX0_count := (pRet 0 5 (eFld (rLoc 0 15) 39 0 9 0 fl_X0_39))
set_option maxRecDepth 100000 in
def MX0_count : MP wdX yX0_count cX0_count 1 (some .int) 0 [.inr 15] := mkM scX0_count yX0_count [.inr 15] bX0_count (by decide +kernel) rfl rfl (by decide) (by decide +kernel)
abbrev scX11_isDigit : ik_SC := (wdX, cX11_isDigit, 1, RX11, [], 0, some .boolean)
set_option maxRecDepth 100000 in
def bX11_isDigit : SP scX11_isDigit := (pRet 3 18 (eIte 12 16 17 (cAnd 6 (cCmp 3 (eLoc 0) (eLit 48)) (cCmp 5 (eLoc 0) (eLit 57))) (eLit 1) (eLit 0)))
set_option maxRecDepth 100000 in
def MX11_isDigit : MP wdX yX11_isDigit cX11_isDigit 1 (some .boolean) 0 [.inl 0] := mkM scX11_isDigit yX11_isDigit [.inl 0] bX11_isDigit (by decide +kernel) rfl rfl (by decide) (by decide +kernel)
abbrev scX8_slot : ik_SC := (wdX, cX8_slot, 2, RX8, [], 0, some .int)
set_option maxRecDepth 100000 in
def bX8_slot : SP scX8_slot := (pRet 0 7 (eBin 0 (eBin 2 (eLoc 0) (eLit 24)) (eLoc 1)))
set_option maxRecDepth 100000 in
def MX8_slot : MP wdX yX8_slot cX8_slot 2 (some .int) 0 [.inl 0, .inl 0] := mkM scX8_slot yX8_slot [.inl 0, .inl 0] bX8_slot (by decide +kernel) rfl rfl (by decide) (by decide +kernel)
abbrev scX10_stands_26 : ik_SC := (wdX, cX10_stands, 2, RX10, [(0, 26)], 0, some .boolean)
set_option maxRecDepth 100000 in
def bX10_stands_26 : SP scX10_stands_26 := (pRet 3 18 (eIte 12 16 17 (cAnd 4 (cCmp0 3 (eLoc 1)) (cCmp 2 (eLoc 1) (eFld (rLoc 0 26) 15 10 0 0 fl_X10_15))) (eLit 1) (eLit 0)))
set_option maxRecDepth 100000 in
def MX10_stands_26 : MP wdX yX10_stands cX10_stands 2 (some .boolean) 0 [.inr 26, .inl 0] := mkM scX10_stands_26 yX10_stands [.inr 26, .inl 0] bX10_stands_26 (by decide +kernel) rfl rfl (by decide) (by decide +kernel)
abbrev scX10_wipe_26 : ik_SC := (wdX, cX10_wipe, 2, RX10, [(0, 26)], 1, none)
set_option maxRecDepth 100000 in
def bX10_wipe_26 : SP scX10_wipe_26 := (pSeq (pIf 8 15 15 (cCmp0 1 (eCall (.invokevirtual 28) (lkV (T := TX10) (N := 3) mf_X10_stands mv_X10_stands ml_X10_28 rfl rfl rfl (by decide) (by decide)) MX10_stands_26 (aR (rLoc 0 26) (aI (eLoc 1) aNil)))) (pAst 0 144 (rFld (rLoc 0 26) 25 10 2 28 fl_X10_25) (eLoc 1) (eLit 0)) pSkip) (pRetV 16))
set_option maxRecDepth 100000 in
def MX10_wipe_26 : MP wdX yX10_wipe cX10_wipe 2 (none) 1 [.inr 26, .inl 0] := mkM scX10_wipe_26 yX10_wipe [.inr 26, .inl 0] bX10_wipe_26 (by decide +kernel) rfl rfl (by decide) (by decide +kernel)
abbrev scX10_grow_26 : ik_SC := (wdX, cX10_grow, 3, RX10, [(0, 26)], 1, some .boolean)
set_option maxRecDepth 100000 in
def bX10_grow_26 : SP scX10_grow_26 := (pSeq (pIf 28 30 30 (cOr 17 (cOr 8 (cNot (cCmp0 1 (eCall (.invokevirtual 28) (lkV (T := TX10) (N := 3) mf_X10_stands mv_X10_stands ml_X10_28 rfl rfl rfl (by decide) (by decide)) MX10_stands_26 (aR (rLoc 0 26) (aI (eLoc 1) aNil))))) (cCmp0 2 (eArr 0 144 (rFld (rLoc 0 26) 25 10 2 28 fl_X10_25) (eLoc 1)))) (cCmp 3 (eArr 0 144 (rFld (rLoc 0 26) 25 10 2 28 fl_X10_25) (eLoc 1)) (eLit 12))) (pRet 3 30 (eLit 0)) pSkip) (pSeq (pAst 0 1728 (rFld (rLoc 0 26) 21 10 1 27 fl_X10_21) (eBin 0 (eBin 2 (eLoc 1) (eLit 12)) (eArr 0 144 (rFld (rLoc 0 26) 25 10 2 28 fl_X10_25) (eLoc 1))) (eLoc 2)) (pSeq (pAop 144 0 (rFld (rLoc 0 26) 25 10 2 28 fl_X10_25) (eLoc 1) (eLit 1)) (pRet 3 59 (eLit 1)))))
set_option maxRecDepth 100000 in
def MX10_grow_26 : MP wdX yX10_grow cX10_grow 3 (some .boolean) 1 [.inr 26, .inl 0, .inl 0] := mkM scX10_grow_26 yX10_grow [.inr 26, .inl 0, .inl 0] bX10_grow_26 (by decide +kernel) rfl rfl (by decide) (by decide +kernel)
abbrev scX8_beginToken : ik_SC := (wdX, cX8_beginToken, 5, RX8, [(0, 25)], 2, some .int)
set_option maxRecDepth 100000 in
def bX8_beginToken : SP scX8_beginToken := (pSeq (pIf 14 16 16 (cAnd 7 (cNot (cCmp0 1 (eCall (.invokestatic 57) (lkN mf_X11_isLetter ms_X11_isLetter ml_X8_57 rfl (by decide) (by decide)) MX11_isLetter (aI (eLoc 1) aNil)))) (cNot (cCmp0 1 (eCall (.invokestatic 69) (lkN mf_X11_isDigit ms_X11_isDigit ml_X8_69 rfl (by decide) (by decide)) MX11_isDigit (aI (eLoc 1) aNil))))) (pRet 0 16 (eLit 1)) pSkip) (pSeq (pIf 25 27 27 (cCmp 3 (eFld (rLoc 0 25) 44 8 8 0 fl_X8_44) (eLit 24)) (pRet 0 27 (eLit 4)) pSkip) (pSeq (pIf 42 44 44 (cAnd 34 (cCmp0 1 (eCall (.invokestatic 69) (lkN mf_X11_isDigit ms_X11_isDigit ml_X8_69 rfl (by decide) (by decide)) MX11_isDigit (aI (eLoc 1) aNil))) (cCmp 3 (eBin 1 (eLoc 1) (eLit 48)) (eLoc 3))) (pRet 0 44 (eLit 3)) pSkip) (pSeq (pSet 4 (eCall (.invokestatic 61) (lkS mf_X8_slot ms_X8_slot ml_X8_61 rfl (by decide) (by decide)) MX8_slot (aI (eFld (rLoc 0 25) 40 8 7 0 fl_X8_40) (aI (eFld (rLoc 0 25) 44 8 8 0 fl_X8_44) aNil)))) (pSeq (pIf 70 132 132 (cAnd 62 (cCmp0 3 (eLoc 4)) (cCmp 2 (eLoc 4) (eLit 144))) (pSeq (pDo (.invokevirtual 72) (lkV (T := TX10) (N := 3) mf_X10_wipe mv_X10_wipe ml_X8_72 rfl rfl rfl (by decide) (by decide)) MX10_wipe_26 (aR (rFld (rLoc 0 25) 16 8 0 26 fl_X8_16) (aI (eLoc 4) aNil))) (pSeq (pAst 0 144 (rFld (rLoc 0 25) 20 8 1 29 fl_X8_20) (eLoc 4) (eIte 92 99 100 (cCmp0 1 (eCall (.invokestatic 69) (lkN mf_X11_isDigit ms_X11_isDigit ml_X8_69 rfl (by decide) (by decide)) MX11_isDigit (aI (eLoc 1) aNil))) (eBin 1 (eLoc 1) (eLit 48)) (eLit (-1)))) (pSeq (pAst 3 144 (rFld (rLoc 0 25) 24 8 2 30 fl_X8_24) (eLoc 4) (eLoc 2)) (pIf 116 132 132 (cCmp0 1 (eCall (.invokestatic 57) (lkN mf_X11_isLetter ms_X11_isLetter ml_X8_57 rfl (by decide) (by decide)) MX11_isLetter (aI (eLoc 1) aNil))) (pPop (eCall (.invokevirtual 65) (lkV (T := TX10) (N := 3) mf_X10_grow mv_X10_grow ml_X8_65 rfl rfl rfl (by decide) (by decide)) MX10_grow_26 (aR (rFld (rLoc 0 25) 16 8 0 26 fl_X8_16) (aI (eLoc 4) (aI (eBin 0 (eBin 1 (eLoc 1) (eLit 97)) (eLit 1)) aNil))))) pSkip)))) pSkip) (pSeq (pPutOp (rLoc 0 25) 44 8 8 0 fw_X8_44 (eLit 1)) (pRet 0 144 (eLit 0))))))))
set_option maxRecDepth 100000 in
def MX8_beginToken : MP wdX yX8_beginToken cX8_beginToken 5 (some .int) 2 [.inr 25, .inl 0, .inl 0, .inl 0] := mkM scX8_beginToken yX8_beginToken [.inr 25, .inl 0, .inl 0, .inl 0] bX8_beginToken (by decide +kernel) rfl rfl (by decide) (by decide +kernel)
abbrev scX8_read : ik_SC := (wdX, cX8_read, 9, RX8, [(0, 25), (1, 1)], 3, some .int)
set_option maxRecDepth 100000 in
def bX8_read : SP scX8_read := (pSeq (pSet 4 (eLit 0)) (pSeq (pSet 5 (eLit 1)) (pSeq (pPut (rLoc 0 25) 44 8 8 0 fw_X8_44 (eLit 0)) (pSeq (pSeq (pSet 6 (eLit 0)) (pWh 20 177 177 (cCmp 2 (eLoc 6) (eLoc 2)) (pSeq (pSeq (pSet 7 (eCall (.invokevirtual 47) (lkV (T := TX9) (N := 2) mf_X9_at mv_X9_at ml_X8_47 rfl rfl rfl (by decide) (by decide)) MX9_at (aR (rLoc 1 1) (aI (eLoc 6) aNil)))) (pSeq (pSet 8 (eLit 0)) (pSeq (pIf 36 65 156 (cCmp0 0 (eLoc 4)) (pSeq (pSet 8 (eCall (.invokevirtual 53) (lkV (T := TX8) (N := 11) mf_X8_beginToken mv_X8_beginToken ml_X8_53 rfl rfl rfl (by decide) (by decide)) MX8_beginToken (aR (rLoc 0 25) (aI (eLoc 7) (aI (eLoc 5) (aI (eLoc 3) aNil)))))) (pSet 4 (eIte 55 59 60 (cCmp0 1 (eCall (.invokestatic 57) (lkN mf_X11_isLetter ms_X11_isLetter ml_X8_57 rfl (by decide) (by decide)) MX11_isLetter (aI (eLoc 7) aNil))) (eLit 1) (eLit 2)))) (pIf 79 99 156 (cOr 72 (cCmp 0 (eLoc 7) (eLit 32)) (cCmp 0 (eLoc 7) (eLit 47))) (pSeq (pSet 4 (eLit 0)) (pSet 5 (eIte 89 93 94 (cCmp 0 (eLoc 7) (eLit 47)) (eLit 1) (eLit 0)))) (pIf 113 153 156 (cAnd 105 (cCmp 0 (eLoc 4) (eLit 1)) (cCmp0 1 (eCall (.invokestatic 57) (lkN mf_X11_isLetter ms_X11_isLetter ml_X8_57 rfl (by decide) (by decide)) MX11_isLetter (aI (eLoc 7) aNil)))) (pSet 8 (eIte 143 147 148 (cCmp0 1 (eCall (.invokevirtual 65) (lkV (T := TX10) (N := 3) mf_X10_grow mv_X10_grow ml_X8_65 rfl rfl rfl (by decide) (by decide)) MX10_grow_26 (aR (rFld (rLoc 0 25) 16 8 0 26 fl_X8_16) (aI (eCall (.invokestatic 61) (lkS mf_X8_slot ms_X8_slot ml_X8_61 rfl (by decide) (by decide)) MX8_slot (aI (eFld (rLoc 0 25) 40 8 7 0 fl_X8_40) (aI (eBin 1 (eFld (rLoc 0 25) 44 8 8 0 fl_X8_44) (eLit 1)) aNil))) (aI (eBin 0 (eBin 1 (eLoc 7) (eLit 97)) (eLit 1)) aNil))))) (eLit 0) (eLit 2))) (pSet 8 (eLit 1))))) (pIf 161 171 171 (cCmp0 1 (eLoc 8)) (pRet 0 171 (eBin 0 (eBin 2 (eLit 1000) (eLoc 8)) (eLoc 6))) pSkip)))) (pInc 6 1)))) (pRet 0 192 (eIte 182 190 191 (cCmp0 0 (eLoc 4)) (eBin 0 (eLit 1000) (eLoc 2)) (eLit 0)))))))
set_option maxRecDepth 100000 in
def MX8_read : MP wdX yX8_read cX8_read 9 (some .int) 3 [.inr 25, .inr 1, .inl 0, .inl 0] := mkM scX8_read yX8_read [.inr 25, .inr 1, .inl 0, .inl 0] bX8_read (by decide +kernel) rfl rfl (by decide) (by decide +kernel)
abbrev scX8_has : ik_SC := (wdX, cX8_has, 2, RX8, [(0, 25)], 0, some .boolean)
set_option maxRecDepth 100000 in
def bX8_has : SP scX8_has := (pRet 3 24 (eIte 18 22 23 (cAnd 12 (cAnd 4 (cCmp0 3 (eLoc 1)) (cCmp 2 (eLoc 1) (eFld (rLoc 0 25) 40 8 7 0 fl_X8_40))) (cCmp 2 (eLoc 1) (eLit 6))) (eLit 1) (eLit 0)))
set_option maxRecDepth 100000 in
def MX8_has : MP wdX yX8_has cX8_has 2 (some .boolean) 0 [.inr 25, .inl 0] := mkM scX8_has yX8_has [.inr 25, .inl 0] bX8_has (by decide +kernel) rfl rfl (by decide) (by decide +kernel)
abbrev scX8_stands : ik_SC := (wdX, cX8_stands, 3, RX8, [(0, 25)], 1, some .boolean)
set_option maxRecDepth 100000 in
def bX8_stands : SP scX8_stands := (pRet 3 34 (eIte 28 32 33 (cAnd 22 (cAnd 12 (cAnd 8 (cCmp0 1 (eCall (.invokevirtual 101) (lkV (T := TX8) (N := 11) mf_X8_has mv_X8_has ml_X8_101 rfl rfl rfl (by decide) (by decide)) MX8_has (aR (rLoc 0 25) (aI (eLoc 1) aNil)))) (cCmp0 3 (eLoc 2))) (cCmp 2 (eLoc 2) (eArr 0 6 (rFld (rLoc 0 25) 34 8 5 33 fl_X8_34) (eLoc 1)))) (cCmp 2 (eLoc 2) (eLit 24))) (eLit 1) (eLit 0)))
set_option maxRecDepth 100000 in
def MX8_stands : MP wdX yX8_stands cX8_stands 3 (some .boolean) 1 [.inr 25, .inl 0, .inl 0] := mkM scX8_stands yX8_stands [.inr 25, .inl 0, .inl 0] bX8_stands (by decide +kernel) rfl rfl (by decide) (by decide +kernel)
abbrev scX8_barAt : ik_SC := (wdX, cX8_barAt, 3, RX8, [(0, 25)], 2, some .int)
set_option maxRecDepth 100000 in
def bX8_barAt : SP scX8_barAt := (pRet 0 24 (eIte 9 22 23 (cCmp0 1 (eCall (.invokevirtual 106) (lkV (T := TX8) (N := 11) mf_X8_stands mv_X8_stands ml_X8_106 rfl rfl rfl (by decide) (by decide)) MX8_stands (aR (rLoc 0 25) (aI (eLoc 1) (aI (eLoc 2) aNil))))) (eArr 0 144 (rFld (rLoc 0 25) 20 8 1 29 fl_X8_20) (eCall (.invokestatic 61) (lkS mf_X8_slot ms_X8_slot ml_X8_61 rfl (by decide) (by decide)) MX8_slot (aI (eLoc 1) (aI (eLoc 2) aNil)))) (eLit (-1))))
set_option maxRecDepth 100000 in
def MX8_barAt : MP wdX yX8_barAt cX8_barAt 3 (some .int) 2 [.inr 25, .inl 0, .inl 0] := mkM scX8_barAt yX8_barAt [.inr 25, .inl 0, .inl 0] bX8_barAt (by decide +kernel) rfl rfl (by decide) (by decide +kernel)
abbrev scX10_letter_26 : ik_SC := (wdX, cX10_letter, 4, RX10, [(0, 26)], 0, some .int)
set_option maxRecDepth 100000 in
def bX10_letter_26 : SP scX10_letter_26 := (pSeq (pSet 3 (eIte 22 26 27 (cAnd 16 (cAnd 12 (cAnd 4 (cCmp0 3 (eLoc 1)) (cCmp 2 (eLoc 1) (eFld (rLoc 0 26) 15 10 0 0 fl_X10_15))) (cCmp0 3 (eLoc 2))) (cCmp 2 (eLoc 2) (eLit 12))) (eLit 1) (eLit 0))) (pRet 0 58 (eIte 42 56 57 (cAnd 32 (cCmp0 1 (eLoc 3)) (cCmp 2 (eLoc 2) (eArr 0 144 (rFld (rLoc 0 26) 25 10 2 28 fl_X10_25) (eLoc 1)))) (eArr 0 1728 (rFld (rLoc 0 26) 21 10 1 27 fl_X10_21) (eBin 0 (eBin 2 (eLoc 1) (eLit 12)) (eLoc 2))) (eLit 0))))
set_option maxRecDepth 100000 in
def MX10_letter_26 : MP wdX yX10_letter cX10_letter 4 (some .int) 0 [.inr 26, .inl 0, .inl 0] := mkM scX10_letter_26 yX10_letter [.inr 26, .inl 0, .inl 0] bX10_letter_26 (by decide +kernel) rfl rfl (by decide) (by decide +kernel)
abbrev scX10_length_26 : ik_SC := (wdX, cX10_length, 2, RX10, [(0, 26)], 0, some .int)
set_option maxRecDepth 100000 in
def bX10_length_26 : SP scX10_length_26 := (pRet 0 23 (eIte 12 21 22 (cAnd 4 (cCmp0 3 (eLoc 1)) (cCmp 2 (eLoc 1) (eFld (rLoc 0 26) 15 10 0 0 fl_X10_15))) (eArr 0 144 (rFld (rLoc 0 26) 25 10 2 28 fl_X10_25) (eLoc 1)) (eLit 0)))
set_option maxRecDepth 100000 in
def MX10_length_26 : MP wdX yX10_length cX10_length 2 (some .int) 0 [.inr 26, .inl 0] := mkM scX10_length_26 yX10_length [.inr 26, .inl 0] bX10_length_26 (by decide +kernel) rfl rfl (by decide) (by decide +kernel)
abbrev scX8_heedArticle : ik_SC := (wdX, cX8_heedArticle, 3, RX8, [(0, 25)], 1, none)
set_option maxRecDepth 100000 in
def bX8_heedArticle : SP scX8_heedArticle := (pSeq (pSeq (pIf 18 19 19 (cOr 5 (cCmp 0 (eLoc 2) (eLit (-1))) (cCmp 1 (eCall (.invokevirtual 86) (lkV (T := TX10) (N := 3) mf_X10_letter mv_X10_letter ml_X8_86 rfl rfl rfl (by decide) (by decide)) MX10_letter_26 (aR (rFld (rLoc 0 25) 16 8 0 26 fl_X8_16) (aI (eLoc 1) (aI (eLit 0) aNil)))) (eLit 1))) (pRetV 19) pSkip) (pSeq (pIf 31 43 43 (cCmp 0 (eCall (.invokevirtual 89) (lkV (T := TX10) (N := 3) mf_X10_length mv_X10_length ml_X8_89 rfl rfl rfl (by decide) (by decide)) MX10_length_26 (aR (rFld (rLoc 0 25) 16 8 0 26 fl_X8_16) (aI (eLoc 1) aNil))) (eLit 1)) (pPutOp (rLoc 0 25) 92 8 9 4 fw_X8_92 (eBin 6 (eLit 1) (eLoc 2))) pSkip) (pIf 69 81 81 (cAnd 55 (cCmp 0 (eCall (.invokevirtual 89) (lkV (T := TX10) (N := 3) mf_X10_length mv_X10_length ml_X8_89 rfl rfl rfl (by decide) (by decide)) MX10_length_26 (aR (rFld (rLoc 0 25) 16 8 0 26 fl_X8_16) (aI (eLoc 1) aNil))) (eLit 2)) (cCmp 0 (eCall (.invokevirtual 86) (lkV (T := TX10) (N := 3) mf_X10_letter mv_X10_letter ml_X8_86 rfl rfl rfl (by decide) (by decide)) MX10_letter_26 (aR (rFld (rLoc 0 25) 16 8 0 26 fl_X8_16) (aI (eLoc 1) (aI (eLit 1) aNil)))) (eLit 14))) (pPutOp (rLoc 0 25) 95 8 10 4 fw_X8_95 (eBin 6 (eLit 1) (eLoc 2))) pSkip))) (pRetV 82))
set_option maxRecDepth 100000 in
def MX8_heedArticle : MP wdX yX8_heedArticle cX8_heedArticle 3 (none) 1 [.inr 25, .inl 0, .inl 0] := mkM scX8_heedArticle yX8_heedArticle [.inr 25, .inl 0, .inl 0] bX8_heedArticle (by decide +kernel) rfl rfl (by decide) (by decide +kernel)
abbrev scX8_add : ik_SC := (wdX, cX8_add, 3, RX8, [(0, 25)], 3, some .int)
set_option maxRecDepth 100000 in
def bX8_add : SP scX8_add := (pSeq (pIf 14 16 16 (cOr 7 (cCmp0 1 (eCall (.invokevirtual 75) (lkV (T := TX8) (N := 11) mf_X8_full mv_X8_full ml_X8_75 rfl rfl rfl (by decide) (by decide)) MX8_full (aR (rLoc 0 25) aNil))) (cCmp0 2 (eFld (rLoc 0 25) 40 8 7 0 fl_X8_40))) (pRet 0 16 (eLit (-1))) pSkip) (pSeq (pAst 0 6 (rFld (rLoc 0 25) 31 8 4 32 fl_X8_31) (eFld (rLoc 0 25) 40 8 7 0 fl_X8_40) (eLoc 1)) (pSeq (pAst 0 6 (rFld (rLoc 0 25) 34 8 5 33 fl_X8_34) (eFld (rLoc 0 25) 40 8 7 0 fl_X8_40) (eFld (rLoc 0 25) 44 8 8 0 fl_X8_44)) (pSeq (pAst 0 6 (rFld (rLoc 0 25) 37 8 6 34 fl_X8_37) (eFld (rLoc 0 25) 40 8 7 0 fl_X8_40) (eLit 0)) (pSeq (pPutOp (rLoc 0 25) 40 8 7 0 fw_X8_40 (eLit 1)) (pSeq (pSeq (pSet 2 (eLit 1)) (pWh 69 102 102 (cCmp 2 (eLoc 2) (eFld (rLoc 0 25) 44 8 8 0 fl_X8_44)) (pSeq (pDo (.invokevirtual 82) (lkV (T := TX8) (N := 11) mf_X8_heedArticle mv_X8_heedArticle ml_X8_82 rfl rfl rfl (by decide) (by decide)) MX8_heedArticle (aR (rLoc 0 25) (aI (eCall (.invokestatic 61) (lkS mf_X8_slot ms_X8_slot ml_X8_61 rfl (by decide) (by decide)) MX8_slot (aI (eBin 1 (eFld (rLoc 0 25) 40 8 7 0 fl_X8_40) (eLit 1)) (aI (eBin 1 (eLoc 2) (eLit 1)) aNil))) (aI (eCall (.invokevirtual 79) (lkV (T := TX8) (N := 11) mf_X8_barAt mv_X8_barAt ml_X8_79 rfl rfl rfl (by decide) (by decide)) MX8_barAt (aR (rLoc 0 25) (aI (eBin 1 (eFld (rLoc 0 25) 40 8 7 0 fl_X8_40) (eLit 1)) (aI (eLoc 2) aNil)))) aNil)))) (pInc 2 1)))) (pRet 0 109 (eBin 1 (eFld (rLoc 0 25) 40 8 7 0 fl_X8_40) (eLit 1)))))))))
set_option maxRecDepth 100000 in
def MX8_add : MP wdX yX8_add cX8_add 3 (some .int) 3 [.inr 25, .inl 0] := mkM scX8_add yX8_add [.inr 25, .inl 0] bX8_add (by decide +kernel) rfl rfl (by decide) (by decide +kernel)
abbrev scX11_sheet : ik_SC := (wdX, cX11_sheet, 4, RX11, [(0, 0)], 4, some .int)
set_option maxRecDepth 100000 in
def bX11_sheet : SP scX11_sheet := (pSeq (pIf 23 25 25 (cOr 12 (cNot (cCmp0 1 (eCall (.invokestatic 82) (lkS mf_X11_within ms_X11_within ml_X11_82 rfl (by decide) (by decide)) MX11_within (aI (eLoc 1) (aI (eLit 50) (aI (eLit 5000) aNil)))))) (cNot (cCmp0 1 (eCall (.invokestatic 82) (lkS mf_X11_within ms_X11_within ml_X11_82 rfl (by decide) (by decide)) MX11_within (aI (eLoc 2) (aI (eLit 1) (aI (eLit 160) aNil))))))) (pRet 0 25 (eLit (-1))) pSkip) (pSeq (pIf 46 48 48 (cOr 35 (cCmp0 1 (eCall (.invokevirtual 135) (lkV (T := TX8) (N := 11) mf_X8_full mv_X8_full ml_X11_135 rfl rfl rfl (by decide) (by decide)) MX8_full (aR (rFld (rLoc 0 0) 40 11 4 25 fl_X11_40) aNil))) (cCmp 2 (eCall (.invokevirtual 105) (lkV (T := TX9) (N := 2) mf_X9_length mv_X9_length ml_X11_105 rfl rfl rfl (by decide) (by decide)) MX9_length (aR (rFld (rLoc 0 0) 10 11 0 1 fl_X11_10) aNil)) (eLoc 2))) (pRet 0 48 (eLit (-1))) pSkip) (pSeq (pSet 3 (eCall (.invokevirtual 139) (lkV (T := TX8) (N := 11) mf_X8_read mv_X8_read ml_X11_139 rfl rfl rfl (by decide) (by decide)) MX8_read (aR (rFld (rLoc 0 0) 40 11 4 25 fl_X11_40) (aR (rFld (rLoc 0 0) 10 11 0 1 fl_X11_10) (aI (eLoc 2) (aI (eCall (.invokevirtual 136) (lkV (T := TX0) (N := 12) mf_X0_count mv_X0_count ml_X11_136 rfl rfl rfl (by decide) (by decide)) MX0_count (aR (rFld (rLoc 0 0) 33 11 3 15 fl_X11_33) aNil)) aNil)))))) (pSeq (pDo (.invokevirtual 117) (lkV (T := TX9) (N := 2) mf_X9_clear mv_X9_clear ml_X11_117 rfl rfl rfl (by decide) (by decide)) MX9_clear (aR (rFld (rLoc 0 0) 10 11 0 1 fl_X11_10) aNil)) (pSeq (pIf 79 82 82 (cCmp0 1 (eLoc 3)) (pRet 0 82 (eUn 0 (eLoc 3))) pSkip) (pSeq (pDo (.invokevirtual 90) (lkV (T := TX11) (N := 15) mf_X11_changed mv_X11_changed ml_X11_90 rfl rfl rfl (by decide) (by decide)) MX11_changed (aR (rLoc 0 0) aNil)) (pRet 0 95 (eCall (.invokevirtual 142) (lkV (T := TX8) (N := 11) mf_X8_add mv_X8_add ml_X11_142 rfl rfl rfl (by decide) (by decide)) MX8_add (aR (rFld (rLoc 0 0) 40 11 4 25 fl_X11_40) (aI (eLoc 1) aNil))))))))))
set_option maxRecDepth 100000 in
def MX11_sheet : MP wdX yX11_sheet cX11_sheet 4 (some .int) 4 [.inr 0, .inl 0, .inl 0] := mkM scX11_sheet yX11_sheet [.inr 0, .inl 0, .inl 0] bX11_sheet (by decide +kernel) rfl rfl (by decide) (by decide +kernel)
abbrev scX7_go : ik_SC := (wdX, cX7_go, 3, RX7, [(0, 35)], 0, none)
set_option maxRecDepth 100000 in
def bX7_go : SP scX7_go := (pSeq (pSeq (pIf 7 8 8 (cCmp0 1 (eFld (rLoc 0 35) 45 7 9 0 fl_X7_45)) (pRetV 8) pSkip) (pSeq (pIf 12 32 32 (cCmp0 1 (eLoc 1)) (pSeq (pPut (rLoc 0 35) 45 7 9 0 fw_X7_45 (eBin 0 (eBin 2 (eLit 1000) (eLoc 1)) (eFld (rLoc 0 35) 71 7 7 0 fl_X7_71))) (pSeq (pPut (rLoc 0 35) 39 7 8 0 fw_X7_39 (eLit (-1))) (pRetV 32))) pSkip) (pSeq (pPutOp (rLoc 0 35) 71 7 7 0 fw_X7_71 (eLit 1)) (pSeq (pSet 2 (eIte 70 74 75 (cAnd 60 (cAnd 49 (cCmp0 3 (eFld (rLoc 0 35) 71 7 7 0 fl_X7_71)) (cCmp 2 (eFld (rLoc 0 35) 71 7 7 0 fl_X7_71) (eFld (rLoc 0 35) 68 7 6 0 fl_X7_68))) (cCmp 2 (eFld (rLoc 0 35) 71 7 7 0 fl_X7_71) (eLit 160))) (eLit 1) (eLit 0))) (pPut (rLoc 0 35) 39 7 8 0 fw_X7_39 (eIte 81 85 113 (cNot (cCmp0 1 (eLoc 2))) (eLit (-1)) (eIte 92 104 113 (cCmp0 1 (eFld (rLoc 0 35) 65 7 5 3 fl_X7_65)) (eArr 0 160 (rFld (rLoc 0 35) 9 7 0 36 fl_X7_9) (eFld (rLoc 0 35) 71 7 7 0 fl_X7_71)) (eArr 0 160 (rFld (rLoc 0 35) 15 7 1 37 fl_X7_15) (eFld (rLoc 0 35) 71 7 7 0 fl_X7_71))))))))) (pRetV 117))
set_option maxRecDepth 100000 in
def MX7_go : MP wdX yX7_go cX7_go 3 (none) 0 [.inr 35, .inl 0] := mkM scX7_go yX7_go [.inr 35, .inl 0] bX7_go (by decide +kernel) rfl rfl (by decide) (by decide +kernel)
abbrev scX7_begin : ik_SC := (wdX, cX7_begin, 4, RX7, [(0, 35)], 1, none)
set_option maxRecDepth 100000 in
def bX7_begin : SP scX7_begin := (pSeq (pSeq (pPut (rLoc 0 35) 65 7 5 3 fw_X7_65 (eLoc 1)) (pSeq (pPut (rLoc 0 35) 68 7 6 0 fw_X7_68 (eLoc 3)) (pSeq (pPut (rLoc 0 35) 71 7 7 0 fw_X7_71 (eBin 1 (eLoc 2) (eLit 1))) (pSeq (pPut (rLoc 0 35) 45 7 9 0 fw_X7_45 (eLit 0)) (pSeq (pPut (rLoc 0 35) 61 7 10 3 fw_X7_61 (eLit 0)) (pDo (.invokevirtual 42) (lkV (T := TX7) (N := 11) mf_X7_go mv_X7_go ml_X7_42 rfl rfl rfl (by decide) (by decide)) MX7_go (aR (rLoc 0 35) (aI (eLit 0) aNil)))))))) (pRetV 33))
set_option maxRecDepth 100000 in
def MX7_begin : MP wdX yX7_begin cX7_begin 4 (none) 1 [.inr 35, .inl 0, .inl 0, .inl 0] := mkM scX7_begin yX7_begin [.inr 35, .inl 0, .inl 0, .inl 0] bX7_begin (by decide +kernel) rfl rfl (by decide) (by decide +kernel)
set_option maxRecDepth 100000 in
def MX7_piece_x : MP wdX yX7_piece cX7_piece 6 (some .boolean) 0 [.inr 35, .inl 0, .inl 0] := mFail _ _ _ _ _ _ _
set_option maxRecDepth 100000 in
def MX7_condition_x : MP wdX yX7_condition cX7_condition 6 (some .boolean) 0 [.inr 35, .inl 0, .inl 0] := mFail _ _ _ _ _ _ _
abbrev scX7_nested_f0 : ik_SC := (wdX, cX7_nested, 5, RX7, [(0, 35)], 1, some .boolean)
set_option maxRecDepth 100000 in
def bX7_nested_f0 : SP scX7_nested_f0 := (pSeq (pSet 3 (eFld (rLoc 0 35) 39 7 8 0 fl_X7_39)) (pSeq (pDo (.invokevirtual 42) (lkV (T := TX7) (N := 11) mf_X7_go mv_X7_go ml_X7_42 rfl rfl rfl (by decide) (by decide)) MX7_go (aR (rLoc 0 35) (aI (eIte 12 16 17 (cCmp 2 (eLoc 1) (eLit 6)) (eLit 0) (eLit 5)) aNil))) (pSeq (pIf 26 28 28 (cCmp 3 (eLoc 1) (eLit 6)) (pRet 3 28 (eLit 0)) pSkip) (pSeq (pIf 34 51 51 (cCmp 0 (eLoc 3) (eLit 33)) (pRet 3 51 (eIte 45 49 50 (cNot (cCmp0 1 (eCall (.invokevirtual 80) (lkV (T := TX7) (N := 11) mf_X7_piece mv_X7_piece ml_X7_80 rfl rfl rfl (by decide) (by decide)) MX7_piece_x (aR (rLoc 0 35) (aI (eBin 0 (eLoc 1) (eLit 1)) (aI (eLoc 2) aNil)))))) (eLit 1) (eLit 0))) pSkip) (pSeq (pSet 4 (eCall (.invokevirtual 57) (lkV (T := TX7) (N := 11) mf_X7_condition mv_X7_condition ml_X7_57 rfl rfl rfl (by decide) (by decide)) MX7_condition_x (aR (rLoc 0 35) (aI (eBin 0 (eLoc 1) (eLit 1)) (aI (eLoc 2) aNil))))) (pSeq (pDo (.invokevirtual 42) (lkV (T := TX7) (N := 11) mf_X7_go mv_X7_go ml_X7_42 rfl rfl rfl (by decide) (by decide)) MX7_go (aR (rLoc 0 35) (aI (eIte 71 75 76 (cCmp 0 (eFld (rLoc 0 35) 39 7 8 0 fl_X7_39) (eLit 41)) (eLit 0) (eLit 1)) aNil))) (pRet 3 82 (eLoc 4))))))))
set_option maxRecDepth 100000 in
def MX7_nested_f0 : MP wdX yX7_nested cX7_nested 5 (some .boolean) 1 [.inr 35, .inl 0, .inl 0] := mkM scX7_nested_f0 yX7_nested [.inr 35, .inl 0, .inl 0] bX7_nested_f0 (by decide +kernel) rfl rfl (by decide) (by decide +kernel)
set_option maxRecDepth 100000 in
def MX7_sum_x : MP wdX yX7_sum cX7_sum 7 (some .int) 0 [.inr 35, .inl 0, .inl 0] := mFail _ _ _ _ _ _ _
abbrev scX7_isFact : ik_SC := (wdX, cX7_isFact, 1, RX7, [], 0, some .boolean)
set_option maxRecDepth 100000 in
def bX7_isFact : SP scX7_isFact := (pSw (eLoc 0) [(97, 120, (pDead 124 (pRet 3 122 (eLit 1)))), (98, 120, (pDead 124 (pRet 3 122 (eLit 1)))), (105, 120, (pDead 124 (pRet 3 122 (eLit 1)))), (110, 120, (pDead 124 (pRet 3 122 (eLit 1)))), (115, 120, (pDead 124 (pRet 3 122 (eLit 1)))), (118, 120, (pDead 124 (pRet 3 122 (eLit 1)))), (119, 120, (pDead 124 (pRet 3 122 (eLit 1)))), (121, 120, (pDead 124 (pRet 3 122 (eLit 1)))), (122, 120, (pDead 124 (pRet 3 122 (eLit 1))))] 122 (pDead 124 (pRet 3 124 (eLit 0))) 124)
set_option maxRecDepth 100000 in
def MX7_isFact : MP wdX yX7_isFact cX7_isFact 1 (some .boolean) 0 [.inl 0] := mkM scX7_isFact yX7_isFact [.inl 0] bX7_isFact (by decide +kernel) rfl rfl (by decide) (by decide +kernel)
abbrev scX7_factor_f0 : ik_SC := (wdX, cX7_factor, 6, RX7, [(0, 35)], 1, some .int)
set_option maxRecDepth 100000 in
def bX7_factor_f0 : SP scX7_factor_f0 := (pSeq (pIf 9 63 63 (cCmp 0 (eFld (rLoc 0 35) 39 7 8 0 fl_X7_39) (eLit 91)) (pSeq (pDo (.invokevirtual 42) (lkV (T := TX7) (N := 11) mf_X7_go mv_X7_go ml_X7_42 rfl rfl rfl (by decide) (by decide)) MX7_go (aR (rLoc 0 35) (aI (eIte 16 20 21 (cCmp 2 (eLoc 1) (eLit 6)) (eLit 0) (eLit 5)) aNil))) (pSeq (pSet 3 (eIte 30 41 42 (cCmp 2 (eLoc 1) (eLit 6)) (eCall (.invokevirtual 86) (lkV (T := TX7) (N := 11) mf_X7_sum mv_X7_sum ml_X7_86 rfl rfl rfl (by decide) (by decide)) MX7_sum_x (aR (rLoc 0 35) (aI (eBin 0 (eLoc 1) (eLit 1)) (aI (eLoc 2) aNil)))) (eLit 0))) (pSeq (pDo (.invokevirtual 42) (lkV (T := TX7) (N := 11) mf_X7_go mv_X7_go ml_X7_42 rfl rfl rfl (by decide) (by decide)) MX7_go (aR (rLoc 0 35) (aI (eIte 53 57 58 (cCmp 0 (eFld (rLoc 0 35) 39 7 8 0 fl_X7_39) (eLit 93)) (eLit 0) (eLit 1)) aNil))) (pRet 0 63 (eLoc 3))))) pSkip) (pSeq (pSet 3 (eLit 0)) (pSeq (pSet 4 (eLit 0)) (pSeq (pWh 84 118 118 (cAnd 74 (cCmp 5 (eLoc 4) (eLit 5)) (cCmp0 1 (eCall (.invokestatic 73) (lkN mf_X11_isDigit ms_X11_isDigit ml_X7_73 rfl (by decide) (by decide)) MX11_isDigit (aI (eFld (rLoc 0 35) 39 7 8 0 fl_X7_39) aNil)))) (pSeq (pSeq (pSet 3 (eBin 1 (eBin 0 (eBin 2 (eLit 10) (eLoc 3)) (eFld (rLoc 0 35) 39 7 8 0 fl_X7_39)) (eLit 48))) (pDo (.invokevirtual 42) (lkV (T := TX7) (N := 11) mf_X7_go mv_X7_go ml_X7_42 rfl rfl rfl (by decide) (by decide)) MX7_go (aR (rLoc 0 35) (aI (eIte 104 108 109 (cCmp 2 (eLoc 4) (eLit 5)) (eLit 0) (eLit 2)) aNil)))) (pInc 4 1))) (pSeq (pIf 123 125 125 (cCmp0 4 (eLoc 4)) (pRet 0 125 (eLoc 3)) pSkip) (pSeq (pSet 5 (eBin 1 (eFld (rLoc 0 35) 39 7 8 0 fl_X7_39) (eLit 97))) (pSeq (pDo (.invokevirtual 42) (lkV (T := TX7) (N := 11) mf_X7_go mv_X7_go ml_X7_42 rfl rfl rfl (by decide) (by decide)) MX7_go (aR (rLoc 0 35) (aI (eIte 145 149 150 (cCmp0 1 (eCall (.invokestatic 96) (lkS mf_X7_isFact ms_X7_isFact ml_X7_96 rfl (by decide) (by decide)) MX7_isFact (aI (eFld (rLoc 0 35) 39 7 8 0 fl_X7_39) aNil))) (eLit 0) (eLit 1)) aNil))) (pRet 0 177 (eIte 165 175 176 (cAnd 158 (cCmp0 3 (eLoc 5)) (cCmp 2 (eLoc 5) (eLit 26))) (eArr 0 26 (rFld (rLoc 0 35) 18 7 2 38 fl_X7_18) (eLoc 5)) (eLit 0))))))))))
set_option maxRecDepth 100000 in
def MX7_factor_f0 : MP wdX yX7_factor cX7_factor 6 (some .int) 1 [.inr 35, .inl 0, .inl 0] := mkM scX7_factor_f0 yX7_factor [.inr 35, .inl 0, .inl 0] bX7_factor_f0 (by decide +kernel) rfl rfl (by decide) (by decide +kernel)
abbrev scX7_product_f0 : ik_SC := (wdX, cX7_product, 7, RX7, [(0, 35)], 2, some .int)
set_option maxRecDepth 100000 in
def bX7_product_f0 : SP scX7_product_f0 := (pSeq (pSet 3 (eCall (.invokevirtual 93) (lkV (T := TX7) (N := 11) mf_X7_factor mv_X7_factor ml_X7_93 rfl rfl rfl (by decide) (by decide)) MX7_factor_f0 (aR (rLoc 0 35) (aI (eLoc 1) (aI (eLoc 2) aNil))))) (pSeq (pSeq (pSet 4 (eLit 0)) (pWh 45 132 132 (cAnd 18 (cCmp 2 (eLoc 4) (eLit 160)) (cOr 36 (cOr 27 (cCmp 0 (eFld (rLoc 0 35) 39 7 8 0 fl_X7_39) (eLit 42)) (cCmp 0 (eFld (rLoc 0 35) 39 7 8 0 fl_X7_39) (eLit 47))) (cCmp 0 (eFld (rLoc 0 35) 39 7 8 0 fl_X7_39) (eLit 37)))) (pSeq (pSeq (pSet 5 (eFld (rLoc 0 35) 39 7 8 0 fl_X7_39)) (pSeq (pDo (.invokevirtual 42) (lkV (T := TX7) (N := 11) mf_X7_go mv_X7_go ml_X7_42 rfl rfl rfl (by decide) (by decide)) MX7_go (aR (rLoc 0 35) (aI (eLit 0) aNil))) (pSeq (pSet 6 (eCall (.invokevirtual 93) (lkV (T := TX7) (N := 11) mf_X7_factor mv_X7_factor ml_X7_93 rfl rfl rfl (by decide) (by decide)) MX7_factor_f0 (aR (rLoc 0 35) (aI (eLoc 1) (aI (eLoc 2) aNil))))) (pIf 71 79 126 (cCmp 0 (eLoc 5) (eLit 42)) (pSet 3 (eBin 2 (eLoc 3) (eLoc 6))) (pIf 84 107 126 (cCmp0 0 (eLoc 6)) (pPut (rLoc 0 35) 61 7 10 3 fw_X7_61 (eIte 96 100 101 (cOr 92 (cCmp0 1 (eFld (rLoc 0 35) 61 7 10 3 fl_X7_61)) (cCmp0 1 (eLoc 2))) (eLit 1) (eLit 0))) (pSet 3 (eIte 114 121 125 (cCmp 0 (eLoc 5) (eLit 47)) (eBin 9 (eLoc 3) (eLoc 6)) (eBin 10 (eLoc 3) (eLoc 6))))))))) (pInc 4 1)))) (pRet 0 134 (eLoc 3))))
set_option maxRecDepth 100000 in
def MX7_product_f0 : MP wdX yX7_product cX7_product 7 (some .int) 2 [.inr 35, .inl 0, .inl 0] := mkM scX7_product_f0 yX7_product [.inr 35, .inl 0, .inl 0] bX7_product_f0 (by decide +kernel) rfl rfl (by decide) (by decide +kernel)
abbrev scX7_sum_f0 : ik_SC := (wdX, cX7_sum, 7, RX7, [(0, 35)], 3, some .int)
set_option maxRecDepth 100000 in
def bX7_sum_f0 : SP scX7_sum_f0 := (pSeq (pSet 3 (eCall (.invokevirtual 90) (lkV (T := TX7) (N := 11) mf_X7_product mv_X7_product ml_X7_90 rfl rfl rfl (by decide) (by decide)) MX7_product_f0 (aR (rLoc 0 35) (aI (eLoc 1) (aI (eLoc 2) aNil))))) (pSeq (pSeq (pSet 4 (eLit 0)) (pWh 36 88 88 (cAnd 18 (cCmp 2 (eLoc 4) (eLit 160)) (cOr 27 (cCmp 0 (eFld (rLoc 0 35) 39 7 8 0 fl_X7_39) (eLit 43)) (cCmp 0 (eFld (rLoc 0 35) 39 7 8 0 fl_X7_39) (eLit 45)))) (pSeq (pSeq (pSet 5 (eIte 45 49 50 (cCmp 0 (eFld (rLoc 0 35) 39 7 8 0 fl_X7_39) (eLit 43)) (eLit 1) (eLit 0))) (pSeq (pDo (.invokevirtual 42) (lkV (T := TX7) (N := 11) mf_X7_go mv_X7_go ml_X7_42 rfl rfl rfl (by decide) (by decide)) MX7_go (aR (rLoc 0 35) (aI (eLit 0) aNil))) (pSeq (pSet 6 (eCall (.invokevirtual 90) (lkV (T := TX7) (N := 11) mf_X7_product mv_X7_product ml_X7_90 rfl rfl rfl (by decide) (by decide)) MX7_product_f0 (aR (rLoc 0 35) (aI (eLoc 1) (aI (eLoc 2) aNil))))) (pSet 3 (eIte 70 77 81 (cCmp0 1 (eLoc 5)) (eBin 0 (eLoc 3) (eLoc 6)) (eBin 1 (eLoc 3) (eLoc 6))))))) (pInc 4 1)))) (pRet 0 90 (eLoc 3))))
set_option maxRecDepth 100000 in
def MX7_sum_f0 : MP wdX yX7_sum cX7_sum 7 (some .int) 3 [.inr 35, .inl 0, .inl 0] := mkM scX7_sum_f0 yX7_sum [.inr 35, .inl 0, .inl 0] bX7_sum_f0 (by decide +kernel) rfl rfl (by decide) (by decide +kernel)
abbrev scX7_piece_f0 : ik_SC := (wdX, cX7_piece, 6, RX7, [(0, 35)], 4, some .boolean)
set_option maxRecDepth 100000 in
def bX7_piece_f0 : SP scX7_piece_f0 := (pSeq (pIf 18 25 25 (cOr 9 (cCmp 0 (eFld (rLoc 0 35) 39 7 8 0 fl_X7_39) (eLit 33)) (cCmp 0 (eFld (rLoc 0 35) 39 7 8 0 fl_X7_39) (eLit 40))) (pRet 3 25 (eCall (.invokevirtual 83) (lkV (T := TX7) (N := 11) mf_X7_nested mv_X7_nested ml_X7_83 rfl rfl rfl (by decide) (by decide)) MX7_nested_f0 (aR (rLoc 0 35) (aI (eLoc 1) (aI (eLoc 2) aNil))))) pSkip) (pSeq (pSet 3 (eCall (.invokevirtual 86) (lkV (T := TX7) (N := 11) mf_X7_sum mv_X7_sum ml_X7_86 rfl rfl rfl (by decide) (by decide)) MX7_sum_f0 (aR (rLoc 0 35) (aI (eLoc 1) (aI (eLoc 2) aNil))))) (pSeq (pSet 4 (eFld (rLoc 0 35) 39 7 8 0 fl_X7_39)) (pSeq (pDo (.invokevirtual 42) (lkV (T := TX7) (N := 11) mf_X7_go mv_X7_go ml_X7_42 rfl rfl rfl (by decide) (by decide)) MX7_go (aR (rLoc 0 35) (aI (eIte 60 64 65 (cOr 53 (cOr 46 (cCmp 0 (eLoc 4) (eLit 60)) (cCmp 0 (eLoc 4) (eLit 62))) (cCmp 0 (eLoc 4) (eLit 61))) (eLit 0) (eLit 1)) aNil))) (pSeq (pSet 5 (eCall (.invokevirtual 86) (lkV (T := TX7) (N := 11) mf_X7_sum mv_X7_sum ml_X7_86 rfl rfl rfl (by decide) (by decide)) MX7_sum_f0 (aR (rLoc 0 35) (aI (eLoc 1) (aI (eLoc 2) aNil))))) (pRet 3 130 (eIte 83 97 129 (cCmp 0 (eLoc 4) (eLit 60)) (eIte 89 93 129 (cCmp 2 (eLoc 3) (eLoc 5)) (eLit 1) (eLit 0)) (eIte 104 118 129 (cCmp 0 (eLoc 4) (eLit 62)) (eIte 110 114 129 (cCmp 4 (eLoc 3) (eLoc 5)) (eLit 1) (eLit 0)) (eIte 124 128 129 (cCmp 0 (eLoc 3) (eLoc 5)) (eLit 1) (eLit 0))))))))))
set_option maxRecDepth 100000 in
def MX7_piece_f0 : MP wdX yX7_piece cX7_piece 6 (some .boolean) 4 [.inr 35, .inl 0, .inl 0] := mkM scX7_piece_f0 yX7_piece [.inr 35, .inl 0, .inl 0] bX7_piece_f0 (by decide +kernel) rfl rfl (by decide) (by decide +kernel)
abbrev scX7_part_f0 : ik_SC := (wdX, cX7_part, 6, RX7, [(0, 35)], 5, some .boolean)
set_option maxRecDepth 100000 in
def bX7_part_f0 : SP scX7_part_f0 := (pSeq (pSet 3 (eCall (.invokevirtual 80) (lkV (T := TX7) (N := 11) mf_X7_piece mv_X7_piece ml_X7_80 rfl rfl rfl (by decide) (by decide)) MX7_piece_f0 (aR (rLoc 0 35) (aI (eLoc 1) (aI (eLoc 2) aNil))))) (pSeq (pSeq (pSet 4 (eLit 0)) (pWh 27 73 73 (cAnd 18 (cCmp 2 (eLoc 4) (eLit 160)) (cCmp 0 (eFld (rLoc 0 35) 39 7 8 0 fl_X7_39) (eLit 38))) (pSeq (pSeq (pDo (.invokevirtual 42) (lkV (T := TX7) (N := 11) mf_X7_go mv_X7_go ml_X7_42 rfl rfl rfl (by decide) (by decide)) MX7_go (aR (rLoc 0 35) (aI (eLit 0) aNil))) (pSeq (pSet 5 (eCall (.invokevirtual 80) (lkV (T := TX7) (N := 11) mf_X7_piece mv_X7_piece ml_X7_80 rfl rfl rfl (by decide) (by decide)) MX7_piece_f0 (aR (rLoc 0 35) (aI (eLoc 1) (aI (eIte 42 46 47 (cAnd 38 (cCmp0 1 (eLoc 2)) (cCmp0 1 (eLoc 3))) (eLit 1) (eLit 0)) aNil))))) (pSet 3 (eIte 61 65 66 (cAnd 56 (cCmp0 1 (eLoc 3)) (cCmp0 1 (eLoc 5))) (eLit 1) (eLit 0))))) (pInc 4 1)))) (pRet 3 75 (eLoc 3))))
set_option maxRecDepth 100000 in
def MX7_part_f0 : MP wdX yX7_part cX7_part 6 (some .boolean) 5 [.inr 35, .inl 0, .inl 0] := mkM scX7_part_f0 yX7_part [.inr 35, .inl 0, .inl 0] bX7_part_f0 (by decide +kernel) rfl rfl (by decide) (by decide +kernel)
abbrev scX7_condition_f0 : ik_SC := (wdX, cX7_condition, 6, RX7, [(0, 35)], 6, some .boolean)
set_option maxRecDepth 100000 in
def bX7_condition_f0 : SP scX7_condition_f0 := (pSeq (pSet 3 (eCall (.invokevirtual 77) (lkV (T := TX7) (N := 11) mf_X7_part mv_X7_part ml_X7_77 rfl rfl rfl (by decide) (by decide)) MX7_part_f0 (aR (rLoc 0 35) (aI (eLoc 1) (aI (eLoc 2) aNil))))) (pSeq (pSeq (pSet 4 (eLit 0)) (pWh 27 73 73 (cAnd 18 (cCmp 2 (eLoc 4) (eLit 160)) (cCmp 0 (eFld (rLoc 0 35) 39 7 8 0 fl_X7_39) (eLit 124))) (pSeq (pSeq (pDo (.invokevirtual 42) (lkV (T := TX7) (N := 11) mf_X7_go mv_X7_go ml_X7_42 rfl rfl rfl (by decide) (by decide)) MX7_go (aR (rLoc 0 35) (aI (eLit 0) aNil))) (pSeq (pSet 5 (eCall (.invokevirtual 77) (lkV (T := TX7) (N := 11) mf_X7_part mv_X7_part ml_X7_77 rfl rfl rfl (by decide) (by decide)) MX7_part_f0 (aR (rLoc 0 35) (aI (eLoc 1) (aI (eIte 42 46 47 (cAnd 38 (cCmp0 1 (eLoc 2)) (cNot (cCmp0 1 (eLoc 3)))) (eLit 1) (eLit 0)) aNil))))) (pSet 3 (eIte 61 65 66 (cOr 56 (cCmp0 1 (eLoc 3)) (cCmp0 1 (eLoc 5))) (eLit 1) (eLit 0))))) (pInc 4 1)))) (pRet 3 75 (eLoc 3))))
set_option maxRecDepth 100000 in
def MX7_condition_f0 : MP wdX yX7_condition cX7_condition 6 (some .boolean) 6 [.inr 35, .inl 0, .inl 0] := mkM scX7_condition_f0 yX7_condition [.inr 35, .inl 0, .inl 0] bX7_condition_f0 (by decide +kernel) rfl rfl (by decide) (by decide +kernel)
abbrev scX7_nested_f1 : ik_SC := (wdX, cX7_nested, 5, RX7, [(0, 35)], 7, some .boolean)
set_option maxRecDepth 100000 in
def bX7_nested_f1 : SP scX7_nested_f1 := (pSeq (pSet 3 (eFld (rLoc 0 35) 39 7 8 0 fl_X7_39)) (pSeq (pDo (.invokevirtual 42) (lkV (T := TX7) (N := 11) mf_X7_go mv_X7_go ml_X7_42 rfl rfl rfl (by decide) (by decide)) MX7_go (aR (rLoc 0 35) (aI (eIte 12 16 17 (cCmp 2 (eLoc 1) (eLit 6)) (eLit 0) (eLit 5)) aNil))) (pSeq (pIf 26 28 28 (cCmp 3 (eLoc 1) (eLit 6)) (pRet 3 28 (eLit 0)) pSkip) (pSeq (pIf 34 51 51 (cCmp 0 (eLoc 3) (eLit 33)) (pRet 3 51 (eIte 45 49 50 (cNot (cCmp0 1 (eCall (.invokevirtual 80) (lkV (T := TX7) (N := 11) mf_X7_piece mv_X7_piece ml_X7_80 rfl rfl rfl (by decide) (by decide)) MX7_piece_f0 (aR (rLoc 0 35) (aI (eBin 0 (eLoc 1) (eLit 1)) (aI (eLoc 2) aNil)))))) (eLit 1) (eLit 0))) pSkip) (pSeq (pSet 4 (eCall (.invokevirtual 57) (lkV (T := TX7) (N := 11) mf_X7_condition mv_X7_condition ml_X7_57 rfl rfl rfl (by decide) (by decide)) MX7_condition_f0 (aR (rLoc 0 35) (aI (eBin 0 (eLoc 1) (eLit 1)) (aI (eLoc 2) aNil))))) (pSeq (pDo (.invokevirtual 42) (lkV (T := TX7) (N := 11) mf_X7_go mv_X7_go ml_X7_42 rfl rfl rfl (by decide) (by decide)) MX7_go (aR (rLoc 0 35) (aI (eIte 71 75 76 (cCmp 0 (eFld (rLoc 0 35) 39 7 8 0 fl_X7_39) (eLit 41)) (eLit 0) (eLit 1)) aNil))) (pRet 3 82 (eLoc 4))))))))
set_option maxRecDepth 100000 in
def MX7_nested_f1 : MP wdX yX7_nested cX7_nested 5 (some .boolean) 7 [.inr 35, .inl 0, .inl 0] := mkM scX7_nested_f1 yX7_nested [.inr 35, .inl 0, .inl 0] bX7_nested_f1 (by decide +kernel) rfl rfl (by decide) (by decide +kernel)
end
section
abbrev scX7_factor_f1 : ik_SC := (wdX, cX7_factor, 6, RX7, [(0, 35)], 4, some .int)
set_option maxRecDepth 100000 in
def bX7_factor_f1 : SP scX7_factor_f1 := (pSeq (pIf 9 63 63 (cCmp 0 (eFld (rLoc 0 35) 39 7 8 0 fl_X7_39) (eLit 91)) (pSeq (pDo (.invokevirtual 42) (lkV (T := TX7) (N := 11) mf_X7_go mv_X7_go ml_X7_42 rfl rfl rfl (by decide) (by decide)) MX7_go (aR (rLoc 0 35) (aI (eIte 16 20 21 (cCmp 2 (eLoc 1) (eLit 6)) (eLit 0) (eLit 5)) aNil))) (pSeq (pSet 3 (eIte 30 41 42 (cCmp 2 (eLoc 1) (eLit 6)) (eCall (.invokevirtual 86) (lkV (T := TX7) (N := 11) mf_X7_sum mv_X7_sum ml_X7_86 rfl rfl rfl (by decide) (by decide)) MX7_sum_f0 (aR (rLoc 0 35) (aI (eBin 0 (eLoc 1) (eLit 1)) (aI (eLoc 2) aNil)))) (eLit 0))) (pSeq (pDo (.invokevirtual 42) (lkV (T := TX7) (N := 11) mf_X7_go mv_X7_go ml_X7_42 rfl rfl rfl (by decide) (by decide)) MX7_go (aR (rLoc 0 35) (aI (eIte 53 57 58 (cCmp 0 (eFld (rLoc 0 35) 39 7 8 0 fl_X7_39) (eLit 93)) (eLit 0) (eLit 1)) aNil))) (pRet 0 63 (eLoc 3))))) pSkip) (pSeq (pSet 3 (eLit 0)) (pSeq (pSet 4 (eLit 0)) (pSeq (pWh 84 118 118 (cAnd 74 (cCmp 5 (eLoc 4) (eLit 5)) (cCmp0 1 (eCall (.invokestatic 73) (lkN mf_X11_isDigit ms_X11_isDigit ml_X7_73 rfl (by decide) (by decide)) MX11_isDigit (aI (eFld (rLoc 0 35) 39 7 8 0 fl_X7_39) aNil)))) (pSeq (pSeq (pSet 3 (eBin 1 (eBin 0 (eBin 2 (eLit 10) (eLoc 3)) (eFld (rLoc 0 35) 39 7 8 0 fl_X7_39)) (eLit 48))) (pDo (.invokevirtual 42) (lkV (T := TX7) (N := 11) mf_X7_go mv_X7_go ml_X7_42 rfl rfl rfl (by decide) (by decide)) MX7_go (aR (rLoc 0 35) (aI (eIte 104 108 109 (cCmp 2 (eLoc 4) (eLit 5)) (eLit 0) (eLit 2)) aNil)))) (pInc 4 1))) (pSeq (pIf 123 125 125 (cCmp0 4 (eLoc 4)) (pRet 0 125 (eLoc 3)) pSkip) (pSeq (pSet 5 (eBin 1 (eFld (rLoc 0 35) 39 7 8 0 fl_X7_39) (eLit 97))) (pSeq (pDo (.invokevirtual 42) (lkV (T := TX7) (N := 11) mf_X7_go mv_X7_go ml_X7_42 rfl rfl rfl (by decide) (by decide)) MX7_go (aR (rLoc 0 35) (aI (eIte 145 149 150 (cCmp0 1 (eCall (.invokestatic 96) (lkS mf_X7_isFact ms_X7_isFact ml_X7_96 rfl (by decide) (by decide)) MX7_isFact (aI (eFld (rLoc 0 35) 39 7 8 0 fl_X7_39) aNil))) (eLit 0) (eLit 1)) aNil))) (pRet 0 177 (eIte 165 175 176 (cAnd 158 (cCmp0 3 (eLoc 5)) (cCmp 2 (eLoc 5) (eLit 26))) (eArr 0 26 (rFld (rLoc 0 35) 18 7 2 38 fl_X7_18) (eLoc 5)) (eLit 0))))))))))
set_option maxRecDepth 100000 in
def MX7_factor_f1 : MP wdX yX7_factor cX7_factor 6 (some .int) 4 [.inr 35, .inl 0, .inl 0] := mkM scX7_factor_f1 yX7_factor [.inr 35, .inl 0, .inl 0] bX7_factor_f1 (by decide +kernel) rfl rfl (by decide) (by decide +kernel)
abbrev scX7_product_f1 : ik_SC := (wdX, cX7_product, 7, RX7, [(0, 35)], 5, some .int)
set_option maxRecDepth 100000 in
def bX7_product_f1 : SP scX7_product_f1 := (pSeq (pSet 3 (eCall (.invokevirtual 93) (lkV (T := TX7) (N := 11) mf_X7_factor mv_X7_factor ml_X7_93 rfl rfl rfl (by decide) (by decide)) MX7_factor_f1 (aR (rLoc 0 35) (aI (eLoc 1) (aI (eLoc 2) aNil))))) (pSeq (pSeq (pSet 4 (eLit 0)) (pWh 45 132 132 (cAnd 18 (cCmp 2 (eLoc 4) (eLit 160)) (cOr 36 (cOr 27 (cCmp 0 (eFld (rLoc 0 35) 39 7 8 0 fl_X7_39) (eLit 42)) (cCmp 0 (eFld (rLoc 0 35) 39 7 8 0 fl_X7_39) (eLit 47))) (cCmp 0 (eFld (rLoc 0 35) 39 7 8 0 fl_X7_39) (eLit 37)))) (pSeq (pSeq (pSet 5 (eFld (rLoc 0 35) 39 7 8 0 fl_X7_39)) (pSeq (pDo (.invokevirtual 42) (lkV (T := TX7) (N := 11) mf_X7_go mv_X7_go ml_X7_42 rfl rfl rfl (by decide) (by decide)) MX7_go (aR (rLoc 0 35) (aI (eLit 0) aNil))) (pSeq (pSet 6 (eCall (.invokevirtual 93) (lkV (T := TX7) (N := 11) mf_X7_factor mv_X7_factor ml_X7_93 rfl rfl rfl (by decide) (by decide)) MX7_factor_f1 (aR (rLoc 0 35) (aI (eLoc 1) (aI (eLoc 2) aNil))))) (pIf 71 79 126 (cCmp 0 (eLoc 5) (eLit 42)) (pSet 3 (eBin 2 (eLoc 3) (eLoc 6))) (pIf 84 107 126 (cCmp0 0 (eLoc 6)) (pPut (rLoc 0 35) 61 7 10 3 fw_X7_61 (eIte 96 100 101 (cOr 92 (cCmp0 1 (eFld (rLoc 0 35) 61 7 10 3 fl_X7_61)) (cCmp0 1 (eLoc 2))) (eLit 1) (eLit 0))) (pSet 3 (eIte 114 121 125 (cCmp 0 (eLoc 5) (eLit 47)) (eBin 9 (eLoc 3) (eLoc 6)) (eBin 10 (eLoc 3) (eLoc 6))))))))) (pInc 4 1)))) (pRet 0 134 (eLoc 3))))
set_option maxRecDepth 100000 in
def MX7_product_f1 : MP wdX yX7_product cX7_product 7 (some .int) 5 [.inr 35, .inl 0, .inl 0] := mkM scX7_product_f1 yX7_product [.inr 35, .inl 0, .inl 0] bX7_product_f1 (by decide +kernel) rfl rfl (by decide) (by decide +kernel)
abbrev scX7_sum_f1 : ik_SC := (wdX, cX7_sum, 7, RX7, [(0, 35)], 6, some .int)
set_option maxRecDepth 100000 in
def bX7_sum_f1 : SP scX7_sum_f1 := (pSeq (pSet 3 (eCall (.invokevirtual 90) (lkV (T := TX7) (N := 11) mf_X7_product mv_X7_product ml_X7_90 rfl rfl rfl (by decide) (by decide)) MX7_product_f1 (aR (rLoc 0 35) (aI (eLoc 1) (aI (eLoc 2) aNil))))) (pSeq (pSeq (pSet 4 (eLit 0)) (pWh 36 88 88 (cAnd 18 (cCmp 2 (eLoc 4) (eLit 160)) (cOr 27 (cCmp 0 (eFld (rLoc 0 35) 39 7 8 0 fl_X7_39) (eLit 43)) (cCmp 0 (eFld (rLoc 0 35) 39 7 8 0 fl_X7_39) (eLit 45)))) (pSeq (pSeq (pSet 5 (eIte 45 49 50 (cCmp 0 (eFld (rLoc 0 35) 39 7 8 0 fl_X7_39) (eLit 43)) (eLit 1) (eLit 0))) (pSeq (pDo (.invokevirtual 42) (lkV (T := TX7) (N := 11) mf_X7_go mv_X7_go ml_X7_42 rfl rfl rfl (by decide) (by decide)) MX7_go (aR (rLoc 0 35) (aI (eLit 0) aNil))) (pSeq (pSet 6 (eCall (.invokevirtual 90) (lkV (T := TX7) (N := 11) mf_X7_product mv_X7_product ml_X7_90 rfl rfl rfl (by decide) (by decide)) MX7_product_f1 (aR (rLoc 0 35) (aI (eLoc 1) (aI (eLoc 2) aNil))))) (pSet 3 (eIte 70 77 81 (cCmp0 1 (eLoc 5)) (eBin 0 (eLoc 3) (eLoc 6)) (eBin 1 (eLoc 3) (eLoc 6))))))) (pInc 4 1)))) (pRet 0 90 (eLoc 3))))
set_option maxRecDepth 100000 in
def MX7_sum_f1 : MP wdX yX7_sum cX7_sum 7 (some .int) 6 [.inr 35, .inl 0, .inl 0] := mkM scX7_sum_f1 yX7_sum [.inr 35, .inl 0, .inl 0] bX7_sum_f1 (by decide +kernel) rfl rfl (by decide) (by decide +kernel)
abbrev scX7_piece_f1 : ik_SC := (wdX, cX7_piece, 6, RX7, [(0, 35)], 8, some .boolean)
set_option maxRecDepth 100000 in
def bX7_piece_f1 : SP scX7_piece_f1 := (pSeq (pIf 18 25 25 (cOr 9 (cCmp 0 (eFld (rLoc 0 35) 39 7 8 0 fl_X7_39) (eLit 33)) (cCmp 0 (eFld (rLoc 0 35) 39 7 8 0 fl_X7_39) (eLit 40))) (pRet 3 25 (eCall (.invokevirtual 83) (lkV (T := TX7) (N := 11) mf_X7_nested mv_X7_nested ml_X7_83 rfl rfl rfl (by decide) (by decide)) MX7_nested_f1 (aR (rLoc 0 35) (aI (eLoc 1) (aI (eLoc 2) aNil))))) pSkip) (pSeq (pSet 3 (eCall (.invokevirtual 86) (lkV (T := TX7) (N := 11) mf_X7_sum mv_X7_sum ml_X7_86 rfl rfl rfl (by decide) (by decide)) MX7_sum_f1 (aR (rLoc 0 35) (aI (eLoc 1) (aI (eLoc 2) aNil))))) (pSeq (pSet 4 (eFld (rLoc 0 35) 39 7 8 0 fl_X7_39)) (pSeq (pDo (.invokevirtual 42) (lkV (T := TX7) (N := 11) mf_X7_go mv_X7_go ml_X7_42 rfl rfl rfl (by decide) (by decide)) MX7_go (aR (rLoc 0 35) (aI (eIte 60 64 65 (cOr 53 (cOr 46 (cCmp 0 (eLoc 4) (eLit 60)) (cCmp 0 (eLoc 4) (eLit 62))) (cCmp 0 (eLoc 4) (eLit 61))) (eLit 0) (eLit 1)) aNil))) (pSeq (pSet 5 (eCall (.invokevirtual 86) (lkV (T := TX7) (N := 11) mf_X7_sum mv_X7_sum ml_X7_86 rfl rfl rfl (by decide) (by decide)) MX7_sum_f1 (aR (rLoc 0 35) (aI (eLoc 1) (aI (eLoc 2) aNil))))) (pRet 3 130 (eIte 83 97 129 (cCmp 0 (eLoc 4) (eLit 60)) (eIte 89 93 129 (cCmp 2 (eLoc 3) (eLoc 5)) (eLit 1) (eLit 0)) (eIte 104 118 129 (cCmp 0 (eLoc 4) (eLit 62)) (eIte 110 114 129 (cCmp 4 (eLoc 3) (eLoc 5)) (eLit 1) (eLit 0)) (eIte 124 128 129 (cCmp 0 (eLoc 3) (eLoc 5)) (eLit 1) (eLit 0))))))))))
set_option maxRecDepth 100000 in
def MX7_piece_f1 : MP wdX yX7_piece cX7_piece 6 (some .boolean) 8 [.inr 35, .inl 0, .inl 0] := mkM scX7_piece_f1 yX7_piece [.inr 35, .inl 0, .inl 0] bX7_piece_f1 (by decide +kernel) rfl rfl (by decide) (by decide +kernel)
abbrev scX7_part_f1 : ik_SC := (wdX, cX7_part, 6, RX7, [(0, 35)], 9, some .boolean)
set_option maxRecDepth 100000 in
def bX7_part_f1 : SP scX7_part_f1 := (pSeq (pSet 3 (eCall (.invokevirtual 80) (lkV (T := TX7) (N := 11) mf_X7_piece mv_X7_piece ml_X7_80 rfl rfl rfl (by decide) (by decide)) MX7_piece_f1 (aR (rLoc 0 35) (aI (eLoc 1) (aI (eLoc 2) aNil))))) (pSeq (pSeq (pSet 4 (eLit 0)) (pWh 27 73 73 (cAnd 18 (cCmp 2 (eLoc 4) (eLit 160)) (cCmp 0 (eFld (rLoc 0 35) 39 7 8 0 fl_X7_39) (eLit 38))) (pSeq (pSeq (pDo (.invokevirtual 42) (lkV (T := TX7) (N := 11) mf_X7_go mv_X7_go ml_X7_42 rfl rfl rfl (by decide) (by decide)) MX7_go (aR (rLoc 0 35) (aI (eLit 0) aNil))) (pSeq (pSet 5 (eCall (.invokevirtual 80) (lkV (T := TX7) (N := 11) mf_X7_piece mv_X7_piece ml_X7_80 rfl rfl rfl (by decide) (by decide)) MX7_piece_f1 (aR (rLoc 0 35) (aI (eLoc 1) (aI (eIte 42 46 47 (cAnd 38 (cCmp0 1 (eLoc 2)) (cCmp0 1 (eLoc 3))) (eLit 1) (eLit 0)) aNil))))) (pSet 3 (eIte 61 65 66 (cAnd 56 (cCmp0 1 (eLoc 3)) (cCmp0 1 (eLoc 5))) (eLit 1) (eLit 0))))) (pInc 4 1)))) (pRet 3 75 (eLoc 3))))
set_option maxRecDepth 100000 in
def MX7_part_f1 : MP wdX yX7_part cX7_part 6 (some .boolean) 9 [.inr 35, .inl 0, .inl 0] := mkM scX7_part_f1 yX7_part [.inr 35, .inl 0, .inl 0] bX7_part_f1 (by decide +kernel) rfl rfl (by decide) (by decide +kernel)
abbrev scX7_condition_f1 : ik_SC := (wdX, cX7_condition, 6, RX7, [(0, 35)], 10, some .boolean)
set_option maxRecDepth 100000 in
def bX7_condition_f1 : SP scX7_condition_f1 := (pSeq (pSet 3 (eCall (.invokevirtual 77) (lkV (T := TX7) (N := 11) mf_X7_part mv_X7_part ml_X7_77 rfl rfl rfl (by decide) (by decide)) MX7_part_f1 (aR (rLoc 0 35) (aI (eLoc 1) (aI (eLoc 2) aNil))))) (pSeq (pSeq (pSet 4 (eLit 0)) (pWh 27 73 73 (cAnd 18 (cCmp 2 (eLoc 4) (eLit 160)) (cCmp 0 (eFld (rLoc 0 35) 39 7 8 0 fl_X7_39) (eLit 124))) (pSeq (pSeq (pDo (.invokevirtual 42) (lkV (T := TX7) (N := 11) mf_X7_go mv_X7_go ml_X7_42 rfl rfl rfl (by decide) (by decide)) MX7_go (aR (rLoc 0 35) (aI (eLit 0) aNil))) (pSeq (pSet 5 (eCall (.invokevirtual 77) (lkV (T := TX7) (N := 11) mf_X7_part mv_X7_part ml_X7_77 rfl rfl rfl (by decide) (by decide)) MX7_part_f1 (aR (rLoc 0 35) (aI (eLoc 1) (aI (eIte 42 46 47 (cAnd 38 (cCmp0 1 (eLoc 2)) (cNot (cCmp0 1 (eLoc 3)))) (eLit 1) (eLit 0)) aNil))))) (pSet 3 (eIte 61 65 66 (cOr 56 (cCmp0 1 (eLoc 3)) (cCmp0 1 (eLoc 5))) (eLit 1) (eLit 0))))) (pInc 4 1)))) (pRet 3 75 (eLoc 3))))
set_option maxRecDepth 100000 in
def MX7_condition_f1 : MP wdX yX7_condition cX7_condition 6 (some .boolean) 10 [.inr 35, .inl 0, .inl 0] := mkM scX7_condition_f1 yX7_condition [.inr 35, .inl 0, .inl 0] bX7_condition_f1 (by decide +kernel) rfl rfl (by decide) (by decide +kernel)
abbrev scX7_nested_f2 : ik_SC := (wdX, cX7_nested, 5, RX7, [(0, 35)], 11, some .boolean)
set_option maxRecDepth 100000 in
def bX7_nested_f2 : SP scX7_nested_f2 := (pSeq (pSet 3 (eFld (rLoc 0 35) 39 7 8 0 fl_X7_39)) (pSeq (pDo (.invokevirtual 42) (lkV (T := TX7) (N := 11) mf_X7_go mv_X7_go ml_X7_42 rfl rfl rfl (by decide) (by decide)) MX7_go (aR (rLoc 0 35) (aI (eIte 12 16 17 (cCmp 2 (eLoc 1) (eLit 6)) (eLit 0) (eLit 5)) aNil))) (pSeq (pIf 26 28 28 (cCmp 3 (eLoc 1) (eLit 6)) (pRet 3 28 (eLit 0)) pSkip) (pSeq (pIf 34 51 51 (cCmp 0 (eLoc 3) (eLit 33)) (pRet 3 51 (eIte 45 49 50 (cNot (cCmp0 1 (eCall (.invokevirtual 80) (lkV (T := TX7) (N := 11) mf_X7_piece mv_X7_piece ml_X7_80 rfl rfl rfl (by decide) (by decide)) MX7_piece_f1 (aR (rLoc 0 35) (aI (eBin 0 (eLoc 1) (eLit 1)) (aI (eLoc 2) aNil)))))) (eLit 1) (eLit 0))) pSkip) (pSeq (pSet 4 (eCall (.invokevirtual 57) (lkV (T := TX7) (N := 11) mf_X7_condition mv_X7_condition ml_X7_57 rfl rfl rfl (by decide) (by decide)) MX7_condition_f1 (aR (rLoc 0 35) (aI (eBin 0 (eLoc 1) (eLit 1)) (aI (eLoc 2) aNil))))) (pSeq (pDo (.invokevirtual 42) (lkV (T := TX7) (N := 11) mf_X7_go mv_X7_go ml_X7_42 rfl rfl rfl (by decide) (by decide)) MX7_go (aR (rLoc 0 35) (aI (eIte 71 75 76 (cCmp 0 (eFld (rLoc 0 35) 39 7 8 0 fl_X7_39) (eLit 41)) (eLit 0) (eLit 1)) aNil))) (pRet 3 82 (eLoc 4))))))))
set_option maxRecDepth 100000 in
def MX7_nested_f2 : MP wdX yX7_nested cX7_nested 5 (some .boolean) 11 [.inr 35, .inl 0, .inl 0] := mkM scX7_nested_f2 yX7_nested [.inr 35, .inl 0, .inl 0] bX7_nested_f2 (by decide +kernel) rfl rfl (by decide) (by decide +kernel)
abbrev scX7_factor_f2 : ik_SC := (wdX, cX7_factor, 6, RX7, [(0, 35)], 7, some .int)
set_option maxRecDepth 100000 in
def bX7_factor_f2 : SP scX7_factor_f2 := (pSeq (pIf 9 63 63 (cCmp 0 (eFld (rLoc 0 35) 39 7 8 0 fl_X7_39) (eLit 91)) (pSeq (pDo (.invokevirtual 42) (lkV (T := TX7) (N := 11) mf_X7_go mv_X7_go ml_X7_42 rfl rfl rfl (by decide) (by decide)) MX7_go (aR (rLoc 0 35) (aI (eIte 16 20 21 (cCmp 2 (eLoc 1) (eLit 6)) (eLit 0) (eLit 5)) aNil))) (pSeq (pSet 3 (eIte 30 41 42 (cCmp 2 (eLoc 1) (eLit 6)) (eCall (.invokevirtual 86) (lkV (T := TX7) (N := 11) mf_X7_sum mv_X7_sum ml_X7_86 rfl rfl rfl (by decide) (by decide)) MX7_sum_f1 (aR (rLoc 0 35) (aI (eBin 0 (eLoc 1) (eLit 1)) (aI (eLoc 2) aNil)))) (eLit 0))) (pSeq (pDo (.invokevirtual 42) (lkV (T := TX7) (N := 11) mf_X7_go mv_X7_go ml_X7_42 rfl rfl rfl (by decide) (by decide)) MX7_go (aR (rLoc 0 35) (aI (eIte 53 57 58 (cCmp 0 (eFld (rLoc 0 35) 39 7 8 0 fl_X7_39) (eLit 93)) (eLit 0) (eLit 1)) aNil))) (pRet 0 63 (eLoc 3))))) pSkip) (pSeq (pSet 3 (eLit 0)) (pSeq (pSet 4 (eLit 0)) (pSeq (pWh 84 118 118 (cAnd 74 (cCmp 5 (eLoc 4) (eLit 5)) (cCmp0 1 (eCall (.invokestatic 73) (lkN mf_X11_isDigit ms_X11_isDigit ml_X7_73 rfl (by decide) (by decide)) MX11_isDigit (aI (eFld (rLoc 0 35) 39 7 8 0 fl_X7_39) aNil)))) (pSeq (pSeq (pSet 3 (eBin 1 (eBin 0 (eBin 2 (eLit 10) (eLoc 3)) (eFld (rLoc 0 35) 39 7 8 0 fl_X7_39)) (eLit 48))) (pDo (.invokevirtual 42) (lkV (T := TX7) (N := 11) mf_X7_go mv_X7_go ml_X7_42 rfl rfl rfl (by decide) (by decide)) MX7_go (aR (rLoc 0 35) (aI (eIte 104 108 109 (cCmp 2 (eLoc 4) (eLit 5)) (eLit 0) (eLit 2)) aNil)))) (pInc 4 1))) (pSeq (pIf 123 125 125 (cCmp0 4 (eLoc 4)) (pRet 0 125 (eLoc 3)) pSkip) (pSeq (pSet 5 (eBin 1 (eFld (rLoc 0 35) 39 7 8 0 fl_X7_39) (eLit 97))) (pSeq (pDo (.invokevirtual 42) (lkV (T := TX7) (N := 11) mf_X7_go mv_X7_go ml_X7_42 rfl rfl rfl (by decide) (by decide)) MX7_go (aR (rLoc 0 35) (aI (eIte 145 149 150 (cCmp0 1 (eCall (.invokestatic 96) (lkS mf_X7_isFact ms_X7_isFact ml_X7_96 rfl (by decide) (by decide)) MX7_isFact (aI (eFld (rLoc 0 35) 39 7 8 0 fl_X7_39) aNil))) (eLit 0) (eLit 1)) aNil))) (pRet 0 177 (eIte 165 175 176 (cAnd 158 (cCmp0 3 (eLoc 5)) (cCmp 2 (eLoc 5) (eLit 26))) (eArr 0 26 (rFld (rLoc 0 35) 18 7 2 38 fl_X7_18) (eLoc 5)) (eLit 0))))))))))
set_option maxRecDepth 100000 in
def MX7_factor_f2 : MP wdX yX7_factor cX7_factor 6 (some .int) 7 [.inr 35, .inl 0, .inl 0] := mkM scX7_factor_f2 yX7_factor [.inr 35, .inl 0, .inl 0] bX7_factor_f2 (by decide +kernel) rfl rfl (by decide) (by decide +kernel)
abbrev scX7_product_f2 : ik_SC := (wdX, cX7_product, 7, RX7, [(0, 35)], 8, some .int)
set_option maxRecDepth 100000 in
def bX7_product_f2 : SP scX7_product_f2 := (pSeq (pSet 3 (eCall (.invokevirtual 93) (lkV (T := TX7) (N := 11) mf_X7_factor mv_X7_factor ml_X7_93 rfl rfl rfl (by decide) (by decide)) MX7_factor_f2 (aR (rLoc 0 35) (aI (eLoc 1) (aI (eLoc 2) aNil))))) (pSeq (pSeq (pSet 4 (eLit 0)) (pWh 45 132 132 (cAnd 18 (cCmp 2 (eLoc 4) (eLit 160)) (cOr 36 (cOr 27 (cCmp 0 (eFld (rLoc 0 35) 39 7 8 0 fl_X7_39) (eLit 42)) (cCmp 0 (eFld (rLoc 0 35) 39 7 8 0 fl_X7_39) (eLit 47))) (cCmp 0 (eFld (rLoc 0 35) 39 7 8 0 fl_X7_39) (eLit 37)))) (pSeq (pSeq (pSet 5 (eFld (rLoc 0 35) 39 7 8 0 fl_X7_39)) (pSeq (pDo (.invokevirtual 42) (lkV (T := TX7) (N := 11) mf_X7_go mv_X7_go ml_X7_42 rfl rfl rfl (by decide) (by decide)) MX7_go (aR (rLoc 0 35) (aI (eLit 0) aNil))) (pSeq (pSet 6 (eCall (.invokevirtual 93) (lkV (T := TX7) (N := 11) mf_X7_factor mv_X7_factor ml_X7_93 rfl rfl rfl (by decide) (by decide)) MX7_factor_f2 (aR (rLoc 0 35) (aI (eLoc 1) (aI (eLoc 2) aNil))))) (pIf 71 79 126 (cCmp 0 (eLoc 5) (eLit 42)) (pSet 3 (eBin 2 (eLoc 3) (eLoc 6))) (pIf 84 107 126 (cCmp0 0 (eLoc 6)) (pPut (rLoc 0 35) 61 7 10 3 fw_X7_61 (eIte 96 100 101 (cOr 92 (cCmp0 1 (eFld (rLoc 0 35) 61 7 10 3 fl_X7_61)) (cCmp0 1 (eLoc 2))) (eLit 1) (eLit 0))) (pSet 3 (eIte 114 121 125 (cCmp 0 (eLoc 5) (eLit 47)) (eBin 9 (eLoc 3) (eLoc 6)) (eBin 10 (eLoc 3) (eLoc 6))))))))) (pInc 4 1)))) (pRet 0 134 (eLoc 3))))
set_option maxRecDepth 100000 in
def MX7_product_f2 : MP wdX yX7_product cX7_product 7 (some .int) 8 [.inr 35, .inl 0, .inl 0] := mkM scX7_product_f2 yX7_product [.inr 35, .inl 0, .inl 0] bX7_product_f2 (by decide +kernel) rfl rfl (by decide) (by decide +kernel)
abbrev scX7_sum_f2 : ik_SC := (wdX, cX7_sum, 7, RX7, [(0, 35)], 9, some .int)
set_option maxRecDepth 100000 in
def bX7_sum_f2 : SP scX7_sum_f2 := (pSeq (pSet 3 (eCall (.invokevirtual 90) (lkV (T := TX7) (N := 11) mf_X7_product mv_X7_product ml_X7_90 rfl rfl rfl (by decide) (by decide)) MX7_product_f2 (aR (rLoc 0 35) (aI (eLoc 1) (aI (eLoc 2) aNil))))) (pSeq (pSeq (pSet 4 (eLit 0)) (pWh 36 88 88 (cAnd 18 (cCmp 2 (eLoc 4) (eLit 160)) (cOr 27 (cCmp 0 (eFld (rLoc 0 35) 39 7 8 0 fl_X7_39) (eLit 43)) (cCmp 0 (eFld (rLoc 0 35) 39 7 8 0 fl_X7_39) (eLit 45)))) (pSeq (pSeq (pSet 5 (eIte 45 49 50 (cCmp 0 (eFld (rLoc 0 35) 39 7 8 0 fl_X7_39) (eLit 43)) (eLit 1) (eLit 0))) (pSeq (pDo (.invokevirtual 42) (lkV (T := TX7) (N := 11) mf_X7_go mv_X7_go ml_X7_42 rfl rfl rfl (by decide) (by decide)) MX7_go (aR (rLoc 0 35) (aI (eLit 0) aNil))) (pSeq (pSet 6 (eCall (.invokevirtual 90) (lkV (T := TX7) (N := 11) mf_X7_product mv_X7_product ml_X7_90 rfl rfl rfl (by decide) (by decide)) MX7_product_f2 (aR (rLoc 0 35) (aI (eLoc 1) (aI (eLoc 2) aNil))))) (pSet 3 (eIte 70 77 81 (cCmp0 1 (eLoc 5)) (eBin 0 (eLoc 3) (eLoc 6)) (eBin 1 (eLoc 3) (eLoc 6))))))) (pInc 4 1)))) (pRet 0 90 (eLoc 3))))
set_option maxRecDepth 100000 in
def MX7_sum_f2 : MP wdX yX7_sum cX7_sum 7 (some .int) 9 [.inr 35, .inl 0, .inl 0] := mkM scX7_sum_f2 yX7_sum [.inr 35, .inl 0, .inl 0] bX7_sum_f2 (by decide +kernel) rfl rfl (by decide) (by decide +kernel)
abbrev scX7_piece_f2 : ik_SC := (wdX, cX7_piece, 6, RX7, [(0, 35)], 12, some .boolean)
set_option maxRecDepth 100000 in
def bX7_piece_f2 : SP scX7_piece_f2 := (pSeq (pIf 18 25 25 (cOr 9 (cCmp 0 (eFld (rLoc 0 35) 39 7 8 0 fl_X7_39) (eLit 33)) (cCmp 0 (eFld (rLoc 0 35) 39 7 8 0 fl_X7_39) (eLit 40))) (pRet 3 25 (eCall (.invokevirtual 83) (lkV (T := TX7) (N := 11) mf_X7_nested mv_X7_nested ml_X7_83 rfl rfl rfl (by decide) (by decide)) MX7_nested_f2 (aR (rLoc 0 35) (aI (eLoc 1) (aI (eLoc 2) aNil))))) pSkip) (pSeq (pSet 3 (eCall (.invokevirtual 86) (lkV (T := TX7) (N := 11) mf_X7_sum mv_X7_sum ml_X7_86 rfl rfl rfl (by decide) (by decide)) MX7_sum_f2 (aR (rLoc 0 35) (aI (eLoc 1) (aI (eLoc 2) aNil))))) (pSeq (pSet 4 (eFld (rLoc 0 35) 39 7 8 0 fl_X7_39)) (pSeq (pDo (.invokevirtual 42) (lkV (T := TX7) (N := 11) mf_X7_go mv_X7_go ml_X7_42 rfl rfl rfl (by decide) (by decide)) MX7_go (aR (rLoc 0 35) (aI (eIte 60 64 65 (cOr 53 (cOr 46 (cCmp 0 (eLoc 4) (eLit 60)) (cCmp 0 (eLoc 4) (eLit 62))) (cCmp 0 (eLoc 4) (eLit 61))) (eLit 0) (eLit 1)) aNil))) (pSeq (pSet 5 (eCall (.invokevirtual 86) (lkV (T := TX7) (N := 11) mf_X7_sum mv_X7_sum ml_X7_86 rfl rfl rfl (by decide) (by decide)) MX7_sum_f2 (aR (rLoc 0 35) (aI (eLoc 1) (aI (eLoc 2) aNil))))) (pRet 3 130 (eIte 83 97 129 (cCmp 0 (eLoc 4) (eLit 60)) (eIte 89 93 129 (cCmp 2 (eLoc 3) (eLoc 5)) (eLit 1) (eLit 0)) (eIte 104 118 129 (cCmp 0 (eLoc 4) (eLit 62)) (eIte 110 114 129 (cCmp 4 (eLoc 3) (eLoc 5)) (eLit 1) (eLit 0)) (eIte 124 128 129 (cCmp 0 (eLoc 3) (eLoc 5)) (eLit 1) (eLit 0))))))))))
set_option maxRecDepth 100000 in
def MX7_piece_f2 : MP wdX yX7_piece cX7_piece 6 (some .boolean) 12 [.inr 35, .inl 0, .inl 0] := mkM scX7_piece_f2 yX7_piece [.inr 35, .inl 0, .inl 0] bX7_piece_f2 (by decide +kernel) rfl rfl (by decide) (by decide +kernel)
abbrev scX7_part_f2 : ik_SC := (wdX, cX7_part, 6, RX7, [(0, 35)], 13, some .boolean)
set_option maxRecDepth 100000 in
def bX7_part_f2 : SP scX7_part_f2 := (pSeq (pSet 3 (eCall (.invokevirtual 80) (lkV (T := TX7) (N := 11) mf_X7_piece mv_X7_piece ml_X7_80 rfl rfl rfl (by decide) (by decide)) MX7_piece_f2 (aR (rLoc 0 35) (aI (eLoc 1) (aI (eLoc 2) aNil))))) (pSeq (pSeq (pSet 4 (eLit 0)) (pWh 27 73 73 (cAnd 18 (cCmp 2 (eLoc 4) (eLit 160)) (cCmp 0 (eFld (rLoc 0 35) 39 7 8 0 fl_X7_39) (eLit 38))) (pSeq (pSeq (pDo (.invokevirtual 42) (lkV (T := TX7) (N := 11) mf_X7_go mv_X7_go ml_X7_42 rfl rfl rfl (by decide) (by decide)) MX7_go (aR (rLoc 0 35) (aI (eLit 0) aNil))) (pSeq (pSet 5 (eCall (.invokevirtual 80) (lkV (T := TX7) (N := 11) mf_X7_piece mv_X7_piece ml_X7_80 rfl rfl rfl (by decide) (by decide)) MX7_piece_f2 (aR (rLoc 0 35) (aI (eLoc 1) (aI (eIte 42 46 47 (cAnd 38 (cCmp0 1 (eLoc 2)) (cCmp0 1 (eLoc 3))) (eLit 1) (eLit 0)) aNil))))) (pSet 3 (eIte 61 65 66 (cAnd 56 (cCmp0 1 (eLoc 3)) (cCmp0 1 (eLoc 5))) (eLit 1) (eLit 0))))) (pInc 4 1)))) (pRet 3 75 (eLoc 3))))
set_option maxRecDepth 100000 in
def MX7_part_f2 : MP wdX yX7_part cX7_part 6 (some .boolean) 13 [.inr 35, .inl 0, .inl 0] := mkM scX7_part_f2 yX7_part [.inr 35, .inl 0, .inl 0] bX7_part_f2 (by decide +kernel) rfl rfl (by decide) (by decide +kernel)
abbrev scX7_condition_f2 : ik_SC := (wdX, cX7_condition, 6, RX7, [(0, 35)], 14, some .boolean)
set_option maxRecDepth 100000 in
def bX7_condition_f2 : SP scX7_condition_f2 := (pSeq (pSet 3 (eCall (.invokevirtual 77) (lkV (T := TX7) (N := 11) mf_X7_part mv_X7_part ml_X7_77 rfl rfl rfl (by decide) (by decide)) MX7_part_f2 (aR (rLoc 0 35) (aI (eLoc 1) (aI (eLoc 2) aNil))))) (pSeq (pSeq (pSet 4 (eLit 0)) (pWh 27 73 73 (cAnd 18 (cCmp 2 (eLoc 4) (eLit 160)) (cCmp 0 (eFld (rLoc 0 35) 39 7 8 0 fl_X7_39) (eLit 124))) (pSeq (pSeq (pDo (.invokevirtual 42) (lkV (T := TX7) (N := 11) mf_X7_go mv_X7_go ml_X7_42 rfl rfl rfl (by decide) (by decide)) MX7_go (aR (rLoc 0 35) (aI (eLit 0) aNil))) (pSeq (pSet 5 (eCall (.invokevirtual 77) (lkV (T := TX7) (N := 11) mf_X7_part mv_X7_part ml_X7_77 rfl rfl rfl (by decide) (by decide)) MX7_part_f2 (aR (rLoc 0 35) (aI (eLoc 1) (aI (eIte 42 46 47 (cAnd 38 (cCmp0 1 (eLoc 2)) (cNot (cCmp0 1 (eLoc 3)))) (eLit 1) (eLit 0)) aNil))))) (pSet 3 (eIte 61 65 66 (cOr 56 (cCmp0 1 (eLoc 3)) (cCmp0 1 (eLoc 5))) (eLit 1) (eLit 0))))) (pInc 4 1)))) (pRet 3 75 (eLoc 3))))
set_option maxRecDepth 100000 in
def MX7_condition_f2 : MP wdX yX7_condition cX7_condition 6 (some .boolean) 14 [.inr 35, .inl 0, .inl 0] := mkM scX7_condition_f2 yX7_condition [.inr 35, .inl 0, .inl 0] bX7_condition_f2 (by decide +kernel) rfl rfl (by decide) (by decide +kernel)
abbrev scX7_nested_f3 : ik_SC := (wdX, cX7_nested, 5, RX7, [(0, 35)], 15, some .boolean)
set_option maxRecDepth 100000 in
def bX7_nested_f3 : SP scX7_nested_f3 := (pSeq (pSet 3 (eFld (rLoc 0 35) 39 7 8 0 fl_X7_39)) (pSeq (pDo (.invokevirtual 42) (lkV (T := TX7) (N := 11) mf_X7_go mv_X7_go ml_X7_42 rfl rfl rfl (by decide) (by decide)) MX7_go (aR (rLoc 0 35) (aI (eIte 12 16 17 (cCmp 2 (eLoc 1) (eLit 6)) (eLit 0) (eLit 5)) aNil))) (pSeq (pIf 26 28 28 (cCmp 3 (eLoc 1) (eLit 6)) (pRet 3 28 (eLit 0)) pSkip) (pSeq (pIf 34 51 51 (cCmp 0 (eLoc 3) (eLit 33)) (pRet 3 51 (eIte 45 49 50 (cNot (cCmp0 1 (eCall (.invokevirtual 80) (lkV (T := TX7) (N := 11) mf_X7_piece mv_X7_piece ml_X7_80 rfl rfl rfl (by decide) (by decide)) MX7_piece_f2 (aR (rLoc 0 35) (aI (eBin 0 (eLoc 1) (eLit 1)) (aI (eLoc 2) aNil)))))) (eLit 1) (eLit 0))) pSkip) (pSeq (pSet 4 (eCall (.invokevirtual 57) (lkV (T := TX7) (N := 11) mf_X7_condition mv_X7_condition ml_X7_57 rfl rfl rfl (by decide) (by decide)) MX7_condition_f2 (aR (rLoc 0 35) (aI (eBin 0 (eLoc 1) (eLit 1)) (aI (eLoc 2) aNil))))) (pSeq (pDo (.invokevirtual 42) (lkV (T := TX7) (N := 11) mf_X7_go mv_X7_go ml_X7_42 rfl rfl rfl (by decide) (by decide)) MX7_go (aR (rLoc 0 35) (aI (eIte 71 75 76 (cCmp 0 (eFld (rLoc 0 35) 39 7 8 0 fl_X7_39) (eLit 41)) (eLit 0) (eLit 1)) aNil))) (pRet 3 82 (eLoc 4))))))))
set_option maxRecDepth 100000 in
def MX7_nested_f3 : MP wdX yX7_nested cX7_nested 5 (some .boolean) 15 [.inr 35, .inl 0, .inl 0] := mkM scX7_nested_f3 yX7_nested [.inr 35, .inl 0, .inl 0] bX7_nested_f3 (by decide +kernel) rfl rfl (by decide) (by decide +kernel)
abbrev scX7_factor_f3 : ik_SC := (wdX, cX7_factor, 6, RX7, [(0, 35)], 10, some .int)
set_option maxRecDepth 100000 in
def bX7_factor_f3 : SP scX7_factor_f3 := (pSeq (pIf 9 63 63 (cCmp 0 (eFld (rLoc 0 35) 39 7 8 0 fl_X7_39) (eLit 91)) (pSeq (pDo (.invokevirtual 42) (lkV (T := TX7) (N := 11) mf_X7_go mv_X7_go ml_X7_42 rfl rfl rfl (by decide) (by decide)) MX7_go (aR (rLoc 0 35) (aI (eIte 16 20 21 (cCmp 2 (eLoc 1) (eLit 6)) (eLit 0) (eLit 5)) aNil))) (pSeq (pSet 3 (eIte 30 41 42 (cCmp 2 (eLoc 1) (eLit 6)) (eCall (.invokevirtual 86) (lkV (T := TX7) (N := 11) mf_X7_sum mv_X7_sum ml_X7_86 rfl rfl rfl (by decide) (by decide)) MX7_sum_f2 (aR (rLoc 0 35) (aI (eBin 0 (eLoc 1) (eLit 1)) (aI (eLoc 2) aNil)))) (eLit 0))) (pSeq (pDo (.invokevirtual 42) (lkV (T := TX7) (N := 11) mf_X7_go mv_X7_go ml_X7_42 rfl rfl rfl (by decide) (by decide)) MX7_go (aR (rLoc 0 35) (aI (eIte 53 57 58 (cCmp 0 (eFld (rLoc 0 35) 39 7 8 0 fl_X7_39) (eLit 93)) (eLit 0) (eLit 1)) aNil))) (pRet 0 63 (eLoc 3))))) pSkip) (pSeq (pSet 3 (eLit 0)) (pSeq (pSet 4 (eLit 0)) (pSeq (pWh 84 118 118 (cAnd 74 (cCmp 5 (eLoc 4) (eLit 5)) (cCmp0 1 (eCall (.invokestatic 73) (lkN mf_X11_isDigit ms_X11_isDigit ml_X7_73 rfl (by decide) (by decide)) MX11_isDigit (aI (eFld (rLoc 0 35) 39 7 8 0 fl_X7_39) aNil)))) (pSeq (pSeq (pSet 3 (eBin 1 (eBin 0 (eBin 2 (eLit 10) (eLoc 3)) (eFld (rLoc 0 35) 39 7 8 0 fl_X7_39)) (eLit 48))) (pDo (.invokevirtual 42) (lkV (T := TX7) (N := 11) mf_X7_go mv_X7_go ml_X7_42 rfl rfl rfl (by decide) (by decide)) MX7_go (aR (rLoc 0 35) (aI (eIte 104 108 109 (cCmp 2 (eLoc 4) (eLit 5)) (eLit 0) (eLit 2)) aNil)))) (pInc 4 1))) (pSeq (pIf 123 125 125 (cCmp0 4 (eLoc 4)) (pRet 0 125 (eLoc 3)) pSkip) (pSeq (pSet 5 (eBin 1 (eFld (rLoc 0 35) 39 7 8 0 fl_X7_39) (eLit 97))) (pSeq (pDo (.invokevirtual 42) (lkV (T := TX7) (N := 11) mf_X7_go mv_X7_go ml_X7_42 rfl rfl rfl (by decide) (by decide)) MX7_go (aR (rLoc 0 35) (aI (eIte 145 149 150 (cCmp0 1 (eCall (.invokestatic 96) (lkS mf_X7_isFact ms_X7_isFact ml_X7_96 rfl (by decide) (by decide)) MX7_isFact (aI (eFld (rLoc 0 35) 39 7 8 0 fl_X7_39) aNil))) (eLit 0) (eLit 1)) aNil))) (pRet 0 177 (eIte 165 175 176 (cAnd 158 (cCmp0 3 (eLoc 5)) (cCmp 2 (eLoc 5) (eLit 26))) (eArr 0 26 (rFld (rLoc 0 35) 18 7 2 38 fl_X7_18) (eLoc 5)) (eLit 0))))))))))
set_option maxRecDepth 100000 in
def MX7_factor_f3 : MP wdX yX7_factor cX7_factor 6 (some .int) 10 [.inr 35, .inl 0, .inl 0] := mkM scX7_factor_f3 yX7_factor [.inr 35, .inl 0, .inl 0] bX7_factor_f3 (by decide +kernel) rfl rfl (by decide) (by decide +kernel)
abbrev scX7_product_f3 : ik_SC := (wdX, cX7_product, 7, RX7, [(0, 35)], 11, some .int)
set_option maxRecDepth 100000 in
def bX7_product_f3 : SP scX7_product_f3 := (pSeq (pSet 3 (eCall (.invokevirtual 93) (lkV (T := TX7) (N := 11) mf_X7_factor mv_X7_factor ml_X7_93 rfl rfl rfl (by decide) (by decide)) MX7_factor_f3 (aR (rLoc 0 35) (aI (eLoc 1) (aI (eLoc 2) aNil))))) (pSeq (pSeq (pSet 4 (eLit 0)) (pWh 45 132 132 (cAnd 18 (cCmp 2 (eLoc 4) (eLit 160)) (cOr 36 (cOr 27 (cCmp 0 (eFld (rLoc 0 35) 39 7 8 0 fl_X7_39) (eLit 42)) (cCmp 0 (eFld (rLoc 0 35) 39 7 8 0 fl_X7_39) (eLit 47))) (cCmp 0 (eFld (rLoc 0 35) 39 7 8 0 fl_X7_39) (eLit 37)))) (pSeq (pSeq (pSet 5 (eFld (rLoc 0 35) 39 7 8 0 fl_X7_39)) (pSeq (pDo (.invokevirtual 42) (lkV (T := TX7) (N := 11) mf_X7_go mv_X7_go ml_X7_42 rfl rfl rfl (by decide) (by decide)) MX7_go (aR (rLoc 0 35) (aI (eLit 0) aNil))) (pSeq (pSet 6 (eCall (.invokevirtual 93) (lkV (T := TX7) (N := 11) mf_X7_factor mv_X7_factor ml_X7_93 rfl rfl rfl (by decide) (by decide)) MX7_factor_f3 (aR (rLoc 0 35) (aI (eLoc 1) (aI (eLoc 2) aNil))))) (pIf 71 79 126 (cCmp 0 (eLoc 5) (eLit 42)) (pSet 3 (eBin 2 (eLoc 3) (eLoc 6))) (pIf 84 107 126 (cCmp0 0 (eLoc 6)) (pPut (rLoc 0 35) 61 7 10 3 fw_X7_61 (eIte 96 100 101 (cOr 92 (cCmp0 1 (eFld (rLoc 0 35) 61 7 10 3 fl_X7_61)) (cCmp0 1 (eLoc 2))) (eLit 1) (eLit 0))) (pSet 3 (eIte 114 121 125 (cCmp 0 (eLoc 5) (eLit 47)) (eBin 9 (eLoc 3) (eLoc 6)) (eBin 10 (eLoc 3) (eLoc 6))))))))) (pInc 4 1)))) (pRet 0 134 (eLoc 3))))
set_option maxRecDepth 100000 in
def MX7_product_f3 : MP wdX yX7_product cX7_product 7 (some .int) 11 [.inr 35, .inl 0, .inl 0] := mkM scX7_product_f3 yX7_product [.inr 35, .inl 0, .inl 0] bX7_product_f3 (by decide +kernel) rfl rfl (by decide) (by decide +kernel)
abbrev scX7_sum_f3 : ik_SC := (wdX, cX7_sum, 7, RX7, [(0, 35)], 12, some .int)
set_option maxRecDepth 100000 in
def bX7_sum_f3 : SP scX7_sum_f3 := (pSeq (pSet 3 (eCall (.invokevirtual 90) (lkV (T := TX7) (N := 11) mf_X7_product mv_X7_product ml_X7_90 rfl rfl rfl (by decide) (by decide)) MX7_product_f3 (aR (rLoc 0 35) (aI (eLoc 1) (aI (eLoc 2) aNil))))) (pSeq (pSeq (pSet 4 (eLit 0)) (pWh 36 88 88 (cAnd 18 (cCmp 2 (eLoc 4) (eLit 160)) (cOr 27 (cCmp 0 (eFld (rLoc 0 35) 39 7 8 0 fl_X7_39) (eLit 43)) (cCmp 0 (eFld (rLoc 0 35) 39 7 8 0 fl_X7_39) (eLit 45)))) (pSeq (pSeq (pSet 5 (eIte 45 49 50 (cCmp 0 (eFld (rLoc 0 35) 39 7 8 0 fl_X7_39) (eLit 43)) (eLit 1) (eLit 0))) (pSeq (pDo (.invokevirtual 42) (lkV (T := TX7) (N := 11) mf_X7_go mv_X7_go ml_X7_42 rfl rfl rfl (by decide) (by decide)) MX7_go (aR (rLoc 0 35) (aI (eLit 0) aNil))) (pSeq (pSet 6 (eCall (.invokevirtual 90) (lkV (T := TX7) (N := 11) mf_X7_product mv_X7_product ml_X7_90 rfl rfl rfl (by decide) (by decide)) MX7_product_f3 (aR (rLoc 0 35) (aI (eLoc 1) (aI (eLoc 2) aNil))))) (pSet 3 (eIte 70 77 81 (cCmp0 1 (eLoc 5)) (eBin 0 (eLoc 3) (eLoc 6)) (eBin 1 (eLoc 3) (eLoc 6))))))) (pInc 4 1)))) (pRet 0 90 (eLoc 3))))
set_option maxRecDepth 100000 in
def MX7_sum_f3 : MP wdX yX7_sum cX7_sum 7 (some .int) 12 [.inr 35, .inl 0, .inl 0] := mkM scX7_sum_f3 yX7_sum [.inr 35, .inl 0, .inl 0] bX7_sum_f3 (by decide +kernel) rfl rfl (by decide) (by decide +kernel)
abbrev scX7_piece_f3 : ik_SC := (wdX, cX7_piece, 6, RX7, [(0, 35)], 16, some .boolean)
set_option maxRecDepth 100000 in
def bX7_piece_f3 : SP scX7_piece_f3 := (pSeq (pIf 18 25 25 (cOr 9 (cCmp 0 (eFld (rLoc 0 35) 39 7 8 0 fl_X7_39) (eLit 33)) (cCmp 0 (eFld (rLoc 0 35) 39 7 8 0 fl_X7_39) (eLit 40))) (pRet 3 25 (eCall (.invokevirtual 83) (lkV (T := TX7) (N := 11) mf_X7_nested mv_X7_nested ml_X7_83 rfl rfl rfl (by decide) (by decide)) MX7_nested_f3 (aR (rLoc 0 35) (aI (eLoc 1) (aI (eLoc 2) aNil))))) pSkip) (pSeq (pSet 3 (eCall (.invokevirtual 86) (lkV (T := TX7) (N := 11) mf_X7_sum mv_X7_sum ml_X7_86 rfl rfl rfl (by decide) (by decide)) MX7_sum_f3 (aR (rLoc 0 35) (aI (eLoc 1) (aI (eLoc 2) aNil))))) (pSeq (pSet 4 (eFld (rLoc 0 35) 39 7 8 0 fl_X7_39)) (pSeq (pDo (.invokevirtual 42) (lkV (T := TX7) (N := 11) mf_X7_go mv_X7_go ml_X7_42 rfl rfl rfl (by decide) (by decide)) MX7_go (aR (rLoc 0 35) (aI (eIte 60 64 65 (cOr 53 (cOr 46 (cCmp 0 (eLoc 4) (eLit 60)) (cCmp 0 (eLoc 4) (eLit 62))) (cCmp 0 (eLoc 4) (eLit 61))) (eLit 0) (eLit 1)) aNil))) (pSeq (pSet 5 (eCall (.invokevirtual 86) (lkV (T := TX7) (N := 11) mf_X7_sum mv_X7_sum ml_X7_86 rfl rfl rfl (by decide) (by decide)) MX7_sum_f3 (aR (rLoc 0 35) (aI (eLoc 1) (aI (eLoc 2) aNil))))) (pRet 3 130 (eIte 83 97 129 (cCmp 0 (eLoc 4) (eLit 60)) (eIte 89 93 129 (cCmp 2 (eLoc 3) (eLoc 5)) (eLit 1) (eLit 0)) (eIte 104 118 129 (cCmp 0 (eLoc 4) (eLit 62)) (eIte 110 114 129 (cCmp 4 (eLoc 3) (eLoc 5)) (eLit 1) (eLit 0)) (eIte 124 128 129 (cCmp 0 (eLoc 3) (eLoc 5)) (eLit 1) (eLit 0))))))))))
set_option maxRecDepth 100000 in
def MX7_piece_f3 : MP wdX yX7_piece cX7_piece 6 (some .boolean) 16 [.inr 35, .inl 0, .inl 0] := mkM scX7_piece_f3 yX7_piece [.inr 35, .inl 0, .inl 0] bX7_piece_f3 (by decide +kernel) rfl rfl (by decide) (by decide +kernel)
abbrev scX7_part_f3 : ik_SC := (wdX, cX7_part, 6, RX7, [(0, 35)], 17, some .boolean)
set_option maxRecDepth 100000 in
def bX7_part_f3 : SP scX7_part_f3 := (pSeq (pSet 3 (eCall (.invokevirtual 80) (lkV (T := TX7) (N := 11) mf_X7_piece mv_X7_piece ml_X7_80 rfl rfl rfl (by decide) (by decide)) MX7_piece_f3 (aR (rLoc 0 35) (aI (eLoc 1) (aI (eLoc 2) aNil))))) (pSeq (pSeq (pSet 4 (eLit 0)) (pWh 27 73 73 (cAnd 18 (cCmp 2 (eLoc 4) (eLit 160)) (cCmp 0 (eFld (rLoc 0 35) 39 7 8 0 fl_X7_39) (eLit 38))) (pSeq (pSeq (pDo (.invokevirtual 42) (lkV (T := TX7) (N := 11) mf_X7_go mv_X7_go ml_X7_42 rfl rfl rfl (by decide) (by decide)) MX7_go (aR (rLoc 0 35) (aI (eLit 0) aNil))) (pSeq (pSet 5 (eCall (.invokevirtual 80) (lkV (T := TX7) (N := 11) mf_X7_piece mv_X7_piece ml_X7_80 rfl rfl rfl (by decide) (by decide)) MX7_piece_f3 (aR (rLoc 0 35) (aI (eLoc 1) (aI (eIte 42 46 47 (cAnd 38 (cCmp0 1 (eLoc 2)) (cCmp0 1 (eLoc 3))) (eLit 1) (eLit 0)) aNil))))) (pSet 3 (eIte 61 65 66 (cAnd 56 (cCmp0 1 (eLoc 3)) (cCmp0 1 (eLoc 5))) (eLit 1) (eLit 0))))) (pInc 4 1)))) (pRet 3 75 (eLoc 3))))
set_option maxRecDepth 100000 in
def MX7_part_f3 : MP wdX yX7_part cX7_part 6 (some .boolean) 17 [.inr 35, .inl 0, .inl 0] := mkM scX7_part_f3 yX7_part [.inr 35, .inl 0, .inl 0] bX7_part_f3 (by decide +kernel) rfl rfl (by decide) (by decide +kernel)
abbrev scX7_condition_f3 : ik_SC := (wdX, cX7_condition, 6, RX7, [(0, 35)], 18, some .boolean)
set_option maxRecDepth 100000 in
def bX7_condition_f3 : SP scX7_condition_f3 := (pSeq (pSet 3 (eCall (.invokevirtual 77) (lkV (T := TX7) (N := 11) mf_X7_part mv_X7_part ml_X7_77 rfl rfl rfl (by decide) (by decide)) MX7_part_f3 (aR (rLoc 0 35) (aI (eLoc 1) (aI (eLoc 2) aNil))))) (pSeq (pSeq (pSet 4 (eLit 0)) (pWh 27 73 73 (cAnd 18 (cCmp 2 (eLoc 4) (eLit 160)) (cCmp 0 (eFld (rLoc 0 35) 39 7 8 0 fl_X7_39) (eLit 124))) (pSeq (pSeq (pDo (.invokevirtual 42) (lkV (T := TX7) (N := 11) mf_X7_go mv_X7_go ml_X7_42 rfl rfl rfl (by decide) (by decide)) MX7_go (aR (rLoc 0 35) (aI (eLit 0) aNil))) (pSeq (pSet 5 (eCall (.invokevirtual 77) (lkV (T := TX7) (N := 11) mf_X7_part mv_X7_part ml_X7_77 rfl rfl rfl (by decide) (by decide)) MX7_part_f3 (aR (rLoc 0 35) (aI (eLoc 1) (aI (eIte 42 46 47 (cAnd 38 (cCmp0 1 (eLoc 2)) (cNot (cCmp0 1 (eLoc 3)))) (eLit 1) (eLit 0)) aNil))))) (pSet 3 (eIte 61 65 66 (cOr 56 (cCmp0 1 (eLoc 3)) (cCmp0 1 (eLoc 5))) (eLit 1) (eLit 0))))) (pInc 4 1)))) (pRet 3 75 (eLoc 3))))
set_option maxRecDepth 100000 in
def MX7_condition_f3 : MP wdX yX7_condition cX7_condition 6 (some .boolean) 18 [.inr 35, .inl 0, .inl 0] := mkM scX7_condition_f3 yX7_condition [.inr 35, .inl 0, .inl 0] bX7_condition_f3 (by decide +kernel) rfl rfl (by decide) (by decide +kernel)
abbrev scX7_nested_f4 : ik_SC := (wdX, cX7_nested, 5, RX7, [(0, 35)], 19, some .boolean)
set_option maxRecDepth 100000 in
def bX7_nested_f4 : SP scX7_nested_f4 := (pSeq (pSet 3 (eFld (rLoc 0 35) 39 7 8 0 fl_X7_39)) (pSeq (pDo (.invokevirtual 42) (lkV (T := TX7) (N := 11) mf_X7_go mv_X7_go ml_X7_42 rfl rfl rfl (by decide) (by decide)) MX7_go (aR (rLoc 0 35) (aI (eIte 12 16 17 (cCmp 2 (eLoc 1) (eLit 6)) (eLit 0) (eLit 5)) aNil))) (pSeq (pIf 26 28 28 (cCmp 3 (eLoc 1) (eLit 6)) (pRet 3 28 (eLit 0)) pSkip) (pSeq (pIf 34 51 51 (cCmp 0 (eLoc 3) (eLit 33)) (pRet 3 51 (eIte 45 49 50 (cNot (cCmp0 1 (eCall (.invokevirtual 80) (lkV (T := TX7) (N := 11) mf_X7_piece mv_X7_piece ml_X7_80 rfl rfl rfl (by decide) (by decide)) MX7_piece_f3 (aR (rLoc 0 35) (aI (eBin 0 (eLoc 1) (eLit 1)) (aI (eLoc 2) aNil)))))) (eLit 1) (eLit 0))) pSkip) (pSeq (pSet 4 (eCall (.invokevirtual 57) (lkV (T := TX7) (N := 11) mf_X7_condition mv_X7_condition ml_X7_57 rfl rfl rfl (by decide) (by decide)) MX7_condition_f3 (aR (rLoc 0 35) (aI (eBin 0 (eLoc 1) (eLit 1)) (aI (eLoc 2) aNil))))) (pSeq (pDo (.invokevirtual 42) (lkV (T := TX7) (N := 11) mf_X7_go mv_X7_go ml_X7_42 rfl rfl rfl (by decide) (by decide)) MX7_go (aR (rLoc 0 35) (aI (eIte 71 75 76 (cCmp 0 (eFld (rLoc 0 35) 39 7 8 0 fl_X7_39) (eLit 41)) (eLit 0) (eLit 1)) aNil))) (pRet 3 82 (eLoc 4))))))))
set_option maxRecDepth 100000 in
def MX7_nested_f4 : MP wdX yX7_nested cX7_nested 5 (some .boolean) 19 [.inr 35, .inl 0, .inl 0] := mkM scX7_nested_f4 yX7_nested [.inr 35, .inl 0, .inl 0] bX7_nested_f4 (by decide +kernel) rfl rfl (by decide) (by decide +kernel)
abbrev scX7_factor_f4 : ik_SC := (wdX, cX7_factor, 6, RX7, [(0, 35)], 13, some .int)
set_option maxRecDepth 100000 in
def bX7_factor_f4 : SP scX7_factor_f4 := (pSeq (pIf 9 63 63 (cCmp 0 (eFld (rLoc 0 35) 39 7 8 0 fl_X7_39) (eLit 91)) (pSeq (pDo (.invokevirtual 42) (lkV (T := TX7) (N := 11) mf_X7_go mv_X7_go ml_X7_42 rfl rfl rfl (by decide) (by decide)) MX7_go (aR (rLoc 0 35) (aI (eIte 16 20 21 (cCmp 2 (eLoc 1) (eLit 6)) (eLit 0) (eLit 5)) aNil))) (pSeq (pSet 3 (eIte 30 41 42 (cCmp 2 (eLoc 1) (eLit 6)) (eCall (.invokevirtual 86) (lkV (T := TX7) (N := 11) mf_X7_sum mv_X7_sum ml_X7_86 rfl rfl rfl (by decide) (by decide)) MX7_sum_f3 (aR (rLoc 0 35) (aI (eBin 0 (eLoc 1) (eLit 1)) (aI (eLoc 2) aNil)))) (eLit 0))) (pSeq (pDo (.invokevirtual 42) (lkV (T := TX7) (N := 11) mf_X7_go mv_X7_go ml_X7_42 rfl rfl rfl (by decide) (by decide)) MX7_go (aR (rLoc 0 35) (aI (eIte 53 57 58 (cCmp 0 (eFld (rLoc 0 35) 39 7 8 0 fl_X7_39) (eLit 93)) (eLit 0) (eLit 1)) aNil))) (pRet 0 63 (eLoc 3))))) pSkip) (pSeq (pSet 3 (eLit 0)) (pSeq (pSet 4 (eLit 0)) (pSeq (pWh 84 118 118 (cAnd 74 (cCmp 5 (eLoc 4) (eLit 5)) (cCmp0 1 (eCall (.invokestatic 73) (lkN mf_X11_isDigit ms_X11_isDigit ml_X7_73 rfl (by decide) (by decide)) MX11_isDigit (aI (eFld (rLoc 0 35) 39 7 8 0 fl_X7_39) aNil)))) (pSeq (pSeq (pSet 3 (eBin 1 (eBin 0 (eBin 2 (eLit 10) (eLoc 3)) (eFld (rLoc 0 35) 39 7 8 0 fl_X7_39)) (eLit 48))) (pDo (.invokevirtual 42) (lkV (T := TX7) (N := 11) mf_X7_go mv_X7_go ml_X7_42 rfl rfl rfl (by decide) (by decide)) MX7_go (aR (rLoc 0 35) (aI (eIte 104 108 109 (cCmp 2 (eLoc 4) (eLit 5)) (eLit 0) (eLit 2)) aNil)))) (pInc 4 1))) (pSeq (pIf 123 125 125 (cCmp0 4 (eLoc 4)) (pRet 0 125 (eLoc 3)) pSkip) (pSeq (pSet 5 (eBin 1 (eFld (rLoc 0 35) 39 7 8 0 fl_X7_39) (eLit 97))) (pSeq (pDo (.invokevirtual 42) (lkV (T := TX7) (N := 11) mf_X7_go mv_X7_go ml_X7_42 rfl rfl rfl (by decide) (by decide)) MX7_go (aR (rLoc 0 35) (aI (eIte 145 149 150 (cCmp0 1 (eCall (.invokestatic 96) (lkS mf_X7_isFact ms_X7_isFact ml_X7_96 rfl (by decide) (by decide)) MX7_isFact (aI (eFld (rLoc 0 35) 39 7 8 0 fl_X7_39) aNil))) (eLit 0) (eLit 1)) aNil))) (pRet 0 177 (eIte 165 175 176 (cAnd 158 (cCmp0 3 (eLoc 5)) (cCmp 2 (eLoc 5) (eLit 26))) (eArr 0 26 (rFld (rLoc 0 35) 18 7 2 38 fl_X7_18) (eLoc 5)) (eLit 0))))))))))
set_option maxRecDepth 100000 in
def MX7_factor_f4 : MP wdX yX7_factor cX7_factor 6 (some .int) 13 [.inr 35, .inl 0, .inl 0] := mkM scX7_factor_f4 yX7_factor [.inr 35, .inl 0, .inl 0] bX7_factor_f4 (by decide +kernel) rfl rfl (by decide) (by decide +kernel)
abbrev scX7_product_f4 : ik_SC := (wdX, cX7_product, 7, RX7, [(0, 35)], 14, some .int)
set_option maxRecDepth 100000 in
def bX7_product_f4 : SP scX7_product_f4 := (pSeq (pSet 3 (eCall (.invokevirtual 93) (lkV (T := TX7) (N := 11) mf_X7_factor mv_X7_factor ml_X7_93 rfl rfl rfl (by decide) (by decide)) MX7_factor_f4 (aR (rLoc 0 35) (aI (eLoc 1) (aI (eLoc 2) aNil))))) (pSeq (pSeq (pSet 4 (eLit 0)) (pWh 45 132 132 (cAnd 18 (cCmp 2 (eLoc 4) (eLit 160)) (cOr 36 (cOr 27 (cCmp 0 (eFld (rLoc 0 35) 39 7 8 0 fl_X7_39) (eLit 42)) (cCmp 0 (eFld (rLoc 0 35) 39 7 8 0 fl_X7_39) (eLit 47))) (cCmp 0 (eFld (rLoc 0 35) 39 7 8 0 fl_X7_39) (eLit 37)))) (pSeq (pSeq (pSet 5 (eFld (rLoc 0 35) 39 7 8 0 fl_X7_39)) (pSeq (pDo (.invokevirtual 42) (lkV (T := TX7) (N := 11) mf_X7_go mv_X7_go ml_X7_42 rfl rfl rfl (by decide) (by decide)) MX7_go (aR (rLoc 0 35) (aI (eLit 0) aNil))) (pSeq (pSet 6 (eCall (.invokevirtual 93) (lkV (T := TX7) (N := 11) mf_X7_factor mv_X7_factor ml_X7_93 rfl rfl rfl (by decide) (by decide)) MX7_factor_f4 (aR (rLoc 0 35) (aI (eLoc 1) (aI (eLoc 2) aNil))))) (pIf 71 79 126 (cCmp 0 (eLoc 5) (eLit 42)) (pSet 3 (eBin 2 (eLoc 3) (eLoc 6))) (pIf 84 107 126 (cCmp0 0 (eLoc 6)) (pPut (rLoc 0 35) 61 7 10 3 fw_X7_61 (eIte 96 100 101 (cOr 92 (cCmp0 1 (eFld (rLoc 0 35) 61 7 10 3 fl_X7_61)) (cCmp0 1 (eLoc 2))) (eLit 1) (eLit 0))) (pSet 3 (eIte 114 121 125 (cCmp 0 (eLoc 5) (eLit 47)) (eBin 9 (eLoc 3) (eLoc 6)) (eBin 10 (eLoc 3) (eLoc 6))))))))) (pInc 4 1)))) (pRet 0 134 (eLoc 3))))
set_option maxRecDepth 100000 in
def MX7_product_f4 : MP wdX yX7_product cX7_product 7 (some .int) 14 [.inr 35, .inl 0, .inl 0] := mkM scX7_product_f4 yX7_product [.inr 35, .inl 0, .inl 0] bX7_product_f4 (by decide +kernel) rfl rfl (by decide) (by decide +kernel)
abbrev scX7_sum_f4 : ik_SC := (wdX, cX7_sum, 7, RX7, [(0, 35)], 15, some .int)
set_option maxRecDepth 100000 in
def bX7_sum_f4 : SP scX7_sum_f4 := (pSeq (pSet 3 (eCall (.invokevirtual 90) (lkV (T := TX7) (N := 11) mf_X7_product mv_X7_product ml_X7_90 rfl rfl rfl (by decide) (by decide)) MX7_product_f4 (aR (rLoc 0 35) (aI (eLoc 1) (aI (eLoc 2) aNil))))) (pSeq (pSeq (pSet 4 (eLit 0)) (pWh 36 88 88 (cAnd 18 (cCmp 2 (eLoc 4) (eLit 160)) (cOr 27 (cCmp 0 (eFld (rLoc 0 35) 39 7 8 0 fl_X7_39) (eLit 43)) (cCmp 0 (eFld (rLoc 0 35) 39 7 8 0 fl_X7_39) (eLit 45)))) (pSeq (pSeq (pSet 5 (eIte 45 49 50 (cCmp 0 (eFld (rLoc 0 35) 39 7 8 0 fl_X7_39) (eLit 43)) (eLit 1) (eLit 0))) (pSeq (pDo (.invokevirtual 42) (lkV (T := TX7) (N := 11) mf_X7_go mv_X7_go ml_X7_42 rfl rfl rfl (by decide) (by decide)) MX7_go (aR (rLoc 0 35) (aI (eLit 0) aNil))) (pSeq (pSet 6 (eCall (.invokevirtual 90) (lkV (T := TX7) (N := 11) mf_X7_product mv_X7_product ml_X7_90 rfl rfl rfl (by decide) (by decide)) MX7_product_f4 (aR (rLoc 0 35) (aI (eLoc 1) (aI (eLoc 2) aNil))))) (pSet 3 (eIte 70 77 81 (cCmp0 1 (eLoc 5)) (eBin 0 (eLoc 3) (eLoc 6)) (eBin 1 (eLoc 3) (eLoc 6))))))) (pInc 4 1)))) (pRet 0 90 (eLoc 3))))
set_option maxRecDepth 100000 in
def MX7_sum_f4 : MP wdX yX7_sum cX7_sum 7 (some .int) 15 [.inr 35, .inl 0, .inl 0] := mkM scX7_sum_f4 yX7_sum [.inr 35, .inl 0, .inl 0] bX7_sum_f4 (by decide +kernel) rfl rfl (by decide) (by decide +kernel)
abbrev scX7_piece_f4 : ik_SC := (wdX, cX7_piece, 6, RX7, [(0, 35)], 20, some .boolean)
set_option maxRecDepth 100000 in
def bX7_piece_f4 : SP scX7_piece_f4 := (pSeq (pIf 18 25 25 (cOr 9 (cCmp 0 (eFld (rLoc 0 35) 39 7 8 0 fl_X7_39) (eLit 33)) (cCmp 0 (eFld (rLoc 0 35) 39 7 8 0 fl_X7_39) (eLit 40))) (pRet 3 25 (eCall (.invokevirtual 83) (lkV (T := TX7) (N := 11) mf_X7_nested mv_X7_nested ml_X7_83 rfl rfl rfl (by decide) (by decide)) MX7_nested_f4 (aR (rLoc 0 35) (aI (eLoc 1) (aI (eLoc 2) aNil))))) pSkip) (pSeq (pSet 3 (eCall (.invokevirtual 86) (lkV (T := TX7) (N := 11) mf_X7_sum mv_X7_sum ml_X7_86 rfl rfl rfl (by decide) (by decide)) MX7_sum_f4 (aR (rLoc 0 35) (aI (eLoc 1) (aI (eLoc 2) aNil))))) (pSeq (pSet 4 (eFld (rLoc 0 35) 39 7 8 0 fl_X7_39)) (pSeq (pDo (.invokevirtual 42) (lkV (T := TX7) (N := 11) mf_X7_go mv_X7_go ml_X7_42 rfl rfl rfl (by decide) (by decide)) MX7_go (aR (rLoc 0 35) (aI (eIte 60 64 65 (cOr 53 (cOr 46 (cCmp 0 (eLoc 4) (eLit 60)) (cCmp 0 (eLoc 4) (eLit 62))) (cCmp 0 (eLoc 4) (eLit 61))) (eLit 0) (eLit 1)) aNil))) (pSeq (pSet 5 (eCall (.invokevirtual 86) (lkV (T := TX7) (N := 11) mf_X7_sum mv_X7_sum ml_X7_86 rfl rfl rfl (by decide) (by decide)) MX7_sum_f4 (aR (rLoc 0 35) (aI (eLoc 1) (aI (eLoc 2) aNil))))) (pRet 3 130 (eIte 83 97 129 (cCmp 0 (eLoc 4) (eLit 60)) (eIte 89 93 129 (cCmp 2 (eLoc 3) (eLoc 5)) (eLit 1) (eLit 0)) (eIte 104 118 129 (cCmp 0 (eLoc 4) (eLit 62)) (eIte 110 114 129 (cCmp 4 (eLoc 3) (eLoc 5)) (eLit 1) (eLit 0)) (eIte 124 128 129 (cCmp 0 (eLoc 3) (eLoc 5)) (eLit 1) (eLit 0))))))))))
set_option maxRecDepth 100000 in
def MX7_piece_f4 : MP wdX yX7_piece cX7_piece 6 (some .boolean) 20 [.inr 35, .inl 0, .inl 0] := mkM scX7_piece_f4 yX7_piece [.inr 35, .inl 0, .inl 0] bX7_piece_f4 (by decide +kernel) rfl rfl (by decide) (by decide +kernel)
abbrev scX7_part_f4 : ik_SC := (wdX, cX7_part, 6, RX7, [(0, 35)], 21, some .boolean)
set_option maxRecDepth 100000 in
def bX7_part_f4 : SP scX7_part_f4 := (pSeq (pSet 3 (eCall (.invokevirtual 80) (lkV (T := TX7) (N := 11) mf_X7_piece mv_X7_piece ml_X7_80 rfl rfl rfl (by decide) (by decide)) MX7_piece_f4 (aR (rLoc 0 35) (aI (eLoc 1) (aI (eLoc 2) aNil))))) (pSeq (pSeq (pSet 4 (eLit 0)) (pWh 27 73 73 (cAnd 18 (cCmp 2 (eLoc 4) (eLit 160)) (cCmp 0 (eFld (rLoc 0 35) 39 7 8 0 fl_X7_39) (eLit 38))) (pSeq (pSeq (pDo (.invokevirtual 42) (lkV (T := TX7) (N := 11) mf_X7_go mv_X7_go ml_X7_42 rfl rfl rfl (by decide) (by decide)) MX7_go (aR (rLoc 0 35) (aI (eLit 0) aNil))) (pSeq (pSet 5 (eCall (.invokevirtual 80) (lkV (T := TX7) (N := 11) mf_X7_piece mv_X7_piece ml_X7_80 rfl rfl rfl (by decide) (by decide)) MX7_piece_f4 (aR (rLoc 0 35) (aI (eLoc 1) (aI (eIte 42 46 47 (cAnd 38 (cCmp0 1 (eLoc 2)) (cCmp0 1 (eLoc 3))) (eLit 1) (eLit 0)) aNil))))) (pSet 3 (eIte 61 65 66 (cAnd 56 (cCmp0 1 (eLoc 3)) (cCmp0 1 (eLoc 5))) (eLit 1) (eLit 0))))) (pInc 4 1)))) (pRet 3 75 (eLoc 3))))
set_option maxRecDepth 100000 in
def MX7_part_f4 : MP wdX yX7_part cX7_part 6 (some .boolean) 21 [.inr 35, .inl 0, .inl 0] := mkM scX7_part_f4 yX7_part [.inr 35, .inl 0, .inl 0] bX7_part_f4 (by decide +kernel) rfl rfl (by decide) (by decide +kernel)
abbrev scX7_condition_f4 : ik_SC := (wdX, cX7_condition, 6, RX7, [(0, 35)], 22, some .boolean)
set_option maxRecDepth 100000 in
def bX7_condition_f4 : SP scX7_condition_f4 := (pSeq (pSet 3 (eCall (.invokevirtual 77) (lkV (T := TX7) (N := 11) mf_X7_part mv_X7_part ml_X7_77 rfl rfl rfl (by decide) (by decide)) MX7_part_f4 (aR (rLoc 0 35) (aI (eLoc 1) (aI (eLoc 2) aNil))))) (pSeq (pSeq (pSet 4 (eLit 0)) (pWh 27 73 73 (cAnd 18 (cCmp 2 (eLoc 4) (eLit 160)) (cCmp 0 (eFld (rLoc 0 35) 39 7 8 0 fl_X7_39) (eLit 124))) (pSeq (pSeq (pDo (.invokevirtual 42) (lkV (T := TX7) (N := 11) mf_X7_go mv_X7_go ml_X7_42 rfl rfl rfl (by decide) (by decide)) MX7_go (aR (rLoc 0 35) (aI (eLit 0) aNil))) (pSeq (pSet 5 (eCall (.invokevirtual 77) (lkV (T := TX7) (N := 11) mf_X7_part mv_X7_part ml_X7_77 rfl rfl rfl (by decide) (by decide)) MX7_part_f4 (aR (rLoc 0 35) (aI (eLoc 1) (aI (eIte 42 46 47 (cAnd 38 (cCmp0 1 (eLoc 2)) (cNot (cCmp0 1 (eLoc 3)))) (eLit 1) (eLit 0)) aNil))))) (pSet 3 (eIte 61 65 66 (cOr 56 (cCmp0 1 (eLoc 3)) (cCmp0 1 (eLoc 5))) (eLit 1) (eLit 0))))) (pInc 4 1)))) (pRet 3 75 (eLoc 3))))
set_option maxRecDepth 100000 in
def MX7_condition_f4 : MP wdX yX7_condition cX7_condition 6 (some .boolean) 22 [.inr 35, .inl 0, .inl 0] := mkM scX7_condition_f4 yX7_condition [.inr 35, .inl 0, .inl 0] bX7_condition_f4 (by decide +kernel) rfl rfl (by decide) (by decide +kernel)
abbrev scX7_nested_f5 : ik_SC := (wdX, cX7_nested, 5, RX7, [(0, 35)], 23, some .boolean)
set_option maxRecDepth 100000 in
def bX7_nested_f5 : SP scX7_nested_f5 := (pSeq (pSet 3 (eFld (rLoc 0 35) 39 7 8 0 fl_X7_39)) (pSeq (pDo (.invokevirtual 42) (lkV (T := TX7) (N := 11) mf_X7_go mv_X7_go ml_X7_42 rfl rfl rfl (by decide) (by decide)) MX7_go (aR (rLoc 0 35) (aI (eIte 12 16 17 (cCmp 2 (eLoc 1) (eLit 6)) (eLit 0) (eLit 5)) aNil))) (pSeq (pIf 26 28 28 (cCmp 3 (eLoc 1) (eLit 6)) (pRet 3 28 (eLit 0)) pSkip) (pSeq (pIf 34 51 51 (cCmp 0 (eLoc 3) (eLit 33)) (pRet 3 51 (eIte 45 49 50 (cNot (cCmp0 1 (eCall (.invokevirtual 80) (lkV (T := TX7) (N := 11) mf_X7_piece mv_X7_piece ml_X7_80 rfl rfl rfl (by decide) (by decide)) MX7_piece_f4 (aR (rLoc 0 35) (aI (eBin 0 (eLoc 1) (eLit 1)) (aI (eLoc 2) aNil)))))) (eLit 1) (eLit 0))) pSkip) (pSeq (pSet 4 (eCall (.invokevirtual 57) (lkV (T := TX7) (N := 11) mf_X7_condition mv_X7_condition ml_X7_57 rfl rfl rfl (by decide) (by decide)) MX7_condition_f4 (aR (rLoc 0 35) (aI (eBin 0 (eLoc 1) (eLit 1)) (aI (eLoc 2) aNil))))) (pSeq (pDo (.invokevirtual 42) (lkV (T := TX7) (N := 11) mf_X7_go mv_X7_go ml_X7_42 rfl rfl rfl (by decide) (by decide)) MX7_go (aR (rLoc 0 35) (aI (eIte 71 75 76 (cCmp 0 (eFld (rLoc 0 35) 39 7 8 0 fl_X7_39) (eLit 41)) (eLit 0) (eLit 1)) aNil))) (pRet 3 82 (eLoc 4))))))))
set_option maxRecDepth 100000 in
def MX7_nested_f5 : MP wdX yX7_nested cX7_nested 5 (some .boolean) 23 [.inr 35, .inl 0, .inl 0] := mkM scX7_nested_f5 yX7_nested [.inr 35, .inl 0, .inl 0] bX7_nested_f5 (by decide +kernel) rfl rfl (by decide) (by decide +kernel)
abbrev scX7_factor_f5 : ik_SC := (wdX, cX7_factor, 6, RX7, [(0, 35)], 16, some .int)
set_option maxRecDepth 100000 in
def bX7_factor_f5 : SP scX7_factor_f5 := (pSeq (pIf 9 63 63 (cCmp 0 (eFld (rLoc 0 35) 39 7 8 0 fl_X7_39) (eLit 91)) (pSeq (pDo (.invokevirtual 42) (lkV (T := TX7) (N := 11) mf_X7_go mv_X7_go ml_X7_42 rfl rfl rfl (by decide) (by decide)) MX7_go (aR (rLoc 0 35) (aI (eIte 16 20 21 (cCmp 2 (eLoc 1) (eLit 6)) (eLit 0) (eLit 5)) aNil))) (pSeq (pSet 3 (eIte 30 41 42 (cCmp 2 (eLoc 1) (eLit 6)) (eCall (.invokevirtual 86) (lkV (T := TX7) (N := 11) mf_X7_sum mv_X7_sum ml_X7_86 rfl rfl rfl (by decide) (by decide)) MX7_sum_f4 (aR (rLoc 0 35) (aI (eBin 0 (eLoc 1) (eLit 1)) (aI (eLoc 2) aNil)))) (eLit 0))) (pSeq (pDo (.invokevirtual 42) (lkV (T := TX7) (N := 11) mf_X7_go mv_X7_go ml_X7_42 rfl rfl rfl (by decide) (by decide)) MX7_go (aR (rLoc 0 35) (aI (eIte 53 57 58 (cCmp 0 (eFld (rLoc 0 35) 39 7 8 0 fl_X7_39) (eLit 93)) (eLit 0) (eLit 1)) aNil))) (pRet 0 63 (eLoc 3))))) pSkip) (pSeq (pSet 3 (eLit 0)) (pSeq (pSet 4 (eLit 0)) (pSeq (pWh 84 118 118 (cAnd 74 (cCmp 5 (eLoc 4) (eLit 5)) (cCmp0 1 (eCall (.invokestatic 73) (lkN mf_X11_isDigit ms_X11_isDigit ml_X7_73 rfl (by decide) (by decide)) MX11_isDigit (aI (eFld (rLoc 0 35) 39 7 8 0 fl_X7_39) aNil)))) (pSeq (pSeq (pSet 3 (eBin 1 (eBin 0 (eBin 2 (eLit 10) (eLoc 3)) (eFld (rLoc 0 35) 39 7 8 0 fl_X7_39)) (eLit 48))) (pDo (.invokevirtual 42) (lkV (T := TX7) (N := 11) mf_X7_go mv_X7_go ml_X7_42 rfl rfl rfl (by decide) (by decide)) MX7_go (aR (rLoc 0 35) (aI (eIte 104 108 109 (cCmp 2 (eLoc 4) (eLit 5)) (eLit 0) (eLit 2)) aNil)))) (pInc 4 1))) (pSeq (pIf 123 125 125 (cCmp0 4 (eLoc 4)) (pRet 0 125 (eLoc 3)) pSkip) (pSeq (pSet 5 (eBin 1 (eFld (rLoc 0 35) 39 7 8 0 fl_X7_39) (eLit 97))) (pSeq (pDo (.invokevirtual 42) (lkV (T := TX7) (N := 11) mf_X7_go mv_X7_go ml_X7_42 rfl rfl rfl (by decide) (by decide)) MX7_go (aR (rLoc 0 35) (aI (eIte 145 149 150 (cCmp0 1 (eCall (.invokestatic 96) (lkS mf_X7_isFact ms_X7_isFact ml_X7_96 rfl (by decide) (by decide)) MX7_isFact (aI (eFld (rLoc 0 35) 39 7 8 0 fl_X7_39) aNil))) (eLit 0) (eLit 1)) aNil))) (pRet 0 177 (eIte 165 175 176 (cAnd 158 (cCmp0 3 (eLoc 5)) (cCmp 2 (eLoc 5) (eLit 26))) (eArr 0 26 (rFld (rLoc 0 35) 18 7 2 38 fl_X7_18) (eLoc 5)) (eLit 0))))))))))
set_option maxRecDepth 100000 in
def MX7_factor_f5 : MP wdX yX7_factor cX7_factor 6 (some .int) 16 [.inr 35, .inl 0, .inl 0] := mkM scX7_factor_f5 yX7_factor [.inr 35, .inl 0, .inl 0] bX7_factor_f5 (by decide +kernel) rfl rfl (by decide) (by decide +kernel)
abbrev scX7_product_f5 : ik_SC := (wdX, cX7_product, 7, RX7, [(0, 35)], 17, some .int)
set_option maxRecDepth 100000 in
def bX7_product_f5 : SP scX7_product_f5 := (pSeq (pSet 3 (eCall (.invokevirtual 93) (lkV (T := TX7) (N := 11) mf_X7_factor mv_X7_factor ml_X7_93 rfl rfl rfl (by decide) (by decide)) MX7_factor_f5 (aR (rLoc 0 35) (aI (eLoc 1) (aI (eLoc 2) aNil))))) (pSeq (pSeq (pSet 4 (eLit 0)) (pWh 45 132 132 (cAnd 18 (cCmp 2 (eLoc 4) (eLit 160)) (cOr 36 (cOr 27 (cCmp 0 (eFld (rLoc 0 35) 39 7 8 0 fl_X7_39) (eLit 42)) (cCmp 0 (eFld (rLoc 0 35) 39 7 8 0 fl_X7_39) (eLit 47))) (cCmp 0 (eFld (rLoc 0 35) 39 7 8 0 fl_X7_39) (eLit 37)))) (pSeq (pSeq (pSet 5 (eFld (rLoc 0 35) 39 7 8 0 fl_X7_39)) (pSeq (pDo (.invokevirtual 42) (lkV (T := TX7) (N := 11) mf_X7_go mv_X7_go ml_X7_42 rfl rfl rfl (by decide) (by decide)) MX7_go (aR (rLoc 0 35) (aI (eLit 0) aNil))) (pSeq (pSet 6 (eCall (.invokevirtual 93) (lkV (T := TX7) (N := 11) mf_X7_factor mv_X7_factor ml_X7_93 rfl rfl rfl (by decide) (by decide)) MX7_factor_f5 (aR (rLoc 0 35) (aI (eLoc 1) (aI (eLoc 2) aNil))))) (pIf 71 79 126 (cCmp 0 (eLoc 5) (eLit 42)) (pSet 3 (eBin 2 (eLoc 3) (eLoc 6))) (pIf 84 107 126 (cCmp0 0 (eLoc 6)) (pPut (rLoc 0 35) 61 7 10 3 fw_X7_61 (eIte 96 100 101 (cOr 92 (cCmp0 1 (eFld (rLoc 0 35) 61 7 10 3 fl_X7_61)) (cCmp0 1 (eLoc 2))) (eLit 1) (eLit 0))) (pSet 3 (eIte 114 121 125 (cCmp 0 (eLoc 5) (eLit 47)) (eBin 9 (eLoc 3) (eLoc 6)) (eBin 10 (eLoc 3) (eLoc 6))))))))) (pInc 4 1)))) (pRet 0 134 (eLoc 3))))
set_option maxRecDepth 100000 in
def MX7_product_f5 : MP wdX yX7_product cX7_product 7 (some .int) 17 [.inr 35, .inl 0, .inl 0] := mkM scX7_product_f5 yX7_product [.inr 35, .inl 0, .inl 0] bX7_product_f5 (by decide +kernel) rfl rfl (by decide) (by decide +kernel)
abbrev scX7_sum_f5 : ik_SC := (wdX, cX7_sum, 7, RX7, [(0, 35)], 18, some .int)
set_option maxRecDepth 100000 in
def bX7_sum_f5 : SP scX7_sum_f5 := (pSeq (pSet 3 (eCall (.invokevirtual 90) (lkV (T := TX7) (N := 11) mf_X7_product mv_X7_product ml_X7_90 rfl rfl rfl (by decide) (by decide)) MX7_product_f5 (aR (rLoc 0 35) (aI (eLoc 1) (aI (eLoc 2) aNil))))) (pSeq (pSeq (pSet 4 (eLit 0)) (pWh 36 88 88 (cAnd 18 (cCmp 2 (eLoc 4) (eLit 160)) (cOr 27 (cCmp 0 (eFld (rLoc 0 35) 39 7 8 0 fl_X7_39) (eLit 43)) (cCmp 0 (eFld (rLoc 0 35) 39 7 8 0 fl_X7_39) (eLit 45)))) (pSeq (pSeq (pSet 5 (eIte 45 49 50 (cCmp 0 (eFld (rLoc 0 35) 39 7 8 0 fl_X7_39) (eLit 43)) (eLit 1) (eLit 0))) (pSeq (pDo (.invokevirtual 42) (lkV (T := TX7) (N := 11) mf_X7_go mv_X7_go ml_X7_42 rfl rfl rfl (by decide) (by decide)) MX7_go (aR (rLoc 0 35) (aI (eLit 0) aNil))) (pSeq (pSet 6 (eCall (.invokevirtual 90) (lkV (T := TX7) (N := 11) mf_X7_product mv_X7_product ml_X7_90 rfl rfl rfl (by decide) (by decide)) MX7_product_f5 (aR (rLoc 0 35) (aI (eLoc 1) (aI (eLoc 2) aNil))))) (pSet 3 (eIte 70 77 81 (cCmp0 1 (eLoc 5)) (eBin 0 (eLoc 3) (eLoc 6)) (eBin 1 (eLoc 3) (eLoc 6))))))) (pInc 4 1)))) (pRet 0 90 (eLoc 3))))
set_option maxRecDepth 100000 in
def MX7_sum_f5 : MP wdX yX7_sum cX7_sum 7 (some .int) 18 [.inr 35, .inl 0, .inl 0] := mkM scX7_sum_f5 yX7_sum [.inr 35, .inl 0, .inl 0] bX7_sum_f5 (by decide +kernel) rfl rfl (by decide) (by decide +kernel)
abbrev scX7_piece_f5 : ik_SC := (wdX, cX7_piece, 6, RX7, [(0, 35)], 24, some .boolean)
set_option maxRecDepth 100000 in
def bX7_piece_f5 : SP scX7_piece_f5 := (pSeq (pIf 18 25 25 (cOr 9 (cCmp 0 (eFld (rLoc 0 35) 39 7 8 0 fl_X7_39) (eLit 33)) (cCmp 0 (eFld (rLoc 0 35) 39 7 8 0 fl_X7_39) (eLit 40))) (pRet 3 25 (eCall (.invokevirtual 83) (lkV (T := TX7) (N := 11) mf_X7_nested mv_X7_nested ml_X7_83 rfl rfl rfl (by decide) (by decide)) MX7_nested_f5 (aR (rLoc 0 35) (aI (eLoc 1) (aI (eLoc 2) aNil))))) pSkip) (pSeq (pSet 3 (eCall (.invokevirtual 86) (lkV (T := TX7) (N := 11) mf_X7_sum mv_X7_sum ml_X7_86 rfl rfl rfl (by decide) (by decide)) MX7_sum_f5 (aR (rLoc 0 35) (aI (eLoc 1) (aI (eLoc 2) aNil))))) (pSeq (pSet 4 (eFld (rLoc 0 35) 39 7 8 0 fl_X7_39)) (pSeq (pDo (.invokevirtual 42) (lkV (T := TX7) (N := 11) mf_X7_go mv_X7_go ml_X7_42 rfl rfl rfl (by decide) (by decide)) MX7_go (aR (rLoc 0 35) (aI (eIte 60 64 65 (cOr 53 (cOr 46 (cCmp 0 (eLoc 4) (eLit 60)) (cCmp 0 (eLoc 4) (eLit 62))) (cCmp 0 (eLoc 4) (eLit 61))) (eLit 0) (eLit 1)) aNil))) (pSeq (pSet 5 (eCall (.invokevirtual 86) (lkV (T := TX7) (N := 11) mf_X7_sum mv_X7_sum ml_X7_86 rfl rfl rfl (by decide) (by decide)) MX7_sum_f5 (aR (rLoc 0 35) (aI (eLoc 1) (aI (eLoc 2) aNil))))) (pRet 3 130 (eIte 83 97 129 (cCmp 0 (eLoc 4) (eLit 60)) (eIte 89 93 129 (cCmp 2 (eLoc 3) (eLoc 5)) (eLit 1) (eLit 0)) (eIte 104 118 129 (cCmp 0 (eLoc 4) (eLit 62)) (eIte 110 114 129 (cCmp 4 (eLoc 3) (eLoc 5)) (eLit 1) (eLit 0)) (eIte 124 128 129 (cCmp 0 (eLoc 3) (eLoc 5)) (eLit 1) (eLit 0))))))))))
set_option maxRecDepth 100000 in
def MX7_piece_f5 : MP wdX yX7_piece cX7_piece 6 (some .boolean) 24 [.inr 35, .inl 0, .inl 0] := mkM scX7_piece_f5 yX7_piece [.inr 35, .inl 0, .inl 0] bX7_piece_f5 (by decide +kernel) rfl rfl (by decide) (by decide +kernel)
abbrev scX7_part_f5 : ik_SC := (wdX, cX7_part, 6, RX7, [(0, 35)], 25, some .boolean)
set_option maxRecDepth 100000 in
def bX7_part_f5 : SP scX7_part_f5 := (pSeq (pSet 3 (eCall (.invokevirtual 80) (lkV (T := TX7) (N := 11) mf_X7_piece mv_X7_piece ml_X7_80 rfl rfl rfl (by decide) (by decide)) MX7_piece_f5 (aR (rLoc 0 35) (aI (eLoc 1) (aI (eLoc 2) aNil))))) (pSeq (pSeq (pSet 4 (eLit 0)) (pWh 27 73 73 (cAnd 18 (cCmp 2 (eLoc 4) (eLit 160)) (cCmp 0 (eFld (rLoc 0 35) 39 7 8 0 fl_X7_39) (eLit 38))) (pSeq (pSeq (pDo (.invokevirtual 42) (lkV (T := TX7) (N := 11) mf_X7_go mv_X7_go ml_X7_42 rfl rfl rfl (by decide) (by decide)) MX7_go (aR (rLoc 0 35) (aI (eLit 0) aNil))) (pSeq (pSet 5 (eCall (.invokevirtual 80) (lkV (T := TX7) (N := 11) mf_X7_piece mv_X7_piece ml_X7_80 rfl rfl rfl (by decide) (by decide)) MX7_piece_f5 (aR (rLoc 0 35) (aI (eLoc 1) (aI (eIte 42 46 47 (cAnd 38 (cCmp0 1 (eLoc 2)) (cCmp0 1 (eLoc 3))) (eLit 1) (eLit 0)) aNil))))) (pSet 3 (eIte 61 65 66 (cAnd 56 (cCmp0 1 (eLoc 3)) (cCmp0 1 (eLoc 5))) (eLit 1) (eLit 0))))) (pInc 4 1)))) (pRet 3 75 (eLoc 3))))
set_option maxRecDepth 100000 in
def MX7_part_f5 : MP wdX yX7_part cX7_part 6 (some .boolean) 25 [.inr 35, .inl 0, .inl 0] := mkM scX7_part_f5 yX7_part [.inr 35, .inl 0, .inl 0] bX7_part_f5 (by decide +kernel) rfl rfl (by decide) (by decide +kernel)
abbrev scX7_condition_f5 : ik_SC := (wdX, cX7_condition, 6, RX7, [(0, 35)], 26, some .boolean)
set_option maxRecDepth 100000 in
def bX7_condition_f5 : SP scX7_condition_f5 := (pSeq (pSet 3 (eCall (.invokevirtual 77) (lkV (T := TX7) (N := 11) mf_X7_part mv_X7_part ml_X7_77 rfl rfl rfl (by decide) (by decide)) MX7_part_f5 (aR (rLoc 0 35) (aI (eLoc 1) (aI (eLoc 2) aNil))))) (pSeq (pSeq (pSet 4 (eLit 0)) (pWh 27 73 73 (cAnd 18 (cCmp 2 (eLoc 4) (eLit 160)) (cCmp 0 (eFld (rLoc 0 35) 39 7 8 0 fl_X7_39) (eLit 124))) (pSeq (pSeq (pDo (.invokevirtual 42) (lkV (T := TX7) (N := 11) mf_X7_go mv_X7_go ml_X7_42 rfl rfl rfl (by decide) (by decide)) MX7_go (aR (rLoc 0 35) (aI (eLit 0) aNil))) (pSeq (pSet 5 (eCall (.invokevirtual 77) (lkV (T := TX7) (N := 11) mf_X7_part mv_X7_part ml_X7_77 rfl rfl rfl (by decide) (by decide)) MX7_part_f5 (aR (rLoc 0 35) (aI (eLoc 1) (aI (eIte 42 46 47 (cAnd 38 (cCmp0 1 (eLoc 2)) (cNot (cCmp0 1 (eLoc 3)))) (eLit 1) (eLit 0)) aNil))))) (pSet 3 (eIte 61 65 66 (cOr 56 (cCmp0 1 (eLoc 3)) (cCmp0 1 (eLoc 5))) (eLit 1) (eLit 0))))) (pInc 4 1)))) (pRet 3 75 (eLoc 3))))
set_option maxRecDepth 100000 in
def MX7_condition_f5 : MP wdX yX7_condition cX7_condition 6 (some .boolean) 26 [.inr 35, .inl 0, .inl 0] := mkM scX7_condition_f5 yX7_condition [.inr 35, .inl 0, .inl 0] bX7_condition_f5 (by decide +kernel) rfl rfl (by decide) (by decide +kernel)
abbrev scX7_clause : ik_SC := (wdX, cX7_clause, 3, RX7, [(0, 35)], 27, none)
set_option maxRecDepth 100000 in
def bX7_clause : SP scX7_clause := (pSeq (pSeq (pSet 2 (eIte 6 10 24 (cCmp 3 (eLoc 1) (eLit 12)) (eLit 4) (eIte 19 23 24 (cCmp 4 (eFld (rLoc 0 35) 39 7 8 0 fl_X7_39) (eLit 51)) (eLit 3) (eLit 0)))) (pSeq (pDo (.invokevirtual 42) (lkV (T := TX7) (N := 11) mf_X7_go mv_X7_go ml_X7_42 rfl rfl rfl (by decide) (by decide)) MX7_go (aR (rLoc 0 35) (aI (eIte 36 40 41 (cCmp0 1 (eCall (.invokestatic 73) (lkN mf_X11_isDigit ms_X11_isDigit ml_X7_73 rfl (by decide) (by decide)) MX11_isDigit (aI (eFld (rLoc 0 35) 39 7 8 0 fl_X7_39) aNil))) (eLoc 2) (eLit 1)) aNil))) (pSeq (pDo (.invokevirtual 42) (lkV (T := TX7) (N := 11) mf_X7_go mv_X7_go ml_X7_42 rfl rfl rfl (by decide) (by decide)) MX7_go (aR (rLoc 0 35) (aI (eIte 54 58 59 (cCmp 0 (eFld (rLoc 0 35) 39 7 8 0 fl_X7_39) (eLit 40)) (eLit 0) (eLit 1)) aNil))) (pSeq (pPop (eCall (.invokevirtual 57) (lkV (T := TX7) (N := 11) mf_X7_condition mv_X7_condition ml_X7_57 rfl rfl rfl (by decide) (by decide)) MX7_condition_f5 (aR (rLoc 0 35) (aI (eLit 1) (aI (eLit 0) aNil))))) (pDo (.invokevirtual 42) (lkV (T := TX7) (N := 11) mf_X7_go mv_X7_go ml_X7_42 rfl rfl rfl (by decide) (by decide)) MX7_go (aR (rLoc 0 35) (aI (eIte 79 83 84 (cCmp 0 (eFld (rLoc 0 35) 39 7 8 0 fl_X7_39) (eLit 41)) (eLit 0) (eLit 1)) aNil))))))) (pRetV 88))
set_option maxRecDepth 100000 in
def MX7_clause : MP wdX yX7_clause cX7_clause 3 (none) 27 [.inr 35, .inl 0] := mkM scX7_clause yX7_clause [.inr 35, .inl 0] bX7_clause (by decide +kernel) rfl rfl (by decide) (by decide +kernel)
abbrev scX7_take : ik_SC := (wdX, cX7_take, 5, RX7, [(0, 35), (1, 1)], 28, some .int)
set_option maxRecDepth 100000 in
def bX7_take : SP scX7_take := (pSeq (pSeq (pSet 3 (eLit 0)) (pWh 14 31 31 (cAnd 7 (cCmp 2 (eLoc 3) (eLoc 2)) (cCmp 2 (eLoc 3) (eLit 160))) (pSeq (pAst 0 160 (rFld (rLoc 0 35) 15 7 1 37 fl_X7_15) (eLoc 3) (eCall (.invokevirtual 25) (lkV (T := TX9) (N := 2) mf_X9_at mv_X9_at ml_X7_25 rfl rfl rfl (by decide) (by decide)) MX9_at (aR (rLoc 1 1) (aI (eLoc 3) aNil)))) (pInc 3 1)))) (pSeq (pDo (.invokevirtual 31) (lkV (T := TX7) (N := 11) mf_X7_begin mv_X7_begin ml_X7_31 rfl rfl rfl (by decide) (by decide)) MX7_begin (aR (rLoc 0 35) (aI (eLit 0) (aI (eLit 0) (aI (eLoc 2) aNil))))) (pSeq (pSet 3 (eLit 0)) (pSeq (pSeq (pSet 4 (eLit 0)) (pWhB 50 96 69 72 96 (cCmp 5 (eLoc 4) (eLit 12)) (pSeq (pDo (.invokevirtual 35) (lkV (T := TX7) (N := 11) mf_X7_clause mv_X7_clause ml_X7_35 rfl rfl rfl (by decide) (by decide)) MX7_clause (aR (rLoc 0 35) (aI (eLoc 4) aNil))) (pSet 3 (eBin 0 (eLoc 4) (eLit 1)))) (cCmp 0 (eFld (rLoc 0 35) 39 7 8 0 fl_X7_39) (eLit (-1))) (pSeq (pDo (.invokevirtual 42) (lkV (T := TX7) (N := 11) mf_X7_go mv_X7_go ml_X7_42 rfl rfl rfl (by decide) (by decide)) MX7_go (aR (rLoc 0 35) (aI (eIte 82 86 87 (cCmp 0 (eFld (rLoc 0 35) 39 7 8 0 fl_X7_39) (eLit 59)) (eLit 0) (eLit 1)) aNil))) (pInc 4 1)))) (pSeq (pIf 103 108 108 (cCmp0 1 (eFld (rLoc 0 35) 45 7 9 0 fl_X7_45)) (pRet 0 108 (eFld (rLoc 0 35) 45 7 9 0 fl_X7_45)) pSkip) (pSeq (pCopy 48 160 160 160 acp_X7_48 (by decide) (rFld (rLoc 0 35) 15 7 1 37 fl_X7_15) (rFld (rLoc 0 35) 9 7 0 36 fl_X7_9) (eLit 0) (eLit 0) (eLit 160) rfl rfl rfl (by decide)) (pSeq (pPut (rLoc 0 35) 54 7 3 0 fw_X7_54 (eLoc 2)) (pSeq (pPut (rLoc 0 35) 21 7 4 0 fw_X7_21 (eLoc 3)) (pRet 0 136 (eLit 0))))))))))
set_option maxRecDepth 100000 in
def MX7_take : MP wdX yX7_take cX7_take 5 (some .int) 28 [.inr 35, .inr 1, .inl 0] := mkM scX7_take yX7_take [.inr 35, .inr 1, .inl 0] bX7_take (by decide +kernel) rfl rfl (by decide) (by decide +kernel)
abbrev scX7_clauses : ik_SC := (wdX, cX7_clauses, 1, RX7, [(0, 35)], 0, some .int)
set_option maxRecDepth 100000 in
def bX7_clauses : SP scX7_clauses := (pRet 0 5 (eFld (rLoc 0 35) 21 7 4 0 fl_X7_21))
set_option maxRecDepth 100000 in
def MX7_clauses : MP wdX yX7_clauses cX7_clauses 1 (some .int) 0 [.inr 35] := mkM scX7_clauses yX7_clauses [.inr 35] bX7_clauses (by decide +kernel) rfl rfl (by decide) (by decide +kernel)
abbrev scX11_rules : ik_SC := (wdX, cX11_rules, 3, RX11, [(0, 0)], 29, some .int)
set_option maxRecDepth 100000 in
def bX11_rules : SP scX11_rules := (pSeq (pIf 22 24 24 (cOr 11 (cNot (cCmp0 1 (eCall (.invokestatic 82) (lkS mf_X11_within ms_X11_within ml_X11_82 rfl (by decide) (by decide)) MX11_within (aI (eLoc 1) (aI (eLit 1) (aI (eLit 160) aNil)))))) (cCmp 2 (eCall (.invokevirtual 105) (lkV (T := TX9) (N := 2) mf_X9_length mv_X9_length ml_X11_105 rfl rfl rfl (by decide) (by decide)) MX9_length (aR (rFld (rLoc 0 0) 10 11 0 1 fl_X11_10) aNil)) (eLoc 1))) (pRet 0 24 (eLit (-1))) pSkip) (pSeq (pSet 2 (eCall (.invokevirtual 145) (lkV (T := TX7) (N := 11) mf_X7_take mv_X7_take ml_X11_145 rfl rfl rfl (by decide) (by decide)) MX7_take (aR (rFld (rLoc 0 0) 47 11 5 35 fl_X11_47) (aR (rFld (rLoc 0 0) 10 11 0 1 fl_X11_10) (aI (eLoc 1) aNil))))) (pSeq (pDo (.invokevirtual 117) (lkV (T := TX9) (N := 2) mf_X9_clear mv_X9_clear ml_X11_117 rfl rfl rfl (by decide) (by decide)) MX9_clear (aR (rFld (rLoc 0 0) 10 11 0 1 fl_X11_10) aNil)) (pSeq (pIf 48 51 51 (cCmp0 1 (eLoc 2)) (pRet 0 51 (eUn 0 (eLoc 2))) pSkip) (pSeq (pDo (.invokevirtual 90) (lkV (T := TX11) (N := 15) mf_X11_changed mv_X11_changed ml_X11_90 rfl rfl rfl (by decide) (by decide)) MX11_changed (aR (rLoc 0 0) aNil)) (pRet 0 63 (eCall (.invokevirtual 149) (lkV (T := TX7) (N := 11) mf_X7_clauses mv_X7_clauses ml_X11_149 rfl rfl rfl (by decide) (by decide)) MX7_clauses (aR (rFld (rLoc 0 0) 47 11 5 35 fl_X11_47) aNil))))))))
set_option maxRecDepth 100000 in
def MX11_rules : MP wdX yX11_rules cX11_rules 3 (some .int) 29 [.inr 0, .inl 0] := mkM scX11_rules yX11_rules [.inr 0, .inl 0] bX11_rules (by decide +kernel) rfl rfl (by decide) (by decide +kernel)
end
section
abbrev scX0_has : ik_SC := (wdX, cX0_has, 2, RX0, [(0, 15)], 0, some .boolean)
set_option maxRecDepth 100000 in
def bX0_has : SP scX0_has := (pRet 3 23 (eIte 17 21 22 (cAnd 12 (cAnd 4 (cCmp0 3 (eLoc 1)) (cCmp 2 (eLoc 1) (eFld (rLoc 0 15) 39 0 9 0 fl_X0_39))) (cCmp 2 (eLoc 1) (eLit 4))) (eLit 1) (eLit 0)))
set_option maxRecDepth 100000 in
def MX0_has : MP wdX yX0_has cX0_has 2 (some .boolean) 0 [.inr 15, .inl 0] := mkM scX0_has yX0_has [.inr 15, .inl 0] bX0_has (by decide +kernel) rfl rfl (by decide) (by decide +kernel)
abbrev scX0_tiesFull : ik_SC := (wdX, cX0_tiesFull, 1, RX0, [(0, 15)], 0, some .boolean)
set_option maxRecDepth 100000 in
def bX0_tiesFull : SP scX0_tiesFull := (pRet 3 15 (eIte 9 13 14 (cCmp 3 (eFld (rLoc 0 15) 43 0 10 0 fl_X0_43) (eLit 20)) (eLit 1) (eLit 0)))
set_option maxRecDepth 100000 in
def MX0_tiesFull : MP wdX yX0_tiesFull cX0_tiesFull 1 (some .boolean) 0 [.inr 15] := mkM scX0_tiesFull yX0_tiesFull [.inr 15] bX0_tiesFull (by decide +kernel) rfl rfl (by decide) (by decide +kernel)
abbrev scX0_addTie : ik_SC := (wdX, cX0_addTie, 4, RX0, [(0, 15)], 1, none)
set_option maxRecDepth 100000 in
def bX0_addTie : SP scX0_addTie := (pSeq (pIf 14 54 54 (cAnd 7 (cNot (cCmp0 1 (eCall (.invokevirtual 53) (lkV (T := TX0) (N := 12) mf_X0_tiesFull mv_X0_tiesFull ml_X0_53 rfl rfl rfl (by decide) (by decide)) MX0_tiesFull (aR (rLoc 0 15) aNil)))) (cCmp0 3 (eFld (rLoc 0 15) 43 0 10 0 fl_X0_43))) (pSeq (pAst 0 20 (rFld (rLoc 0 15) 21 0 3 19 fl_X0_21) (eFld (rLoc 0 15) 43 0 10 0 fl_X0_43) (eLoc 1)) (pSeq (pAst 0 20 (rFld (rLoc 0 15) 24 0 4 20 fl_X0_24) (eFld (rLoc 0 15) 43 0 10 0 fl_X0_43) (eLoc 2)) (pSeq (pAst 0 20 (rFld (rLoc 0 15) 27 0 5 21 fl_X0_27) (eFld (rLoc 0 15) 43 0 10 0 fl_X0_43) (eLoc 3)) (pPutOp (rLoc 0 15) 43 0 10 0 fw_X0_43 (eLit 1))))) pSkip) (pRetV 55))
set_option maxRecDepth 100000 in
def MX0_addTie : MP wdX yX0_addTie cX0_addTie 4 (none) 1 [.inr 15, .inl 0, .inl 0, .inl 0] := mkM scX0_addTie yX0_addTie [.inr 15, .inl 0, .inl 0, .inl 0] bX0_addTie (by decide +kernel) rfl rfl (by decide) (by decide +kernel)
abbrev scX11_tie : ik_SC := (wdX, cX11_tie, 4, RX11, [(0, 0)], 2, some .boolean)
set_option maxRecDepth 100000 in
def bX11_tie : SP scX11_tie := (pSeq (pIf 46 48 48 (cOr 36 (cOr 31 (cOr 20 (cOr 9 (cNot (cCmp0 1 (eCall (.invokestatic 82) (lkS mf_X11_within ms_X11_within ml_X11_82 rfl (by decide) (by decide)) MX11_within (aI (eLoc 1) (aI (eLit 0) (aI (eLit 2) aNil)))))) (cNot (cCmp0 1 (eCall (.invokevirtual 152) (lkV (T := TX0) (N := 12) mf_X0_has mv_X0_has ml_X11_152 rfl rfl rfl (by decide) (by decide)) MX0_has (aR (rFld (rLoc 0 0) 33 11 3 15 fl_X11_33) (aI (eLoc 2) aNil)))))) (cNot (cCmp0 1 (eCall (.invokevirtual 152) (lkV (T := TX0) (N := 12) mf_X0_has mv_X0_has ml_X11_152 rfl rfl rfl (by decide) (by decide)) MX0_has (aR (rFld (rLoc 0 0) 33 11 3 15 fl_X11_33) (aI (eLoc 3) aNil)))))) (cCmp 0 (eLoc 2) (eLoc 3))) (cCmp0 1 (eCall (.invokevirtual 153) (lkV (T := TX0) (N := 12) mf_X0_tiesFull mv_X0_tiesFull ml_X11_153 rfl rfl rfl (by decide) (by decide)) MX0_tiesFull (aR (rFld (rLoc 0 0) 33 11 3 15 fl_X11_33) aNil)))) (pRet 3 48 (eLit 0)) pSkip) (pSeq (pDo (.invokevirtual 156) (lkV (T := TX0) (N := 12) mf_X0_addTie mv_X0_addTie ml_X11_156 rfl rfl rfl (by decide) (by decide)) MX0_addTie (aR (rFld (rLoc 0 0) 33 11 3 15 fl_X11_33) (aI (eLoc 1) (aI (eLoc 2) (aI (eLoc 3) aNil))))) (pSeq (pDo (.invokevirtual 90) (lkV (T := TX11) (N := 15) mf_X11_changed mv_X11_changed ml_X11_90 rfl rfl rfl (by decide) (by decide)) MX11_changed (aR (rLoc 0 0) aNil)) (pRet 3 64 (eLit 1)))))
set_option maxRecDepth 100000 in
def MX11_tie : MP wdX yX11_tie cX11_tie 4 (some .boolean) 2 [.inr 0, .inl 0, .inl 0, .inl 0] := mkM scX11_tie yX11_tie [.inr 0, .inl 0, .inl 0, .inl 0] bX11_tie (by decide +kernel) rfl rfl (by decide) (by decide +kernel)
abbrev scX0_listsFull : ik_SC := (wdX, cX0_listsFull, 1, RX0, [(0, 15)], 0, some .boolean)
set_option maxRecDepth 100000 in
def bX0_listsFull : SP scX0_listsFull := (pRet 3 15 (eIte 9 13 14 (cCmp 3 (eFld (rLoc 0 15) 46 0 11 0 fl_X0_46) (eLit 20)) (eLit 1) (eLit 0)))
set_option maxRecDepth 100000 in
def MX0_listsFull : MP wdX yX0_listsFull cX0_listsFull 1 (some .boolean) 0 [.inr 15] := mkM scX0_listsFull yX0_listsFull [.inr 15] bX0_listsFull (by decide +kernel) rfl rfl (by decide) (by decide +kernel)
abbrev scX0_addListed : ik_SC := (wdX, cX0_addListed, 4, RX0, [(0, 15)], 1, none)
set_option maxRecDepth 100000 in
def bX0_addListed : SP scX0_addListed := (pSeq (pIf 14 54 54 (cAnd 7 (cNot (cCmp0 1 (eCall (.invokevirtual 56) (lkV (T := TX0) (N := 12) mf_X0_listsFull mv_X0_listsFull ml_X0_56 rfl rfl rfl (by decide) (by decide)) MX0_listsFull (aR (rLoc 0 15) aNil)))) (cCmp0 3 (eFld (rLoc 0 15) 46 0 11 0 fl_X0_46))) (pSeq (pAst 0 20 (rFld (rLoc 0 15) 30 0 6 22 fl_X0_30) (eFld (rLoc 0 15) 46 0 11 0 fl_X0_46) (eLoc 1)) (pSeq (pAst 0 20 (rFld (rLoc 0 15) 33 0 7 23 fl_X0_33) (eFld (rLoc 0 15) 46 0 11 0 fl_X0_46) (eLoc 2)) (pSeq (pAst 0 20 (rFld (rLoc 0 15) 36 0 8 24 fl_X0_36) (eFld (rLoc 0 15) 46 0 11 0 fl_X0_46) (eLoc 3)) (pPutOp (rLoc 0 15) 46 0 11 0 fw_X0_46 (eLit 1))))) pSkip) (pRetV 55))
set_option maxRecDepth 100000 in
def MX0_addListed : MP wdX yX0_addListed cX0_addListed 4 (none) 1 [.inr 15, .inl 0, .inl 0, .inl 0] := mkM scX0_addListed yX0_addListed [.inr 15, .inl 0, .inl 0, .inl 0] bX0_addListed (by decide +kernel) rfl rfl (by decide) (by decide +kernel)
abbrev scX11_listed : ik_SC := (wdX, cX11_listed, 4, RX11, [(0, 0)], 2, some .boolean)
set_option maxRecDepth 100000 in
def bX11_listed : SP scX11_listed := (pSeq (pIf 21 23 23 (cOr 11 (cNot (cCmp0 1 (eCall (.invokevirtual 152) (lkV (T := TX0) (N := 12) mf_X0_has mv_X0_has ml_X11_152 rfl rfl rfl (by decide) (by decide)) MX0_has (aR (rFld (rLoc 0 0) 33 11 3 15 fl_X11_33) (aI (eLoc 1) aNil))))) (cCmp0 1 (eCall (.invokevirtual 159) (lkV (T := TX0) (N := 12) mf_X0_listsFull mv_X0_listsFull ml_X11_159 rfl rfl rfl (by decide) (by decide)) MX0_listsFull (aR (rFld (rLoc 0 0) 33 11 3 15 fl_X11_33) aNil)))) (pRet 3 23 (eLit 0)) pSkip) (pSeq (pIf 55 57 57 (cOr 39 (cAnd 28 (cCmp 1 (eLoc 2) (eLit (-1))) (cNot (cCmp0 1 (eCall (.invokevirtual 124) (lkV (T := TX6) (N := 7) mf_X6_has mv_X6_has ml_X11_124 rfl rfl rfl (by decide) (by decide)) MX6_has (aR (rFld (rLoc 0 0) 26 11 2 6 fl_X11_26) (aI (eLoc 2) aNil)))))) (cAnd 44 (cCmp 1 (eLoc 3) (eLit (-1))) (cNot (cCmp0 1 (eCall (.invokevirtual 124) (lkV (T := TX6) (N := 7) mf_X6_has mv_X6_has ml_X11_124 rfl rfl rfl (by decide) (by decide)) MX6_has (aR (rFld (rLoc 0 0) 26 11 2 6 fl_X11_26) (aI (eLoc 3) aNil))))))) (pRet 3 57 (eLit 0)) pSkip) (pSeq (pDo (.invokevirtual 162) (lkV (T := TX0) (N := 12) mf_X0_addListed mv_X0_addListed ml_X11_162 rfl rfl rfl (by decide) (by decide)) MX0_addListed (aR (rFld (rLoc 0 0) 33 11 3 15 fl_X11_33) (aI (eLoc 1) (aI (eLoc 2) (aI (eLoc 3) aNil))))) (pSeq (pDo (.invokevirtual 90) (lkV (T := TX11) (N := 15) mf_X11_changed mv_X11_changed ml_X11_90 rfl rfl rfl (by decide) (by decide)) MX11_changed (aR (rLoc 0 0) aNil)) (pRet 3 73 (eLit 1))))))
set_option maxRecDepth 100000 in
def MX11_listed : MP wdX yX11_listed cX11_listed 4 (some .boolean) 2 [.inr 0, .inl 0, .inl 0, .inl 0] := mkM scX11_listed yX11_listed [.inr 0, .inl 0, .inl 0, .inl 0] bX11_listed (by decide +kernel) rfl rfl (by decide) (by decide +kernel)
abbrev scX11_isHouse : ik_SC := (wdX, cX11_isHouse, 1, RX11, [], 1, some .boolean)
set_option maxRecDepth 100000 in
def bX11_isHouse : SP scX11_isHouse := (pRet 3 7 (eCall (.invokestatic 82) (lkS mf_X11_within ms_X11_within ml_X11_82 rfl (by decide) (by decide)) MX11_within (aI (eLoc 0) (aI (eLit 0) (aI (eLit 3) aNil)))))
set_option maxRecDepth 100000 in
def MX11_isHouse : MP wdX yX11_isHouse cX11_isHouse 1 (some .boolean) 1 [.inl 0] := mkM scX11_isHouse yX11_isHouse [.inl 0] bX11_isHouse (by decide +kernel) rfl rfl (by decide) (by decide +kernel)
abbrev scX3_full : ik_SC := (wdX, cX3_full, 1, RX3, [(0, 39)], 0, some .boolean)
set_option maxRecDepth 100000 in
def bX3_full : SP scX3_full := (pRet 3 15 (eIte 9 13 14 (cCmp 3 (eFld (rLoc 0 39) 19 3 3 0 fl_X3_19) (eLit 60)) (eLit 1) (eLit 0)))
set_option maxRecDepth 100000 in
def MX3_full : MP wdX yX3_full cX3_full 1 (some .boolean) 0 [.inr 39] := mkM scX3_full yX3_full [.inr 39] bX3_full (by decide +kernel) rfl rfl (by decide) (by decide +kernel)
abbrev scX3_add : ik_SC := (wdX, cX3_add, 4, RX3, [(0, 39)], 1, none)
set_option maxRecDepth 100000 in
def bX3_add : SP scX3_add := (pSeq (pIf 14 54 54 (cAnd 7 (cNot (cCmp0 1 (eCall (.invokevirtual 23) (lkV (T := TX3) (N := 4) mf_X3_full mv_X3_full ml_X3_23 rfl rfl rfl (by decide) (by decide)) MX3_full (aR (rLoc 0 39) aNil)))) (cCmp0 3 (eFld (rLoc 0 39) 19 3 3 0 fl_X3_19))) (pSeq (pAst 0 60 (rFld (rLoc 0 39) 9 3 0 40 fl_X3_9) (eFld (rLoc 0 39) 19 3 3 0 fl_X3_19) (eLoc 1)) (pSeq (pAst 0 60 (rFld (rLoc 0 39) 13 3 1 41 fl_X3_13) (eFld (rLoc 0 39) 19 3 3 0 fl_X3_19) (eLoc 2)) (pSeq (pAst 0 60 (rFld (rLoc 0 39) 16 3 2 42 fl_X3_16) (eFld (rLoc 0 39) 19 3 3 0 fl_X3_19) (eLoc 3)) (pPutOp (rLoc 0 39) 19 3 3 0 fw_X3_19 (eLit 1))))) pSkip) (pRetV 55))
set_option maxRecDepth 100000 in
def MX3_add : MP wdX yX3_add cX3_add 4 (none) 1 [.inr 39, .inl 0, .inl 0, .inl 0] := mkM scX3_add yX3_add [.inr 39, .inl 0, .inl 0, .inl 0] bX3_add (by decide +kernel) rfl rfl (by decide) (by decide +kernel)
abbrev scX11_lifted : ik_SC := (wdX, cX11_lifted, 4, RX11, [(0, 0)], 2, some .boolean)
set_option maxRecDepth 100000 in
def bX11_lifted : SP scX11_lifted := (pSeq (pIf 39 41 41 (cOr 29 (cOr 18 (cOr 7 (cNot (cCmp0 1 (eCall (.invokestatic 165) (lkS mf_X11_isHouse ms_X11_isHouse ml_X11_165 rfl (by decide) (by decide)) MX11_isHouse (aI (eLoc 1) aNil)))) (cNot (cCmp0 1 (eCall (.invokevirtual 124) (lkV (T := TX6) (N := 7) mf_X6_has mv_X6_has ml_X11_124 rfl rfl rfl (by decide) (by decide)) MX6_has (aR (rFld (rLoc 0 0) 26 11 2 6 fl_X11_26) (aI (eLoc 2) aNil)))))) (cNot (cCmp0 1 (eCall (.invokestatic 82) (lkS mf_X11_within ms_X11_within ml_X11_82 rfl (by decide) (by decide)) MX11_within (aI (eLoc 3) (aI (eLit 1) (aI (eLit 3000) aNil))))))) (cCmp0 1 (eCall (.invokevirtual 168) (lkV (T := TX3) (N := 4) mf_X3_full mv_X3_full ml_X11_168 rfl rfl rfl (by decide) (by decide)) MX3_full (aR (rFld (rLoc 0 0) 54 11 6 39 fl_X11_54) aNil)))) (pRet 3 41 (eLit 0)) pSkip) (pSeq (pDo (.invokevirtual 169) (lkV (T := TX3) (N := 4) mf_X3_add mv_X3_add ml_X11_169 rfl rfl rfl (by decide) (by decide)) MX3_add (aR (rFld (rLoc 0 0) 54 11 6 39 fl_X11_54) (aI (eLoc 1) (aI (eLoc 2) (aI (eLoc 3) aNil))))) (pSeq (pDo (.invokevirtual 90) (lkV (T := TX11) (N := 15) mf_X11_changed mv_X11_changed ml_X11_90 rfl rfl rfl (by decide) (by decide)) MX11_changed (aR (rLoc 0 0) aNil)) (pRet 3 57 (eLit 1)))))
set_option maxRecDepth 100000 in
def MX11_lifted : MP wdX yX11_lifted cX11_lifted 4 (some .boolean) 2 [.inr 0, .inl 0, .inl 0, .inl 0] := mkM scX11_lifted yX11_lifted [.inr 0, .inl 0, .inl 0, .inl 0] bX11_lifted (by decide +kernel) rfl rfl (by decide) (by decide +kernel)
abbrev scX3_bound : ik_SC := (wdX, cX3_bound, 10, RX3, [(0, 39), (3, 6), (4, 3)], 3, some .int)
set_option maxRecDepth 100000 in
def bX3_bound : SP scX3_bound := (pSeq (pSet 5 (eIte 4 9 10 (cCmp0 1 (eLoc 2)) (eLit 20) (eLit 0))) (pSeq (pSet 6 (eLit 0)) (pSeq (pSeq (pSet 7 (eLit 0)) (pWh 34 129 129 (cAnd 27 (cCmp 2 (eLoc 7) (eFld (rLoc 0 39) 19 3 3 0 fl_X3_19)) (cCmp 2 (eLoc 7) (eLit 60))) (pSeq (pIf 45 123 123 (cCmp 0 (eArr 0 60 (rFld (rLoc 0 39) 9 3 0 40 fl_X3_9) (eLoc 7)) (eLoc 1)) (pSeq (pSet 8 (eBin 1 (eArr 0 60 (rFld (rLoc 0 39) 16 3 2 42 fl_X3_16) (eLoc 7)) (eCall (.invokevirtual 31) (lkV (T := TX6) (N := 7) mf_X6_wide mv_X6_wide ml_X3_31 rfl rfl rfl (by decide) (by decide)) MX6_wide (aR (rLoc 3 6) (aI (eArr 0 60 (rFld (rLoc 0 39) 13 3 1 41 fl_X3_13) (eLoc 7)) (aR (rLoc 4 3) aNil)))))) (pSeq (pSet 9 (eIte 72 87 99 (cCmp0 1 (eLoc 2)) (eIte 79 83 99 (cCmp 4 (eLoc 8) (eLoc 5)) (eLit 1) (eLit 0)) (eIte 94 98 99 (cCmp 2 (eLoc 8) (eLoc 5)) (eLit 1) (eLit 0)))) (pSeq (pSet 5 (eIte 111 116 118 (cOr 106 (cNot (cCmp0 1 (eLoc 6))) (cCmp0 1 (eLoc 9))) (eLoc 8) (eLoc 5))) (pSet 6 (eLit 1))))) pSkip) (pInc 7 1)))) (pRet 0 132 (eLoc 5)))))
set_option maxRecDepth 100000 in
def MX3_bound : MP wdX yX3_bound cX3_bound 10 (some .int) 3 [.inr 39, .inl 0, .inl 0, .inr 6, .inr 3] := mkM scX3_bound yX3_bound [.inr 39, .inl 0, .inl 0, .inr 6, .inr 3] bX3_bound (by decide +kernel) rfl rfl (by decide) (by decide +kernel)
abbrev scX3_least : ik_SC := (wdX, cX3_least, 4, RX3, [(0, 39), (2, 6), (3, 3)], 4, some .int)
set_option maxRecDepth 100000 in
def bX3_least : SP scX3_least := (pRet 0 9 (eCall (.invokevirtual 27) (lkV (T := TX3) (N := 4) mf_X3_bound mv_X3_bound ml_X3_27 rfl rfl rfl (by decide) (by decide)) MX3_bound (aR (rLoc 0 39) (aI (eLoc 1) (aI (eLit 0) (aR (rLoc 2 6) (aR (rLoc 3 3) aNil)))))))
set_option maxRecDepth 100000 in
def MX3_least : MP wdX yX3_least cX3_least 4 (some .int) 4 [.inr 39, .inl 0, .inr 6, .inr 3] := mkM scX3_least yX3_least [.inr 39, .inl 0, .inr 6, .inr 3] bX3_least (by decide +kernel) rfl rfl (by decide) (by decide +kernel)
abbrev scX3_greatest : ik_SC := (wdX, cX3_greatest, 4, RX3, [(0, 39), (2, 6), (3, 3)], 4, some .int)
set_option maxRecDepth 100000 in
def bX3_greatest : SP scX3_greatest := (pRet 0 9 (eCall (.invokevirtual 27) (lkV (T := TX3) (N := 4) mf_X3_bound mv_X3_bound ml_X3_27 rfl rfl rfl (by decide) (by decide)) MX3_bound (aR (rLoc 0 39) (aI (eLoc 1) (aI (eLit 1) (aR (rLoc 2 6) (aR (rLoc 3 3) aNil)))))))
set_option maxRecDepth 100000 in
def MX3_greatest : MP wdX yX3_greatest cX3_greatest 4 (some .int) 4 [.inr 39, .inl 0, .inr 6, .inr 3] := mkM scX3_greatest yX3_greatest [.inr 39, .inl 0, .inr 6, .inr 3] bX3_greatest (by decide +kernel) rfl rfl (by decide) (by decide +kernel)
abbrev scX11_habit : ik_SC := (wdX, cX11_habit, 3, RX11, [(0, 0)], 5, some .int)
set_option maxRecDepth 100000 in
def bX11_habit : SP scX11_habit := (pSeq (pIf 16 20 20 (cOr 7 (cNot (cCmp0 1 (eCall (.invokestatic 165) (lkS mf_X11_isHouse ms_X11_isHouse ml_X11_165 rfl (by decide) (by decide)) MX11_isHouse (aI (eLoc 1) aNil)))) (cNot (cCmp0 1 (eCall (.invokestatic 82) (lkS mf_X11_within ms_X11_within ml_X11_82 rfl (by decide) (by decide)) MX11_within (aI (eLoc 2) (aI (eLit 0) (aI (eLit 1) aNil))))))) (pRet 0 20 (eLit (-10000))) pSkip) (pRet 0 60 (eIte 24 43 59 (cCmp0 0 (eLoc 2)) (eCall (.invokevirtual 171) (lkV (T := TX3) (N := 4) mf_X3_least mv_X3_least ml_X11_171 rfl rfl rfl (by decide) (by decide)) MX3_least (aR (rFld (rLoc 0 0) 54 11 6 39 fl_X11_54) (aI (eLoc 1) (aR (rFld (rLoc 0 0) 26 11 2 6 fl_X11_26) (aR (rFld (rLoc 0 0) 19 11 1 3 fl_X11_19) aNil))))) (eCall (.invokevirtual 175) (lkV (T := TX3) (N := 4) mf_X3_greatest mv_X3_greatest ml_X11_175 rfl rfl rfl (by decide) (by decide)) MX3_greatest (aR (rFld (rLoc 0 0) 54 11 6 39 fl_X11_54) (aI (eLoc 1) (aR (rFld (rLoc 0 0) 26 11 2 6 fl_X11_26) (aR (rFld (rLoc 0 0) 19 11 1 3 fl_X11_19) aNil))))))))
set_option maxRecDepth 100000 in
def MX11_habit : MP wdX yX11_habit cX11_habit 3 (some .int) 5 [.inr 0, .inl 0, .inl 0] := mkM scX11_habit yX11_habit [.inr 0, .inl 0, .inl 0] bX11_habit (by decide +kernel) rfl rfl (by decide) (by decide +kernel)
abbrev scX11_house : ik_SC := (wdX, cX11_house, 2, RX11, [(0, 0)], 2, some .boolean)
set_option maxRecDepth 100000 in
def bX11_house : SP scX11_house := (pSeq (pIf 7 9 9 (cNot (cCmp0 1 (eCall (.invokestatic 165) (lkS mf_X11_isHouse ms_X11_isHouse ml_X11_165 rfl (by decide) (by decide)) MX11_isHouse (aI (eLoc 1) aNil)))) (pRet 3 9 (eLit 0)) pSkip) (pSeq (pPut (rLoc 0 0) 178 11 12 0 fw_X11_178 (eLoc 1)) (pSeq (pDo (.invokevirtual 90) (lkV (T := TX11) (N := 15) mf_X11_changed mv_X11_changed ml_X11_90 rfl rfl rfl (by decide) (by decide)) MX11_changed (aR (rLoc 0 0) aNil)) (pRet 3 20 (eLit 1)))))
set_option maxRecDepth 100000 in
def MX11_house : MP wdX yX11_house cX11_house 2 (some .boolean) 2 [.inr 0, .inl 0] := mkM scX11_house yX11_house [.inr 0, .inl 0] bX11_house (by decide +kernel) rfl rfl (by decide) (by decide +kernel)
abbrev scX6_first : ik_SC := (wdX, cX6_first, 2, RX6, [(0, 6)], 1, some .int)
set_option maxRecDepth 100000 in
def bX6_first : SP scX6_first := (pRet 0 10 (eCall (.invokevirtual 72) (lkV (T := TX10) (N := 3) mf_X10_letter mv_X10_letter ml_X6_72 rfl rfl rfl (by decide) (by decide)) MX10_letter_7 (aR (rFld (rLoc 0 6) 14 6 0 7 fl_X6_14) (aI (eLoc 1) (aI (eLit 0) aNil)))))
set_option maxRecDepth 100000 in
def MX6_first : MP wdX yX6_first cX6_first 2 (some .int) 1 [.inr 6, .inl 0] := mkM scX6_first yX6_first [.inr 6, .inl 0] bX6_first (by decide +kernel) rfl rfl (by decide) (by decide +kernel)
abbrev scX6_vowel : ik_SC := (wdX, cX6_vowel, 3, RX6, [(0, 6)], 2, some .boolean)
set_option maxRecDepth 100000 in
def bX6_vowel : SP scX6_vowel := (pSeq (pSet 2 (eBin 1 (eBin 0 (eCall (.invokevirtual 75) (lkV (T := TX6) (N := 7) mf_X6_first mv_X6_first ml_X6_75 rfl rfl rfl (by decide) (by decide)) MX6_first (aR (rLoc 0 6) (aI (eLoc 1) aNil))) (eLit 97)) (eLit 1))) (pRet 3 47 (eIte 41 45 46 (cOr 35 (cOr 29 (cOr 23 (cOr 17 (cCmp 0 (eLoc 2) (eLit 97)) (cCmp 0 (eLoc 2) (eLit 101))) (cCmp 0 (eLoc 2) (eLit 105))) (cCmp 0 (eLoc 2) (eLit 111))) (cCmp 0 (eLoc 2) (eLit 117))) (eLit 1) (eLit 0))))
set_option maxRecDepth 100000 in
def MX6_vowel : MP wdX yX6_vowel cX6_vowel 3 (some .boolean) 2 [.inr 6, .inl 0] := mkM scX6_vowel yX6_vowel [.inr 6, .inl 0] bX6_vowel (by decide +kernel) rfl rfl (by decide) (by decide +kernel)
abbrev scX11_bit : ik_SC := (wdX, cX11_bit, 2, RX11, [], 0, some .boolean)
set_option maxRecDepth 100000 in
def bX11_bit : SP scX11_bit := (pRet 3 14 (eIte 8 12 13 (cCmp0 1 (eBin 3 (eBin 7 (eLoc 0) (eLoc 1)) (eLit 1))) (eLit 1) (eLit 0)))
set_option maxRecDepth 100000 in
def MX11_bit : MP wdX yX11_bit cX11_bit 2 (some .boolean) 0 [.inl 0, .inl 0] := mkM scX11_bit yX11_bit [.inl 0, .inl 0] bX11_bit (by decide +kernel) rfl rfl (by decide) (by decide +kernel)
abbrev scX8_isBehindA : ik_SC := (wdX, cX8_isBehindA, 2, RX8, [(0, 25)], 1, some .boolean)
set_option maxRecDepth 100000 in
def bX8_isBehindA : SP scX8_isBehindA := (pRet 3 9 (eCall (.invokestatic 98) (lkN mf_X11_bit ms_X11_bit ml_X8_98 rfl (by decide) (by decide)) MX11_bit (aI (eFld (rLoc 0 25) 92 8 9 0 fl_X8_92) (aI (eLoc 1) aNil))))
set_option maxRecDepth 100000 in
def MX8_isBehindA : MP wdX yX8_isBehindA cX8_isBehindA 2 (some .boolean) 1 [.inr 25, .inl 0] := mkM scX8_isBehindA yX8_isBehindA [.inr 25, .inl 0] bX8_isBehindA (by decide +kernel) rfl rfl (by decide) (by decide +kernel)
abbrev scX8_isBehindAn : ik_SC := (wdX, cX8_isBehindAn, 2, RX8, [(0, 25)], 1, some .boolean)
set_option maxRecDepth 100000 in
def bX8_isBehindAn : SP scX8_isBehindAn := (pRet 3 9 (eCall (.invokestatic 98) (lkN mf_X11_bit ms_X11_bit ml_X8_98 rfl (by decide) (by decide)) MX11_bit (aI (eFld (rLoc 0 25) 95 8 10 0 fl_X8_95) (aI (eLoc 1) aNil))))
set_option maxRecDepth 100000 in
def MX8_isBehindAn : MP wdX yX8_isBehindAn cX8_isBehindAn 2 (some .boolean) 1 [.inr 25, .inl 0] := mkM scX8_isBehindAn yX8_isBehindAn [.inr 25, .inl 0] bX8_isBehindAn (by decide +kernel) rfl rfl (by decide) (by decide +kernel)
abbrev scX7_tell : ik_SC := (wdX, cX7_tell, 4, RX7, [(0, 35)], 0, none)
set_option maxRecDepth 100000 in
def bX7_tell : SP scX7_tell := (pSeq (pSeq (pSet 3 (eBin 1 (eLoc 1) (eLit 97))) (pIf 15 22 22 (cAnd 9 (cCmp0 3 (eLoc 3)) (cCmp 2 (eLoc 3) (eLit 26))) (pAst 0 26 (rFld (rLoc 0 35) 18 7 2 38 fl_X7_18) (eLoc 3) (eLoc 2)) pSkip)) (pRetV 23))
set_option maxRecDepth 100000 in
def MX7_tell : MP wdX yX7_tell cX7_tell 4 (none) 0 [.inr 35, .inl 0, .inl 0] := mkM scX7_tell yX7_tell [.inr 35, .inl 0, .inl 0] bX7_tell (by decide +kernel) rfl rfl (by decide) (by decide +kernel)
abbrev scX6_length : ik_SC := (wdX, cX6_length, 2, RX6, [(0, 6)], 1, some .int)
set_option maxRecDepth 100000 in
def bX6_length : SP scX6_length := (pRet 0 9 (eCall (.invokevirtual 69) (lkV (T := TX10) (N := 3) mf_X10_length mv_X10_length ml_X6_69 rfl rfl rfl (by decide) (by decide)) MX10_length_7 (aR (rFld (rLoc 0 6) 14 6 0 7 fl_X6_14) (aI (eLoc 1) aNil))))
set_option maxRecDepth 100000 in
def MX6_length : MP wdX yX6_length cX6_length 2 (some .int) 1 [.inr 6, .inl 0] := mkM scX6_length yX6_length [.inr 6, .inl 0] bX6_length (by decide +kernel) rfl rfl (by decide) (by decide +kernel)
abbrev scX6_sort : ik_SC := (wdX, cX6_sort, 2, RX6, [(0, 6)], 1, some .int)
set_option maxRecDepth 100000 in
def bX6_sort : SP scX6_sort := (pRet 0 19 (eIte 8 17 18 (cCmp0 1 (eCall (.invokevirtual 78) (lkV (T := TX6) (N := 7) mf_X6_has mv_X6_has ml_X6_78 rfl rfl rfl (by decide) (by decide)) MX6_has (aR (rLoc 0 6) (aI (eLoc 1) aNil)))) (eArr 0 24 (rFld (rLoc 0 6) 20 6 1 10 fl_X6_20) (eLoc 1)) (eLit 0)))
set_option maxRecDepth 100000 in
def MX6_sort : MP wdX yX6_sort cX6_sort 2 (some .int) 1 [.inr 6, .inl 0] := mkM scX6_sort yX6_sort [.inr 6, .inl 0] bX6_sort (by decide +kernel) rfl rfl (by decide) (by decide +kernel)
abbrev scX6_from : ik_SC := (wdX, cX6_from, 2, RX6, [(0, 6)], 1, some .int)
set_option maxRecDepth 100000 in
def bX6_from : SP scX6_from := (pRet 0 19 (eIte 8 17 18 (cCmp0 1 (eCall (.invokevirtual 78) (lkV (T := TX6) (N := 7) mf_X6_has mv_X6_has ml_X6_78 rfl rfl rfl (by decide) (by decide)) MX6_has (aR (rLoc 0 6) (aI (eLoc 1) aNil)))) (eArr 0 24 (rFld (rLoc 0 6) 24 6 2 11 fl_X6_24) (eLoc 1)) (eLit 0)))
set_option maxRecDepth 100000 in
def MX6_from : MP wdX yX6_from cX6_from 2 (some .int) 1 [.inr 6, .inl 0] := mkM scX6_from yX6_from [.inr 6, .inl 0] bX6_from (by decide +kernel) rfl rfl (by decide) (by decide +kernel)
abbrev scX6_to : ik_SC := (wdX, cX6_to, 2, RX6, [(0, 6)], 1, some .int)
set_option maxRecDepth 100000 in
def bX6_to : SP scX6_to := (pRet 0 19 (eIte 8 17 18 (cCmp0 1 (eCall (.invokevirtual 78) (lkV (T := TX6) (N := 7) mf_X6_has mv_X6_has ml_X6_78 rfl rfl rfl (by decide) (by decide)) MX6_has (aR (rLoc 0 6) (aI (eLoc 1) aNil)))) (eArr 0 24 (rFld (rLoc 0 6) 27 6 3 12 fl_X6_27) (eLoc 1)) (eLit 0)))
set_option maxRecDepth 100000 in
def MX6_to : MP wdX yX6_to cX6_to 2 (some .int) 1 [.inr 6, .inl 0] := mkM scX6_to yX6_to [.inr 6, .inl 0] bX6_to (by decide +kernel) rfl rfl (by decide) (by decide +kernel)
abbrev scX0_ink : ik_SC := (wdX, cX0_ink, 2, RX0, [(0, 15)], 1, some .int)
set_option maxRecDepth 100000 in
def bX0_ink : SP scX0_ink := (pRet 0 19 (eIte 8 17 18 (cCmp0 1 (eCall (.invokevirtual 59) (lkV (T := TX0) (N := 12) mf_X0_has mv_X0_has ml_X0_59 rfl rfl rfl (by decide) (by decide)) MX0_has (aR (rLoc 0 15) (aI (eLoc 1) aNil)))) (eArr 0 4 (rFld (rLoc 0 15) 9 0 0 16 fl_X0_9) (eLoc 1)) (eLit 0)))
set_option maxRecDepth 100000 in
def MX0_ink : MP wdX yX0_ink cX0_ink 2 (some .int) 1 [.inr 15, .inl 0] := mkM scX0_ink yX0_ink [.inr 15, .inl 0] bX0_ink (by decide +kernel) rfl rfl (by decide) (by decide +kernel)
abbrev scX11_tellFacts : ik_SC := (wdX, cX11_tellFacts, 4, RX11, [(0, 0)], 3, none)
set_option maxRecDepth 100000 in
def bX11_tellFacts : SP scX11_tellFacts := (pSeq (pSeq (pDo (.invokevirtual 351) (lkV (T := TX7) (N := 11) mf_X7_tell mv_X7_tell ml_X11_351 rfl rfl rfl (by decide) (by decide)) MX7_tell (aR (rFld (rLoc 0 0) 47 11 5 35 fl_X11_47) (aI (eLit 105) (aI (eLoc 2) aNil)))) (pSeq (pDo (.invokevirtual 351) (lkV (T := TX7) (N := 11) mf_X7_tell mv_X7_tell ml_X11_351 rfl rfl rfl (by decide) (by decide)) MX7_tell (aR (rFld (rLoc 0 0) 47 11 5 35 fl_X11_47) (aI (eLit 119) (aI (eCall (.invokevirtual 127) (lkV (T := TX6) (N := 7) mf_X6_wide mv_X6_wide ml_X11_127 rfl rfl rfl (by decide) (by decide)) MX6_wide (aR (rFld (rLoc 0 0) 26 11 2 6 fl_X11_26) (aI (eLoc 2) (aR (rFld (rLoc 0 0) 19 11 1 3 fl_X11_19) aNil)))) aNil)))) (pSeq (pDo (.invokevirtual 351) (lkV (T := TX7) (N := 11) mf_X7_tell mv_X7_tell ml_X11_351 rfl rfl rfl (by decide) (by decide)) MX7_tell (aR (rFld (rLoc 0 0) 47 11 5 35 fl_X11_47) (aI (eLit 110) (aI (eCall (.invokevirtual 355) (lkV (T := TX6) (N := 7) mf_X6_length mv_X6_length ml_X11_355 rfl rfl rfl (by decide) (by decide)) MX6_length (aR (rFld (rLoc 0 0) 26 11 2 6 fl_X11_26) (aI (eLoc 2) aNil))) aNil)))) (pSeq (pDo (.invokevirtual 351) (lkV (T := TX7) (N := 11) mf_X7_tell mv_X7_tell ml_X11_351 rfl rfl rfl (by decide) (by decide)) MX7_tell (aR (rFld (rLoc 0 0) 47 11 5 35 fl_X11_47) (aI (eLit 115) (aI (eCall (.invokevirtual 345) (lkV (T := TX6) (N := 7) mf_X6_sort mv_X6_sort ml_X11_345 rfl rfl rfl (by decide) (by decide)) MX6_sort (aR (rFld (rLoc 0 0) 26 11 2 6 fl_X11_26) (aI (eLoc 2) aNil))) aNil)))) (pSeq (pDo (.invokevirtual 351) (lkV (T := TX7) (N := 11) mf_X7_tell mv_X7_tell ml_X11_351 rfl rfl rfl (by decide) (by decide)) MX7_tell (aR (rFld (rLoc 0 0) 47 11 5 35 fl_X11_47) (aI (eLit 121) (aI (eCall (.invokevirtual 357) (lkV (T := TX6) (N := 7) mf_X6_from mv_X6_from ml_X11_357 rfl rfl rfl (by decide) (by decide)) MX6_from (aR (rFld (rLoc 0 0) 26 11 2 6 fl_X11_26) (aI (eLoc 2) aNil))) aNil)))) (pSeq (pDo (.invokevirtual 351) (lkV (T := TX7) (N := 11) mf_X7_tell mv_X7_tell ml_X11_351 rfl rfl rfl (by decide) (by decide)) MX7_tell (aR (rFld (rLoc 0 0) 47 11 5 35 fl_X11_47) (aI (eLit 122) (aI (eCall (.invokevirtual 360) (lkV (T := TX6) (N := 7) mf_X6_to mv_X6_to ml_X11_360 rfl rfl rfl (by decide) (by decide)) MX6_to (aR (rFld (rLoc 0 0) 26 11 2 6 fl_X11_26) (aI (eLoc 2) aNil))) aNil)))) (pSeq (pDo (.invokevirtual 351) (lkV (T := TX7) (N := 11) mf_X7_tell mv_X7_tell ml_X11_351 rfl rfl rfl (by decide) (by decide)) MX7_tell (aR (rFld (rLoc 0 0) 47 11 5 35 fl_X11_47) (aI (eLit 118) (aI (eIte 109 113 114 (cCmp0 1 (eLoc 3)) (eLit 1) (eLit 0)) aNil)))) (pSeq (pDo (.invokevirtual 351) (lkV (T := TX7) (N := 11) mf_X7_tell mv_X7_tell ml_X11_351 rfl rfl rfl (by decide) (by decide)) MX7_tell (aR (rFld (rLoc 0 0) 47 11 5 35 fl_X11_47) (aI (eLit 97) (aI (eCall (.invokevirtual 363) (lkV (T := TX6) (N := 7) mf_X6_first mv_X6_first ml_X11_363 rfl rfl rfl (by decide) (by decide)) MX6_first (aR (rFld (rLoc 0 0) 26 11 2 6 fl_X11_26) (aI (eLoc 2) aNil))) aNil)))) (pDo (.invokevirtual 351) (lkV (T := TX7) (N := 11) mf_X7_tell mv_X7_tell ml_X11_351 rfl rfl rfl (by decide) (by decide)) MX7_tell (aR (rFld (rLoc 0 0) 47 11 5 35 fl_X11_47) (aI (eLit 98) (aI (eCall (.invokevirtual 313) (lkV (T := TX0) (N := 12) mf_X0_ink mv_X0_ink ml_X11_313 rfl rfl rfl (by decide) (by decide)) MX0_ink (aR (rFld (rLoc 0 0) 33 11 3 15 fl_X11_33) (aI (eLoc 1) aNil))) aNil)))))))))))) (pRetV 152))
set_option maxRecDepth 100000 in
def MX11_tellFacts : MP wdX yX11_tellFacts cX11_tellFacts 4 (none) 3 [.inr 0, .inl 0, .inl 0, .inl 0] := mkM scX11_tellFacts yX11_tellFacts [.inr 0, .inl 0, .inl 0, .inl 0] bX11_tellFacts (by decide +kernel) rfl rfl (by decide) (by decide +kernel)
abbrev scX7_hold : ik_SC := (wdX, cX7_hold, 4, RX7, [(0, 35)], 27, some .boolean)
set_option maxRecDepth 100000 in
def bX7_hold : SP scX7_hold := (pSeq (pSeq (pSet 2 (eLit 0)) (pWh 17 93 93 (cAnd 10 (cCmp 2 (eLoc 2) (eFld (rLoc 0 35) 54 7 3 0 fl_X7_54)) (cCmp 2 (eLoc 2) (eLit 160))) (pSeq (pSeq (pSet 3 (eIte 34 38 39 (cOr 21 (cCmp0 0 (eLoc 2)) (cCmp 0 (eArr 0 160 (rFld (rLoc 0 35) 9 7 0 36 fl_X7_9) (eBin 1 (eLoc 2) (eLit 1))) (eLit 59))) (eLit 1) (eLit 0))) (pIf 57 87 87 (cAnd 44 (cCmp0 1 (eLoc 3)) (cCmp 0 (eBin 1 (eArr 0 160 (rFld (rLoc 0 35) 9 7 0 36 fl_X7_9) (eLoc 2)) (eLit 48)) (eLoc 1))) (pSeq (pDo (.invokevirtual 31) (lkV (T := TX7) (N := 11) mf_X7_begin mv_X7_begin ml_X7_31 rfl rfl rfl (by decide) (by decide)) MX7_begin (aR (rLoc 0 35) (aI (eLit 1) (aI (eBin 0 (eLoc 2) (eLit 2)) (aI (eFld (rLoc 0 35) 54 7 3 0 fl_X7_54) aNil))))) (pIf 85 87 87 (cOr 78 (cNot (cCmp0 1 (eCall (.invokevirtual 57) (lkV (T := TX7) (N := 11) mf_X7_condition mv_X7_condition ml_X7_57 rfl rfl rfl (by decide) (by decide)) MX7_condition_f5 (aR (rLoc 0 35) (aI (eLit 1) (aI (eLit 1) aNil)))))) (cCmp0 1 (eFld (rLoc 0 35) 61 7 10 3 fl_X7_61))) (pRet 3 87 (eLit 0)) pSkip)) pSkip)) (pInc 2 1)))) (pRet 3 95 (eLit 1)))
set_option maxRecDepth 100000 in
def MX7_hold : MP wdX yX7_hold cX7_hold 4 (some .boolean) 27 [.inr 35, .inl 0] := mkM scX7_hold yX7_hold [.inr 35, .inl 0] bX7_hold (by decide +kernel) rfl rfl (by decide) (by decide +kernel)
abbrev scX6_ahead : ik_SC := (wdX, cX6_ahead, 2, RX6, [(0, 6)], 1, some .int)
set_option maxRecDepth 100000 in
def bX6_ahead : SP scX6_ahead := (pRet 0 19 (eIte 8 17 18 (cCmp0 1 (eCall (.invokevirtual 78) (lkV (T := TX6) (N := 7) mf_X6_has mv_X6_has ml_X6_78 rfl rfl rfl (by decide) (by decide)) MX6_has (aR (rLoc 0 6) (aI (eLoc 1) aNil)))) (eArr 0 24 (rFld (rLoc 0 6) 33 6 5 14 fl_X6_33) (eLoc 1)) (eLit 0)))
set_option maxRecDepth 100000 in
def MX6_ahead : MP wdX yX6_ahead cX6_ahead 2 (some .int) 1 [.inr 6, .inl 0] := mkM scX6_ahead yX6_ahead [.inr 6, .inl 0] bX6_ahead (by decide +kernel) rfl rfl (by decide) (by decide +kernel)
abbrev scX0_inLists : ik_SC := (wdX, cX0_inLists, 7, RX0, [(0, 15), (3, 6)], 2, some .boolean)
set_option maxRecDepth 100000 in
def bX0_inLists : SP scX0_inLists := (pSeq (pSeq (pSet 4 (eLit 0)) (pWh 19 94 94 (cAnd 12 (cCmp 2 (eLoc 4) (eFld (rLoc 0 15) 46 0 11 0 fl_X0_46)) (cCmp 2 (eLoc 4) (eLit 20))) (pSeq (pIf 30 88 88 (cCmp 0 (eArr 0 20 (rFld (rLoc 0 15) 30 0 6 22 fl_X0_30) (eLoc 4)) (eLoc 1)) (pSeq (pSet 5 (eArr 0 20 (rFld (rLoc 0 15) 33 0 7 23 fl_X0_33) (eLoc 4))) (pSeq (pSet 6 (eArr 0 20 (rFld (rLoc 0 15) 36 0 8 24 fl_X0_36) (eLoc 4))) (pIf 86 88 88 (cOr 67 (cAnd 54 (cCmp 1 (eLoc 5) (eLit (-1))) (cNot (cCmp0 1 (eCall (.invokestatic 72) (lkN mf_X11_bit ms_X11_bit ml_X0_72 rfl (by decide) (by decide)) MX11_bit (aI (eCall (.invokevirtual 66) (lkV (T := TX6) (N := 7) mf_X6_ahead mv_X6_ahead ml_X0_66 rfl rfl rfl (by decide) (by decide)) MX6_ahead (aR (rLoc 3 6) (aI (eLoc 2) aNil))) (aI (eLoc 5) aNil)))))) (cAnd 73 (cCmp 1 (eLoc 6) (eLit (-1))) (cNot (cCmp0 1 (eCall (.invokestatic 72) (lkN mf_X11_bit ms_X11_bit ml_X0_72 rfl (by decide) (by decide)) MX11_bit (aI (eCall (.invokevirtual 66) (lkV (T := TX6) (N := 7) mf_X6_ahead mv_X6_ahead ml_X0_66 rfl rfl rfl (by decide) (by decide)) MX6_ahead (aR (rLoc 3 6) (aI (eLoc 6) aNil))) (aI (eLoc 2) aNil))))))) (pRet 3 88 (eLit 0)) pSkip))) pSkip) (pInc 4 1)))) (pRet 3 96 (eLit 1)))
set_option maxRecDepth 100000 in
def MX0_inLists : MP wdX yX0_inLists cX0_inLists 7 (some .boolean) 2 [.inr 15, .inl 0, .inl 0, .inr 6] := mkM scX0_inLists yX0_inLists [.inr 15, .inl 0, .inl 0, .inr 6] bX0_inLists (by decide +kernel) rfl rfl (by decide) (by decide +kernel)
abbrev scX0_year : ik_SC := (wdX, cX0_year, 2, RX0, [(0, 15)], 1, some .int)
set_option maxRecDepth 100000 in
def bX0_year : SP scX0_year := (pRet 0 19 (eIte 8 17 18 (cCmp0 1 (eCall (.invokevirtual 59) (lkV (T := TX0) (N := 12) mf_X0_has mv_X0_has ml_X0_59 rfl rfl rfl (by decide) (by decide)) MX0_has (aR (rLoc 0 15) (aI (eLoc 1) aNil)))) (eArr 0 4 (rFld (rLoc 0 15) 15 0 1 17 fl_X0_15) (eLoc 1)) (eLit (-1))))
set_option maxRecDepth 100000 in
def MX0_year : MP wdX yX0_year cX0_year 2 (some .int) 1 [.inr 15, .inl 0] := mkM scX0_year yX0_year [.inr 15, .inl 0] bX0_year (by decide +kernel) rfl rfl (by decide) (by decide +kernel)
abbrev scX6_lives : ik_SC := (wdX, cX6_lives, 3, RX6, [(0, 6)], 2, some .boolean)
set_option maxRecDepth 100000 in
def bX6_lives : SP scX6_lives := (pRet 3 24 (eIte 18 22 23 (cAnd 9 (cCmp 5 (eCall (.invokevirtual 81) (lkV (T := TX6) (N := 7) mf_X6_from mv_X6_from ml_X6_81 rfl rfl rfl (by decide) (by decide)) MX6_from (aR (rLoc 0 6) (aI (eLoc 1) aNil))) (eLoc 2)) (cCmp 5 (eLoc 2) (eCall (.invokevirtual 84) (lkV (T := TX6) (N := 7) mf_X6_to mv_X6_to ml_X6_84 rfl rfl rfl (by decide) (by decide)) MX6_to (aR (rLoc 0 6) (aI (eLoc 1) aNil))))) (eLit 1) (eLit 0)))
set_option maxRecDepth 100000 in
def MX6_lives : MP wdX yX6_lives cX6_lives 3 (some .boolean) 2 [.inr 6, .inl 0, .inl 0] := mkM scX6_lives yX6_lives [.inr 6, .inl 0, .inl 0] bX6_lives (by decide +kernel) rfl rfl (by decide) (by decide +kernel)
abbrev scX0_sorts : ik_SC := (wdX, cX0_sorts, 2, RX0, [(0, 15)], 1, some .int)
set_option maxRecDepth 100000 in
def bX0_sorts : SP scX0_sorts := (pRet 0 19 (eIte 8 17 18 (cCmp0 1 (eCall (.invokevirtual 59) (lkV (T := TX0) (N := 12) mf_X0_has mv_X0_has ml_X0_59 rfl rfl rfl (by decide) (by decide)) MX0_has (aR (rLoc 0 15) (aI (eLoc 1) aNil)))) (eArr 0 4 (rFld (rLoc 0 15) 18 0 2 18 fl_X0_18) (eLoc 1)) (eLit 0)))
set_option maxRecDepth 100000 in
def MX0_sorts : MP wdX yX0_sorts cX0_sorts 2 (some .int) 1 [.inr 15, .inl 0] := mkM scX0_sorts yX0_sorts [.inr 15, .inl 0] bX0_sorts (by decide +kernel) rfl rfl (by decide) (by decide +kernel)
abbrev scX11_reasonsButInk : ik_SC := (wdX, cX11_reasonsButInk, 6, RX11, [(0, 0)], 28, some .int)
set_option maxRecDepth 100000 in
def bX11_reasonsButInk : SP scX11_reasonsButInk := (pSeq (pSet 3 (eLit 0)) (pSeq (pSet 4 (eCall (.invokevirtual 316) (lkV (T := TX6) (N := 7) mf_X6_vowel mv_X6_vowel ml_X11_316 rfl rfl rfl (by decide) (by decide)) MX6_vowel (aR (rFld (rLoc 0 0) 26 11 2 6 fl_X11_26) (aI (eLoc 2) aNil)))) (pSeq (pIf 42 46 46 (cIteC 17 31 28 (cCmp0 1 (eLoc 4)) (cCmp0 1 (eCall (.invokevirtual 319) (lkV (T := TX8) (N := 11) mf_X8_isBehindA mv_X8_isBehindA ml_X11_319 rfl rfl rfl (by decide) (by decide)) MX8_isBehindA (aR (rFld (rLoc 0 0) 40 11 4 25 fl_X11_40) (aI (eLoc 1) aNil)))) (cCmp0 1 (eCall (.invokevirtual 322) (lkV (T := TX8) (N := 11) mf_X8_isBehindAn mv_X8_isBehindAn ml_X11_322 rfl rfl rfl (by decide) (by decide)) MX8_isBehindAn (aR (rFld (rLoc 0 0) 40 11 4 25 fl_X11_40) (aI (eLoc 1) aNil))))) (pSet 3 (eBin 4 (eLoc 3) (eLit 4))) pSkip) (pSeq (pDo (.invokevirtual 325) (lkV (T := TX11) (N := 15) mf_X11_tellFacts mv_X11_tellFacts ml_X11_325 rfl rfl rfl (by decide) (by decide)) MX11_tellFacts (aR (rLoc 0 0) (aI (eLoc 1) (aI (eLoc 2) (aI (eLoc 4) aNil))))) (pSeq (pIf 65 70 70 (cNot (cCmp0 1 (eCall (.invokevirtual 329) (lkV (T := TX7) (N := 11) mf_X7_hold mv_X7_hold ml_X11_329 rfl rfl rfl (by decide) (by decide)) MX7_hold (aR (rFld (rLoc 0 0) 47 11 5 35 fl_X11_47) (aI (eLoc 1) aNil))))) (pSet 3 (eBin 4 (eLoc 3) (eLit 8))) pSkip) (pSeq (pIf 86 91 91 (cNot (cCmp0 1 (eCall (.invokevirtual 332) (lkV (T := TX0) (N := 12) mf_X0_inLists mv_X0_inLists ml_X11_332 rfl rfl rfl (by decide) (by decide)) MX0_inLists (aR (rFld (rLoc 0 0) 33 11 3 15 fl_X11_33) (aI (eLoc 1) (aI (eLoc 2) (aR (rFld (rLoc 0 0) 26 11 2 6 fl_X11_26) aNil))))))) (pSet 3 (eBin 4 (eLoc 3) (eLit 16))) pSkip) (pSeq (pSet 5 (eCall (.invokevirtual 336) (lkV (T := TX0) (N := 12) mf_X0_year mv_X0_year ml_X11_336 rfl rfl rfl (by decide) (by decide)) MX0_year (aR (rFld (rLoc 0 0) 33 11 3 15 fl_X11_33) (aI (eLoc 1) aNil)))) (pSeq (pIf 142 147 147 (cOr 120 (cAnd 107 (cCmp 1 (eLoc 5) (eLit (-1))) (cNot (cCmp0 1 (eCall (.invokevirtual 339) (lkV (T := TX6) (N := 7) mf_X6_lives mv_X6_lives ml_X11_339 rfl rfl rfl (by decide) (by decide)) MX6_lives (aR (rFld (rLoc 0 0) 26 11 2 6 fl_X11_26) (aI (eLoc 2) (aI (eLoc 5) aNil))))))) (cNot (cCmp0 1 (eCall (.invokestatic 348) (lkS mf_X11_bit ms_X11_bit ml_X11_348 rfl (by decide) (by decide)) MX11_bit (aI (eCall (.invokevirtual 342) (lkV (T := TX0) (N := 12) mf_X0_sorts mv_X0_sorts ml_X11_342 rfl rfl rfl (by decide) (by decide)) MX0_sorts (aR (rFld (rLoc 0 0) 33 11 3 15 fl_X11_33) (aI (eLoc 1) aNil))) (aI (eCall (.invokevirtual 345) (lkV (T := TX6) (N := 7) mf_X6_sort mv_X6_sort ml_X11_345 rfl rfl rfl (by decide) (by decide)) MX6_sort (aR (rFld (rLoc 0 0) 26 11 2 6 fl_X11_26) (aI (eLoc 2) aNil))) aNil)))))) (pSet 3 (eBin 4 (eLoc 3) (eLit 32))) pSkip) (pRet 0 149 (eLoc 3))))))))))
set_option maxRecDepth 100000 in
def MX11_reasonsButInk : MP wdX yX11_reasonsButInk cX11_reasonsButInk 6 (some .int) 28 [.inr 0, .inl 0, .inl 0] := mkM scX11_reasonsButInk yX11_reasonsButInk [.inr 0, .inl 0, .inl 0] bX11_reasonsButInk (by decide +kernel) rfl rfl (by decide) (by decide +kernel)
abbrev scX11_inkReason : ik_SC := (wdX, cX11_inkReason, 5, RX11, [(0, 0)], 5, some .int)
set_option maxRecDepth 100000 in
def bX11_inkReason : SP scX11_inkReason := (pSeq (pSet 3 (eBin 1 (eCall (.invokevirtual 313) (lkV (T := TX0) (N := 12) mf_X0_ink mv_X0_ink ml_X11_313 rfl rfl rfl (by decide) (by decide)) MX0_ink (aR (rFld (rLoc 0 0) 33 11 3 15 fl_X11_33) (aI (eLoc 1) aNil))) (eCall (.invokevirtual 127) (lkV (T := TX6) (N := 7) mf_X6_wide mv_X6_wide ml_X11_127 rfl rfl rfl (by decide) (by decide)) MX6_wide (aR (rFld (rLoc 0 0) 26 11 2 6 fl_X11_26) (aI (eLoc 2) (aR (rFld (rLoc 0 0) 19 11 1 3 fl_X11_19) aNil)))))) (pSeq (pSet 4 (eCall (.invokestatic 82) (lkS mf_X11_within ms_X11_within ml_X11_82 rfl (by decide) (by decide)) MX11_within (aI (eLoc 3) (aI (eCall (.invokevirtual 171) (lkV (T := TX3) (N := 4) mf_X3_least mv_X3_least ml_X11_171 rfl rfl rfl (by decide) (by decide)) MX3_least (aR (rFld (rLoc 0 0) 54 11 6 39 fl_X11_54) (aI (eFld (rLoc 0 0) 178 11 12 0 fl_X11_178) (aR (rFld (rLoc 0 0) 26 11 2 6 fl_X11_26) (aR (rFld (rLoc 0 0) 19 11 1 3 fl_X11_19) aNil))))) (aI (eCall (.invokevirtual 175) (lkV (T := TX3) (N := 4) mf_X3_greatest mv_X3_greatest ml_X11_175 rfl rfl rfl (by decide) (by decide)) MX3_greatest (aR (rFld (rLoc 0 0) 54 11 6 39 fl_X11_54) (aI (eFld (rLoc 0 0) 178 11 12 0 fl_X11_178) (aR (rFld (rLoc 0 0) 26 11 2 6 fl_X11_26) (aR (rFld (rLoc 0 0) 19 11 1 3 fl_X11_19) aNil))))) aNil))))) (pRet 0 77 (eIte 71 75 76 (cCmp0 1 (eLoc 4)) (eLit 0) (eLit 1)))))
set_option maxRecDepth 100000 in
def MX11_inkReason : MP wdX yX11_inkReason cX11_inkReason 5 (some .int) 5 [.inr 0, .inl 0, .inl 0] := mkM scX11_inkReason yX11_inkReason [.inr 0, .inl 0, .inl 0] bX11_inkReason (by decide +kernel) rfl rfl (by decide) (by decide +kernel)
abbrev scX11_against : ik_SC := (wdX, cX11_against, 3, RX11, [(0, 0)], 29, some .int)
set_option maxRecDepth 100000 in
def bX11_against : SP scX11_against := (pSeq (pIf 22 24 24 (cOr 11 (cNot (cCmp0 1 (eCall (.invokevirtual 152) (lkV (T := TX0) (N := 12) mf_X0_has mv_X0_has ml_X11_152 rfl rfl rfl (by decide) (by decide)) MX0_has (aR (rFld (rLoc 0 0) 33 11 3 15 fl_X11_33) (aI (eLoc 1) aNil))))) (cNot (cCmp0 1 (eCall (.invokevirtual 124) (lkV (T := TX6) (N := 7) mf_X6_has mv_X6_has ml_X11_124 rfl rfl rfl (by decide) (by decide)) MX6_has (aR (rFld (rLoc 0 0) 26 11 2 6 fl_X11_26) (aI (eLoc 2) aNil)))))) (pRet 0 24 (eLit (-1))) pSkip) (pRet 0 38 (eBin 4 (eCall (.invokevirtual 182) (lkV (T := TX11) (N := 15) mf_X11_reasonsButInk mv_X11_reasonsButInk ml_X11_182 rfl rfl rfl (by decide) (by decide)) MX11_reasonsButInk (aR (rLoc 0 0) (aI (eLoc 1) (aI (eLoc 2) aNil)))) (eCall (.invokevirtual 186) (lkV (T := TX11) (N := 15) mf_X11_inkReason mv_X11_inkReason ml_X11_186 rfl rfl rfl (by decide) (by decide)) MX11_inkReason (aR (rLoc 0 0) (aI (eLoc 1) (aI (eLoc 2) aNil)))))))
set_option maxRecDepth 100000 in
def MX11_against : MP wdX yX11_against cX11_against 3 (some .int) 29 [.inr 0, .inl 0, .inl 0] := mkM scX11_against yX11_against [.inr 0, .inl 0, .inl 0] bX11_against (by decide +kernel) rfl rfl (by decide) (by decide +kernel)
abbrev scX11_lay : ik_SC := (wdX, cX11_lay, 5, RX11, [(0, 0)], 3, some .boolean)
set_option maxRecDepth 100000 in
def bX11_lay : SP scX11_lay := (pSeq (pSet 2 (eLoc 1)) (pSeq (pSeq (pSet 3 (eLit 0)) (pWh 20 78 78 (cAnd 15 (cCmp 2 (eLoc 3) (eCall (.invokevirtual 136) (lkV (T := TX0) (N := 12) mf_X0_count mv_X0_count ml_X11_136 rfl rfl rfl (by decide) (by decide)) MX0_count (aR (rFld (rLoc 0 0) 33 11 3 15 fl_X11_33) aNil))) (cCmp 2 (eLoc 3) (eLit 4))) (pSeq (pSeq (pSet 4 (eBin 10 (eLoc 2) (eLit 24))) (pSeq (pIf 38 40 40 (cNot (cCmp0 1 (eCall (.invokevirtual 124) (lkV (T := TX6) (N := 7) mf_X6_has mv_X6_has ml_X11_124 rfl rfl rfl (by decide) (by decide)) MX6_has (aR (rFld (rLoc 0 0) 26 11 2 6 fl_X11_26) (aI (eLoc 4) aNil))))) (pRet 3 40 (eLit 0)) pSkip) (pSeq (pAst 0 4 (rFld (rLoc 0 0) 76 11 10 64 fl_X11_76) (eLoc 3) (eLoc 4)) (pSeq (pAst 0 4 (rFld (rLoc 0 0) 79 11 11 65 fl_X11_79) (eLoc 3) (eCall (.invokevirtual 127) (lkV (T := TX6) (N := 7) mf_X6_wide mv_X6_wide ml_X11_127 rfl rfl rfl (by decide) (by decide)) MX6_wide (aR (rFld (rLoc 0 0) 26 11 2 6 fl_X11_26) (aI (eLoc 4) (aR (rFld (rLoc 0 0) 19 11 1 3 fl_X11_19) aNil))))) (pSet 2 (eBin 9 (eLoc 2) (eLit 24))))))) (pInc 3 1)))) (pRet 3 88 (eIte 82 86 87 (cCmp0 0 (eLoc 2)) (eLit 1) (eLit 0)))))
set_option maxRecDepth 100000 in
def MX11_lay : MP wdX yX11_lay cX11_lay 5 (some .boolean) 3 [.inr 0, .inl 0] := mkM scX11_lay yX11_lay [.inr 0, .inl 0] bX11_lay (by decide +kernel) rfl rfl (by decide) (by decide +kernel)
abbrev scX0_ties : ik_SC := (wdX, cX0_ties, 1, RX0, [(0, 15)], 0, some .int)
set_option maxRecDepth 100000 in
def bX0_ties : SP scX0_ties := (pRet 0 5 (eFld (rLoc 0 15) 43 0 10 0 fl_X0_43))
set_option maxRecDepth 100000 in
def MX0_ties : MP wdX yX0_ties cX0_ties 1 (some .int) 0 [.inr 15] := mkM scX0_ties yX0_ties [.inr 15] bX0_ties (by decide +kernel) rfl rfl (by decide) (by decide +kernel)
abbrev scX0_tied : ik_SC := (wdX, cX0_tied, 2, RX0, [(0, 15)], 0, some .boolean)
set_option maxRecDepth 100000 in
def bX0_tied : SP scX0_tied := (pRet 3 24 (eIte 18 22 23 (cAnd 12 (cAnd 4 (cCmp0 3 (eLoc 1)) (cCmp 2 (eLoc 1) (eFld (rLoc 0 15) 43 0 10 0 fl_X0_43))) (cCmp 2 (eLoc 1) (eLit 20))) (eLit 1) (eLit 0)))
set_option maxRecDepth 100000 in
def MX0_tied : MP wdX yX0_tied cX0_tied 2 (some .boolean) 0 [.inr 15, .inl 0] := mkM scX0_tied yX0_tied [.inr 15, .inl 0] bX0_tied (by decide +kernel) rfl rfl (by decide) (by decide +kernel)
abbrev scX0_tieFirst : ik_SC := (wdX, cX0_tieFirst, 2, RX0, [(0, 15)], 1, some .int)
set_option maxRecDepth 100000 in
def bX0_tieFirst : SP scX0_tieFirst := (pRet 0 19 (eIte 8 17 18 (cCmp0 1 (eCall (.invokevirtual 63) (lkV (T := TX0) (N := 12) mf_X0_tied mv_X0_tied ml_X0_63 rfl rfl rfl (by decide) (by decide)) MX0_tied (aR (rLoc 0 15) (aI (eLoc 1) aNil)))) (eArr 0 20 (rFld (rLoc 0 15) 24 0 4 20 fl_X0_24) (eLoc 1)) (eLit (-1))))
set_option maxRecDepth 100000 in
def MX0_tieFirst : MP wdX yX0_tieFirst cX0_tieFirst 2 (some .int) 1 [.inr 15, .inl 0] := mkM scX0_tieFirst yX0_tieFirst [.inr 15, .inl 0] bX0_tieFirst (by decide +kernel) rfl rfl (by decide) (by decide +kernel)
abbrev scX0_tieSecond : ik_SC := (wdX, cX0_tieSecond, 2, RX0, [(0, 15)], 1, some .int)
set_option maxRecDepth 100000 in
def bX0_tieSecond : SP scX0_tieSecond := (pRet 0 19 (eIte 8 17 18 (cCmp0 1 (eCall (.invokevirtual 63) (lkV (T := TX0) (N := 12) mf_X0_tied mv_X0_tied ml_X0_63 rfl rfl rfl (by decide) (by decide)) MX0_tied (aR (rLoc 0 15) (aI (eLoc 1) aNil)))) (eArr 0 20 (rFld (rLoc 0 15) 27 0 5 21 fl_X0_27) (eLoc 1)) (eLit (-1))))
set_option maxRecDepth 100000 in
def MX0_tieSecond : MP wdX yX0_tieSecond cX0_tieSecond 2 (some .int) 1 [.inr 15, .inl 0] := mkM scX0_tieSecond yX0_tieSecond [.inr 15, .inl 0] bX0_tieSecond (by decide +kernel) rfl rfl (by decide) (by decide +kernel)
abbrev scX0_tieSort : ik_SC := (wdX, cX0_tieSort, 2, RX0, [(0, 15)], 1, some .int)
set_option maxRecDepth 100000 in
def bX0_tieSort : SP scX0_tieSort := (pRet 0 19 (eIte 8 17 18 (cCmp0 1 (eCall (.invokevirtual 63) (lkV (T := TX0) (N := 12) mf_X0_tied mv_X0_tied ml_X0_63 rfl rfl rfl (by decide) (by decide)) MX0_tied (aR (rLoc 0 15) (aI (eLoc 1) aNil)))) (eArr 0 20 (rFld (rLoc 0 15) 21 0 3 19 fl_X0_21) (eLoc 1)) (eLit 0)))
set_option maxRecDepth 100000 in
def MX0_tieSort : MP wdX yX0_tieSort cX0_tieSort 2 (some .int) 1 [.inr 15, .inl 0] := mkM scX0_tieSort yX0_tieSort [.inr 15, .inl 0] bX0_tieSort (by decide +kernel) rfl rfl (by decide) (by decide +kernel)
abbrev scX6_mates : ik_SC := (wdX, cX6_mates, 5, RX6, [(0, 6)], 2, some .int)
set_option maxRecDepth 100000 in
def bX6_mates : SP scX6_mates := (pSeq (pSet 4 (eIte 8 14 15 (cCmp0 1 (eCall (.invokevirtual 78) (lkV (T := TX6) (N := 7) mf_X6_has mv_X6_has ml_X6_78 rfl rfl rfl (by decide) (by decide)) MX6_has (aR (rLoc 0 6) (aI (eLoc 2) aNil)))) (eBin 6 (eLit 1) (eLoc 2)) (eLit 0))) (pSeq (pIf 21 24 24 (cCmp0 0 (eLoc 1)) (pRet 0 24 (eLoc 4)) pSkip) (pSeq (pIf 29 34 34 (cCmp 0 (eLoc 1) (eLit 1)) (pRet 0 34 (eBin 5 (eLoc 4) (eLit (-1)))) pSkip) (pRet 0 57 (eIte 38 51 56 (cCmp0 1 (eLoc 3)) (eBin 5 (eBin 4 (eCall (.invokevirtual 87) (lkV (T := TX6) (N := 7) mf_X6_ahead mv_X6_ahead ml_X6_87 rfl rfl rfl (by decide) (by decide)) MX6_ahead (aR (rLoc 0 6) (aI (eLoc 2) aNil))) (eLoc 4)) (eLit (-1))) (eCall (.invokevirtual 87) (lkV (T := TX6) (N := 7) mf_X6_ahead mv_X6_ahead ml_X6_87 rfl rfl rfl (by decide) (by decide)) MX6_ahead (aR (rLoc 0 6) (aI (eLoc 2) aNil))))))))
set_option maxRecDepth 100000 in
def MX6_mates : MP wdX yX6_mates cX6_mates 5 (some .int) 2 [.inr 6, .inl 0, .inl 0, .inl 0] := mkM scX6_mates yX6_mates [.inr 6, .inl 0, .inl 0, .inl 0] bX6_mates (by decide +kernel) rfl rfl (by decide) (by decide +kernel)
abbrev scX11_tiesReason : ik_SC := (wdX, cX11_tiesReason, 4, RX11, [(0, 0)], 3, some .int)
set_option maxRecDepth 100000 in
def bX11_tiesReason : SP scX11_tiesReason := (pSeq (pSeq (pSet 1 (eLit 0)) (pWh 13 96 96 (cCmp 2 (eLoc 1) (eCall (.invokevirtual 295) (lkV (T := TX0) (N := 12) mf_X0_ties mv_X0_ties ml_X11_295 rfl rfl rfl (by decide) (by decide)) MX0_ties (aR (rFld (rLoc 0 0) 33 11 3 15 fl_X11_33) aNil))) (pSeq (pSeq (pSet 2 (eCall (.invokevirtual 366) (lkV (T := TX0) (N := 12) mf_X0_tieFirst mv_X0_tieFirst ml_X11_366 rfl rfl rfl (by decide) (by decide)) MX0_tieFirst (aR (rFld (rLoc 0 0) 33 11 3 15 fl_X11_33) (aI (eLoc 1) aNil)))) (pSeq (pSet 3 (eCall (.invokevirtual 369) (lkV (T := TX0) (N := 12) mf_X0_tieSecond mv_X0_tieSecond ml_X11_369 rfl rfl rfl (by decide) (by decide)) MX0_tieSecond (aR (rFld (rLoc 0 0) 33 11 3 15 fl_X11_33) (aI (eLoc 1) aNil)))) (pIf 87 90 90 (cOr 53 (cOr 42 (cNot (cCmp0 1 (eCall (.invokevirtual 152) (lkV (T := TX0) (N := 12) mf_X0_has mv_X0_has ml_X11_152 rfl rfl rfl (by decide) (by decide)) MX0_has (aR (rFld (rLoc 0 0) 33 11 3 15 fl_X11_33) (aI (eLoc 2) aNil))))) (cNot (cCmp0 1 (eCall (.invokevirtual 152) (lkV (T := TX0) (N := 12) mf_X0_has mv_X0_has ml_X11_152 rfl rfl rfl (by decide) (by decide)) MX0_has (aR (rFld (rLoc 0 0) 33 11 3 15 fl_X11_33) (aI (eLoc 3) aNil)))))) (cNot (cCmp0 1 (eCall (.invokestatic 348) (lkS mf_X11_bit ms_X11_bit ml_X11_348 rfl (by decide) (by decide)) MX11_bit (aI (eCall (.invokevirtual 375) (lkV (T := TX6) (N := 7) mf_X6_mates mv_X6_mates ml_X11_375 rfl rfl rfl (by decide) (by decide)) MX6_mates (aR (rFld (rLoc 0 0) 26 11 2 6 fl_X11_26) (aI (eCall (.invokevirtual 372) (lkV (T := TX0) (N := 12) mf_X0_tieSort mv_X0_tieSort ml_X11_372 rfl rfl rfl (by decide) (by decide)) MX0_tieSort (aR (rFld (rLoc 0 0) 33 11 3 15 fl_X11_33) (aI (eLoc 1) aNil))) (aI (eArr 0 4 (rFld (rLoc 0 0) 76 11 10 64 fl_X11_76) (eLoc 2)) (aI (eLit 1) aNil))))) (aI (eArr 0 4 (rFld (rLoc 0 0) 76 11 10 64 fl_X11_76) (eLoc 3)) aNil)))))) (pRet 0 90 (eLit 16)) pSkip))) (pInc 1 1)))) (pRet 0 98 (eLit 0)))
set_option maxRecDepth 100000 in
def MX11_tiesReason : MP wdX yX11_tiesReason cX11_tiesReason 4 (some .int) 3 [.inr 0] := mkM scX11_tiesReason yX11_tiesReason [.inr 0] bX11_tiesReason (by decide +kernel) rfl rfl (by decide) (by decide +kernel)
abbrev scX8_count : ik_SC := (wdX, cX8_count, 1, RX8, [(0, 25)], 0, some .int)
set_option maxRecDepth 100000 in
def bX8_count : SP scX8_count := (pRet 0 5 (eFld (rLoc 0 25) 40 8 7 0 fl_X8_40))
set_option maxRecDepth 100000 in
def MX8_count : MP wdX yX8_count cX8_count 1 (some .int) 0 [.inr 25] := mkM scX8_count yX8_count [.inr 25] bX8_count (by decide +kernel) rfl rfl (by decide) (by decide +kernel)
abbrev scX8_tokens : ik_SC := (wdX, cX8_tokens, 2, RX8, [(0, 25)], 1, some .int)
set_option maxRecDepth 100000 in
def bX8_tokens : SP scX8_tokens := (pRet 0 19 (eIte 8 17 18 (cCmp0 1 (eCall (.invokevirtual 101) (lkV (T := TX8) (N := 11) mf_X8_has mv_X8_has ml_X8_101 rfl rfl rfl (by decide) (by decide)) MX8_has (aR (rLoc 0 25) (aI (eLoc 1) aNil)))) (eArr 0 6 (rFld (rLoc 0 25) 34 8 5 33 fl_X8_34) (eLoc 1)) (eLit 0)))
set_option maxRecDepth 100000 in
def MX8_tokens : MP wdX yX8_tokens cX8_tokens 2 (some .int) 1 [.inr 25, .inl 0] := mkM scX8_tokens yX8_tokens [.inr 25, .inl 0] bX8_tokens (by decide +kernel) rfl rfl (by decide) (by decide +kernel)
abbrev scX10_wide_26 : ik_SC := (wdX, cX10_wide, 8, RX10, [(0, 26), (2, 3)], 1, some .int)
set_option maxRecDepth 100000 in
def bX10_wide_26 : SP scX10_wide_26 := (pSeq (pSet 3 (eLit 0)) (pSeq (pSet 4 (eLit 0)) (pSeq (pSet 5 (eCall (.invokevirtual 32) (lkV (T := TX10) (N := 3) mf_X10_length mv_X10_length ml_X10_32 rfl rfl rfl (by decide) (by decide)) MX10_length_26 (aR (rLoc 0 26) (aI (eLoc 1) aNil)))) (pSeq (pSeq (pSet 6 (eLit 0)) (pWh 22 59 59 (cCmp 2 (eLoc 6) (eLoc 5)) (pSeq (pSeq (pSet 7 (eCall (.invokevirtual 36) (lkV (T := TX10) (N := 3) mf_X10_letter mv_X10_letter ml_X10_36 rfl rfl rfl (by decide) (by decide)) MX10_letter_26 (aR (rLoc 0 26) (aI (eLoc 1) (aI (eLoc 6) aNil))))) (pSeq (pSet 3 (eBin 0 (eLoc 3) (eBin 0 (eCall (.invokevirtual 39) (lkV (T := TX4) (N := 2) mf_X4_wideOf mv_X4_wideOf ml_X10_39 rfl rfl rfl (by decide) (by decide)) MX4_wideOf (aR (rLoc 2 3) (aI (eLoc 7) aNil))) (eCall (.invokevirtual 44) (lkV (T := TX4) (N := 2) mf_X4_joinOf mv_X4_joinOf ml_X10_44 rfl rfl rfl (by decide) (by decide)) MX4_joinOf (aR (rLoc 2 3) (aI (eLoc 4) (aI (eLoc 7) aNil))))))) (pSet 4 (eLoc 7)))) (pInc 6 1)))) (pRet 0 61 (eLoc 3))))))
set_option maxRecDepth 100000 in
def MX10_wide_26 : MP wdX yX10_wide cX10_wide 8 (some .int) 1 [.inr 26, .inl 0, .inr 3] := mkM scX10_wide_26 yX10_wide [.inr 26, .inl 0, .inr 3] bX10_wide_26 (by decide +kernel) rfl rfl (by decide) (by decide +kernel)
abbrev scX8_wordWide : ik_SC := (wdX, cX8_wordWide, 4, RX8, [(0, 25), (3, 3)], 2, some .int)
set_option maxRecDepth 100000 in
def bX8_wordWide : SP scX8_wordWide := (pRet 0 27 (eIte 9 25 26 (cCmp0 1 (eCall (.invokevirtual 106) (lkV (T := TX8) (N := 11) mf_X8_stands mv_X8_stands ml_X8_106 rfl rfl rfl (by decide) (by decide)) MX8_stands (aR (rLoc 0 25) (aI (eLoc 1) (aI (eLoc 2) aNil))))) (eCall (.invokevirtual 109) (lkV (T := TX10) (N := 3) mf_X10_wide mv_X10_wide ml_X8_109 rfl rfl rfl (by decide) (by decide)) MX10_wide_26 (aR (rFld (rLoc 0 25) 16 8 0 26 fl_X8_16) (aI (eCall (.invokestatic 61) (lkS mf_X8_slot ms_X8_slot ml_X8_61 rfl (by decide) (by decide)) MX8_slot (aI (eLoc 1) (aI (eLoc 2) aNil))) (aR (rLoc 3 3) aNil)))) (eLit 0)))
set_option maxRecDepth 100000 in
def MX8_wordWide : MP wdX yX8_wordWide cX8_wordWide 4 (some .int) 2 [.inr 25, .inl 0, .inl 0, .inr 3] := mkM scX8_wordWide yX8_wordWide [.inr 25, .inl 0, .inl 0, .inr 3] bX8_wordWide (by decide +kernel) rfl rfl (by decide) (by decide +kernel)
abbrev scX8_wide : ik_SC := (wdX, cX8_wide, 2, RX8, [(0, 25)], 1, some .int)
set_option maxRecDepth 100000 in
def bX8_wide : SP scX8_wide := (pRet 0 19 (eIte 8 17 18 (cCmp0 1 (eCall (.invokevirtual 101) (lkV (T := TX8) (N := 11) mf_X8_has mv_X8_has ml_X8_101 rfl rfl rfl (by decide) (by decide)) MX8_has (aR (rLoc 0 25) (aI (eLoc 1) aNil)))) (eArr 0 6 (rFld (rLoc 0 25) 31 8 4 32 fl_X8_31) (eLoc 1)) (eLit 0)))
set_option maxRecDepth 100000 in
def MX8_wide : MP wdX yX8_wide cX8_wide 2 (some .int) 1 [.inr 25, .inl 0] := mkM scX8_wide yX8_wide [.inr 25, .inl 0] bX8_wide (by decide +kernel) rfl rfl (by decide) (by decide +kernel)
abbrev scX8_set : ik_SC := (wdX, cX8_set, 9, RX8, [(0, 25), (2, 65), (3, 3)], 3, none)
set_option maxRecDepth 100000 in
def bX8_set : SP scX8_set := (pSeq (pSeq (pSet 4 (eLit 0)) (pSeq (pSet 5 (eLit 0)) (pWh 23 126 126 (cAnd 16 (cCmp 2 (eLoc 5) (eCall (.invokevirtual 104) (lkV (T := TX8) (N := 11) mf_X8_tokens mv_X8_tokens ml_X8_104 rfl rfl rfl (by decide) (by decide)) MX8_tokens (aR (rLoc 0 25) (aI (eLoc 1) aNil)))) (cCmp 2 (eLoc 5) (eLit 24))) (pSeq (pSeq (pSet 6 (eCall (.invokevirtual 79) (lkV (T := TX8) (N := 11) mf_X8_barAt mv_X8_barAt ml_X8_79 rfl rfl rfl (by decide) (by decide)) MX8_barAt (aR (rLoc 0 25) (aI (eLoc 1) (aI (eLoc 5) aNil))))) (pSeq (pSet 7 (eIte 44 51 59 (cAnd 37 (cCmp0 3 (eLoc 6)) (cCmp 2 (eLoc 6) (eLen 0 4 (rLoc 2 65)))) (eArr 0 4 (rLoc 2 65) (eLoc 6)) (eCall (.invokevirtual 115) (lkV (T := TX8) (N := 11) mf_X8_wordWide mv_X8_wordWide ml_X8_115 rfl rfl rfl (by decide) (by decide)) MX8_wordWide (aR (rLoc 0 25) (aI (eLoc 1) (aI (eLoc 5) (aR (rLoc 3 3) aNil))))))) (pSeq (pSet 8 (eBin 0 (eBin 0 (eLoc 4) (eCall (.invokevirtual 119) (lkV (T := TX4) (N := 2) mf_X4_wideOf mv_X4_wideOf ml_X8_119 rfl rfl rfl (by decide) (by decide)) MX4_wideOf (aR (rLoc 3 3) (aI (eLit 0) aNil)))) (eLoc 7))) (pSeq (pAst 3 24 (rFld (rLoc 0 25) 28 8 3 31 fl_X8_28) (eLoc 5) (eIte 95 99 100 (cOr 85 (cCmp0 0 (eLoc 5)) (cCmp 4 (eLoc 8) (eCall (.invokevirtual 124) (lkV (T := TX8) (N := 11) mf_X8_wide mv_X8_wide ml_X8_124 rfl rfl rfl (by decide) (by decide)) MX8_wide (aR (rLoc 0 25) (aI (eLoc 1) aNil))))) (eLit 1) (eLit 0))) (pSet 4 (eIte 111 116 118 (cCmp0 1 (eArr 3 24 (rFld (rLoc 0 25) 28 8 3 31 fl_X8_28) (eLoc 5))) (eLoc 7) (eLoc 8))))))) (pInc 5 1))))) (pRetV 127))
set_option maxRecDepth 100000 in
def MX8_set : MP wdX yX8_set cX8_set 9 (none) 3 [.inr 25, .inl 0, .inr 65, .inr 3] := mkM scX8_set yX8_set [.inr 25, .inl 0, .inr 65, .inr 3] bX8_set (by decide +kernel) rfl rfl (by decide) (by decide +kernel)
abbrev scX8_begins : ik_SC := (wdX, cX8_begins, 3, RX8, [(0, 25)], 2, some .boolean)
set_option maxRecDepth 100000 in
def bX8_begins : SP scX8_begins := (pRet 3 28 (eIte 22 26 27 (cAnd 9 (cCmp0 1 (eCall (.invokevirtual 106) (lkV (T := TX8) (N := 11) mf_X8_stands mv_X8_stands ml_X8_106 rfl rfl rfl (by decide) (by decide)) MX8_stands (aR (rLoc 0 25) (aI (eLoc 1) (aI (eLoc 2) aNil))))) (cCmp0 1 (eArr 3 144 (rFld (rLoc 0 25) 24 8 2 30 fl_X8_24) (eCall (.invokestatic 61) (lkS mf_X8_slot ms_X8_slot ml_X8_61 rfl (by decide) (by decide)) MX8_slot (aI (eLoc 1) (aI (eLoc 2) aNil)))))) (eLit 1) (eLit 0)))
set_option maxRecDepth 100000 in
def MX8_begins : MP wdX yX8_begins cX8_begins 3 (some .boolean) 2 [.inr 25, .inl 0, .inl 0] := mkM scX8_begins yX8_begins [.inr 25, .inl 0, .inl 0] bX8_begins (by decide +kernel) rfl rfl (by decide) (by decide +kernel)
abbrev scX8_breaksOtherwise : ik_SC := (wdX, cX8_breaksOtherwise, 3, RX8, [(0, 25)], 3, some .boolean)
set_option maxRecDepth 100000 in
def bX8_breaksOtherwise : SP scX8_breaksOtherwise := (pSeq (pSeq (pSet 2 (eLit 0)) (pWh 17 40 40 (cAnd 11 (cCmp 2 (eLoc 2) (eCall (.invokevirtual 104) (lkV (T := TX8) (N := 11) mf_X8_tokens mv_X8_tokens ml_X8_104 rfl rfl rfl (by decide) (by decide)) MX8_tokens (aR (rLoc 0 25) (aI (eLoc 1) aNil)))) (cCmp 2 (eLoc 2) (eLit 24))) (pSeq (pIf 32 34 34 (cCmp 1 (eArr 3 24 (rFld (rLoc 0 25) 28 8 3 31 fl_X8_28) (eLoc 2)) (eCall (.invokevirtual 113) (lkV (T := TX8) (N := 11) mf_X8_begins mv_X8_begins ml_X8_113 rfl rfl rfl (by decide) (by decide)) MX8_begins (aR (rLoc 0 25) (aI (eLoc 1) (aI (eLoc 2) aNil))))) (pRet 3 34 (eLit 1)) pSkip) (pInc 2 1)))) (pRet 3 42 (eLit 0)))
set_option maxRecDepth 100000 in
def MX8_breaksOtherwise : MP wdX yX8_breaksOtherwise cX8_breaksOtherwise 3 (some .boolean) 3 [.inr 25, .inl 0] := mkM scX8_breaksOtherwise yX8_breaksOtherwise [.inr 25, .inl 0] bX8_breaksOtherwise (by decide +kernel) rfl rfl (by decide) (by decide +kernel)
abbrev scX11_linesReason : ik_SC := (wdX, cX11_linesReason, 2, RX11, [(0, 0)], 4, some .int)
set_option maxRecDepth 100000 in
def bX11_linesReason : SP scX11_linesReason := (pSeq (pSeq (pSet 1 (eLit 0)) (pWh 13 48 48 (cCmp 2 (eLoc 1) (eCall (.invokevirtual 294) (lkV (T := TX8) (N := 11) mf_X8_count mv_X8_count ml_X11_294 rfl rfl rfl (by decide) (by decide)) MX8_count (aR (rFld (rLoc 0 0) 40 11 4 25 fl_X11_40) aNil))) (pSeq (pSeq (pDo (.invokevirtual 199) (lkV (T := TX8) (N := 11) mf_X8_set mv_X8_set ml_X11_199 rfl rfl rfl (by decide) (by decide)) MX8_set (aR (rFld (rLoc 0 0) 40 11 4 25 fl_X11_40) (aI (eLoc 1) (aR (rFld (rLoc 0 0) 79 11 11 65 fl_X11_79) (aR (rFld (rLoc 0 0) 19 11 1 3 fl_X11_19) aNil))))) (pIf 40 42 42 (cCmp0 1 (eCall (.invokevirtual 379) (lkV (T := TX8) (N := 11) mf_X8_breaksOtherwise mv_X8_breaksOtherwise ml_X11_379 rfl rfl rfl (by decide) (by decide)) MX8_breaksOtherwise (aR (rFld (rLoc 0 0) 40 11 4 25 fl_X11_40) (aI (eLoc 1) aNil)))) (pRet 0 42 (eLit 2)) pSkip)) (pInc 1 1)))) (pRet 0 50 (eLit 0)))
set_option maxRecDepth 100000 in
def MX11_linesReason : MP wdX yX11_linesReason cX11_linesReason 2 (some .int) 4 [.inr 0] := mkM scX11_linesReason yX11_linesReason [.inr 0] bX11_linesReason (by decide +kernel) rfl rfl (by decide) (by decide +kernel)
abbrev scX11_judge : ik_SC := (wdX, cX11_judge, 4, RX11, [(0, 0)], 29, some .int)
set_option maxRecDepth 100000 in
def bX11_judge : SP scX11_judge := (pSeq (pIf 18 20 20 (cOr 10 (cCmp0 0 (eCall (.invokevirtual 136) (lkV (T := TX0) (N := 12) mf_X0_count mv_X0_count ml_X11_136 rfl rfl rfl (by decide) (by decide)) MX0_count (aR (rFld (rLoc 0 0) 33 11 3 15 fl_X11_33) aNil))) (cNot (cCmp0 1 (eCall (.invokevirtual 189) (lkV (T := TX11) (N := 15) mf_X11_lay mv_X11_lay ml_X11_189 rfl rfl rfl (by decide) (by decide)) MX11_lay (aR (rLoc 0 0) (aI (eLoc 1) aNil)))))) (pRet 0 20 (eLit (-1))) pSkip) (pSeq (pSet 2 (eBin 4 (eCall (.invokevirtual 192) (lkV (T := TX11) (N := 15) mf_X11_tiesReason mv_X11_tiesReason ml_X11_192 rfl rfl rfl (by decide) (by decide)) MX11_tiesReason (aR (rLoc 0 0) aNil)) (eCall (.invokevirtual 195) (lkV (T := TX11) (N := 15) mf_X11_linesReason mv_X11_linesReason ml_X11_195 rfl rfl rfl (by decide) (by decide)) MX11_linesReason (aR (rLoc 0 0) aNil)))) (pSeq (pSeq (pSet 3 (eLit 0)) (pWh 48 80 80 (cAnd 43 (cCmp 2 (eLoc 3) (eCall (.invokevirtual 136) (lkV (T := TX0) (N := 12) mf_X0_count mv_X0_count ml_X11_136 rfl rfl rfl (by decide) (by decide)) MX0_count (aR (rFld (rLoc 0 0) 33 11 3 15 fl_X11_33) aNil))) (cCmp 2 (eLoc 3) (eLit 4))) (pSeq (pSet 2 (eBin 4 (eLoc 2) (eBin 4 (eCall (.invokevirtual 182) (lkV (T := TX11) (N := 15) mf_X11_reasonsButInk mv_X11_reasonsButInk ml_X11_182 rfl rfl rfl (by decide) (by decide)) MX11_reasonsButInk (aR (rLoc 0 0) (aI (eLoc 3) (aI (eArr 0 4 (rFld (rLoc 0 0) 76 11 10 64 fl_X11_76) (eLoc 3)) aNil)))) (eCall (.invokevirtual 186) (lkV (T := TX11) (N := 15) mf_X11_inkReason mv_X11_inkReason ml_X11_186 rfl rfl rfl (by decide) (by decide)) MX11_inkReason (aR (rLoc 0 0) (aI (eLoc 3) (aI (eArr 0 4 (rFld (rLoc 0 0) 76 11 10 64 fl_X11_76) (eLoc 3)) aNil))))))) (pInc 3 1)))) (pRet 0 82 (eLoc 2)))))
set_option maxRecDepth 100000 in
def MX11_judge : MP wdX yX11_judge cX11_judge 4 (some .int) 29 [.inr 0, .inl 0] := mkM scX11_judge yX11_judge [.inr 0, .inl 0] bX11_judge (by decide +kernel) rfl rfl (by decide) (by decide +kernel)
abbrev scX8_setLine : ik_SC := (wdX, cX8_setLine, 5, RX8, [(0, 25)], 2, some .int)
set_option maxRecDepth 100000 in
def bX8_setLine : SP scX8_setLine := (pSeq (pSet 3 (eLit (-1))) (pSeq (pSeq (pSet 4 (eLit 0)) (pWh 22 49 49 (cAnd 15 (cCmp 2 (eLoc 4) (eCall (.invokevirtual 104) (lkV (T := TX8) (N := 11) mf_X8_tokens mv_X8_tokens ml_X8_104 rfl rfl rfl (by decide) (by decide)) MX8_tokens (aR (rLoc 0 25) (aI (eLoc 1) aNil)))) (cCmp 2 (eLoc 4) (eLit 24))) (pSeq (pIf 32 43 43 (cCmp0 1 (eArr 3 24 (rFld (rLoc 0 25) 28 8 3 31 fl_X8_28) (eLoc 4))) (pSeq (pInc 3 1) (pIf 40 43 43 (cCmp 0 (eLoc 3) (eLoc 2)) (pRet 0 43 (eLoc 4)) pSkip)) pSkip) (pInc 4 1)))) (pRet 0 51 (eLit (-1)))))
set_option maxRecDepth 100000 in
def MX8_setLine : MP wdX yX8_setLine cX8_setLine 5 (some .int) 2 [.inr 25, .inl 0, .inl 0] := mkM scX8_setLine yX8_setLine [.inr 25, .inl 0, .inl 0] bX8_setLine (by decide +kernel) rfl rfl (by decide) (by decide +kernel)
abbrev scX11_line : ik_SC := (wdX, cX11_line, 4, RX11, [(0, 0)], 4, some .int)
set_option maxRecDepth 100000 in
def bX11_line : SP scX11_line := (pSeq (pIf 23 25 25 (cOr 15 (cOr 11 (cNot (cCmp0 1 (eCall (.invokevirtual 198) (lkV (T := TX8) (N := 11) mf_X8_has mv_X8_has ml_X11_198 rfl rfl rfl (by decide) (by decide)) MX8_has (aR (rFld (rLoc 0 0) 40 11 4 25 fl_X11_40) (aI (eLoc 1) aNil))))) (cCmp0 2 (eLoc 3))) (cNot (cCmp0 1 (eCall (.invokevirtual 189) (lkV (T := TX11) (N := 15) mf_X11_lay mv_X11_lay ml_X11_189 rfl rfl rfl (by decide) (by decide)) MX11_lay (aR (rLoc 0 0) (aI (eLoc 2) aNil)))))) (pRet 0 25 (eLit (-1))) pSkip) (pSeq (pDo (.invokevirtual 199) (lkV (T := TX8) (N := 11) mf_X8_set mv_X8_set ml_X11_199 rfl rfl rfl (by decide) (by decide)) MX8_set (aR (rFld (rLoc 0 0) 40 11 4 25 fl_X11_40) (aI (eLoc 1) (aR (rFld (rLoc 0 0) 79 11 11 65 fl_X11_79) (aR (rFld (rLoc 0 0) 19 11 1 3 fl_X11_19) aNil))))) (pRet 0 51 (eCall (.invokevirtual 203) (lkV (T := TX8) (N := 11) mf_X8_setLine mv_X8_setLine ml_X11_203 rfl rfl rfl (by decide) (by decide)) MX8_setLine (aR (rFld (rLoc 0 0) 40 11 4 25 fl_X11_40) (aI (eLoc 1) (aI (eLoc 3) aNil)))))))
set_option maxRecDepth 100000 in
def MX11_line : MP wdX yX11_line cX11_line 4 (some .int) 4 [.inr 0, .inl 0, .inl 0, .inl 0] := mkM scX11_line yX11_line [.inr 0, .inl 0, .inl 0, .inl 0] bX11_line (by decide +kernel) rfl rfl (by decide) (by decide +kernel)
abbrev scX6_count : ik_SC := (wdX, cX6_count, 1, RX6, [(0, 6)], 0, some .int)
set_option maxRecDepth 100000 in
def bX6_count : SP scX6_count := (pRet 0 5 (eFld (rLoc 0 6) 36 6 6 0 fl_X6_36))
set_option maxRecDepth 100000 in
def MX6_count : MP wdX yX6_count cX6_count 1 (some .int) 0 [.inr 6] := mkM scX6_count yX6_count [.inr 6] bX6_count (by decide +kernel) rfl rfl (by decide) (by decide +kernel)
abbrev scJ9_max_7cf53 : ik_SC := (wdX, cJ9_max_7cf53, 2, RJ9, [], 0, some .int)
set_option maxRecDepth 100000 in
def bJ9_max_7cf53 : SP scJ9_max_7cf53 := (pRet 0 11 (eIte 5 9 10 (cCmp 3 (eLoc 0) (eLoc 1)) (eLoc 0) (eLoc 1)))
set_option maxRecDepth 100000 in
def MJ9_max_7cf53 : MP wdX yJ9_max_7cf53 cJ9_max_7cf53 2 (some .int) 0 [.inl 0, .inl 0] := mkM scJ9_max_7cf53 yJ9_max_7cf53 [.inl 0, .inl 0] bJ9_max_7cf53 (by decide +kernel) rfl rfl (by decide) (by decide +kernel)
abbrev scJ9_min_7cf53 : ik_SC := (wdX, cJ9_min_7cf53, 2, RJ9, [], 0, some .int)
set_option maxRecDepth 100000 in
def bJ9_min_7cf53 : SP scJ9_min_7cf53 := (pRet 0 11 (eIte 5 9 10 (cCmp 5 (eLoc 0) (eLoc 1)) (eLoc 0) (eLoc 1)))
set_option maxRecDepth 100000 in
def MJ9_min_7cf53 : MP wdX yJ9_min_7cf53 cJ9_min_7cf53 2 (some .int) 0 [.inl 0, .inl 0] := mkM scJ9_min_7cf53 yJ9_min_7cf53 [.inl 0, .inl 0] bJ9_min_7cf53 (by decide +kernel) rfl rfl (by decide) (by decide +kernel)
abbrev scX2_begin : ik_SC := (wdX, cX2_begin, 4, RX2, [(0, 48)], 1, none)
set_option maxRecDepth 100000 in
def bX2_begin : SP scX2_begin := (pSeq (pSeq (pPut (rLoc 0 48) 53 2 9 0 fw_X2_53 (eCall (.invokestatic 50) (lkS mf_J9_min_7cf53 ms_J9_min_7cf53 ml_X2_50 rfl (by decide) (by decide)) MJ9_min_7cf53 (aI (eCall (.invokestatic 44) (lkS mf_J9_max_7cf53 ms_J9_max_7cf53 ml_X2_44 rfl (by decide) (by decide)) MJ9_max_7cf53 (aI (eLoc 1) (aI (eLit 0) aNil))) (aI (eLit 4) aNil)))) (pSeq (pPut (rLoc 0 48) 57 2 10 0 fw_X2_57 (eCall (.invokestatic 50) (lkS mf_J9_min_7cf53 ms_J9_min_7cf53 ml_X2_50 rfl (by decide) (by decide)) MJ9_min_7cf53 (aI (eCall (.invokestatic 44) (lkS mf_J9_max_7cf53 ms_J9_max_7cf53 ml_X2_44 rfl (by decide) (by decide)) MJ9_max_7cf53 (aI (eLoc 2) (aI (eLit 0) aNil))) (aI (eLit 24) aNil)))) (pSeq (pSet 3 (eLit 0)) (pWh 38 51 51 (cCmp 2 (eLoc 3) (eLen 0 384 (rFld (rLoc 0 48) 22 2 2 56 fl_X2_22))) (pSeq (pAst 0 384 (rFld (rLoc 0 48) 22 2 2 56 fl_X2_22) (eLoc 3) (eLit (-1))) (pInc 3 1)))))) (pRetV 52))
set_option maxRecDepth 100000 in
def MX2_begin : MP wdX yX2_begin cX2_begin 4 (none) 1 [.inr 48, .inl 0, .inl 0] := mkM scX2_begin yX2_begin [.inr 48, .inl 0, .inl 0] bX2_begin (by decide +kernel) rfl rfl (by decide) (by decide +kernel)
abbrev scX6_weight : ik_SC := (wdX, cX6_weight, 2, RX6, [(0, 6)], 1, some .int)
set_option maxRecDepth 100000 in
def bX6_weight : SP scX6_weight := (pRet 0 19 (eIte 8 17 18 (cCmp0 1 (eCall (.invokevirtual 78) (lkV (T := TX6) (N := 7) mf_X6_has mv_X6_has ml_X6_78 rfl rfl rfl (by decide) (by decide)) MX6_has (aR (rLoc 0 6) (aI (eLoc 1) aNil)))) (eArr 0 24 (rFld (rLoc 0 6) 30 6 4 13 fl_X6_30) (eLoc 1)) (eLit 0)))
set_option maxRecDepth 100000 in
def MX6_weight : MP wdX yX6_weight cX6_weight 2 (some .int) 1 [.inr 6, .inl 0] := mkM scX6_weight yX6_weight [.inr 6, .inl 0] bX6_weight (by decide +kernel) rfl rfl (by decide) (by decide +kernel)
abbrev scX2_isName : ik_SC := (wdX, cX2_isName, 1, RX2, [], 0, some .boolean)
set_option maxRecDepth 100000 in
def bX2_isName : SP scX2_isName := (pRet 3 16 (eIte 10 14 15 (cAnd 4 (cCmp0 3 (eLoc 0)) (cCmp 2 (eLoc 0) (eLit 24))) (eLit 1) (eLit 0)))
set_option maxRecDepth 100000 in
def MX2_isName : MP wdX yX2_isName cX2_isName 1 (some .boolean) 0 [.inl 0] := mkM scX2_isName yX2_isName [.inl 0] bX2_isName (by decide +kernel) rfl rfl (by decide) (by decide +kernel)
abbrev scX2_setName : ik_SC := (wdX, cX2_setName, 4, RX2, [(0, 48)], 1, none)
set_option maxRecDepth 100000 in
def bX2_setName : SP scX2_setName := (pSeq (pIf 7 21 21 (cCmp0 1 (eCall (.invokestatic 60) (lkS mf_X2_isName ms_X2_isName ml_X2_60 rfl (by decide) (by decide)) MX2_isName (aI (eLoc 1) aNil))) (pSeq (pAst 0 24 (rFld (rLoc 0 48) 25 2 3 57 fl_X2_25) (eLoc 1) (eLoc 2)) (pAst 0 24 (rFld (rLoc 0 48) 28 2 4 58 fl_X2_28) (eLoc 1) (eLoc 3))) pSkip) (pRetV 22))
set_option maxRecDepth 100000 in
def MX2_setName : MP wdX yX2_setName cX2_setName 4 (none) 1 [.inr 48, .inl 0, .inl 0, .inl 0] := mkM scX2_setName yX2_setName [.inr 48, .inl 0, .inl 0, .inl 0] bX2_setName (by decide +kernel) rfl rfl (by decide) (by decide +kernel)
end
section
abbrev scX2_isBar : ik_SC := (wdX, cX2_isBar, 1, RX2, [], 0, some .boolean)
set_option maxRecDepth 100000 in
def bX2_isBar : SP scX2_isBar := (pRet 3 15 (eIte 9 13 14 (cAnd 4 (cCmp0 3 (eLoc 0)) (cCmp 2 (eLoc 0) (eLit 4))) (eLit 1) (eLit 0)))
set_option maxRecDepth 100000 in
def MX2_isBar : MP wdX yX2_isBar cX2_isBar 1 (some .boolean) 0 [.inl 0] := mkM scX2_isBar yX2_isBar [.inl 0] bX2_isBar (by decide +kernel) rfl rfl (by decide) (by decide +kernel)
abbrev scX2_pairPlace : ik_SC := (wdX, cX2_pairPlace, 3, RX2, [], 0, some .int)
set_option maxRecDepth 100000 in
def bX2_pairPlace : SP scX2_pairPlace := (pRet 0 11 (eBin 0 (eBin 2 (eBin 0 (eBin 2 (eLoc 0) (eLit 4)) (eLoc 2)) (eLit 24)) (eLoc 1)))
set_option maxRecDepth 100000 in
def MX2_pairPlace : MP wdX yX2_pairPlace cX2_pairPlace 3 (some .int) 0 [.inl 0, .inl 0, .inl 0] := mkM scX2_pairPlace yX2_pairPlace [.inl 0, .inl 0, .inl 0] bX2_pairPlace (by decide +kernel) rfl rfl (by decide) (by decide +kernel)
abbrev scX2_pair : ik_SC := (wdX, cX2_pair, 5, RX2, [(0, 48)], 1, none)
set_option maxRecDepth 100000 in
def bX2_pair : SP scX2_pair := (pSeq (pIf 21 37 37 (cAnd 14 (cAnd 7 (cCmp0 1 (eCall (.invokestatic 64) (lkS mf_X2_isBar ms_X2_isBar ml_X2_64 rfl (by decide) (by decide)) MX2_isBar (aI (eLoc 1) aNil))) (cCmp0 1 (eCall (.invokestatic 64) (lkS mf_X2_isBar ms_X2_isBar ml_X2_64 rfl (by decide) (by decide)) MX2_isBar (aI (eLoc 3) aNil)))) (cCmp0 1 (eCall (.invokestatic 60) (lkS mf_X2_isName ms_X2_isName ml_X2_60 rfl (by decide) (by decide)) MX2_isName (aI (eLoc 2) aNil)))) (pAop 384 3 (rFld (rLoc 0 48) 22 2 2 56 fl_X2_22) (eCall (.invokestatic 67) (lkS mf_X2_pairPlace ms_X2_pairPlace ml_X2_67 rfl (by decide) (by decide)) MX2_pairPlace (aI (eLoc 1) (aI (eLoc 2) (aI (eLoc 3) aNil)))) (eLoc 4)) pSkip) (pRetV 38))
set_option maxRecDepth 100000 in
def MX2_pair : MP wdX yX2_pair cX2_pair 5 (none) 1 [.inr 48, .inl 0, .inl 0, .inl 0, .inl 0] := mkM scX2_pair yX2_pair [.inr 48, .inl 0, .inl 0, .inl 0, .inl 0] bX2_pair (by decide +kernel) rfl rfl (by decide) (by decide +kernel)
abbrev scX5_stand : ik_SC := (wdX, cX5_stand, 4, RX5, [(0, 49)], 0, none)
set_option maxRecDepth 100000 in
def bX5_stand : SP scX5_stand := (pSeq (pSeq (pSet 3 (eLit 0)) (pWh 7 44 44 (cCmp 2 (eLoc 3) (eLit 4)) (pSeq (pAst 0 4 (rFld (rLoc 0 49) 25 5 4 54 fl_X5_25) (eLoc 3) (eBin 0 (eIte 16 20 26 (cCmp0 1 (eLoc 2)) (eLit 0) (eArr 0 4 (rFld (rLoc 0 49) 25 5 4 54 fl_X5_25) (eLoc 3))) (eIte 31 35 36 (cCmp 0 (eLoc 3) (eLoc 1)) (eLit 1) (eLit 0)))) (pInc 3 1)))) (pRetV 45))
set_option maxRecDepth 100000 in
def MX5_stand : MP wdX yX5_stand cX5_stand 4 (none) 0 [.inr 49, .inl 0, .inl 0] := mkM scX5_stand yX5_stand [.inr 49, .inl 0, .inl 0] bX5_stand (by decide +kernel) rfl rfl (by decide) (by decide +kernel)
abbrev scX5_asksOfTheSame : ik_SC := (wdX, cX5_asksOfTheSame, 3, RX5, [(0, 49)], 0, some .boolean)
set_option maxRecDepth 100000 in
def bX5_asksOfTheSame : SP scX5_asksOfTheSame := (pSeq (pSeq (pSet 2 (eLit 0)) (pWh 7 34 34 (cCmp 2 (eLoc 2) (eLit 4)) (pSeq (pIf 26 28 28 (cCmp 1 (eArr 0 2304 (rFld (rLoc 0 49) 22 5 3 53 fl_X5_22) (eBin 0 (eBin 2 (eLoc 1) (eLit 4)) (eLoc 2))) (eArr 0 4 (rFld (rLoc 0 49) 25 5 4 54 fl_X5_25) (eLoc 2))) (pRet 3 28 (eLit 0)) pSkip) (pInc 2 1)))) (pRet 3 36 (eLit 1)))
set_option maxRecDepth 100000 in
def MX5_asksOfTheSame : MP wdX yX5_asksOfTheSame cX5_asksOfTheSame 3 (some .boolean) 0 [.inr 49, .inl 0] := mkM scX5_asksOfTheSame yX5_asksOfTheSame [.inr 49, .inl 0] bX5_asksOfTheSame (by decide +kernel) rfl rfl (by decide) (by decide +kernel)
abbrev scX5_put : ik_SC := (wdX, cX5_put, 5, RX5, [(0, 49)], 0, none)
set_option maxRecDepth 100000 in
def bX5_put : SP scX5_put := (pSeq (pSeq (pAst 0 576 (rFld (rLoc 0 49) 15 5 1 51 fl_X5_15) (eLoc 1) (eLoc 2)) (pSeq (pAst 3 576 (rFld (rLoc 0 49) 18 5 2 52 fl_X5_18) (eLoc 1) (eLoc 3)) (pSeq (pSet 4 (eLit 0)) (pWh 23 47 47 (cCmp 2 (eLoc 4) (eLit 4)) (pSeq (pAst 0 2304 (rFld (rLoc 0 49) 22 5 3 53 fl_X5_22) (eBin 0 (eBin 2 (eLoc 1) (eLit 4)) (eLoc 4)) (eArr 0 4 (rFld (rLoc 0 49) 25 5 4 54 fl_X5_25) (eLoc 4))) (pInc 4 1)))))) (pRetV 48))
set_option maxRecDepth 100000 in
def MX5_put : MP wdX yX5_put cX5_put 5 (none) 0 [.inr 49, .inl 0, .inl 0, .inl 0] := mkM scX5_put yX5_put [.inr 49, .inl 0, .inl 0, .inl 0] bX5_put (by decide +kernel) rfl rfl (by decide) (by decide +kernel)
abbrev scX5_add : ik_SC := (wdX, cX5_add, 6, RX5, [(0, 49)], 1, none)
set_option maxRecDepth 100000 in
def bX5_add : SP scX5_add := (pSeq (pSeq (pSet 3 (eLit 3)) (pSeq (pSeq (pSet 4 (eLit 0)) (pWh 24 33 33 (cAnd 15 (cAnd 11 (cCmp 2 (eLoc 4) (eLit 4)) (cCmp0 3 (eLoc 3))) (cCmp0 0 (eArr 0 4 (rFld (rLoc 0 49) 25 5 4 54 fl_X5_25) (eLoc 3)))) (pSeq (pInc 3 (-1)) (pInc 4 1)))) (pSeq (pIf 37 67 67 (cCmp0 2 (eLoc 3)) (pSeq (pPut (rLoc 0 49) 28 5 5 3 fw_X5_28 (eIte 58 62 63 (cOr 45 (cCmp0 1 (eFld (rLoc 0 49) 28 5 5 3 fl_X5_28)) (cCmp 0 (eLoc 2) (eIte 50 54 55 (cCmp0 3 (eLoc 1)) (eLit 1) (eLit 0)))) (eLit 1) (eLit 0))) (pRetV 67)) pSkip) (pSeq (pSeq (pSet 4 (eLit 0)) (pWh 89 162 162 (cAnd 81 (cCmp 2 (eLoc 4) (eArr 0 4 (rFld (rLoc 0 49) 9 5 0 50 fl_X5_9) (eLoc 3))) (cCmp 2 (eLoc 4) (eLit 144))) (pSeq (pSeq (pSet 5 (eBin 0 (eBin 2 (eLoc 3) (eLit 144)) (eLoc 4))) (pIf 119 156 156 (cAnd 110 (cCmp 0 (eArr 3 576 (rFld (rLoc 0 49) 18 5 2 52 fl_X5_18) (eLoc 5)) (eLoc 2)) (cCmp0 1 (eCall (.invokevirtual 80) (lkV (T := TX5) (N := 8) mf_X5_asksOfTheSame mv_X5_asksOfTheSame ml_X5_80 rfl rfl rfl (by decide) (by decide)) MX5_asksOfTheSame (aR (rLoc 0 49) (aI (eLoc 5) aNil))))) (pSeq (pAst 0 576 (rFld (rLoc 0 49) 15 5 1 51 fl_X5_15) (eLoc 5) (eIte 129 143 154 (cCmp0 1 (eLoc 2)) (eCall (.invokestatic 84) (lkS mf_J9_max_7cf53 ms_J9_max_7cf53 ml_X5_84 rfl (by decide) (by decide)) MJ9_max_7cf53 (aI (eArr 0 576 (rFld (rLoc 0 49) 15 5 1 51 fl_X5_15) (eLoc 5)) (aI (eLoc 1) aNil))) (eCall (.invokestatic 89) (lkS mf_J9_min_7cf53 ms_J9_min_7cf53 ml_X5_89 rfl (by decide) (by decide)) MJ9_min_7cf53 (aI (eArr 0 576 (rFld (rLoc 0 49) 15 5 1 51 fl_X5_15) (eLoc 5)) (aI (eLoc 1) aNil))))) (pRetV 156)) pSkip)) (pInc 4 1)))) (pIf 183 211 211 (cAnd 171 (cCmp0 3 (eArr 0 4 (rFld (rLoc 0 49) 9 5 0 50 fl_X5_9) (eLoc 3))) (cCmp 2 (eArr 0 4 (rFld (rLoc 0 49) 9 5 0 50 fl_X5_9) (eLoc 3)) (eLit 144))) (pSeq (pDo (.invokevirtual 92) (lkV (T := TX5) (N := 8) mf_X5_put mv_X5_put ml_X5_92 rfl rfl rfl (by decide) (by decide)) MX5_put (aR (rLoc 0 49) (aI (eBin 0 (eBin 2 (eLoc 3) (eLit 144)) (eArr 0 4 (rFld (rLoc 0 49) 9 5 0 50 fl_X5_9) (eLoc 3))) (aI (eLoc 1) (aI (eLoc 2) aNil))))) (pAop 4 0 (rFld (rLoc 0 49) 9 5 0 50 fl_X5_9) (eLoc 3) (eLit 1))) pSkip))))) (pRetV 212))
set_option maxRecDepth 100000 in
def MX5_add : MP wdX yX5_add cX5_add 6 (none) 1 [.inr 49, .inl 0, .inl 0] := mkM scX5_add yX5_add [.inr 49, .inl 0, .inl 0] bX5_add (by decide +kernel) rfl rfl (by decide) (by decide +kernel)
abbrev scX5_readSheet : ik_SC := (wdX, cX5_readSheet, 8, RX5, [(0, 49), (2, 25), (3, 3)], 3, none)
set_option maxRecDepth 100000 in
def bX5_readSheet : SP scX5_readSheet := (pSeq (pSeq (pSet 4 (eLit 0)) (pSeq (pSet 5 (eLit 0)) (pWh 16 125 125 (cCmp 2 (eLoc 5) (eCall (.invokevirtual 49) (lkV (T := TX8) (N := 11) mf_X8_tokens mv_X8_tokens ml_X5_49 rfl rfl rfl (by decide) (by decide)) MX8_tokens (aR (rLoc 2 25) (aI (eLoc 1) aNil)))) (pSeq (pSeq (pSet 6 (eCall (.invokevirtual 53) (lkV (T := TX8) (N := 11) mf_X8_barAt mv_X8_barAt ml_X5_53 rfl rfl rfl (by decide) (by decide)) MX8_barAt (aR (rLoc 2 25) (aI (eLoc 1) (aI (eLoc 5) aNil))))) (pSeq (pSet 7 (eIte 31 42 43 (cCmp 0 (eLoc 6) (eLit (-1))) (eCall (.invokevirtual 57) (lkV (T := TX8) (N := 11) mf_X8_wordWide mv_X8_wordWide ml_X5_57 rfl rfl rfl (by decide) (by decide)) MX8_wordWide (aR (rLoc 2 25) (aI (eLoc 1) (aI (eLoc 5) (aR (rLoc 3 3) aNil))))) (eLit 0))) (pSeq (pSet 4 (eBin 0 (eLoc 4) (eBin 0 (eCall (.invokevirtual 61) (lkV (T := TX4) (N := 2) mf_X4_wideOf mv_X4_wideOf ml_X5_61 rfl rfl rfl (by decide) (by decide)) MX4_wideOf (aR (rLoc 3 3) (aI (eLit 0) aNil))) (eLoc 7)))) (pSeq (pDo (.invokevirtual 66) (lkV (T := TX5) (N := 8) mf_X5_stand mv_X5_stand ml_X5_66 rfl rfl rfl (by decide) (by decide)) MX5_stand (aR (rLoc 0 49) (aI (eLoc 6) (aI (eIte 66 70 71 (cCmp0 0 (eLoc 5)) (eLit 1) (eLit 0)) aNil)))) (pSeq (pIf 79 98 98 (cCmp0 4 (eLoc 5)) (pDo (.invokevirtual 77) (lkV (T := TX5) (N := 8) mf_X5_add mv_X5_add ml_X5_77 rfl rfl rfl (by decide) (by decide)) MX5_add (aR (rLoc 0 49) (aI (eBin 1 (eCall (.invokevirtual 70) (lkV (T := TX8) (N := 11) mf_X8_wide mv_X8_wide ml_X5_70 rfl rfl rfl (by decide) (by decide)) MX8_wide (aR (rLoc 2 25) (aI (eLoc 1) aNil))) (eLoc 4)) (aI (eCall (.invokevirtual 73) (lkV (T := TX8) (N := 11) mf_X8_begins mv_X8_begins ml_X5_73 rfl rfl rfl (by decide) (by decide)) MX8_begins (aR (rLoc 2 25) (aI (eLoc 1) (aI (eLoc 5) aNil)))) aNil)))) pSkip) (pIf 108 119 119 (cCmp0 1 (eCall (.invokevirtual 73) (lkV (T := TX8) (N := 11) mf_X8_begins mv_X8_begins ml_X5_73 rfl rfl rfl (by decide) (by decide)) MX8_begins (aR (rLoc 2 25) (aI (eLoc 1) (aI (eLoc 5) aNil))))) (pSeq (pSet 4 (eLoc 7)) (pDo (.invokevirtual 66) (lkV (T := TX5) (N := 8) mf_X5_stand mv_X5_stand ml_X5_66 rfl rfl rfl (by decide) (by decide)) MX5_stand (aR (rLoc 0 49) (aI (eLoc 6) (aI (eLit 1) aNil))))) pSkip)))))) (pInc 5 1))))) (pRetV 126))
set_option maxRecDepth 100000 in
def MX5_readSheet : MP wdX yX5_readSheet cX5_readSheet 8 (none) 3 [.inr 49, .inl 0, .inr 25, .inr 3] := mkM scX5_readSheet yX5_readSheet [.inr 49, .inl 0, .inr 25, .inr 3] bX5_readSheet (by decide +kernel) rfl rfl (by decide) (by decide +kernel)
abbrev scX5_read : ik_SC := (wdX, cX5_read, 4, RX5, [(0, 49), (1, 25), (2, 3)], 4, none)
set_option maxRecDepth 100000 in
def bX5_read : SP scX5_read := (pSeq (pSeq (pPut (rLoc 0 49) 28 5 5 3 fw_X5_28 (eLit 0)) (pSeq (pSeq (pSet 3 (eLit 0)) (pWh 12 25 25 (cCmp 2 (eLoc 3) (eLit 4)) (pSeq (pAst 0 4 (rFld (rLoc 0 49) 9 5 0 50 fl_X5_9) (eLoc 3) (eLit 0)) (pInc 3 1)))) (pSeq (pSet 3 (eLit 0)) (pWh 35 48 48 (cCmp 2 (eLoc 3) (eCall (.invokevirtual 39) (lkV (T := TX8) (N := 11) mf_X8_count mv_X8_count ml_X5_39 rfl rfl rfl (by decide) (by decide)) MX8_count (aR (rLoc 1 25) aNil))) (pSeq (pDo (.invokevirtual 45) (lkV (T := TX5) (N := 8) mf_X5_readSheet mv_X5_readSheet ml_X5_45 rfl rfl rfl (by decide) (by decide)) MX5_readSheet (aR (rLoc 0 49) (aI (eLoc 3) (aR (rLoc 1 25) (aR (rLoc 2 3) aNil))))) (pInc 3 1)))))) (pRetV 49))
set_option maxRecDepth 100000 in
def MX5_read : MP wdX yX5_read cX5_read 4 (none) 4 [.inr 49, .inr 25, .inr 3] := mkM scX5_read yX5_read [.inr 49, .inr 25, .inr 3] bX5_read (by decide +kernel) rfl rfl (by decide) (by decide +kernel)
abbrev scX11_prepare : ik_SC := (wdX, cX11_prepare, 5, RX11, [(0, 0)], 29, none)
set_option maxRecDepth 100000 in
def bX11_prepare : SP scX11_prepare := (pSeq (pSeq (pIf 7 8 8 (cCmp0 1 (eFld (rLoc 0 0) 309 11 13 3 fl_X11_309)) (pRetV 8) pSkip) (pSeq (pDo (.invokevirtual 382) (lkV (T := TX2) (N := 14) mf_X2_begin mv_X2_begin ml_X11_382 rfl rfl rfl (by decide) (by decide)) MX2_begin (aR (rFld (rLoc 0 0) 68 11 8 48 fl_X11_68) (aI (eCall (.invokevirtual 136) (lkV (T := TX0) (N := 12) mf_X0_count mv_X0_count ml_X11_136 rfl rfl rfl (by decide) (by decide)) MX0_count (aR (rFld (rLoc 0 0) 33 11 3 15 fl_X11_33) aNil)) (aI (eCall (.invokevirtual 293) (lkV (T := TX6) (N := 7) mf_X6_count mv_X6_count ml_X11_293 rfl rfl rfl (by decide) (by decide)) MX6_count (aR (rFld (rLoc 0 0) 26 11 2 6 fl_X11_26) aNil)) aNil)))) (pSeq (pSeq (pSet 1 (eLit 0)) (pWh 42 76 76 (cCmp 2 (eLoc 1) (eCall (.invokevirtual 293) (lkV (T := TX6) (N := 7) mf_X6_count mv_X6_count ml_X11_293 rfl rfl rfl (by decide) (by decide)) MX6_count (aR (rFld (rLoc 0 0) 26 11 2 6 fl_X11_26) aNil))) (pSeq (pDo (.invokevirtual 388) (lkV (T := TX2) (N := 14) mf_X2_setName mv_X2_setName ml_X11_388 rfl rfl rfl (by decide) (by decide)) MX2_setName (aR (rFld (rLoc 0 0) 68 11 8 48 fl_X11_68) (aI (eLoc 1) (aI (eCall (.invokevirtual 127) (lkV (T := TX6) (N := 7) mf_X6_wide mv_X6_wide ml_X11_127 rfl rfl rfl (by decide) (by decide)) MX6_wide (aR (rFld (rLoc 0 0) 26 11 2 6 fl_X11_26) (aI (eLoc 1) (aR (rFld (rLoc 0 0) 19 11 1 3 fl_X11_19) aNil)))) (aI (eCall (.invokevirtual 385) (lkV (T := TX6) (N := 7) mf_X6_weight mv_X6_weight ml_X11_385 rfl rfl rfl (by decide) (by decide)) MX6_weight (aR (rFld (rLoc 0 0) 26 11 2 6 fl_X11_26) (aI (eLoc 1) aNil))) aNil))))) (pInc 1 1)))) (pSeq (pSeq (pSet 1 (eLit 0)) (pWh 89 192 192 (cCmp 2 (eLoc 1) (eCall (.invokevirtual 295) (lkV (T := TX0) (N := 12) mf_X0_ties mv_X0_ties ml_X11_295 rfl rfl rfl (by decide) (by decide)) MX0_ties (aR (rFld (rLoc 0 0) 33 11 3 15 fl_X11_33) aNil))) (pSeq (pSeq (pSet 2 (eCall (.invokevirtual 366) (lkV (T := TX0) (N := 12) mf_X0_tieFirst mv_X0_tieFirst ml_X11_366 rfl rfl rfl (by decide) (by decide)) MX0_tieFirst (aR (rFld (rLoc 0 0) 33 11 3 15 fl_X11_33) (aI (eLoc 1) aNil)))) (pSeq (pSet 3 (eCall (.invokevirtual 369) (lkV (T := TX0) (N := 12) mf_X0_tieSecond mv_X0_tieSecond ml_X11_369 rfl rfl rfl (by decide) (by decide)) MX0_tieSecond (aR (rFld (rLoc 0 0) 33 11 3 15 fl_X11_33) (aI (eLoc 1) aNil)))) (pSeq (pSet 4 (eLit 0)) (pWh 122 186 186 (cCmp 2 (eLoc 4) (eCall (.invokevirtual 293) (lkV (T := TX6) (N := 7) mf_X6_count mv_X6_count ml_X11_293 rfl rfl rfl (by decide) (by decide)) MX6_count (aR (rFld (rLoc 0 0) 26 11 2 6 fl_X11_26) aNil))) (pSeq (pSeq (pDo (.invokevirtual 391) (lkV (T := TX2) (N := 14) mf_X2_pair mv_X2_pair ml_X11_391 rfl rfl rfl (by decide) (by decide)) MX2_pair (aR (rFld (rLoc 0 0) 68 11 8 48 fl_X11_68) (aI (eLoc 2) (aI (eLoc 4) (aI (eLoc 3) (aI (eCall (.invokevirtual 375) (lkV (T := TX6) (N := 7) mf_X6_mates mv_X6_mates ml_X11_375 rfl rfl rfl (by decide) (by decide)) MX6_mates (aR (rFld (rLoc 0 0) 26 11 2 6 fl_X11_26) (aI (eCall (.invokevirtual 372) (lkV (T := TX0) (N := 12) mf_X0_tieSort mv_X0_tieSort ml_X11_372 rfl rfl rfl (by decide) (by decide)) MX0_tieSort (aR (rFld (rLoc 0 0) 33 11 3 15 fl_X11_33) (aI (eLoc 1) aNil))) (aI (eLoc 4) (aI (eLit 1) aNil))))) aNil)))))) (pDo (.invokevirtual 391) (lkV (T := TX2) (N := 14) mf_X2_pair mv_X2_pair ml_X11_391 rfl rfl rfl (by decide) (by decide)) MX2_pair (aR (rFld (rLoc 0 0) 68 11 8 48 fl_X11_68) (aI (eLoc 3) (aI (eLoc 4) (aI (eLoc 2) (aI (eCall (.invokevirtual 375) (lkV (T := TX6) (N := 7) mf_X6_mates mv_X6_mates ml_X11_375 rfl rfl rfl (by decide) (by decide)) MX6_mates (aR (rFld (rLoc 0 0) 26 11 2 6 fl_X11_26) (aI (eCall (.invokevirtual 372) (lkV (T := TX0) (N := 12) mf_X0_tieSort mv_X0_tieSort ml_X11_372 rfl rfl rfl (by decide) (by decide)) MX0_tieSort (aR (rFld (rLoc 0 0) 33 11 3 15 fl_X11_33) (aI (eLoc 1) aNil))) (aI (eLoc 4) (aI (eLit 0) aNil))))) aNil))))))) (pInc 4 1)))))) (pInc 1 1)))) (pSeq (pDo (.invokevirtual 398) (lkV (T := TX5) (N := 8) mf_X5_read mv_X5_read ml_X11_398 rfl rfl rfl (by decide) (by decide)) MX5_read (aR (rFld (rFld (rLoc 0 0) 68 11 8 48 fl_X11_68) 395 2 0 49 fl_X11_395) (aR (rFld (rLoc 0 0) 40 11 4 25 fl_X11_40) (aR (rFld (rLoc 0 0) 19 11 1 3 fl_X11_19) aNil)))) (pSeq (pSeq (pSet 1 (eLit 0)) (pWh 228 276 276 (cAnd 223 (cCmp 2 (eLoc 1) (eCall (.invokevirtual 136) (lkV (T := TX0) (N := 12) mf_X0_count mv_X0_count ml_X11_136 rfl rfl rfl (by decide) (by decide)) MX0_count (aR (rFld (rLoc 0 0) 33 11 3 15 fl_X11_33) aNil))) (cCmp 2 (eLoc 1) (eLit 4))) (pSeq (pSeq (pSet 2 (eLit 0)) (pWh 247 270 270 (cAnd 241 (cCmp 2 (eLoc 2) (eCall (.invokevirtual 293) (lkV (T := TX6) (N := 7) mf_X6_count mv_X6_count ml_X11_293 rfl rfl rfl (by decide) (by decide)) MX6_count (aR (rFld (rLoc 0 0) 26 11 2 6 fl_X11_26) aNil))) (cCmp 2 (eLoc 2) (eLit 24))) (pSeq (pAst 0 96 (rFld (rLoc 0 0) 72 11 9 63 fl_X11_72) (eBin 0 (eBin 2 (eLoc 1) (eLit 24)) (eLoc 2)) (eCall (.invokevirtual 182) (lkV (T := TX11) (N := 15) mf_X11_reasonsButInk mv_X11_reasonsButInk ml_X11_182 rfl rfl rfl (by decide) (by decide)) MX11_reasonsButInk (aR (rLoc 0 0) (aI (eLoc 1) (aI (eLoc 2) aNil))))) (pInc 2 1)))) (pInc 1 1)))) (pSeq (pPut (rLoc 0 0) 309 11 13 3 fw_X11_309 (eLit 1)) (pPut (rLoc 0 0) 403 11 14 3 fw_X11_403 (eLit 0))))))))) (pRetV 287))
set_option maxRecDepth 100000 in
def MX11_prepare : MP wdX yX11_prepare cX11_prepare 5 (none) 29 [.inr 0] := mkM scX11_prepare yX11_prepare [.inr 0] bX11_prepare (by decide +kernel) rfl rfl (by decide) (by decide +kernel)
abbrev scX2_wide : ik_SC := (wdX, cX2_wide, 2, RX2, [(0, 48)], 1, some .int)
set_option maxRecDepth 100000 in
def bX2_wide : SP scX2_wide := (pRet 0 18 (eIte 7 16 17 (cCmp0 1 (eCall (.invokestatic 60) (lkS mf_X2_isName ms_X2_isName ml_X2_60 rfl (by decide) (by decide)) MX2_isName (aI (eLoc 1) aNil))) (eArr 0 24 (rFld (rLoc 0 48) 25 2 3 57 fl_X2_25) (eLoc 1)) (eLit 0)))
set_option maxRecDepth 100000 in
def MX2_wide : MP wdX yX2_wide cX2_wide 2 (some .int) 1 [.inr 48, .inl 0] := mkM scX2_wide yX2_wide [.inr 48, .inl 0] bX2_wide (by decide +kernel) rfl rfl (by decide) (by decide +kernel)
abbrev scX2_setFits : ik_SC := (wdX, cX2_setFits, 3, RX2, [(0, 48)], 1, none)
set_option maxRecDepth 100000 in
def bX2_setFits : SP scX2_setFits := (pSeq (pIf 7 14 14 (cCmp0 1 (eCall (.invokestatic 64) (lkS mf_X2_isBar ms_X2_isBar ml_X2_64 rfl (by decide) (by decide)) MX2_isBar (aI (eLoc 1) aNil))) (pAst 0 4 (rFld (rLoc 0 48) 18 2 1 55 fl_X2_18) (eLoc 1) (eLoc 2)) pSkip) (pRetV 15))
set_option maxRecDepth 100000 in
def MX2_setFits : MP wdX yX2_setFits cX2_setFits 3 (none) 1 [.inr 48, .inl 0, .inl 0] := mkM scX2_setFits yX2_setFits [.inr 48, .inl 0, .inl 0] bX2_setFits (by decide +kernel) rfl rfl (by decide) (by decide +kernel)
abbrev scX2_heed : ik_SC := (wdX, cX2_heed, 3, RX2, [(0, 48)], 0, none)
set_option maxRecDepth 100000 in
def bX2_heed : SP scX2_heed := (pSeq (pSeq (pPut (rLoc 0 48) 71 2 11 3 fw_X2_71 (eLoc 1)) (pPut (rLoc 0 48) 75 2 12 3 fw_X2_75 (eLoc 2))) (pRetV 11))
set_option maxRecDepth 100000 in
def MX2_heed : MP wdX yX2_heed cX2_heed 3 (none) 0 [.inr 48, .inl 0, .inl 0] := mkM scX2_heed yX2_heed [.inr 48, .inl 0, .inl 0] bX2_heed (by decide +kernel) rfl rfl (by decide) (by decide +kernel)
abbrev scX11_fit : ik_SC := (wdX, cX11_fit, 9, RX11, [(0, 0)], 2, none)
set_option maxRecDepth 100000 in
def bX11_fit : SP scX11_fit := (pSeq (pSeq (pSeq (pSet 4 (eLit 0)) (pWh 21 139 139 (cAnd 15 (cCmp 2 (eLoc 4) (eCall (.invokevirtual 136) (lkV (T := TX0) (N := 12) mf_X0_count mv_X0_count ml_X11_136 rfl rfl rfl (by decide) (by decide)) MX0_count (aR (rFld (rLoc 0 0) 33 11 3 15 fl_X11_33) aNil))) (cCmp 2 (eLoc 4) (eLit 4))) (pSeq (pSeq (pSet 5 (eLit 0)) (pSeq (pSeq (pSet 6 (eLit 0)) (pWh 46 122 122 (cAnd 39 (cCmp 2 (eLoc 6) (eCall (.invokevirtual 293) (lkV (T := TX6) (N := 7) mf_X6_count mv_X6_count ml_X11_293 rfl rfl rfl (by decide) (by decide)) MX6_count (aR (rFld (rLoc 0 0) 26 11 2 6 fl_X11_26) aNil))) (cCmp 2 (eLoc 6) (eLit 24))) (pSeq (pSeq (pSet 7 (eBin 1 (eCall (.invokevirtual 313) (lkV (T := TX0) (N := 12) mf_X0_ink mv_X0_ink ml_X11_313 rfl rfl rfl (by decide) (by decide)) MX0_ink (aR (rFld (rLoc 0 0) 33 11 3 15 fl_X11_33) (aI (eLoc 4) aNil))) (eCall (.invokevirtual 406) (lkV (T := TX2) (N := 14) mf_X2_wide mv_X2_wide ml_X11_406 rfl rfl rfl (by decide) (by decide)) MX2_wide (aR (rFld (rLoc 0 0) 68 11 8 48 fl_X11_68) (aI (eLoc 6) aNil))))) (pSeq (pSet 8 (eBin 4 (eArr 0 96 (rFld (rLoc 0 0) 72 11 9 63 fl_X11_72) (eBin 0 (eBin 2 (eLoc 4) (eLit 24)) (eLoc 6))) (eIte 90 94 95 (cCmp0 1 (eCall (.invokestatic 82) (lkS mf_X11_within ms_X11_within ml_X11_82 rfl (by decide) (by decide)) MX11_within (aI (eLoc 7) (aI (eLoc 2) (aI (eLoc 3) aNil))))) (eLit 0) (eLit 1)))) (pIf 107 116 116 (cCmp0 0 (eBin 3 (eLoc 8) (eBin 5 (eLoc 1) (eLit (-1))))) (pSet 5 (eBin 4 (eLoc 5) (eBin 6 (eLit 1) (eLoc 6)))) pSkip))) (pInc 6 1)))) (pDo (.invokevirtual 408) (lkV (T := TX2) (N := 14) mf_X2_setFits mv_X2_setFits ml_X11_408 rfl rfl rfl (by decide) (by decide)) MX2_setFits (aR (rFld (rLoc 0 0) 68 11 8 48 fl_X11_68) (aI (eLoc 4) (aI (eLoc 5) aNil)))))) (pInc 4 1)))) (pDo (.invokevirtual 411) (lkV (T := TX2) (N := 14) mf_X2_heed mv_X2_heed ml_X11_411 rfl rfl rfl (by decide) (by decide)) MX2_heed (aR (rFld (rLoc 0 0) 68 11 8 48 fl_X11_68) (aI (eIte 150 154 155 (cCmp0 0 (eBin 3 (eLoc 1) (eLit 16))) (eLit 1) (eLit 0)) (aI (eIte 161 165 166 (cCmp0 0 (eBin 3 (eLoc 1) (eLit 2))) (eLit 1) (eLit 0)) aNil))))) (pRetV 170))
set_option maxRecDepth 100000 in
def MX11_fit : MP wdX yX11_fit cX11_fit 9 (none) 2 [.inr 0, .inl 0, .inl 0, .inl 0] := mkM scX11_fit yX11_fit [.inr 0, .inl 0, .inl 0, .inl 0] bX11_fit (by decide +kernel) rfl rfl (by decide) (by decide +kernel)
abbrev scX5_broken : ik_SC := (wdX, cX5_broken, 1, RX5, [(0, 49)], 0, some .boolean)
set_option maxRecDepth 100000 in
def bX5_broken : SP scX5_broken := (pRet 3 5 (eFld (rLoc 0 49) 28 5 5 3 fl_X5_28))
set_option maxRecDepth 100000 in
def MX5_broken : MP wdX yX5_broken cX5_broken 1 (some .boolean) 0 [.inr 49] := mkM scX5_broken yX5_broken [.inr 49] bX5_broken (by decide +kernel) rfl rfl (by decide) (by decide +kernel)
abbrev scX2_hopeful : ik_SC := (wdX, cX2_hopeful, 1, RX2, [(0, 48)], 1, some .boolean)
set_option maxRecDepth 100000 in
def bX2_hopeful : SP scX2_hopeful := (pRet 3 30 (eIte 24 28 29 (cAnd 7 (cCmp0 4 (eFld (rLoc 0 48) 53 2 9 0 fl_X2_53)) (cNot (cAnd 14 (cCmp0 1 (eFld (rLoc 0 48) 75 2 12 3 fl_X2_75)) (cCmp0 1 (eCall (.invokevirtual 78) (lkV (T := TX5) (N := 8) mf_X5_broken mv_X5_broken ml_X2_78 rfl rfl rfl (by decide) (by decide)) MX5_broken (aR (rFld (rLoc 0 48) 12 2 0 49 fl_X2_12) aNil)))))) (eLit 1) (eLit 0)))
set_option maxRecDepth 100000 in
def MX2_hopeful : MP wdX yX2_hopeful cX2_hopeful 1 (some .boolean) 1 [.inr 48] := mkM scX2_hopeful yX2_hopeful [.inr 48] bX2_hopeful (by decide +kernel) rfl rfl (by decide) (by decide +kernel)
abbrev scX5_heeds : ik_SC := (wdX, cX5_heeds, 2, RX5, [(0, 49)], 0, some .boolean)
set_option maxRecDepth 100000 in
def bX5_heeds : SP scX5_heeds := (pRet 3 24 (eIte 18 22 23 (cAnd 9 (cAnd 4 (cCmp0 3 (eLoc 1)) (cCmp 2 (eLoc 1) (eLit 4))) (cCmp0 4 (eArr 0 4 (rFld (rLoc 0 49) 9 5 0 50 fl_X5_9) (eLoc 1)))) (eLit 1) (eLit 0)))
set_option maxRecDepth 100000 in
def MX5_heeds : MP wdX yX5_heeds cX5_heeds 2 (some .boolean) 0 [.inr 49, .inl 0] := mkM scX5_heeds yX5_heeds [.inr 49, .inl 0] bX5_heeds (by decide +kernel) rfl rfl (by decide) (by decide +kernel)
abbrev scJ9_floorDiv_7cf53 : ik_SC := (wdX, cJ9_floorDiv_7cf53, 3, RJ9, [], 0, some .int)
set_option maxRecDepth 100000 in
def bJ9_floorDiv_7cf53 : SP scJ9_floorDiv_7cf53 := (pSeq (pSet 2 (eBin 9 (eLoc 0) (eLoc 1))) (pSeq (pIf 17 21 21 (cAnd 10 (cCmp0 2 (eBin 5 (eLoc 0) (eLoc 1))) (cCmp 1 (eBin 2 (eLoc 2) (eLoc 1)) (eLoc 0))) (pRet 0 21 (eBin 1 (eLoc 2) (eLit 1))) pSkip) (pRet 0 23 (eLoc 2))))
set_option maxRecDepth 100000 in
def MJ9_floorDiv_7cf53 : MP wdX yJ9_floorDiv_7cf53 cJ9_floorDiv_7cf53 3 (some .int) 0 [.inl 0, .inl 0] := mkM scJ9_floorDiv_7cf53 yJ9_floorDiv_7cf53 [.inl 0, .inl 0] bJ9_floorDiv_7cf53 (by decide +kernel) rfl rfl (by decide) (by decide +kernel)
abbrev scX5_narrow : ik_SC := (wdX, cX5_narrow, 8, RX5, [(0, 49), (2, 60)], 1, none)
set_option maxRecDepth 100000 in
def bX5_narrow : SP scX5_narrow := (pSeq (pSeq (pPut (rLoc 0 49) 32 5 6 0 fw_X5_32 (eLdc 96 (-1000000) kc_X5_96)) (pSeq (pPut (rLoc 0 49) 36 5 7 0 fw_X5_36 (eLdc 97 (1000000) kc_X5_97)) (pSeq (pSet 3 (eLit 0)) (pWh 39 180 180 (cAnd 32 (cAnd 22 (cCmp0 1 (eCall (.invokevirtual 98) (lkV (T := TX5) (N := 8) mf_X5_heeds mv_X5_heeds ml_X5_98 rfl rfl rfl (by decide) (by decide)) MX5_heeds (aR (rLoc 0 49) (aI (eLoc 1) aNil)))) (cCmp 2 (eLoc 3) (eArr 0 4 (rFld (rLoc 0 49) 9 5 0 50 fl_X5_9) (eLoc 1)))) (cCmp 2 (eLoc 3) (eLit 144))) (pSeq (pSeq (pSet 4 (eBin 0 (eBin 2 (eLoc 1) (eLit 144)) (eLoc 3))) (pSeq (pSet 5 (eArr 0 576 (rFld (rLoc 0 49) 15 5 1 51 fl_X5_15) (eLoc 4))) (pSeq (pSeq (pSet 6 (eLit 0)) (pWh 73 101 101 (cAnd 66 (cCmp 2 (eLoc 6) (eLoc 1)) (cCmp 2 (eLoc 6) (eLen 0 4 (rLoc 2 60)))) (pSeq (pSet 5 (eBin 1 (eLoc 5) (eBin 2 (eArr 0 2304 (rFld (rLoc 0 49) 22 5 3 53 fl_X5_22) (eBin 0 (eBin 2 (eLoc 4) (eLit 4)) (eLoc 6))) (eArr 0 4 (rLoc 2 60) (eLoc 6))))) (pInc 6 1)))) (pSeq (pSet 6 (eArr 0 2304 (rFld (rLoc 0 49) 22 5 3 53 fl_X5_22) (eBin 0 (eBin 2 (eLoc 4) (eLit 4)) (eLoc 1)))) (pSeq (pSet 7 (eIte 119 129 131 (cCmp0 4 (eLoc 6)) (eCall (.invokestatic 101) (lkS mf_J9_floorDiv_7cf53 ms_J9_floorDiv_7cf53 ml_X5_101 rfl (by decide) (by decide)) MJ9_floorDiv_7cf53 (aI (eLoc 5) (aI (eLoc 6) aNil))) (eLoc 5))) (pIf 143 161 174 (cCmp0 1 (eArr 3 576 (rFld (rLoc 0 49) 18 5 2 52 fl_X5_18) (eLoc 4))) (pPut (rLoc 0 49) 32 5 6 0 fw_X5_32 (eCall (.invokestatic 84) (lkS mf_J9_max_7cf53 ms_J9_max_7cf53 ml_X5_84 rfl (by decide) (by decide)) MJ9_max_7cf53 (aI (eFld (rLoc 0 49) 32 5 6 0 fl_X5_32) (aI (eBin 0 (eLoc 7) (eLit 1)) aNil)))) (pPut (rLoc 0 49) 36 5 7 0 fw_X5_36 (eCall (.invokestatic 89) (lkS mf_J9_min_7cf53 ms_J9_min_7cf53 ml_X5_89 rfl (by decide) (by decide)) MJ9_min_7cf53 (aI (eFld (rLoc 0 49) 36 5 7 0 fl_X5_36) (aI (eLoc 7) aNil)))))))))) (pInc 3 1)))))) (pRetV 181))
set_option maxRecDepth 100000 in
def MX5_narrow : MP wdX yX5_narrow cX5_narrow 8 (none) 1 [.inr 49, .inl 0, .inr 60] := mkM scX5_narrow yX5_narrow [.inr 49, .inl 0, .inr 60] bX5_narrow (by decide +kernel) rfl rfl (by decide) (by decide +kernel)
abbrev scX5_least : ik_SC := (wdX, cX5_least, 1, RX5, [(0, 49)], 0, some .int)
set_option maxRecDepth 100000 in
def bX5_least : SP scX5_least := (pRet 0 5 (eFld (rLoc 0 49) 32 5 6 0 fl_X5_32))
set_option maxRecDepth 100000 in
def MX5_least : MP wdX yX5_least cX5_least 1 (some .int) 0 [.inr 49] := mkM scX5_least yX5_least [.inr 49] bX5_least (by decide +kernel) rfl rfl (by decide) (by decide +kernel)
abbrev scX5_greatest : ik_SC := (wdX, cX5_greatest, 1, RX5, [(0, 49)], 0, some .int)
set_option maxRecDepth 100000 in
def bX5_greatest : SP scX5_greatest := (pRet 0 5 (eFld (rLoc 0 49) 36 5 7 0 fl_X5_36))
set_option maxRecDepth 100000 in
def MX5_greatest : MP wdX yX5_greatest cX5_greatest 1 (some .int) 0 [.inr 49] := mkM scX5_greatest yX5_greatest [.inr 49] bX5_greatest (by decide +kernel) rfl rfl (by decide) (by decide +kernel)
abbrev scX2_candidates : ik_SC := (wdX, cX2_candidates, 4, RX2, [(0, 48)], 2, some .int)
set_option maxRecDepth 100000 in
def bX2_candidates : SP scX2_candidates := (pSeq (pSet 2 (eArr 0 4 (rFld (rLoc 0 48) 18 2 1 55 fl_X2_18) (eLoc 1))) (pSeq (pIf 14 46 46 (cCmp0 1 (eFld (rLoc 0 48) 71 2 11 3 fl_X2_71)) (pSeq (pSet 3 (eLit 0)) (pWh 21 46 46 (cCmp 2 (eLoc 3) (eLoc 1)) (pSeq (pSet 2 (eBin 3 (eLoc 2) (eArr 0 384 (rFld (rLoc 0 48) 22 2 2 56 fl_X2_22) (eCall (.invokestatic 67) (lkS mf_X2_pairPlace ms_X2_pairPlace ml_X2_67 rfl (by decide) (by decide)) MX2_pairPlace (aI (eLoc 3) (aI (eArr 0 4 (rFld (rLoc 0 48) 31 2 5 59 fl_X2_31) (eLoc 3)) (aI (eLoc 1) aNil))))))) (pInc 3 1)))) pSkip) (pSeq (pIf 64 132 132 (cAnd 53 (cCmp0 1 (eFld (rLoc 0 48) 75 2 12 3 fl_X2_75)) (cCmp0 1 (eCall (.invokevirtual 108) (lkV (T := TX5) (N := 8) mf_X5_heeds mv_X5_heeds ml_X2_108 rfl rfl rfl (by decide) (by decide)) MX5_heeds (aR (rFld (rLoc 0 48) 12 2 0 49 fl_X2_12) (aI (eLoc 1) aNil))))) (pSeq (pDo (.invokevirtual 111) (lkV (T := TX5) (N := 8) mf_X5_narrow mv_X5_narrow ml_X2_111 rfl rfl rfl (by decide) (by decide)) MX5_narrow (aR (rFld (rLoc 0 48) 12 2 0 49 fl_X2_12) (aI (eLoc 1) (aR (rFld (rLoc 0 48) 34 2 6 60 fl_X2_34) aNil)))) (pSeq (pSet 3 (eLit 0)) (pWh 86 132 132 (cCmp 2 (eLoc 3) (eFld (rLoc 0 48) 57 2 10 0 fl_X2_57)) (pSeq (pIf 118 126 126 (cOr 102 (cCmp 2 (eArr 0 24 (rFld (rLoc 0 48) 25 2 3 57 fl_X2_25) (eLoc 3)) (eCall (.invokevirtual 115) (lkV (T := TX5) (N := 8) mf_X5_least mv_X5_least ml_X2_115 rfl rfl rfl (by decide) (by decide)) MX5_least (aR (rFld (rLoc 0 48) 12 2 0 49 fl_X2_12) aNil))) (cCmp 4 (eArr 0 24 (rFld (rLoc 0 48) 25 2 3 57 fl_X2_25) (eLoc 3)) (eCall (.invokevirtual 119) (lkV (T := TX5) (N := 8) mf_X5_greatest mv_X5_greatest ml_X2_119 rfl rfl rfl (by decide) (by decide)) MX5_greatest (aR (rFld (rLoc 0 48) 12 2 0 49 fl_X2_12) aNil)))) (pSet 2 (eBin 3 (eLoc 2) (eBin 5 (eBin 6 (eLit 1) (eLoc 3)) (eLit (-1))))) pSkip) (pInc 3 1))))) pSkip) (pRet 0 134 (eLoc 2)))))
set_option maxRecDepth 100000 in
def MX2_candidates : MP wdX yX2_candidates cX2_candidates 4 (some .int) 2 [.inr 48, .inl 0] := mkM scX2_candidates yX2_candidates [.inr 48, .inl 0] bX2_candidates (by decide +kernel) rfl rfl (by decide) (by decide +kernel)
abbrev scJ6_bitCount_0f7a4 : ik_SC := (wdX, cJ6_bitCount_0f7a4, 1, RJ6, [], 0, some .int)
set_option maxRecDepth 100000 in
def bJ6_bitCount_0f7a4 : SP scJ6_bitCount_0f7a4 := (pSeq (pSet 0 (eBin 1 (eLoc 0) (eBin 3 (eBin 8 (eLoc 0) (eLit 1)) (eLdc 265 (1431655765) kc_J6_265)))) (pSeq (pSet 0 (eBin 0 (eBin 3 (eLoc 0) (eLdc 266 (858993459) kc_J6_266)) (eBin 3 (eBin 8 (eLoc 0) (eLit 2)) (eLdc 266 (858993459) kc_J6_266)))) (pSeq (pSet 0 (eBin 3 (eBin 0 (eLoc 0) (eBin 8 (eLoc 0) (eLit 4))) (eLdc 267 (252645135) kc_J6_267))) (pSeq (pSet 0 (eBin 0 (eLoc 0) (eBin 8 (eLoc 0) (eLit 8)))) (pSeq (pSet 0 (eBin 0 (eLoc 0) (eBin 8 (eLoc 0) (eLit 16)))) (pRet 0 53 (eBin 3 (eLoc 0) (eLit 63))))))))
set_option maxRecDepth 100000 in
def MJ6_bitCount_0f7a4 : MP wdX yJ6_bitCount_0f7a4 cJ6_bitCount_0f7a4 1 (some .int) 0 [.inl 0] := mkM scJ6_bitCount_0f7a4 yJ6_bitCount_0f7a4 [.inl 0] bJ6_bitCount_0f7a4 (by decide +kernel) rfl rfl (by decide) (by decide +kernel)
set_option maxRecDepth 100000 in
def MX2_countFrom_x : MP wdX yX2_countFrom cX2_countFrom 5 (some .int) 0 [.inr 48, .inl 0] := mFail _ _ _ _ _ _ _
abbrev scX2_countBehind_f0 : ik_SC := (wdX, cX2_countBehind, 3, RX2, [(0, 48)], 1, some .int)
set_option maxRecDepth 100000 in
def bX2_countBehind_f0 : SP scX2_countBehind_f0 := (pSeq (pAst 0 4 (rFld (rLoc 0 48) 31 2 5 59 fl_X2_31) (eLoc 1) (eLoc 2)) (pSeq (pAst 0 4 (rFld (rLoc 0 48) 34 2 6 60 fl_X2_34) (eLoc 1) (eArr 0 24 (rFld (rLoc 0 48) 25 2 3 57 fl_X2_25) (eLoc 2))) (pRet 0 27 (eCall (.invokevirtual 85) (lkV (T := TX2) (N := 14) mf_X2_countFrom mv_X2_countFrom ml_X2_85 rfl rfl rfl (by decide) (by decide)) MX2_countFrom_x (aR (rLoc 0 48) (aI (eBin 0 (eLoc 1) (eLit 1)) aNil))))))
set_option maxRecDepth 100000 in
def MX2_countBehind_f0 : MP wdX yX2_countBehind cX2_countBehind 3 (some .int) 1 [.inr 48, .inl 0, .inl 0] := mkM scX2_countBehind_f0 yX2_countBehind [.inr 48, .inl 0, .inl 0] bX2_countBehind_f0 (by decide +kernel) rfl rfl (by decide) (by decide +kernel)
abbrev scX2_countFrom_f0 : ik_SC := (wdX, cX2_countFrom, 5, RX2, [(0, 48)], 3, some .int)
set_option maxRecDepth 100000 in
def bX2_countFrom_f0 : SP scX2_countFrom_f0 := (pSeq (pIf 7 9 9 (cNot (cCmp0 1 (eCall (.invokestatic 64) (lkS mf_X2_isBar ms_X2_isBar ml_X2_64 rfl (by decide) (by decide)) MX2_isBar (aI (eLoc 1) aNil)))) (pRet 0 9 (eLit 0)) pSkip) (pSeq (pSet 2 (eCall (.invokevirtual 122) (lkV (T := TX2) (N := 14) mf_X2_candidates mv_X2_candidates ml_X2_122 rfl rfl rfl (by decide) (by decide)) MX2_candidates (aR (rLoc 0 48) (aI (eLoc 1) aNil)))) (pSeq (pIf 25 30 30 (cCmp 3 (eLoc 1) (eBin 1 (eFld (rLoc 0 48) 53 2 9 0 fl_X2_53) (eLit 1))) (pRet 0 30 (eCall (.invokestatic 92) (lkS mf_J6_bitCount_0f7a4 ms_J6_bitCount_0f7a4 ml_X2_92 rfl (by decide) (by decide)) MJ6_bitCount_0f7a4 (aI (eLoc 2) aNil))) pSkip) (pSeq (pSet 3 (eLit 0)) (pSeq (pSeq (pSet 4 (eLit 0)) (pWh 44 69 69 (cCmp 2 (eLoc 4) (eFld (rLoc 0 48) 57 2 10 0 fl_X2_57)) (pSeq (pIf 53 63 63 (cCmp0 1 (eCall (.invokestatic 125) (lkN mf_X11_bit ms_X11_bit ml_X2_125 rfl (by decide) (by decide)) MX11_bit (aI (eLoc 2) (aI (eLoc 4) aNil)))) (pSet 3 (eBin 0 (eLoc 3) (eCall (.invokevirtual 129) (lkV (T := TX2) (N := 14) mf_X2_countBehind mv_X2_countBehind ml_X2_129 rfl rfl rfl (by decide) (by decide)) MX2_countBehind_f0 (aR (rLoc 0 48) (aI (eLoc 1) (aI (eLoc 4) aNil)))))) pSkip) (pInc 4 1)))) (pRet 0 71 (eLoc 3)))))))
set_option maxRecDepth 100000 in
def MX2_countFrom_f0 : MP wdX yX2_countFrom cX2_countFrom 5 (some .int) 3 [.inr 48, .inl 0] := mkM scX2_countFrom_f0 yX2_countFrom [.inr 48, .inl 0] bX2_countFrom_f0 (by decide +kernel) rfl rfl (by decide) (by decide +kernel)
abbrev scX2_countBehind_f1 : ik_SC := (wdX, cX2_countBehind, 3, RX2, [(0, 48)], 4, some .int)
set_option maxRecDepth 100000 in
def bX2_countBehind_f1 : SP scX2_countBehind_f1 := (pSeq (pAst 0 4 (rFld (rLoc 0 48) 31 2 5 59 fl_X2_31) (eLoc 1) (eLoc 2)) (pSeq (pAst 0 4 (rFld (rLoc 0 48) 34 2 6 60 fl_X2_34) (eLoc 1) (eArr 0 24 (rFld (rLoc 0 48) 25 2 3 57 fl_X2_25) (eLoc 2))) (pRet 0 27 (eCall (.invokevirtual 85) (lkV (T := TX2) (N := 14) mf_X2_countFrom mv_X2_countFrom ml_X2_85 rfl rfl rfl (by decide) (by decide)) MX2_countFrom_f0 (aR (rLoc 0 48) (aI (eBin 0 (eLoc 1) (eLit 1)) aNil))))))
set_option maxRecDepth 100000 in
def MX2_countBehind_f1 : MP wdX yX2_countBehind cX2_countBehind 3 (some .int) 4 [.inr 48, .inl 0, .inl 0] := mkM scX2_countBehind_f1 yX2_countBehind [.inr 48, .inl 0, .inl 0] bX2_countBehind_f1 (by decide +kernel) rfl rfl (by decide) (by decide +kernel)
abbrev scX2_countFrom_f1 : ik_SC := (wdX, cX2_countFrom, 5, RX2, [(0, 48)], 5, some .int)
set_option maxRecDepth 100000 in
def bX2_countFrom_f1 : SP scX2_countFrom_f1 := (pSeq (pIf 7 9 9 (cNot (cCmp0 1 (eCall (.invokestatic 64) (lkS mf_X2_isBar ms_X2_isBar ml_X2_64 rfl (by decide) (by decide)) MX2_isBar (aI (eLoc 1) aNil)))) (pRet 0 9 (eLit 0)) pSkip) (pSeq (pSet 2 (eCall (.invokevirtual 122) (lkV (T := TX2) (N := 14) mf_X2_candidates mv_X2_candidates ml_X2_122 rfl rfl rfl (by decide) (by decide)) MX2_candidates (aR (rLoc 0 48) (aI (eLoc 1) aNil)))) (pSeq (pIf 25 30 30 (cCmp 3 (eLoc 1) (eBin 1 (eFld (rLoc 0 48) 53 2 9 0 fl_X2_53) (eLit 1))) (pRet 0 30 (eCall (.invokestatic 92) (lkS mf_J6_bitCount_0f7a4 ms_J6_bitCount_0f7a4 ml_X2_92 rfl (by decide) (by decide)) MJ6_bitCount_0f7a4 (aI (eLoc 2) aNil))) pSkip) (pSeq (pSet 3 (eLit 0)) (pSeq (pSeq (pSet 4 (eLit 0)) (pWh 44 69 69 (cCmp 2 (eLoc 4) (eFld (rLoc 0 48) 57 2 10 0 fl_X2_57)) (pSeq (pIf 53 63 63 (cCmp0 1 (eCall (.invokestatic 125) (lkN mf_X11_bit ms_X11_bit ml_X2_125 rfl (by decide) (by decide)) MX11_bit (aI (eLoc 2) (aI (eLoc 4) aNil)))) (pSet 3 (eBin 0 (eLoc 3) (eCall (.invokevirtual 129) (lkV (T := TX2) (N := 14) mf_X2_countBehind mv_X2_countBehind ml_X2_129 rfl rfl rfl (by decide) (by decide)) MX2_countBehind_f1 (aR (rLoc 0 48) (aI (eLoc 1) (aI (eLoc 4) aNil)))))) pSkip) (pInc 4 1)))) (pRet 0 71 (eLoc 3)))))))
set_option maxRecDepth 100000 in
def MX2_countFrom_f1 : MP wdX yX2_countFrom cX2_countFrom 5 (some .int) 5 [.inr 48, .inl 0] := mkM scX2_countFrom_f1 yX2_countFrom [.inr 48, .inl 0] bX2_countFrom_f1 (by decide +kernel) rfl rfl (by decide) (by decide +kernel)
abbrev scX2_countBehind_f2 : ik_SC := (wdX, cX2_countBehind, 3, RX2, [(0, 48)], 6, some .int)
set_option maxRecDepth 100000 in
def bX2_countBehind_f2 : SP scX2_countBehind_f2 := (pSeq (pAst 0 4 (rFld (rLoc 0 48) 31 2 5 59 fl_X2_31) (eLoc 1) (eLoc 2)) (pSeq (pAst 0 4 (rFld (rLoc 0 48) 34 2 6 60 fl_X2_34) (eLoc 1) (eArr 0 24 (rFld (rLoc 0 48) 25 2 3 57 fl_X2_25) (eLoc 2))) (pRet 0 27 (eCall (.invokevirtual 85) (lkV (T := TX2) (N := 14) mf_X2_countFrom mv_X2_countFrom ml_X2_85 rfl rfl rfl (by decide) (by decide)) MX2_countFrom_f1 (aR (rLoc 0 48) (aI (eBin 0 (eLoc 1) (eLit 1)) aNil))))))
set_option maxRecDepth 100000 in
def MX2_countBehind_f2 : MP wdX yX2_countBehind cX2_countBehind 3 (some .int) 6 [.inr 48, .inl 0, .inl 0] := mkM scX2_countBehind_f2 yX2_countBehind [.inr 48, .inl 0, .inl 0] bX2_countBehind_f2 (by decide +kernel) rfl rfl (by decide) (by decide +kernel)
abbrev scX2_countFrom_f2 : ik_SC := (wdX, cX2_countFrom, 5, RX2, [(0, 48)], 7, some .int)
set_option maxRecDepth 100000 in
def bX2_countFrom_f2 : SP scX2_countFrom_f2 := (pSeq (pIf 7 9 9 (cNot (cCmp0 1 (eCall (.invokestatic 64) (lkS mf_X2_isBar ms_X2_isBar ml_X2_64 rfl (by decide) (by decide)) MX2_isBar (aI (eLoc 1) aNil)))) (pRet 0 9 (eLit 0)) pSkip) (pSeq (pSet 2 (eCall (.invokevirtual 122) (lkV (T := TX2) (N := 14) mf_X2_candidates mv_X2_candidates ml_X2_122 rfl rfl rfl (by decide) (by decide)) MX2_candidates (aR (rLoc 0 48) (aI (eLoc 1) aNil)))) (pSeq (pIf 25 30 30 (cCmp 3 (eLoc 1) (eBin 1 (eFld (rLoc 0 48) 53 2 9 0 fl_X2_53) (eLit 1))) (pRet 0 30 (eCall (.invokestatic 92) (lkS mf_J6_bitCount_0f7a4 ms_J6_bitCount_0f7a4 ml_X2_92 rfl (by decide) (by decide)) MJ6_bitCount_0f7a4 (aI (eLoc 2) aNil))) pSkip) (pSeq (pSet 3 (eLit 0)) (pSeq (pSeq (pSet 4 (eLit 0)) (pWh 44 69 69 (cCmp 2 (eLoc 4) (eFld (rLoc 0 48) 57 2 10 0 fl_X2_57)) (pSeq (pIf 53 63 63 (cCmp0 1 (eCall (.invokestatic 125) (lkN mf_X11_bit ms_X11_bit ml_X2_125 rfl (by decide) (by decide)) MX11_bit (aI (eLoc 2) (aI (eLoc 4) aNil)))) (pSet 3 (eBin 0 (eLoc 3) (eCall (.invokevirtual 129) (lkV (T := TX2) (N := 14) mf_X2_countBehind mv_X2_countBehind ml_X2_129 rfl rfl rfl (by decide) (by decide)) MX2_countBehind_f2 (aR (rLoc 0 48) (aI (eLoc 1) (aI (eLoc 4) aNil)))))) pSkip) (pInc 4 1)))) (pRet 0 71 (eLoc 3)))))))
set_option maxRecDepth 100000 in
def MX2_countFrom_f2 : MP wdX yX2_countFrom cX2_countFrom 5 (some .int) 7 [.inr 48, .inl 0] := mkM scX2_countFrom_f2 yX2_countFrom [.inr 48, .inl 0] bX2_countFrom_f2 (by decide +kernel) rfl rfl (by decide) (by decide +kernel)
abbrev scX2_countBehind_f3 : ik_SC := (wdX, cX2_countBehind, 3, RX2, [(0, 48)], 8, some .int)
set_option maxRecDepth 100000 in
def bX2_countBehind_f3 : SP scX2_countBehind_f3 := (pSeq (pAst 0 4 (rFld (rLoc 0 48) 31 2 5 59 fl_X2_31) (eLoc 1) (eLoc 2)) (pSeq (pAst 0 4 (rFld (rLoc 0 48) 34 2 6 60 fl_X2_34) (eLoc 1) (eArr 0 24 (rFld (rLoc 0 48) 25 2 3 57 fl_X2_25) (eLoc 2))) (pRet 0 27 (eCall (.invokevirtual 85) (lkV (T := TX2) (N := 14) mf_X2_countFrom mv_X2_countFrom ml_X2_85 rfl rfl rfl (by decide) (by decide)) MX2_countFrom_f2 (aR (rLoc 0 48) (aI (eBin 0 (eLoc 1) (eLit 1)) aNil))))))
set_option maxRecDepth 100000 in
def MX2_countBehind_f3 : MP wdX yX2_countBehind cX2_countBehind 3 (some .int) 8 [.inr 48, .inl 0, .inl 0] := mkM scX2_countBehind_f3 yX2_countBehind [.inr 48, .inl 0, .inl 0] bX2_countBehind_f3 (by decide +kernel) rfl rfl (by decide) (by decide +kernel)
abbrev scX2_countFrom_f3 : ik_SC := (wdX, cX2_countFrom, 5, RX2, [(0, 48)], 9, some .int)
set_option maxRecDepth 100000 in
def bX2_countFrom_f3 : SP scX2_countFrom_f3 := (pSeq (pIf 7 9 9 (cNot (cCmp0 1 (eCall (.invokestatic 64) (lkS mf_X2_isBar ms_X2_isBar ml_X2_64 rfl (by decide) (by decide)) MX2_isBar (aI (eLoc 1) aNil)))) (pRet 0 9 (eLit 0)) pSkip) (pSeq (pSet 2 (eCall (.invokevirtual 122) (lkV (T := TX2) (N := 14) mf_X2_candidates mv_X2_candidates ml_X2_122 rfl rfl rfl (by decide) (by decide)) MX2_candidates (aR (rLoc 0 48) (aI (eLoc 1) aNil)))) (pSeq (pIf 25 30 30 (cCmp 3 (eLoc 1) (eBin 1 (eFld (rLoc 0 48) 53 2 9 0 fl_X2_53) (eLit 1))) (pRet 0 30 (eCall (.invokestatic 92) (lkS mf_J6_bitCount_0f7a4 ms_J6_bitCount_0f7a4 ml_X2_92 rfl (by decide) (by decide)) MJ6_bitCount_0f7a4 (aI (eLoc 2) aNil))) pSkip) (pSeq (pSet 3 (eLit 0)) (pSeq (pSeq (pSet 4 (eLit 0)) (pWh 44 69 69 (cCmp 2 (eLoc 4) (eFld (rLoc 0 48) 57 2 10 0 fl_X2_57)) (pSeq (pIf 53 63 63 (cCmp0 1 (eCall (.invokestatic 125) (lkN mf_X11_bit ms_X11_bit ml_X2_125 rfl (by decide) (by decide)) MX11_bit (aI (eLoc 2) (aI (eLoc 4) aNil)))) (pSet 3 (eBin 0 (eLoc 3) (eCall (.invokevirtual 129) (lkV (T := TX2) (N := 14) mf_X2_countBehind mv_X2_countBehind ml_X2_129 rfl rfl rfl (by decide) (by decide)) MX2_countBehind_f3 (aR (rLoc 0 48) (aI (eLoc 1) (aI (eLoc 4) aNil)))))) pSkip) (pInc 4 1)))) (pRet 0 71 (eLoc 3)))))))
set_option maxRecDepth 100000 in
def MX2_countFrom_f3 : MP wdX yX2_countFrom cX2_countFrom 5 (some .int) 9 [.inr 48, .inl 0] := mkM scX2_countFrom_f3 yX2_countFrom [.inr 48, .inl 0] bX2_countFrom_f3 (by decide +kernel) rfl rfl (by decide) (by decide +kernel)
abbrev scX2_countBehind_f4 : ik_SC := (wdX, cX2_countBehind, 3, RX2, [(0, 48)], 10, some .int)
set_option maxRecDepth 100000 in
def bX2_countBehind_f4 : SP scX2_countBehind_f4 := (pSeq (pAst 0 4 (rFld (rLoc 0 48) 31 2 5 59 fl_X2_31) (eLoc 1) (eLoc 2)) (pSeq (pAst 0 4 (rFld (rLoc 0 48) 34 2 6 60 fl_X2_34) (eLoc 1) (eArr 0 24 (rFld (rLoc 0 48) 25 2 3 57 fl_X2_25) (eLoc 2))) (pRet 0 27 (eCall (.invokevirtual 85) (lkV (T := TX2) (N := 14) mf_X2_countFrom mv_X2_countFrom ml_X2_85 rfl rfl rfl (by decide) (by decide)) MX2_countFrom_f3 (aR (rLoc 0 48) (aI (eBin 0 (eLoc 1) (eLit 1)) aNil))))))
set_option maxRecDepth 100000 in
def MX2_countBehind_f4 : MP wdX yX2_countBehind cX2_countBehind 3 (some .int) 10 [.inr 48, .inl 0, .inl 0] := mkM scX2_countBehind_f4 yX2_countBehind [.inr 48, .inl 0, .inl 0] bX2_countBehind_f4 (by decide +kernel) rfl rfl (by decide) (by decide +kernel)
abbrev scX2_countFrom_f4 : ik_SC := (wdX, cX2_countFrom, 5, RX2, [(0, 48)], 11, some .int)
set_option maxRecDepth 100000 in
def bX2_countFrom_f4 : SP scX2_countFrom_f4 := (pSeq (pIf 7 9 9 (cNot (cCmp0 1 (eCall (.invokestatic 64) (lkS mf_X2_isBar ms_X2_isBar ml_X2_64 rfl (by decide) (by decide)) MX2_isBar (aI (eLoc 1) aNil)))) (pRet 0 9 (eLit 0)) pSkip) (pSeq (pSet 2 (eCall (.invokevirtual 122) (lkV (T := TX2) (N := 14) mf_X2_candidates mv_X2_candidates ml_X2_122 rfl rfl rfl (by decide) (by decide)) MX2_candidates (aR (rLoc 0 48) (aI (eLoc 1) aNil)))) (pSeq (pIf 25 30 30 (cCmp 3 (eLoc 1) (eBin 1 (eFld (rLoc 0 48) 53 2 9 0 fl_X2_53) (eLit 1))) (pRet 0 30 (eCall (.invokestatic 92) (lkS mf_J6_bitCount_0f7a4 ms_J6_bitCount_0f7a4 ml_X2_92 rfl (by decide) (by decide)) MJ6_bitCount_0f7a4 (aI (eLoc 2) aNil))) pSkip) (pSeq (pSet 3 (eLit 0)) (pSeq (pSeq (pSet 4 (eLit 0)) (pWh 44 69 69 (cCmp 2 (eLoc 4) (eFld (rLoc 0 48) 57 2 10 0 fl_X2_57)) (pSeq (pIf 53 63 63 (cCmp0 1 (eCall (.invokestatic 125) (lkN mf_X11_bit ms_X11_bit ml_X2_125 rfl (by decide) (by decide)) MX11_bit (aI (eLoc 2) (aI (eLoc 4) aNil)))) (pSet 3 (eBin 0 (eLoc 3) (eCall (.invokevirtual 129) (lkV (T := TX2) (N := 14) mf_X2_countBehind mv_X2_countBehind ml_X2_129 rfl rfl rfl (by decide) (by decide)) MX2_countBehind_f4 (aR (rLoc 0 48) (aI (eLoc 1) (aI (eLoc 4) aNil)))))) pSkip) (pInc 4 1)))) (pRet 0 71 (eLoc 3)))))))
set_option maxRecDepth 100000 in
def MX2_countFrom_f4 : MP wdX yX2_countFrom cX2_countFrom 5 (some .int) 11 [.inr 48, .inl 0] := mkM scX2_countFrom_f4 yX2_countFrom [.inr 48, .inl 0] bX2_countFrom_f4 (by decide +kernel) rfl rfl (by decide) (by decide +kernel)
abbrev scX2_number : ik_SC := (wdX, cX2_number, 1, RX2, [(0, 48)], 12, some .int)
set_option maxRecDepth 100000 in
def bX2_number : SP scX2_number := (pRet 0 17 (eIte 7 15 16 (cCmp0 1 (eCall (.invokevirtual 82) (lkV (T := TX2) (N := 14) mf_X2_hopeful mv_X2_hopeful ml_X2_82 rfl rfl rfl (by decide) (by decide)) MX2_hopeful (aR (rLoc 0 48) aNil))) (eCall (.invokevirtual 85) (lkV (T := TX2) (N := 14) mf_X2_countFrom mv_X2_countFrom ml_X2_85 rfl rfl rfl (by decide) (by decide)) MX2_countFrom_f4 (aR (rLoc 0 48) (aI (eLit 0) aNil))) (eLit 0)))
set_option maxRecDepth 100000 in
def MX2_number : MP wdX yX2_number cX2_number 1 (some .int) 12 [.inr 48] := mkM scX2_number yX2_number [.inr 48] bX2_number (by decide +kernel) rfl rfl (by decide) (by decide +kernel)
abbrev scX11_countWithout : ik_SC := (wdX, cX11_countWithout, 2, RX11, [(0, 0)], 30, some .int)
set_option maxRecDepth 100000 in
def bX11_countWithout : SP scX11_countWithout := (pSeq (pDo (.invokevirtual 225) (lkV (T := TX11) (N := 15) mf_X11_prepare mv_X11_prepare ml_X11_225 rfl rfl rfl (by decide) (by decide)) MX11_prepare (aR (rLoc 0 0) aNil)) (pSeq (pDo (.invokevirtual 415) (lkV (T := TX11) (N := 15) mf_X11_fit mv_X11_fit ml_X11_415 rfl rfl rfl (by decide) (by decide)) MX11_fit (aR (rLoc 0 0) (aI (eLoc 1) (aI (eCall (.invokevirtual 171) (lkV (T := TX3) (N := 4) mf_X3_least mv_X3_least ml_X11_171 rfl rfl rfl (by decide) (by decide)) MX3_least (aR (rFld (rLoc 0 0) 54 11 6 39 fl_X11_54) (aI (eFld (rLoc 0 0) 178 11 12 0 fl_X11_178) (aR (rFld (rLoc 0 0) 26 11 2 6 fl_X11_26) (aR (rFld (rLoc 0 0) 19 11 1 3 fl_X11_19) aNil))))) (aI (eCall (.invokevirtual 175) (lkV (T := TX3) (N := 4) mf_X3_greatest mv_X3_greatest ml_X11_175 rfl rfl rfl (by decide) (by decide)) MX3_greatest (aR (rFld (rLoc 0 0) 54 11 6 39 fl_X11_54) (aI (eFld (rLoc 0 0) 178 11 12 0 fl_X11_178) (aR (rFld (rLoc 0 0) 26 11 2 6 fl_X11_26) (aR (rFld (rLoc 0 0) 19 11 1 3 fl_X11_19) aNil))))) aNil))))) (pRet 0 55 (eCall (.invokevirtual 418) (lkV (T := TX2) (N := 14) mf_X2_number mv_X2_number ml_X11_418 rfl rfl rfl (by decide) (by decide)) MX2_number (aR (rFld (rLoc 0 0) 68 11 8 48 fl_X11_68) aNil)))))
set_option maxRecDepth 100000 in
def MX11_countWithout : MP wdX yX11_countWithout cX11_countWithout 2 (some .int) 30 [.inr 0, .inl 0] := mkM scX11_countWithout yX11_countWithout [.inr 0, .inl 0] bX11_countWithout (by decide +kernel) rfl rfl (by decide) (by decide +kernel)
abbrev scX11_fillings : ik_SC := (wdX, cX11_fillings, 2, RX11, [(0, 0)], 31, some .int)
set_option maxRecDepth 100000 in
def bX11_fillings : SP scX11_fillings := (pSeq (pIf 20 22 22 (cOr 10 (cCmp0 0 (eCall (.invokevirtual 136) (lkV (T := TX0) (N := 12) mf_X0_count mv_X0_count ml_X11_136 rfl rfl rfl (by decide) (by decide)) MX0_count (aR (rFld (rLoc 0 0) 33 11 3 15 fl_X11_33) aNil))) (cNot (cCmp0 1 (eCall (.invokestatic 82) (lkS mf_X11_within ms_X11_within ml_X11_82 rfl (by decide) (by decide)) MX11_within (aI (eLoc 1) (aI (eLit 0) (aI (eLit 63) aNil))))))) (pRet 0 22 (eLit (-1))) pSkip) (pRet 0 28 (eCall (.invokevirtual 206) (lkV (T := TX11) (N := 15) mf_X11_countWithout mv_X11_countWithout ml_X11_206 rfl rfl rfl (by decide) (by decide)) MX11_countWithout (aR (rLoc 0 0) (aI (eLoc 1) aNil)))))
set_option maxRecDepth 100000 in
def MX11_fillings : MP wdX yX11_fillings cX11_fillings 2 (some .int) 31 [.inr 0, .inl 0] := mkM scX11_fillings yX11_fillings [.inr 0, .inl 0] bX11_fillings (by decide +kernel) rfl rfl (by decide) (by decide +kernel)
set_option maxRecDepth 100000 in
def MX2_weighFrom_x : MP wdX yX2_weighFrom cX2_weighFrom 10 (some .long) 0 [.inr 48, .inl 0, .inl 1] := mFail _ _ _ _ _ _ _
abbrev scX2_weighBehind_f0 : ik_SC := (wdX, cX2_weighBehind, 5, RX2, [(0, 48)], 1, some .long)
set_option maxRecDepth 100000 in
def bX2_weighBehind_f0 : SP scX2_weighBehind_f0 := (pSeq (pAst 0 4 (rFld (rLoc 0 48) 31 2 5 59 fl_X2_31) (eLoc 1) (eLoc 2)) (pSeq (pAst 0 4 (rFld (rLoc 0 48) 34 2 6 60 fl_X2_34) (eLoc 1) (eArr 0 24 (rFld (rLoc 0 48) 25 2 3 57 fl_X2_25) (eLoc 2))) (pRetL 28 (lCall (.invokevirtual 97) (lkV (T := TX2) (N := 14) mf_X2_weighFrom mv_X2_weighFrom ml_X2_97 rfl rfl rfl (by decide) (by decide)) MX2_weighFrom_x (aR (rLoc 0 48) (aI (eBin 0 (eLoc 1) (eLit 1)) (aL (lLoc 3) aNil)))))))
set_option maxRecDepth 100000 in
def MX2_weighBehind_f0 : MP wdX yX2_weighBehind cX2_weighBehind 5 (some .long) 1 [.inr 48, .inl 0, .inl 0, .inl 1] := mkM scX2_weighBehind_f0 yX2_weighBehind [.inr 48, .inl 0, .inl 0, .inl 1] bX2_weighBehind_f0 (by decide +kernel) rfl rfl (by decide) (by decide +kernel)
abbrev scX2_weighFrom_f0 : ik_SC := (wdX, cX2_weighFrom, 10, RX2, [(0, 48)], 3, some .long)
set_option maxRecDepth 100000 in
def bX2_weighFrom_f0 : SP scX2_weighFrom_f0 := (pSeq (pIf 7 9 9 (cNot (cCmp0 1 (eCall (.invokestatic 64) (lkS mf_X2_isBar ms_X2_isBar ml_X2_64 rfl (by decide) (by decide)) MX2_isBar (aI (eLoc 1) aNil)))) (pRetL 9 (lLit 0)) pSkip) (pSeq (pSet 4 (eCall (.invokevirtual 122) (lkV (T := TX2) (N := 14) mf_X2_candidates mv_X2_candidates ml_X2_122 rfl rfl rfl (by decide) (by decide)) MX2_candidates (aR (rLoc 0 48) (aI (eLoc 1) aNil)))) (pSeq (pSetL 5 (lLit 0)) (pSeq (pSeq (pSet 7 (eLit 0)) (pWh 31 109 109 (cCmp 2 (eLoc 7) (eFld (rLoc 0 48) 57 2 10 0 fl_X2_57)) (pSeq (pIf 41 103 103 (cCmp0 1 (eCall (.invokestatic 125) (lkN mf_X11_bit ms_X11_bit ml_X2_125 rfl (by decide) (by decide)) MX11_bit (aI (eLoc 4) (aI (eLoc 7) aNil)))) (pSeq (pSetL 8 (lBin 1 (lLoc 2) (lI2l (eArr 0 24 (rFld (rLoc 0 48) 28 2 4 58 fl_X2_28) (eLoc 7))))) (pSeq (pSetL 8 (lIte 63 75 77 (cCmp 2 (eLoc 1) (eBin 1 (eFld (rLoc 0 48) 53 2 9 0 fl_X2_53) (eLit 1))) (lCall (.invokevirtual 135) (lkV (T := TX2) (N := 14) mf_X2_weighBehind mv_X2_weighBehind ml_X2_135 rfl rfl rfl (by decide) (by decide)) MX2_weighBehind_f0 (aR (rLoc 0 48) (aI (eLoc 1) (aI (eLoc 7) (aL (lLoc 8) aNil))))) (lLoc 8))) (pSeq (pAopL 96 (rFld (rLoc 0 48) 40 2 8 62 fl_X2_40) (eBin 0 (eBin 2 (eLoc 1) (eLit 24)) (eLoc 7)) (lLoc 8)) (pSetL 5 (lBin 0 (lLoc 5) (lLoc 8)))))) pSkip) (pInc 7 1)))) (pRetL 112 (lLoc 5))))))
set_option maxRecDepth 100000 in
def MX2_weighFrom_f0 : MP wdX yX2_weighFrom cX2_weighFrom 10 (some .long) 3 [.inr 48, .inl 0, .inl 1] := mkM scX2_weighFrom_f0 yX2_weighFrom [.inr 48, .inl 0, .inl 1] bX2_weighFrom_f0 (by decide +kernel) rfl rfl (by decide) (by decide +kernel)
abbrev scX2_weighBehind_f1 : ik_SC := (wdX, cX2_weighBehind, 5, RX2, [(0, 48)], 4, some .long)
set_option maxRecDepth 100000 in
def bX2_weighBehind_f1 : SP scX2_weighBehind_f1 := (pSeq (pAst 0 4 (rFld (rLoc 0 48) 31 2 5 59 fl_X2_31) (eLoc 1) (eLoc 2)) (pSeq (pAst 0 4 (rFld (rLoc 0 48) 34 2 6 60 fl_X2_34) (eLoc 1) (eArr 0 24 (rFld (rLoc 0 48) 25 2 3 57 fl_X2_25) (eLoc 2))) (pRetL 28 (lCall (.invokevirtual 97) (lkV (T := TX2) (N := 14) mf_X2_weighFrom mv_X2_weighFrom ml_X2_97 rfl rfl rfl (by decide) (by decide)) MX2_weighFrom_f0 (aR (rLoc 0 48) (aI (eBin 0 (eLoc 1) (eLit 1)) (aL (lLoc 3) aNil)))))))
set_option maxRecDepth 100000 in
def MX2_weighBehind_f1 : MP wdX yX2_weighBehind cX2_weighBehind 5 (some .long) 4 [.inr 48, .inl 0, .inl 0, .inl 1] := mkM scX2_weighBehind_f1 yX2_weighBehind [.inr 48, .inl 0, .inl 0, .inl 1] bX2_weighBehind_f1 (by decide +kernel) rfl rfl (by decide) (by decide +kernel)
abbrev scX2_weighFrom_f1 : ik_SC := (wdX, cX2_weighFrom, 10, RX2, [(0, 48)], 5, some .long)
set_option maxRecDepth 100000 in
def bX2_weighFrom_f1 : SP scX2_weighFrom_f1 := (pSeq (pIf 7 9 9 (cNot (cCmp0 1 (eCall (.invokestatic 64) (lkS mf_X2_isBar ms_X2_isBar ml_X2_64 rfl (by decide) (by decide)) MX2_isBar (aI (eLoc 1) aNil)))) (pRetL 9 (lLit 0)) pSkip) (pSeq (pSet 4 (eCall (.invokevirtual 122) (lkV (T := TX2) (N := 14) mf_X2_candidates mv_X2_candidates ml_X2_122 rfl rfl rfl (by decide) (by decide)) MX2_candidates (aR (rLoc 0 48) (aI (eLoc 1) aNil)))) (pSeq (pSetL 5 (lLit 0)) (pSeq (pSeq (pSet 7 (eLit 0)) (pWh 31 109 109 (cCmp 2 (eLoc 7) (eFld (rLoc 0 48) 57 2 10 0 fl_X2_57)) (pSeq (pIf 41 103 103 (cCmp0 1 (eCall (.invokestatic 125) (lkN mf_X11_bit ms_X11_bit ml_X2_125 rfl (by decide) (by decide)) MX11_bit (aI (eLoc 4) (aI (eLoc 7) aNil)))) (pSeq (pSetL 8 (lBin 1 (lLoc 2) (lI2l (eArr 0 24 (rFld (rLoc 0 48) 28 2 4 58 fl_X2_28) (eLoc 7))))) (pSeq (pSetL 8 (lIte 63 75 77 (cCmp 2 (eLoc 1) (eBin 1 (eFld (rLoc 0 48) 53 2 9 0 fl_X2_53) (eLit 1))) (lCall (.invokevirtual 135) (lkV (T := TX2) (N := 14) mf_X2_weighBehind mv_X2_weighBehind ml_X2_135 rfl rfl rfl (by decide) (by decide)) MX2_weighBehind_f1 (aR (rLoc 0 48) (aI (eLoc 1) (aI (eLoc 7) (aL (lLoc 8) aNil))))) (lLoc 8))) (pSeq (pAopL 96 (rFld (rLoc 0 48) 40 2 8 62 fl_X2_40) (eBin 0 (eBin 2 (eLoc 1) (eLit 24)) (eLoc 7)) (lLoc 8)) (pSetL 5 (lBin 0 (lLoc 5) (lLoc 8)))))) pSkip) (pInc 7 1)))) (pRetL 112 (lLoc 5))))))
set_option maxRecDepth 100000 in
def MX2_weighFrom_f1 : MP wdX yX2_weighFrom cX2_weighFrom 10 (some .long) 5 [.inr 48, .inl 0, .inl 1] := mkM scX2_weighFrom_f1 yX2_weighFrom [.inr 48, .inl 0, .inl 1] bX2_weighFrom_f1 (by decide +kernel) rfl rfl (by decide) (by decide +kernel)
abbrev scX2_weighBehind_f2 : ik_SC := (wdX, cX2_weighBehind, 5, RX2, [(0, 48)], 6, some .long)
set_option maxRecDepth 100000 in
def bX2_weighBehind_f2 : SP scX2_weighBehind_f2 := (pSeq (pAst 0 4 (rFld (rLoc 0 48) 31 2 5 59 fl_X2_31) (eLoc 1) (eLoc 2)) (pSeq (pAst 0 4 (rFld (rLoc 0 48) 34 2 6 60 fl_X2_34) (eLoc 1) (eArr 0 24 (rFld (rLoc 0 48) 25 2 3 57 fl_X2_25) (eLoc 2))) (pRetL 28 (lCall (.invokevirtual 97) (lkV (T := TX2) (N := 14) mf_X2_weighFrom mv_X2_weighFrom ml_X2_97 rfl rfl rfl (by decide) (by decide)) MX2_weighFrom_f1 (aR (rLoc 0 48) (aI (eBin 0 (eLoc 1) (eLit 1)) (aL (lLoc 3) aNil)))))))
set_option maxRecDepth 100000 in
def MX2_weighBehind_f2 : MP wdX yX2_weighBehind cX2_weighBehind 5 (some .long) 6 [.inr 48, .inl 0, .inl 0, .inl 1] := mkM scX2_weighBehind_f2 yX2_weighBehind [.inr 48, .inl 0, .inl 0, .inl 1] bX2_weighBehind_f2 (by decide +kernel) rfl rfl (by decide) (by decide +kernel)
abbrev scX2_weighFrom_f2 : ik_SC := (wdX, cX2_weighFrom, 10, RX2, [(0, 48)], 7, some .long)
set_option maxRecDepth 100000 in
def bX2_weighFrom_f2 : SP scX2_weighFrom_f2 := (pSeq (pIf 7 9 9 (cNot (cCmp0 1 (eCall (.invokestatic 64) (lkS mf_X2_isBar ms_X2_isBar ml_X2_64 rfl (by decide) (by decide)) MX2_isBar (aI (eLoc 1) aNil)))) (pRetL 9 (lLit 0)) pSkip) (pSeq (pSet 4 (eCall (.invokevirtual 122) (lkV (T := TX2) (N := 14) mf_X2_candidates mv_X2_candidates ml_X2_122 rfl rfl rfl (by decide) (by decide)) MX2_candidates (aR (rLoc 0 48) (aI (eLoc 1) aNil)))) (pSeq (pSetL 5 (lLit 0)) (pSeq (pSeq (pSet 7 (eLit 0)) (pWh 31 109 109 (cCmp 2 (eLoc 7) (eFld (rLoc 0 48) 57 2 10 0 fl_X2_57)) (pSeq (pIf 41 103 103 (cCmp0 1 (eCall (.invokestatic 125) (lkN mf_X11_bit ms_X11_bit ml_X2_125 rfl (by decide) (by decide)) MX11_bit (aI (eLoc 4) (aI (eLoc 7) aNil)))) (pSeq (pSetL 8 (lBin 1 (lLoc 2) (lI2l (eArr 0 24 (rFld (rLoc 0 48) 28 2 4 58 fl_X2_28) (eLoc 7))))) (pSeq (pSetL 8 (lIte 63 75 77 (cCmp 2 (eLoc 1) (eBin 1 (eFld (rLoc 0 48) 53 2 9 0 fl_X2_53) (eLit 1))) (lCall (.invokevirtual 135) (lkV (T := TX2) (N := 14) mf_X2_weighBehind mv_X2_weighBehind ml_X2_135 rfl rfl rfl (by decide) (by decide)) MX2_weighBehind_f2 (aR (rLoc 0 48) (aI (eLoc 1) (aI (eLoc 7) (aL (lLoc 8) aNil))))) (lLoc 8))) (pSeq (pAopL 96 (rFld (rLoc 0 48) 40 2 8 62 fl_X2_40) (eBin 0 (eBin 2 (eLoc 1) (eLit 24)) (eLoc 7)) (lLoc 8)) (pSetL 5 (lBin 0 (lLoc 5) (lLoc 8)))))) pSkip) (pInc 7 1)))) (pRetL 112 (lLoc 5))))))
set_option maxRecDepth 100000 in
def MX2_weighFrom_f2 : MP wdX yX2_weighFrom cX2_weighFrom 10 (some .long) 7 [.inr 48, .inl 0, .inl 1] := mkM scX2_weighFrom_f2 yX2_weighFrom [.inr 48, .inl 0, .inl 1] bX2_weighFrom_f2 (by decide +kernel) rfl rfl (by decide) (by decide +kernel)
abbrev scX2_weighBehind_f3 : ik_SC := (wdX, cX2_weighBehind, 5, RX2, [(0, 48)], 8, some .long)
set_option maxRecDepth 100000 in
def bX2_weighBehind_f3 : SP scX2_weighBehind_f3 := (pSeq (pAst 0 4 (rFld (rLoc 0 48) 31 2 5 59 fl_X2_31) (eLoc 1) (eLoc 2)) (pSeq (pAst 0 4 (rFld (rLoc 0 48) 34 2 6 60 fl_X2_34) (eLoc 1) (eArr 0 24 (rFld (rLoc 0 48) 25 2 3 57 fl_X2_25) (eLoc 2))) (pRetL 28 (lCall (.invokevirtual 97) (lkV (T := TX2) (N := 14) mf_X2_weighFrom mv_X2_weighFrom ml_X2_97 rfl rfl rfl (by decide) (by decide)) MX2_weighFrom_f2 (aR (rLoc 0 48) (aI (eBin 0 (eLoc 1) (eLit 1)) (aL (lLoc 3) aNil)))))))
set_option maxRecDepth 100000 in
def MX2_weighBehind_f3 : MP wdX yX2_weighBehind cX2_weighBehind 5 (some .long) 8 [.inr 48, .inl 0, .inl 0, .inl 1] := mkM scX2_weighBehind_f3 yX2_weighBehind [.inr 48, .inl 0, .inl 0, .inl 1] bX2_weighBehind_f3 (by decide +kernel) rfl rfl (by decide) (by decide +kernel)
abbrev scX2_weighFrom_f3 : ik_SC := (wdX, cX2_weighFrom, 10, RX2, [(0, 48)], 9, some .long)
set_option maxRecDepth 100000 in
def bX2_weighFrom_f3 : SP scX2_weighFrom_f3 := (pSeq (pIf 7 9 9 (cNot (cCmp0 1 (eCall (.invokestatic 64) (lkS mf_X2_isBar ms_X2_isBar ml_X2_64 rfl (by decide) (by decide)) MX2_isBar (aI (eLoc 1) aNil)))) (pRetL 9 (lLit 0)) pSkip) (pSeq (pSet 4 (eCall (.invokevirtual 122) (lkV (T := TX2) (N := 14) mf_X2_candidates mv_X2_candidates ml_X2_122 rfl rfl rfl (by decide) (by decide)) MX2_candidates (aR (rLoc 0 48) (aI (eLoc 1) aNil)))) (pSeq (pSetL 5 (lLit 0)) (pSeq (pSeq (pSet 7 (eLit 0)) (pWh 31 109 109 (cCmp 2 (eLoc 7) (eFld (rLoc 0 48) 57 2 10 0 fl_X2_57)) (pSeq (pIf 41 103 103 (cCmp0 1 (eCall (.invokestatic 125) (lkN mf_X11_bit ms_X11_bit ml_X2_125 rfl (by decide) (by decide)) MX11_bit (aI (eLoc 4) (aI (eLoc 7) aNil)))) (pSeq (pSetL 8 (lBin 1 (lLoc 2) (lI2l (eArr 0 24 (rFld (rLoc 0 48) 28 2 4 58 fl_X2_28) (eLoc 7))))) (pSeq (pSetL 8 (lIte 63 75 77 (cCmp 2 (eLoc 1) (eBin 1 (eFld (rLoc 0 48) 53 2 9 0 fl_X2_53) (eLit 1))) (lCall (.invokevirtual 135) (lkV (T := TX2) (N := 14) mf_X2_weighBehind mv_X2_weighBehind ml_X2_135 rfl rfl rfl (by decide) (by decide)) MX2_weighBehind_f3 (aR (rLoc 0 48) (aI (eLoc 1) (aI (eLoc 7) (aL (lLoc 8) aNil))))) (lLoc 8))) (pSeq (pAopL 96 (rFld (rLoc 0 48) 40 2 8 62 fl_X2_40) (eBin 0 (eBin 2 (eLoc 1) (eLit 24)) (eLoc 7)) (lLoc 8)) (pSetL 5 (lBin 0 (lLoc 5) (lLoc 8)))))) pSkip) (pInc 7 1)))) (pRetL 112 (lLoc 5))))))
set_option maxRecDepth 100000 in
def MX2_weighFrom_f3 : MP wdX yX2_weighFrom cX2_weighFrom 10 (some .long) 9 [.inr 48, .inl 0, .inl 1] := mkM scX2_weighFrom_f3 yX2_weighFrom [.inr 48, .inl 0, .inl 1] bX2_weighFrom_f3 (by decide +kernel) rfl rfl (by decide) (by decide +kernel)
abbrev scX2_weighBehind_f4 : ik_SC := (wdX, cX2_weighBehind, 5, RX2, [(0, 48)], 10, some .long)
set_option maxRecDepth 100000 in
def bX2_weighBehind_f4 : SP scX2_weighBehind_f4 := (pSeq (pAst 0 4 (rFld (rLoc 0 48) 31 2 5 59 fl_X2_31) (eLoc 1) (eLoc 2)) (pSeq (pAst 0 4 (rFld (rLoc 0 48) 34 2 6 60 fl_X2_34) (eLoc 1) (eArr 0 24 (rFld (rLoc 0 48) 25 2 3 57 fl_X2_25) (eLoc 2))) (pRetL 28 (lCall (.invokevirtual 97) (lkV (T := TX2) (N := 14) mf_X2_weighFrom mv_X2_weighFrom ml_X2_97 rfl rfl rfl (by decide) (by decide)) MX2_weighFrom_f3 (aR (rLoc 0 48) (aI (eBin 0 (eLoc 1) (eLit 1)) (aL (lLoc 3) aNil)))))))
set_option maxRecDepth 100000 in
def MX2_weighBehind_f4 : MP wdX yX2_weighBehind cX2_weighBehind 5 (some .long) 10 [.inr 48, .inl 0, .inl 0, .inl 1] := mkM scX2_weighBehind_f4 yX2_weighBehind [.inr 48, .inl 0, .inl 0, .inl 1] bX2_weighBehind_f4 (by decide +kernel) rfl rfl (by decide) (by decide +kernel)
abbrev scX2_weighFrom_f4 : ik_SC := (wdX, cX2_weighFrom, 10, RX2, [(0, 48)], 11, some .long)
set_option maxRecDepth 100000 in
def bX2_weighFrom_f4 : SP scX2_weighFrom_f4 := (pSeq (pIf 7 9 9 (cNot (cCmp0 1 (eCall (.invokestatic 64) (lkS mf_X2_isBar ms_X2_isBar ml_X2_64 rfl (by decide) (by decide)) MX2_isBar (aI (eLoc 1) aNil)))) (pRetL 9 (lLit 0)) pSkip) (pSeq (pSet 4 (eCall (.invokevirtual 122) (lkV (T := TX2) (N := 14) mf_X2_candidates mv_X2_candidates ml_X2_122 rfl rfl rfl (by decide) (by decide)) MX2_candidates (aR (rLoc 0 48) (aI (eLoc 1) aNil)))) (pSeq (pSetL 5 (lLit 0)) (pSeq (pSeq (pSet 7 (eLit 0)) (pWh 31 109 109 (cCmp 2 (eLoc 7) (eFld (rLoc 0 48) 57 2 10 0 fl_X2_57)) (pSeq (pIf 41 103 103 (cCmp0 1 (eCall (.invokestatic 125) (lkN mf_X11_bit ms_X11_bit ml_X2_125 rfl (by decide) (by decide)) MX11_bit (aI (eLoc 4) (aI (eLoc 7) aNil)))) (pSeq (pSetL 8 (lBin 1 (lLoc 2) (lI2l (eArr 0 24 (rFld (rLoc 0 48) 28 2 4 58 fl_X2_28) (eLoc 7))))) (pSeq (pSetL 8 (lIte 63 75 77 (cCmp 2 (eLoc 1) (eBin 1 (eFld (rLoc 0 48) 53 2 9 0 fl_X2_53) (eLit 1))) (lCall (.invokevirtual 135) (lkV (T := TX2) (N := 14) mf_X2_weighBehind mv_X2_weighBehind ml_X2_135 rfl rfl rfl (by decide) (by decide)) MX2_weighBehind_f4 (aR (rLoc 0 48) (aI (eLoc 1) (aI (eLoc 7) (aL (lLoc 8) aNil))))) (lLoc 8))) (pSeq (pAopL 96 (rFld (rLoc 0 48) 40 2 8 62 fl_X2_40) (eBin 0 (eBin 2 (eLoc 1) (eLit 24)) (eLoc 7)) (lLoc 8)) (pSetL 5 (lBin 0 (lLoc 5) (lLoc 8)))))) pSkip) (pInc 7 1)))) (pRetL 112 (lLoc 5))))))
set_option maxRecDepth 100000 in
def MX2_weighFrom_f4 : MP wdX yX2_weighFrom cX2_weighFrom 10 (some .long) 11 [.inr 48, .inl 0, .inl 1] := mkM scX2_weighFrom_f4 yX2_weighFrom [.inr 48, .inl 0, .inl 1] bX2_weighFrom_f4 (by decide +kernel) rfl rfl (by decide) (by decide +kernel)
abbrev scX2_weighAll : ik_SC := (wdX, cX2_weighAll, 2, RX2, [(0, 48)], 12, none)
set_option maxRecDepth 100000 in
def bX2_weighAll : SP scX2_weighAll := (pSeq (pSeq (pSeq (pSet 1 (eLit 0)) (pWh 11 24 24 (cCmp 2 (eLoc 1) (eLen 1 96 (rFld (rLoc 0 48) 40 2 8 62 fl_X2_40))) (pSeq (pAstL 96 (rFld (rLoc 0 48) 40 2 8 62 fl_X2_40) (eLoc 1) (lLit 0)) (pInc 1 1)))) (pPutL (rLoc 0 48) 101 2 13 fw_X2_101 (lIte 32 41 42 (cCmp0 1 (eCall (.invokevirtual 82) (lkV (T := TX2) (N := 14) mf_X2_hopeful mv_X2_hopeful ml_X2_82 rfl rfl rfl (by decide) (by decide)) MX2_hopeful (aR (rLoc 0 48) aNil))) (lCall (.invokevirtual 97) (lkV (T := TX2) (N := 14) mf_X2_weighFrom mv_X2_weighFrom ml_X2_97 rfl rfl rfl (by decide) (by decide)) MX2_weighFrom_f4 (aR (rLoc 0 48) (aI (eLit 0) (aL (lLit 1) aNil)))) (lLit 0)))) (pRetV 46))
set_option maxRecDepth 100000 in
def MX2_weighAll : MP wdX yX2_weighAll cX2_weighAll 2 (none) 12 [.inr 48] := mkM scX2_weighAll yX2_weighAll [.inr 48] bX2_weighAll (by decide +kernel) rfl rfl (by decide) (by decide +kernel)
abbrev scX11_weigh : ik_SC := (wdX, cX11_weigh, 1, RX11, [(0, 0)], 30, none)
set_option maxRecDepth 100000 in
def bX11_weigh : SP scX11_weigh := (pSeq (pSeq (pDo (.invokevirtual 225) (lkV (T := TX11) (N := 15) mf_X11_prepare mv_X11_prepare ml_X11_225 rfl rfl rfl (by decide) (by decide)) MX11_prepare (aR (rLoc 0 0) aNil)) (pIf 11 66 66 (cNot (cCmp0 1 (eFld (rLoc 0 0) 403 11 14 3 fl_X11_403))) (pSeq (pDo (.invokevirtual 415) (lkV (T := TX11) (N := 15) mf_X11_fit mv_X11_fit ml_X11_415 rfl rfl rfl (by decide) (by decide)) MX11_fit (aR (rLoc 0 0) (aI (eLit 0) (aI (eCall (.invokevirtual 171) (lkV (T := TX3) (N := 4) mf_X3_least mv_X3_least ml_X11_171 rfl rfl rfl (by decide) (by decide)) MX3_least (aR (rFld (rLoc 0 0) 54 11 6 39 fl_X11_54) (aI (eFld (rLoc 0 0) 178 11 12 0 fl_X11_178) (aR (rFld (rLoc 0 0) 26 11 2 6 fl_X11_26) (aR (rFld (rLoc 0 0) 19 11 1 3 fl_X11_19) aNil))))) (aI (eCall (.invokevirtual 175) (lkV (T := TX3) (N := 4) mf_X3_greatest mv_X3_greatest ml_X11_175 rfl rfl rfl (by decide) (by decide)) MX3_greatest (aR (rFld (rLoc 0 0) 54 11 6 39 fl_X11_54) (aI (eFld (rLoc 0 0) 178 11 12 0 fl_X11_178) (aR (rFld (rLoc 0 0) 26 11 2 6 fl_X11_26) (aR (rFld (rLoc 0 0) 19 11 1 3 fl_X11_19) aNil))))) aNil))))) (pSeq (pDo (.invokevirtual 421) (lkV (T := TX2) (N := 14) mf_X2_weighAll mv_X2_weighAll ml_X11_421 rfl rfl rfl (by decide) (by decide)) MX2_weighAll (aR (rFld (rLoc 0 0) 68 11 8 48 fl_X11_68) aNil)) (pPut (rLoc 0 0) 403 11 14 3 fw_X11_403 (eLit 1)))) pSkip)) (pRetV 67))
set_option maxRecDepth 100000 in
def MX11_weigh : MP wdX yX11_weigh cX11_weigh 1 (none) 30 [.inr 0] := mkM scX11_weigh yX11_weigh [.inr 0] bX11_weigh (by decide +kernel) rfl rfl (by decide) (by decide +kernel)
abbrev scX2_odds : ik_SC := (wdX, cX2_odds, 3, RX2, [(0, 48)], 1, some .long)
set_option maxRecDepth 100000 in
def bX2_odds : SP scX2_odds := (pRetL 30 (lIte 14 28 29 (cAnd 7 (cCmp0 1 (eCall (.invokestatic 64) (lkS mf_X2_isBar ms_X2_isBar ml_X2_64 rfl (by decide) (by decide)) MX2_isBar (aI (eLoc 1) aNil))) (cCmp0 1 (eCall (.invokestatic 60) (lkS mf_X2_isName ms_X2_isName ml_X2_60 rfl (by decide) (by decide)) MX2_isName (aI (eLoc 2) aNil)))) (lArr 96 (rFld (rLoc 0 48) 40 2 8 62 fl_X2_40) (eBin 0 (eBin 2 (eLoc 1) (eLit 24)) (eLoc 2))) (lLit 0)))
set_option maxRecDepth 100000 in
def MX2_odds : MP wdX yX2_odds cX2_odds 3 (some .long) 1 [.inr 48, .inl 0, .inl 0] := mkM scX2_odds yX2_odds [.inr 48, .inl 0, .inl 0] bX2_odds (by decide +kernel) rfl rfl (by decide) (by decide +kernel)
abbrev scX2_may : ik_SC := (wdX, cX2_may, 4, RX2, [(0, 48)], 2, some .int)
set_option maxRecDepth 100000 in
def bX2_may : SP scX2_may := (pSeq (pSet 2 (eLit 0)) (pSeq (pSeq (pSet 3 (eLit 0)) (pWh 10 33 33 (cCmp 2 (eLoc 3) (eLit 24)) (pSeq (pIf 21 27 27 (cCmpL 1 (lCall (.invokevirtual 105) (lkV (T := TX2) (N := 14) mf_X2_odds mv_X2_odds ml_X2_105 rfl rfl rfl (by decide) (by decide)) MX2_odds (aR (rLoc 0 48) (aI (eLoc 1) (aI (eLoc 3) aNil)))) (lLit 0)) (pSet 2 (eBin 4 (eLoc 2) (eBin 6 (eLit 1) (eLoc 3)))) pSkip) (pInc 3 1)))) (pRet 0 35 (eLoc 2))))
set_option maxRecDepth 100000 in
def MX2_may : MP wdX yX2_may cX2_may 4 (some .int) 2 [.inr 48, .inl 0] := mkM scX2_may yX2_may [.inr 48, .inl 0] bX2_may (by decide +kernel) rfl rfl (by decide) (by decide +kernel)
abbrev scX11_may : ik_SC := (wdX, cX11_may, 2, RX11, [(0, 0)], 31, some .int)
set_option maxRecDepth 100000 in
def bX11_may : SP scX11_may := (pSeq (pIf 11 13 13 (cNot (cCmp0 1 (eCall (.invokevirtual 152) (lkV (T := TX0) (N := 12) mf_X0_has mv_X0_has ml_X11_152 rfl rfl rfl (by decide) (by decide)) MX0_has (aR (rFld (rLoc 0 0) 33 11 3 15 fl_X11_33) (aI (eLoc 1) aNil))))) (pRet 0 13 (eLit (-1))) pSkip) (pSeq (pDo (.invokevirtual 209) (lkV (T := TX11) (N := 15) mf_X11_weigh mv_X11_weigh ml_X11_209 rfl rfl rfl (by decide) (by decide)) MX11_weigh (aR (rLoc 0 0) aNil)) (pRet 0 26 (eCall (.invokevirtual 212) (lkV (T := TX2) (N := 14) mf_X2_may mv_X2_may ml_X11_212 rfl rfl rfl (by decide) (by decide)) MX2_may (aR (rFld (rLoc 0 0) 68 11 8 48 fl_X11_68) (aI (eLoc 1) aNil))))))
set_option maxRecDepth 100000 in
def MX11_may : MP wdX yX11_may cX11_may 2 (some .int) 31 [.inr 0, .inl 0] := mkM scX11_may yX11_may [.inr 0, .inl 0] bX11_may (by decide +kernel) rfl rfl (by decide) (by decide +kernel)
end
section
abbrev scX2_all : ik_SC := (wdX, cX2_all, 1, RX2, [(0, 48)], 0, some .long)
set_option maxRecDepth 100000 in
def bX2_all : SP scX2_all := (pRetL 5 (lFld (rLoc 0 48) 101 2 13 fl_X2_101))
set_option maxRecDepth 100000 in
def MX2_all : MP wdX yX2_all cX2_all 1 (some .long) 0 [.inr 48] := mkM scX2_all yX2_all [.inr 48] bX2_all (by decide +kernel) rfl rfl (by decide) (by decide +kernel)
abbrev scX11_odds : ik_SC := (wdX, cX11_odds, 3, RX11, [(0, 0)], 31, some .long)
set_option maxRecDepth 100000 in
def bX11_odds : SP scX11_odds := (pSeq (pIf 27 31 31 (cOr 11 (cNot (cCmp0 1 (eCall (.invokevirtual 152) (lkV (T := TX0) (N := 12) mf_X0_has mv_X0_has ml_X11_152 rfl rfl rfl (by decide) (by decide)) MX0_has (aR (rFld (rLoc 0 0) 33 11 3 15 fl_X11_33) (aI (eLoc 1) aNil))))) (cAnd 16 (cCmp 1 (eLoc 2) (eLit (-1))) (cNot (cCmp0 1 (eCall (.invokevirtual 124) (lkV (T := TX6) (N := 7) mf_X6_has mv_X6_has ml_X11_124 rfl rfl rfl (by decide) (by decide)) MX6_has (aR (rFld (rLoc 0 0) 26 11 2 6 fl_X11_26) (aI (eLoc 2) aNil))))))) (pRetL 31 (lLdc 215 (-1) kc_X11_215)) pSkip) (pSeq (pDo (.invokevirtual 209) (lkV (T := TX11) (N := 15) mf_X11_weigh mv_X11_weigh ml_X11_209 rfl rfl rfl (by decide) (by decide)) MX11_weigh (aR (rLoc 0 0) aNil)) (pRetL 60 (lIte 40 50 59 (cCmp 0 (eLoc 2) (eLit (-1))) (lCall (.invokevirtual 217) (lkV (T := TX2) (N := 14) mf_X2_all mv_X2_all ml_X11_217 rfl rfl rfl (by decide) (by decide)) MX2_all (aR (rFld (rLoc 0 0) 68 11 8 48 fl_X11_68) aNil)) (lCall (.invokevirtual 221) (lkV (T := TX2) (N := 14) mf_X2_odds mv_X2_odds ml_X11_221 rfl rfl rfl (by decide) (by decide)) MX2_odds (aR (rFld (rLoc 0 0) 68 11 8 48 fl_X11_68) (aI (eLoc 1) (aI (eLoc 2) aNil))))))))
set_option maxRecDepth 100000 in
def MX11_odds : MP wdX yX11_odds cX11_odds 3 (some .long) 31 [.inr 0, .inl 0, .inl 0] := mkM scX11_odds yX11_odds [.inr 0, .inl 0, .inl 0] bX11_odds (by decide +kernel) rfl rfl (by decide) (by decide +kernel)
abbrev scX11_given : ik_SC := (wdX, cX11_given, 5, RX11, [(0, 0)], 31, some .int)
set_option maxRecDepth 100000 in
def bX11_given : SP scX11_given := (pSeq (pIf 10 12 12 (cCmp0 0 (eCall (.invokevirtual 136) (lkV (T := TX0) (N := 12) mf_X0_count mv_X0_count ml_X11_136 rfl rfl rfl (by decide) (by decide)) MX0_count (aR (rFld (rLoc 0 0) 33 11 3 15 fl_X11_33) aNil))) (pRet 0 12 (eLit (-1))) pSkip) (pSeq (pSet 1 (eLit 1)) (pSeq (pSet 2 (eCall (.invokevirtual 206) (lkV (T := TX11) (N := 15) mf_X11_countWithout mv_X11_countWithout ml_X11_206 rfl rfl rfl (by decide) (by decide)) MX11_countWithout (aR (rLoc 0 0) (aI (eLit 1) aNil)))) (pSeq (pSeq (pSet 3 (eLit 2)) (pWh 28 53 53 (cCmp 5 (eLoc 3) (eLit 32)) (pSeq (pSeq (pSet 4 (eCall (.invokevirtual 206) (lkV (T := TX11) (N := 15) mf_X11_countWithout mv_X11_countWithout ml_X11_206 rfl rfl rfl (by decide) (by decide)) MX11_countWithout (aR (rLoc 0 0) (aI (eLoc 3) aNil)))) (pIf 41 46 46 (cCmp 4 (eLoc 4) (eLoc 2)) (pSeq (pSet 2 (eLoc 4)) (pSet 1 (eLoc 3))) pSkip)) (pSet 3 (eBin 2 (eLoc 3) (eLit 2)))))) (pRet 0 55 (eLoc 1))))))
set_option maxRecDepth 100000 in
def MX11_given : MP wdX yX11_given cX11_given 5 (some .int) 31 [.inr 0] := mkM scX11_given yX11_given [.inr 0] bX11_given (by decide +kernel) rfl rfl (by decide) (by decide +kernel)
set_option maxRecDepth 100000 in
def MX2_reachFrom_x : MP wdX yX2_reachFrom cX2_reachFrom 4 (some .boolean) 0 [.inr 48, .inl 0] := mFail _ _ _ _ _ _ _
abbrev scX2_reachBehind_f0 : ik_SC := (wdX, cX2_reachBehind, 3, RX2, [(0, 48)], 1, some .boolean)
set_option maxRecDepth 100000 in
def bX2_reachBehind_f0 : SP scX2_reachBehind_f0 := (pSeq (pAst 0 4 (rFld (rLoc 0 48) 31 2 5 59 fl_X2_31) (eLoc 1) (eLoc 2)) (pSeq (pAst 0 4 (rFld (rLoc 0 48) 34 2 6 60 fl_X2_34) (eLoc 1) (eArr 0 24 (rFld (rLoc 0 48) 25 2 3 57 fl_X2_25) (eLoc 2))) (pRet 3 27 (eCall (.invokevirtual 89) (lkV (T := TX2) (N := 14) mf_X2_reachFrom mv_X2_reachFrom ml_X2_89 rfl rfl rfl (by decide) (by decide)) MX2_reachFrom_x (aR (rLoc 0 48) (aI (eBin 0 (eLoc 1) (eLit 1)) aNil))))))
set_option maxRecDepth 100000 in
def MX2_reachBehind_f0 : MP wdX yX2_reachBehind cX2_reachBehind 3 (some .boolean) 1 [.inr 48, .inl 0, .inl 0] := mkM scX2_reachBehind_f0 yX2_reachBehind [.inr 48, .inl 0, .inl 0] bX2_reachBehind_f0 (by decide +kernel) rfl rfl (by decide) (by decide +kernel)
abbrev scX2_reachFrom_f0 : ik_SC := (wdX, cX2_reachFrom, 4, RX2, [(0, 48)], 3, some .boolean)
set_option maxRecDepth 100000 in
def bX2_reachFrom_f0 : SP scX2_reachFrom_f0 := (pSeq (pIf 7 9 9 (cNot (cCmp0 1 (eCall (.invokestatic 64) (lkS mf_X2_isBar ms_X2_isBar ml_X2_64 rfl (by decide) (by decide)) MX2_isBar (aI (eLoc 1) aNil)))) (pRet 3 9 (eLit 0)) pSkip) (pSeq (pSet 2 (eCall (.invokevirtual 122) (lkV (T := TX2) (N := 14) mf_X2_candidates mv_X2_candidates ml_X2_122 rfl rfl rfl (by decide) (by decide)) MX2_candidates (aR (rLoc 0 48) (aI (eLoc 1) aNil)))) (pSeq (pIf 25 66 66 (cCmp 2 (eLoc 1) (eBin 1 (eFld (rLoc 0 48) 53 2 9 0 fl_X2_53) (eLit 1))) (pSeq (pSet 3 (eLit 0)) (pWh 35 66 66 (cCmp 2 (eLoc 3) (eFld (rLoc 0 48) 57 2 10 0 fl_X2_57)) (pSeq (pIf 52 60 60 (cAnd 43 (cCmp0 1 (eCall (.invokestatic 125) (lkN mf_X11_bit ms_X11_bit ml_X2_125 rfl (by decide) (by decide)) MX11_bit (aI (eLoc 2) (aI (eLoc 3) aNil)))) (cNot (cCmp0 1 (eCall (.invokevirtual 132) (lkV (T := TX2) (N := 14) mf_X2_reachBehind mv_X2_reachBehind ml_X2_132 rfl rfl rfl (by decide) (by decide)) MX2_reachBehind_f0 (aR (rLoc 0 48) (aI (eLoc 1) (aI (eLoc 3) aNil))))))) (pSet 2 (eBin 3 (eLoc 2) (eBin 5 (eBin 6 (eLit 1) (eLoc 3)) (eLit (-1))))) pSkip) (pInc 3 1)))) pSkip) (pSeq (pAop 4 4 (rFld (rLoc 0 48) 37 2 7 61 fl_X2_37) (eLoc 1) (eLoc 2)) (pRet 3 86 (eIte 80 84 85 (cCmp0 1 (eLoc 2)) (eLit 1) (eLit 0)))))))
set_option maxRecDepth 100000 in
def MX2_reachFrom_f0 : MP wdX yX2_reachFrom cX2_reachFrom 4 (some .boolean) 3 [.inr 48, .inl 0] := mkM scX2_reachFrom_f0 yX2_reachFrom [.inr 48, .inl 0] bX2_reachFrom_f0 (by decide +kernel) rfl rfl (by decide) (by decide +kernel)
abbrev scX2_reachBehind_f1 : ik_SC := (wdX, cX2_reachBehind, 3, RX2, [(0, 48)], 4, some .boolean)
set_option maxRecDepth 100000 in
def bX2_reachBehind_f1 : SP scX2_reachBehind_f1 := (pSeq (pAst 0 4 (rFld (rLoc 0 48) 31 2 5 59 fl_X2_31) (eLoc 1) (eLoc 2)) (pSeq (pAst 0 4 (rFld (rLoc 0 48) 34 2 6 60 fl_X2_34) (eLoc 1) (eArr 0 24 (rFld (rLoc 0 48) 25 2 3 57 fl_X2_25) (eLoc 2))) (pRet 3 27 (eCall (.invokevirtual 89) (lkV (T := TX2) (N := 14) mf_X2_reachFrom mv_X2_reachFrom ml_X2_89 rfl rfl rfl (by decide) (by decide)) MX2_reachFrom_f0 (aR (rLoc 0 48) (aI (eBin 0 (eLoc 1) (eLit 1)) aNil))))))
set_option maxRecDepth 100000 in
def MX2_reachBehind_f1 : MP wdX yX2_reachBehind cX2_reachBehind 3 (some .boolean) 4 [.inr 48, .inl 0, .inl 0] := mkM scX2_reachBehind_f1 yX2_reachBehind [.inr 48, .inl 0, .inl 0] bX2_reachBehind_f1 (by decide +kernel) rfl rfl (by decide) (by decide +kernel)
abbrev scX2_reachFrom_f1 : ik_SC := (wdX, cX2_reachFrom, 4, RX2, [(0, 48)], 5, some .boolean)
set_option maxRecDepth 100000 in
def bX2_reachFrom_f1 : SP scX2_reachFrom_f1 := (pSeq (pIf 7 9 9 (cNot (cCmp0 1 (eCall (.invokestatic 64) (lkS mf_X2_isBar ms_X2_isBar ml_X2_64 rfl (by decide) (by decide)) MX2_isBar (aI (eLoc 1) aNil)))) (pRet 3 9 (eLit 0)) pSkip) (pSeq (pSet 2 (eCall (.invokevirtual 122) (lkV (T := TX2) (N := 14) mf_X2_candidates mv_X2_candidates ml_X2_122 rfl rfl rfl (by decide) (by decide)) MX2_candidates (aR (rLoc 0 48) (aI (eLoc 1) aNil)))) (pSeq (pIf 25 66 66 (cCmp 2 (eLoc 1) (eBin 1 (eFld (rLoc 0 48) 53 2 9 0 fl_X2_53) (eLit 1))) (pSeq (pSet 3 (eLit 0)) (pWh 35 66 66 (cCmp 2 (eLoc 3) (eFld (rLoc 0 48) 57 2 10 0 fl_X2_57)) (pSeq (pIf 52 60 60 (cAnd 43 (cCmp0 1 (eCall (.invokestatic 125) (lkN mf_X11_bit ms_X11_bit ml_X2_125 rfl (by decide) (by decide)) MX11_bit (aI (eLoc 2) (aI (eLoc 3) aNil)))) (cNot (cCmp0 1 (eCall (.invokevirtual 132) (lkV (T := TX2) (N := 14) mf_X2_reachBehind mv_X2_reachBehind ml_X2_132 rfl rfl rfl (by decide) (by decide)) MX2_reachBehind_f1 (aR (rLoc 0 48) (aI (eLoc 1) (aI (eLoc 3) aNil))))))) (pSet 2 (eBin 3 (eLoc 2) (eBin 5 (eBin 6 (eLit 1) (eLoc 3)) (eLit (-1))))) pSkip) (pInc 3 1)))) pSkip) (pSeq (pAop 4 4 (rFld (rLoc 0 48) 37 2 7 61 fl_X2_37) (eLoc 1) (eLoc 2)) (pRet 3 86 (eIte 80 84 85 (cCmp0 1 (eLoc 2)) (eLit 1) (eLit 0)))))))
set_option maxRecDepth 100000 in
def MX2_reachFrom_f1 : MP wdX yX2_reachFrom cX2_reachFrom 4 (some .boolean) 5 [.inr 48, .inl 0] := mkM scX2_reachFrom_f1 yX2_reachFrom [.inr 48, .inl 0] bX2_reachFrom_f1 (by decide +kernel) rfl rfl (by decide) (by decide +kernel)
abbrev scX2_reachBehind_f2 : ik_SC := (wdX, cX2_reachBehind, 3, RX2, [(0, 48)], 6, some .boolean)
set_option maxRecDepth 100000 in
def bX2_reachBehind_f2 : SP scX2_reachBehind_f2 := (pSeq (pAst 0 4 (rFld (rLoc 0 48) 31 2 5 59 fl_X2_31) (eLoc 1) (eLoc 2)) (pSeq (pAst 0 4 (rFld (rLoc 0 48) 34 2 6 60 fl_X2_34) (eLoc 1) (eArr 0 24 (rFld (rLoc 0 48) 25 2 3 57 fl_X2_25) (eLoc 2))) (pRet 3 27 (eCall (.invokevirtual 89) (lkV (T := TX2) (N := 14) mf_X2_reachFrom mv_X2_reachFrom ml_X2_89 rfl rfl rfl (by decide) (by decide)) MX2_reachFrom_f1 (aR (rLoc 0 48) (aI (eBin 0 (eLoc 1) (eLit 1)) aNil))))))
set_option maxRecDepth 100000 in
def MX2_reachBehind_f2 : MP wdX yX2_reachBehind cX2_reachBehind 3 (some .boolean) 6 [.inr 48, .inl 0, .inl 0] := mkM scX2_reachBehind_f2 yX2_reachBehind [.inr 48, .inl 0, .inl 0] bX2_reachBehind_f2 (by decide +kernel) rfl rfl (by decide) (by decide +kernel)
abbrev scX2_reachFrom_f2 : ik_SC := (wdX, cX2_reachFrom, 4, RX2, [(0, 48)], 7, some .boolean)
set_option maxRecDepth 100000 in
def bX2_reachFrom_f2 : SP scX2_reachFrom_f2 := (pSeq (pIf 7 9 9 (cNot (cCmp0 1 (eCall (.invokestatic 64) (lkS mf_X2_isBar ms_X2_isBar ml_X2_64 rfl (by decide) (by decide)) MX2_isBar (aI (eLoc 1) aNil)))) (pRet 3 9 (eLit 0)) pSkip) (pSeq (pSet 2 (eCall (.invokevirtual 122) (lkV (T := TX2) (N := 14) mf_X2_candidates mv_X2_candidates ml_X2_122 rfl rfl rfl (by decide) (by decide)) MX2_candidates (aR (rLoc 0 48) (aI (eLoc 1) aNil)))) (pSeq (pIf 25 66 66 (cCmp 2 (eLoc 1) (eBin 1 (eFld (rLoc 0 48) 53 2 9 0 fl_X2_53) (eLit 1))) (pSeq (pSet 3 (eLit 0)) (pWh 35 66 66 (cCmp 2 (eLoc 3) (eFld (rLoc 0 48) 57 2 10 0 fl_X2_57)) (pSeq (pIf 52 60 60 (cAnd 43 (cCmp0 1 (eCall (.invokestatic 125) (lkN mf_X11_bit ms_X11_bit ml_X2_125 rfl (by decide) (by decide)) MX11_bit (aI (eLoc 2) (aI (eLoc 3) aNil)))) (cNot (cCmp0 1 (eCall (.invokevirtual 132) (lkV (T := TX2) (N := 14) mf_X2_reachBehind mv_X2_reachBehind ml_X2_132 rfl rfl rfl (by decide) (by decide)) MX2_reachBehind_f2 (aR (rLoc 0 48) (aI (eLoc 1) (aI (eLoc 3) aNil))))))) (pSet 2 (eBin 3 (eLoc 2) (eBin 5 (eBin 6 (eLit 1) (eLoc 3)) (eLit (-1))))) pSkip) (pInc 3 1)))) pSkip) (pSeq (pAop 4 4 (rFld (rLoc 0 48) 37 2 7 61 fl_X2_37) (eLoc 1) (eLoc 2)) (pRet 3 86 (eIte 80 84 85 (cCmp0 1 (eLoc 2)) (eLit 1) (eLit 0)))))))
set_option maxRecDepth 100000 in
def MX2_reachFrom_f2 : MP wdX yX2_reachFrom cX2_reachFrom 4 (some .boolean) 7 [.inr 48, .inl 0] := mkM scX2_reachFrom_f2 yX2_reachFrom [.inr 48, .inl 0] bX2_reachFrom_f2 (by decide +kernel) rfl rfl (by decide) (by decide +kernel)
abbrev scX2_reachBehind_f3 : ik_SC := (wdX, cX2_reachBehind, 3, RX2, [(0, 48)], 8, some .boolean)
set_option maxRecDepth 100000 in
def bX2_reachBehind_f3 : SP scX2_reachBehind_f3 := (pSeq (pAst 0 4 (rFld (rLoc 0 48) 31 2 5 59 fl_X2_31) (eLoc 1) (eLoc 2)) (pSeq (pAst 0 4 (rFld (rLoc 0 48) 34 2 6 60 fl_X2_34) (eLoc 1) (eArr 0 24 (rFld (rLoc 0 48) 25 2 3 57 fl_X2_25) (eLoc 2))) (pRet 3 27 (eCall (.invokevirtual 89) (lkV (T := TX2) (N := 14) mf_X2_reachFrom mv_X2_reachFrom ml_X2_89 rfl rfl rfl (by decide) (by decide)) MX2_reachFrom_f2 (aR (rLoc 0 48) (aI (eBin 0 (eLoc 1) (eLit 1)) aNil))))))
set_option maxRecDepth 100000 in
def MX2_reachBehind_f3 : MP wdX yX2_reachBehind cX2_reachBehind 3 (some .boolean) 8 [.inr 48, .inl 0, .inl 0] := mkM scX2_reachBehind_f3 yX2_reachBehind [.inr 48, .inl 0, .inl 0] bX2_reachBehind_f3 (by decide +kernel) rfl rfl (by decide) (by decide +kernel)
abbrev scX2_reachFrom_f3 : ik_SC := (wdX, cX2_reachFrom, 4, RX2, [(0, 48)], 9, some .boolean)
set_option maxRecDepth 100000 in
def bX2_reachFrom_f3 : SP scX2_reachFrom_f3 := (pSeq (pIf 7 9 9 (cNot (cCmp0 1 (eCall (.invokestatic 64) (lkS mf_X2_isBar ms_X2_isBar ml_X2_64 rfl (by decide) (by decide)) MX2_isBar (aI (eLoc 1) aNil)))) (pRet 3 9 (eLit 0)) pSkip) (pSeq (pSet 2 (eCall (.invokevirtual 122) (lkV (T := TX2) (N := 14) mf_X2_candidates mv_X2_candidates ml_X2_122 rfl rfl rfl (by decide) (by decide)) MX2_candidates (aR (rLoc 0 48) (aI (eLoc 1) aNil)))) (pSeq (pIf 25 66 66 (cCmp 2 (eLoc 1) (eBin 1 (eFld (rLoc 0 48) 53 2 9 0 fl_X2_53) (eLit 1))) (pSeq (pSet 3 (eLit 0)) (pWh 35 66 66 (cCmp 2 (eLoc 3) (eFld (rLoc 0 48) 57 2 10 0 fl_X2_57)) (pSeq (pIf 52 60 60 (cAnd 43 (cCmp0 1 (eCall (.invokestatic 125) (lkN mf_X11_bit ms_X11_bit ml_X2_125 rfl (by decide) (by decide)) MX11_bit (aI (eLoc 2) (aI (eLoc 3) aNil)))) (cNot (cCmp0 1 (eCall (.invokevirtual 132) (lkV (T := TX2) (N := 14) mf_X2_reachBehind mv_X2_reachBehind ml_X2_132 rfl rfl rfl (by decide) (by decide)) MX2_reachBehind_f3 (aR (rLoc 0 48) (aI (eLoc 1) (aI (eLoc 3) aNil))))))) (pSet 2 (eBin 3 (eLoc 2) (eBin 5 (eBin 6 (eLit 1) (eLoc 3)) (eLit (-1))))) pSkip) (pInc 3 1)))) pSkip) (pSeq (pAop 4 4 (rFld (rLoc 0 48) 37 2 7 61 fl_X2_37) (eLoc 1) (eLoc 2)) (pRet 3 86 (eIte 80 84 85 (cCmp0 1 (eLoc 2)) (eLit 1) (eLit 0)))))))
set_option maxRecDepth 100000 in
def MX2_reachFrom_f3 : MP wdX yX2_reachFrom cX2_reachFrom 4 (some .boolean) 9 [.inr 48, .inl 0] := mkM scX2_reachFrom_f3 yX2_reachFrom [.inr 48, .inl 0] bX2_reachFrom_f3 (by decide +kernel) rfl rfl (by decide) (by decide +kernel)
abbrev scX2_reachBehind_f4 : ik_SC := (wdX, cX2_reachBehind, 3, RX2, [(0, 48)], 10, some .boolean)
set_option maxRecDepth 100000 in
def bX2_reachBehind_f4 : SP scX2_reachBehind_f4 := (pSeq (pAst 0 4 (rFld (rLoc 0 48) 31 2 5 59 fl_X2_31) (eLoc 1) (eLoc 2)) (pSeq (pAst 0 4 (rFld (rLoc 0 48) 34 2 6 60 fl_X2_34) (eLoc 1) (eArr 0 24 (rFld (rLoc 0 48) 25 2 3 57 fl_X2_25) (eLoc 2))) (pRet 3 27 (eCall (.invokevirtual 89) (lkV (T := TX2) (N := 14) mf_X2_reachFrom mv_X2_reachFrom ml_X2_89 rfl rfl rfl (by decide) (by decide)) MX2_reachFrom_f3 (aR (rLoc 0 48) (aI (eBin 0 (eLoc 1) (eLit 1)) aNil))))))
set_option maxRecDepth 100000 in
def MX2_reachBehind_f4 : MP wdX yX2_reachBehind cX2_reachBehind 3 (some .boolean) 10 [.inr 48, .inl 0, .inl 0] := mkM scX2_reachBehind_f4 yX2_reachBehind [.inr 48, .inl 0, .inl 0] bX2_reachBehind_f4 (by decide +kernel) rfl rfl (by decide) (by decide +kernel)
abbrev scX2_reachFrom_f4 : ik_SC := (wdX, cX2_reachFrom, 4, RX2, [(0, 48)], 11, some .boolean)
set_option maxRecDepth 100000 in
def bX2_reachFrom_f4 : SP scX2_reachFrom_f4 := (pSeq (pIf 7 9 9 (cNot (cCmp0 1 (eCall (.invokestatic 64) (lkS mf_X2_isBar ms_X2_isBar ml_X2_64 rfl (by decide) (by decide)) MX2_isBar (aI (eLoc 1) aNil)))) (pRet 3 9 (eLit 0)) pSkip) (pSeq (pSet 2 (eCall (.invokevirtual 122) (lkV (T := TX2) (N := 14) mf_X2_candidates mv_X2_candidates ml_X2_122 rfl rfl rfl (by decide) (by decide)) MX2_candidates (aR (rLoc 0 48) (aI (eLoc 1) aNil)))) (pSeq (pIf 25 66 66 (cCmp 2 (eLoc 1) (eBin 1 (eFld (rLoc 0 48) 53 2 9 0 fl_X2_53) (eLit 1))) (pSeq (pSet 3 (eLit 0)) (pWh 35 66 66 (cCmp 2 (eLoc 3) (eFld (rLoc 0 48) 57 2 10 0 fl_X2_57)) (pSeq (pIf 52 60 60 (cAnd 43 (cCmp0 1 (eCall (.invokestatic 125) (lkN mf_X11_bit ms_X11_bit ml_X2_125 rfl (by decide) (by decide)) MX11_bit (aI (eLoc 2) (aI (eLoc 3) aNil)))) (cNot (cCmp0 1 (eCall (.invokevirtual 132) (lkV (T := TX2) (N := 14) mf_X2_reachBehind mv_X2_reachBehind ml_X2_132 rfl rfl rfl (by decide) (by decide)) MX2_reachBehind_f4 (aR (rLoc 0 48) (aI (eLoc 1) (aI (eLoc 3) aNil))))))) (pSet 2 (eBin 3 (eLoc 2) (eBin 5 (eBin 6 (eLit 1) (eLoc 3)) (eLit (-1))))) pSkip) (pInc 3 1)))) pSkip) (pSeq (pAop 4 4 (rFld (rLoc 0 48) 37 2 7 61 fl_X2_37) (eLoc 1) (eLoc 2)) (pRet 3 86 (eIte 80 84 85 (cCmp0 1 (eLoc 2)) (eLit 1) (eLit 0)))))))
set_option maxRecDepth 100000 in
def MX2_reachFrom_f4 : MP wdX yX2_reachFrom cX2_reachFrom 4 (some .boolean) 11 [.inr 48, .inl 0] := mkM scX2_reachFrom_f4 yX2_reachFrom [.inr 48, .inl 0] bX2_reachFrom_f4 (by decide +kernel) rfl rfl (by decide) (by decide +kernel)
abbrev scX2_fewest : ik_SC := (wdX, cX2_fewest, 3, RX2, [(0, 48)], 12, some .int)
set_option maxRecDepth 100000 in
def bX2_fewest : SP scX2_fewest := (pSeq (pSeq (pSet 1 (eLit 0)) (pWh 7 20 20 (cCmp 2 (eLoc 1) (eLit 4)) (pSeq (pAst 0 4 (rFld (rLoc 0 48) 37 2 7 61 fl_X2_37) (eLoc 1) (eLit 0)) (pInc 1 1)))) (pSeq (pIf 35 37 37 (cOr 27 (cNot (cCmp0 1 (eCall (.invokevirtual 82) (lkV (T := TX2) (N := 14) mf_X2_hopeful mv_X2_hopeful ml_X2_82 rfl rfl rfl (by decide) (by decide)) MX2_hopeful (aR (rLoc 0 48) aNil)))) (cNot (cCmp0 1 (eCall (.invokevirtual 89) (lkV (T := TX2) (N := 14) mf_X2_reachFrom mv_X2_reachFrom ml_X2_89 rfl rfl rfl (by decide) (by decide)) MX2_reachFrom_f4 (aR (rLoc 0 48) (aI (eLit 0) aNil)))))) (pRet 0 37 (eLit 0)) pSkip) (pSeq (pSet 1 (eLit 24)) (pSeq (pSeq (pSet 2 (eLit 0)) (pWh 55 75 75 (cAnd 50 (cCmp 2 (eLoc 2) (eFld (rLoc 0 48) 53 2 9 0 fl_X2_53)) (cCmp 2 (eLoc 2) (eLit 4))) (pSeq (pSet 1 (eCall (.invokestatic 50) (lkS mf_J9_min_7cf53 ms_J9_min_7cf53 ml_X2_50 rfl (by decide) (by decide)) MJ9_min_7cf53 (aI (eLoc 1) (aI (eCall (.invokestatic 92) (lkS mf_J6_bitCount_0f7a4 ms_J6_bitCount_0f7a4 ml_X2_92 rfl (by decide) (by decide)) MJ6_bitCount_0f7a4 (aI (eArr 0 4 (rFld (rLoc 0 48) 37 2 7 61 fl_X2_37) (eLoc 2)) aNil)) aNil)))) (pInc 2 1)))) (pRet 0 77 (eLoc 1))))))
set_option maxRecDepth 100000 in
def MX2_fewest : MP wdX yX2_fewest cX2_fewest 3 (some .int) 12 [.inr 48] := mkM scX2_fewest yX2_fewest [.inr 48] bX2_fewest (by decide +kernel) rfl rfl (by decide) (by decide +kernel)
abbrev scX11_keeps : ik_SC := (wdX, cX11_keeps, 3, RX11, [(0, 0)], 13, some .boolean)
set_option maxRecDepth 100000 in
def bX11_keeps : SP scX11_keeps := (pSeq (pDo (.invokevirtual 415) (lkV (T := TX11) (N := 15) mf_X11_fit mv_X11_fit ml_X11_415 rfl rfl rfl (by decide) (by decide)) MX11_fit (aR (rLoc 0 0) (aI (eLit 0) (aI (eLit 0) (aI (eLoc 2) aNil))))) (pRet 3 24 (eIte 18 22 23 (cCmp 3 (eCall (.invokevirtual 424) (lkV (T := TX2) (N := 14) mf_X2_fewest mv_X2_fewest ml_X11_424 rfl rfl rfl (by decide) (by decide)) MX2_fewest (aR (rFld (rLoc 0 0) 68 11 8 48 fl_X11_68) aNil)) (eLoc 1)) (eLit 1) (eLit 0))))
set_option maxRecDepth 100000 in
def MX11_keeps : MP wdX yX11_keeps cX11_keeps 3 (some .boolean) 13 [.inr 0, .inl 0, .inl 0] := mkM scX11_keeps yX11_keeps [.inr 0, .inl 0, .inl 0] bX11_keeps (by decide +kernel) rfl rfl (by decide) (by decide +kernel)
abbrev scX11_kept : ik_SC := (wdX, cX11_kept, 6, RX11, [(0, 0)], 30, some .int)
set_option maxRecDepth 100000 in
def bX11_kept : SP scX11_kept := (pSeq (pIf 20 22 22 (cOr 10 (cCmp0 0 (eCall (.invokevirtual 136) (lkV (T := TX0) (N := 12) mf_X0_count mv_X0_count ml_X11_136 rfl rfl rfl (by decide) (by decide)) MX0_count (aR (rFld (rLoc 0 0) 33 11 3 15 fl_X11_33) aNil))) (cNot (cCmp0 1 (eCall (.invokestatic 82) (lkS mf_X11_within ms_X11_within ml_X11_82 rfl (by decide) (by decide)) MX11_within (aI (eLoc 1) (aI (eLit 1) (aI (eLit 24) aNil))))))) (pRet 0 22 (eLit (-1))) pSkip) (pSeq (pDo (.invokevirtual 225) (lkV (T := TX11) (N := 15) mf_X11_prepare mv_X11_prepare ml_X11_225 rfl rfl rfl (by decide) (by decide)) MX11_prepare (aR (rLoc 0 0) aNil)) (pSeq (pIf 37 39 39 (cNot (cCmp0 1 (eCall (.invokevirtual 228) (lkV (T := TX11) (N := 15) mf_X11_keeps mv_X11_keeps ml_X11_228 rfl rfl rfl (by decide) (by decide)) MX11_keeps (aR (rLoc 0 0) (aI (eLoc 1) (aI (eLit 200) aNil)))))) (pRet 0 39 (eLit (-1))) pSkip) (pSeq (pSet 2 (eLit 0)) (pSeq (pSet 3 (eLit 200)) (pSeq (pSeq (pSet 4 (eLit 0)) (pWh 60 94 94 (cAnd 55 (cCmp 2 (eLoc 4) (eLit 10)) (cCmp 2 (eLoc 2) (eLoc 3))) (pSeq (pSeq (pSet 5 (eBin 9 (eBin 0 (eLoc 2) (eLoc 3)) (eLit 2))) (pIf 77 83 88 (cCmp0 1 (eCall (.invokevirtual 228) (lkV (T := TX11) (N := 15) mf_X11_keeps mv_X11_keeps ml_X11_228 rfl rfl rfl (by decide) (by decide)) MX11_keeps (aR (rLoc 0 0) (aI (eLoc 1) (aI (eLoc 5) aNil))))) (pSet 3 (eLoc 5)) (pSet 2 (eBin 0 (eLoc 5) (eLit 1))))) (pInc 4 1)))) (pRet 0 96 (eLoc 3))))))))
set_option maxRecDepth 100000 in
def MX11_kept : MP wdX yX11_kept cX11_kept 6 (some .int) 30 [.inr 0, .inl 0] := mkM scX11_kept yX11_kept [.inr 0, .inl 0] bX11_kept (by decide +kernel) rfl rfl (by decide) (by decide +kernel)
abbrev scX2_likeliest : ik_SC := (wdX, cX2_likeliest, 4, RX2, [(0, 48)], 2, some .int)
set_option maxRecDepth 100000 in
def bX2_likeliest : SP scX2_likeliest := (pSeq (pSet 2 (eLit 0)) (pSeq (pSeq (pSet 3 (eLit 1)) (pWh 10 34 34 (cCmp 2 (eLoc 3) (eLit 24)) (pSeq (pIf 26 28 28 (cCmpL 4 (lCall (.invokevirtual 105) (lkV (T := TX2) (N := 14) mf_X2_odds mv_X2_odds ml_X2_105 rfl rfl rfl (by decide) (by decide)) MX2_odds (aR (rLoc 0 48) (aI (eLoc 1) (aI (eLoc 3) aNil)))) (lCall (.invokevirtual 105) (lkV (T := TX2) (N := 14) mf_X2_odds mv_X2_odds ml_X2_105 rfl rfl rfl (by decide) (by decide)) MX2_odds (aR (rLoc 0 48) (aI (eLoc 1) (aI (eLoc 2) aNil))))) (pSet 2 (eLoc 3)) pSkip) (pInc 3 1)))) (pRet 0 36 (eLoc 2))))
set_option maxRecDepth 100000 in
def MX2_likeliest : MP wdX yX2_likeliest cX2_likeliest 4 (some .int) 2 [.inr 48, .inl 0] := mkM scX2_likeliest yX2_likeliest [.inr 48, .inl 0] bX2_likeliest (by decide +kernel) rfl rfl (by decide) (by decide +kernel)
abbrev scX6_oneSort : ik_SC := (wdX, cX6_oneSort, 4, RX6, [(0, 6)], 1, some .int)
set_option maxRecDepth 100000 in
def bX6_oneSort : SP scX6_oneSort := (pSeq (pSet 2 (eLit (-1))) (pSeq (pSeq (pSet 3 (eLit 0)) (pWh 18 56 56 (cAnd 12 (cCmp 2 (eLoc 3) (eFld (rLoc 0 6) 36 6 6 0 fl_X6_36)) (cCmp 2 (eLoc 3) (eLit 24))) (pSeq (pIf 26 50 50 (cCmp0 1 (eCall (.invokestatic 90) (lkN mf_X11_bit ms_X11_bit ml_X6_90 rfl (by decide) (by decide)) MX11_bit (aI (eLoc 1) (aI (eLoc 3) aNil)))) (pSeq (pIf 41 43 43 (cAnd 31 (cCmp 1 (eLoc 2) (eLit (-1))) (cCmp 1 (eLoc 2) (eArr 0 24 (rFld (rLoc 0 6) 20 6 1 10 fl_X6_20) (eLoc 3)))) (pRet 0 43 (eLit (-1))) pSkip) (pSet 2 (eArr 0 24 (rFld (rLoc 0 6) 20 6 1 10 fl_X6_20) (eLoc 3)))) pSkip) (pInc 3 1)))) (pRet 0 58 (eLoc 2))))
set_option maxRecDepth 100000 in
def MX6_oneSort : MP wdX yX6_oneSort cX6_oneSort 4 (some .int) 1 [.inr 6, .inl 0] := mkM scX6_oneSort yX6_oneSort [.inr 6, .inl 0] bX6_oneSort (by decide +kernel) rfl rfl (by decide) (by decide +kernel)
abbrev scX11_said : ik_SC := (wdX, cX11_said, 7, RX11, [(0, 0)], 31, some .int)
set_option maxRecDepth 100000 in
def bX11_said : SP scX11_said := (pSeq (pIf 31 33 33 (cOr 22 (cOr 11 (cNot (cCmp0 1 (eCall (.invokevirtual 152) (lkV (T := TX0) (N := 12) mf_X0_has mv_X0_has ml_X11_152 rfl rfl rfl (by decide) (by decide)) MX0_has (aR (rFld (rLoc 0 0) 33 11 3 15 fl_X11_33) (aI (eLoc 1) aNil))))) (cNot (cCmp0 1 (eCall (.invokestatic 82) (lkS mf_X11_within ms_X11_within ml_X11_82 rfl (by decide) (by decide)) MX11_within (aI (eLoc 2) (aI (eLit 1) (aI (eLit 1000) aNil))))))) (cNot (cCmp0 1 (eCall (.invokestatic 82) (lkS mf_X11_within ms_X11_within ml_X11_82 rfl (by decide) (by decide)) MX11_within (aI (eLoc 3) (aI (eLit 0) (aI (eLit 1) aNil))))))) (pRet 0 33 (eLit (-1))) pSkip) (pSeq (pDo (.invokevirtual 209) (lkV (T := TX11) (N := 15) mf_X11_weigh mv_X11_weigh ml_X11_209 rfl rfl rfl (by decide) (by decide)) MX11_weigh (aR (rLoc 0 0) aNil)) (pSeq (pSet 4 (eCall (.invokevirtual 212) (lkV (T := TX2) (N := 14) mf_X2_may mv_X2_may ml_X11_212 rfl rfl rfl (by decide) (by decide)) MX2_may (aR (rFld (rLoc 0 0) 68 11 8 48 fl_X11_68) (aI (eLoc 1) aNil)))) (pSeq (pIf 52 62 62 (cCmp0 0 (eLoc 4)) (pRet 0 62 (eIte 56 60 61 (cCmp0 0 (eLoc 3)) (eLit 0) (eLit (-1)))) pSkip) (pSeq (pSet 5 (eCall (.invokevirtual 232) (lkV (T := TX2) (N := 14) mf_X2_likeliest mv_X2_likeliest ml_X11_232 rfl rfl rfl (by decide) (by decide)) MX2_likeliest (aR (rFld (rLoc 0 0) 68 11 8 48 fl_X11_68) (aI (eLoc 1) aNil)))) (pSeq (pIf 81 92 92 (cCmp 0 (eCall (.invokestatic 235) (lkS mf_J6_bitCount_0f7a4 ms_J6_bitCount_0f7a4 ml_X11_235 rfl (by decide) (by decide)) MJ6_bitCount_0f7a4 (aI (eLoc 4) aNil)) (eLit 1)) (pRet 0 92 (eIte 85 89 91 (cCmp0 0 (eLoc 3)) (eLit 1) (eLoc 5))) pSkip) (pSeq (pIf 120 131 131 (cCmpL 3 (lBin 1 (lCall (.invokevirtual 221) (lkV (T := TX2) (N := 14) mf_X2_odds mv_X2_odds ml_X11_221 rfl rfl rfl (by decide) (by decide)) MX2_odds (aR (rFld (rLoc 0 0) 68 11 8 48 fl_X11_68) (aI (eLoc 1) (aI (eLoc 5) aNil)))) (lLdc 240 1000 kc_X11_240)) (lBin 1 (lCall (.invokevirtual 217) (lkV (T := TX2) (N := 14) mf_X2_all mv_X2_all ml_X11_217 rfl rfl rfl (by decide) (by decide)) MX2_all (aR (rFld (rLoc 0 0) 68 11 8 48 fl_X11_68) aNil)) (lI2l (eLoc 2)))) (pRet 0 131 (eIte 124 128 130 (cCmp0 0 (eLoc 3)) (eLit 2) (eLoc 5))) pSkip) (pSeq (pSet 6 (eCall (.invokevirtual 242) (lkV (T := TX6) (N := 7) mf_X6_oneSort mv_X6_oneSort ml_X11_242 rfl rfl rfl (by decide) (by decide)) MX6_oneSort (aR (rFld (rLoc 0 0) 26 11 2 6 fl_X11_26) (aI (eLoc 4) aNil)))) (pSeq (pIf 148 159 159 (cCmp 1 (eLoc 6) (eLit (-1))) (pRet 0 159 (eIte 152 156 158 (cCmp0 0 (eLoc 3)) (eLit 3) (eLoc 6))) pSkip) (pRet 0 169 (eIte 163 167 168 (cCmp0 0 (eLoc 3)) (eLit 4) (eLit (-1)))))))))))))
set_option maxRecDepth 100000 in
def MX11_said : MP wdX yX11_said cX11_said 7 (some .int) 31 [.inr 0, .inl 0, .inl 0, .inl 0] := mkM scX11_said yX11_said [.inr 0, .inl 0, .inl 0, .inl 0] bX11_said (by decide +kernel) rfl rfl (by decide) (by decide +kernel)
abbrev scX11_isDay : ik_SC := (wdX, cX11_isDay, 1, RX11, [], 1, some .boolean)
set_option maxRecDepth 100000 in
def bX11_isDay : SP scX11_isDay := (pRet 3 9 (eCall (.invokestatic 82) (lkS mf_X11_within ms_X11_within ml_X11_82 rfl (by decide) (by decide)) MX11_within (aI (eLoc 0) (aI (eLit 0) (aI (eLit 9999) aNil)))))
set_option maxRecDepth 100000 in
def MX11_isDay : MP wdX yX11_isDay cX11_isDay 1 (some .boolean) 1 [.inl 0] := mkM scX11_isDay yX11_isDay [.inl 0] bX11_isDay (by decide +kernel) rfl rfl (by decide) (by decide +kernel)
abbrev scX1_full : ik_SC := (wdX, cX1_full, 1, RX1, [(0, 43)], 0, some .boolean)
set_option maxRecDepth 100000 in
def bX1_full : SP scX1_full := (pRet 3 15 (eIte 9 13 14 (cCmp 3 (eFld (rLoc 0 43) 24 1 4 0 fl_X1_24) (eLit 8)) (eLit 1) (eLit 0)))
set_option maxRecDepth 100000 in
def MX1_full : MP wdX yX1_full cX1_full 1 (some .boolean) 0 [.inr 43] := mkM scX1_full yX1_full [.inr 43] bX1_full (by decide +kernel) rfl rfl (by decide) (by decide +kernel)
abbrev scX8_allTokens : ik_SC := (wdX, cX8_allTokens, 2, RX8, [(0, 25)], 2, some .int)
set_option maxRecDepth 100000 in
def bX8_allTokens : SP scX8_allTokens := (pRet 0 10 (eBin 1 (eBin 6 (eLit 1) (eCall (.invokevirtual 104) (lkV (T := TX8) (N := 11) mf_X8_tokens mv_X8_tokens ml_X8_104 rfl rfl rfl (by decide) (by decide)) MX8_tokens (aR (rLoc 0 25) (aI (eLoc 1) aNil)))) (eLit 1)))
set_option maxRecDepth 100000 in
def MX8_allTokens : MP wdX yX8_allTokens cX8_allTokens 2 (some .int) 2 [.inr 25, .inl 0] := mkM scX8_allTokens yX8_allTokens [.inr 25, .inl 0] bX8_allTokens (by decide +kernel) rfl rfl (by decide) (by decide +kernel)
abbrev scX1_add : ik_SC := (wdX, cX1_add, 5, RX1, [(0, 43)], 1, some .int)
set_option maxRecDepth 100000 in
def bX1_add : SP scX1_add := (pSeq (pIf 14 16 16 (cOr 7 (cCmp0 1 (eCall (.invokevirtual 28) (lkV (T := TX1) (N := 5) mf_X1_full mv_X1_full ml_X1_28 rfl rfl rfl (by decide) (by decide)) MX1_full (aR (rLoc 0 43) aNil))) (cCmp0 2 (eFld (rLoc 0 43) 24 1 4 0 fl_X1_24))) (pRet 0 16 (eLit (-1))) pSkip) (pSeq (pAst 0 8 (rFld (rLoc 0 43) 11 1 0 44 fl_X1_11) (eFld (rLoc 0 43) 24 1 4 0 fl_X1_24) (eLoc 1)) (pSeq (pAst 0 8 (rFld (rLoc 0 43) 15 1 1 45 fl_X1_15) (eFld (rLoc 0 43) 24 1 4 0 fl_X1_24) (eLoc 2)) (pSeq (pAst 0 8 (rFld (rLoc 0 43) 18 1 2 46 fl_X1_18) (eFld (rLoc 0 43) 24 1 4 0 fl_X1_24) (eLoc 3)) (pSeq (pAst 0 8 (rFld (rLoc 0 43) 21 1 3 47 fl_X1_21) (eFld (rLoc 0 43) 24 1 4 0 fl_X1_24) (eLoc 4)) (pSeq (pPutOp (rLoc 0 43) 24 1 4 0 fw_X1_24 (eLit 1)) (pRet 0 74 (eBin 1 (eFld (rLoc 0 43) 24 1 4 0 fl_X1_24) (eLit 1)))))))))
set_option maxRecDepth 100000 in
def MX1_add : MP wdX yX1_add cX1_add 5 (some .int) 1 [.inr 43, .inl 0, .inl 0, .inl 0, .inl 0] := mkM scX1_add yX1_add [.inr 43, .inl 0, .inl 0, .inl 0, .inl 0] bX1_add (by decide +kernel) rfl rfl (by decide) (by decide +kernel)
abbrev scX11_copy : ik_SC := (wdX, cX11_copy, 5, RX11, [(0, 0)], 3, some .int)
set_option maxRecDepth 100000 in
def bX11_copy : SP scX11_copy := (pSeq (pIf 35 37 37 (cOr 25 (cOr 18 (cOr 11 (cNot (cCmp0 1 (eCall (.invokevirtual 198) (lkV (T := TX8) (N := 11) mf_X8_has mv_X8_has ml_X11_198 rfl rfl rfl (by decide) (by decide)) MX8_has (aR (rFld (rLoc 0 0) 40 11 4 25 fl_X11_40) (aI (eLoc 1) aNil))))) (cNot (cCmp0 1 (eCall (.invokestatic 245) (lkS mf_X11_isDay ms_X11_isDay ml_X11_245 rfl (by decide) (by decide)) MX11_isDay (aI (eLoc 2) aNil))))) (cNot (cCmp0 1 (eCall (.invokestatic 165) (lkS mf_X11_isHouse ms_X11_isHouse ml_X11_165 rfl (by decide) (by decide)) MX11_isHouse (aI (eLoc 3) aNil))))) (cCmp0 1 (eCall (.invokevirtual 248) (lkV (T := TX1) (N := 5) mf_X1_full mv_X1_full ml_X11_248 rfl rfl rfl (by decide) (by decide)) MX1_full (aR (rFld (rLoc 0 0) 61 11 7 43 fl_X11_61) aNil)))) (pRet 0 37 (eLit (-1))) pSkip) (pSeq (pIf 54 56 56 (cNot (cCmp0 1 (eCall (.invokestatic 82) (lkS mf_X11_within ms_X11_within ml_X11_82 rfl (by decide) (by decide)) MX11_within (aI (eLoc 4) (aI (eLit 0) (aI (eCall (.invokevirtual 249) (lkV (T := TX8) (N := 11) mf_X8_allTokens mv_X8_allTokens ml_X11_249 rfl rfl rfl (by decide) (by decide)) MX8_allTokens (aR (rFld (rLoc 0 0) 40 11 4 25 fl_X11_40) (aI (eLoc 1) aNil))) aNil)))))) (pRet 0 56 (eLit (-1))) pSkip) (pRet 0 69 (eCall (.invokevirtual 252) (lkV (T := TX1) (N := 5) mf_X1_add mv_X1_add ml_X11_252 rfl rfl rfl (by decide) (by decide)) MX1_add (aR (rFld (rLoc 0 0) 61 11 7 43 fl_X11_61) (aI (eLoc 1) (aI (eLoc 2) (aI (eLoc 3) (aI (eLoc 4) aNil)))))))))
set_option maxRecDepth 100000 in
def MX11_copy : MP wdX yX11_copy cX11_copy 5 (some .int) 3 [.inr 0, .inl 0, .inl 0, .inl 0, .inl 0] := mkM scX11_copy yX11_copy [.inr 0, .inl 0, .inl 0, .inl 0, .inl 0] bX11_copy (by decide +kernel) rfl rfl (by decide) (by decide +kernel)
abbrev scX1_openBy : ik_SC := (wdX, cX1_openBy, 6, RX1, [(0, 43)], 0, some .int)
set_option maxRecDepth 100000 in
def bX1_openBy : SP scX1_openBy := (pSeq (pSet 4 (eLit 0)) (pSeq (pSeq (pSet 5 (eLit 0)) (pWh 22 66 66 (cAnd 15 (cCmp 2 (eLoc 5) (eFld (rLoc 0 43) 24 1 4 0 fl_X1_24)) (cCmp 2 (eLoc 5) (eLit 8))) (pSeq (pIf 44 60 60 (cAnd 33 (cCmp 0 (eArr 0 8 (rFld (rLoc 0 43) 11 1 0 44 fl_X1_11) (eLoc 5)) (eLoc 1)) (cCmp 5 (eArr 0 8 (rFld (rLoc 0 43) 15 1 1 45 fl_X1_15) (eLoc 5)) (eLoc 2))) (pSet 4 (eBin 4 (eLoc 4) (eBin 3 (eLoc 3) (eBin 5 (eArr 0 8 (rFld (rLoc 0 43) 21 1 3 47 fl_X1_21) (eLoc 5)) (eLit (-1)))))) pSkip) (pInc 5 1)))) (pRet 0 69 (eLoc 4))))
set_option maxRecDepth 100000 in
def MX1_openBy : MP wdX yX1_openBy cX1_openBy 6 (some .int) 0 [.inr 43, .inl 0, .inl 0, .inl 0] := mkM scX1_openBy yX1_openBy [.inr 43, .inl 0, .inl 0, .inl 0] bX1_openBy (by decide +kernel) rfl rfl (by decide) (by decide +kernel)
abbrev scX11_open : ik_SC := (wdX, cX11_open, 3, RX11, [(0, 0)], 3, some .int)
set_option maxRecDepth 100000 in
def bX11_open : SP scX11_open := (pRet 0 40 (eIte 18 38 39 (cAnd 11 (cCmp0 1 (eCall (.invokevirtual 198) (lkV (T := TX8) (N := 11) mf_X8_has mv_X8_has ml_X11_198 rfl rfl rfl (by decide) (by decide)) MX8_has (aR (rFld (rLoc 0 0) 40 11 4 25 fl_X11_40) (aI (eLoc 1) aNil)))) (cCmp0 1 (eCall (.invokestatic 245) (lkS mf_X11_isDay ms_X11_isDay ml_X11_245 rfl (by decide) (by decide)) MX11_isDay (aI (eLoc 2) aNil)))) (eCall (.invokevirtual 253) (lkV (T := TX1) (N := 5) mf_X1_openBy mv_X1_openBy ml_X11_253 rfl rfl rfl (by decide) (by decide)) MX1_openBy (aR (rFld (rLoc 0 0) 61 11 7 43 fl_X11_61) (aI (eLoc 1) (aI (eLoc 2) (aI (eCall (.invokevirtual 249) (lkV (T := TX8) (N := 11) mf_X8_allTokens mv_X8_allTokens ml_X11_249 rfl rfl rfl (by decide) (by decide)) MX8_allTokens (aR (rFld (rLoc 0 0) 40 11 4 25 fl_X11_40) (aI (eLoc 1) aNil))) aNil))))) (eLit (-1))))
set_option maxRecDepth 100000 in
def MX11_open : MP wdX yX11_open cX11_open 3 (some .int) 3 [.inr 0, .inl 0, .inl 0] := mkM scX11_open yX11_open [.inr 0, .inl 0, .inl 0] bX11_open (by decide +kernel) rfl rfl (by decide) (by decide +kernel)
abbrev scX1_has : ik_SC := (wdX, cX1_has, 2, RX1, [(0, 43)], 0, some .boolean)
set_option maxRecDepth 100000 in
def bX1_has : SP scX1_has := (pRet 3 24 (eIte 18 22 23 (cAnd 12 (cAnd 4 (cCmp0 3 (eLoc 1)) (cCmp 2 (eLoc 1) (eFld (rLoc 0 43) 24 1 4 0 fl_X1_24))) (cCmp 2 (eLoc 1) (eLit 8))) (eLit 1) (eLit 0)))
set_option maxRecDepth 100000 in
def MX1_has : MP wdX yX1_has cX1_has 2 (some .boolean) 0 [.inr 43, .inl 0] := mkM scX1_has yX1_has [.inr 43, .inl 0] bX1_has (by decide +kernel) rfl rfl (by decide) (by decide +kernel)
abbrev scX1_sheet : ik_SC := (wdX, cX1_sheet, 2, RX1, [(0, 43)], 1, some .int)
set_option maxRecDepth 100000 in
def bX1_sheet : SP scX1_sheet := (pRet 0 19 (eIte 8 17 18 (cCmp0 1 (eCall (.invokevirtual 32) (lkV (T := TX1) (N := 5) mf_X1_has mv_X1_has ml_X1_32 rfl rfl rfl (by decide) (by decide)) MX1_has (aR (rLoc 0 43) (aI (eLoc 1) aNil)))) (eArr 0 8 (rFld (rLoc 0 43) 11 1 0 44 fl_X1_11) (eLoc 1)) (eLit (-1))))
set_option maxRecDepth 100000 in
def MX1_sheet : MP wdX yX1_sheet cX1_sheet 2 (some .int) 1 [.inr 43, .inl 0] := mkM scX1_sheet yX1_sheet [.inr 43, .inl 0] bX1_sheet (by decide +kernel) rfl rfl (by decide) (by decide +kernel)
abbrev scX1_covered : ik_SC := (wdX, cX1_covered, 2, RX1, [(0, 43)], 1, some .int)
set_option maxRecDepth 100000 in
def bX1_covered : SP scX1_covered := (pRet 0 19 (eIte 8 17 18 (cCmp0 1 (eCall (.invokevirtual 32) (lkV (T := TX1) (N := 5) mf_X1_has mv_X1_has ml_X1_32 rfl rfl rfl (by decide) (by decide)) MX1_has (aR (rLoc 0 43) (aI (eLoc 1) aNil)))) (eArr 0 8 (rFld (rLoc 0 43) 21 1 3 47 fl_X1_21) (eLoc 1)) (eLit 0)))
set_option maxRecDepth 100000 in
def MX1_covered : MP wdX yX1_covered cX1_covered 2 (some .int) 1 [.inr 43, .inl 0] := mkM scX1_covered yX1_covered [.inr 43, .inl 0] bX1_covered (by decide +kernel) rfl rfl (by decide) (by decide +kernel)
abbrev scX1_day : ik_SC := (wdX, cX1_day, 2, RX1, [(0, 43)], 1, some .int)
set_option maxRecDepth 100000 in
def bX1_day : SP scX1_day := (pRet 0 19 (eIte 8 17 18 (cCmp0 1 (eCall (.invokevirtual 32) (lkV (T := TX1) (N := 5) mf_X1_has mv_X1_has ml_X1_32 rfl rfl rfl (by decide) (by decide)) MX1_has (aR (rLoc 0 43) (aI (eLoc 1) aNil)))) (eArr 0 8 (rFld (rLoc 0 43) 15 1 1 45 fl_X1_15) (eLoc 1)) (eLit (-1))))
set_option maxRecDepth 100000 in
def MX1_day : MP wdX yX1_day cX1_day 2 (some .int) 1 [.inr 43, .inl 0] := mkM scX1_day yX1_day [.inr 43, .inl 0] bX1_day (by decide +kernel) rfl rfl (by decide) (by decide +kernel)
abbrev scX11_needless : ik_SC := (wdX, cX11_needless, 3, RX11, [(0, 0)], 3, some .int)
set_option maxRecDepth 100000 in
def bX11_needless : SP scX11_needless := (pSeq (pIf 11 13 13 (cNot (cCmp0 1 (eCall (.invokevirtual 256) (lkV (T := TX1) (N := 5) mf_X1_has mv_X1_has ml_X11_256 rfl rfl rfl (by decide) (by decide)) MX1_has (aR (rFld (rLoc 0 0) 61 11 7 43 fl_X11_61) (aI (eLoc 1) aNil))))) (pRet 0 13 (eLit (-1))) pSkip) (pSeq (pSet 2 (eCall (.invokevirtual 257) (lkV (T := TX1) (N := 5) mf_X1_sheet mv_X1_sheet ml_X11_257 rfl rfl rfl (by decide) (by decide)) MX1_sheet (aR (rFld (rLoc 0 0) 61 11 7 43 fl_X11_61) (aI (eLoc 1) aNil)))) (pRet 0 58 (eBin 3 (eCall (.invokevirtual 260) (lkV (T := TX1) (N := 5) mf_X1_covered mv_X1_covered ml_X11_260 rfl rfl rfl (by decide) (by decide)) MX1_covered (aR (rFld (rLoc 0 0) 61 11 7 43 fl_X11_61) (aI (eLoc 1) aNil))) (eCall (.invokevirtual 253) (lkV (T := TX1) (N := 5) mf_X1_openBy mv_X1_openBy ml_X11_253 rfl rfl rfl (by decide) (by decide)) MX1_openBy (aR (rFld (rLoc 0 0) 61 11 7 43 fl_X11_61) (aI (eLoc 2) (aI (eBin 1 (eCall (.invokevirtual 263) (lkV (T := TX1) (N := 5) mf_X1_day mv_X1_day ml_X11_263 rfl rfl rfl (by decide) (by decide)) MX1_day (aR (rFld (rLoc 0 0) 61 11 7 43 fl_X11_61) (aI (eLoc 1) aNil))) (eLit 1)) (aI (eCall (.invokevirtual 249) (lkV (T := TX8) (N := 11) mf_X8_allTokens mv_X8_allTokens ml_X11_249 rfl rfl rfl (by decide) (by decide)) MX8_allTokens (aR (rFld (rLoc 0 0) 40 11 4 25 fl_X11_40) (aI (eLoc 2) aNil))) aNil)))))))))
set_option maxRecDepth 100000 in
def MX11_needless : MP wdX yX11_needless cX11_needless 3 (some .int) 3 [.inr 0, .inl 0] := mkM scX11_needless yX11_needless [.inr 0, .inl 0] bX11_needless (by decide +kernel) rfl rfl (by decide) (by decide +kernel)
abbrev scX1_firstOpen : ik_SC := (wdX, cX1_firstOpen, 5, RX1, [(0, 43)], 1, some .int)
set_option maxRecDepth 100000 in
def bX1_firstOpen : SP scX1_firstOpen := (pSeq (pSet 3 (eLit (-1))) (pSeq (pSeq (pSet 4 (eLit 0)) (pWh 21 76 76 (cAnd 14 (cCmp 2 (eLoc 4) (eFld (rLoc 0 43) 24 1 4 0 fl_X1_24)) (cCmp 2 (eLoc 4) (eLit 8))) (pSeq (pIf 62 70 70 (cAnd 46 (cAnd 32 (cCmp 0 (eArr 0 8 (rFld (rLoc 0 43) 11 1 0 44 fl_X1_11) (eLoc 4)) (eLoc 1)) (cNot (cCmp0 1 (eCall (.invokestatic 36) (lkN mf_X11_bit ms_X11_bit ml_X1_36 rfl (by decide) (by decide)) MX11_bit (aI (eArr 0 8 (rFld (rLoc 0 43) 21 1 3 47 fl_X1_21) (eLoc 4)) (aI (eLoc 2) aNil)))))) (cOr 51 (cCmp 0 (eLoc 3) (eLit (-1))) (cCmp 2 (eArr 0 8 (rFld (rLoc 0 43) 15 1 1 45 fl_X1_15) (eLoc 4)) (eLoc 3)))) (pSet 3 (eArr 0 8 (rFld (rLoc 0 43) 15 1 1 45 fl_X1_15) (eLoc 4))) pSkip) (pInc 4 1)))) (pRet 0 78 (eLoc 3))))
set_option maxRecDepth 100000 in
def MX1_firstOpen : MP wdX yX1_firstOpen cX1_firstOpen 5 (some .int) 1 [.inr 43, .inl 0, .inl 0] := mkM scX1_firstOpen yX1_firstOpen [.inr 43, .inl 0, .inl 0] bX1_firstOpen (by decide +kernel) rfl rfl (by decide) (by decide +kernel)
abbrev scX11_since : ik_SC := (wdX, cX11_since, 3, RX11, [(0, 0)], 2, some .int)
set_option maxRecDepth 100000 in
def bX11_since : SP scX11_since := (pRet 0 43 (eIte 29 41 42 (cAnd 11 (cCmp0 1 (eCall (.invokevirtual 198) (lkV (T := TX8) (N := 11) mf_X8_has mv_X8_has ml_X11_198 rfl rfl rfl (by decide) (by decide)) MX8_has (aR (rFld (rLoc 0 0) 40 11 4 25 fl_X11_40) (aI (eLoc 1) aNil)))) (cCmp0 1 (eCall (.invokestatic 82) (lkS mf_X11_within ms_X11_within ml_X11_82 rfl (by decide) (by decide)) MX11_within (aI (eLoc 2) (aI (eLit 0) (aI (eBin 1 (eCall (.invokevirtual 266) (lkV (T := TX8) (N := 11) mf_X8_tokens mv_X8_tokens ml_X11_266 rfl rfl rfl (by decide) (by decide)) MX8_tokens (aR (rFld (rLoc 0 0) 40 11 4 25 fl_X11_40) (aI (eLoc 1) aNil))) (eLit 1)) aNil)))))) (eCall (.invokevirtual 269) (lkV (T := TX1) (N := 5) mf_X1_firstOpen mv_X1_firstOpen ml_X11_269 rfl rfl rfl (by decide) (by decide)) MX1_firstOpen (aR (rFld (rLoc 0 0) 61 11 7 43 fl_X11_61) (aI (eLoc 1) (aI (eLoc 2) aNil)))) (eLit (-1))))
set_option maxRecDepth 100000 in
def MX11_since : MP wdX yX11_since cX11_since 3 (some .int) 2 [.inr 0, .inl 0, .inl 0] := mkM scX11_since yX11_since [.inr 0, .inl 0, .inl 0] bX11_since (by decide +kernel) rfl rfl (by decide) (by decide +kernel)
abbrev scX11_twice : ik_SC := (wdX, cX11_twice, 3, RX11, [(0, 0)], 2, some .int)
set_option maxRecDepth 100000 in
def bX11_twice : SP scX11_twice := (pSeq (pIf 46 48 48 (cOr 27 (cOr 22 (cOr 11 (cNot (cCmp0 1 (eCall (.invokevirtual 256) (lkV (T := TX1) (N := 5) mf_X1_has mv_X1_has ml_X11_256 rfl rfl rfl (by decide) (by decide)) MX1_has (aR (rFld (rLoc 0 0) 61 11 7 43 fl_X11_61) (aI (eLoc 1) aNil))))) (cNot (cCmp0 1 (eCall (.invokevirtual 256) (lkV (T := TX1) (N := 5) mf_X1_has mv_X1_has ml_X11_256 rfl rfl rfl (by decide) (by decide)) MX1_has (aR (rFld (rLoc 0 0) 61 11 7 43 fl_X11_61) (aI (eLoc 2) aNil)))))) (cCmp 0 (eLoc 1) (eLoc 2))) (cCmp 1 (eCall (.invokevirtual 257) (lkV (T := TX1) (N := 5) mf_X1_sheet mv_X1_sheet ml_X11_257 rfl rfl rfl (by decide) (by decide)) MX1_sheet (aR (rFld (rLoc 0 0) 61 11 7 43 fl_X11_61) (aI (eLoc 1) aNil))) (eCall (.invokevirtual 257) (lkV (T := TX1) (N := 5) mf_X1_sheet mv_X1_sheet ml_X11_257 rfl rfl rfl (by decide) (by decide)) MX1_sheet (aR (rFld (rLoc 0 0) 61 11 7 43 fl_X11_61) (aI (eLoc 2) aNil))))) (pRet 0 48 (eLit (-1))) pSkip) (pRet 0 66 (eBin 3 (eCall (.invokevirtual 260) (lkV (T := TX1) (N := 5) mf_X1_covered mv_X1_covered ml_X11_260 rfl rfl rfl (by decide) (by decide)) MX1_covered (aR (rFld (rLoc 0 0) 61 11 7 43 fl_X11_61) (aI (eLoc 1) aNil))) (eCall (.invokevirtual 260) (lkV (T := TX1) (N := 5) mf_X1_covered mv_X1_covered ml_X11_260 rfl rfl rfl (by decide) (by decide)) MX1_covered (aR (rFld (rLoc 0 0) 61 11 7 43 fl_X11_61) (aI (eLoc 2) aNil))))))
set_option maxRecDepth 100000 in
def MX11_twice : MP wdX yX11_twice cX11_twice 3 (some .int) 2 [.inr 0, .inl 0, .inl 0] := mkM scX11_twice yX11_twice [.inr 0, .inl 0, .inl 0] bX11_twice (by decide +kernel) rfl rfl (by decide) (by decide +kernel)
abbrev scX1_copied : ik_SC := (wdX, cX1_copied, 4, RX1, [(0, 43)], 0, some .boolean)
set_option maxRecDepth 100000 in
def bX1_copied : SP scX1_copied := (pSeq (pSeq (pSet 3 (eLit 0)) (pWh 16 44 44 (cAnd 10 (cCmp 2 (eLoc 3) (eFld (rLoc 0 43) 24 1 4 0 fl_X1_24)) (cCmp 2 (eLoc 3) (eLit 8))) (pSeq (pIf 36 38 38 (cAnd 26 (cCmp 0 (eArr 0 8 (rFld (rLoc 0 43) 11 1 0 44 fl_X1_11) (eLoc 3)) (eLoc 2)) (cCmp 0 (eArr 0 8 (rFld (rLoc 0 43) 18 1 2 46 fl_X1_18) (eLoc 3)) (eLoc 1))) (pRet 3 38 (eLit 1)) pSkip) (pInc 3 1)))) (pRet 3 46 (eLit 0)))
set_option maxRecDepth 100000 in
def MX1_copied : MP wdX yX1_copied cX1_copied 4 (some .boolean) 0 [.inr 43, .inl 0, .inl 0] := mkM scX1_copied yX1_copied [.inr 43, .inl 0, .inl 0] bX1_copied (by decide +kernel) rfl rfl (by decide) (by decide +kernel)
abbrev scX1_coveredBy : ik_SC := (wdX, cX1_coveredBy, 5, RX1, [(0, 43)], 0, some .int)
set_option maxRecDepth 100000 in
def bX1_coveredBy : SP scX1_coveredBy := (pSeq (pSet 3 (eLit 0)) (pSeq (pSeq (pSet 4 (eLit 0)) (pWh 21 59 59 (cAnd 14 (cCmp 2 (eLoc 4) (eFld (rLoc 0 43) 24 1 4 0 fl_X1_24)) (cCmp 2 (eLoc 4) (eLit 8))) (pSeq (pIf 43 53 53 (cAnd 32 (cCmp 0 (eArr 0 8 (rFld (rLoc 0 43) 11 1 0 44 fl_X1_11) (eLoc 4)) (eLoc 2)) (cCmp 0 (eArr 0 8 (rFld (rLoc 0 43) 18 1 2 46 fl_X1_18) (eLoc 4)) (eLoc 1))) (pSet 3 (eBin 4 (eLoc 3) (eArr 0 8 (rFld (rLoc 0 43) 21 1 3 47 fl_X1_21) (eLoc 4)))) pSkip) (pInc 4 1)))) (pRet 0 61 (eLoc 3))))
set_option maxRecDepth 100000 in
def MX1_coveredBy : MP wdX yX1_coveredBy cX1_coveredBy 5 (some .int) 0 [.inr 43, .inl 0, .inl 0] := mkM scX1_coveredBy yX1_coveredBy [.inr 43, .inl 0, .inl 0] bX1_coveredBy (by decide +kernel) rfl rfl (by decide) (by decide +kernel)
abbrev scX1_compare : ik_SC := (wdX, cX1_compare, 7, RX1, [(0, 43)], 1, some .int)
set_option maxRecDepth 100000 in
def bX1_compare : SP scX1_compare := (pSeq (pSet 3 (eLit 0)) (pSeq (pSet 4 (eLit 0)) (pSeq (pSet 5 (eLit 0)) (pSeq (pSeq (pSet 6 (eLit 0)) (pWh 18 110 110 (cCmp 2 (eLoc 6) (eLit 6)) (pSeq (pIf 38 104 104 (cAnd 28 (cCmp0 1 (eCall (.invokevirtual 40) (lkV (T := TX1) (N := 5) mf_X1_copied mv_X1_copied ml_X1_40 rfl rfl rfl (by decide) (by decide)) MX1_copied (aR (rLoc 0 43) (aI (eLoc 1) (aI (eLoc 6) aNil))))) (cCmp0 1 (eCall (.invokevirtual 40) (lkV (T := TX1) (N := 5) mf_X1_copied mv_X1_copied ml_X1_40 rfl rfl rfl (by decide) (by decide)) MX1_copied (aR (rLoc 0 43) (aI (eLoc 2) (aI (eLoc 6) aNil)))))) (pSeq (pSet 3 (eLit 1)) (pSeq (pSet 4 (eIte 65 69 70 (cOr 45 (cCmp0 1 (eLoc 4)) (cCmp0 1 (eBin 3 (eCall (.invokevirtual 43) (lkV (T := TX1) (N := 5) mf_X1_coveredBy mv_X1_coveredBy ml_X1_43 rfl rfl rfl (by decide) (by decide)) MX1_coveredBy (aR (rLoc 0 43) (aI (eLoc 2) (aI (eLoc 6) aNil)))) (eBin 5 (eCall (.invokevirtual 43) (lkV (T := TX1) (N := 5) mf_X1_coveredBy mv_X1_coveredBy ml_X1_43 rfl rfl rfl (by decide) (by decide)) MX1_coveredBy (aR (rLoc 0 43) (aI (eLoc 1) (aI (eLoc 6) aNil)))) (eLit (-1)))))) (eLit 1) (eLit 0))) (pSet 5 (eIte 97 101 102 (cOr 77 (cCmp0 1 (eLoc 5)) (cCmp0 1 (eBin 3 (eCall (.invokevirtual 43) (lkV (T := TX1) (N := 5) mf_X1_coveredBy mv_X1_coveredBy ml_X1_43 rfl rfl rfl (by decide) (by decide)) MX1_coveredBy (aR (rLoc 0 43) (aI (eLoc 1) (aI (eLoc 6) aNil)))) (eBin 5 (eCall (.invokevirtual 43) (lkV (T := TX1) (N := 5) mf_X1_coveredBy mv_X1_coveredBy ml_X1_43 rfl rfl rfl (by decide) (by decide)) MX1_coveredBy (aR (rLoc 0 43) (aI (eLoc 2) (aI (eLoc 6) aNil)))) (eLit (-1)))))) (eLit 1) (eLit 0))))) pSkip) (pInc 6 1)))) (pSeq (pIf 114 116 116 (cNot (cCmp0 1 (eLoc 3))) (pRet 0 116 (eLit (-1))) pSkip) (pRet 0 132 (eIte 126 130 131 (cAnd 121 (cCmp0 1 (eLoc 5)) (cNot (cCmp0 1 (eLoc 4)))) (eLit 1) (eLit 0))))))))
set_option maxRecDepth 100000 in
def MX1_compare : MP wdX yX1_compare cX1_compare 7 (some .int) 1 [.inr 43, .inl 0, .inl 0] := mkM scX1_compare yX1_compare [.inr 43, .inl 0, .inl 0] bX1_compare (by decide +kernel) rfl rfl (by decide) (by decide +kernel)
abbrev scX11_stricter : ik_SC := (wdX, cX11_stricter, 3, RX11, [(0, 0)], 2, some .int)
set_option maxRecDepth 100000 in
def bX11_stricter : SP scX11_stricter := (pRet 0 33 (eIte 19 31 32 (cAnd 14 (cAnd 7 (cCmp0 1 (eCall (.invokestatic 165) (lkS mf_X11_isHouse ms_X11_isHouse ml_X11_165 rfl (by decide) (by decide)) MX11_isHouse (aI (eLoc 1) aNil))) (cCmp0 1 (eCall (.invokestatic 165) (lkS mf_X11_isHouse ms_X11_isHouse ml_X11_165 rfl (by decide) (by decide)) MX11_isHouse (aI (eLoc 2) aNil)))) (cCmp 1 (eLoc 1) (eLoc 2))) (eCall (.invokevirtual 272) (lkV (T := TX1) (N := 5) mf_X1_compare mv_X1_compare ml_X11_272 rfl rfl rfl (by decide) (by decide)) MX1_compare (aR (rFld (rLoc 0 0) 61 11 7 43 fl_X11_61) (aI (eLoc 1) (aI (eLoc 2) aNil)))) (eLit (-1))))
set_option maxRecDepth 100000 in
def MX11_stricter : MP wdX yX11_stricter cX11_stricter 3 (some .int) 2 [.inr 0, .inl 0, .inl 0] := mkM scX11_stricter yX11_stricter [.inr 0, .inl 0, .inl 0] bX11_stricter (by decide +kernel) rfl rfl (by decide) (by decide +kernel)
abbrev scX8_takesNote : ik_SC := (wdX, cX8_takesNote, 5, RX8, [(0, 25)], 0, some .boolean)
set_option maxRecDepth 100000 in
def bX8_takesNote : SP scX8_takesNote := (pSeq (pSeq (pSet 3 (eLit 0)) (pWh 16 62 62 (cAnd 10 (cCmp 2 (eLoc 3) (eFld (rLoc 0 25) 40 8 7 0 fl_X8_40)) (cCmp 2 (eLoc 3) (eLit 6))) (pSeq (pSeq (pSet 4 (eArr 0 6 (rFld (rLoc 0 25) 37 8 6 34 fl_X8_37) (eLoc 3))) (pIf 54 56 56 (cAnd 29 (cCmp0 1 (eLoc 4)) (cOr 34 (cCmp 0 (eLoc 3) (eLoc 2)) (cIteC 39 48 45 (cCmp 2 (eLoc 3) (eLoc 2)) (cCmp 3 (eLoc 4) (eLoc 1)) (cCmp 5 (eLoc 4) (eLoc 1))))) (pRet 3 56 (eLit 0)) pSkip)) (pInc 3 1)))) (pRet 3 64 (eLit 1)))
set_option maxRecDepth 100000 in
def MX8_takesNote : MP wdX yX8_takesNote cX8_takesNote 5 (some .boolean) 0 [.inr 25, .inl 0, .inl 0] := mkM scX8_takesNote yX8_takesNote [.inr 25, .inl 0, .inl 0] bX8_takesNote (by decide +kernel) rfl rfl (by decide) (by decide +kernel)
abbrev scX8_addNote : ik_SC := (wdX, cX8_addNote, 3, RX8, [(0, 25)], 1, none)
set_option maxRecDepth 100000 in
def bX8_addNote : SP scX8_addNote := (pSeq (pIf 8 15 15 (cCmp0 1 (eCall (.invokevirtual 101) (lkV (T := TX8) (N := 11) mf_X8_has mv_X8_has ml_X8_101 rfl rfl rfl (by decide) (by decide)) MX8_has (aR (rLoc 0 25) (aI (eLoc 2) aNil)))) (pAst 0 6 (rFld (rLoc 0 25) 37 8 6 34 fl_X8_37) (eLoc 2) (eLoc 1)) pSkip) (pRetV 16))
set_option maxRecDepth 100000 in
def MX8_addNote : MP wdX yX8_addNote cX8_addNote 3 (none) 1 [.inr 25, .inl 0, .inl 0] := mkM scX8_addNote yX8_addNote [.inr 25, .inl 0, .inl 0] bX8_addNote (by decide +kernel) rfl rfl (by decide) (by decide +kernel)
abbrev scX11_note : ik_SC := (wdX, cX11_note, 3, RX11, [(0, 0)], 2, some .boolean)
set_option maxRecDepth 100000 in
def bX11_note : SP scX11_note := (pSeq (pIf 33 35 35 (cOr 21 (cOr 10 (cNot (cCmp0 1 (eCall (.invokestatic 82) (lkS mf_X11_within ms_X11_within ml_X11_82 rfl (by decide) (by decide)) MX11_within (aI (eLoc 1) (aI (eLit 1) (aI (eLit 40) aNil)))))) (cNot (cCmp0 1 (eCall (.invokevirtual 198) (lkV (T := TX8) (N := 11) mf_X8_has mv_X8_has ml_X11_198 rfl rfl rfl (by decide) (by decide)) MX8_has (aR (rFld (rLoc 0 0) 40 11 4 25 fl_X11_40) (aI (eLoc 2) aNil)))))) (cNot (cCmp0 1 (eCall (.invokevirtual 275) (lkV (T := TX8) (N := 11) mf_X8_takesNote mv_X8_takesNote ml_X11_275 rfl rfl rfl (by decide) (by decide)) MX8_takesNote (aR (rFld (rLoc 0 0) 40 11 4 25 fl_X11_40) (aI (eLoc 1) (aI (eLoc 2) aNil))))))) (pRet 3 35 (eLit 0)) pSkip) (pSeq (pDo (.invokevirtual 278) (lkV (T := TX8) (N := 11) mf_X8_addNote mv_X8_addNote ml_X11_278 rfl rfl rfl (by decide) (by decide)) MX8_addNote (aR (rFld (rLoc 0 0) 40 11 4 25 fl_X11_40) (aI (eLoc 1) (aI (eLoc 2) aNil)))) (pRet 3 46 (eLit 1))))
set_option maxRecDepth 100000 in
def MX11_note : MP wdX yX11_note cX11_note 3 (some .boolean) 2 [.inr 0, .inl 0, .inl 0] := mkM scX11_note yX11_note [.inr 0, .inl 0, .inl 0] bX11_note (by decide +kernel) rfl rfl (by decide) (by decide +kernel)
abbrev scX8_misses : ik_SC := (wdX, cX8_misses, 4, RX8, [(0, 25)], 0, some .boolean)
set_option maxRecDepth 100000 in
def bX8_misses : SP scX8_misses := (pSeq (pSet 2 (eLit 0)) (pSeq (pSeq (pSet 3 (eLit 0)) (pWh 18 56 56 (cAnd 12 (cCmp 2 (eLoc 3) (eFld (rLoc 0 25) 40 8 7 0 fl_X8_40)) (cCmp 2 (eLoc 3) (eLit 6))) (pSeq (pSeq (pIf 28 30 30 (cCmp 0 (eArr 0 6 (rFld (rLoc 0 25) 37 8 6 34 fl_X8_37) (eLoc 3)) (eLoc 1)) (pRet 3 30 (eLit 0)) pSkip) (pSet 2 (eIte 44 48 49 (cOr 34 (cCmp0 1 (eLoc 2)) (cCmp 4 (eArr 0 6 (rFld (rLoc 0 25) 37 8 6 34 fl_X8_37) (eLoc 3)) (eLoc 1))) (eLit 1) (eLit 0)))) (pInc 3 1)))) (pRet 3 58 (eLoc 2))))
set_option maxRecDepth 100000 in
def MX8_misses : MP wdX yX8_misses cX8_misses 4 (some .boolean) 0 [.inr 25, .inl 0] := mkM scX8_misses yX8_misses [.inr 25, .inl 0] bX8_misses (by decide +kernel) rfl rfl (by decide) (by decide +kernel)
abbrev scX8_noteBelow : ik_SC := (wdX, cX8_noteBelow, 4, RX8, [(0, 25)], 0, some .int)
set_option maxRecDepth 100000 in
def bX8_noteBelow : SP scX8_noteBelow := (pSeq (pSet 2 (eLit 0)) (pSeq (pSeq (pSet 3 (eLit 0)) (pWh 18 45 45 (cAnd 12 (cCmp 2 (eLoc 3) (eFld (rLoc 0 25) 40 8 7 0 fl_X8_40)) (cCmp 2 (eLoc 3) (eLit 6))) (pSeq (pIf 37 39 39 (cAnd 27 (cCmp0 1 (eArr 0 6 (rFld (rLoc 0 25) 37 8 6 34 fl_X8_37) (eLoc 3))) (cCmp 2 (eArr 0 6 (rFld (rLoc 0 25) 37 8 6 34 fl_X8_37) (eLoc 3)) (eLoc 1))) (pSet 2 (eLoc 3)) pSkip) (pInc 3 1)))) (pRet 0 47 (eLoc 2))))
set_option maxRecDepth 100000 in
def MX8_noteBelow : MP wdX yX8_noteBelow cX8_noteBelow 4 (some .int) 0 [.inr 25, .inl 0] := mkM scX8_noteBelow yX8_noteBelow [.inr 25, .inl 0] bX8_noteBelow (by decide +kernel) rfl rfl (by decide) (by decide +kernel)
abbrev scX8_noteAbove : ik_SC := (wdX, cX8_noteAbove, 3, RX8, [(0, 25)], 0, some .int)
set_option maxRecDepth 100000 in
def bX8_noteAbove : SP scX8_noteAbove := (pSeq (pSeq (pSet 2 (eLit 0)) (pWh 16 34 34 (cAnd 10 (cCmp 2 (eLoc 2) (eFld (rLoc 0 25) 40 8 7 0 fl_X8_40)) (cCmp 2 (eLoc 2) (eLit 6))) (pSeq (pIf 26 28 28 (cCmp 4 (eArr 0 6 (rFld (rLoc 0 25) 37 8 6 34 fl_X8_37) (eLoc 2)) (eLoc 1)) (pRet 0 28 (eLoc 2)) pSkip) (pInc 2 1)))) (pRet 0 36 (eLit (-1))))
set_option maxRecDepth 100000 in
def MX8_noteAbove : MP wdX yX8_noteAbove cX8_noteAbove 3 (some .int) 0 [.inr 25, .inl 0] := mkM scX8_noteAbove yX8_noteAbove [.inr 25, .inl 0] bX8_noteAbove (by decide +kernel) rfl rfl (by decide) (by decide +kernel)
abbrev scX11_missing : ik_SC := (wdX, cX11_missing, 3, RX11, [(0, 0)], 1, some .int)
set_option maxRecDepth 100000 in
def bX11_missing : SP scX11_missing := (pSeq (pIf 25 27 27 (cOr 14 (cOr 5 (cCmp 2 (eLoc 1) (eLit 1)) (cNot (cCmp0 1 (eCall (.invokestatic 82) (lkS mf_X11_within ms_X11_within ml_X11_82 rfl (by decide) (by decide)) MX11_within (aI (eLoc 2) (aI (eLit 0) (aI (eLit 1) aNil))))))) (cNot (cCmp0 1 (eCall (.invokevirtual 281) (lkV (T := TX8) (N := 11) mf_X8_misses mv_X8_misses ml_X11_281 rfl rfl rfl (by decide) (by decide)) MX8_misses (aR (rFld (rLoc 0 0) 40 11 4 25 fl_X11_40) (aI (eLoc 1) aNil)))))) (pRet 0 27 (eLit (-1))) pSkip) (pRet 0 51 (eIte 31 42 50 (cCmp0 0 (eLoc 2)) (eCall (.invokevirtual 284) (lkV (T := TX8) (N := 11) mf_X8_noteBelow mv_X8_noteBelow ml_X11_284 rfl rfl rfl (by decide) (by decide)) MX8_noteBelow (aR (rFld (rLoc 0 0) 40 11 4 25 fl_X11_40) (aI (eLoc 1) aNil))) (eCall (.invokevirtual 287) (lkV (T := TX8) (N := 11) mf_X8_noteAbove mv_X8_noteAbove ml_X11_287 rfl rfl rfl (by decide) (by decide)) MX8_noteAbove (aR (rFld (rLoc 0 0) 40 11 4 25 fl_X11_40) (aI (eLoc 1) aNil))))))
set_option maxRecDepth 100000 in
def MX11_missing : MP wdX yX11_missing cX11_missing 3 (some .int) 1 [.inr 0, .inl 0, .inl 0] := mkM scX11_missing yX11_missing [.inr 0, .inl 0, .inl 0] bX11_missing (by decide +kernel) rfl rfl (by decide) (by decide +kernel)
abbrev scX9_number : ik_SC := (wdX, cX9_number, 3, RX9, [(0, 1)], 1, some .int)
set_option maxRecDepth 100000 in
def bX9_number : SP scX9_number := (pSeq (pSet 2 (eBin 2 (eLit 4) (eLoc 1))) (pRet 0 43 (eBin 4 (eBin 4 (eBin 4 (eBin 6 (eCall (.invokevirtual 17) (lkV (T := TX9) (N := 2) mf_X9_at mv_X9_at ml_X9_17 rfl rfl rfl (by decide) (by decide)) MX9_at (aR (rLoc 0 1) (aI (eLoc 2) aNil))) (eLit 24)) (eBin 6 (eCall (.invokevirtual 17) (lkV (T := TX9) (N := 2) mf_X9_at mv_X9_at ml_X9_17 rfl rfl rfl (by decide) (by decide)) MX9_at (aR (rLoc 0 1) (aI (eBin 0 (eLoc 2) (eLit 1)) aNil))) (eLit 16))) (eBin 6 (eCall (.invokevirtual 17) (lkV (T := TX9) (N := 2) mf_X9_at mv_X9_at ml_X9_17 rfl rfl rfl (by decide) (by decide)) MX9_at (aR (rLoc 0 1) (aI (eBin 0 (eLoc 2) (eLit 2)) aNil))) (eLit 8))) (eCall (.invokevirtual 17) (lkV (T := TX9) (N := 2) mf_X9_at mv_X9_at ml_X9_17 rfl rfl rfl (by decide) (by decide)) MX9_at (aR (rLoc 0 1) (aI (eBin 0 (eLoc 2) (eLit 3)) aNil))))))
set_option maxRecDepth 100000 in
def MX9_number : MP wdX yX9_number cX9_number 3 (some .int) 1 [.inr 1, .inl 0] := mkM scX9_number yX9_number [.inr 1, .inl 0] bX9_number (by decide +kernel) rfl rfl (by decide) (by decide +kernel)
abbrev scX11_firstWrong : ik_SC := (wdX, cX11_firstWrong, 5, RX11, [(0, 0)], 2, some .int)
set_option maxRecDepth 100000 in
def bX11_firstWrong : SP scX11_firstWrong := (pSeq (pSet 3 (eLit 0)) (pSeq (pSeq (pSet 4 (eLit 0)) (pWh 17 95 95 (cCmp 2 (eLoc 4) (eCall (.invokevirtual 293) (lkV (T := TX6) (N := 7) mf_X6_count mv_X6_count ml_X11_293 rfl rfl rfl (by decide) (by decide)) MX6_count (aR (rFld (rLoc 0 0) 26 11 2 6 fl_X11_26) aNil))) (pSeq (pIf 32 89 89 (cCmpL 1 (lCall (.invokevirtual 221) (lkV (T := TX2) (N := 14) mf_X2_odds mv_X2_odds ml_X11_221 rfl rfl rfl (by decide) (by decide)) MX2_odds (aR (rFld (rLoc 0 0) 68 11 8 48 fl_X11_68) (aI (eLoc 1) (aI (eLoc 4) aNil)))) (lLit 0)) (pSeq (pIf 39 43 43 (cCmp 3 (eLoc 3) (eBin 2 (eLit 2) (eLoc 2))) (pRet 0 43 (eBin 2 (eLit 2) (eLoc 2))) pSkip) (pSeq (pIf 56 58 58 (cCmp 1 (eCall (.invokevirtual 427) (lkV (T := TX9) (N := 2) mf_X9_number mv_X9_number ml_X11_427 rfl rfl rfl (by decide) (by decide)) MX9_number (aR (rFld (rLoc 0 0) 10 11 0 1 fl_X11_10) (aI (eLoc 3) aNil))) (eLoc 4)) (pRet 0 58 (eLoc 3)) pSkip) (pSeq (pIf 82 86 86 (cCmp 1 (eCall (.invokevirtual 427) (lkV (T := TX9) (N := 2) mf_X9_number mv_X9_number ml_X11_427 rfl rfl rfl (by decide) (by decide)) MX9_number (aR (rFld (rLoc 0 0) 10 11 0 1 fl_X11_10) (aI (eBin 0 (eLoc 3) (eLit 1)) aNil))) (eL2i (lCall (.invokevirtual 221) (lkV (T := TX2) (N := 14) mf_X2_odds mv_X2_odds ml_X11_221 rfl rfl rfl (by decide) (by decide)) MX2_odds (aR (rFld (rLoc 0 0) 68 11 8 48 fl_X11_68) (aI (eLoc 1) (aI (eLoc 4) aNil)))))) (pRet 0 86 (eBin 0 (eLoc 3) (eLit 1))) pSkip) (pInc 3 2)))) pSkip) (pInc 4 1)))) (pRet 0 108 (eIte 102 106 107 (cCmp 2 (eLoc 3) (eBin 2 (eLit 2) (eLoc 2))) (eLoc 3) (eLit (-1))))))
set_option maxRecDepth 100000 in
def MX11_firstWrong : MP wdX yX11_firstWrong cX11_firstWrong 5 (some .int) 2 [.inr 0, .inl 0, .inl 0] := mkM scX11_firstWrong yX11_firstWrong [.inr 0, .inl 0, .inl 0] bX11_firstWrong (by decide +kernel) rfl rfl (by decide) (by decide +kernel)
abbrev scX11_check : ik_SC := (wdX, cX11_check, 4, RX11, [(0, 0)], 31, some .int)
set_option maxRecDepth 100000 in
def bX11_check : SP scX11_check := (pSeq (pIf 29 32 32 (cOr 15 (cOr 11 (cNot (cCmp0 1 (eCall (.invokevirtual 152) (lkV (T := TX0) (N := 12) mf_X0_has mv_X0_has ml_X11_152 rfl rfl rfl (by decide) (by decide)) MX0_has (aR (rFld (rLoc 0 0) 33 11 3 15 fl_X11_33) (aI (eLoc 1) aNil))))) (cCmp0 2 (eLoc 2))) (cCmp 4 (eLoc 2) (eBin 9 (eCall (.invokevirtual 105) (lkV (T := TX9) (N := 2) mf_X9_length mv_X9_length ml_X11_105 rfl rfl rfl (by decide) (by decide)) MX9_length (aR (rFld (rLoc 0 0) 10 11 0 1 fl_X11_10) aNil)) (eLit 8)))) (pRet 0 32 (eLit (-2))) pSkip) (pSeq (pDo (.invokevirtual 209) (lkV (T := TX11) (N := 15) mf_X11_weigh mv_X11_weigh ml_X11_209 rfl rfl rfl (by decide) (by decide)) MX11_weigh (aR (rLoc 0 0) aNil)) (pSeq (pSet 3 (eCall (.invokevirtual 290) (lkV (T := TX11) (N := 15) mf_X11_firstWrong mv_X11_firstWrong ml_X11_290 rfl rfl rfl (by decide) (by decide)) MX11_firstWrong (aR (rLoc 0 0) (aI (eLoc 1) (aI (eLoc 2) aNil))))) (pSeq (pDo (.invokevirtual 117) (lkV (T := TX9) (N := 2) mf_X9_clear mv_X9_clear ml_X11_117 rfl rfl rfl (by decide) (by decide)) MX9_clear (aR (rFld (rLoc 0 0) 10 11 0 1 fl_X11_10) aNil)) (pRet 0 52 (eLoc 3))))))
set_option maxRecDepth 100000 in
def MX11_check : MP wdX yX11_check cX11_check 4 (some .int) 31 [.inr 0, .inl 0, .inl 0] := mkM scX11_check yX11_check [.inr 0, .inl 0, .inl 0] bX11_check (by decide +kernel) rfl rfl (by decide) (by decide +kernel)
abbrev scX0_lists : ik_SC := (wdX, cX0_lists, 1, RX0, [(0, 15)], 0, some .int)
set_option maxRecDepth 100000 in
def bX0_lists : SP scX0_lists := (pRet 0 5 (eFld (rLoc 0 15) 46 0 11 0 fl_X0_46))
set_option maxRecDepth 100000 in
def MX0_lists : MP wdX yX0_lists cX0_lists 1 (some .int) 0 [.inr 15] := mkM scX0_lists yX0_lists [.inr 15] bX0_lists (by decide +kernel) rfl rfl (by decide) (by decide +kernel)
abbrev scX3_count : ik_SC := (wdX, cX3_count, 1, RX3, [(0, 39)], 0, some .int)
set_option maxRecDepth 100000 in
def bX3_count : SP scX3_count := (pRet 0 5 (eFld (rLoc 0 39) 19 3 3 0 fl_X3_19))
set_option maxRecDepth 100000 in
def MX3_count : MP wdX yX3_count cX3_count 1 (some .int) 0 [.inr 39] := mkM scX3_count yX3_count [.inr 39] bX3_count (by decide +kernel) rfl rfl (by decide) (by decide +kernel)
abbrev scX1_count : ik_SC := (wdX, cX1_count, 1, RX1, [(0, 43)], 0, some .int)
set_option maxRecDepth 100000 in
def bX1_count : SP scX1_count := (pRet 0 5 (eFld (rLoc 0 43) 24 1 4 0 fl_X1_24))
set_option maxRecDepth 100000 in
def MX1_count : MP wdX yX1_count cX1_count 1 (some .int) 0 [.inr 43] := mkM scX1_count yX1_count [.inr 43] bX1_count (by decide +kernel) rfl rfl (by decide) (by decide +kernel)
abbrev scX8_notes : ik_SC := (wdX, cX8_notes, 3, RX8, [(0, 25)], 0, some .int)
set_option maxRecDepth 100000 in
def bX8_notes : SP scX8_notes := (pSeq (pSet 1 (eLit 0)) (pSeq (pSeq (pSet 2 (eLit 0)) (pWh 18 36 36 (cAnd 12 (cCmp 2 (eLoc 2) (eFld (rLoc 0 25) 40 8 7 0 fl_X8_40)) (cCmp 2 (eLoc 2) (eLit 6))) (pSeq (pIf 27 30 30 (cCmp0 1 (eArr 0 6 (rFld (rLoc 0 25) 37 8 6 34 fl_X8_37) (eLoc 2))) (pInc 1 1) pSkip) (pInc 2 1)))) (pRet 0 38 (eLoc 1))))
set_option maxRecDepth 100000 in
def MX8_notes : MP wdX yX8_notes cX8_notes 3 (some .int) 0 [.inr 25] := mkM scX8_notes yX8_notes [.inr 25] bX8_notes (by decide +kernel) rfl rfl (by decide) (by decide +kernel)
abbrev scX8_lines : ik_SC := (wdX, cX8_lines, 4, RX8, [(0, 25)], 3, some .int)
set_option maxRecDepth 100000 in
def bX8_lines : SP scX8_lines := (pSeq (pSet 2 (eLit 0)) (pSeq (pSeq (pSet 3 (eLit 0)) (pWh 13 31 31 (cCmp 2 (eLoc 3) (eCall (.invokevirtual 104) (lkV (T := TX8) (N := 11) mf_X8_tokens mv_X8_tokens ml_X8_104 rfl rfl rfl (by decide) (by decide)) MX8_tokens (aR (rLoc 0 25) (aI (eLoc 1) aNil)))) (pSeq (pIf 22 25 25 (cCmp0 1 (eCall (.invokevirtual 113) (lkV (T := TX8) (N := 11) mf_X8_begins mv_X8_begins ml_X8_113 rfl rfl rfl (by decide) (by decide)) MX8_begins (aR (rLoc 0 25) (aI (eLoc 1) (aI (eLoc 3) aNil))))) (pInc 2 1) pSkip) (pInc 3 1)))) (pRet 0 33 (eLoc 2))))
set_option maxRecDepth 100000 in
def MX8_lines : MP wdX yX8_lines cX8_lines 4 (some .int) 3 [.inr 25, .inl 0] := mkM scX8_lines yX8_lines [.inr 25, .inl 0] bX8_lines (by decide +kernel) rfl rfl (by decide) (by decide +kernel)
abbrev scX11_count : ik_SC := (wdX, cX11_count, 2, RX11, [(0, 0)], 4, some .int)
set_option maxRecDepth 100000 in
def bX11_count : SP scX11_count := (pSeq (pSw (eLoc 1) [(0, 60, (pDead 145 (pRet 0 68 (eCall (.invokevirtual 293) (lkV (T := TX6) (N := 7) mf_X6_count mv_X6_count ml_X11_293 rfl rfl rfl (by decide) (by decide)) MX6_count (aR (rFld (rLoc 0 0) 26 11 2 6 fl_X11_26) aNil))))), (1, 68, (pDead 145 (pRet 0 76 (eCall (.invokevirtual 136) (lkV (T := TX0) (N := 12) mf_X0_count mv_X0_count ml_X11_136 rfl rfl rfl (by decide) (by decide)) MX0_count (aR (rFld (rLoc 0 0) 33 11 3 15 fl_X11_33) aNil))))), (2, 76, (pDead 145 (pRet 0 84 (eCall (.invokevirtual 294) (lkV (T := TX8) (N := 11) mf_X8_count mv_X8_count ml_X11_294 rfl rfl rfl (by decide) (by decide)) MX8_count (aR (rFld (rLoc 0 0) 40 11 4 25 fl_X11_40) aNil))))), (3, 84, (pDead 145 (pRet 0 92 (eCall (.invokevirtual 149) (lkV (T := TX7) (N := 11) mf_X7_clauses mv_X7_clauses ml_X11_149 rfl rfl rfl (by decide) (by decide)) MX7_clauses (aR (rFld (rLoc 0 0) 47 11 5 35 fl_X11_47) aNil))))), (4, 92, (pDead 145 (pRet 0 100 (eCall (.invokevirtual 295) (lkV (T := TX0) (N := 12) mf_X0_ties mv_X0_ties ml_X11_295 rfl rfl rfl (by decide) (by decide)) MX0_ties (aR (rFld (rLoc 0 0) 33 11 3 15 fl_X11_33) aNil))))), (5, 100, (pDead 145 (pRet 0 108 (eCall (.invokevirtual 298) (lkV (T := TX0) (N := 12) mf_X0_lists mv_X0_lists ml_X11_298 rfl rfl rfl (by decide) (by decide)) MX0_lists (aR (rFld (rLoc 0 0) 33 11 3 15 fl_X11_33) aNil))))), (6, 108, (pDead 145 (pRet 0 116 (eCall (.invokevirtual 301) (lkV (T := TX3) (N := 4) mf_X3_count mv_X3_count ml_X11_301 rfl rfl rfl (by decide) (by decide)) MX3_count (aR (rFld (rLoc 0 0) 54 11 6 39 fl_X11_54) aNil))))), (7, 116, (pDead 145 (pRet 0 124 (eCall (.invokevirtual 302) (lkV (T := TX1) (N := 5) mf_X1_count mv_X1_count ml_X11_302 rfl rfl rfl (by decide) (by decide)) MX1_count (aR (rFld (rLoc 0 0) 61 11 7 43 fl_X11_61) aNil))))), (8, 124, (pDead 145 (pRet 0 132 (eCall (.invokevirtual 303) (lkV (T := TX8) (N := 11) mf_X8_notes mv_X8_notes ml_X11_303 rfl rfl rfl (by decide) (by decide)) MX8_notes (aR (rFld (rLoc 0 0) 40 11 4 25 fl_X11_40) aNil))))), (9, 132, (pDead 145 (pRet 0 140 (eCall (.invokevirtual 105) (lkV (T := TX9) (N := 2) mf_X9_length mv_X9_length ml_X11_105 rfl rfl rfl (by decide) (by decide)) MX9_length (aR (rFld (rLoc 0 0) 10 11 0 1 fl_X11_10) aNil))))), (10, 140, (pDead 145 (pRet 0 145 (eFld (rLoc 0 0) 178 11 12 0 fl_X11_178))))] 145 pSkip 145) (pSeq (pIf 165 177 177 (cAnd 151 (cCmp 3 (eLoc 1) (eLit 20)) (cCmp0 1 (eCall (.invokevirtual 198) (lkV (T := TX8) (N := 11) mf_X8_has mv_X8_has ml_X11_198 rfl rfl rfl (by decide) (by decide)) MX8_has (aR (rFld (rLoc 0 0) 40 11 4 25 fl_X11_40) (aI (eBin 1 (eLoc 1) (eLit 20)) aNil))))) (pRet 0 177 (eCall (.invokevirtual 266) (lkV (T := TX8) (N := 11) mf_X8_tokens mv_X8_tokens ml_X11_266 rfl rfl rfl (by decide) (by decide)) MX8_tokens (aR (rFld (rLoc 0 0) 40 11 4 25 fl_X11_40) (aI (eBin 1 (eLoc 1) (eLit 20)) aNil)))) pSkip) (pRet 0 213 (eIte 197 211 212 (cAnd 183 (cCmp 3 (eLoc 1) (eLit 30)) (cCmp0 1 (eCall (.invokevirtual 198) (lkV (T := TX8) (N := 11) mf_X8_has mv_X8_has ml_X11_198 rfl rfl rfl (by decide) (by decide)) MX8_has (aR (rFld (rLoc 0 0) 40 11 4 25 fl_X11_40) (aI (eBin 1 (eLoc 1) (eLit 30)) aNil))))) (eCall (.invokevirtual 306) (lkV (T := TX8) (N := 11) mf_X8_lines mv_X8_lines ml_X11_306 rfl rfl rfl (by decide) (by decide)) MX8_lines (aR (rFld (rLoc 0 0) 40 11 4 25 fl_X11_40) (aI (eBin 1 (eLoc 1) (eLit 30)) aNil))) (eLit (-1))))))
set_option maxRecDepth 100000 in
def MX11_count : MP wdX yX11_count cX11_count 2 (some .int) 4 [.inr 0, .inl 0] := mkM scX11_count yX11_count [.inr 0, .inl 0] bX11_count (by decide +kernel) rfl rfl (by decide) (by decide +kernel)
end
section
abbrev scX12_lies : ik_SC := (wdM, cX12_lies, 6, RX12, [], 0, some .boolean)
set_option maxRecDepth 100000 in
def bX12_lies : SP scX12_lies := (pRet 3 19 (eIte 13 17 18 (cAnd 6 (cCmpL 3 (lLoc 0) (lLoc 2)) (cCmpL 5 (lLoc 0) (lLoc 4))) (eLit 1) (eLit 0)))
set_option maxRecDepth 100000 in
def MX12_lies : MP wdM yX12_lies cX12_lies 6 (some .boolean) 0 [.inl 1, .inl 1, .inl 1] := mkM scX12_lies yX12_lies [.inl 1, .inl 1, .inl 1] bX12_lies (by decide +kernel) rfl rfl (by decide) (by decide +kernel)
abbrev scX12_width : ik_SC := (wdM, cX12_width, 3, RX12, [(0, 0)], 1, some .boolean)
set_option maxRecDepth 100000 in
def bX12_width : SP scX12_width := (pSeq (pIf 24 26 26 (cOr 12 (cNot (cCmp0 1 (eCall (.invokestatic 170) (lkS mf_X12_lies ms_X12_lies ml_X12_170 rfl (by decide) (by decide)) MX12_lies (aL (lI2l (eLoc 1)) (aL (lLit 0) (aL (lLdc 182 26 kc_X12_182) aNil)))))) (cNot (cCmp0 1 (eCall (.invokestatic 170) (lkS mf_X12_lies ms_X12_lies ml_X12_170 rfl (by decide) (by decide)) MX12_lies (aL (lI2l (eLoc 2)) (aL (lLit 1) (aL (lLdc 184 60 kc_X12_184) aNil))))))) (pRet 3 26 (eLit 0)) pSkip) (pSeq (pAst 0 27 (rFld (rLoc 0 0) 13 12 12 2 fl_X12_13) (eLoc 1) (eLoc 2)) (pRet 3 35 (eLit 1))))
set_option maxRecDepth 100000 in
def MX12_width : MP wdM yX12_width cX12_width 3 (some .boolean) 1 [.inr 0, .inl 0, .inl 0] := mkM scX12_width yX12_width [.inr 0, .inl 0, .inl 0] bX12_width (by decide +kernel) rfl rfl (by decide) (by decide +kernel)
abbrev scX12_joined : ik_SC := (wdM, cX12_joined, 4, RX12, [(0, 0)], 1, some .boolean)
set_option maxRecDepth 100000 in
def bX12_joined : SP scX12_joined := (pSeq (pIf 38 40 40 (cOr 24 (cOr 12 (cNot (cCmp0 1 (eCall (.invokestatic 170) (lkS mf_X12_lies ms_X12_lies ml_X12_170 rfl (by decide) (by decide)) MX12_lies (aL (lI2l (eLoc 1)) (aL (lLit 1) (aL (lLdc 182 26 kc_X12_182) aNil)))))) (cNot (cCmp0 1 (eCall (.invokestatic 170) (lkS mf_X12_lies ms_X12_lies ml_X12_170 rfl (by decide) (by decide)) MX12_lies (aL (lI2l (eLoc 2)) (aL (lLit 1) (aL (lLdc 182 26 kc_X12_182) aNil))))))) (cNot (cCmp0 1 (eCall (.invokestatic 170) (lkS mf_X12_lies ms_X12_lies ml_X12_170 rfl (by decide) (by decide)) MX12_lies (aL (lI2l (eLoc 3)) (aL (lLdc 186 (-20) kc_X12_186) (aL (lLdc 188 20 kc_X12_188) aNil))))))) (pRet 3 40 (eLit 0)) pSkip) (pSeq (pAst 0 729 (rFld (rLoc 0 0) 17 12 13 3 fl_X12_17) (eBin 0 (eBin 2 (eLit 27) (eLoc 1)) (eLoc 2)) (eLoc 3)) (pRet 3 54 (eLit 1))))
set_option maxRecDepth 100000 in
def MX12_joined : MP wdM yX12_joined cX12_joined 4 (some .boolean) 1 [.inr 0, .inl 0, .inl 0, .inl 0] := mkM scX12_joined yX12_joined [.inr 0, .inl 0, .inl 0, .inl 0] bX12_joined (by decide +kernel) rfl rfl (by decide) (by decide +kernel)
abbrev scX12_push : ik_SC := (wdM, cX12_push, 3, RX12, [(0, 0)], 0, none)
set_option maxRecDepth 100000 in
def bX12_push : SP scX12_push := (pSeq (pSeq (pSet 2 (eLit 24)) (pWh 7 36 36 (cCmp0 3 (eLoc 2)) (pSeq (pSeq (pAst 2 400 (rFld (rLoc 0 0) 7 12 0 1 fl_X12_7) (eFld (rLoc 0 0) 190 12 1 0 fl_X12_190) (eUn 1 (eBin 7 (eLoc 1) (eLoc 2)))) (pPutOp (rLoc 0 0) 190 12 1 0 fw_X12_190 (eLit 1))) (pInc 2 (-8))))) (pRetV 37))
set_option maxRecDepth 100000 in
def MX12_push : MP wdM yX12_push cX12_push 3 (none) 0 [.inr 0, .inl 0] := mkM scX12_push yX12_push [.inr 0, .inl 0] bX12_push (by decide +kernel) rfl rfl (by decide) (by decide +kernel)
abbrev scX12_feed : ik_SC := (wdM, cX12_feed, 6, RX12, [(0, 0)], 1, some .int)
set_option maxRecDepth 100000 in
def bX12_feed : SP scX12_feed := (pSeq (pIf 13 15 15 (cCmp 4 (eBin 0 (eFld (rLoc 0 0) 190 12 1 0 fl_X12_190) (eLit 20)) (eLit 400)) (pRet 0 15 (eLit (-1))) pSkip) (pSeq (pDo (.invokevirtual 193) (lkV (T := TX12) (N := 77) mf_X12_push mv_X12_push ml_X12_193 rfl rfl rfl (by decide) (by decide)) MX12_push (aR (rLoc 0 0) (aI (eLoc 1) aNil))) (pSeq (pDo (.invokevirtual 193) (lkV (T := TX12) (N := 77) mf_X12_push mv_X12_push ml_X12_193 rfl rfl rfl (by decide) (by decide)) MX12_push (aR (rLoc 0 0) (aI (eLoc 2) aNil))) (pSeq (pDo (.invokevirtual 193) (lkV (T := TX12) (N := 77) mf_X12_push mv_X12_push ml_X12_193 rfl rfl rfl (by decide) (by decide)) MX12_push (aR (rLoc 0 0) (aI (eLoc 3) aNil))) (pSeq (pDo (.invokevirtual 193) (lkV (T := TX12) (N := 77) mf_X12_push mv_X12_push ml_X12_193 rfl rfl rfl (by decide) (by decide)) MX12_push (aR (rLoc 0 0) (aI (eLoc 4) aNil))) (pSeq (pDo (.invokevirtual 193) (lkV (T := TX12) (N := 77) mf_X12_push mv_X12_push ml_X12_193 rfl rfl rfl (by decide) (by decide)) MX12_push (aR (rLoc 0 0) (aI (eLoc 5) aNil))) (pRet 0 47 (eFld (rLoc 0 0) 190 12 1 0 fl_X12_190))))))))
set_option maxRecDepth 100000 in
def MX12_feed : MP wdM yX12_feed cX12_feed 6 (some .int) 1 [.inr 0, .inl 0, .inl 0, .inl 0, .inl 0, .inl 0] := mkM scX12_feed yX12_feed [.inr 0, .inl 0, .inl 0, .inl 0, .inl 0, .inl 0] bX12_feed (by decide +kernel) rfl rfl (by decide) (by decide +kernel)
abbrev scX12_isLetter : ik_SC := (wdM, cX12_isLetter, 1, RX12, [], 0, some .boolean)
set_option maxRecDepth 100000 in
def bX12_isLetter : SP scX12_isLetter := (pRet 3 18 (eIte 12 16 17 (cAnd 6 (cCmp 3 (eLoc 0) (eLit 97)) (cCmp 5 (eLoc 0) (eLit 122))) (eLit 1) (eLit 0)))
set_option maxRecDepth 100000 in
def MX12_isLetter : MP wdM yX12_isLetter cX12_isLetter 1 (some .boolean) 0 [.inl 0] := mkM scX12_isLetter yX12_isLetter [.inl 0] bX12_isLetter (by decide +kernel) rfl rfl (by decide) (by decide +kernel)
abbrev scX12_compared : ik_SC := (wdM, cX12_compared, 6, RX12, [(0, 0)], 0, some .int)
set_option maxRecDepth 100000 in
def bX12_compared : SP scX12_compared := (pSeq (pSeq (pSet 3 (eLit 0)) (pWh 8 81 81 (cCmp 2 (eLoc 3) (eLit 12)) (pSeq (pSeq (pSet 4 (eIte 18 32 33 (cCmp 2 (eLoc 3) (eArr 0 24 (rFld (rLoc 0 0) 23 12 15 5 fl_X12_23) (eLoc 1))) (eArr 2 288 (rFld (rLoc 0 0) 20 12 14 4 fl_X12_20) (eBin 0 (eBin 2 (eLit 12) (eLoc 1)) (eLoc 3))) (eLit 0))) (pSeq (pSet 5 (eIte 45 59 60 (cCmp 2 (eLoc 3) (eArr 0 24 (rFld (rLoc 0 0) 23 12 15 5 fl_X12_23) (eLoc 2))) (eArr 2 288 (rFld (rLoc 0 0) 20 12 14 4 fl_X12_20) (eBin 0 (eBin 2 (eLit 12) (eLoc 2)) (eLoc 3))) (eLit 0))) (pIf 69 75 75 (cCmp 1 (eLoc 4) (eLoc 5)) (pRet 0 75 (eBin 1 (eLoc 4) (eLoc 5))) pSkip))) (pInc 3 1)))) (pRet 0 83 (eLit 0)))
set_option maxRecDepth 100000 in
def MX12_compared : MP wdM yX12_compared cX12_compared 6 (some .int) 0 [.inr 0, .inl 0, .inl 0] := mkM scX12_compared yX12_compared [.inr 0, .inl 0, .inl 0] bX12_compared (by decide +kernel) rfl rfl (by decide) (by decide +kernel)
abbrev scX12_name : ik_SC := (wdM, cX12_name, 7, RX12, [(0, 0)], 1, some .int)
set_option maxRecDepth 100000 in
def bX12_name : SP scX12_name := (pSeq (pIf 80 82 82 (cOr 67 (cOr 53 (cOr 41 (cOr 29 (cOr 21 (cOr 9 (cCmp 0 (eFld (rLoc 0 0) 166 12 2 0 fl_X12_166) (eLit 24)) (cNot (cCmp0 1 (eCall (.invokestatic 170) (lkS mf_X12_lies ms_X12_lies ml_X12_170 rfl (by decide) (by decide)) MX12_lies (aL (lI2l (eLoc 1)) (aL (lLit 1) (aL (lLdc 197 12 kc_X12_197) aNil))))))) (cCmp 4 (eLoc 1) (eFld (rLoc 0 0) 190 12 1 0 fl_X12_190))) (cNot (cCmp0 1 (eCall (.invokestatic 170) (lkS mf_X12_lies ms_X12_lies ml_X12_170 rfl (by decide) (by decide)) MX12_lies (aL (lI2l (eLoc 2)) (aL (lLit 0) (aL (lLdc 199 7 kc_X12_199) aNil))))))) (cNot (cCmp0 1 (eCall (.invokestatic 170) (lkS mf_X12_lies ms_X12_lies ml_X12_170 rfl (by decide) (by decide)) MX12_lies (aL (lI2l (eLoc 3)) (aL (lLit 0) (aL (lLdc 201 199 kc_X12_201) aNil))))))) (cNot (cCmp0 1 (eCall (.invokestatic 170) (lkS mf_X12_lies ms_X12_lies ml_X12_170 rfl (by decide) (by decide)) MX12_lies (aL (lI2l (eLoc 4)) (aL (lI2l (eLoc 3)) (aL (lLdc 201 199 kc_X12_201) aNil))))))) (cNot (cCmp0 1 (eCall (.invokestatic 170) (lkS mf_X12_lies ms_X12_lies ml_X12_170 rfl (by decide) (by decide)) MX12_lies (aL (lI2l (eLoc 5)) (aL (lLit 1) (aL (lLdc 203 100 kc_X12_203) aNil))))))) (pRet 0 82 (eLit (-1))) pSkip) (pSeq (pPut (rLoc 0 0) 190 12 1 0 fw_X12_190 (eLit 0)) (pSeq (pAst 0 24 (rFld (rLoc 0 0) 23 12 15 5 fl_X12_23) (eFld (rLoc 0 0) 166 12 2 0 fl_X12_166) (eLoc 1)) (pSeq (pSeq (pSet 6 (eLit 0)) (pWh 106 150 150 (cCmp 2 (eLoc 6) (eLoc 1)) (pSeq (pSeq (pIf 119 122 122 (cNot (cCmp0 1 (eCall (.invokestatic 205) (lkS mf_X12_isLetter ms_X12_isLetter ml_X12_205 rfl (by decide) (by decide)) MX12_isLetter (aI (eArr 2 400 (rFld (rLoc 0 0) 7 12 0 1 fl_X12_7) (eLoc 6)) aNil)))) (pRet 0 122 (eLit (-2))) pSkip) (pAst 2 288 (rFld (rLoc 0 0) 20 12 14 4 fl_X12_20) (eBin 0 (eBin 2 (eLit 12) (eFld (rLoc 0 0) 166 12 2 0 fl_X12_166)) (eLoc 6)) (eArr 2 400 (rFld (rLoc 0 0) 7 12 0 1 fl_X12_7) (eLoc 6)))) (pInc 6 1)))) (pSeq (pSeq (pSet 6 (eLit 0)) (pWh 162 184 184 (cCmp 2 (eLoc 6) (eFld (rLoc 0 0) 166 12 2 0 fl_X12_166)) (pSeq (pIf 175 178 178 (cCmp0 0 (eCall (.invokevirtual 209) (lkV (T := TX12) (N := 77) mf_X12_compared mv_X12_compared ml_X12_209 rfl rfl rfl (by decide) (by decide)) MX12_compared (aR (rLoc 0 0) (aI (eLoc 6) (aI (eFld (rLoc 0 0) 166 12 2 0 fl_X12_166) aNil))))) (pRet 0 178 (eLit (-2))) pSkip) (pInc 6 1)))) (pSeq (pAst 0 24 (rFld (rLoc 0 0) 26 12 16 6 fl_X12_26) (eFld (rLoc 0 0) 166 12 2 0 fl_X12_166) (eLoc 2)) (pSeq (pAst 0 24 (rFld (rLoc 0 0) 29 12 17 7 fl_X12_29) (eFld (rLoc 0 0) 166 12 2 0 fl_X12_166) (eLoc 3)) (pSeq (pAst 0 24 (rFld (rLoc 0 0) 32 12 18 8 fl_X12_32) (eFld (rLoc 0 0) 166 12 2 0 fl_X12_166) (eLoc 4)) (pSeq (pAst 0 24 (rFld (rLoc 0 0) 35 12 19 9 fl_X12_35) (eFld (rLoc 0 0) 166 12 2 0 fl_X12_166) (eLoc 5)) (pSeq (pPutOp (rLoc 0 0) 166 12 2 0 fw_X12_166 (eLit 1)) (pRet 0 243 (eBin 1 (eFld (rLoc 0 0) 166 12 2 0 fl_X12_166) (eLit 1)))))))))))))
set_option maxRecDepth 100000 in
def MX12_name : MP wdM yX12_name cX12_name 7 (some .int) 1 [.inr 0, .inl 0, .inl 0, .inl 0, .inl 0, .inl 0] := mkM scX12_name yX12_name [.inr 0, .inl 0, .inl 0, .inl 0, .inl 0, .inl 0] bX12_name (by decide +kernel) rfl rfl (by decide) (by decide +kernel)
abbrev scX12_isName : ik_SC := (wdM, cX12_isName, 2, RX12, [(0, 0)], 1, some .boolean)
set_option maxRecDepth 100000 in
def bX12_isName : SP scX12_isName := (pRet 3 14 (eCall (.invokestatic 170) (lkS mf_X12_lies ms_X12_lies ml_X12_170 rfl (by decide) (by decide)) MX12_lies (aL (lI2l (eLoc 1)) (aL (lLit 0) (aL (lI2l (eBin 1 (eFld (rLoc 0 0) 166 12 2 0 fl_X12_166) (eLit 1))) aNil)))))
set_option maxRecDepth 100000 in
def MX12_isName : MP wdM yX12_isName cX12_isName 2 (some .boolean) 1 [.inr 0, .inl 0] := mkM scX12_isName yX12_isName [.inr 0, .inl 0] bX12_isName (by decide +kernel) rfl rfl (by decide) (by decide +kernel)
abbrev scX12_wideOf : ik_SC := (wdM, cX12_wideOf, 6, RX12, [(0, 0)], 0, some .int)
set_option maxRecDepth 100000 in
def bX12_wideOf : SP scX12_wideOf := (pSeq (pSet 2 (eLit 0)) (pSeq (pSet 3 (eLit 0)) (pSeq (pSeq (pSet 4 (eLit 0)) (pWh 18 69 69 (cCmp 2 (eLoc 4) (eArr 0 24 (rFld (rLoc 0 0) 23 12 15 5 fl_X12_23) (eLoc 1))) (pSeq (pSeq (pSet 5 (eBin 0 (eBin 1 (eArr 2 288 (rFld (rLoc 0 0) 20 12 14 4 fl_X12_20) (eBin 0 (eBin 2 (eLit 12) (eLoc 1)) (eLoc 4))) (eLit 97)) (eLit 1))) (pSeq (pSet 2 (eBin 0 (eLoc 2) (eBin 0 (eArr 0 27 (rFld (rLoc 0 0) 13 12 12 2 fl_X12_13) (eLoc 5)) (eArr 0 729 (rFld (rLoc 0 0) 17 12 13 3 fl_X12_17) (eBin 0 (eBin 2 (eLit 27) (eLoc 3)) (eLoc 5)))))) (pSet 3 (eLoc 5)))) (pInc 4 1)))) (pRet 0 71 (eLoc 2)))))
set_option maxRecDepth 100000 in
def MX12_wideOf : MP wdM yX12_wideOf cX12_wideOf 6 (some .int) 0 [.inr 0, .inl 0] := mkM scX12_wideOf yX12_wideOf [.inr 0, .inl 0] bX12_wideOf (by decide +kernel) rfl rfl (by decide) (by decide +kernel)
abbrev scX12_wide : ik_SC := (wdM, cX12_wide, 2, RX12, [(0, 0)], 2, some .int)
set_option maxRecDepth 100000 in
def bX12_wide : SP scX12_wide := (pRet 0 18 (eIte 8 16 17 (cCmp0 1 (eCall (.invokevirtual 213) (lkV (T := TX12) (N := 77) mf_X12_isName mv_X12_isName ml_X12_213 rfl rfl rfl (by decide) (by decide)) MX12_isName (aR (rLoc 0 0) (aI (eLoc 1) aNil)))) (eCall (.invokevirtual 216) (lkV (T := TX12) (N := 77) mf_X12_wideOf mv_X12_wideOf ml_X12_216 rfl rfl rfl (by decide) (by decide)) MX12_wideOf (aR (rLoc 0 0) (aI (eLoc 1) aNil))) (eLit (-1))))
set_option maxRecDepth 100000 in
def MX12_wide : MP wdM yX12_wide cX12_wide 2 (some .int) 2 [.inr 0, .inl 0] := mkM scX12_wide yX12_wide [.inr 0, .inl 0] bX12_wide (by decide +kernel) rfl rfl (by decide) (by decide +kernel)
abbrev scX12_bar : ik_SC := (wdM, cX12_bar, 4, RX12, [(0, 0)], 1, some .int)
set_option maxRecDepth 100000 in
def bX12_bar : SP scX12_bar := (pSeq (pIf 46 48 48 (cOr 34 (cOr 20 (cOr 8 (cCmp 0 (eFld (rLoc 0 0) 174 12 3 0 fl_X12_174) (eLit 4)) (cNot (cCmp0 1 (eCall (.invokestatic 170) (lkS mf_X12_lies ms_X12_lies ml_X12_170 rfl (by decide) (by decide)) MX12_lies (aL (lI2l (eLoc 1)) (aL (lLit 1) (aL (lLdc 220 3000 kc_X12_220) aNil))))))) (cNot (cCmp0 1 (eCall (.invokestatic 170) (lkS mf_X12_lies ms_X12_lies ml_X12_170 rfl (by decide) (by decide)) MX12_lies (aL (lI2l (eLoc 2)) (aL (lLdc 222 (-1) kc_X12_222) (aL (lLdc 201 199 kc_X12_201) aNil))))))) (cNot (cCmp0 1 (eCall (.invokestatic 170) (lkS mf_X12_lies ms_X12_lies ml_X12_170 rfl (by decide) (by decide)) MX12_lies (aL (lI2l (eLoc 3)) (aL (lLit 0) (aL (lLdc 224 255 kc_X12_224) aNil))))))) (pRet 0 48 (eLit (-1))) pSkip) (pSeq (pAst 0 4 (rFld (rLoc 0 0) 38 12 20 10 fl_X12_38) (eFld (rLoc 0 0) 174 12 3 0 fl_X12_174) (eLoc 1)) (pSeq (pAst 0 4 (rFld (rLoc 0 0) 41 12 21 11 fl_X12_41) (eFld (rLoc 0 0) 174 12 3 0 fl_X12_174) (eLoc 2)) (pSeq (pAst 0 4 (rFld (rLoc 0 0) 44 12 22 12 fl_X12_44) (eFld (rLoc 0 0) 174 12 3 0 fl_X12_174) (eLoc 3)) (pSeq (pPutOp (rLoc 0 0) 174 12 3 0 fw_X12_174 (eLit 1)) (pRet 0 95 (eBin 1 (eFld (rLoc 0 0) 174 12 3 0 fl_X12_174) (eLit 1))))))))
set_option maxRecDepth 100000 in
def MX12_bar : MP wdM yX12_bar cX12_bar 4 (some .int) 1 [.inr 0, .inl 0, .inl 0, .inl 0] := mkM scX12_bar yX12_bar [.inr 0, .inl 0, .inl 0, .inl 0] bX12_bar (by decide +kernel) rfl rfl (by decide) (by decide +kernel)
abbrev scX12_isGood : ik_SC := (wdM, cX12_isGood, 1, RX12, [(0, 0)], 0, some .boolean)
set_option maxRecDepth 100000 in
def bX12_isGood : SP scX12_isGood := (pRet 3 13 (eIte 7 11 12 (cCmp0 0 (eFld (rLoc 0 0) 232 12 32 0 fl_X12_232)) (eLit 1) (eLit 0)))
set_option maxRecDepth 100000 in
def MX12_isGood : MP wdM yX12_isGood cX12_isGood 1 (some .boolean) 0 [.inr 0] := mkM scX12_isGood yX12_isGood [.inr 0] bX12_isGood (by decide +kernel) rfl rfl (by decide) (by decide +kernel)
abbrev scX12_here : ik_SC := (wdM, cX12_here, 1, RX12, [(0, 0)], 0, some .int)
set_option maxRecDepth 100000 in
def bX12_here : SP scX12_here := (pRet 0 29 (eIte 11 27 28 (cCmp 2 (eFld (rLoc 0 0) 226 12 30 0 fl_X12_226) (eFld (rLoc 0 0) 229 12 31 0 fl_X12_229)) (eBin 3 (eArr 2 400 (rFld (rLoc 0 0) 7 12 0 1 fl_X12_7) (eFld (rLoc 0 0) 226 12 30 0 fl_X12_226)) (eLit 255)) (eLit 0)))
set_option maxRecDepth 100000 in
def MX12_here : MP wdM yX12_here cX12_here 1 (some .int) 0 [.inr 0] := mkM scX12_here yX12_here [.inr 0] bX12_here (by decide +kernel) rfl rfl (by decide) (by decide +kernel)
abbrev scX12_isDigit : ik_SC := (wdM, cX12_isDigit, 1, RX12, [], 0, some .boolean)
set_option maxRecDepth 100000 in
def bX12_isDigit : SP scX12_isDigit := (pRet 3 18 (eIte 12 16 17 (cAnd 6 (cCmp 3 (eLoc 0) (eLit 48)) (cCmp 5 (eLoc 0) (eLit 57))) (eLit 1) (eLit 0)))
set_option maxRecDepth 100000 in
def MX12_isDigit : MP wdM yX12_isDigit cX12_isDigit 1 (some .boolean) 0 [.inl 0] := mkM scX12_isDigit yX12_isDigit [.inl 0] bX12_isDigit (by decide +kernel) rfl rfl (by decide) (by decide +kernel)
abbrev scX12_wrongs : ik_SC := (wdM, cX12_wrongs, 3, RX12, [(0, 0)], 0, none)
set_option maxRecDepth 100000 in
def bX12_wrongs : SP scX12_wrongs := (pSeq (pPut (rLoc 0 0) 232 12 32 0 fw_X12_232 (eIte 8 15 22 (cCmp0 2 (eFld (rLoc 0 0) 232 12 32 0 fl_X12_232)) (eFld (rLoc 0 0) 232 12 32 0 fl_X12_232) (eBin 1 (eBin 2 (eLit (-1000)) (eLoc 1)) (eLoc 2)))) (pRetV 26))
set_option maxRecDepth 100000 in
def MX12_wrongs : MP wdM yX12_wrongs cX12_wrongs 3 (none) 0 [.inr 0, .inl 0, .inl 0] := mkM scX12_wrongs yX12_wrongs [.inr 0, .inl 0, .inl 0] bX12_wrongs (by decide +kernel) rfl rfl (by decide) (by decide +kernel)
abbrev scX12_token : ik_SC := (wdM, cX12_token, 5, RX12, [(0, 0)], 1, none)
set_option maxRecDepth 100000 in
def bX12_token : SP scX12_token := (pSeq (pSeq (pSet 3 (eCall (.invokevirtual 235) (lkV (T := TX12) (N := 77) mf_X12_here mv_X12_here ml_X12_235 rfl rfl rfl (by decide) (by decide)) MX12_here (aR (rLoc 0 0) aNil))) (pSeq (pIf 19 31 76 (cAnd 12 (cNot (cCmp0 1 (eCall (.invokestatic 205) (lkS mf_X12_isLetter ms_X12_isLetter ml_X12_205 rfl (by decide) (by decide)) MX12_isLetter (aI (eLoc 3) aNil)))) (cNot (cCmp0 1 (eCall (.invokestatic 239) (lkS mf_X12_isDigit ms_X12_isDigit ml_X12_239 rfl (by decide) (by decide)) MX12_isDigit (aI (eLoc 3) aNil))))) (pDo (.invokevirtual 242) (lkV (T := TX12) (N := 77) mf_X12_wrongs mv_X12_wrongs ml_X12_242 rfl rfl rfl (by decide) (by decide)) MX12_wrongs (aR (rLoc 0 0) (aI (eLit 1) (aI (eFld (rLoc 0 0) 226 12 30 0 fl_X12_226) aNil)))) (pIf 37 49 76 (cCmp 0 (eLoc 2) (eLit 24)) (pDo (.invokevirtual 242) (lkV (T := TX12) (N := 77) mf_X12_wrongs mv_X12_wrongs ml_X12_242 rfl rfl rfl (by decide) (by decide)) MX12_wrongs (aR (rLoc 0 0) (aI (eLit 4) (aI (eFld (rLoc 0 0) 226 12 30 0 fl_X12_226) aNil)))) (pIf 67 76 76 (cAnd 56 (cCmp0 1 (eCall (.invokestatic 239) (lkS mf_X12_isDigit ms_X12_isDigit ml_X12_239 rfl (by decide) (by decide)) MX12_isDigit (aI (eLoc 3) aNil))) (cCmp 3 (eBin 1 (eLoc 3) (eLit 48)) (eFld (rLoc 0 0) 174 12 3 0 fl_X12_174))) (pDo (.invokevirtual 242) (lkV (T := TX12) (N := 77) mf_X12_wrongs mv_X12_wrongs ml_X12_242 rfl rfl rfl (by decide) (by decide)) MX12_wrongs (aR (rLoc 0 0) (aI (eLit 3) (aI (eFld (rLoc 0 0) 226 12 30 0 fl_X12_226) aNil)))) pSkip))) (pSeq (pIf 83 84 84 (cNot (cCmp0 1 (eCall (.invokevirtual 246) (lkV (T := TX12) (N := 77) mf_X12_isGood mv_X12_isGood ml_X12_246 rfl rfl rfl (by decide) (by decide)) MX12_isGood (aR (rLoc 0 0) aNil)))) (pRetV 84) pSkip) (pSeq (pSet 4 (eBin 0 (eBin 2 (eLit 24) (eLoc 1)) (eLoc 2))) (pSeq (pAst 0 144 (rFld (rLoc 0 0) 56 12 26 16 fl_X12_56) (eLoc 4) (eIte 105 112 113 (cCmp0 1 (eCall (.invokestatic 239) (lkS mf_X12_isDigit ms_X12_isDigit ml_X12_239 rfl (by decide) (by decide)) MX12_isDigit (aI (eLoc 3) aNil))) (eBin 1 (eLoc 3) (eLit 48)) (eLit 4))) (pSeq (pAst 0 144 (rFld (rLoc 0 0) 59 12 27 17 fl_X12_59) (eLoc 4) (eFld (rLoc 0 0) 226 12 30 0 fl_X12_226)) (pSeq (pPutOp (rLoc 0 0) 226 12 30 0 fw_X12_226 (eLit 1)) (pSeq (pWh 159 198 198 (cAnd 149 (cAnd 142 (cCmp0 1 (eCall (.invokevirtual 246) (lkV (T := TX12) (N := 77) mf_X12_isGood mv_X12_isGood ml_X12_246 rfl rfl rfl (by decide) (by decide)) MX12_isGood (aR (rLoc 0 0) aNil))) (cCmp0 1 (eCall (.invokestatic 205) (lkS mf_X12_isLetter ms_X12_isLetter ml_X12_205 rfl (by decide) (by decide)) MX12_isLetter (aI (eLoc 3) aNil)))) (cCmp0 1 (eCall (.invokestatic 205) (lkS mf_X12_isLetter ms_X12_isLetter ml_X12_205 rfl (by decide) (by decide)) MX12_isLetter (aI (eCall (.invokevirtual 235) (lkV (T := TX12) (N := 77) mf_X12_here mv_X12_here ml_X12_235 rfl rfl rfl (by decide) (by decide)) MX12_here (aR (rLoc 0 0) aNil)) aNil)))) (pSeq (pIf 176 185 185 (cCmp 0 (eFld (rLoc 0 0) 226 12 30 0 fl_X12_226) (eBin 0 (eArr 0 144 (rFld (rLoc 0 0) 59 12 27 17 fl_X12_59) (eLoc 4)) (eLit 12))) (pDo (.invokevirtual 242) (lkV (T := TX12) (N := 77) mf_X12_wrongs mv_X12_wrongs ml_X12_242 rfl rfl rfl (by decide) (by decide)) MX12_wrongs (aR (rLoc 0 0) (aI (eLit 2) (aI (eFld (rLoc 0 0) 226 12 30 0 fl_X12_226) aNil)))) pSkip) (pPutOp (rLoc 0 0) 226 12 30 0 fw_X12_226 (eLit 1)))) (pAst 0 144 (rFld (rLoc 0 0) 62 12 28 18 fl_X12_62) (eLoc 4) (eFld (rLoc 0 0) 226 12 30 0 fl_X12_226)))))))))) (pRetV 210))
set_option maxRecDepth 100000 in
def MX12_token : MP wdM yX12_token cX12_token 5 (none) 1 [.inr 0, .inl 0, .inl 0] := mkM scX12_token yX12_token [.inr 0, .inl 0, .inl 0] bX12_token (by decide +kernel) rfl rfl (by decide) (by decide +kernel)
abbrev scX12_sheet : ik_SC := (wdM, cX12_sheet, 7, RX12, [(0, 0)], 2, some .int)
set_option maxRecDepth 100000 in
def bX12_sheet : SP scX12_sheet := (pSeq (pIf 43 45 45 (cOr 35 (cOr 23 (cOr 9 (cCmp 0 (eFld (rLoc 0 0) 177 12 4 0 fl_X12_177) (eLit 6)) (cNot (cCmp0 1 (eCall (.invokestatic 170) (lkS mf_X12_lies ms_X12_lies ml_X12_170 rfl (by decide) (by decide)) MX12_lies (aL (lI2l (eLoc 1)) (aL (lLdc 250 50 kc_X12_250) (aL (lLdc 252 5000 kc_X12_252) aNil))))))) (cNot (cCmp0 1 (eCall (.invokestatic 170) (lkS mf_X12_lies ms_X12_lies ml_X12_170 rfl (by decide) (by decide)) MX12_lies (aL (lI2l (eLoc 2)) (aL (lLit 1) (aL (lLdc 254 160 kc_X12_254) aNil))))))) (cCmp 4 (eLoc 2) (eFld (rLoc 0 0) 190 12 1 0 fl_X12_190))) (pRet 0 45 (eLit (-1))) pSkip) (pSeq (pPut (rLoc 0 0) 190 12 1 0 fw_X12_190 (eLit 0)) (pSeq (pPut (rLoc 0 0) 226 12 30 0 fw_X12_226 (eLit 0)) (pSeq (pPut (rLoc 0 0) 229 12 31 0 fw_X12_229 (eLoc 2)) (pSeq (pPut (rLoc 0 0) 232 12 32 0 fw_X12_232 (eLit 0)) (pSeq (pSet 3 (eLit 0)) (pSeq (pSet 4 (eLit 1)) (pSeq (pSet 5 (eLit 0)) (pSeq (pWh 85 200 200 (cAnd 78 (cCmp0 1 (eLoc 4)) (cCmp0 1 (eCall (.invokevirtual 246) (lkV (T := TX12) (N := 77) mf_X12_isGood mv_X12_isGood ml_X12_246 rfl rfl rfl (by decide) (by decide)) MX12_isGood (aR (rLoc 0 0) aNil)))) (pSeq (pDo (.invokevirtual 256) (lkV (T := TX12) (N := 77) mf_X12_token mv_X12_token ml_X12_256 rfl rfl rfl (by decide) (by decide)) MX12_token (aR (rLoc 0 0) (aI (eFld (rLoc 0 0) 177 12 4 0 fl_X12_177) (aI (eLoc 3) aNil)))) (pSeq (pIf 101 106 106 (cNot (cCmp0 1 (eCall (.invokevirtual 246) (lkV (T := TX12) (N := 77) mf_X12_isGood mv_X12_isGood ml_X12_246 rfl rfl rfl (by decide) (by decide)) MX12_isGood (aR (rLoc 0 0) aNil)))) (pRet 0 106 (eFld (rLoc 0 0) 232 12 32 0 fl_X12_232)) pSkip) (pSeq (pAst 3 144 (rFld (rLoc 0 0) 65 12 29 19 fl_X12_65) (eBin 0 (eBin 2 (eLit 24) (eFld (rLoc 0 0) 177 12 4 0 fl_X12_177)) (eLoc 3)) (eLoc 5)) (pSeq (pInc 3 1) (pSeq (pSet 4 (eIte 136 140 141 (cCmp 2 (eFld (rLoc 0 0) 226 12 30 0 fl_X12_226) (eFld (rLoc 0 0) 229 12 31 0 fl_X12_229)) (eLit 1) (eLit 0))) (pSeq (pSet 5 (eIte 152 156 157 (cCmp 0 (eCall (.invokevirtual 235) (lkV (T := TX12) (N := 77) mf_X12_here mv_X12_here ml_X12_235 rfl rfl rfl (by decide) (by decide)) MX12_here (aR (rLoc 0 0) aNil)) (eLit 47)) (eLit 1) (eLit 0))) (pSeq (pIf 178 187 187 (cAnd 173 (cAnd 164 (cCmp0 1 (eLoc 4)) (cCmp 1 (eCall (.invokevirtual 235) (lkV (T := TX12) (N := 77) mf_X12_here mv_X12_here ml_X12_235 rfl rfl rfl (by decide) (by decide)) MX12_here (aR (rLoc 0 0) aNil)) (eLit 32))) (cNot (cCmp0 1 (eLoc 5)))) (pDo (.invokevirtual 242) (lkV (T := TX12) (N := 77) mf_X12_wrongs mv_X12_wrongs ml_X12_242 rfl rfl rfl (by decide) (by decide)) MX12_wrongs (aR (rLoc 0 0) (aI (eLit 1) (aI (eFld (rLoc 0 0) 226 12 30 0 fl_X12_226) aNil)))) pSkip) (pPutOp (rLoc 0 0) 226 12 30 0 fw_X12_226 (eLit 1)))))))))) (pSeq (pIf 207 212 212 (cCmp0 2 (eFld (rLoc 0 0) 232 12 32 0 fl_X12_232)) (pRet 0 212 (eFld (rLoc 0 0) 232 12 32 0 fl_X12_232)) pSkip) (pSeq (pSeq (pSet 6 (eLit 0)) (pWh 221 250 250 (cCmp 2 (eLoc 6) (eLoc 2)) (pSeq (pAst 2 960 (rFld (rLoc 0 0) 53 12 25 15 fl_X12_53) (eBin 0 (eBin 2 (eLit 160) (eFld (rLoc 0 0) 177 12 4 0 fl_X12_177)) (eLoc 6)) (eArr 2 400 (rFld (rLoc 0 0) 7 12 0 1 fl_X12_7) (eLoc 6))) (pInc 6 1)))) (pSeq (pAst 0 6 (rFld (rLoc 0 0) 47 12 23 13 fl_X12_47) (eFld (rLoc 0 0) 177 12 4 0 fl_X12_177) (eLoc 1)) (pSeq (pAst 0 6 (rFld (rLoc 0 0) 50 12 24 14 fl_X12_50) (eFld (rLoc 0 0) 177 12 4 0 fl_X12_177) (eLoc 3)) (pSeq (pPutOp (rLoc 0 0) 177 12 4 0 fw_X12_177 (eLit 1)) (pRet 0 287 (eBin 1 (eFld (rLoc 0 0) 177 12 4 0 fl_X12_177) (eLit 1)))))))))))))))))
set_option maxRecDepth 100000 in
def MX12_sheet : MP wdM yX12_sheet cX12_sheet 7 (some .int) 2 [.inr 0, .inl 0, .inl 0] := mkM scX12_sheet yX12_sheet [.inr 0, .inl 0, .inl 0] bX12_sheet (by decide +kernel) rfl rfl (by decide) (by decide +kernel)
abbrev scX12_puts : ik_SC := (wdM, cX12_puts, 2, RX12, [(0, 0)], 0, none)
set_option maxRecDepth 100000 in
def bX12_puts : SP scX12_puts := (pSeq (pSeq (pAst 0 200 (rFld (rLoc 0 0) 105 12 52 32 fl_X12_105) (eFld (rLoc 0 0) 271 12 49 0 fl_X12_271) (eLoc 1)) (pSeq (pPutOp (rLoc 0 0) 271 12 49 0 fw_X12_271 (eLit 1)) (pPutOp (rLoc 0 0) 226 12 30 0 fw_X12_226 (eLit 1)))) (pRetV 31))
set_option maxRecDepth 100000 in
def MX12_puts : MP wdM yX12_puts cX12_puts 2 (none) 0 [.inr 0, .inl 0] := mkM scX12_puts yX12_puts [.inr 0, .inl 0] bX12_puts (by decide +kernel) rfl rfl (by decide) (by decide +kernel)
abbrev scX12_opens : ik_SC := (wdM, cX12_opens, 1, RX12, [(0, 0)], 1, none)
set_option maxRecDepth 100000 in
def bX12_opens : SP scX12_opens := (pSeq (pSeq (pIf 9 18 18 (cCmp 0 (eFld (rLoc 0 0) 274 12 48 0 fl_X12_274) (eLit 6)) (pDo (.invokevirtual 242) (lkV (T := TX12) (N := 77) mf_X12_wrongs mv_X12_wrongs ml_X12_242 rfl rfl rfl (by decide) (by decide)) MX12_wrongs (aR (rLoc 0 0) (aI (eLit 5) (aI (eFld (rLoc 0 0) 226 12 30 0 fl_X12_226) aNil)))) pSkip) (pSeq (pPutOp (rLoc 0 0) 274 12 48 0 fw_X12_274 (eLit 1)) (pDo (.invokevirtual 277) (lkV (T := TX12) (N := 77) mf_X12_puts mv_X12_puts ml_X12_277 rfl rfl rfl (by decide) (by decide)) MX12_puts (aR (rLoc 0 0) (aI (eCall (.invokevirtual 235) (lkV (T := TX12) (N := 77) mf_X12_here mv_X12_here ml_X12_235 rfl rfl rfl (by decide) (by decide)) MX12_here (aR (rLoc 0 0) aNil)) aNil))))) (pRetV 37))
set_option maxRecDepth 100000 in
def MX12_opens : MP wdM yX12_opens cX12_opens 1 (none) 1 [.inr 0] := mkM scX12_opens yX12_opens [.inr 0] bX12_opens (by decide +kernel) rfl rfl (by decide) (by decide +kernel)
abbrev scX12_reads : ik_SC := (wdM, cX12_reads, 3, RX12, [(0, 0)], 1, some .int)
set_option maxRecDepth 100000 in
def bX12_reads : SP scX12_reads := (pSeq (pSet 1 (eFld (rLoc 0 0) 226 12 30 0 fl_X12_226)) (pSeq (pSet 2 (eLit 0)) (pSeq (pWh 24 69 69 (cAnd 14 (cCmp0 1 (eCall (.invokevirtual 246) (lkV (T := TX12) (N := 77) mf_X12_isGood mv_X12_isGood ml_X12_246 rfl rfl rfl (by decide) (by decide)) MX12_isGood (aR (rLoc 0 0) aNil))) (cCmp0 1 (eCall (.invokestatic 239) (lkS mf_X12_isDigit ms_X12_isDigit ml_X12_239 rfl (by decide) (by decide)) MX12_isDigit (aI (eCall (.invokevirtual 235) (lkV (T := TX12) (N := 77) mf_X12_here mv_X12_here ml_X12_235 rfl rfl rfl (by decide) (by decide)) MX12_here (aR (rLoc 0 0) aNil)) aNil)))) (pSeq (pIf 34 43 43 (cCmp 0 (eFld (rLoc 0 0) 226 12 30 0 fl_X12_226) (eBin 0 (eLoc 1) (eLit 5))) (pDo (.invokevirtual 242) (lkV (T := TX12) (N := 77) mf_X12_wrongs mv_X12_wrongs ml_X12_242 rfl rfl rfl (by decide) (by decide)) MX12_wrongs (aR (rLoc 0 0) (aI (eLit 2) (aI (eFld (rLoc 0 0) 226 12 30 0 fl_X12_226) aNil)))) pSkip) (pSeq (pSet 2 (eBin 1 (eBin 0 (eBin 2 (eLit 10) (eLoc 2)) (eCall (.invokevirtual 235) (lkV (T := TX12) (N := 77) mf_X12_here mv_X12_here ml_X12_235 rfl rfl rfl (by decide) (by decide)) MX12_here (aR (rLoc 0 0) aNil))) (eLit 48))) (pPutOp (rLoc 0 0) 226 12 30 0 fw_X12_226 (eLit 1))))) (pRet 0 71 (eLoc 2)))))
set_option maxRecDepth 100000 in
def MX12_reads : MP wdM yX12_reads cX12_reads 3 (some .int) 1 [.inr 0] := mkM scX12_reads yX12_reads [.inr 0] bX12_reads (by decide +kernel) rfl rfl (by decide) (by decide +kernel)
abbrev scX12_emit : ik_SC := (wdM, cX12_emit, 3, RX12, [(0, 0)], 1, none)
set_option maxRecDepth 100000 in
def bX12_emit : SP scX12_emit := (pSeq (pSeq (pIf 7 8 8 (cNot (cCmp0 1 (eCall (.invokevirtual 246) (lkV (T := TX12) (N := 77) mf_X12_isGood mv_X12_isGood ml_X12_246 rfl rfl rfl (by decide) (by decide)) MX12_isGood (aR (rLoc 0 0) aNil)))) (pRetV 8) pSkip) (pSeq (pAst 0 160 (rFld (rLoc 0 0) 99 12 44 30 fl_X12_99) (eFld (rLoc 0 0) 268 12 47 0 fl_X12_268) (eLoc 1)) (pSeq (pAst 0 160 (rFld (rLoc 0 0) 102 12 45 31 fl_X12_102) (eFld (rLoc 0 0) 268 12 47 0 fl_X12_268) (eLoc 2)) (pPutOp (rLoc 0 0) 268 12 47 0 fw_X12_268 (eLit 1))))) (pRetV 39))
set_option maxRecDepth 100000 in
def MX12_emit : MP wdM yX12_emit cX12_emit 3 (none) 1 [.inr 0, .inl 0, .inl 0] := mkM scX12_emit yX12_emit [.inr 0, .inl 0, .inl 0] bX12_emit (by decide +kernel) rfl rfl (by decide) (by decide +kernel)
abbrev scX12_isValue : ik_SC := (wdM, cX12_isValue, 1, RX12, [], 0, some .boolean)
set_option maxRecDepth 100000 in
def bX12_isValue : SP scX12_isValue := (pRet 3 60 (eIte 54 58 59 (cOr 48 (cOr 42 (cOr 36 (cOr 30 (cOr 24 (cOr 18 (cOr 12 (cOr 6 (cCmp 0 (eLoc 0) (eLit 105)) (cCmp 0 (eLoc 0) (eLit 119))) (cCmp 0 (eLoc 0) (eLit 110))) (cCmp 0 (eLoc 0) (eLit 115))) (cCmp 0 (eLoc 0) (eLit 121))) (cCmp 0 (eLoc 0) (eLit 122))) (cCmp 0 (eLoc 0) (eLit 118))) (cCmp 0 (eLoc 0) (eLit 97))) (cCmp 0 (eLoc 0) (eLit 98))) (eLit 1) (eLit 0)))
set_option maxRecDepth 100000 in
def MX12_isValue : MP wdM yX12_isValue cX12_isValue 1 (some .boolean) 0 [.inl 0] := mkM scX12_isValue yX12_isValue [.inl 0] bX12_isValue (by decide +kernel) rfl rfl (by decide) (by decide +kernel)
abbrev scX12_factor : ik_SC := (wdM, cX12_factor, 1, RX12, [(0, 0)], 2, none)
set_option maxRecDepth 100000 in
def bX12_factor : SP scX12_factor := (pSeq (pSeq (pWh 16 23 23 (cAnd 7 (cCmp0 1 (eCall (.invokevirtual 246) (lkV (T := TX12) (N := 77) mf_X12_isGood mv_X12_isGood ml_X12_246 rfl rfl rfl (by decide) (by decide)) MX12_isGood (aR (rLoc 0 0) aNil))) (cCmp 0 (eCall (.invokevirtual 235) (lkV (T := TX12) (N := 77) mf_X12_here mv_X12_here ml_X12_235 rfl rfl rfl (by decide) (by decide)) MX12_here (aR (rLoc 0 0) aNil)) (eLit 91))) (pDo (.invokevirtual 292) (lkV (T := TX12) (N := 77) mf_X12_opens mv_X12_opens ml_X12_292 rfl rfl rfl (by decide) (by decide)) MX12_opens (aR (rLoc 0 0) aNil))) (pSeq (pIf 30 31 31 (cNot (cCmp0 1 (eCall (.invokevirtual 246) (lkV (T := TX12) (N := 77) mf_X12_isGood mv_X12_isGood ml_X12_246 rfl rfl rfl (by decide) (by decide)) MX12_isGood (aR (rLoc 0 0) aNil)))) (pRetV 31) pSkip) (pIf 41 53 94 (cCmp0 1 (eCall (.invokestatic 239) (lkS mf_X12_isDigit ms_X12_isDigit ml_X12_239 rfl (by decide) (by decide)) MX12_isDigit (aI (eCall (.invokevirtual 235) (lkV (T := TX12) (N := 77) mf_X12_here mv_X12_here ml_X12_235 rfl rfl rfl (by decide) (by decide)) MX12_here (aR (rLoc 0 0) aNil)) aNil))) (pDo (.invokevirtual 289) (lkV (T := TX12) (N := 77) mf_X12_emit mv_X12_emit ml_X12_289 rfl rfl rfl (by decide) (by decide)) MX12_emit (aR (rLoc 0 0) (aI (eLit 0) (aI (eCall (.invokevirtual 295) (lkV (T := TX12) (N := 77) mf_X12_reads mv_X12_reads ml_X12_295 rfl rfl rfl (by decide) (by decide)) MX12_reads (aR (rLoc 0 0) aNil)) aNil)))) (pIf 63 85 94 (cCmp0 1 (eCall (.invokestatic 298) (lkS mf_X12_isValue ms_X12_isValue ml_X12_298 rfl (by decide) (by decide)) MX12_isValue (aI (eCall (.invokevirtual 235) (lkV (T := TX12) (N := 77) mf_X12_here mv_X12_here ml_X12_235 rfl rfl rfl (by decide) (by decide)) MX12_here (aR (rLoc 0 0) aNil)) aNil))) (pSeq (pDo (.invokevirtual 289) (lkV (T := TX12) (N := 77) mf_X12_emit mv_X12_emit ml_X12_289 rfl rfl rfl (by decide) (by decide)) MX12_emit (aR (rLoc 0 0) (aI (eLit 1) (aI (eCall (.invokevirtual 235) (lkV (T := TX12) (N := 77) mf_X12_here mv_X12_here ml_X12_235 rfl rfl rfl (by decide) (by decide)) MX12_here (aR (rLoc 0 0) aNil)) aNil)))) (pPutOp (rLoc 0 0) 226 12 30 0 fw_X12_226 (eLit 1))) (pDo (.invokevirtual 242) (lkV (T := TX12) (N := 77) mf_X12_wrongs mv_X12_wrongs ml_X12_242 rfl rfl rfl (by decide) (by decide)) MX12_wrongs (aR (rLoc 0 0) (aI (eLit 1) (aI (eFld (rLoc 0 0) 226 12 30 0 fl_X12_226) aNil)))))))) (pRetV 95))
set_option maxRecDepth 100000 in
def MX12_factor : MP wdM yX12_factor cX12_factor 1 (none) 2 [.inr 0] := mkM scX12_factor yX12_factor [.inr 0] bX12_factor (by decide +kernel) rfl rfl (by decide) (by decide +kernel)
abbrev scX12_isTimes : ik_SC := (wdM, cX12_isTimes, 1, RX12, [], 0, some .boolean)
set_option maxRecDepth 100000 in
def bX12_isTimes : SP scX12_isTimes := (pRet 3 24 (eIte 18 22 23 (cOr 12 (cOr 6 (cCmp 0 (eLoc 0) (eLit 42)) (cCmp 0 (eLoc 0) (eLit 47))) (cCmp 0 (eLoc 0) (eLit 37))) (eLit 1) (eLit 0)))
set_option maxRecDepth 100000 in
def MX12_isTimes : MP wdM yX12_isTimes cX12_isTimes 1 (some .boolean) 0 [.inl 0] := mkM scX12_isTimes yX12_isTimes [.inl 0] bX12_isTimes (by decide +kernel) rfl rfl (by decide) (by decide +kernel)
abbrev scX12_isPlus : ik_SC := (wdM, cX12_isPlus, 1, RX12, [], 0, some .boolean)
set_option maxRecDepth 100000 in
def bX12_isPlus : SP scX12_isPlus := (pRet 3 18 (eIte 12 16 17 (cOr 6 (cCmp 0 (eLoc 0) (eLit 43)) (cCmp 0 (eLoc 0) (eLit 45))) (eLit 1) (eLit 0)))
set_option maxRecDepth 100000 in
def MX12_isPlus : MP wdM yX12_isPlus cX12_isPlus 1 (some .boolean) 0 [.inl 0] := mkM scX12_isPlus yX12_isPlus [.inl 0] bX12_isPlus (by decide +kernel) rfl rfl (by decide) (by decide +kernel)
abbrev scX12_top : ik_SC := (wdM, cX12_top, 1, RX12, [(0, 0)], 0, some .int)
set_option maxRecDepth 100000 in
def bX12_top : SP scX12_top := (pRet 0 23 (eIte 7 21 22 (cCmp0 4 (eFld (rLoc 0 0) 271 12 49 0 fl_X12_271)) (eArr 0 200 (rFld (rLoc 0 0) 105 12 52 32 fl_X12_105) (eBin 1 (eFld (rLoc 0 0) 271 12 49 0 fl_X12_271) (eLit 1))) (eLit 0)))
set_option maxRecDepth 100000 in
def MX12_top : MP wdM yX12_top cX12_top 1 (some .int) 0 [.inr 0] := mkM scX12_top yX12_top [.inr 0] bX12_top (by decide +kernel) rfl rfl (by decide) (by decide +kernel)
abbrev scX12_sums : ik_SC := (wdM, cX12_sums, 2, RX12, [(0, 0)], 2, none)
set_option maxRecDepth 100000 in
def bX12_sums : SP scX12_sums := (pSeq (pWh 24 46 46 (cOr 10 (cCmp0 1 (eCall (.invokestatic 283) (lkS mf_X12_isTimes ms_X12_isTimes ml_X12_283 rfl (by decide) (by decide)) MX12_isTimes (aI (eCall (.invokevirtual 280) (lkV (T := TX12) (N := 77) mf_X12_top mv_X12_top ml_X12_280 rfl rfl rfl (by decide) (by decide)) MX12_top (aR (rLoc 0 0) aNil)) aNil))) (cAnd 14 (cCmp0 1 (eLoc 1)) (cCmp0 1 (eCall (.invokestatic 286) (lkS mf_X12_isPlus ms_X12_isPlus ml_X12_286 rfl (by decide) (by decide)) MX12_isPlus (aI (eCall (.invokevirtual 280) (lkV (T := TX12) (N := 77) mf_X12_top mv_X12_top ml_X12_280 rfl rfl rfl (by decide) (by decide)) MX12_top (aR (rLoc 0 0) aNil)) aNil))))) (pSeq (pDo (.invokevirtual 289) (lkV (T := TX12) (N := 77) mf_X12_emit mv_X12_emit ml_X12_289 rfl rfl rfl (by decide) (by decide)) MX12_emit (aR (rLoc 0 0) (aI (eCall (.invokevirtual 280) (lkV (T := TX12) (N := 77) mf_X12_top mv_X12_top ml_X12_280 rfl rfl rfl (by decide) (by decide)) MX12_top (aR (rLoc 0 0) aNil)) (aI (eLit 0) aNil)))) (pPutOp (rLoc 0 0) 271 12 49 1 fw_X12_271 (eLit 1)))) (pRetV 47))
set_option maxRecDepth 100000 in
def MX12_sums : MP wdM yX12_sums cX12_sums 2 (none) 2 [.inr 0, .inl 0] := mkM scX12_sums yX12_sums [.inr 0, .inl 0] bX12_sums (by decide +kernel) rfl rfl (by decide) (by decide +kernel)
abbrev scX12_isSign : ik_SC := (wdM, cX12_isSign, 1, RX12, [], 0, some .boolean)
set_option maxRecDepth 100000 in
def bX12_isSign : SP scX12_isSign := (pRet 3 24 (eIte 18 22 23 (cOr 12 (cOr 6 (cCmp 0 (eLoc 0) (eLit 60)) (cCmp 0 (eLoc 0) (eLit 62))) (cCmp 0 (eLoc 0) (eLit 61))) (eLit 1) (eLit 0)))
set_option maxRecDepth 100000 in
def MX12_isSign : MP wdM yX12_isSign cX12_isSign 1 (some .boolean) 0 [.inl 0] := mkM scX12_isSign yX12_isSign [.inl 0] bX12_isSign (by decide +kernel) rfl rfl (by decide) (by decide +kernel)
abbrev scX12_goesOn : ik_SC := (wdM, cX12_goesOn, 2, RX12, [(0, 0)], 3, some .boolean)
set_option maxRecDepth 100000 in
def bX12_goesOn : SP scX12_goesOn := (pSeq (pSet 1 (eCall (.invokevirtual 235) (lkV (T := TX12) (N := 77) mf_X12_here mv_X12_here ml_X12_235 rfl rfl rfl (by decide) (by decide)) MX12_here (aR (rLoc 0 0) aNil))) (pSeq (pIf 19 34 34 (cOr 12 (cCmp0 1 (eCall (.invokestatic 283) (lkS mf_X12_isTimes ms_X12_isTimes ml_X12_283 rfl (by decide) (by decide)) MX12_isTimes (aI (eLoc 1) aNil))) (cCmp0 1 (eCall (.invokestatic 286) (lkS mf_X12_isPlus ms_X12_isPlus ml_X12_286 rfl (by decide) (by decide)) MX12_isPlus (aI (eLoc 1) aNil)))) (pSeq (pDo (.invokevirtual 301) (lkV (T := TX12) (N := 77) mf_X12_sums mv_X12_sums ml_X12_301 rfl rfl rfl (by decide) (by decide)) MX12_sums (aR (rLoc 0 0) (aI (eCall (.invokestatic 286) (lkS mf_X12_isPlus ms_X12_isPlus ml_X12_286 rfl (by decide) (by decide)) MX12_isPlus (aI (eLoc 1) aNil)) aNil))) (pSeq (pDo (.invokevirtual 277) (lkV (T := TX12) (N := 77) mf_X12_puts mv_X12_puts ml_X12_277 rfl rfl rfl (by decide) (by decide)) MX12_puts (aR (rLoc 0 0) (aI (eLoc 1) aNil))) (pRet 3 34 (eLit 1)))) pSkip) (pSeq (pDo (.invokevirtual 301) (lkV (T := TX12) (N := 77) mf_X12_sums mv_X12_sums ml_X12_301 rfl rfl rfl (by decide) (by decide)) MX12_sums (aR (rLoc 0 0) (aI (eLit 1) aNil))) (pSeq (pIf 45 102 102 (cCmp 0 (eLoc 1) (eLit 93)) (pSeq (pIf 54 65 65 (cCmp 1 (eCall (.invokevirtual 280) (lkV (T := TX12) (N := 77) mf_X12_top mv_X12_top ml_X12_280 rfl rfl rfl (by decide) (by decide)) MX12_top (aR (rLoc 0 0) aNil)) (eLit 91)) (pSeq (pDo (.invokevirtual 242) (lkV (T := TX12) (N := 77) mf_X12_wrongs mv_X12_wrongs ml_X12_242 rfl rfl rfl (by decide) (by decide)) MX12_wrongs (aR (rLoc 0 0) (aI (eLit 1) (aI (eFld (rLoc 0 0) 226 12 30 0 fl_X12_226) aNil)))) (pRet 3 65 (eLit 0))) pSkip) (pSeq (pPutOp (rLoc 0 0) 271 12 49 1 fw_X12_271 (eLit 1)) (pSeq (pPutOp (rLoc 0 0) 274 12 48 1 fw_X12_274 (eLit 1)) (pSeq (pPutOp (rLoc 0 0) 226 12 30 0 fw_X12_226 (eLit 1)) (pSeq (pPut (rLoc 0 0) 305 12 51 3 fw_X12_305 (eLit 1)) (pRet 3 102 (eLit 1))))))) pSkip) (pSeq (pIf 109 144 144 (cCmp0 1 (eCall (.invokestatic 309) (lkS mf_X12_isSign ms_X12_isSign ml_X12_309 rfl (by decide) (by decide)) MX12_isSign (aI (eLoc 1) aNil))) (pSeq (pIf 128 137 137 (cOr 118 (cCmp 0 (eCall (.invokevirtual 280) (lkV (T := TX12) (N := 77) mf_X12_top mv_X12_top ml_X12_280 rfl rfl rfl (by decide) (by decide)) MX12_top (aR (rLoc 0 0) aNil)) (eLit 91)) (cCmp0 1 (eCall (.invokestatic 309) (lkS mf_X12_isSign ms_X12_isSign ml_X12_309 rfl (by decide) (by decide)) MX12_isSign (aI (eCall (.invokevirtual 280) (lkV (T := TX12) (N := 77) mf_X12_top mv_X12_top ml_X12_280 rfl rfl rfl (by decide) (by decide)) MX12_top (aR (rLoc 0 0) aNil)) aNil)))) (pDo (.invokevirtual 242) (lkV (T := TX12) (N := 77) mf_X12_wrongs mv_X12_wrongs ml_X12_242 rfl rfl rfl (by decide) (by decide)) MX12_wrongs (aR (rLoc 0 0) (aI (eLit 1) (aI (eFld (rLoc 0 0) 226 12 30 0 fl_X12_226) aNil)))) pSkip) (pSeq (pDo (.invokevirtual 277) (lkV (T := TX12) (N := 77) mf_X12_puts mv_X12_puts ml_X12_277 rfl rfl rfl (by decide) (by decide)) MX12_puts (aR (rLoc 0 0) (aI (eLoc 1) aNil))) (pRet 3 144 (eLit 1)))) pSkip) (pSeq (pIf 154 176 185 (cCmp0 1 (eCall (.invokestatic 309) (lkS mf_X12_isSign ms_X12_isSign ml_X12_309 rfl (by decide) (by decide)) MX12_isSign (aI (eCall (.invokevirtual 280) (lkV (T := TX12) (N := 77) mf_X12_top mv_X12_top ml_X12_280 rfl rfl rfl (by decide) (by decide)) MX12_top (aR (rLoc 0 0) aNil)) aNil))) (pSeq (pDo (.invokevirtual 289) (lkV (T := TX12) (N := 77) mf_X12_emit mv_X12_emit ml_X12_289 rfl rfl rfl (by decide) (by decide)) MX12_emit (aR (rLoc 0 0) (aI (eCall (.invokevirtual 280) (lkV (T := TX12) (N := 77) mf_X12_top mv_X12_top ml_X12_280 rfl rfl rfl (by decide) (by decide)) MX12_top (aR (rLoc 0 0) aNil)) (aI (eLit 0) aNil)))) (pPutOp (rLoc 0 0) 271 12 49 1 fw_X12_271 (eLit 1))) (pDo (.invokevirtual 242) (lkV (T := TX12) (N := 77) mf_X12_wrongs mv_X12_wrongs ml_X12_242 rfl rfl rfl (by decide) (by decide)) MX12_wrongs (aR (rLoc 0 0) (aI (eLit 1) (aI (eFld (rLoc 0 0) 226 12 30 0 fl_X12_226) aNil))))) (pRet 3 187 (eLit 0))))))))
set_option maxRecDepth 100000 in
def MX12_goesOn : MP wdM yX12_goesOn cX12_goesOn 2 (some .boolean) 3 [.inr 0] := mkM scX12_goesOn yX12_goesOn [.inr 0] bX12_goesOn (by decide +kernel) rfl rfl (by decide) (by decide +kernel)
abbrev scX12_ends : ik_SC := (wdM, cX12_ends, 1, RX12, [(0, 0)], 2, none)
set_option maxRecDepth 100000 in
def bX12_ends : SP scX12_ends := (pSeq (pWh 9 38 38 (cCmp 0 (eCall (.invokevirtual 280) (lkV (T := TX12) (N := 77) mf_X12_top mv_X12_top ml_X12_280 rfl rfl rfl (by decide) (by decide)) MX12_top (aR (rLoc 0 0) aNil)) (eLit 33)) (pSeq (pDo (.invokevirtual 289) (lkV (T := TX12) (N := 77) mf_X12_emit mv_X12_emit ml_X12_289 rfl rfl rfl (by decide) (by decide)) MX12_emit (aR (rLoc 0 0) (aI (eLit 2) (aI (eLit 0) aNil)))) (pSeq (pPutOp (rLoc 0 0) 271 12 49 1 fw_X12_271 (eLit 1)) (pPutOp (rLoc 0 0) 274 12 48 1 fw_X12_274 (eLit 1))))) (pRetV 39))
set_option maxRecDepth 100000 in
def MX12_ends : MP wdM yX12_ends cX12_ends 1 (none) 2 [.inr 0] := mkM scX12_ends yX12_ends [.inr 0] bX12_ends (by decide +kernel) rfl rfl (by decide) (by decide +kernel)
abbrev scX12_pieceOfC : ik_SC := (wdM, cX12_pieceOfC, 2, RX12, [(0, 0)], 4, none)
set_option maxRecDepth 100000 in
def bX12_pieceOfC : SP scX12_pieceOfC := (pSeq (pSeq (pWh 25 32 32 (cAnd 7 (cCmp0 1 (eCall (.invokevirtual 246) (lkV (T := TX12) (N := 77) mf_X12_isGood mv_X12_isGood ml_X12_246 rfl rfl rfl (by decide) (by decide)) MX12_isGood (aR (rLoc 0 0) aNil))) (cOr 16 (cCmp 0 (eCall (.invokevirtual 235) (lkV (T := TX12) (N := 77) mf_X12_here mv_X12_here ml_X12_235 rfl rfl rfl (by decide) (by decide)) MX12_here (aR (rLoc 0 0) aNil)) (eLit 33)) (cCmp 0 (eCall (.invokevirtual 235) (lkV (T := TX12) (N := 77) mf_X12_here mv_X12_here ml_X12_235 rfl rfl rfl (by decide) (by decide)) MX12_here (aR (rLoc 0 0) aNil)) (eLit 40)))) (pDo (.invokevirtual 292) (lkV (T := TX12) (N := 77) mf_X12_opens mv_X12_opens ml_X12_292 rfl rfl rfl (by decide) (by decide)) MX12_opens (aR (rLoc 0 0) aNil))) (pSeq (pSet 1 (eLit 1)) (pSeq (pPut (rLoc 0 0) 305 12 51 3 fw_X12_305 (eLit 0)) (pSeq (pWh 50 89 89 (cAnd 43 (cCmp0 1 (eLoc 1)) (cCmp0 1 (eCall (.invokevirtual 246) (lkV (T := TX12) (N := 77) mf_X12_isGood mv_X12_isGood ml_X12_246 rfl rfl rfl (by decide) (by decide)) MX12_isGood (aR (rLoc 0 0) aNil)))) (pSeq (pIf 57 61 61 (cNot (cCmp0 1 (eFld (rLoc 0 0) 305 12 51 3 fl_X12_305))) (pDo (.invokevirtual 312) (lkV (T := TX12) (N := 77) mf_X12_factor mv_X12_factor ml_X12_312 rfl rfl rfl (by decide) (by decide)) MX12_factor (aR (rLoc 0 0) aNil)) pSkip) (pSeq (pPut (rLoc 0 0) 305 12 51 3 fw_X12_305 (eLit 0)) (pSet 1 (eIte 80 84 85 (cAnd 73 (cCmp0 1 (eCall (.invokevirtual 246) (lkV (T := TX12) (N := 77) mf_X12_isGood mv_X12_isGood ml_X12_246 rfl rfl rfl (by decide) (by decide)) MX12_isGood (aR (rLoc 0 0) aNil))) (cCmp0 1 (eCall (.invokevirtual 315) (lkV (T := TX12) (N := 77) mf_X12_goesOn mv_X12_goesOn ml_X12_315 rfl rfl rfl (by decide) (by decide)) MX12_goesOn (aR (rLoc 0 0) aNil)))) (eLit 1) (eLit 0)))))) (pIf 96 100 100 (cCmp0 1 (eCall (.invokevirtual 246) (lkV (T := TX12) (N := 77) mf_X12_isGood mv_X12_isGood ml_X12_246 rfl rfl rfl (by decide) (by decide)) MX12_isGood (aR (rLoc 0 0) aNil))) (pDo (.invokevirtual 318) (lkV (T := TX12) (N := 77) mf_X12_ends mv_X12_ends ml_X12_318 rfl rfl rfl (by decide) (by decide)) MX12_ends (aR (rLoc 0 0) aNil)) pSkip))))) (pRetV 101))
set_option maxRecDepth 100000 in
def MX12_pieceOfC : MP wdM yX12_pieceOfC cX12_pieceOfC 2 (none) 4 [.inr 0] := mkM scX12_pieceOfC yX12_pieceOfC [.inr 0] bX12_pieceOfC (by decide +kernel) rfl rfl (by decide) (by decide +kernel)
abbrev scX12_joins : ik_SC := (wdM, cX12_joins, 2, RX12, [(0, 0)], 2, none)
set_option maxRecDepth 100000 in
def bX12_joins : SP scX12_joins := (pSeq (pWh 22 44 44 (cOr 9 (cCmp 0 (eCall (.invokevirtual 280) (lkV (T := TX12) (N := 77) mf_X12_top mv_X12_top ml_X12_280 rfl rfl rfl (by decide) (by decide)) MX12_top (aR (rLoc 0 0) aNil)) (eLit 38)) (cAnd 13 (cCmp0 1 (eLoc 1)) (cCmp 0 (eCall (.invokevirtual 280) (lkV (T := TX12) (N := 77) mf_X12_top mv_X12_top ml_X12_280 rfl rfl rfl (by decide) (by decide)) MX12_top (aR (rLoc 0 0) aNil)) (eLit 124)))) (pSeq (pDo (.invokevirtual 289) (lkV (T := TX12) (N := 77) mf_X12_emit mv_X12_emit ml_X12_289 rfl rfl rfl (by decide) (by decide)) MX12_emit (aR (rLoc 0 0) (aI (eCall (.invokevirtual 280) (lkV (T := TX12) (N := 77) mf_X12_top mv_X12_top ml_X12_280 rfl rfl rfl (by decide) (by decide)) MX12_top (aR (rLoc 0 0) aNil)) (aI (eLit 0) aNil)))) (pPutOp (rLoc 0 0) 271 12 49 1 fw_X12_271 (eLit 1)))) (pRetV 45))
set_option maxRecDepth 100000 in
def MX12_joins : MP wdM yX12_joins cX12_joins 2 (none) 2 [.inr 0, .inl 0] := mkM scX12_joins yX12_joins [.inr 0, .inl 0] bX12_joins (by decide +kernel) rfl rfl (by decide) (by decide +kernel)
abbrev scX12_goesBehind : ik_SC := (wdM, cX12_goesBehind, 2, RX12, [(0, 0)], 3, some .boolean)
set_option maxRecDepth 100000 in
def bX12_goesBehind : SP scX12_goesBehind := (pSeq (pSet 1 (eCall (.invokevirtual 235) (lkV (T := TX12) (N := 77) mf_X12_here mv_X12_here ml_X12_235 rfl rfl rfl (by decide) (by decide)) MX12_here (aR (rLoc 0 0) aNil))) (pSeq (pIf 17 39 39 (cOr 11 (cCmp 0 (eLoc 1) (eLit 38)) (cCmp 0 (eLoc 1) (eLit 124))) (pSeq (pDo (.invokevirtual 321) (lkV (T := TX12) (N := 77) mf_X12_joins mv_X12_joins ml_X12_321 rfl rfl rfl (by decide) (by decide)) MX12_joins (aR (rLoc 0 0) (aI (eIte 24 28 29 (cCmp 0 (eLoc 1) (eLit 124)) (eLit 1) (eLit 0)) aNil))) (pSeq (pDo (.invokevirtual 277) (lkV (T := TX12) (N := 77) mf_X12_puts mv_X12_puts ml_X12_277 rfl rfl rfl (by decide) (by decide)) MX12_puts (aR (rLoc 0 0) (aI (eLoc 1) aNil))) (pRet 3 39 (eLit 1)))) pSkip) (pSeq (pIf 45 56 56 (cCmp 1 (eLoc 1) (eLit 41)) (pSeq (pDo (.invokevirtual 242) (lkV (T := TX12) (N := 77) mf_X12_wrongs mv_X12_wrongs ml_X12_242 rfl rfl rfl (by decide) (by decide)) MX12_wrongs (aR (rLoc 0 0) (aI (eLit 1) (aI (eFld (rLoc 0 0) 226 12 30 0 fl_X12_226) aNil)))) (pRet 3 56 (eLit 0))) pSkip) (pSeq (pDo (.invokevirtual 321) (lkV (T := TX12) (N := 77) mf_X12_joins mv_X12_joins ml_X12_321 rfl rfl rfl (by decide) (by decide)) MX12_joins (aR (rLoc 0 0) (aI (eLit 1) aNil))) (pSeq (pPutOp (rLoc 0 0) 271 12 49 1 fw_X12_271 (eLit 1)) (pSeq (pPutOp (rLoc 0 0) 274 12 48 1 fw_X12_274 (eLit 1)) (pSeq (pPutOp (rLoc 0 0) 226 12 30 0 fw_X12_226 (eLit 1)) (pSeq (pPut (rLoc 0 0) 324 12 50 3 fw_X12_324 (eIte 99 103 104 (cCmp0 0 (eFld (rLoc 0 0) 271 12 49 0 fl_X12_271)) (eLit 1) (eLit 0))) (pSeq (pIf 114 118 118 (cNot (cCmp0 1 (eFld (rLoc 0 0) 324 12 50 3 fl_X12_324))) (pDo (.invokevirtual 318) (lkV (T := TX12) (N := 77) mf_X12_ends mv_X12_ends ml_X12_318 rfl rfl rfl (by decide) (by decide)) MX12_ends (aR (rLoc 0 0) aNil)) pSkip) (pRet 3 120 (eLit 0)))))))))))
set_option maxRecDepth 100000 in
def MX12_goesBehind : MP wdM yX12_goesBehind cX12_goesBehind 2 (some .boolean) 3 [.inr 0] := mkM scX12_goesBehind yX12_goesBehind [.inr 0] bX12_goesBehind (by decide +kernel) rfl rfl (by decide) (by decide +kernel)
abbrev scX12_condition : ik_SC := (wdM, cX12_condition, 2, RX12, [(0, 0)], 5, none)
set_option maxRecDepth 100000 in
def bX12_condition : SP scX12_condition := (pSeq (pSeq (pPut (rLoc 0 0) 271 12 49 0 fw_X12_271 (eLit 0)) (pSeq (pPut (rLoc 0 0) 274 12 48 0 fw_X12_274 (eLit 0)) (pSeq (pPut (rLoc 0 0) 324 12 50 3 fw_X12_324 (eLit 0)) (pSeq (pIf 24 33 33 (cCmp 1 (eCall (.invokevirtual 235) (lkV (T := TX12) (N := 77) mf_X12_here mv_X12_here ml_X12_235 rfl rfl rfl (by decide) (by decide)) MX12_here (aR (rLoc 0 0) aNil)) (eLit 40)) (pDo (.invokevirtual 242) (lkV (T := TX12) (N := 77) mf_X12_wrongs mv_X12_wrongs ml_X12_242 rfl rfl rfl (by decide) (by decide)) MX12_wrongs (aR (rLoc 0 0) (aI (eLit 1) (aI (eFld (rLoc 0 0) 226 12 30 0 fl_X12_226) aNil)))) pSkip) (pSeq (pIf 40 41 41 (cNot (cCmp0 1 (eCall (.invokevirtual 246) (lkV (T := TX12) (N := 77) mf_X12_isGood mv_X12_isGood ml_X12_246 rfl rfl rfl (by decide) (by decide)) MX12_isGood (aR (rLoc 0 0) aNil)))) (pRetV 41) pSkip) (pSeq (pDo (.invokevirtual 292) (lkV (T := TX12) (N := 77) mf_X12_opens mv_X12_opens ml_X12_292 rfl rfl rfl (by decide) (by decide)) MX12_opens (aR (rLoc 0 0) aNil)) (pSeq (pSet 1 (eLit 1)) (pWh 61 84 84 (cAnd 54 (cCmp0 1 (eCall (.invokevirtual 246) (lkV (T := TX12) (N := 77) mf_X12_isGood mv_X12_isGood ml_X12_246 rfl rfl rfl (by decide) (by decide)) MX12_isGood (aR (rLoc 0 0) aNil))) (cNot (cCmp0 1 (eFld (rLoc 0 0) 324 12 50 3 fl_X12_324)))) (pSeq (pIf 65 69 69 (cCmp0 1 (eLoc 1)) (pDo (.invokevirtual 327) (lkV (T := TX12) (N := 77) mf_X12_pieceOfC mv_X12_pieceOfC ml_X12_327 rfl rfl rfl (by decide) (by decide)) MX12_pieceOfC (aR (rLoc 0 0) aNil)) pSkip) (pIf 76 47 47 (cCmp0 1 (eCall (.invokevirtual 246) (lkV (T := TX12) (N := 77) mf_X12_isGood mv_X12_isGood ml_X12_246 rfl rfl rfl (by decide) (by decide)) MX12_isGood (aR (rLoc 0 0) aNil))) (pSet 1 (eCall (.invokevirtual 330) (lkV (T := TX12) (N := 77) mf_X12_goesBehind mv_X12_goesBehind ml_X12_330 rfl rfl rfl (by decide) (by decide)) MX12_goesBehind (aR (rLoc 0 0) aNil))) pSkip)))))))))) (pRetV 85))
set_option maxRecDepth 100000 in
def MX12_condition : MP wdM yX12_condition cX12_condition 2 (none) 5 [.inr 0] := mkM scX12_condition yX12_condition [.inr 0] bX12_condition (by decide +kernel) rfl rfl (by decide) (by decide +kernel)
abbrev scX12_clause : ik_SC := (wdM, cX12_clause, 2, RX12, [(0, 0)], 6, none)
set_option maxRecDepth 100000 in
def bX12_clause : SP scX12_clause := (pSeq (pSeq (pSet 1 (eCall (.invokevirtual 235) (lkV (T := TX12) (N := 77) mf_X12_here mv_X12_here ml_X12_235 rfl rfl rfl (by decide) (by decide)) MX12_here (aR (rLoc 0 0) aNil))) (pSeq (pIf 12 24 62 (cNot (cCmp0 1 (eCall (.invokestatic 239) (lkS mf_X12_isDigit ms_X12_isDigit ml_X12_239 rfl (by decide) (by decide)) MX12_isDigit (aI (eLoc 1) aNil)))) (pDo (.invokevirtual 242) (lkV (T := TX12) (N := 77) mf_X12_wrongs mv_X12_wrongs ml_X12_242 rfl rfl rfl (by decide) (by decide)) MX12_wrongs (aR (rLoc 0 0) (aI (eLit 1) (aI (eFld (rLoc 0 0) 226 12 30 0 fl_X12_226) aNil)))) (pIf 33 45 62 (cCmp 0 (eFld (rLoc 0 0) 333 12 46 0 fl_X12_333) (eLit 12)) (pDo (.invokevirtual 242) (lkV (T := TX12) (N := 77) mf_X12_wrongs mv_X12_wrongs ml_X12_242 rfl rfl rfl (by decide) (by decide)) MX12_wrongs (aR (rLoc 0 0) (aI (eLit 4) (aI (eFld (rLoc 0 0) 226 12 30 0 fl_X12_226) aNil)))) (pIf 53 62 62 (cCmp 3 (eBin 1 (eLoc 1) (eLit 48)) (eLit 4)) (pDo (.invokevirtual 242) (lkV (T := TX12) (N := 77) mf_X12_wrongs mv_X12_wrongs ml_X12_242 rfl rfl rfl (by decide) (by decide)) MX12_wrongs (aR (rLoc 0 0) (aI (eLit 3) (aI (eFld (rLoc 0 0) 226 12 30 0 fl_X12_226) aNil)))) pSkip))) (pSeq (pIf 69 70 70 (cNot (cCmp0 1 (eCall (.invokevirtual 246) (lkV (T := TX12) (N := 77) mf_X12_isGood mv_X12_isGood ml_X12_246 rfl rfl rfl (by decide) (by decide)) MX12_isGood (aR (rLoc 0 0) aNil)))) (pRetV 70) pSkip) (pSeq (pAst 0 12 (rFld (rLoc 0 0) 90 12 41 27 fl_X12_90) (eFld (rLoc 0 0) 333 12 46 0 fl_X12_333) (eBin 1 (eLoc 1) (eLit 48))) (pSeq (pAst 0 12 (rFld (rLoc 0 0) 93 12 42 28 fl_X12_93) (eFld (rLoc 0 0) 333 12 46 0 fl_X12_333) (eFld (rLoc 0 0) 268 12 47 0 fl_X12_268)) (pSeq (pPutOp (rLoc 0 0) 226 12 30 0 fw_X12_226 (eLit 1)) (pSeq (pDo (.invokevirtual 336) (lkV (T := TX12) (N := 77) mf_X12_condition mv_X12_condition ml_X12_336 rfl rfl rfl (by decide) (by decide)) MX12_condition (aR (rLoc 0 0) aNil)) (pSeq (pAst 0 12 (rFld (rLoc 0 0) 96 12 43 29 fl_X12_96) (eFld (rLoc 0 0) 333 12 46 0 fl_X12_333) (eFld (rLoc 0 0) 268 12 47 0 fl_X12_268)) (pPutOp (rLoc 0 0) 333 12 46 0 fw_X12_333 (eLit 1)))))))))) (pRetV 134))
set_option maxRecDepth 100000 in
def MX12_clause : MP wdM yX12_clause cX12_clause 2 (none) 6 [.inr 0] := mkM scX12_clause yX12_clause [.inr 0] bX12_clause (by decide +kernel) rfl rfl (by decide) (by decide +kernel)
abbrev scX12_rules : ik_SC := (wdM, cX12_rules, 4, RX12, [(0, 0)], 7, some .int)
set_option maxRecDepth 100000 in
def bX12_rules : SP scX12_rules := (pSeq (pIf 20 22 22 (cOr 12 (cNot (cCmp0 1 (eCall (.invokestatic 170) (lkS mf_X12_lies ms_X12_lies ml_X12_170 rfl (by decide) (by decide)) MX12_lies (aL (lI2l (eLoc 1)) (aL (lLit 1) (aL (lLdc 254 160 kc_X12_254) aNil)))))) (cCmp 4 (eLoc 1) (eFld (rLoc 0 0) 190 12 1 0 fl_X12_190))) (pRet 0 22 (eLit (-1))) pSkip) (pSeq (pPut (rLoc 0 0) 190 12 1 0 fw_X12_190 (eLit 0)) (pSeq (pPut (rLoc 0 0) 226 12 30 0 fw_X12_226 (eLit 0)) (pSeq (pPut (rLoc 0 0) 229 12 31 0 fw_X12_229 (eLoc 1)) (pSeq (pPut (rLoc 0 0) 232 12 32 0 fw_X12_232 (eLit 0)) (pSeq (pPut (rLoc 0 0) 333 12 46 0 fw_X12_333 (eLit 0)) (pSeq (pPut (rLoc 0 0) 268 12 47 0 fw_X12_268 (eLit 0)) (pSeq (pSet 2 (eLit 1)) (pSeq (pWh 65 128 128 (cAnd 58 (cCmp0 1 (eLoc 2)) (cCmp0 1 (eCall (.invokevirtual 246) (lkV (T := TX12) (N := 77) mf_X12_isGood mv_X12_isGood ml_X12_246 rfl rfl rfl (by decide) (by decide)) MX12_isGood (aR (rLoc 0 0) aNil)))) (pSeq (pDo (.invokevirtual 339) (lkV (T := TX12) (N := 77) mf_X12_clause mv_X12_clause ml_X12_339 rfl rfl rfl (by decide) (by decide)) MX12_clause (aR (rLoc 0 0) aNil)) (pSeq (pSet 2 (eIte 87 91 92 (cAnd 76 (cCmp0 1 (eCall (.invokevirtual 246) (lkV (T := TX12) (N := 77) mf_X12_isGood mv_X12_isGood ml_X12_246 rfl rfl rfl (by decide) (by decide)) MX12_isGood (aR (rLoc 0 0) aNil))) (cCmp 2 (eFld (rLoc 0 0) 226 12 30 0 fl_X12_226) (eFld (rLoc 0 0) 229 12 31 0 fl_X12_229))) (eLit 1) (eLit 0))) (pIf 97 54 54 (cCmp0 1 (eLoc 2)) (pSeq (pIf 106 115 115 (cCmp 1 (eCall (.invokevirtual 235) (lkV (T := TX12) (N := 77) mf_X12_here mv_X12_here ml_X12_235 rfl rfl rfl (by decide) (by decide)) MX12_here (aR (rLoc 0 0) aNil)) (eLit 59)) (pDo (.invokevirtual 242) (lkV (T := TX12) (N := 77) mf_X12_wrongs mv_X12_wrongs ml_X12_242 rfl rfl rfl (by decide) (by decide)) MX12_wrongs (aR (rLoc 0 0) (aI (eLit 1) (aI (eFld (rLoc 0 0) 226 12 30 0 fl_X12_226) aNil)))) pSkip) (pPutOp (rLoc 0 0) 226 12 30 0 fw_X12_226 (eLit 1))) pSkip)))) (pSeq (pIf 135 140 140 (cCmp0 2 (eFld (rLoc 0 0) 232 12 32 0 fl_X12_232)) (pRet 0 140 (eFld (rLoc 0 0) 232 12 32 0 fl_X12_232)) pSkip) (pSeq (pSeq (pSet 3 (eLit 0)) (pWh 150 192 192 (cCmp 2 (eLoc 3) (eFld (rLoc 0 0) 333 12 46 0 fl_X12_333)) (pSeq (pSeq (pAst 0 12 (rFld (rLoc 0 0) 75 12 36 22 fl_X12_75) (eLoc 3) (eArr 0 12 (rFld (rLoc 0 0) 90 12 41 27 fl_X12_90) (eLoc 3))) (pSeq (pAst 0 12 (rFld (rLoc 0 0) 78 12 37 23 fl_X12_78) (eLoc 3) (eArr 0 12 (rFld (rLoc 0 0) 93 12 42 28 fl_X12_93) (eLoc 3))) (pAst 0 12 (rFld (rLoc 0 0) 81 12 38 24 fl_X12_81) (eLoc 3) (eArr 0 12 (rFld (rLoc 0 0) 96 12 43 29 fl_X12_96) (eLoc 3))))) (pInc 3 1)))) (pSeq (pSeq (pSet 3 (eLit 0)) (pWh 202 232 232 (cCmp 2 (eLoc 3) (eFld (rLoc 0 0) 268 12 47 0 fl_X12_268)) (pSeq (pSeq (pAst 0 160 (rFld (rLoc 0 0) 84 12 39 25 fl_X12_84) (eLoc 3) (eArr 0 160 (rFld (rLoc 0 0) 99 12 44 30 fl_X12_99) (eLoc 3))) (pAst 0 160 (rFld (rLoc 0 0) 87 12 40 26 fl_X12_87) (eLoc 3) (eArr 0 160 (rFld (rLoc 0 0) 102 12 45 31 fl_X12_102) (eLoc 3)))) (pInc 3 1)))) (pSeq (pPut (rLoc 0 0) 342 12 5 0 fw_X12_342 (eFld (rLoc 0 0) 333 12 46 0 fl_X12_333)) (pRet 0 245 (eFld (rLoc 0 0) 333 12 46 0 fl_X12_333)))))))))))))))
set_option maxRecDepth 100000 in
def MX12_rules : MP wdM yX12_rules cX12_rules 4 (some .int) 7 [.inr 0, .inl 0] := mkM scX12_rules yX12_rules [.inr 0, .inl 0] bX12_rules (by decide +kernel) rfl rfl (by decide) (by decide +kernel)
abbrev scX12_isBar : ik_SC := (wdM, cX12_isBar, 2, RX12, [(0, 0)], 1, some .boolean)
set_option maxRecDepth 100000 in
def bX12_isBar : SP scX12_isBar := (pRet 3 14 (eCall (.invokestatic 170) (lkS mf_X12_lies ms_X12_lies ml_X12_170 rfl (by decide) (by decide)) MX12_lies (aL (lI2l (eLoc 1)) (aL (lLit 0) (aL (lI2l (eBin 1 (eFld (rLoc 0 0) 174 12 3 0 fl_X12_174) (eLit 1))) aNil)))))
set_option maxRecDepth 100000 in
def MX12_isBar : MP wdM yX12_isBar cX12_isBar 2 (some .boolean) 1 [.inr 0, .inl 0] := mkM scX12_isBar yX12_isBar [.inr 0, .inl 0] bX12_isBar (by decide +kernel) rfl rfl (by decide) (by decide +kernel)
abbrev scX12_tie : ik_SC := (wdM, cX12_tie, 4, RX12, [(0, 0)], 2, some .boolean)
set_option maxRecDepth 100000 in
def bX12_tie : SP scX12_tie := (pSeq (pIf 42 44 44 (cOr 37 (cOr 29 (cOr 21 (cOr 9 (cCmp 0 (eFld (rLoc 0 0) 364 12 6 0 fl_X12_364) (eLit 20)) (cNot (cCmp0 1 (eCall (.invokestatic 170) (lkS mf_X12_lies ms_X12_lies ml_X12_170 rfl (by decide) (by decide)) MX12_lies (aL (lI2l (eLoc 1)) (aL (lLit 0) (aL (lLdc 367 2 kc_X12_367) aNil))))))) (cNot (cCmp0 1 (eCall (.invokevirtual 369) (lkV (T := TX12) (N := 77) mf_X12_isBar mv_X12_isBar ml_X12_369 rfl rfl rfl (by decide) (by decide)) MX12_isBar (aR (rLoc 0 0) (aI (eLoc 2) aNil)))))) (cNot (cCmp0 1 (eCall (.invokevirtual 369) (lkV (T := TX12) (N := 77) mf_X12_isBar mv_X12_isBar ml_X12_369 rfl rfl rfl (by decide) (by decide)) MX12_isBar (aR (rLoc 0 0) (aI (eLoc 3) aNil)))))) (cCmp 0 (eLoc 2) (eLoc 3))) (pRet 3 44 (eLit 0)) pSkip) (pSeq (pAst 0 20 (rFld (rLoc 0 0) 114 12 57 35 fl_X12_114) (eFld (rLoc 0 0) 364 12 6 0 fl_X12_364) (eLoc 1)) (pSeq (pAst 0 20 (rFld (rLoc 0 0) 117 12 58 36 fl_X12_117) (eFld (rLoc 0 0) 364 12 6 0 fl_X12_364) (eLoc 2)) (pSeq (pAst 0 20 (rFld (rLoc 0 0) 120 12 59 37 fl_X12_120) (eFld (rLoc 0 0) 364 12 6 0 fl_X12_364) (eLoc 3)) (pSeq (pPutOp (rLoc 0 0) 364 12 6 0 fw_X12_364 (eLit 1)) (pRet 3 86 (eLit 1)))))))
set_option maxRecDepth 100000 in
def MX12_tie : MP wdM yX12_tie cX12_tie 4 (some .boolean) 2 [.inr 0, .inl 0, .inl 0, .inl 0] := mkM scX12_tie yX12_tie [.inr 0, .inl 0, .inl 0, .inl 0] bX12_tie (by decide +kernel) rfl rfl (by decide) (by decide +kernel)
abbrev scX12_listed : ik_SC := (wdM, cX12_listed, 4, RX12, [(0, 0)], 2, some .boolean)
set_option maxRecDepth 100000 in
def bX12_listed : SP scX12_listed := (pSeq (pIf 43 45 45 (cOr 30 (cOr 17 (cOr 9 (cCmp 0 (eFld (rLoc 0 0) 372 12 7 0 fl_X12_372) (eLit 20)) (cNot (cCmp0 1 (eCall (.invokevirtual 369) (lkV (T := TX12) (N := 77) mf_X12_isBar mv_X12_isBar ml_X12_369 rfl rfl rfl (by decide) (by decide)) MX12_isBar (aR (rLoc 0 0) (aI (eLoc 1) aNil)))))) (cAnd 22 (cCmp 1 (eLoc 2) (eLit (-1))) (cNot (cCmp0 1 (eCall (.invokevirtual 213) (lkV (T := TX12) (N := 77) mf_X12_isName mv_X12_isName ml_X12_213 rfl rfl rfl (by decide) (by decide)) MX12_isName (aR (rLoc 0 0) (aI (eLoc 2) aNil))))))) (cAnd 35 (cCmp 1 (eLoc 3) (eLit (-1))) (cNot (cCmp0 1 (eCall (.invokevirtual 213) (lkV (T := TX12) (N := 77) mf_X12_isName mv_X12_isName ml_X12_213 rfl rfl rfl (by decide) (by decide)) MX12_isName (aR (rLoc 0 0) (aI (eLoc 3) aNil))))))) (pRet 3 45 (eLit 0)) pSkip) (pSeq (pAst 0 20 (rFld (rLoc 0 0) 123 12 60 38 fl_X12_123) (eFld (rLoc 0 0) 372 12 7 0 fl_X12_372) (eLoc 1)) (pSeq (pAst 0 20 (rFld (rLoc 0 0) 126 12 61 39 fl_X12_126) (eFld (rLoc 0 0) 372 12 7 0 fl_X12_372) (eLoc 2)) (pSeq (pAst 0 20 (rFld (rLoc 0 0) 129 12 62 40 fl_X12_129) (eFld (rLoc 0 0) 372 12 7 0 fl_X12_372) (eLoc 3)) (pSeq (pPutOp (rLoc 0 0) 372 12 7 0 fw_X12_372 (eLit 1)) (pRet 3 87 (eLit 1)))))))
set_option maxRecDepth 100000 in
def MX12_listed : MP wdM yX12_listed cX12_listed 4 (some .boolean) 2 [.inr 0, .inl 0, .inl 0, .inl 0] := mkM scX12_listed yX12_listed [.inr 0, .inl 0, .inl 0, .inl 0] bX12_listed (by decide +kernel) rfl rfl (by decide) (by decide +kernel)
abbrev scX12_isHouse : ik_SC := (wdM, cX12_isHouse, 1, RX12, [], 1, some .boolean)
set_option maxRecDepth 100000 in
def bX12_isHouse : SP scX12_isHouse := (pRet 3 10 (eCall (.invokestatic 170) (lkS mf_X12_lies ms_X12_lies ml_X12_170 rfl (by decide) (by decide)) MX12_lies (aL (lI2l (eLoc 0)) (aL (lLit 0) (aL (lLdc 180 3 kc_X12_180) aNil)))))
set_option maxRecDepth 100000 in
def MX12_isHouse : MP wdM yX12_isHouse cX12_isHouse 1 (some .boolean) 1 [.inl 0] := mkM scX12_isHouse yX12_isHouse [.inl 0] bX12_isHouse (by decide +kernel) rfl rfl (by decide) (by decide +kernel)
abbrev scX12_lifted : ik_SC := (wdM, cX12_lifted, 4, RX12, [(0, 0)], 2, some .boolean)
set_option maxRecDepth 100000 in
def bX12_lifted : SP scX12_lifted := (pSeq (pIf 36 38 38 (cOr 24 (cOr 16 (cOr 9 (cCmp 0 (eFld (rLoc 0 0) 375 12 8 0 fl_X12_375) (eLit 60)) (cNot (cCmp0 1 (eCall (.invokestatic 378) (lkS mf_X12_isHouse ms_X12_isHouse ml_X12_378 rfl (by decide) (by decide)) MX12_isHouse (aI (eLoc 1) aNil))))) (cNot (cCmp0 1 (eCall (.invokevirtual 213) (lkV (T := TX12) (N := 77) mf_X12_isName mv_X12_isName ml_X12_213 rfl rfl rfl (by decide) (by decide)) MX12_isName (aR (rLoc 0 0) (aI (eLoc 2) aNil)))))) (cNot (cCmp0 1 (eCall (.invokestatic 170) (lkS mf_X12_lies ms_X12_lies ml_X12_170 rfl (by decide) (by decide)) MX12_lies (aL (lI2l (eLoc 3)) (aL (lLit 1) (aL (lLdc 220 3000 kc_X12_220) aNil))))))) (pRet 3 38 (eLit 0)) pSkip) (pSeq (pAst 0 60 (rFld (rLoc 0 0) 132 12 63 41 fl_X12_132) (eFld (rLoc 0 0) 375 12 8 0 fl_X12_375) (eLoc 1)) (pSeq (pAst 0 60 (rFld (rLoc 0 0) 135 12 64 42 fl_X12_135) (eFld (rLoc 0 0) 375 12 8 0 fl_X12_375) (eLoc 2)) (pSeq (pAst 0 60 (rFld (rLoc 0 0) 138 12 65 43 fl_X12_138) (eFld (rLoc 0 0) 375 12 8 0 fl_X12_375) (eLoc 3)) (pSeq (pPutOp (rLoc 0 0) 375 12 8 0 fw_X12_375 (eLit 1)) (pRet 3 80 (eLit 1)))))))
set_option maxRecDepth 100000 in
def MX12_lifted : MP wdM yX12_lifted cX12_lifted 4 (some .boolean) 2 [.inr 0, .inl 0, .inl 0, .inl 0] := mkM scX12_lifted yX12_lifted [.inr 0, .inl 0, .inl 0, .inl 0] bX12_lifted (by decide +kernel) rfl rfl (by decide) (by decide +kernel)
abbrev scX12_habitOf : ik_SC := (wdM, cX12_habitOf, 7, RX12, [(0, 0)], 1, some .int)
set_option maxRecDepth 100000 in
def bX12_habitOf : SP scX12_habitOf := (pSeq (pSet 3 (eLit 0)) (pSeq (pSet 4 (eIte 6 11 12 (cCmp0 1 (eLoc 2)) (eLit 20) (eLit 0))) (pSeq (pSeq (pSet 5 (eLit 0)) (pWh 26 103 103 (cCmp 2 (eLoc 5) (eFld (rLoc 0 0) 375 12 8 0 fl_X12_375)) (pSeq (pIf 37 40 97 (cCmp 1 (eArr 0 60 (rFld (rLoc 0 0) 132 12 63 41 fl_X12_132) (eLoc 5)) (eLoc 1)) pSkip (pSeq (pSet 6 (eBin 1 (eArr 0 60 (rFld (rLoc 0 0) 138 12 65 43 fl_X12_138) (eLoc 5)) (eCall (.invokevirtual 216) (lkV (T := TX12) (N := 77) mf_X12_wideOf mv_X12_wideOf ml_X12_216 rfl rfl rfl (by decide) (by decide)) MX12_wideOf (aR (rLoc 0 0) (aI (eArr 0 60 (rFld (rLoc 0 0) 135 12 64 42 fl_X12_135) (eLoc 5)) aNil))))) (pSeq (pSet 4 (eIte 86 91 93 (cOr 65 (cNot (cCmp0 1 (eLoc 3))) (cIteC 69 79 76 (cCmp0 1 (eLoc 2)) (cCmp 4 (eLoc 6) (eLoc 4)) (cCmp 2 (eLoc 6) (eLoc 4)))) (eLoc 6) (eLoc 4))) (pSet 3 (eLit 1))))) (pInc 5 1)))) (pRet 0 106 (eLoc 4)))))
set_option maxRecDepth 100000 in
def MX12_habitOf : MP wdM yX12_habitOf cX12_habitOf 7 (some .int) 1 [.inr 0, .inl 0, .inl 0] := mkM scX12_habitOf yX12_habitOf [.inr 0, .inl 0, .inl 0] bX12_habitOf (by decide +kernel) rfl rfl (by decide) (by decide +kernel)
abbrev scX12_habit : ik_SC := (wdM, cX12_habit, 3, RX12, [(0, 0)], 2, some .int)
set_option maxRecDepth 100000 in
def bX12_habit : SP scX12_habit := (pRet 0 39 (eIte 17 35 38 (cAnd 7 (cCmp0 1 (eCall (.invokestatic 378) (lkS mf_X12_isHouse ms_X12_isHouse ml_X12_378 rfl (by decide) (by decide)) MX12_isHouse (aI (eLoc 1) aNil))) (cCmp0 1 (eCall (.invokestatic 170) (lkS mf_X12_lies ms_X12_lies ml_X12_170 rfl (by decide) (by decide)) MX12_lies (aL (lI2l (eLoc 2)) (aL (lLit 0) (aL (lLit 1) aNil)))))) (eCall (.invokevirtual 381) (lkV (T := TX12) (N := 77) mf_X12_habitOf mv_X12_habitOf ml_X12_381 rfl rfl rfl (by decide) (by decide)) MX12_habitOf (aR (rLoc 0 0) (aI (eLoc 1) (aI (eIte 24 28 29 (cCmp 0 (eLoc 2) (eLit 1)) (eLit 1) (eLit 0)) aNil)))) (eLit (-10000))))
set_option maxRecDepth 100000 in
def MX12_habit : MP wdM yX12_habit cX12_habit 3 (some .int) 2 [.inr 0, .inl 0, .inl 0] := mkM scX12_habit yX12_habit [.inr 0, .inl 0, .inl 0] bX12_habit (by decide +kernel) rfl rfl (by decide) (by decide +kernel)
abbrev scX12_house : ik_SC := (wdM, cX12_house, 2, RX12, [(0, 0)], 2, some .boolean)
set_option maxRecDepth 100000 in
def bX12_house : SP scX12_house := (pSeq (pIf 7 9 9 (cNot (cCmp0 1 (eCall (.invokestatic 378) (lkS mf_X12_isHouse ms_X12_isHouse ml_X12_378 rfl (by decide) (by decide)) MX12_isHouse (aI (eLoc 1) aNil)))) (pRet 3 9 (eLit 0)) pSkip) (pSeq (pPut (rLoc 0 0) 385 12 11 0 fw_X12_385 (eLoc 1)) (pRet 3 16 (eLit 1))))
set_option maxRecDepth 100000 in
def MX12_house : MP wdM yX12_house cX12_house 2 (some .boolean) 2 [.inr 0, .inl 0] := mkM scX12_house yX12_house [.inr 0, .inl 0] bX12_house (by decide +kernel) rfl rfl (by decide) (by decide +kernel)
abbrev scX12_isWord : ik_SC := (wdM, cX12_isWord, 5, RX12, [(0, 0)], 0, some .boolean)
set_option maxRecDepth 100000 in
def bX12_isWord : SP scX12_isWord := (pSeq (pIf 35 37 37 (cOr 10 (cCmp 2 (eArr 0 144 (rFld (rLoc 0 0) 56 12 26 16 fl_X12_56) (eLoc 1)) (eLit 4)) (cCmp 1 (eBin 1 (eArr 0 144 (rFld (rLoc 0 0) 62 12 28 18 fl_X12_62) (eLoc 1)) (eArr 0 144 (rFld (rLoc 0 0) 59 12 27 17 fl_X12_59) (eLoc 1))) (eIte 27 31 32 (cCmp0 1 (eLoc 3)) (eLit 2) (eLit 1)))) (pRet 3 37 (eLit 0)) pSkip) (pSeq (pSet 4 (eBin 0 (eBin 2 (eLit 160) (eLoc 2)) (eArr 0 144 (rFld (rLoc 0 0) 59 12 27 17 fl_X12_59) (eLoc 1)))) (pRet 3 87 (eIte 81 85 86 (cAnd 63 (cCmp 0 (eArr 2 960 (rFld (rLoc 0 0) 53 12 25 15 fl_X12_53) (eLoc 4)) (eLit 97)) (cOr 67 (cNot (cCmp0 1 (eLoc 3))) (cCmp 0 (eArr 2 960 (rFld (rLoc 0 0) 53 12 25 15 fl_X12_53) (eBin 0 (eLoc 4) (eLit 1))) (eLit 110)))) (eLit 1) (eLit 0)))))
set_option maxRecDepth 100000 in
def MX12_isWord : MP wdM yX12_isWord cX12_isWord 5 (some .boolean) 0 [.inr 0, .inl 0, .inl 0, .inl 0] := mkM scX12_isWord yX12_isWord [.inr 0, .inl 0, .inl 0, .inl 0] bX12_isWord (by decide +kernel) rfl rfl (by decide) (by decide +kernel)
end
section
abbrev scX12_isVowel : ik_SC := (wdM, cX12_isVowel, 3, RX12, [(0, 0)], 0, some .boolean)
set_option maxRecDepth 100000 in
def bX12_isVowel : SP scX12_isVowel := (pSeq (pSet 2 (eArr 2 288 (rFld (rLoc 0 0) 20 12 14 4 fl_X12_20) (eBin 2 (eLit 12) (eLoc 1)))) (pRet 3 46 (eIte 40 44 45 (cOr 34 (cOr 28 (cOr 22 (cOr 16 (cCmp 0 (eLoc 2) (eLit 97)) (cCmp 0 (eLoc 2) (eLit 101))) (cCmp 0 (eLoc 2) (eLit 105))) (cCmp 0 (eLoc 2) (eLit 111))) (cCmp 0 (eLoc 2) (eLit 117))) (eLit 1) (eLit 0))))
set_option maxRecDepth 100000 in
def MX12_isVowel : MP wdM yX12_isVowel cX12_isVowel 3 (some .boolean) 0 [.inr 0, .inl 0] := mkM scX12_isVowel yX12_isVowel [.inr 0, .inl 0] bX12_isVowel (by decide +kernel) rfl rfl (by decide) (by decide +kernel)
abbrev scX12_isAgainstGrammar : ik_SC := (wdM, cX12_isAgainstGrammar, 6, RX12, [(0, 0)], 1, some .boolean)
set_option maxRecDepth 100000 in
def bX12_isAgainstGrammar : SP scX12_isAgainstGrammar := (pSeq (pSeq (pSet 3 (eLit 0)) (pWh 10 103 103 (cCmp 2 (eLoc 3) (eFld (rLoc 0 0) 177 12 4 0 fl_X12_177)) (pSeq (pSeq (pSet 4 (eLit 1)) (pWh 24 97 97 (cCmp 2 (eLoc 4) (eArr 0 6 (rFld (rLoc 0 0) 50 12 24 14 fl_X12_50) (eLoc 3))) (pSeq (pSeq (pSet 5 (eBin 0 (eBin 2 (eLit 24) (eLoc 3)) (eLoc 4))) (pIf 44 47 91 (cCmp 1 (eArr 0 144 (rFld (rLoc 0 0) 56 12 26 16 fl_X12_56) (eLoc 5)) (eLoc 1)) pSkip (pIf 89 91 91 (cOr 68 (cAnd 60 (cCmp0 1 (eCall (.invokevirtual 388) (lkV (T := TX12) (N := 77) mf_X12_isWord mv_X12_isWord ml_X12_388 rfl rfl rfl (by decide) (by decide)) MX12_isWord (aR (rLoc 0 0) (aI (eBin 1 (eLoc 5) (eLit 1)) (aI (eLoc 3) (aI (eLit 0) aNil)))))) (cCmp0 1 (eCall (.invokevirtual 348) (lkV (T := TX12) (N := 77) mf_X12_isVowel mv_X12_isVowel ml_X12_348 rfl rfl rfl (by decide) (by decide)) MX12_isVowel (aR (rLoc 0 0) (aI (eLoc 2) aNil))))) (cAnd 81 (cCmp0 1 (eCall (.invokevirtual 388) (lkV (T := TX12) (N := 77) mf_X12_isWord mv_X12_isWord ml_X12_388 rfl rfl rfl (by decide) (by decide)) MX12_isWord (aR (rLoc 0 0) (aI (eBin 1 (eLoc 5) (eLit 1)) (aI (eLoc 3) (aI (eLit 1) aNil)))))) (cNot (cCmp0 1 (eCall (.invokevirtual 348) (lkV (T := TX12) (N := 77) mf_X12_isVowel mv_X12_isVowel ml_X12_348 rfl rfl rfl (by decide) (by decide)) MX12_isVowel (aR (rLoc 0 0) (aI (eLoc 2) aNil))))))) (pRet 3 91 (eLit 1)) pSkip))) (pInc 4 1)))) (pInc 3 1)))) (pRet 3 105 (eLit 0)))
set_option maxRecDepth 100000 in
def MX12_isAgainstGrammar : MP wdM yX12_isAgainstGrammar cX12_isAgainstGrammar 6 (some .boolean) 1 [.inr 0, .inl 0, .inl 0] := mkM scX12_isAgainstGrammar yX12_isAgainstGrammar [.inr 0, .inl 0, .inl 0] bX12_isAgainstGrammar (by decide +kernel) rfl rfl (by decide) (by decide +kernel)
abbrev scX12_worked : ik_SC := (wdM, cX12_worked, 3, RX12, [], 0, some .int)
set_option maxRecDepth 100000 in
def bX12_worked : SP scX12_worked := (pSw (eLoc 0) [(43, 68, (pDead 137 (pRet 0 72 (eBin 0 (eLoc 1) (eLoc 2))))), (45, 72, (pDead 137 (pRet 0 76 (eBin 1 (eLoc 1) (eLoc 2))))), (42, 76, (pDead 137 (pRet 0 80 (eBin 2 (eLoc 1) (eLoc 2))))), (47, 80, (pDead 137 (pRet 0 92 (eIte 84 88 91 (cCmp0 0 (eLoc 2)) (eLit 0) (eBin 9 (eLoc 1) (eLoc 2)))))), (37, 92, (pDead 137 (pRet 0 104 (eIte 96 100 103 (cCmp0 0 (eLoc 2)) (eLit 0) (eBin 10 (eLoc 1) (eLoc 2)))))), (60, 104, (pDead 137 (pRet 0 115 (eIte 109 113 114 (cCmp 2 (eLoc 1) (eLoc 2)) (eLit 1) (eLit 0))))), (62, 115, (pDead 137 (pRet 0 126 (eIte 120 124 125 (cCmp 4 (eLoc 1) (eLoc 2)) (eLit 1) (eLit 0)))))] 126 (pDead 137 (pRet 0 137 (eIte 131 135 136 (cCmp 0 (eLoc 1) (eLoc 2)) (eLit 1) (eLit 0)))) 137)
set_option maxRecDepth 100000 in
def MX12_worked : MP wdM yX12_worked cX12_worked 3 (some .int) 0 [.inl 0, .inl 0, .inl 0] := mkM scX12_worked yX12_worked [.inl 0, .inl 0, .inl 0] bX12_worked (by decide +kernel) rfl rfl (by decide) (by decide +kernel)
abbrev scX12_does : ik_SC := (wdM, cX12_does, 4, RX12, [(0, 0)], 1, none)
set_option maxRecDepth 100000 in
def bX12_does : SP scX12_does := (pSeq (pSeq (pSet 3 (eBin 0 (eLoc 2) (eLit 1))) (pSeq (pIf 16 71 71 (cOr 10 (cCmp 0 (eLoc 1) (eLit 38)) (cCmp 0 (eLoc 1) (eLit 124))) (pSeq (pIf 45 46 46 (cOr 25 (cCmp0 1 (eArr 3 200 (rFld (rLoc 0 0) 111 12 56 34 fl_X12_111) (eLoc 2))) (cCmp 1 (eArr 0 200 (rFld (rLoc 0 0) 108 12 55 33 fl_X12_108) (eLoc 2)) (eIte 37 41 42 (cCmp 0 (eLoc 1) (eLit 38)) (eLit 1) (eLit 0)))) (pRetV 46) pSkip) (pSeq (pAst 0 200 (rFld (rLoc 0 0) 108 12 55 33 fl_X12_108) (eLoc 2) (eArr 0 200 (rFld (rLoc 0 0) 108 12 55 33 fl_X12_108) (eLoc 3))) (pSeq (pAst 3 200 (rFld (rLoc 0 0) 111 12 56 34 fl_X12_111) (eLoc 2) (eArr 3 200 (rFld (rLoc 0 0) 111 12 56 34 fl_X12_111) (eLoc 3))) (pRetV 71)))) pSkip) (pSeq (pAst 3 200 (rFld (rLoc 0 0) 111 12 56 34 fl_X12_111) (eLoc 2) (eIte 115 119 120 (cOr 94 (cOr 85 (cCmp0 1 (eArr 3 200 (rFld (rLoc 0 0) 111 12 56 34 fl_X12_111) (eLoc 2))) (cCmp0 1 (eArr 3 200 (rFld (rLoc 0 0) 111 12 56 34 fl_X12_111) (eLoc 3)))) (cAnd 106 (cOr 100 (cCmp 0 (eLoc 1) (eLit 47)) (cCmp 0 (eLoc 1) (eLit 37))) (cCmp0 0 (eArr 0 200 (rFld (rLoc 0 0) 108 12 55 33 fl_X12_108) (eLoc 3))))) (eLit 1) (eLit 0))) (pAst 0 200 (rFld (rLoc 0 0) 108 12 55 33 fl_X12_108) (eLoc 2) (eCall (.invokestatic 354) (lkS mf_X12_worked ms_X12_worked ml_X12_354 rfl (by decide) (by decide)) MX12_worked (aI (eLoc 1) (aI (eArr 0 200 (rFld (rLoc 0 0) 108 12 55 33 fl_X12_108) (eLoc 2)) (aI (eArr 0 200 (rFld (rLoc 0 0) 108 12 55 33 fl_X12_108) (eLoc 3)) aNil)))))))) (pRetV 144))
set_option maxRecDepth 100000 in
def MX12_does : MP wdM yX12_does cX12_does 4 (none) 1 [.inr 0, .inl 0, .inl 0] := mkM scX12_does yX12_does [.inr 0, .inl 0, .inl 0] bX12_does (by decide +kernel) rfl rfl (by decide) (by decide +kernel)
abbrev scX12_valueOf : ik_SC := (wdM, cX12_valueOf, 3, RX12, [(0, 0)], 1, some .int)
set_option maxRecDepth 100000 in
def bX12_valueOf : SP scX12_valueOf := (pSeq (pSet 2 (eFld (rLoc 0 0) 345 12 54 0 fl_X12_345)) (pSw (eLoc 1) [(105, 124, (pDead 199 (pRet 0 126 (eLoc 2)))), (119, 126, (pDead 199 (pRet 0 132 (eCall (.invokevirtual 216) (lkV (T := TX12) (N := 77) mf_X12_wideOf mv_X12_wideOf ml_X12_216 rfl rfl rfl (by decide) (by decide)) MX12_wideOf (aR (rLoc 0 0) (aI (eLoc 2) aNil)))))), (110, 132, (pDead 199 (pRet 0 139 (eArr 0 24 (rFld (rLoc 0 0) 23 12 15 5 fl_X12_23) (eLoc 2))))), (115, 139, (pDead 199 (pRet 0 146 (eArr 0 24 (rFld (rLoc 0 0) 26 12 16 6 fl_X12_26) (eLoc 2))))), (121, 146, (pDead 199 (pRet 0 153 (eArr 0 24 (rFld (rLoc 0 0) 29 12 17 7 fl_X12_29) (eLoc 2))))), (122, 153, (pDead 199 (pRet 0 160 (eArr 0 24 (rFld (rLoc 0 0) 32 12 18 8 fl_X12_32) (eLoc 2))))), (118, 160, (pDead 199 (pRet 0 174 (eIte 168 172 173 (cCmp0 1 (eCall (.invokevirtual 348) (lkV (T := TX12) (N := 77) mf_X12_isVowel mv_X12_isVowel ml_X12_348 rfl rfl rfl (by decide) (by decide)) MX12_isVowel (aR (rLoc 0 0) (aI (eLoc 2) aNil)))) (eLit 1) (eLit 0))))), (97, 174, (pDead 199 (pRet 0 189 (eBin 0 (eBin 1 (eArr 2 288 (rFld (rLoc 0 0) 20 12 14 4 fl_X12_20) (eBin 2 (eLit 12) (eLoc 2))) (eLit 97)) (eLit 1)))))] 189 (pDead 199 (pRet 0 199 (eArr 0 4 (rFld (rLoc 0 0) 38 12 20 10 fl_X12_38) (eFld (rLoc 0 0) 351 12 53 0 fl_X12_351)))) 199))
set_option maxRecDepth 100000 in
def MX12_valueOf : MP wdM yX12_valueOf cX12_valueOf 3 (some .int) 1 [.inr 0, .inl 0] := mkM scX12_valueOf yX12_valueOf [.inr 0, .inl 0] bX12_valueOf (by decide +kernel) rfl rfl (by decide) (by decide +kernel)
abbrev scX12_holds : ik_SC := (wdM, cX12_holds, 4, RX12, [(0, 0)], 2, some .boolean)
set_option maxRecDepth 100000 in
def bX12_holds : SP scX12_holds := (pSeq (pSet 2 (eLit 0)) (pSeq (pSeq (pSet 3 (eArr 0 12 (rFld (rLoc 0 0) 78 12 37 23 fl_X12_78) (eLoc 1))) (pWh 19 129 129 (cCmp 2 (eLoc 3) (eArr 0 12 (rFld (rLoc 0 0) 81 12 38 24 fl_X12_81) (eLoc 1))) (pSeq (pIf 29 48 123 (cCmp 4 (eArr 0 160 (rFld (rLoc 0 0) 84 12 39 25 fl_X12_84) (eLoc 3)) (eLit 2)) (pSeq (pInc 2 (-1)) (pDo (.invokevirtual 358) (lkV (T := TX12) (N := 77) mf_X12_does mv_X12_does ml_X12_358 rfl rfl rfl (by decide) (by decide)) MX12_does (aR (rLoc 0 0) (aI (eArr 0 160 (rFld (rLoc 0 0) 84 12 39 25 fl_X12_84) (eLoc 3)) (aI (eBin 1 (eLoc 2) (eLit 1)) aNil))))) (pIf 58 79 123 (cCmp 0 (eArr 0 160 (rFld (rLoc 0 0) 84 12 39 25 fl_X12_84) (eLoc 3)) (eLit 2)) (pAst 0 200 (rFld (rLoc 0 0) 108 12 55 33 fl_X12_108) (eBin 1 (eLoc 2) (eLit 1)) (eBin 1 (eLit 1) (eArr 0 200 (rFld (rLoc 0 0) 108 12 55 33 fl_X12_108) (eBin 1 (eLoc 2) (eLit 1))))) (pSeq (pAst 3 200 (rFld (rLoc 0 0) 111 12 56 34 fl_X12_111) (eLoc 2) (eLit 0)) (pSeq (pAst 0 200 (rFld (rLoc 0 0) 108 12 55 33 fl_X12_108) (eLoc 2) (eIte 100 109 119 (cCmp0 0 (eArr 0 160 (rFld (rLoc 0 0) 84 12 39 25 fl_X12_84) (eLoc 3))) (eArr 0 160 (rFld (rLoc 0 0) 87 12 40 26 fl_X12_87) (eLoc 3)) (eCall (.invokevirtual 361) (lkV (T := TX12) (N := 77) mf_X12_valueOf mv_X12_valueOf ml_X12_361 rfl rfl rfl (by decide) (by decide)) MX12_valueOf (aR (rLoc 0 0) (aI (eArr 0 160 (rFld (rLoc 0 0) 87 12 40 26 fl_X12_87) (eLoc 3)) aNil))))) (pInc 2 1))))) (pInc 3 1)))) (pRet 3 154 (eIte 148 152 153 (cAnd 138 (cNot (cCmp0 1 (eArr 3 200 (rFld (rLoc 0 0) 111 12 56 34 fl_X12_111) (eLit 0)))) (cCmp 0 (eArr 0 200 (rFld (rLoc 0 0) 108 12 55 33 fl_X12_108) (eLit 0)) (eLit 1))) (eLit 1) (eLit 0)))))
set_option maxRecDepth 100000 in
def MX12_holds : MP wdM yX12_holds cX12_holds 4 (some .boolean) 2 [.inr 0, .inl 0] := mkM scX12_holds yX12_holds [.inr 0, .inl 0] bX12_holds (by decide +kernel) rfl rfl (by decide) (by decide +kernel)
abbrev scX12_isAgainstRules : ik_SC := (wdM, cX12_isAgainstRules, 4, RX12, [(0, 0)], 3, some .boolean)
set_option maxRecDepth 100000 in
def bX12_isAgainstRules : SP scX12_isAgainstRules := (pSeq (pPut (rLoc 0 0) 351 12 53 0 fw_X12_351 (eLoc 1)) (pSeq (pPut (rLoc 0 0) 345 12 54 0 fw_X12_345 (eLoc 2)) (pSeq (pSeq (pSet 3 (eLit 0)) (pWh 20 46 46 (cCmp 2 (eLoc 3) (eFld (rLoc 0 0) 342 12 5 0 fl_X12_342)) (pSeq (pIf 38 40 40 (cAnd 30 (cCmp 0 (eArr 0 12 (rFld (rLoc 0 0) 75 12 36 22 fl_X12_75) (eLoc 3)) (eLoc 1)) (cNot (cCmp0 1 (eCall (.invokevirtual 392) (lkV (T := TX12) (N := 77) mf_X12_holds mv_X12_holds ml_X12_392 rfl rfl rfl (by decide) (by decide)) MX12_holds (aR (rLoc 0 0) (aI (eLoc 3) aNil)))))) (pRet 3 40 (eLit 1)) pSkip) (pInc 3 1)))) (pRet 3 48 (eLit 0)))))
set_option maxRecDepth 100000 in
def MX12_isAgainstRules : MP wdM yX12_isAgainstRules cX12_isAgainstRules 4 (some .boolean) 3 [.inr 0, .inl 0, .inl 0] := mkM scX12_isAgainstRules yX12_isAgainstRules [.inr 0, .inl 0, .inl 0] bX12_isAgainstRules (by decide +kernel) rfl rfl (by decide) (by decide +kernel)
abbrev scX12_isAgainstLists : ik_SC := (wdM, cX12_isAgainstLists, 4, RX12, [(0, 0)], 1, some .boolean)
set_option maxRecDepth 100000 in
def bX12_isAgainstLists : SP scX12_isAgainstLists := (pSeq (pSeq (pSet 3 (eLit 0)) (pWh 10 79 79 (cCmp 2 (eLoc 3) (eFld (rLoc 0 0) 372 12 7 0 fl_X12_372)) (pSeq (pIf 20 23 73 (cCmp 1 (eArr 0 20 (rFld (rLoc 0 0) 123 12 60 38 fl_X12_123) (eLoc 3)) (eLoc 1)) pSkip (pIf 71 73 73 (cOr 47 (cAnd 33 (cCmp 1 (eArr 0 20 (rFld (rLoc 0 0) 126 12 61 39 fl_X12_126) (eLoc 3)) (eLit (-1))) (cCmp0 3 (eCall (.invokevirtual 209) (lkV (T := TX12) (N := 77) mf_X12_compared mv_X12_compared ml_X12_209 rfl rfl rfl (by decide) (by decide)) MX12_compared (aR (rLoc 0 0) (aI (eArr 0 20 (rFld (rLoc 0 0) 126 12 61 39 fl_X12_126) (eLoc 3)) (aI (eLoc 2) aNil)))))) (cAnd 57 (cCmp 1 (eArr 0 20 (rFld (rLoc 0 0) 129 12 62 40 fl_X12_129) (eLoc 3)) (eLit (-1))) (cCmp0 3 (eCall (.invokevirtual 209) (lkV (T := TX12) (N := 77) mf_X12_compared mv_X12_compared ml_X12_209 rfl rfl rfl (by decide) (by decide)) MX12_compared (aR (rLoc 0 0) (aI (eLoc 2) (aI (eArr 0 20 (rFld (rLoc 0 0) 129 12 62 40 fl_X12_129) (eLoc 3)) aNil))))))) (pRet 3 73 (eLit 1)) pSkip)) (pInc 3 1)))) (pRet 3 81 (eLit 0)))
set_option maxRecDepth 100000 in
def MX12_isAgainstLists : MP wdM yX12_isAgainstLists cX12_isAgainstLists 4 (some .boolean) 1 [.inr 0, .inl 0, .inl 0] := mkM scX12_isAgainstLists yX12_isAgainstLists [.inr 0, .inl 0, .inl 0] bX12_isAgainstLists (by decide +kernel) rfl rfl (by decide) (by decide +kernel)
abbrev scX12_has : ik_SC := (wdM, cX12_has, 2, RX12, [], 0, some .boolean)
set_option maxRecDepth 100000 in
def bX12_has : SP scX12_has := (pRet 3 15 (eIte 9 13 14 (cCmp 0 (eBin 3 (eBin 7 (eLoc 0) (eLoc 1)) (eLit 1)) (eLit 1)) (eLit 1) (eLit 0)))
set_option maxRecDepth 100000 in
def MX12_has : MP wdM yX12_has cX12_has 2 (some .boolean) 0 [.inl 0, .inl 0] := mkM scX12_has yX12_has [.inl 0, .inl 0] bX12_has (by decide +kernel) rfl rfl (by decide) (by decide +kernel)
abbrev scX12_againstOf : ik_SC := (wdM, cX12_againstOf, 6, RX12, [(0, 0)], 4, some .int)
set_option maxRecDepth 100000 in
def bX12_againstOf : SP scX12_againstOf := (pSeq (pSet 3 (eBin 1 (eArr 0 4 (rFld (rLoc 0 0) 38 12 20 10 fl_X12_38) (eLoc 1)) (eCall (.invokevirtual 216) (lkV (T := TX12) (N := 77) mf_X12_wideOf mv_X12_wideOf ml_X12_216 rfl rfl rfl (by decide) (by decide)) MX12_wideOf (aR (rLoc 0 0) (aI (eLoc 2) aNil))))) (pSeq (pSet 4 (eIte 39 43 44 (cOr 26 (cCmp 2 (eLoc 3) (eCall (.invokevirtual 381) (lkV (T := TX12) (N := 77) mf_X12_habitOf mv_X12_habitOf ml_X12_381 rfl rfl rfl (by decide) (by decide)) MX12_habitOf (aR (rLoc 0 0) (aI (eFld (rLoc 0 0) 385 12 11 0 fl_X12_385) (aI (eLit 0) aNil))))) (cCmp 4 (eLoc 3) (eCall (.invokevirtual 381) (lkV (T := TX12) (N := 77) mf_X12_habitOf mv_X12_habitOf ml_X12_381 rfl rfl rfl (by decide) (by decide)) MX12_habitOf (aR (rLoc 0 0) (aI (eFld (rLoc 0 0) 385 12 11 0 fl_X12_385) (aI (eLit 1) aNil)))))) (eLit 1) (eLit 0))) (pSeq (pSet 4 (eBin 4 (eLoc 4) (eIte 57 61 62 (cCmp0 1 (eCall (.invokevirtual 395) (lkV (T := TX12) (N := 77) mf_X12_isAgainstGrammar mv_X12_isAgainstGrammar ml_X12_395 rfl rfl rfl (by decide) (by decide)) MX12_isAgainstGrammar (aR (rLoc 0 0) (aI (eLoc 1) (aI (eLoc 2) aNil))))) (eLit 4) (eLit 0)))) (pSeq (pSet 4 (eBin 4 (eLoc 4) (eIte 76 81 82 (cCmp0 1 (eCall (.invokevirtual 399) (lkV (T := TX12) (N := 77) mf_X12_isAgainstRules mv_X12_isAgainstRules ml_X12_399 rfl rfl rfl (by decide) (by decide)) MX12_isAgainstRules (aR (rLoc 0 0) (aI (eLoc 1) (aI (eLoc 2) aNil))))) (eLit 8) (eLit 0)))) (pSeq (pSet 4 (eBin 4 (eLoc 4) (eIte 96 101 102 (cCmp0 1 (eCall (.invokevirtual 402) (lkV (T := TX12) (N := 77) mf_X12_isAgainstLists mv_X12_isAgainstLists ml_X12_402 rfl rfl rfl (by decide) (by decide)) MX12_isAgainstLists (aR (rLoc 0 0) (aI (eLoc 1) (aI (eLoc 2) aNil))))) (eLit 16) (eLit 0)))) (pSeq (pSet 5 (eIte 142 146 147 (cAnd 115 (cCmp 1 (eArr 0 4 (rFld (rLoc 0 0) 41 12 21 11 fl_X12_41) (eLoc 1)) (eLit (-1))) (cNot (cCmp0 1 (eCall (.invokestatic 170) (lkS mf_X12_lies ms_X12_lies ml_X12_170 rfl (by decide) (by decide)) MX12_lies (aL (lI2l (eArr 0 4 (rFld (rLoc 0 0) 41 12 21 11 fl_X12_41) (eLoc 1))) (aL (lI2l (eArr 0 24 (rFld (rLoc 0 0) 29 12 17 7 fl_X12_29) (eLoc 2))) (aL (lI2l (eArr 0 24 (rFld (rLoc 0 0) 32 12 18 8 fl_X12_32) (eLoc 2))) aNil))))))) (eLit 1) (eLit 0))) (pRet 0 182 (eBin 4 (eLoc 4) (eIte 174 179 180 (cOr 156 (cCmp0 1 (eLoc 5)) (cNot (cCmp0 1 (eCall (.invokestatic 405) (lkS mf_X12_has ms_X12_has ml_X12_405 rfl (by decide) (by decide)) MX12_has (aI (eArr 0 4 (rFld (rLoc 0 0) 44 12 22 12 fl_X12_44) (eLoc 1)) (aI (eArr 0 24 (rFld (rLoc 0 0) 26 12 16 6 fl_X12_26) (eLoc 2)) aNil)))))) (eLit 32) (eLit 0))))))))))
set_option maxRecDepth 100000 in
def MX12_againstOf : MP wdM yX12_againstOf cX12_againstOf 6 (some .int) 4 [.inr 0, .inl 0, .inl 0] := mkM scX12_againstOf yX12_againstOf [.inr 0, .inl 0, .inl 0] bX12_againstOf (by decide +kernel) rfl rfl (by decide) (by decide +kernel)
abbrev scX12_against : ik_SC := (wdM, cX12_against, 3, RX12, [(0, 0)], 5, some .int)
set_option maxRecDepth 100000 in
def bX12_against : SP scX12_against := (pRet 0 27 (eIte 16 25 26 (cAnd 8 (cCmp0 1 (eCall (.invokevirtual 369) (lkV (T := TX12) (N := 77) mf_X12_isBar mv_X12_isBar ml_X12_369 rfl rfl rfl (by decide) (by decide)) MX12_isBar (aR (rLoc 0 0) (aI (eLoc 1) aNil)))) (cCmp0 1 (eCall (.invokevirtual 213) (lkV (T := TX12) (N := 77) mf_X12_isName mv_X12_isName ml_X12_213 rfl rfl rfl (by decide) (by decide)) MX12_isName (aR (rLoc 0 0) (aI (eLoc 2) aNil))))) (eCall (.invokevirtual 408) (lkV (T := TX12) (N := 77) mf_X12_againstOf mv_X12_againstOf ml_X12_408 rfl rfl rfl (by decide) (by decide)) MX12_againstOf (aR (rLoc 0 0) (aI (eLoc 1) (aI (eLoc 2) aNil)))) (eLit (-1))))
set_option maxRecDepth 100000 in
def MX12_against : MP wdM yX12_against cX12_against 3 (some .int) 5 [.inr 0, .inl 0, .inl 0] := mkM scX12_against yX12_against [.inr 0, .inl 0, .inl 0] bX12_against (by decide +kernel) rfl rfl (by decide) (by decide +kernel)
abbrev scX12_rowsOf : ik_SC := (wdM, cX12_rowsOf, 3, RX12, [(0, 0)], 0, some .int)
set_option maxRecDepth 100000 in
def bX12_rowsOf : SP scX12_rowsOf := (pSeq (pSet 1 (eLit 1)) (pSeq (pSeq (pSet 2 (eLit 0)) (pWh 12 23 23 (cCmp 2 (eLoc 2) (eFld (rLoc 0 0) 174 12 3 0 fl_X12_174)) (pSeq (pSet 1 (eBin 2 (eLoc 1) (eLit 24))) (pInc 2 1)))) (pRet 0 25 (eLoc 1))))
set_option maxRecDepth 100000 in
def MX12_rowsOf : MP wdM yX12_rowsOf cX12_rowsOf 3 (some .int) 0 [.inr 0] := mkM scX12_rowsOf yX12_rowsOf [.inr 0] bX12_rowsOf (by decide +kernel) rfl rfl (by decide) (by decide +kernel)
abbrev scX12_takes : ik_SC := (wdM, cX12_takes, 4, RX12, [(0, 0)], 0, some .boolean)
set_option maxRecDepth 100000 in
def bX12_takes : SP scX12_takes := (pSeq (pSet 2 (eLoc 1)) (pSeq (pSeq (pSet 3 (eLit 0)) (pWh 12 48 48 (cCmp 2 (eLoc 3) (eFld (rLoc 0 0) 174 12 3 0 fl_X12_174)) (pSeq (pSeq (pAst 0 4 (rFld (rLoc 0 0) 69 12 33 20 fl_X12_69) (eLoc 3) (eBin 10 (eLoc 2) (eLit 24))) (pSeq (pSet 2 (eBin 9 (eLoc 2) (eLit 24))) (pIf 40 42 42 (cCmp 3 (eArr 0 4 (rFld (rLoc 0 0) 69 12 33 20 fl_X12_69) (eLoc 3)) (eFld (rLoc 0 0) 166 12 2 0 fl_X12_166)) (pRet 3 42 (eLit 0)) pSkip))) (pInc 3 1)))) (pRet 3 50 (eLit 1))))
set_option maxRecDepth 100000 in
def MX12_takes : MP wdM yX12_takes cX12_takes 4 (some .boolean) 0 [.inr 0, .inl 0] := mkM scX12_takes yX12_takes [.inr 0, .inl 0] bX12_takes (by decide +kernel) rfl rfl (by decide) (by decide +kernel)
abbrev scX12_asks : ik_SC := (wdM, cX12_asks, 3, RX12, [(0, 0)], 5, none)
set_option maxRecDepth 100000 in
def bX12_asks : SP scX12_asks := (pSeq (pSeq (pSet 1 (eLit 0)) (pWh 10 49 49 (cCmp 2 (eLoc 1) (eFld (rLoc 0 0) 174 12 3 0 fl_X12_174)) (pSeq (pSeq (pSet 2 (eLit 0)) (pWh 20 43 43 (cCmp 2 (eLoc 2) (eFld (rLoc 0 0) 166 12 2 0 fl_X12_166)) (pSeq (pAst 0 96 (rFld (rLoc 0 0) 141 12 66 44 fl_X12_141) (eBin 0 (eBin 2 (eLit 24) (eLoc 1)) (eLoc 2)) (eCall (.invokevirtual 408) (lkV (T := TX12) (N := 77) mf_X12_againstOf mv_X12_againstOf ml_X12_408 rfl rfl rfl (by decide) (by decide)) MX12_againstOf (aR (rLoc 0 0) (aI (eLoc 1) (aI (eLoc 2) aNil))))) (pInc 2 1)))) (pInc 1 1)))) (pRetV 50))
set_option maxRecDepth 100000 in
def MX12_asks : MP wdM yX12_asks cX12_asks 3 (none) 5 [.inr 0] := mkM scX12_asks yX12_asks [.inr 0] bX12_asks (by decide +kernel) rfl rfl (by decide) (by decide +kernel)
abbrev scX12_wideOfToken : ik_SC := (wdM, cX12_wideOfToken, 8, RX12, [(0, 0)], 1, some .int)
set_option maxRecDepth 100000 in
def bX12_wideOfToken : SP scX12_wideOfToken := (pSeq (pSet 3 (eBin 0 (eBin 2 (eLit 24) (eLoc 1)) (eLoc 2))) (pSeq (pIf 17 33 33 (cCmp 2 (eArr 0 144 (rFld (rLoc 0 0) 56 12 26 16 fl_X12_56) (eLoc 3)) (eLit 4)) (pRet 0 33 (eCall (.invokevirtual 216) (lkV (T := TX12) (N := 77) mf_X12_wideOf mv_X12_wideOf ml_X12_216 rfl rfl rfl (by decide) (by decide)) MX12_wideOf (aR (rLoc 0 0) (aI (eArr 0 4 (rFld (rLoc 0 0) 69 12 33 20 fl_X12_69) (eArr 0 144 (rFld (rLoc 0 0) 56 12 26 16 fl_X12_56) (eLoc 3))) aNil)))) pSkip) (pSeq (pSet 4 (eLit 0)) (pSeq (pSet 5 (eLit 0)) (pSeq (pSeq (pSet 6 (eArr 0 144 (rFld (rLoc 0 0) 59 12 27 17 fl_X12_59) (eLoc 3))) (pWh 58 114 114 (cCmp 2 (eLoc 6) (eArr 0 144 (rFld (rLoc 0 0) 62 12 28 18 fl_X12_62) (eLoc 3))) (pSeq (pSeq (pSet 7 (eBin 0 (eBin 1 (eArr 2 960 (rFld (rLoc 0 0) 53 12 25 15 fl_X12_53) (eBin 0 (eBin 2 (eLit 160) (eLoc 1)) (eLoc 6))) (eLit 97)) (eLit 1))) (pSeq (pSet 4 (eBin 0 (eLoc 4) (eBin 0 (eArr 0 27 (rFld (rLoc 0 0) 13 12 12 2 fl_X12_13) (eLoc 7)) (eArr 0 729 (rFld (rLoc 0 0) 17 12 13 3 fl_X12_17) (eBin 0 (eBin 2 (eLit 27) (eLoc 5)) (eLoc 7)))))) (pSet 5 (eLoc 7)))) (pInc 6 1)))) (pRet 0 117 (eLoc 4)))))))
set_option maxRecDepth 100000 in
def MX12_wideOfToken : MP wdM yX12_wideOfToken cX12_wideOfToken 8 (some .int) 1 [.inr 0, .inl 0, .inl 0] := mkM scX12_wideOfToken yX12_wideOfToken [.inr 0, .inl 0, .inl 0] bX12_wideOfToken (by decide +kernel) rfl rfl (by decide) (by decide +kernel)
abbrev scX12_sets : ik_SC := (wdM, cX12_sets, 5, RX12, [(0, 0)], 2, none)
set_option maxRecDepth 100000 in
def bX12_sets : SP scX12_sets := (pSeq (pSeq (pPut (rLoc 0 0) 259 12 34 0 fw_X12_259 (eLit 0)) (pSeq (pSet 2 (eLit 0)) (pSeq (pSet 3 (eLit 0)) (pWh 19 95 95 (cCmp 2 (eLoc 3) (eArr 0 6 (rFld (rLoc 0 0) 50 12 24 14 fl_X12_50) (eLoc 1))) (pSeq (pSeq (pSet 4 (eCall (.invokevirtual 262) (lkV (T := TX12) (N := 77) mf_X12_wideOfToken mv_X12_wideOfToken ml_X12_262 rfl rfl rfl (by decide) (by decide)) MX12_wideOfToken (aR (rLoc 0 0) (aI (eLoc 1) (aI (eLoc 3) aNil))))) (pIf 51 66 89 (cAnd 31 (cCmp0 4 (eLoc 3)) (cCmp 5 (eBin 0 (eBin 0 (eLoc 2) (eArr 0 27 (rFld (rLoc 0 0) 13 12 12 2 fl_X12_13) (eLit 0))) (eLoc 4)) (eArr 0 6 (rFld (rLoc 0 0) 47 12 23 13 fl_X12_47) (eLoc 1)))) (pSet 2 (eBin 0 (eLoc 2) (eBin 0 (eArr 0 27 (rFld (rLoc 0 0) 13 12 12 2 fl_X12_13) (eLit 0)) (eLoc 4)))) (pSeq (pAst 0 24 (rFld (rLoc 0 0) 72 12 35 21 fl_X12_72) (eFld (rLoc 0 0) 259 12 34 0 fl_X12_259) (eLoc 3)) (pSeq (pPutOp (rLoc 0 0) 259 12 34 0 fw_X12_259 (eLit 1)) (pSet 2 (eLoc 4)))))) (pInc 3 1)))))) (pRetV 96))
set_option maxRecDepth 100000 in
def MX12_sets : MP wdM yX12_sets cX12_sets 5 (none) 2 [.inr 0, .inl 0] := mkM scX12_sets yX12_sets [.inr 0, .inl 0] bX12_sets (by decide +kernel) rfl rfl (by decide) (by decide +kernel)
abbrev scX12_breaksSo : ik_SC := (wdM, cX12_breaksSo, 5, RX12, [(0, 0)], 3, some .boolean)
set_option maxRecDepth 100000 in
def bX12_breaksSo : SP scX12_breaksSo := (pSeq (pDo (.invokevirtual 265) (lkV (T := TX12) (N := 77) mf_X12_sets mv_X12_sets ml_X12_265 rfl rfl rfl (by decide) (by decide)) MX12_sets (aR (rLoc 0 0) (aI (eLoc 1) aNil))) (pSeq (pSet 2 (eLit 1)) (pSeq (pSeq (pSet 3 (eLit 1)) (pWh 19 81 81 (cCmp 2 (eLoc 3) (eArr 0 6 (rFld (rLoc 0 0) 50 12 24 14 fl_X12_50) (eLoc 1))) (pSeq (pSeq (pSet 4 (eIte 37 41 42 (cAnd 27 (cCmp 2 (eLoc 2) (eFld (rLoc 0 0) 259 12 34 0 fl_X12_259)) (cCmp 0 (eArr 0 24 (rFld (rLoc 0 0) 72 12 35 21 fl_X12_72) (eLoc 2)) (eLoc 3))) (eLit 1) (eLit 0))) (pSeq (pIf 60 62 62 (cCmp 1 (eLoc 4) (eArr 3 144 (rFld (rLoc 0 0) 65 12 29 19 fl_X12_65) (eBin 0 (eBin 2 (eLit 24) (eLoc 1)) (eLoc 3)))) (pRet 3 62 (eLit 0)) pSkip) (pSet 2 (eBin 0 (eLoc 2) (eIte 68 72 73 (cCmp0 1 (eLoc 4)) (eLit 1) (eLit 0)))))) (pInc 3 1)))) (pRet 3 83 (eLit 1)))))
set_option maxRecDepth 100000 in
def MX12_breaksSo : MP wdM yX12_breaksSo cX12_breaksSo 5 (some .boolean) 3 [.inr 0, .inl 0] := mkM scX12_breaksSo yX12_breaksSo [.inr 0, .inl 0] bX12_breaksSo (by decide +kernel) rfl rfl (by decide) (by decide +kernel)
abbrev scX12_speaks : ik_SC := (wdM, cX12_speaks, 7, RX12, [(0, 0)], 4, some .int)
set_option maxRecDepth 100000 in
def bX12_speaks : SP scX12_speaks := (pSeq (pSet 3 (eLoc 2)) (pSeq (pSeq (pSet 4 (eLit 0)) (pWh 14 123 123 (cCmp 2 (eLoc 4) (eFld (rLoc 0 0) 364 12 6 0 fl_X12_364)) (pSeq (pSeq (pSet 5 (eCall (.invokevirtual 209) (lkV (T := TX12) (N := 77) mf_X12_compared mv_X12_compared ml_X12_209 rfl rfl rfl (by decide) (by decide)) MX12_compared (aR (rLoc 0 0) (aI (eArr 0 4 (rFld (rLoc 0 0) 69 12 33 20 fl_X12_69) (eArr 0 20 (rFld (rLoc 0 0) 117 12 58 36 fl_X12_117) (eLoc 4))) (aI (eArr 0 4 (rFld (rLoc 0 0) 69 12 33 20 fl_X12_69) (eArr 0 20 (rFld (rLoc 0 0) 120 12 59 37 fl_X12_120) (eLoc 4))) aNil))))) (pSeq (pSet 6 (eIte 54 67 101 (cCmp0 0 (eArr 0 20 (rFld (rLoc 0 0) 114 12 57 35 fl_X12_114) (eLoc 4))) (eIte 59 63 101 (cCmp0 0 (eLoc 5)) (eLit 1) (eLit 0)) (eIte 78 91 101 (cCmp 0 (eArr 0 20 (rFld (rLoc 0 0) 114 12 57 35 fl_X12_114) (eLoc 4)) (eLit 1)) (eIte 83 87 101 (cCmp0 1 (eLoc 5)) (eLit 1) (eLit 0)) (eIte 96 100 101 (cCmp0 2 (eLoc 5)) (eLit 1) (eLit 0))))) (pSet 3 (eBin 4 (eLoc 3) (eIte 109 113 115 (cCmp0 1 (eLoc 6)) (eLit 0) (eLit 16)))))) (pInc 4 1)))) (pSeq (pIf 131 133 133 (cCmp0 1 (eBin 3 (eLoc 3) (eBin 5 (eLoc 1) (eLit (-1))))) (pRet 0 133 (eLoc 3)) pSkip) (pSeq (pSeq (pSet 4 (eLit 0)) (pWh 153 176 176 (cAnd 145 (cCmp 2 (eLoc 4) (eFld (rLoc 0 0) 177 12 4 0 fl_X12_177)) (cNot (cCmp0 1 (eCall (.invokestatic 405) (lkS mf_X12_has ms_X12_has ml_X12_405 rfl (by decide) (by decide)) MX12_has (aI (eLoc 3) (aI (eLit 1) aNil)))))) (pSeq (pSet 3 (eBin 4 (eLoc 3) (eIte 163 167 168 (cCmp0 1 (eCall (.invokevirtual 411) (lkV (T := TX12) (N := 77) mf_X12_breaksSo mv_X12_breaksSo ml_X12_411 rfl rfl rfl (by decide) (by decide)) MX12_breaksSo (aR (rLoc 0 0) (aI (eLoc 4) aNil)))) (eLit 0) (eLit 2)))) (pInc 4 1)))) (pRet 0 178 (eLoc 3))))))
set_option maxRecDepth 100000 in
def MX12_speaks : MP wdM yX12_speaks cX12_speaks 7 (some .int) 4 [.inr 0, .inl 0, .inl 0] := mkM scX12_speaks yX12_speaks [.inr 0, .inl 0, .inl 0] bX12_speaks (by decide +kernel) rfl rfl (by decide) (by decide +kernel)
abbrev scX12_judge : ik_SC := (wdM, cX12_judge, 4, RX12, [(0, 0)], 6, some .int)
set_option maxRecDepth 100000 in
def bX12_judge : SP scX12_judge := (pSeq (pIf 31 33 33 (cOr 23 (cOr 7 (cCmp0 0 (eFld (rLoc 0 0) 174 12 3 0 fl_X12_174)) (cNot (cCmp0 1 (eCall (.invokestatic 170) (lkS mf_X12_lies ms_X12_lies ml_X12_170 rfl (by decide) (by decide)) MX12_lies (aL (lI2l (eLoc 1)) (aL (lLit 0) (aL (lI2l (eBin 1 (eCall (.invokevirtual 414) (lkV (T := TX12) (N := 77) mf_X12_rowsOf mv_X12_rowsOf ml_X12_414 rfl rfl rfl (by decide) (by decide)) MX12_rowsOf (aR (rLoc 0 0) aNil)) (eLit 1))) aNil))))))) (cNot (cCmp0 1 (eCall (.invokevirtual 417) (lkV (T := TX12) (N := 77) mf_X12_takes mv_X12_takes ml_X12_417 rfl rfl rfl (by decide) (by decide)) MX12_takes (aR (rLoc 0 0) (aI (eLoc 1) aNil)))))) (pRet 0 33 (eLit (-1))) pSkip) (pSeq (pDo (.invokevirtual 420) (lkV (T := TX12) (N := 77) mf_X12_asks mv_X12_asks ml_X12_420 rfl rfl rfl (by decide) (by decide)) MX12_asks (aR (rLoc 0 0) aNil)) (pSeq (pSet 2 (eLit 0)) (pSeq (pSeq (pSet 3 (eLit 0)) (pWh 49 74 74 (cCmp 2 (eLoc 3) (eFld (rLoc 0 0) 174 12 3 0 fl_X12_174)) (pSeq (pSet 2 (eBin 4 (eLoc 2) (eArr 0 96 (rFld (rLoc 0 0) 141 12 66 44 fl_X12_141) (eBin 0 (eBin 2 (eLit 24) (eLoc 3)) (eArr 0 4 (rFld (rLoc 0 0) 69 12 33 20 fl_X12_69) (eLoc 3)))))) (pInc 3 1)))) (pRet 0 82 (eCall (.invokevirtual 423) (lkV (T := TX12) (N := 77) mf_X12_speaks mv_X12_speaks ml_X12_423 rfl rfl rfl (by decide) (by decide)) MX12_speaks (aR (rLoc 0 0) (aI (eLit 63) (aI (eLoc 2) aNil)))))))))
set_option maxRecDepth 100000 in
def MX12_judge : MP wdM yX12_judge cX12_judge 4 (some .int) 6 [.inr 0, .inl 0] := mkM scX12_judge yX12_judge [.inr 0, .inl 0] bX12_judge (by decide +kernel) rfl rfl (by decide) (by decide +kernel)
abbrev scX12_isSheet : ik_SC := (wdM, cX12_isSheet, 2, RX12, [(0, 0)], 1, some .boolean)
set_option maxRecDepth 100000 in
def bX12_isSheet : SP scX12_isSheet := (pRet 3 14 (eCall (.invokestatic 170) (lkS mf_X12_lies ms_X12_lies ml_X12_170 rfl (by decide) (by decide)) MX12_lies (aL (lI2l (eLoc 1)) (aL (lLit 0) (aL (lI2l (eBin 1 (eFld (rLoc 0 0) 177 12 4 0 fl_X12_177) (eLit 1))) aNil)))))
set_option maxRecDepth 100000 in
def MX12_isSheet : MP wdM yX12_isSheet cX12_isSheet 2 (some .boolean) 1 [.inr 0, .inl 0] := mkM scX12_isSheet yX12_isSheet [.inr 0, .inl 0] bX12_isSheet (by decide +kernel) rfl rfl (by decide) (by decide +kernel)
abbrev scX12_line : ik_SC := (wdM, cX12_line, 4, RX12, [(0, 0)], 3, some .int)
set_option maxRecDepth 100000 in
def bX12_line : SP scX12_line := (pSeq (pIf 32 34 34 (cOr 24 (cOr 8 (cNot (cCmp0 1 (eCall (.invokevirtual 426) (lkV (T := TX12) (N := 77) mf_X12_isSheet mv_X12_isSheet ml_X12_426 rfl rfl rfl (by decide) (by decide)) MX12_isSheet (aR (rLoc 0 0) (aI (eLoc 1) aNil))))) (cNot (cCmp0 1 (eCall (.invokestatic 170) (lkS mf_X12_lies ms_X12_lies ml_X12_170 rfl (by decide) (by decide)) MX12_lies (aL (lI2l (eLoc 2)) (aL (lLit 0) (aL (lI2l (eBin 1 (eCall (.invokevirtual 414) (lkV (T := TX12) (N := 77) mf_X12_rowsOf mv_X12_rowsOf ml_X12_414 rfl rfl rfl (by decide) (by decide)) MX12_rowsOf (aR (rLoc 0 0) aNil)) (eLit 1))) aNil))))))) (cNot (cCmp0 1 (eCall (.invokevirtual 417) (lkV (T := TX12) (N := 77) mf_X12_takes mv_X12_takes ml_X12_417 rfl rfl rfl (by decide) (by decide)) MX12_takes (aR (rLoc 0 0) (aI (eLoc 2) aNil)))))) (pRet 0 34 (eLit (-1))) pSkip) (pSeq (pDo (.invokevirtual 265) (lkV (T := TX12) (N := 77) mf_X12_sets mv_X12_sets ml_X12_265 rfl rfl rfl (by decide) (by decide)) MX12_sets (aR (rLoc 0 0) (aI (eLoc 1) aNil))) (pRet 0 66 (eIte 55 64 65 (cCmp0 1 (eCall (.invokestatic 170) (lkS mf_X12_lies ms_X12_lies ml_X12_170 rfl (by decide) (by decide)) MX12_lies (aL (lI2l (eLoc 3)) (aL (lLit 0) (aL (lI2l (eBin 1 (eFld (rLoc 0 0) 259 12 34 0 fl_X12_259) (eLit 1))) aNil))))) (eArr 0 24 (rFld (rLoc 0 0) 72 12 35 21 fl_X12_72) (eLoc 3)) (eLit (-1))))))
set_option maxRecDepth 100000 in
def MX12_line : MP wdM yX12_line cX12_line 4 (some .int) 3 [.inr 0, .inl 0, .inl 0, .inl 0] := mkM scX12_line yX12_line [.inr 0, .inl 0, .inl 0, .inl 0] bX12_line (by decide +kernel) rfl rfl (by decide) (by decide +kernel)
abbrev scX12_begins : ik_SC := (wdM, cX12_begins, 2, RX12, [(0, 0)], 0, some .boolean)
set_option maxRecDepth 100000 in
def bX12_begins : SP scX12_begins := (pSeq (pSeq (pSet 1 (eLit 0)) (pWh 7 20 20 (cCmp 2 (eLoc 1) (eLit 4)) (pSeq (pAst 0 4 (rFld (rLoc 0 0) 69 12 33 20 fl_X12_69) (eLoc 1) (eLit 0)) (pInc 1 1)))) (pRet 3 40 (eIte 34 38 39 (cAnd 27 (cCmp0 4 (eFld (rLoc 0 0) 174 12 3 0 fl_X12_174)) (cCmp0 4 (eFld (rLoc 0 0) 166 12 2 0 fl_X12_166))) (eLit 1) (eLit 0))))
set_option maxRecDepth 100000 in
def MX12_begins : MP wdM yX12_begins cX12_begins 2 (some .boolean) 0 [.inr 0] := mkM scX12_begins yX12_begins [.inr 0] bX12_begins (by decide +kernel) rfl rfl (by decide) (by decide +kernel)
abbrev scX12_tableOf : ik_SC := (wdM, cX12_tableOf, 3, RX12, [(0, 0)], 0, some .int)
set_option maxRecDepth 100000 in
def bX12_tableOf : SP scX12_tableOf := (pSeq (pSet 1 (eLit 0)) (pSeq (pSeq (pSet 2 (eLit 0)) (pWh 12 37 37 (cCmp 2 (eLoc 2) (eFld (rLoc 0 0) 174 12 3 0 fl_X12_174)) (pSeq (pSet 1 (eBin 4 (eLoc 1) (eArr 0 96 (rFld (rLoc 0 0) 141 12 66 44 fl_X12_141) (eBin 0 (eBin 2 (eLit 24) (eLoc 2)) (eArr 0 4 (rFld (rLoc 0 0) 69 12 33 20 fl_X12_69) (eLoc 2)))))) (pInc 2 1)))) (pRet 0 39 (eLoc 1))))
set_option maxRecDepth 100000 in
def MX12_tableOf : MP wdM yX12_tableOf cX12_tableOf 3 (some .int) 0 [.inr 0] := mkM scX12_tableOf yX12_tableOf [.inr 0] bX12_tableOf (by decide +kernel) rfl rfl (by decide) (by decide +kernel)
abbrev scX12_goesOnNames : ik_SC := (wdM, cX12_goesOnNames, 2, RX12, [(0, 0)], 0, some .boolean)
set_option maxRecDepth 100000 in
def bX12_goesOnNames : SP scX12_goesOnNames := (pSeq (pSet 1 (eBin 1 (eFld (rLoc 0 0) 174 12 3 0 fl_X12_174) (eLit 1))) (pSeq (pWh 26 39 39 (cAnd 11 (cCmp0 3 (eLoc 1)) (cCmp 0 (eArr 0 4 (rFld (rLoc 0 0) 69 12 33 20 fl_X12_69) (eLoc 1)) (eBin 1 (eFld (rLoc 0 0) 166 12 2 0 fl_X12_166) (eLit 1)))) (pSeq (pAst 0 4 (rFld (rLoc 0 0) 69 12 33 20 fl_X12_69) (eLoc 1) (eLit 0)) (pInc 1 (-1)))) (pSeq (pIf 43 45 45 (cCmp0 2 (eLoc 1)) (pRet 3 45 (eLit 0)) pSkip) (pSeq (pAop 4 0 (rFld (rLoc 0 0) 69 12 33 20 fl_X12_69) (eLoc 1) (eLit 1)) (pRet 3 57 (eLit 1))))))
set_option maxRecDepth 100000 in
def MX12_goesOnNames : MP wdM yX12_goesOnNames cX12_goesOnNames 2 (some .boolean) 0 [.inr 0] := mkM scX12_goesOnNames yX12_goesOnNames [.inr 0] bX12_goesOnNames (by decide +kernel) rfl rfl (by decide) (by decide +kernel)
abbrev scX12_fills : ik_SC := (wdM, cX12_fills, 7, RX12, [(0, 0)], 6, none)
set_option maxRecDepth 100000 in
def bX12_fills : SP scX12_fills := (pSeq (pSeq (pDo (.invokevirtual 420) (lkV (T := TX12) (N := 77) mf_X12_asks mv_X12_asks ml_X12_420 rfl rfl rfl (by decide) (by decide)) MX12_asks (aR (rLoc 0 0) aNil)) (pSeq (pPut (rLoc 0 0) 429 12 67 0 fw_X12_429 (eLit 0)) (pSeq (pPutL (rLoc 0 0) 432 12 69 fw_X12_432 (lLit 0)) (pSeq (pSeq (pSet 2 (eLit 0)) (pWh 22 35 35 (cCmp 2 (eLoc 2) (eLit 96)) (pSeq (pAstL 96 (rFld (rLoc 0 0) 144 12 70 45 fl_X12_144) (eLoc 2) (lLit 0)) (pInc 2 1)))) (pSeq (pSet 2 (eCall (.invokevirtual 436) (lkV (T := TX12) (N := 77) mf_X12_begins mv_X12_begins ml_X12_436 rfl rfl rfl (by decide) (by decide)) MX12_begins (aR (rLoc 0 0) aNil))) (pWh 44 179 179 (cCmp0 1 (eLoc 2)) (pSeq (pSet 3 (eCall (.invokevirtual 439) (lkV (T := TX12) (N := 77) mf_X12_tableOf mv_X12_tableOf ml_X12_439 rfl rfl rfl (by decide) (by decide)) MX12_tableOf (aR (rLoc 0 0) aNil))) (pSeq (pIf 70 171 171 (cAnd 57 (cCmp0 0 (eBin 3 (eLoc 3) (eBin 5 (eLoc 1) (eLit (-1))))) (cCmp0 0 (eBin 3 (eCall (.invokevirtual 423) (lkV (T := TX12) (N := 77) mf_X12_speaks mv_X12_speaks ml_X12_423 rfl rfl rfl (by decide) (by decide)) MX12_speaks (aR (rLoc 0 0) (aI (eLoc 1) (aI (eLoc 3) aNil)))) (eBin 5 (eLoc 1) (eLit (-1)))))) (pSeq (pPutOp (rLoc 0 0) 429 12 67 0 fw_X12_429 (eLit 1)) (pSeq (pSetL 4 (lLit 1)) (pSeq (pSeq (pSet 6 (eLit 0)) (pWh 95 119 119 (cCmp 2 (eLoc 6) (eFld (rLoc 0 0) 174 12 3 0 fl_X12_174)) (pSeq (pSetL 4 (lBin 1 (lLoc 4) (lI2l (eArr 0 24 (rFld (rLoc 0 0) 35 12 19 9 fl_X12_35) (eArr 0 4 (rFld (rLoc 0 0) 69 12 33 20 fl_X12_69) (eLoc 6)))))) (pInc 6 1)))) (pSeq (pPutOpL (rLoc 0 0) 432 12 69 fw_X12_432 (lLoc 4)) (pSeq (pSet 6 (eLit 0)) (pWh 142 171 171 (cCmp 2 (eLoc 6) (eFld (rLoc 0 0) 174 12 3 0 fl_X12_174)) (pSeq (pAopL 96 (rFld (rLoc 0 0) 144 12 70 45 fl_X12_144) (eBin 0 (eBin 2 (eLit 24) (eLoc 6)) (eArr 0 4 (rFld (rLoc 0 0) 69 12 33 20 fl_X12_69) (eLoc 6))) (lLoc 4)) (pInc 6 1)))))))) pSkip) (pSet 2 (eCall (.invokevirtual 442) (lkV (T := TX12) (N := 77) mf_X12_goesOnNames mv_X12_goesOnNames ml_X12_442 rfl rfl rfl (by decide) (by decide)) MX12_goesOnNames (aR (rLoc 0 0) aNil))))))))))) (pRetV 180))
set_option maxRecDepth 100000 in
def MX12_fills : MP wdM yX12_fills cX12_fills 7 (none) 6 [.inr 0, .inl 0] := mkM scX12_fills yX12_fills [.inr 0, .inl 0] bX12_fills (by decide +kernel) rfl rfl (by decide) (by decide +kernel)
abbrev scX12_fillings : ik_SC := (wdM, cX12_fillings, 2, RX12, [(0, 0)], 7, some .int)
set_option maxRecDepth 100000 in
def bX12_fillings : SP scX12_fillings := (pSeq (pIf 19 21 21 (cOr 7 (cCmp0 0 (eFld (rLoc 0 0) 174 12 3 0 fl_X12_174)) (cNot (cCmp0 1 (eCall (.invokestatic 170) (lkS mf_X12_lies ms_X12_lies ml_X12_170 rfl (by decide) (by decide)) MX12_lies (aL (lI2l (eLoc 1)) (aL (lLit 0) (aL (lLdc 445 63 kc_X12_445) aNil))))))) (pRet 0 21 (eLit (-1))) pSkip) (pSeq (pDo (.invokevirtual 447) (lkV (T := TX12) (N := 77) mf_X12_fills mv_X12_fills ml_X12_447 rfl rfl rfl (by decide) (by decide)) MX12_fills (aR (rLoc 0 0) (aI (eLoc 1) aNil))) (pRet 0 31 (eFld (rLoc 0 0) 429 12 67 0 fl_X12_429))))
set_option maxRecDepth 100000 in
def MX12_fillings : MP wdM yX12_fillings cX12_fillings 2 (some .int) 7 [.inr 0, .inl 0] := mkM scX12_fillings yX12_fillings [.inr 0, .inl 0] bX12_fillings (by decide +kernel) rfl rfl (by decide) (by decide +kernel)
abbrev scX12_mayOf : ik_SC := (wdM, cX12_mayOf, 4, RX12, [(0, 0)], 0, some .int)
set_option maxRecDepth 100000 in
def bX12_mayOf : SP scX12_mayOf := (pSeq (pSet 2 (eLit 0)) (pSeq (pSeq (pSet 3 (eLit 0)) (pWh 12 44 44 (cCmp 2 (eLoc 3) (eFld (rLoc 0 0) 166 12 2 0 fl_X12_166)) (pSeq (pSet 2 (eBin 4 (eLoc 2) (eIte 29 35 36 (cCmpL 4 (lArr 96 (rFld (rLoc 0 0) 144 12 70 45 fl_X12_144) (eBin 0 (eBin 2 (eLit 24) (eLoc 1)) (eLoc 3))) (lLit 0)) (eBin 6 (eLit 1) (eLoc 3)) (eLit 0)))) (pInc 3 1)))) (pRet 0 46 (eLoc 2))))
set_option maxRecDepth 100000 in
def MX12_mayOf : MP wdM yX12_mayOf cX12_mayOf 4 (some .int) 0 [.inr 0, .inl 0] := mkM scX12_mayOf yX12_mayOf [.inr 0, .inl 0] bX12_mayOf (by decide +kernel) rfl rfl (by decide) (by decide +kernel)
abbrev scX12_may : ik_SC := (wdM, cX12_may, 2, RX12, [(0, 0)], 7, some .int)
set_option maxRecDepth 100000 in
def bX12_may : SP scX12_may := (pSeq (pIf 8 10 10 (cNot (cCmp0 1 (eCall (.invokevirtual 369) (lkV (T := TX12) (N := 77) mf_X12_isBar mv_X12_isBar ml_X12_369 rfl rfl rfl (by decide) (by decide)) MX12_isBar (aR (rLoc 0 0) (aI (eLoc 1) aNil))))) (pRet 0 10 (eLit (-1))) pSkip) (pSeq (pDo (.invokevirtual 447) (lkV (T := TX12) (N := 77) mf_X12_fills mv_X12_fills ml_X12_447 rfl rfl rfl (by decide) (by decide)) MX12_fills (aR (rLoc 0 0) (aI (eLit 0) aNil))) (pRet 0 21 (eCall (.invokevirtual 450) (lkV (T := TX12) (N := 77) mf_X12_mayOf mv_X12_mayOf ml_X12_450 rfl rfl rfl (by decide) (by decide)) MX12_mayOf (aR (rLoc 0 0) (aI (eLoc 1) aNil))))))
set_option maxRecDepth 100000 in
def MX12_may : MP wdM yX12_may cX12_may 2 (some .int) 7 [.inr 0, .inl 0] := mkM scX12_may yX12_may [.inr 0, .inl 0] bX12_may (by decide +kernel) rfl rfl (by decide) (by decide +kernel)
abbrev scX12_odds : ik_SC := (wdM, cX12_odds, 3, RX12, [(0, 0)], 7, some .long)
set_option maxRecDepth 100000 in
def bX12_odds : SP scX12_odds := (pSeq (pIf 21 25 25 (cOr 8 (cNot (cCmp0 1 (eCall (.invokevirtual 369) (lkV (T := TX12) (N := 77) mf_X12_isBar mv_X12_isBar ml_X12_369 rfl rfl rfl (by decide) (by decide)) MX12_isBar (aR (rLoc 0 0) (aI (eLoc 1) aNil))))) (cAnd 13 (cCmp 1 (eLoc 2) (eLit (-1))) (cNot (cCmp0 1 (eCall (.invokevirtual 213) (lkV (T := TX12) (N := 77) mf_X12_isName mv_X12_isName ml_X12_213 rfl rfl rfl (by decide) (by decide)) MX12_isName (aR (rLoc 0 0) (aI (eLoc 2) aNil))))))) (pRetL 25 (lLdc 222 (-1) kc_X12_222)) pSkip) (pSeq (pDo (.invokevirtual 447) (lkV (T := TX12) (N := 77) mf_X12_fills mv_X12_fills ml_X12_447 rfl rfl rfl (by decide) (by decide)) MX12_fills (aR (rLoc 0 0) (aI (eLit 0) aNil))) (pRetL 54 (lIte 35 42 53 (cCmp 0 (eLoc 2) (eLit (-1))) (lFld (rLoc 0 0) 432 12 69 fl_X12_432) (lArr 96 (rFld (rLoc 0 0) 144 12 70 45 fl_X12_144) (eBin 0 (eBin 2 (eLit 24) (eLoc 1)) (eLoc 2)))))))
set_option maxRecDepth 100000 in
def MX12_odds : MP wdM yX12_odds cX12_odds 3 (some .long) 7 [.inr 0, .inl 0, .inl 0] := mkM scX12_odds yX12_odds [.inr 0, .inl 0, .inl 0] bX12_odds (by decide +kernel) rfl rfl (by decide) (by decide +kernel)
abbrev scX12_given : ik_SC := (wdM, cX12_given, 4, RX12, [(0, 0)], 7, some .int)
set_option maxRecDepth 100000 in
def bX12_given : SP scX12_given := (pSeq (pIf 7 9 9 (cCmp0 0 (eFld (rLoc 0 0) 174 12 3 0 fl_X12_174)) (pRet 0 9 (eLit (-1))) pSkip) (pSeq (pSet 1 (eLit 0)) (pSeq (pSet 2 (eLit (-1))) (pSeq (pSeq (pSet 3 (eLit 1)) (pWh 21 51 51 (cCmp 5 (eLoc 3) (eLit 32)) (pSeq (pSeq (pDo (.invokevirtual 447) (lkV (T := TX12) (N := 77) mf_X12_fills mv_X12_fills ml_X12_447 rfl rfl rfl (by decide) (by decide)) MX12_fills (aR (rLoc 0 0) (aI (eLoc 3) aNil))) (pIf 34 37 44 (cCmp 5 (eFld (rLoc 0 0) 429 12 67 0 fl_X12_429) (eLoc 2)) pSkip (pSeq (pSet 1 (eLoc 3)) (pSet 2 (eFld (rLoc 0 0) 429 12 67 0 fl_X12_429))))) (pSet 3 (eBin 2 (eLoc 3) (eLit 2)))))) (pRet 0 53 (eLoc 1))))))
set_option maxRecDepth 100000 in
def MX12_given : MP wdM yX12_given cX12_given 4 (some .int) 7 [.inr 0] := mkM scX12_given yX12_given [.inr 0] bX12_given (by decide +kernel) rfl rfl (by decide) (by decide +kernel)
abbrev scX12_habits : ik_SC := (wdM, cX12_habits, 7, RX12, [(0, 0)], 6, none)
set_option maxRecDepth 100000 in
def bX12_habits : SP scX12_habits := (pSeq (pSeq (pDo (.invokevirtual 420) (lkV (T := TX12) (N := 77) mf_X12_asks mv_X12_asks ml_X12_420 rfl rfl rfl (by decide) (by decide)) MX12_asks (aR (rLoc 0 0) aNil)) (pSeq (pSeq (pSet 1 (eLit 0)) (pWh 12 27 27 (cCmp 2 (eLoc 1) (eLit 96)) (pSeq (pAst 0 96 (rFld (rLoc 0 0) 148 12 71 46 fl_X12_148) (eLoc 1) (eLit 201)) (pInc 1 1)))) (pSeq (pSet 1 (eCall (.invokevirtual 436) (lkV (T := TX12) (N := 77) mf_X12_begins mv_X12_begins ml_X12_436 rfl rfl rfl (by decide) (by decide)) MX12_begins (aR (rLoc 0 0) aNil))) (pWh 36 217 217 (cCmp0 1 (eLoc 1)) (pSeq (pSet 2 (eBin 3 (eCall (.invokevirtual 439) (lkV (T := TX12) (N := 77) mf_X12_tableOf mv_X12_tableOf ml_X12_439 rfl rfl rfl (by decide) (by decide)) MX12_tableOf (aR (rLoc 0 0) aNil)) (eLit (-2)))) (pSeq (pSet 3 (eLit 0)) (pSeq (pSet 4 (eIte 50 54 55 (cCmp0 0 (eLoc 2)) (eLit 1) (eLit 0))) (pSeq (pSeq (pSet 5 (eLit 0)) (pWh 69 126 126 (cCmp 2 (eLoc 5) (eFld (rLoc 0 0) 174 12 3 0 fl_X12_174)) (pSeq (pSeq (pSet 6 (eBin 1 (eArr 0 4 (rFld (rLoc 0 0) 38 12 20 10 fl_X12_38) (eLoc 5)) (eCall (.invokevirtual 216) (lkV (T := TX12) (N := 77) mf_X12_wideOf mv_X12_wideOf ml_X12_216 rfl rfl rfl (by decide) (by decide)) MX12_wideOf (aR (rLoc 0 0) (aI (eArr 0 4 (rFld (rLoc 0 0) 69 12 33 20 fl_X12_69) (eLoc 5)) aNil))))) (pSeq (pSet 4 (eIte 100 104 105 (cAnd 95 (cCmp0 1 (eLoc 4)) (cCmp0 3 (eLoc 6))) (eLit 1) (eLit 0))) (pSet 3 (eIte 113 118 119 (cCmp 4 (eLoc 6) (eLoc 3)) (eLoc 6) (eLoc 3))))) (pInc 5 1)))) (pSeq (pIf 147 209 209 (cAnd 138 (cAnd 131 (cCmp0 1 (eLoc 4)) (cCmp 5 (eLoc 3) (eLit 200))) (cCmp0 0 (eCall (.invokevirtual 423) (lkV (T := TX12) (N := 77) mf_X12_speaks mv_X12_speaks ml_X12_423 rfl rfl rfl (by decide) (by decide)) MX12_speaks (aR (rLoc 0 0) (aI (eLit 0) (aI (eLit 0) aNil)))))) (pSeq (pSet 5 (eLit 0)) (pWh 159 209 209 (cCmp 2 (eLoc 5) (eFld (rLoc 0 0) 174 12 3 0 fl_X12_174)) (pSeq (pSeq (pSet 6 (eBin 0 (eBin 2 (eLit 24) (eLoc 5)) (eArr 0 4 (rFld (rLoc 0 0) 69 12 33 20 fl_X12_69) (eLoc 5)))) (pAst 0 96 (rFld (rLoc 0 0) 148 12 71 46 fl_X12_148) (eLoc 6) (eIte 191 195 202 (cCmp 2 (eLoc 3) (eArr 0 96 (rFld (rLoc 0 0) 148 12 71 46 fl_X12_148) (eLoc 6))) (eLoc 3) (eArr 0 96 (rFld (rLoc 0 0) 148 12 71 46 fl_X12_148) (eLoc 6))))) (pInc 5 1)))) pSkip) (pSet 1 (eCall (.invokevirtual 442) (lkV (T := TX12) (N := 77) mf_X12_goesOnNames mv_X12_goesOnNames ml_X12_442 rfl rfl rfl (by decide) (by decide)) MX12_goesOnNames (aR (rLoc 0 0) aNil)))))))))))) (pRetV 218))
set_option maxRecDepth 100000 in
def MX12_habits : MP wdM yX12_habits cX12_habits 7 (none) 6 [.inr 0] := mkM scX12_habits yX12_habits [.inr 0] bX12_habits (by decide +kernel) rfl rfl (by decide) (by decide +kernel)
abbrev scX12_haveAll : ik_SC := (wdM, cX12_haveAll, 6, RX12, [(0, 0)], 0, some .boolean)
set_option maxRecDepth 100000 in
def bX12_haveAll : SP scX12_haveAll := (pSeq (pSeq (pSet 3 (eLit 0)) (pWh 10 71 71 (cCmp 2 (eLoc 3) (eFld (rLoc 0 0) 174 12 3 0 fl_X12_174)) (pSeq (pSeq (pSet 4 (eLit 0)) (pSeq (pSeq (pSet 5 (eLit 0)) (pWh 25 57 57 (cCmp 2 (eLoc 5) (eFld (rLoc 0 0) 166 12 2 0 fl_X12_166)) (pSeq (pSet 4 (eBin 0 (eLoc 4) (eIte 43 47 48 (cCmp 5 (eArr 0 96 (rFld (rLoc 0 0) 148 12 71 46 fl_X12_148) (eBin 0 (eBin 2 (eLit 24) (eLoc 3)) (eLoc 5))) (eLoc 2)) (eLit 1) (eLit 0)))) (pInc 5 1)))) (pIf 63 65 65 (cCmp 2 (eLoc 4) (eLoc 1)) (pRet 3 65 (eLit 0)) pSkip))) (pInc 3 1)))) (pRet 3 73 (eLit 1)))
set_option maxRecDepth 100000 in
def MX12_haveAll : MP wdM yX12_haveAll cX12_haveAll 6 (some .boolean) 0 [.inr 0, .inl 0, .inl 0] := mkM scX12_haveAll yX12_haveAll [.inr 0, .inl 0, .inl 0] bX12_haveAll (by decide +kernel) rfl rfl (by decide) (by decide +kernel)
abbrev scX12_kept : ik_SC := (wdM, cX12_kept, 3, RX12, [(0, 0)], 7, some .int)
set_option maxRecDepth 100000 in
def bX12_kept : SP scX12_kept := (pSeq (pIf 19 21 21 (cOr 7 (cCmp0 0 (eFld (rLoc 0 0) 174 12 3 0 fl_X12_174)) (cNot (cCmp0 1 (eCall (.invokestatic 170) (lkS mf_X12_lies ms_X12_lies ml_X12_170 rfl (by decide) (by decide)) MX12_lies (aL (lI2l (eLoc 1)) (aL (lLit 1) (aL (lLdc 453 24 kc_X12_453) aNil))))))) (pRet 0 21 (eLit (-1))) pSkip) (pSeq (pDo (.invokevirtual 455) (lkV (T := TX12) (N := 77) mf_X12_habits mv_X12_habits ml_X12_455 rfl rfl rfl (by decide) (by decide)) MX12_habits (aR (rLoc 0 0) aNil)) (pSeq (pSeq (pSet 2 (eLit 0)) (pWh 34 51 51 (cCmp 5 (eLoc 2) (eLit 200)) (pSeq (pIf 43 45 45 (cCmp0 1 (eCall (.invokevirtual 458) (lkV (T := TX12) (N := 77) mf_X12_haveAll mv_X12_haveAll ml_X12_458 rfl rfl rfl (by decide) (by decide)) MX12_haveAll (aR (rLoc 0 0) (aI (eLoc 1) (aI (eLoc 2) aNil))))) (pRet 0 45 (eLoc 2)) pSkip) (pInc 2 1)))) (pRet 0 53 (eLit (-1))))))
set_option maxRecDepth 100000 in
def MX12_kept : MP wdM yX12_kept cX12_kept 3 (some .int) 7 [.inr 0, .inl 0] := mkM scX12_kept yX12_kept [.inr 0, .inl 0] bX12_kept (by decide +kernel) rfl rfl (by decide) (by decide +kernel)
abbrev scX12_sizeOf : ik_SC := (wdM, cX12_sizeOf, 3, RX12, [], 0, some .int)
set_option maxRecDepth 100000 in
def bX12_sizeOf : SP scX12_sizeOf := (pSeq (pSet 1 (eLit 0)) (pSeq (pSeq (pSet 2 (eLoc 0)) (pWh 8 20 20 (cCmp0 1 (eLoc 2)) (pSeq (pInc 1 1) (pSet 2 (eBin 3 (eLoc 2) (eBin 1 (eLoc 2) (eLit 1))))))) (pRet 0 22 (eLoc 1))))
set_option maxRecDepth 100000 in
def MX12_sizeOf : MP wdM yX12_sizeOf cX12_sizeOf 3 (some .int) 0 [.inl 0] := mkM scX12_sizeOf yX12_sizeOf [.inl 0] bX12_sizeOf (by decide +kernel) rfl rfl (by decide) (by decide +kernel)
abbrev scX12_says : ik_SC := (wdM, cX12_says, 8, RX12, [(0, 0)], 7, some .int)
set_option maxRecDepth 100000 in
def bX12_says : SP scX12_says := (pSeq (pDo (.invokevirtual 447) (lkV (T := TX12) (N := 77) mf_X12_fills mv_X12_fills ml_X12_447 rfl rfl rfl (by decide) (by decide)) MX12_fills (aR (rLoc 0 0) (aI (eLit 0) aNil))) (pSeq (pSet 3 (eCall (.invokevirtual 450) (lkV (T := TX12) (N := 77) mf_X12_mayOf mv_X12_mayOf ml_X12_450 rfl rfl rfl (by decide) (by decide)) MX12_mayOf (aR (rLoc 0 0) (aI (eLoc 1) aNil)))) (pSeq (pPut (rLoc 0 0) 461 12 68 0 fw_X12_461 (eLit (-1))) (pSeq (pIf 20 22 22 (cCmp0 0 (eLoc 3)) (pRet 0 22 (eLit 0)) pSkip) (pSeq (pSet 4 (eLit 0)) (pSeq (pWh 34 40 40 (cNot (cCmp0 1 (eCall (.invokestatic 405) (lkS mf_X12_has ms_X12_has ml_X12_405 rfl (by decide) (by decide)) MX12_has (aI (eLoc 3) (aI (eLoc 4) aNil))))) (pInc 4 1)) (pSeq (pPut (rLoc 0 0) 461 12 68 0 fw_X12_461 (eLoc 4)) (pSeq (pIf 54 56 56 (cCmp 0 (eCall (.invokestatic 464) (lkS mf_X12_sizeOf ms_X12_sizeOf ml_X12_464 rfl (by decide) (by decide)) MX12_sizeOf (aI (eLoc 3) aNil)) (eLit 1)) (pRet 0 56 (eLit 1)) pSkip) (pSeq (pSet 5 (eLoc 4)) (pSeq (pSet 6 (eLit 1)) (pSeq (pSeq (pSet 7 (eLit 0)) (pWh 75 154 154 (cCmp 2 (eLoc 7) (eFld (rLoc 0 0) 166 12 2 0 fl_X12_166)) (pSeq (pIf 84 87 148 (cNot (cCmp0 1 (eCall (.invokestatic 405) (lkS mf_X12_has ms_X12_has ml_X12_405 rfl (by decide) (by decide)) MX12_has (aI (eLoc 3) (aI (eLoc 7) aNil))))) pSkip (pSeq (pIf 115 119 119 (cCmpL 4 (lArr 96 (rFld (rLoc 0 0) 144 12 70 45 fl_X12_144) (eBin 0 (eBin 2 (eLit 24) (eLoc 1)) (eLoc 7))) (lArr 96 (rFld (rLoc 0 0) 144 12 70 45 fl_X12_144) (eBin 0 (eBin 2 (eLit 24) (eLoc 1)) (eLoc 5)))) (pSet 5 (eLoc 7)) pSkip) (pSet 6 (eIte 141 145 146 (cAnd 124 (cCmp0 1 (eLoc 6)) (cCmp 0 (eArr 0 24 (rFld (rLoc 0 0) 26 12 16 6 fl_X12_26) (eLoc 7)) (eArr 0 24 (rFld (rLoc 0 0) 26 12 16 6 fl_X12_26) (eLoc 4)))) (eLit 1) (eLit 0))))) (pInc 7 1)))) (pSeq (pPut (rLoc 0 0) 461 12 68 0 fw_X12_461 (eLoc 5)) (pSeq (pIf 187 189 189 (cCmpL 3 (lBin 1 (lArr 96 (rFld (rLoc 0 0) 144 12 70 45 fl_X12_144) (eBin 0 (eBin 2 (eLit 24) (eLoc 1)) (eLoc 5))) (lLdc 467 1000 kc_X12_467)) (lBin 1 (lI2l (eLoc 2)) (lFld (rLoc 0 0) 432 12 69 fl_X12_432))) (pRet 0 189 (eLit 2)) pSkip) (pSeq (pPut (rLoc 0 0) 461 12 68 0 fw_X12_461 (eIte 195 205 206 (cCmp0 1 (eLoc 6)) (eArr 0 24 (rFld (rLoc 0 0) 26 12 16 6 fl_X12_26) (eLoc 4)) (eLit (-1)))) (pRet 0 220 (eIte 214 218 219 (cCmp0 1 (eLoc 6)) (eLit 3) (eLit 4)))))))))))))))))
set_option maxRecDepth 100000 in
def MX12_says : MP wdM yX12_says cX12_says 8 (some .int) 7 [.inr 0, .inl 0, .inl 0] := mkM scX12_says yX12_says [.inr 0, .inl 0, .inl 0] bX12_says (by decide +kernel) rfl rfl (by decide) (by decide +kernel)
abbrev scX12_said : ik_SC := (wdM, cX12_said, 5, RX12, [(0, 0)], 8, some .int)
set_option maxRecDepth 100000 in
def bX12_said : SP scX12_said := (pSeq (pIf 30 32 32 (cOr 20 (cOr 8 (cNot (cCmp0 1 (eCall (.invokevirtual 369) (lkV (T := TX12) (N := 77) mf_X12_isBar mv_X12_isBar ml_X12_369 rfl rfl rfl (by decide) (by decide)) MX12_isBar (aR (rLoc 0 0) (aI (eLoc 1) aNil))))) (cNot (cCmp0 1 (eCall (.invokestatic 170) (lkS mf_X12_lies ms_X12_lies ml_X12_170 rfl (by decide) (by decide)) MX12_lies (aL (lI2l (eLoc 2)) (aL (lLit 1) (aL (lLdc 467 1000 kc_X12_467) aNil))))))) (cNot (cCmp0 1 (eCall (.invokestatic 170) (lkS mf_X12_lies ms_X12_lies ml_X12_170 rfl (by decide) (by decide)) MX12_lies (aL (lI2l (eLoc 3)) (aL (lLit 0) (aL (lLit 1) aNil))))))) (pRet 0 32 (eLit (-1))) pSkip) (pSeq (pSet 4 (eCall (.invokevirtual 469) (lkV (T := TX12) (N := 77) mf_X12_says mv_X12_says ml_X12_469 rfl rfl rfl (by decide) (by decide)) MX12_says (aR (rLoc 0 0) (aI (eLoc 1) (aI (eLoc 2) aNil))))) (pRet 0 54 (eIte 44 49 53 (cCmp0 0 (eLoc 3)) (eLoc 4) (eFld (rLoc 0 0) 461 12 68 0 fl_X12_461)))))
set_option maxRecDepth 100000 in
def MX12_said : MP wdM yX12_said cX12_said 5 (some .int) 8 [.inr 0, .inl 0, .inl 0, .inl 0] := mkM scX12_said yX12_said [.inr 0, .inl 0, .inl 0, .inl 0] bX12_said (by decide +kernel) rfl rfl (by decide) (by decide +kernel)
abbrev scX12_isDay : ik_SC := (wdM, cX12_isDay, 1, RX12, [], 1, some .boolean)
set_option maxRecDepth 100000 in
def bX12_isDay : SP scX12_isDay := (pRet 3 10 (eCall (.invokestatic 170) (lkS mf_X12_lies ms_X12_lies ml_X12_170 rfl (by decide) (by decide)) MX12_lies (aL (lI2l (eLoc 0)) (aL (lLit 0) (aL (lLdc 472 9999 kc_X12_472) aNil)))))
set_option maxRecDepth 100000 in
def MX12_isDay : MP wdM yX12_isDay cX12_isDay 1 (some .boolean) 1 [.inl 0] := mkM scX12_isDay yX12_isDay [.inl 0] bX12_isDay (by decide +kernel) rfl rfl (by decide) (by decide +kernel)
abbrev scX12_copy : ik_SC := (wdM, cX12_copy, 5, RX12, [(0, 0)], 2, some .int)
set_option maxRecDepth 100000 in
def bX12_copy : SP scX12_copy := (pSeq (pIf 52 54 54 (cOr 31 (cOr 24 (cOr 17 (cOr 9 (cCmp 0 (eFld (rLoc 0 0) 474 12 9 0 fl_X12_474) (eLit 8)) (cNot (cCmp0 1 (eCall (.invokevirtual 426) (lkV (T := TX12) (N := 77) mf_X12_isSheet mv_X12_isSheet ml_X12_426 rfl rfl rfl (by decide) (by decide)) MX12_isSheet (aR (rLoc 0 0) (aI (eLoc 1) aNil)))))) (cNot (cCmp0 1 (eCall (.invokestatic 477) (lkS mf_X12_isDay ms_X12_isDay ml_X12_477 rfl (by decide) (by decide)) MX12_isDay (aI (eLoc 2) aNil))))) (cNot (cCmp0 1 (eCall (.invokestatic 378) (lkS mf_X12_isHouse ms_X12_isHouse ml_X12_378 rfl (by decide) (by decide)) MX12_isHouse (aI (eLoc 3) aNil))))) (cNot (cCmp0 1 (eCall (.invokestatic 170) (lkS mf_X12_lies ms_X12_lies ml_X12_170 rfl (by decide) (by decide)) MX12_lies (aL (lI2l (eLoc 4)) (aL (lLit 0) (aL (lI2l (eBin 1 (eBin 6 (eLit 1) (eArr 0 6 (rFld (rLoc 0 0) 50 12 24 14 fl_X12_50) (eLoc 1))) (eLit 1))) aNil))))))) (pRet 0 54 (eLit (-1))) pSkip) (pSeq (pAst 0 8 (rFld (rLoc 0 0) 151 12 72 47 fl_X12_151) (eFld (rLoc 0 0) 474 12 9 0 fl_X12_474) (eLoc 1)) (pSeq (pAst 0 8 (rFld (rLoc 0 0) 154 12 73 48 fl_X12_154) (eFld (rLoc 0 0) 474 12 9 0 fl_X12_474) (eLoc 2)) (pSeq (pAst 0 8 (rFld (rLoc 0 0) 157 12 74 49 fl_X12_157) (eFld (rLoc 0 0) 474 12 9 0 fl_X12_474) (eLoc 3)) (pSeq (pAst 0 8 (rFld (rLoc 0 0) 160 12 75 50 fl_X12_160) (eFld (rLoc 0 0) 474 12 9 0 fl_X12_474) (eLoc 4)) (pSeq (pPutOp (rLoc 0 0) 474 12 9 0 fw_X12_474 (eLit 1)) (pRet 0 112 (eBin 1 (eFld (rLoc 0 0) 474 12 9 0 fl_X12_474) (eLit 1)))))))))
set_option maxRecDepth 100000 in
def MX12_copy : MP wdM yX12_copy cX12_copy 5 (some .int) 2 [.inr 0, .inl 0, .inl 0, .inl 0, .inl 0] := mkM scX12_copy yX12_copy [.inr 0, .inl 0, .inl 0, .inl 0, .inl 0] bX12_copy (by decide +kernel) rfl rfl (by decide) (by decide +kernel)
abbrev scX12_openOf : ik_SC := (wdM, cX12_openOf, 5, RX12, [(0, 0)], 0, some .int)
set_option maxRecDepth 100000 in
def bX12_openOf : SP scX12_openOf := (pSeq (pSet 3 (eLit 0)) (pSeq (pSeq (pSet 4 (eLit 0)) (pWh 14 69 69 (cCmp 2 (eLoc 4) (eFld (rLoc 0 0) 474 12 9 0 fl_X12_474)) (pSeq (pSet 3 (eBin 4 (eLoc 3) (eIte 37 60 61 (cAnd 26 (cCmp 0 (eArr 0 8 (rFld (rLoc 0 0) 151 12 72 47 fl_X12_151) (eLoc 4)) (eLoc 1)) (cCmp 5 (eArr 0 8 (rFld (rLoc 0 0) 154 12 73 48 fl_X12_154) (eLoc 4)) (eLoc 2))) (eBin 3 (eBin 1 (eBin 6 (eLit 1) (eArr 0 6 (rFld (rLoc 0 0) 50 12 24 14 fl_X12_50) (eLoc 1))) (eLit 1)) (eBin 5 (eArr 0 8 (rFld (rLoc 0 0) 160 12 75 50 fl_X12_160) (eLoc 4)) (eLit (-1)))) (eLit 0)))) (pInc 4 1)))) (pRet 0 71 (eLoc 3))))
set_option maxRecDepth 100000 in
def MX12_openOf : MP wdM yX12_openOf cX12_openOf 5 (some .int) 0 [.inr 0, .inl 0, .inl 0] := mkM scX12_openOf yX12_openOf [.inr 0, .inl 0, .inl 0] bX12_openOf (by decide +kernel) rfl rfl (by decide) (by decide +kernel)
abbrev scX12_open : ik_SC := (wdM, cX12_open, 3, RX12, [(0, 0)], 2, some .int)
set_option maxRecDepth 100000 in
def bX12_open : SP scX12_open := (pRet 0 26 (eIte 15 24 25 (cAnd 8 (cCmp0 1 (eCall (.invokevirtual 426) (lkV (T := TX12) (N := 77) mf_X12_isSheet mv_X12_isSheet ml_X12_426 rfl rfl rfl (by decide) (by decide)) MX12_isSheet (aR (rLoc 0 0) (aI (eLoc 1) aNil)))) (cCmp0 1 (eCall (.invokestatic 477) (lkS mf_X12_isDay ms_X12_isDay ml_X12_477 rfl (by decide) (by decide)) MX12_isDay (aI (eLoc 2) aNil)))) (eCall (.invokevirtual 480) (lkV (T := TX12) (N := 77) mf_X12_openOf mv_X12_openOf ml_X12_480 rfl rfl rfl (by decide) (by decide)) MX12_openOf (aR (rLoc 0 0) (aI (eLoc 1) (aI (eLoc 2) aNil)))) (eLit (-1))))
set_option maxRecDepth 100000 in
def MX12_open : MP wdM yX12_open cX12_open 3 (some .int) 2 [.inr 0, .inl 0, .inl 0] := mkM scX12_open yX12_open [.inr 0, .inl 0, .inl 0] bX12_open (by decide +kernel) rfl rfl (by decide) (by decide +kernel)
abbrev scX12_isCopy : ik_SC := (wdM, cX12_isCopy, 2, RX12, [(0, 0)], 1, some .boolean)
set_option maxRecDepth 100000 in
def bX12_isCopy : SP scX12_isCopy := (pRet 3 14 (eCall (.invokestatic 170) (lkS mf_X12_lies ms_X12_lies ml_X12_170 rfl (by decide) (by decide)) MX12_lies (aL (lI2l (eLoc 1)) (aL (lLit 0) (aL (lI2l (eBin 1 (eFld (rLoc 0 0) 474 12 9 0 fl_X12_474) (eLit 1))) aNil)))))
set_option maxRecDepth 100000 in
def MX12_isCopy : MP wdM yX12_isCopy cX12_isCopy 2 (some .boolean) 1 [.inr 0, .inl 0] := mkM scX12_isCopy yX12_isCopy [.inr 0, .inl 0] bX12_isCopy (by decide +kernel) rfl rfl (by decide) (by decide +kernel)
abbrev scX12_needless : ik_SC := (wdM, cX12_needless, 2, RX12, [(0, 0)], 2, some .int)
set_option maxRecDepth 100000 in
def bX12_needless : SP scX12_needless := (pRet 0 38 (eIte 8 36 37 (cCmp0 1 (eCall (.invokevirtual 483) (lkV (T := TX12) (N := 77) mf_X12_isCopy mv_X12_isCopy ml_X12_483 rfl rfl rfl (by decide) (by decide)) MX12_isCopy (aR (rLoc 0 0) (aI (eLoc 1) aNil)))) (eBin 3 (eArr 0 8 (rFld (rLoc 0 0) 160 12 75 50 fl_X12_160) (eLoc 1)) (eCall (.invokevirtual 480) (lkV (T := TX12) (N := 77) mf_X12_openOf mv_X12_openOf ml_X12_480 rfl rfl rfl (by decide) (by decide)) MX12_openOf (aR (rLoc 0 0) (aI (eArr 0 8 (rFld (rLoc 0 0) 151 12 72 47 fl_X12_151) (eLoc 1)) (aI (eBin 1 (eArr 0 8 (rFld (rLoc 0 0) 154 12 73 48 fl_X12_154) (eLoc 1)) (eLit 1)) aNil))))) (eLit (-1))))
set_option maxRecDepth 100000 in
def MX12_needless : MP wdM yX12_needless cX12_needless 2 (some .int) 2 [.inr 0, .inl 0] := mkM scX12_needless yX12_needless [.inr 0, .inl 0] bX12_needless (by decide +kernel) rfl rfl (by decide) (by decide +kernel)
abbrev scX12_since : ik_SC := (wdM, cX12_since, 5, RX12, [(0, 0)], 2, some .int)
set_option maxRecDepth 100000 in
def bX12_since : SP scX12_since := (pSeq (pIf 26 28 28 (cOr 8 (cNot (cCmp0 1 (eCall (.invokevirtual 426) (lkV (T := TX12) (N := 77) mf_X12_isSheet mv_X12_isSheet ml_X12_426 rfl rfl rfl (by decide) (by decide)) MX12_isSheet (aR (rLoc 0 0) (aI (eLoc 1) aNil))))) (cNot (cCmp0 1 (eCall (.invokestatic 170) (lkS mf_X12_lies ms_X12_lies ml_X12_170 rfl (by decide) (by decide)) MX12_lies (aL (lI2l (eLoc 2)) (aL (lLit 0) (aL (lI2l (eBin 1 (eArr 0 6 (rFld (rLoc 0 0) 50 12 24 14 fl_X12_50) (eLoc 1)) (eLit 1))) aNil))))))) (pRet 0 28 (eLit (-1))) pSkip) (pSeq (pSet 3 (eLit (-1))) (pSeq (pSeq (pSet 4 (eLit 0)) (pWh 42 97 97 (cCmp 2 (eLoc 4) (eFld (rLoc 0 0) 474 12 9 0 fl_X12_474)) (pSeq (pIf 83 91 91 (cAnd 67 (cAnd 53 (cCmp 0 (eArr 0 8 (rFld (rLoc 0 0) 151 12 72 47 fl_X12_151) (eLoc 4)) (eLoc 1)) (cNot (cCmp0 1 (eCall (.invokestatic 405) (lkS mf_X12_has ms_X12_has ml_X12_405 rfl (by decide) (by decide)) MX12_has (aI (eArr 0 8 (rFld (rLoc 0 0) 160 12 75 50 fl_X12_160) (eLoc 4)) (aI (eLoc 2) aNil)))))) (cOr 72 (cCmp 0 (eLoc 3) (eLit (-1))) (cCmp 2 (eArr 0 8 (rFld (rLoc 0 0) 154 12 73 48 fl_X12_154) (eLoc 4)) (eLoc 3)))) (pSet 3 (eArr 0 8 (rFld (rLoc 0 0) 154 12 73 48 fl_X12_154) (eLoc 4))) pSkip) (pInc 4 1)))) (pRet 0 99 (eLoc 3)))))
set_option maxRecDepth 100000 in
def MX12_since : MP wdM yX12_since cX12_since 5 (some .int) 2 [.inr 0, .inl 0, .inl 0] := mkM scX12_since yX12_since [.inr 0, .inl 0, .inl 0] bX12_since (by decide +kernel) rfl rfl (by decide) (by decide +kernel)
abbrev scX12_twice : ik_SC := (wdM, cX12_twice, 3, RX12, [(0, 0)], 2, some .int)
set_option maxRecDepth 100000 in
def bX12_twice : SP scX12_twice := (pRet 0 54 (eIte 36 52 53 (cAnd 21 (cAnd 16 (cAnd 8 (cCmp0 1 (eCall (.invokevirtual 483) (lkV (T := TX12) (N := 77) mf_X12_isCopy mv_X12_isCopy ml_X12_483 rfl rfl rfl (by decide) (by decide)) MX12_isCopy (aR (rLoc 0 0) (aI (eLoc 1) aNil)))) (cCmp0 1 (eCall (.invokevirtual 483) (lkV (T := TX12) (N := 77) mf_X12_isCopy mv_X12_isCopy ml_X12_483 rfl rfl rfl (by decide) (by decide)) MX12_isCopy (aR (rLoc 0 0) (aI (eLoc 2) aNil))))) (cCmp 1 (eLoc 1) (eLoc 2))) (cCmp 0 (eArr 0 8 (rFld (rLoc 0 0) 151 12 72 47 fl_X12_151) (eLoc 1)) (eArr 0 8 (rFld (rLoc 0 0) 151 12 72 47 fl_X12_151) (eLoc 2)))) (eBin 3 (eArr 0 8 (rFld (rLoc 0 0) 160 12 75 50 fl_X12_160) (eLoc 1)) (eArr 0 8 (rFld (rLoc 0 0) 160 12 75 50 fl_X12_160) (eLoc 2))) (eLit (-1))))
set_option maxRecDepth 100000 in
def MX12_twice : MP wdM yX12_twice cX12_twice 3 (some .int) 2 [.inr 0, .inl 0, .inl 0] := mkM scX12_twice yX12_twice [.inr 0, .inl 0, .inl 0] bX12_twice (by decide +kernel) rfl rfl (by decide) (by decide +kernel)
abbrev scX12_hasCopy : ik_SC := (wdM, cX12_hasCopy, 4, RX12, [(0, 0)], 0, some .boolean)
set_option maxRecDepth 100000 in
def bX12_hasCopy : SP scX12_hasCopy := (pSeq (pSeq (pSet 3 (eLit 0)) (pWh 10 38 38 (cCmp 2 (eLoc 3) (eFld (rLoc 0 0) 474 12 9 0 fl_X12_474)) (pSeq (pIf 30 32 32 (cAnd 20 (cCmp 0 (eArr 0 8 (rFld (rLoc 0 0) 151 12 72 47 fl_X12_151) (eLoc 3)) (eLoc 1)) (cCmp 0 (eArr 0 8 (rFld (rLoc 0 0) 157 12 74 49 fl_X12_157) (eLoc 3)) (eLoc 2))) (pRet 3 32 (eLit 1)) pSkip) (pInc 3 1)))) (pRet 3 40 (eLit 0)))
set_option maxRecDepth 100000 in
def MX12_hasCopy : MP wdM yX12_hasCopy cX12_hasCopy 4 (some .boolean) 0 [.inr 0, .inl 0, .inl 0] := mkM scX12_hasCopy yX12_hasCopy [.inr 0, .inl 0, .inl 0] bX12_hasCopy (by decide +kernel) rfl rfl (by decide) (by decide +kernel)
abbrev scX12_coversOf : ik_SC := (wdM, cX12_coversOf, 5, RX12, [(0, 0)], 0, some .int)
set_option maxRecDepth 100000 in
def bX12_coversOf : SP scX12_coversOf := (pSeq (pSet 3 (eLit 0)) (pSeq (pSeq (pSet 4 (eLit 0)) (pWh 14 56 56 (cCmp 2 (eLoc 4) (eFld (rLoc 0 0) 474 12 9 0 fl_X12_474)) (pSeq (pSet 3 (eBin 4 (eLoc 3) (eIte 37 47 48 (cAnd 26 (cCmp 0 (eArr 0 8 (rFld (rLoc 0 0) 151 12 72 47 fl_X12_151) (eLoc 4)) (eLoc 1)) (cCmp 0 (eArr 0 8 (rFld (rLoc 0 0) 157 12 74 49 fl_X12_157) (eLoc 4)) (eLoc 2))) (eArr 0 8 (rFld (rLoc 0 0) 160 12 75 50 fl_X12_160) (eLoc 4)) (eLit 0)))) (pInc 4 1)))) (pRet 0 58 (eLoc 3))))
set_option maxRecDepth 100000 in
def MX12_coversOf : MP wdM yX12_coversOf cX12_coversOf 5 (some .int) 0 [.inr 0, .inl 0, .inl 0] := mkM scX12_coversOf yX12_coversOf [.inr 0, .inl 0, .inl 0] bX12_coversOf (by decide +kernel) rfl rfl (by decide) (by decide +kernel)
abbrev scX12_stricter : ik_SC := (wdM, cX12_stricter, 7, RX12, [(0, 0)], 2, some .int)
set_option maxRecDepth 100000 in
def bX12_stricter : SP scX12_stricter := (pSeq (pIf 19 21 21 (cOr 14 (cOr 7 (cNot (cCmp0 1 (eCall (.invokestatic 378) (lkS mf_X12_isHouse ms_X12_isHouse ml_X12_378 rfl (by decide) (by decide)) MX12_isHouse (aI (eLoc 1) aNil)))) (cNot (cCmp0 1 (eCall (.invokestatic 378) (lkS mf_X12_isHouse ms_X12_isHouse ml_X12_378 rfl (by decide) (by decide)) MX12_isHouse (aI (eLoc 2) aNil))))) (cCmp 0 (eLoc 1) (eLoc 2))) (pRet 0 21 (eLit (-1))) pSkip) (pSeq (pSet 3 (eLit 0)) (pSeq (pSet 4 (eLit 1)) (pSeq (pSet 5 (eLit 0)) (pSeq (pSeq (pSet 6 (eLit 0)) (pWh 41 136 136 (cCmp 2 (eLoc 6) (eFld (rLoc 0 0) 177 12 4 0 fl_X12_177)) (pSeq (pIf 130 64 130 (cOr 51 (cNot (cCmp0 1 (eCall (.invokevirtual 486) (lkV (T := TX12) (N := 77) mf_X12_hasCopy mv_X12_hasCopy ml_X12_486 rfl rfl rfl (by decide) (by decide)) MX12_hasCopy (aR (rLoc 0 0) (aI (eLoc 6) (aI (eLoc 1) aNil)))))) (cNot (cCmp0 1 (eCall (.invokevirtual 486) (lkV (T := TX12) (N := 77) mf_X12_hasCopy mv_X12_hasCopy ml_X12_486 rfl rfl rfl (by decide) (by decide)) MX12_hasCopy (aR (rLoc 0 0) (aI (eLoc 6) (aI (eLoc 2) aNil))))))) pSkip (pSeq (pSet 3 (eLit 1)) (pSeq (pSet 4 (eIte 91 95 96 (cAnd 71 (cCmp0 1 (eLoc 4)) (cCmp0 0 (eBin 3 (eCall (.invokevirtual 489) (lkV (T := TX12) (N := 77) mf_X12_coversOf mv_X12_coversOf ml_X12_489 rfl rfl rfl (by decide) (by decide)) MX12_coversOf (aR (rLoc 0 0) (aI (eLoc 6) (aI (eLoc 2) aNil)))) (eBin 5 (eCall (.invokevirtual 489) (lkV (T := TX12) (N := 77) mf_X12_coversOf mv_X12_coversOf ml_X12_489 rfl rfl rfl (by decide) (by decide)) MX12_coversOf (aR (rLoc 0 0) (aI (eLoc 6) (aI (eLoc 1) aNil)))) (eLit (-1)))))) (eLit 1) (eLit 0))) (pSet 5 (eIte 123 127 128 (cOr 103 (cCmp0 1 (eLoc 5)) (cCmp0 1 (eBin 3 (eCall (.invokevirtual 489) (lkV (T := TX12) (N := 77) mf_X12_coversOf mv_X12_coversOf ml_X12_489 rfl rfl rfl (by decide) (by decide)) MX12_coversOf (aR (rLoc 0 0) (aI (eLoc 6) (aI (eLoc 1) aNil)))) (eBin 5 (eCall (.invokevirtual 489) (lkV (T := TX12) (N := 77) mf_X12_coversOf mv_X12_coversOf ml_X12_489 rfl rfl rfl (by decide) (by decide)) MX12_coversOf (aR (rLoc 0 0) (aI (eLoc 6) (aI (eLoc 2) aNil)))) (eLit (-1)))))) (eLit 1) (eLit 0)))))) (pInc 6 1)))) (pRet 0 160 (eIte 140 144 159 (cNot (cCmp0 1 (eLoc 3))) (eLit (-1)) (eIte 154 158 159 (cAnd 149 (cCmp0 1 (eLoc 4)) (cCmp0 1 (eLoc 5))) (eLit 1) (eLit 0)))))))))
set_option maxRecDepth 100000 in
def MX12_stricter : MP wdM yX12_stricter cX12_stricter 7 (some .int) 2 [.inr 0, .inl 0, .inl 0] := mkM scX12_stricter yX12_stricter [.inr 0, .inl 0, .inl 0] bX12_stricter (by decide +kernel) rfl rfl (by decide) (by decide +kernel)
abbrev scX12_note : ik_SC := (wdM, cX12_note, 4, RX12, [(0, 0)], 2, some .boolean)
set_option maxRecDepth 100000 in
def bX12_note : SP scX12_note := (pSeq (pIf 29 31 31 (cOr 20 (cOr 12 (cNot (cCmp0 1 (eCall (.invokestatic 170) (lkS mf_X12_lies ms_X12_lies ml_X12_170 rfl (by decide) (by decide)) MX12_lies (aL (lI2l (eLoc 1)) (aL (lLit 1) (aL (lLdc 492 40 kc_X12_492) aNil)))))) (cNot (cCmp0 1 (eCall (.invokevirtual 426) (lkV (T := TX12) (N := 77) mf_X12_isSheet mv_X12_isSheet ml_X12_426 rfl rfl rfl (by decide) (by decide)) MX12_isSheet (aR (rLoc 0 0) (aI (eLoc 2) aNil)))))) (cCmp0 4 (eArr 0 6 (rFld (rLoc 0 0) 163 12 76 51 fl_X12_163) (eLoc 2)))) (pRet 3 31 (eLit 0)) pSkip) (pSeq (pSeq (pSet 3 (eLit 0)) (pWh 41 96 96 (cCmp 2 (eLoc 3) (eFld (rLoc 0 0) 177 12 4 0 fl_X12_177)) (pSeq (pIf 88 90 90 (cAnd 50 (cCmp0 4 (eArr 0 6 (rFld (rLoc 0 0) 163 12 76 51 fl_X12_163) (eLoc 3))) (cOr 60 (cCmp 0 (eArr 0 6 (rFld (rLoc 0 0) 163 12 76 51 fl_X12_163) (eLoc 3)) (eLoc 1)) (cCmp 1 (eIte 70 74 75 (cCmp 2 (eArr 0 6 (rFld (rLoc 0 0) 163 12 76 51 fl_X12_163) (eLoc 3)) (eLoc 1)) (eLit 1) (eLit 0)) (eIte 80 84 85 (cCmp 2 (eLoc 3) (eLoc 2)) (eLit 1) (eLit 0))))) (pRet 3 90 (eLit 0)) pSkip) (pInc 3 1)))) (pSeq (pAst 0 6 (rFld (rLoc 0 0) 163 12 76 51 fl_X12_163) (eLoc 2) (eLoc 1)) (pSeq (pPutOp (rLoc 0 0) 494 12 10 0 fw_X12_494 (eLit 1)) (pRet 3 115 (eLit 1))))))
set_option maxRecDepth 100000 in
def MX12_note : MP wdM yX12_note cX12_note 4 (some .boolean) 2 [.inr 0, .inl 0, .inl 0] := mkM scX12_note yX12_note [.inr 0, .inl 0, .inl 0] bX12_note (by decide +kernel) rfl rfl (by decide) (by decide +kernel)
abbrev scX12_missing : ik_SC := (wdM, cX12_missing, 6, RX12, [(0, 0)], 1, some .int)
set_option maxRecDepth 100000 in
def bX12_missing : SP scX12_missing := (pSeq (pIf 22 24 24 (cOr 12 (cNot (cCmp0 1 (eCall (.invokestatic 170) (lkS mf_X12_lies ms_X12_lies ml_X12_170 rfl (by decide) (by decide)) MX12_lies (aL (lI2l (eLoc 1)) (aL (lLit 1) (aL (lLdc 492 40 kc_X12_492) aNil)))))) (cNot (cCmp0 1 (eCall (.invokestatic 170) (lkS mf_X12_lies ms_X12_lies ml_X12_170 rfl (by decide) (by decide)) MX12_lies (aL (lI2l (eLoc 2)) (aL (lLit 0) (aL (lLit 1) aNil))))))) (pRet 0 24 (eLit (-1))) pSkip) (pSeq (pSet 3 (eLit 0)) (pSeq (pSet 4 (eLit (-1))) (pSeq (pSeq (pSet 5 (eLit 0)) (pWh 41 105 105 (cCmp 2 (eLoc 5) (eFld (rLoc 0 0) 177 12 4 0 fl_X12_177)) (pSeq (pSeq (pIf 52 54 54 (cCmp 0 (eArr 0 6 (rFld (rLoc 0 0) 163 12 76 51 fl_X12_163) (eLoc 5)) (eLoc 1)) (pRet 0 54 (eLit (-1))) pSkip) (pSeq (pIf 75 78 78 (cAnd 64 (cCmp0 4 (eArr 0 6 (rFld (rLoc 0 0) 163 12 76 51 fl_X12_163) (eLoc 5))) (cCmp 2 (eArr 0 6 (rFld (rLoc 0 0) 163 12 76 51 fl_X12_163) (eLoc 5)) (eLoc 1))) (pSet 3 (eLoc 5)) pSkip) (pIf 95 99 99 (cAnd 89 (cCmp 4 (eArr 0 6 (rFld (rLoc 0 0) 163 12 76 51 fl_X12_163) (eLoc 5)) (eLoc 1)) (cCmp 0 (eLoc 4) (eLit (-1)))) (pSet 4 (eLoc 5)) pSkip))) (pInc 5 1)))) (pRet 0 126 (eIte 111 115 125 (cCmp 0 (eLoc 4) (eLit (-1))) (eLit (-1)) (eIte 119 123 125 (cCmp0 0 (eLoc 2)) (eLoc 3) (eLoc 4))))))))
set_option maxRecDepth 100000 in
def MX12_missing : MP wdM yX12_missing cX12_missing 6 (some .int) 1 [.inr 0, .inl 0, .inl 0] := mkM scX12_missing yX12_missing [.inr 0, .inl 0, .inl 0] bX12_missing (by decide +kernel) rfl rfl (by decide) (by decide +kernel)
end
section
abbrev scX12_numberAt : ik_SC := (wdM, cX12_numberAt, 4, RX12, [(0, 0)], 0, some .int)
set_option maxRecDepth 100000 in
def bX12_numberAt : SP scX12_numberAt := (pSeq (pSet 2 (eLit 0)) (pSeq (pSeq (pSet 3 (eLit 0)) (pWh 9 35 35 (cCmp 2 (eLoc 3) (eLit 4)) (pSeq (pSet 2 (eBin 4 (eBin 6 (eLoc 2) (eLit 8)) (eBin 3 (eArr 2 400 (rFld (rLoc 0 0) 7 12 0 1 fl_X12_7) (eBin 0 (eBin 2 (eLit 4) (eLoc 1)) (eLoc 3))) (eLit 255)))) (pInc 3 1)))) (pRet 0 37 (eLoc 2))))
set_option maxRecDepth 100000 in
def MX12_numberAt : MP wdM yX12_numberAt cX12_numberAt 4 (some .int) 0 [.inr 0, .inl 0] := mkM scX12_numberAt yX12_numberAt [.inr 0, .inl 0] bX12_numberAt (by decide +kernel) rfl rfl (by decide) (by decide +kernel)
abbrev scX12_check : ik_SC := (wdM, cX12_check, 5, RX12, [(0, 0)], 7, some .int)
set_option maxRecDepth 100000 in
def bX12_check : SP scX12_check := (pSeq (pIf 23 26 26 (cOr 12 (cOr 8 (cNot (cCmp0 1 (eCall (.invokevirtual 369) (lkV (T := TX12) (N := 77) mf_X12_isBar mv_X12_isBar ml_X12_369 rfl rfl rfl (by decide) (by decide)) MX12_isBar (aR (rLoc 0 0) (aI (eLoc 1) aNil))))) (cCmp0 2 (eLoc 2))) (cCmp 4 (eLoc 2) (eBin 9 (eFld (rLoc 0 0) 190 12 1 0 fl_X12_190) (eLit 8)))) (pRet 0 26 (eLit (-2))) pSkip) (pSeq (pPut (rLoc 0 0) 190 12 1 0 fw_X12_190 (eLit 0)) (pSeq (pDo (.invokevirtual 447) (lkV (T := TX12) (N := 77) mf_X12_fills mv_X12_fills ml_X12_447 rfl rfl rfl (by decide) (by decide)) MX12_fills (aR (rLoc 0 0) (aI (eLit 0) aNil))) (pSeq (pSet 3 (eLit 0)) (pSeq (pSeq (pSet 4 (eLit 0)) (pWh 50 135 135 (cCmp 2 (eLoc 4) (eFld (rLoc 0 0) 166 12 2 0 fl_X12_166)) (pSeq (pIf 67 70 129 (cCmpL 0 (lArr 96 (rFld (rLoc 0 0) 144 12 70 45 fl_X12_144) (eBin 0 (eBin 2 (eLit 24) (eLoc 1)) (eLoc 4))) (lLit 0)) pSkip (pSeq (pIf 75 79 79 (cCmp 0 (eLoc 3) (eLoc 2)) (pRet 0 79 (eBin 2 (eLit 2) (eLoc 2))) pSkip) (pSeq (pIf 91 95 95 (cCmp 1 (eCall (.invokevirtual 497) (lkV (T := TX12) (N := 77) mf_X12_numberAt mv_X12_numberAt ml_X12_497 rfl rfl rfl (by decide) (by decide)) MX12_numberAt (aR (rLoc 0 0) (aI (eBin 2 (eLit 2) (eLoc 3)) aNil))) (eLoc 4)) (pRet 0 95 (eBin 2 (eLit 2) (eLoc 3))) pSkip) (pSeq (pIf 120 126 126 (cCmp 1 (eCall (.invokevirtual 497) (lkV (T := TX12) (N := 77) mf_X12_numberAt mv_X12_numberAt ml_X12_497 rfl rfl rfl (by decide) (by decide)) MX12_numberAt (aR (rLoc 0 0) (aI (eBin 0 (eBin 2 (eLit 2) (eLoc 3)) (eLit 1)) aNil))) (eL2i (lArr 96 (rFld (rLoc 0 0) 144 12 70 45 fl_X12_144) (eBin 0 (eBin 2 (eLit 24) (eLoc 1)) (eLoc 4))))) (pRet 0 126 (eBin 0 (eBin 2 (eLit 2) (eLoc 3)) (eLit 1))) pSkip) (pInc 3 1))))) (pInc 4 1)))) (pRet 0 148 (eIte 140 144 147 (cCmp 0 (eLoc 3) (eLoc 2)) (eLit (-1)) (eBin 2 (eLit 2) (eLoc 3)))))))))
set_option maxRecDepth 100000 in
def MX12_check : MP wdM yX12_check cX12_check 5 (some .int) 7 [.inr 0, .inl 0, .inl 0] := mkM scX12_check yX12_check [.inr 0, .inl 0, .inl 0] bX12_check (by decide +kernel) rfl rfl (by decide) (by decide +kernel)
abbrev scX12_linesOf : ik_SC := (wdM, cX12_linesOf, 4, RX12, [(0, 0)], 0, some .int)
set_option maxRecDepth 100000 in
def bX12_linesOf : SP scX12_linesOf := (pSeq (pSet 2 (eLit 1)) (pSeq (pSeq (pSet 3 (eLit 1)) (pWh 14 42 42 (cCmp 2 (eLoc 3) (eArr 0 6 (rFld (rLoc 0 0) 50 12 24 14 fl_X12_50) (eLoc 1))) (pSeq (pSet 2 (eBin 0 (eLoc 2) (eIte 29 33 34 (cCmp0 1 (eArr 3 144 (rFld (rLoc 0 0) 65 12 29 19 fl_X12_65) (eBin 0 (eBin 2 (eLit 24) (eLoc 1)) (eLoc 3)))) (eLit 1) (eLit 0)))) (pInc 3 1)))) (pRet 0 44 (eLoc 2))))
set_option maxRecDepth 100000 in
def MX12_linesOf : MP wdM yX12_linesOf cX12_linesOf 4 (some .int) 0 [.inr 0, .inl 0] := mkM scX12_linesOf yX12_linesOf [.inr 0, .inl 0] bX12_linesOf (by decide +kernel) rfl rfl (by decide) (by decide +kernel)
abbrev scX12_count : ik_SC := (wdM, cX12_count, 2, RX12, [(0, 0)], 1, some .int)
set_option maxRecDepth 100000 in
def bX12_count : SP scX12_count := (pSeq (pIf 19 29 29 (cCmp0 1 (eCall (.invokestatic 170) (lkS mf_X12_lies ms_X12_lies ml_X12_170 rfl (by decide) (by decide)) MX12_lies (aL (lI2l (eLoc 1)) (aL (lLdc 188 20 kc_X12_188) (aL (lI2l (eBin 0 (eLit 19) (eFld (rLoc 0 0) 177 12 4 0 fl_X12_177))) aNil))))) (pRet 0 29 (eArr 0 6 (rFld (rLoc 0 0) 50 12 24 14 fl_X12_50) (eBin 1 (eLoc 1) (eLit 20)))) pSkip) (pSeq (pIf 48 57 57 (cCmp0 1 (eCall (.invokestatic 170) (lkS mf_X12_lies ms_X12_lies ml_X12_170 rfl (by decide) (by decide)) MX12_lies (aL (lI2l (eLoc 1)) (aL (lLdc 500 30 kc_X12_500) (aL (lI2l (eBin 0 (eLit 29) (eFld (rLoc 0 0) 177 12 4 0 fl_X12_177))) aNil))))) (pRet 0 57 (eCall (.invokevirtual 502) (lkV (T := TX12) (N := 77) mf_X12_linesOf mv_X12_linesOf ml_X12_502 rfl rfl rfl (by decide) (by decide)) MX12_linesOf (aR (rLoc 0 0) (aI (eBin 1 (eLoc 1) (eLit 30)) aNil)))) pSkip) (pSw (eLoc 1) [(0, 116, (pDead 173 (pRet 0 121 (eFld (rLoc 0 0) 166 12 2 0 fl_X12_166)))), (1, 121, (pDead 173 (pRet 0 126 (eFld (rLoc 0 0) 174 12 3 0 fl_X12_174)))), (2, 126, (pDead 173 (pRet 0 131 (eFld (rLoc 0 0) 177 12 4 0 fl_X12_177)))), (3, 131, (pDead 173 (pRet 0 136 (eFld (rLoc 0 0) 342 12 5 0 fl_X12_342)))), (4, 136, (pDead 173 (pRet 0 141 (eFld (rLoc 0 0) 364 12 6 0 fl_X12_364)))), (5, 141, (pDead 173 (pRet 0 146 (eFld (rLoc 0 0) 372 12 7 0 fl_X12_372)))), (6, 146, (pDead 173 (pRet 0 151 (eFld (rLoc 0 0) 375 12 8 0 fl_X12_375)))), (7, 151, (pDead 173 (pRet 0 156 (eFld (rLoc 0 0) 474 12 9 0 fl_X12_474)))), (8, 156, (pDead 173 (pRet 0 161 (eFld (rLoc 0 0) 494 12 10 0 fl_X12_494)))), (9, 161, (pDead 173 (pRet 0 166 (eFld (rLoc 0 0) 190 12 1 0 fl_X12_190)))), (10, 166, (pDead 173 (pRet 0 171 (eFld (rLoc 0 0) 385 12 11 0 fl_X12_385))))] 171 (pDead 173 (pRet 0 173 (eLit (-1)))) 173)))
set_option maxRecDepth 100000 in
def MX12_count : MP wdM yX12_count cX12_count 2 (some .int) 1 [.inr 0, .inl 0] := mkM scX12_count yX12_count [.inr 0, .inl 0] bX12_count (by decide +kernel) rfl rfl (by decide) (by decide +kernel)
end
