section
-- ===== PART A: goes FIRST, ahead of the names: the tables' words, and 'selects' of the private methods out of them =====
/-- a private method of a class that the tables say can be made, by its rows of tables_1 -/
def lw_okq (q : MethodName × Nat) : Prop := (q.1.cls ≠ "java/lang/invoke/MethodHandle" ∧ q.1.cls ≠ "java/lang/invoke/VarHandle") ∧ Cond.instantiable q.1.cls q.2 ∈ tables_1 ∧ Cond.privateMethod q.1 ∈ tables_1 ∧ Cond.instanceMethod q.1 ∈ tables_1
theorem lw_p0 : lw_okq (⟨"InkBars", "changed", "()V"⟩, 15) := ⟨⟨by decide +kernel, by decide +kernel⟩, List.mem_of_getElem? (i := 18) (by decide +kernel), List.mem_of_getElem? (i := 406) (by decide +kernel), List.mem_of_getElem? (i := 407) (by decide +kernel)⟩
theorem lw_p1 : lw_okq (⟨"InkBars$Words", "stands", "(I)Z"⟩, 3) := ⟨⟨by decide +kernel, by decide +kernel⟩, List.mem_of_getElem? (i := 59) (by decide +kernel), List.mem_of_getElem? (i := 450) (by decide +kernel), List.mem_of_getElem? (i := 451) (by decide +kernel)⟩
theorem lw_p2 : lw_okq (⟨"InkBars$Sheets", "beginToken", "(IZI)I"⟩, 11) := ⟨⟨by decide +kernel, by decide +kernel⟩, List.mem_of_getElem? (i := 143) (by decide +kernel), List.mem_of_getElem? (i := 540) (by decide +kernel), List.mem_of_getElem? (i := 541) (by decide +kernel)⟩
theorem lw_p3 : lw_okq (⟨"InkBars$Sheets", "stands", "(II)Z"⟩, 11) := ⟨⟨by decide +kernel, by decide +kernel⟩, List.mem_of_getElem? (i := 143) (by decide +kernel), List.mem_of_getElem? (i := 562) (by decide +kernel), List.mem_of_getElem? (i := 563) (by decide +kernel)⟩
theorem lw_p4 : lw_okq (⟨"InkBars$Sheets", "heedArticle", "(II)V"⟩, 11) := ⟨⟨by decide +kernel, by decide +kernel⟩, List.mem_of_getElem? (i := 143) (by decide +kernel), List.mem_of_getElem? (i := 570) (by decide +kernel), List.mem_of_getElem? (i := 571) (by decide +kernel)⟩
theorem lw_p5 : lw_okq (⟨"InkBars$Rules", "begin", "(ZII)V"⟩, 11) := ⟨⟨by decide +kernel, by decide +kernel⟩, List.mem_of_getElem? (i := 186) (by decide +kernel), List.mem_of_getElem? (i := 585) (by decide +kernel), List.mem_of_getElem? (i := 586) (by decide +kernel)⟩
theorem lw_p6 : lw_okq (⟨"InkBars$Rules", "go", "(I)V"⟩, 11) := ⟨⟨by decide +kernel, by decide +kernel⟩, List.mem_of_getElem? (i := 186) (by decide +kernel), List.mem_of_getElem? (i := 589) (by decide +kernel), List.mem_of_getElem? (i := 590) (by decide +kernel)⟩
theorem lw_p7 : lw_okq (⟨"InkBars$Rules", "clause", "(I)V"⟩, 11) := ⟨⟨by decide +kernel, by decide +kernel⟩, List.mem_of_getElem? (i := 186) (by decide +kernel), List.mem_of_getElem? (i := 593) (by decide +kernel), List.mem_of_getElem? (i := 594) (by decide +kernel)⟩
theorem lw_p8 : lw_okq (⟨"InkBars$Rules", "condition", "(IZ)Z"⟩, 11) := ⟨⟨by decide +kernel, by decide +kernel⟩, List.mem_of_getElem? (i := 186) (by decide +kernel), List.mem_of_getElem? (i := 598) (by decide +kernel), List.mem_of_getElem? (i := 599) (by decide +kernel)⟩
theorem lw_p9 : lw_okq (⟨"InkBars$Rules", "part", "(IZ)Z"⟩, 11) := ⟨⟨by decide +kernel, by decide +kernel⟩, List.mem_of_getElem? (i := 186) (by decide +kernel), List.mem_of_getElem? (i := 602) (by decide +kernel), List.mem_of_getElem? (i := 603) (by decide +kernel)⟩
theorem lw_p10 : lw_okq (⟨"InkBars$Rules", "piece", "(IZ)Z"⟩, 11) := ⟨⟨by decide +kernel, by decide +kernel⟩, List.mem_of_getElem? (i := 186) (by decide +kernel), List.mem_of_getElem? (i := 606) (by decide +kernel), List.mem_of_getElem? (i := 607) (by decide +kernel)⟩
theorem lw_p11 : lw_okq (⟨"InkBars$Rules", "nested", "(IZ)Z"⟩, 11) := ⟨⟨by decide +kernel, by decide +kernel⟩, List.mem_of_getElem? (i := 186) (by decide +kernel), List.mem_of_getElem? (i := 610) (by decide +kernel), List.mem_of_getElem? (i := 611) (by decide +kernel)⟩
theorem lw_p12 : lw_okq (⟨"InkBars$Rules", "sum", "(IZ)I"⟩, 11) := ⟨⟨by decide +kernel, by decide +kernel⟩, List.mem_of_getElem? (i := 186) (by decide +kernel), List.mem_of_getElem? (i := 614) (by decide +kernel), List.mem_of_getElem? (i := 615) (by decide +kernel)⟩
theorem lw_p13 : lw_okq (⟨"InkBars$Rules", "product", "(IZ)I"⟩, 11) := ⟨⟨by decide +kernel, by decide +kernel⟩, List.mem_of_getElem? (i := 186) (by decide +kernel), List.mem_of_getElem? (i := 618) (by decide +kernel), List.mem_of_getElem? (i := 619) (by decide +kernel)⟩
theorem lw_p14 : lw_okq (⟨"InkBars$Rules", "factor", "(IZ)I"⟩, 11) := ⟨⟨by decide +kernel, by decide +kernel⟩, List.mem_of_getElem? (i := 186) (by decide +kernel), List.mem_of_getElem? (i := 622) (by decide +kernel), List.mem_of_getElem? (i := 623) (by decide +kernel)⟩
theorem lw_p15 : lw_okq (⟨"InkBars$Habits", "bound", "(IZLInkBars$Names;LInkBars$Letters;)I"⟩, 4) := ⟨⟨by decide +kernel, by decide +kernel⟩, List.mem_of_getElem? (i := 226) (by decide +kernel), List.mem_of_getElem? (i := 690) (by decide +kernel), List.mem_of_getElem? (i := 691) (by decide +kernel)⟩
def lw_privs_1 : List (MethodName × Nat) := [(⟨"InkBars", "changed", "()V"⟩, 15), (⟨"InkBars$Words", "stands", "(I)Z"⟩, 3), (⟨"InkBars$Sheets", "beginToken", "(IZI)I"⟩, 11), (⟨"InkBars$Sheets", "stands", "(II)Z"⟩, 11), (⟨"InkBars$Sheets", "heedArticle", "(II)V"⟩, 11), (⟨"InkBars$Rules", "begin", "(ZII)V"⟩, 11), (⟨"InkBars$Rules", "go", "(I)V"⟩, 11), (⟨"InkBars$Rules", "clause", "(I)V"⟩, 11), (⟨"InkBars$Rules", "condition", "(IZ)Z"⟩, 11), (⟨"InkBars$Rules", "part", "(IZ)Z"⟩, 11), (⟨"InkBars$Rules", "piece", "(IZ)Z"⟩, 11), (⟨"InkBars$Rules", "nested", "(IZ)Z"⟩, 11), (⟨"InkBars$Rules", "sum", "(IZ)I"⟩, 11), (⟨"InkBars$Rules", "product", "(IZ)I"⟩, 11), (⟨"InkBars$Rules", "factor", "(IZ)I"⟩, 11), (⟨"InkBars$Habits", "bound", "(IZLInkBars$Names;LInkBars$Letters;)I"⟩, 4)]
theorem lw_r1 : ∀ q ∈ lw_privs_1, lw_okq q := List.forall_mem_cons.mpr ⟨lw_p0, List.forall_mem_cons.mpr ⟨lw_p1, List.forall_mem_cons.mpr ⟨lw_p2, List.forall_mem_cons.mpr ⟨lw_p3, List.forall_mem_cons.mpr ⟨lw_p4, List.forall_mem_cons.mpr ⟨lw_p5, List.forall_mem_cons.mpr ⟨lw_p6, List.forall_mem_cons.mpr ⟨lw_p7, List.forall_mem_cons.mpr ⟨lw_p8, List.forall_mem_cons.mpr ⟨lw_p9, List.forall_mem_cons.mpr ⟨lw_p10, List.forall_mem_cons.mpr ⟨lw_p11, List.forall_mem_cons.mpr ⟨lw_p12, List.forall_mem_cons.mpr ⟨lw_p13, List.forall_mem_cons.mpr ⟨lw_p14, List.forall_mem_cons.mpr ⟨lw_p15, fun _ h => absurd h List.not_mem_nil⟩⟩⟩⟩⟩⟩⟩⟩⟩⟩⟩⟩⟩⟩⟩⟩
theorem lw_p16 : lw_okq (⟨"InkBars", "reasonsButInk", "(II)I"⟩, 15) := ⟨⟨by decide +kernel, by decide +kernel⟩, List.mem_of_getElem? (i := 18) (by decide +kernel), List.mem_of_getElem? (i := 707) (by decide +kernel), List.mem_of_getElem? (i := 708) (by decide +kernel)⟩
theorem lw_p17 : lw_okq (⟨"InkBars", "tellFacts", "(IIZ)V"⟩, 15) := ⟨⟨by decide +kernel, by decide +kernel⟩, List.mem_of_getElem? (i := 18) (by decide +kernel), List.mem_of_getElem? (i := 731) (by decide +kernel), List.mem_of_getElem? (i := 732) (by decide +kernel)⟩
theorem lw_p18 : lw_okq (⟨"InkBars", "inkReason", "(II)I"⟩, 15) := ⟨⟨by decide +kernel, by decide +kernel⟩, List.mem_of_getElem? (i := 18) (by decide +kernel), List.mem_of_getElem? (i := 791) (by decide +kernel), List.mem_of_getElem? (i := 792) (by decide +kernel)⟩
theorem lw_p19 : lw_okq (⟨"InkBars", "lay", "(I)Z"⟩, 15) := ⟨⟨by decide +kernel, by decide +kernel⟩, List.mem_of_getElem? (i := 18) (by decide +kernel), List.mem_of_getElem? (i := 799) (by decide +kernel), List.mem_of_getElem? (i := 800) (by decide +kernel)⟩
theorem lw_p20 : lw_okq (⟨"InkBars", "tiesReason", "()I"⟩, 15) := ⟨⟨by decide +kernel, by decide +kernel⟩, List.mem_of_getElem? (i := 18) (by decide +kernel), List.mem_of_getElem? (i := 803) (by decide +kernel), List.mem_of_getElem? (i := 804) (by decide +kernel)⟩
theorem lw_p21 : lw_okq (⟨"InkBars$Bars", "tied", "(I)Z"⟩, 12) := ⟨⟨by decide +kernel, by decide +kernel⟩, List.mem_of_getElem? (i := 100) (by decide +kernel), List.mem_of_getElem? (i := 815) (by decide +kernel), List.mem_of_getElem? (i := 816) (by decide +kernel)⟩
theorem lw_p22 : lw_okq (⟨"InkBars", "linesReason", "()I"⟩, 15) := ⟨⟨by decide +kernel, by decide +kernel⟩, List.mem_of_getElem? (i := 18) (by decide +kernel), List.mem_of_getElem? (i := 832) (by decide +kernel), List.mem_of_getElem? (i := 833) (by decide +kernel)⟩
theorem lw_p23 : lw_okq (⟨"InkBars", "countWithout", "(I)I"⟩, 15) := ⟨⟨by decide +kernel, by decide +kernel⟩, List.mem_of_getElem? (i := 18) (by decide +kernel), List.mem_of_getElem? (i := 879) (by decide +kernel), List.mem_of_getElem? (i := 880) (by decide +kernel)⟩
theorem lw_p24 : lw_okq (⟨"InkBars", "prepare", "()V"⟩, 15) := ⟨⟨by decide +kernel, by decide +kernel⟩, List.mem_of_getElem? (i := 18) (by decide +kernel), List.mem_of_getElem? (i := 883) (by decide +kernel), List.mem_of_getElem? (i := 884) (by decide +kernel)⟩
theorem lw_p25 : lw_okq (⟨"InkBars$Lines", "readSheet", "(ILInkBars$Sheets;LInkBars$Letters;)V"⟩, 8) := ⟨⟨by decide +kernel, by decide +kernel⟩, List.mem_of_getElem? (i := 273) (by decide +kernel), List.mem_of_getElem? (i := 925) (by decide +kernel), List.mem_of_getElem? (i := 926) (by decide +kernel)⟩
theorem lw_p26 : lw_okq (⟨"InkBars$Lines", "stand", "(IZ)V"⟩, 8) := ⟨⟨by decide +kernel, by decide +kernel⟩, List.mem_of_getElem? (i := 273) (by decide +kernel), List.mem_of_getElem? (i := 933) (by decide +kernel), List.mem_of_getElem? (i := 934) (by decide +kernel)⟩
theorem lw_p27 : lw_okq (⟨"InkBars$Lines", "add", "(IZ)V"⟩, 8) := ⟨⟨by decide +kernel, by decide +kernel⟩, List.mem_of_getElem? (i := 273) (by decide +kernel), List.mem_of_getElem? (i := 939) (by decide +kernel), List.mem_of_getElem? (i := 940) (by decide +kernel)⟩
theorem lw_p28 : lw_okq (⟨"InkBars$Lines", "asksOfTheSame", "(I)Z"⟩, 8) := ⟨⟨by decide +kernel, by decide +kernel⟩, List.mem_of_getElem? (i := 273) (by decide +kernel), List.mem_of_getElem? (i := 943) (by decide +kernel), List.mem_of_getElem? (i := 944) (by decide +kernel)⟩
theorem lw_p29 : lw_okq (⟨"InkBars$Lines", "put", "(IIZ)V"⟩, 8) := ⟨⟨by decide +kernel, by decide +kernel⟩, List.mem_of_getElem? (i := 273) (by decide +kernel), List.mem_of_getElem? (i := 949) (by decide +kernel), List.mem_of_getElem? (i := 950) (by decide +kernel)⟩
theorem lw_p30 : lw_okq (⟨"InkBars", "fit", "(III)V"⟩, 15) := ⟨⟨by decide +kernel, by decide +kernel⟩, List.mem_of_getElem? (i := 18) (by decide +kernel), List.mem_of_getElem? (i := 953) (by decide +kernel), List.mem_of_getElem? (i := 954) (by decide +kernel)⟩
theorem lw_p31 : lw_okq (⟨"InkBars$Fillings", "hopeful", "()Z"⟩, 14) := ⟨⟨by decide +kernel, by decide +kernel⟩, List.mem_of_getElem? (i := 267) (by decide +kernel), List.mem_of_getElem? (i := 973) (by decide +kernel), List.mem_of_getElem? (i := 974) (by decide +kernel)⟩
def lw_privs_2 : List (MethodName × Nat) := [(⟨"InkBars", "reasonsButInk", "(II)I"⟩, 15), (⟨"InkBars", "tellFacts", "(IIZ)V"⟩, 15), (⟨"InkBars", "inkReason", "(II)I"⟩, 15), (⟨"InkBars", "lay", "(I)Z"⟩, 15), (⟨"InkBars", "tiesReason", "()I"⟩, 15), (⟨"InkBars$Bars", "tied", "(I)Z"⟩, 12), (⟨"InkBars", "linesReason", "()I"⟩, 15), (⟨"InkBars", "countWithout", "(I)I"⟩, 15), (⟨"InkBars", "prepare", "()V"⟩, 15), (⟨"InkBars$Lines", "readSheet", "(ILInkBars$Sheets;LInkBars$Letters;)V"⟩, 8), (⟨"InkBars$Lines", "stand", "(IZ)V"⟩, 8), (⟨"InkBars$Lines", "add", "(IZ)V"⟩, 8), (⟨"InkBars$Lines", "asksOfTheSame", "(I)Z"⟩, 8), (⟨"InkBars$Lines", "put", "(IIZ)V"⟩, 8), (⟨"InkBars", "fit", "(III)V"⟩, 15), (⟨"InkBars$Fillings", "hopeful", "()Z"⟩, 14)]
theorem lw_r2 : ∀ q ∈ lw_privs_2, lw_okq q := List.forall_mem_cons.mpr ⟨lw_p16, List.forall_mem_cons.mpr ⟨lw_p17, List.forall_mem_cons.mpr ⟨lw_p18, List.forall_mem_cons.mpr ⟨lw_p19, List.forall_mem_cons.mpr ⟨lw_p20, List.forall_mem_cons.mpr ⟨lw_p21, List.forall_mem_cons.mpr ⟨lw_p22, List.forall_mem_cons.mpr ⟨lw_p23, List.forall_mem_cons.mpr ⟨lw_p24, List.forall_mem_cons.mpr ⟨lw_p25, List.forall_mem_cons.mpr ⟨lw_p26, List.forall_mem_cons.mpr ⟨lw_p27, List.forall_mem_cons.mpr ⟨lw_p28, List.forall_mem_cons.mpr ⟨lw_p29, List.forall_mem_cons.mpr ⟨lw_p30, List.forall_mem_cons.mpr ⟨lw_p31, fun _ h => absurd h List.not_mem_nil⟩⟩⟩⟩⟩⟩⟩⟩⟩⟩⟩⟩⟩⟩⟩⟩
theorem lw_p32 : lw_okq (⟨"InkBars$Fillings", "countFrom", "(I)I"⟩, 14) := ⟨⟨by decide +kernel, by decide +kernel⟩, List.mem_of_getElem? (i := 267) (by decide +kernel), List.mem_of_getElem? (i := 981) (by decide +kernel), List.mem_of_getElem? (i := 982) (by decide +kernel)⟩
theorem lw_p33 : lw_okq (⟨"InkBars$Fillings", "candidates", "(I)I"⟩, 14) := ⟨⟨by decide +kernel, by decide +kernel⟩, List.mem_of_getElem? (i := 267) (by decide +kernel), List.mem_of_getElem? (i := 985) (by decide +kernel), List.mem_of_getElem? (i := 986) (by decide +kernel)⟩
theorem lw_p34 : lw_okq (⟨"InkBars$Fillings", "countBehind", "(II)I"⟩, 14) := ⟨⟨by decide +kernel, by decide +kernel⟩, List.mem_of_getElem? (i := 267) (by decide +kernel), List.mem_of_getElem? (i := 1018) (by decide +kernel), List.mem_of_getElem? (i := 1019) (by decide +kernel)⟩
theorem lw_p35 : lw_okq (⟨"InkBars", "weigh", "()V"⟩, 15) := ⟨⟨by decide +kernel, by decide +kernel⟩, List.mem_of_getElem? (i := 18) (by decide +kernel), List.mem_of_getElem? (i := 1026) (by decide +kernel), List.mem_of_getElem? (i := 1027) (by decide +kernel)⟩
theorem lw_p36 : lw_okq (⟨"InkBars$Fillings", "weighFrom", "(IJ)J"⟩, 14) := ⟨⟨by decide +kernel, by decide +kernel⟩, List.mem_of_getElem? (i := 267) (by decide +kernel), List.mem_of_getElem? (i := 1034) (by decide +kernel), List.mem_of_getElem? (i := 1035) (by decide +kernel)⟩
theorem lw_p37 : lw_okq (⟨"InkBars$Fillings", "weighBehind", "(IIJ)J"⟩, 14) := ⟨⟨by decide +kernel, by decide +kernel⟩, List.mem_of_getElem? (i := 267) (by decide +kernel), List.mem_of_getElem? (i := 1038) (by decide +kernel), List.mem_of_getElem? (i := 1039) (by decide +kernel)⟩
theorem lw_p38 : lw_okq (⟨"InkBars", "keeps", "(II)Z"⟩, 15) := ⟨⟨by decide +kernel, by decide +kernel⟩, List.mem_of_getElem? (i := 18) (by decide +kernel), List.mem_of_getElem? (i := 1068) (by decide +kernel), List.mem_of_getElem? (i := 1069) (by decide +kernel)⟩
theorem lw_p39 : lw_okq (⟨"InkBars$Fillings", "reachFrom", "(I)Z"⟩, 14) := ⟨⟨by decide +kernel, by decide +kernel⟩, List.mem_of_getElem? (i := 267) (by decide +kernel), List.mem_of_getElem? (i := 1076) (by decide +kernel), List.mem_of_getElem? (i := 1077) (by decide +kernel)⟩
theorem lw_p40 : lw_okq (⟨"InkBars$Fillings", "reachBehind", "(II)Z"⟩, 14) := ⟨⟨by decide +kernel, by decide +kernel⟩, List.mem_of_getElem? (i := 267) (by decide +kernel), List.mem_of_getElem? (i := 1080) (by decide +kernel), List.mem_of_getElem? (i := 1081) (by decide +kernel)⟩
theorem lw_p41 : lw_okq (⟨"InkBars$Copies", "copied", "(II)Z"⟩, 5) := ⟨⟨by decide +kernel, by decide +kernel⟩, List.mem_of_getElem? (i := 245) (by decide +kernel), List.mem_of_getElem? (i := 1170) (by decide +kernel), List.mem_of_getElem? (i := 1171) (by decide +kernel)⟩
theorem lw_p42 : lw_okq (⟨"InkBars$Copies", "coveredBy", "(II)I"⟩, 5) := ⟨⟨by decide +kernel, by decide +kernel⟩, List.mem_of_getElem? (i := 245) (by decide +kernel), List.mem_of_getElem? (i := 1174) (by decide +kernel), List.mem_of_getElem? (i := 1175) (by decide +kernel)⟩
theorem lw_p43 : lw_okq (⟨"InkBars", "firstWrong", "(II)I"⟩, 15) := ⟨⟨by decide +kernel, by decide +kernel⟩, List.mem_of_getElem? (i := 18) (by decide +kernel), List.mem_of_getElem? (i := 1210) (by decide +kernel), List.mem_of_getElem? (i := 1211) (by decide +kernel)⟩
theorem lw_p44 : lw_okq (⟨"InkBarsModel", "push", "(I)V"⟩, 77) := ⟨⟨by decide +kernel, by decide +kernel⟩, List.mem_of_getElem? (i := 1243) (by decide +kernel), List.mem_of_getElem? (i := 1501) (by decide +kernel), List.mem_of_getElem? (i := 1502) (by decide +kernel)⟩
theorem lw_p45 : lw_okq (⟨"InkBarsModel", "compared", "(II)I"⟩, 77) := ⟨⟨by decide +kernel, by decide +kernel⟩, List.mem_of_getElem? (i := 1243) (by decide +kernel), List.mem_of_getElem? (i := 1516) (by decide +kernel), List.mem_of_getElem? (i := 1517) (by decide +kernel)⟩
theorem lw_p46 : lw_okq (⟨"InkBarsModel", "isName", "(I)Z"⟩, 77) := ⟨⟨by decide +kernel, by decide +kernel⟩, List.mem_of_getElem? (i := 1243) (by decide +kernel), List.mem_of_getElem? (i := 1524) (by decide +kernel), List.mem_of_getElem? (i := 1525) (by decide +kernel)⟩
theorem lw_p47 : lw_okq (⟨"InkBarsModel", "wideOf", "(I)I"⟩, 77) := ⟨⟨by decide +kernel, by decide +kernel⟩, List.mem_of_getElem? (i := 1243) (by decide +kernel), List.mem_of_getElem? (i := 1528) (by decide +kernel), List.mem_of_getElem? (i := 1529) (by decide +kernel)⟩
def lw_privs_3 : List (MethodName × Nat) := [(⟨"InkBars$Fillings", "countFrom", "(I)I"⟩, 14), (⟨"InkBars$Fillings", "candidates", "(I)I"⟩, 14), (⟨"InkBars$Fillings", "countBehind", "(II)I"⟩, 14), (⟨"InkBars", "weigh", "()V"⟩, 15), (⟨"InkBars$Fillings", "weighFrom", "(IJ)J"⟩, 14), (⟨"InkBars$Fillings", "weighBehind", "(IIJ)J"⟩, 14), (⟨"InkBars", "keeps", "(II)Z"⟩, 15), (⟨"InkBars$Fillings", "reachFrom", "(I)Z"⟩, 14), (⟨"InkBars$Fillings", "reachBehind", "(II)Z"⟩, 14), (⟨"InkBars$Copies", "copied", "(II)Z"⟩, 5), (⟨"InkBars$Copies", "coveredBy", "(II)I"⟩, 5), (⟨"InkBars", "firstWrong", "(II)I"⟩, 15), (⟨"InkBarsModel", "push", "(I)V"⟩, 77), (⟨"InkBarsModel", "compared", "(II)I"⟩, 77), (⟨"InkBarsModel", "isName", "(I)Z"⟩, 77), (⟨"InkBarsModel", "wideOf", "(I)I"⟩, 77)]
theorem lw_r3 : ∀ q ∈ lw_privs_3, lw_okq q := List.forall_mem_cons.mpr ⟨lw_p32, List.forall_mem_cons.mpr ⟨lw_p33, List.forall_mem_cons.mpr ⟨lw_p34, List.forall_mem_cons.mpr ⟨lw_p35, List.forall_mem_cons.mpr ⟨lw_p36, List.forall_mem_cons.mpr ⟨lw_p37, List.forall_mem_cons.mpr ⟨lw_p38, List.forall_mem_cons.mpr ⟨lw_p39, List.forall_mem_cons.mpr ⟨lw_p40, List.forall_mem_cons.mpr ⟨lw_p41, List.forall_mem_cons.mpr ⟨lw_p42, List.forall_mem_cons.mpr ⟨lw_p43, List.forall_mem_cons.mpr ⟨lw_p44, List.forall_mem_cons.mpr ⟨lw_p45, List.forall_mem_cons.mpr ⟨lw_p46, List.forall_mem_cons.mpr ⟨lw_p47, fun _ h => absurd h List.not_mem_nil⟩⟩⟩⟩⟩⟩⟩⟩⟩⟩⟩⟩⟩⟩⟩⟩
theorem lw_p48 : lw_okq (⟨"InkBarsModel", "isGood", "()Z"⟩, 77) := ⟨⟨by decide +kernel, by decide +kernel⟩, List.mem_of_getElem? (i := 1243) (by decide +kernel), List.mem_of_getElem? (i := 1546) (by decide +kernel), List.mem_of_getElem? (i := 1547) (by decide +kernel)⟩
theorem lw_p49 : lw_okq (⟨"InkBarsModel", "token", "(II)V"⟩, 77) := ⟨⟨by decide +kernel, by decide +kernel⟩, List.mem_of_getElem? (i := 1243) (by decide +kernel), List.mem_of_getElem? (i := 1550) (by decide +kernel), List.mem_of_getElem? (i := 1551) (by decide +kernel)⟩
theorem lw_p50 : lw_okq (⟨"InkBarsModel", "here", "()I"⟩, 77) := ⟨⟨by decide +kernel, by decide +kernel⟩, List.mem_of_getElem? (i := 1243) (by decide +kernel), List.mem_of_getElem? (i := 1554) (by decide +kernel), List.mem_of_getElem? (i := 1555) (by decide +kernel)⟩
theorem lw_p51 : lw_okq (⟨"InkBarsModel", "wrongs", "(II)V"⟩, 77) := ⟨⟨by decide +kernel, by decide +kernel⟩, List.mem_of_getElem? (i := 1243) (by decide +kernel), List.mem_of_getElem? (i := 1561) (by decide +kernel), List.mem_of_getElem? (i := 1562) (by decide +kernel)⟩
theorem lw_p52 : lw_okq (⟨"InkBarsModel", "clause", "()V"⟩, 77) := ⟨⟨by decide +kernel, by decide +kernel⟩, List.mem_of_getElem? (i := 1243) (by decide +kernel), List.mem_of_getElem? (i := 1569) (by decide +kernel), List.mem_of_getElem? (i := 1570) (by decide +kernel)⟩
theorem lw_p53 : lw_okq (⟨"InkBarsModel", "condition", "()V"⟩, 77) := ⟨⟨by decide +kernel, by decide +kernel⟩, List.mem_of_getElem? (i := 1243) (by decide +kernel), List.mem_of_getElem? (i := 1573) (by decide +kernel), List.mem_of_getElem? (i := 1574) (by decide +kernel)⟩
theorem lw_p54 : lw_okq (⟨"InkBarsModel", "opens", "()V"⟩, 77) := ⟨⟨by decide +kernel, by decide +kernel⟩, List.mem_of_getElem? (i := 1243) (by decide +kernel), List.mem_of_getElem? (i := 1577) (by decide +kernel), List.mem_of_getElem? (i := 1578) (by decide +kernel)⟩
theorem lw_p55 : lw_okq (⟨"InkBarsModel", "puts", "(I)V"⟩, 77) := ⟨⟨by decide +kernel, by decide +kernel⟩, List.mem_of_getElem? (i := 1243) (by decide +kernel), List.mem_of_getElem? (i := 1581) (by decide +kernel), List.mem_of_getElem? (i := 1582) (by decide +kernel)⟩
theorem lw_p56 : lw_okq (⟨"InkBarsModel", "pieceOfC", "()V"⟩, 77) := ⟨⟨by decide +kernel, by decide +kernel⟩, List.mem_of_getElem? (i := 1243) (by decide +kernel), List.mem_of_getElem? (i := 1585) (by decide +kernel), List.mem_of_getElem? (i := 1586) (by decide +kernel)⟩
theorem lw_p57 : lw_okq (⟨"InkBarsModel", "factor", "()V"⟩, 77) := ⟨⟨by decide +kernel, by decide +kernel⟩, List.mem_of_getElem? (i := 1243) (by decide +kernel), List.mem_of_getElem? (i := 1589) (by decide +kernel), List.mem_of_getElem? (i := 1590) (by decide +kernel)⟩
theorem lw_p58 : lw_okq (⟨"InkBarsModel", "reads", "()I"⟩, 77) := ⟨⟨by decide +kernel, by decide +kernel⟩, List.mem_of_getElem? (i := 1243) (by decide +kernel), List.mem_of_getElem? (i := 1593) (by decide +kernel), List.mem_of_getElem? (i := 1594) (by decide +kernel)⟩
theorem lw_p59 : lw_okq (⟨"InkBarsModel", "emit", "(II)V"⟩, 77) := ⟨⟨by decide +kernel, by decide +kernel⟩, List.mem_of_getElem? (i := 1243) (by decide +kernel), List.mem_of_getElem? (i := 1597) (by decide +kernel), List.mem_of_getElem? (i := 1598) (by decide +kernel)⟩
theorem lw_p60 : lw_okq (⟨"InkBarsModel", "goesOn", "()Z"⟩, 77) := ⟨⟨by decide +kernel, by decide +kernel⟩, List.mem_of_getElem? (i := 1243) (by decide +kernel), List.mem_of_getElem? (i := 1604) (by decide +kernel), List.mem_of_getElem? (i := 1605) (by decide +kernel)⟩
theorem lw_p61 : lw_okq (⟨"InkBarsModel", "sums", "(Z)V"⟩, 77) := ⟨⟨by decide +kernel, by decide +kernel⟩, List.mem_of_getElem? (i := 1243) (by decide +kernel), List.mem_of_getElem? (i := 1614) (by decide +kernel), List.mem_of_getElem? (i := 1615) (by decide +kernel)⟩
theorem lw_p62 : lw_okq (⟨"InkBarsModel", "top", "()I"⟩, 77) := ⟨⟨by decide +kernel, by decide +kernel⟩, List.mem_of_getElem? (i := 1243) (by decide +kernel), List.mem_of_getElem? (i := 1618) (by decide +kernel), List.mem_of_getElem? (i := 1619) (by decide +kernel)⟩
theorem lw_p63 : lw_okq (⟨"InkBarsModel", "ends", "()V"⟩, 77) := ⟨⟨by decide +kernel, by decide +kernel⟩, List.mem_of_getElem? (i := 1243) (by decide +kernel), List.mem_of_getElem? (i := 1625) (by decide +kernel), List.mem_of_getElem? (i := 1626) (by decide +kernel)⟩
def lw_privs_4 : List (MethodName × Nat) := [(⟨"InkBarsModel", "isGood", "()Z"⟩, 77), (⟨"InkBarsModel", "token", "(II)V"⟩, 77), (⟨"InkBarsModel", "here", "()I"⟩, 77), (⟨"InkBarsModel", "wrongs", "(II)V"⟩, 77), (⟨"InkBarsModel", "clause", "()V"⟩, 77), (⟨"InkBarsModel", "condition", "()V"⟩, 77), (⟨"InkBarsModel", "opens", "()V"⟩, 77), (⟨"InkBarsModel", "puts", "(I)V"⟩, 77), (⟨"InkBarsModel", "pieceOfC", "()V"⟩, 77), (⟨"InkBarsModel", "factor", "()V"⟩, 77), (⟨"InkBarsModel", "reads", "()I"⟩, 77), (⟨"InkBarsModel", "emit", "(II)V"⟩, 77), (⟨"InkBarsModel", "goesOn", "()Z"⟩, 77), (⟨"InkBarsModel", "sums", "(Z)V"⟩, 77), (⟨"InkBarsModel", "top", "()I"⟩, 77), (⟨"InkBarsModel", "ends", "()V"⟩, 77)]
theorem lw_r4 : ∀ q ∈ lw_privs_4, lw_okq q := List.forall_mem_cons.mpr ⟨lw_p48, List.forall_mem_cons.mpr ⟨lw_p49, List.forall_mem_cons.mpr ⟨lw_p50, List.forall_mem_cons.mpr ⟨lw_p51, List.forall_mem_cons.mpr ⟨lw_p52, List.forall_mem_cons.mpr ⟨lw_p53, List.forall_mem_cons.mpr ⟨lw_p54, List.forall_mem_cons.mpr ⟨lw_p55, List.forall_mem_cons.mpr ⟨lw_p56, List.forall_mem_cons.mpr ⟨lw_p57, List.forall_mem_cons.mpr ⟨lw_p58, List.forall_mem_cons.mpr ⟨lw_p59, List.forall_mem_cons.mpr ⟨lw_p60, List.forall_mem_cons.mpr ⟨lw_p61, List.forall_mem_cons.mpr ⟨lw_p62, List.forall_mem_cons.mpr ⟨lw_p63, fun _ h => absurd h List.not_mem_nil⟩⟩⟩⟩⟩⟩⟩⟩⟩⟩⟩⟩⟩⟩⟩⟩
theorem lw_p64 : lw_okq (⟨"InkBarsModel", "goesBehind", "()Z"⟩, 77) := ⟨⟨by decide +kernel, by decide +kernel⟩, List.mem_of_getElem? (i := 1243) (by decide +kernel), List.mem_of_getElem? (i := 1629) (by decide +kernel), List.mem_of_getElem? (i := 1630) (by decide +kernel)⟩
theorem lw_p65 : lw_okq (⟨"InkBarsModel", "joins", "(Z)V"⟩, 77) := ⟨⟨by decide +kernel, by decide +kernel⟩, List.mem_of_getElem? (i := 1243) (by decide +kernel), List.mem_of_getElem? (i := 1633) (by decide +kernel), List.mem_of_getElem? (i := 1634) (by decide +kernel)⟩
theorem lw_p66 : lw_okq (⟨"InkBarsModel", "isBar", "(I)Z"⟩, 77) := ⟨⟨by decide +kernel, by decide +kernel⟩, List.mem_of_getElem? (i := 1243) (by decide +kernel), List.mem_of_getElem? (i := 1642) (by decide +kernel), List.mem_of_getElem? (i := 1643) (by decide +kernel)⟩
theorem lw_p67 : lw_okq (⟨"InkBarsModel", "habitOf", "(IZ)I"⟩, 77) := ⟨⟨by decide +kernel, by decide +kernel⟩, List.mem_of_getElem? (i := 1243) (by decide +kernel), List.mem_of_getElem? (i := 1662) (by decide +kernel), List.mem_of_getElem? (i := 1663) (by decide +kernel)⟩
theorem lw_p68 : lw_okq (⟨"InkBarsModel", "againstOf", "(II)I"⟩, 77) := ⟨⟨by decide +kernel, by decide +kernel⟩, List.mem_of_getElem? (i := 1243) (by decide +kernel), List.mem_of_getElem? (i := 1674) (by decide +kernel), List.mem_of_getElem? (i := 1675) (by decide +kernel)⟩
theorem lw_p69 : lw_okq (⟨"InkBarsModel", "isAgainstGrammar", "(II)Z"⟩, 77) := ⟨⟨by decide +kernel, by decide +kernel⟩, List.mem_of_getElem? (i := 1243) (by decide +kernel), List.mem_of_getElem? (i := 1678) (by decide +kernel), List.mem_of_getElem? (i := 1679) (by decide +kernel)⟩
theorem lw_p70 : lw_okq (⟨"InkBarsModel", "isWord", "(IIZ)Z"⟩, 77) := ⟨⟨by decide +kernel, by decide +kernel⟩, List.mem_of_getElem? (i := 1243) (by decide +kernel), List.mem_of_getElem? (i := 1682) (by decide +kernel), List.mem_of_getElem? (i := 1683) (by decide +kernel)⟩
theorem lw_p71 : lw_okq (⟨"InkBarsModel", "isVowel", "(I)Z"⟩, 77) := ⟨⟨by decide +kernel, by decide +kernel⟩, List.mem_of_getElem? (i := 1243) (by decide +kernel), List.mem_of_getElem? (i := 1686) (by decide +kernel), List.mem_of_getElem? (i := 1687) (by decide +kernel)⟩
theorem lw_p72 : lw_okq (⟨"InkBarsModel", "isAgainstRules", "(II)Z"⟩, 77) := ⟨⟨by decide +kernel, by decide +kernel⟩, List.mem_of_getElem? (i := 1243) (by decide +kernel), List.mem_of_getElem? (i := 1690) (by decide +kernel), List.mem_of_getElem? (i := 1691) (by decide +kernel)⟩
theorem lw_p73 : lw_okq (⟨"InkBarsModel", "holds", "(I)Z"⟩, 77) := ⟨⟨by decide +kernel, by decide +kernel⟩, List.mem_of_getElem? (i := 1243) (by decide +kernel), List.mem_of_getElem? (i := 1694) (by decide +kernel), List.mem_of_getElem? (i := 1695) (by decide +kernel)⟩
theorem lw_p74 : lw_okq (⟨"InkBarsModel", "does", "(II)V"⟩, 77) := ⟨⟨by decide +kernel, by decide +kernel⟩, List.mem_of_getElem? (i := 1243) (by decide +kernel), List.mem_of_getElem? (i := 1698) (by decide +kernel), List.mem_of_getElem? (i := 1699) (by decide +kernel)⟩
theorem lw_p75 : lw_okq (⟨"InkBarsModel", "valueOf", "(I)I"⟩, 77) := ⟨⟨by decide +kernel, by decide +kernel⟩, List.mem_of_getElem? (i := 1243) (by decide +kernel), List.mem_of_getElem? (i := 1705) (by decide +kernel), List.mem_of_getElem? (i := 1706) (by decide +kernel)⟩
theorem lw_p76 : lw_okq (⟨"InkBarsModel", "isAgainstLists", "(II)Z"⟩, 77) := ⟨⟨by decide +kernel, by decide +kernel⟩, List.mem_of_getElem? (i := 1243) (by decide +kernel), List.mem_of_getElem? (i := 1709) (by decide +kernel), List.mem_of_getElem? (i := 1710) (by decide +kernel)⟩
theorem lw_p77 : lw_okq (⟨"InkBarsModel", "rowsOf", "()I"⟩, 77) := ⟨⟨by decide +kernel, by decide +kernel⟩, List.mem_of_getElem? (i := 1243) (by decide +kernel), List.mem_of_getElem? (i := 1720) (by decide +kernel), List.mem_of_getElem? (i := 1721) (by decide +kernel)⟩
theorem lw_p78 : lw_okq (⟨"InkBarsModel", "takes", "(I)Z"⟩, 77) := ⟨⟨by decide +kernel, by decide +kernel⟩, List.mem_of_getElem? (i := 1243) (by decide +kernel), List.mem_of_getElem? (i := 1724) (by decide +kernel), List.mem_of_getElem? (i := 1725) (by decide +kernel)⟩
theorem lw_p79 : lw_okq (⟨"InkBarsModel", "asks", "()V"⟩, 77) := ⟨⟨by decide +kernel, by decide +kernel⟩, List.mem_of_getElem? (i := 1243) (by decide +kernel), List.mem_of_getElem? (i := 1728) (by decide +kernel), List.mem_of_getElem? (i := 1729) (by decide +kernel)⟩
def lw_privs_5 : List (MethodName × Nat) := [(⟨"InkBarsModel", "goesBehind", "()Z"⟩, 77), (⟨"InkBarsModel", "joins", "(Z)V"⟩, 77), (⟨"InkBarsModel", "isBar", "(I)Z"⟩, 77), (⟨"InkBarsModel", "habitOf", "(IZ)I"⟩, 77), (⟨"InkBarsModel", "againstOf", "(II)I"⟩, 77), (⟨"InkBarsModel", "isAgainstGrammar", "(II)Z"⟩, 77), (⟨"InkBarsModel", "isWord", "(IIZ)Z"⟩, 77), (⟨"InkBarsModel", "isVowel", "(I)Z"⟩, 77), (⟨"InkBarsModel", "isAgainstRules", "(II)Z"⟩, 77), (⟨"InkBarsModel", "holds", "(I)Z"⟩, 77), (⟨"InkBarsModel", "does", "(II)V"⟩, 77), (⟨"InkBarsModel", "valueOf", "(I)I"⟩, 77), (⟨"InkBarsModel", "isAgainstLists", "(II)Z"⟩, 77), (⟨"InkBarsModel", "rowsOf", "()I"⟩, 77), (⟨"InkBarsModel", "takes", "(I)Z"⟩, 77), (⟨"InkBarsModel", "asks", "()V"⟩, 77)]
theorem lw_r5 : ∀ q ∈ lw_privs_5, lw_okq q := List.forall_mem_cons.mpr ⟨lw_p64, List.forall_mem_cons.mpr ⟨lw_p65, List.forall_mem_cons.mpr ⟨lw_p66, List.forall_mem_cons.mpr ⟨lw_p67, List.forall_mem_cons.mpr ⟨lw_p68, List.forall_mem_cons.mpr ⟨lw_p69, List.forall_mem_cons.mpr ⟨lw_p70, List.forall_mem_cons.mpr ⟨lw_p71, List.forall_mem_cons.mpr ⟨lw_p72, List.forall_mem_cons.mpr ⟨lw_p73, List.forall_mem_cons.mpr ⟨lw_p74, List.forall_mem_cons.mpr ⟨lw_p75, List.forall_mem_cons.mpr ⟨lw_p76, List.forall_mem_cons.mpr ⟨lw_p77, List.forall_mem_cons.mpr ⟨lw_p78, List.forall_mem_cons.mpr ⟨lw_p79, fun _ h => absurd h List.not_mem_nil⟩⟩⟩⟩⟩⟩⟩⟩⟩⟩⟩⟩⟩⟩⟩⟩
theorem lw_p80 : lw_okq (⟨"InkBarsModel", "speaks", "(II)I"⟩, 77) := ⟨⟨by decide +kernel, by decide +kernel⟩, List.mem_of_getElem? (i := 1243) (by decide +kernel), List.mem_of_getElem? (i := 1732) (by decide +kernel), List.mem_of_getElem? (i := 1733) (by decide +kernel)⟩
theorem lw_p81 : lw_okq (⟨"InkBarsModel", "breaksSo", "(I)Z"⟩, 77) := ⟨⟨by decide +kernel, by decide +kernel⟩, List.mem_of_getElem? (i := 1243) (by decide +kernel), List.mem_of_getElem? (i := 1736) (by decide +kernel), List.mem_of_getElem? (i := 1737) (by decide +kernel)⟩
theorem lw_p82 : lw_okq (⟨"InkBarsModel", "sets", "(I)V"⟩, 77) := ⟨⟨by decide +kernel, by decide +kernel⟩, List.mem_of_getElem? (i := 1243) (by decide +kernel), List.mem_of_getElem? (i := 1740) (by decide +kernel), List.mem_of_getElem? (i := 1741) (by decide +kernel)⟩
theorem lw_p83 : lw_okq (⟨"InkBarsModel", "wideOfToken", "(II)I"⟩, 77) := ⟨⟨by decide +kernel, by decide +kernel⟩, List.mem_of_getElem? (i := 1243) (by decide +kernel), List.mem_of_getElem? (i := 1744) (by decide +kernel), List.mem_of_getElem? (i := 1745) (by decide +kernel)⟩
theorem lw_p84 : lw_okq (⟨"InkBarsModel", "isSheet", "(I)Z"⟩, 77) := ⟨⟨by decide +kernel, by decide +kernel⟩, List.mem_of_getElem? (i := 1243) (by decide +kernel), List.mem_of_getElem? (i := 1752) (by decide +kernel), List.mem_of_getElem? (i := 1753) (by decide +kernel)⟩
theorem lw_p85 : lw_okq (⟨"InkBarsModel", "fills", "(I)V"⟩, 77) := ⟨⟨by decide +kernel, by decide +kernel⟩, List.mem_of_getElem? (i := 1243) (by decide +kernel), List.mem_of_getElem? (i := 1761) (by decide +kernel), List.mem_of_getElem? (i := 1762) (by decide +kernel)⟩
theorem lw_p86 : lw_okq (⟨"InkBarsModel", "begins", "()Z"⟩, 77) := ⟨⟨by decide +kernel, by decide +kernel⟩, List.mem_of_getElem? (i := 1243) (by decide +kernel), List.mem_of_getElem? (i := 1765) (by decide +kernel), List.mem_of_getElem? (i := 1766) (by decide +kernel)⟩
theorem lw_p87 : lw_okq (⟨"InkBarsModel", "tableOf", "()I"⟩, 77) := ⟨⟨by decide +kernel, by decide +kernel⟩, List.mem_of_getElem? (i := 1243) (by decide +kernel), List.mem_of_getElem? (i := 1769) (by decide +kernel), List.mem_of_getElem? (i := 1770) (by decide +kernel)⟩
theorem lw_p88 : lw_okq (⟨"InkBarsModel", "goesOnNames", "()Z"⟩, 77) := ⟨⟨by decide +kernel, by decide +kernel⟩, List.mem_of_getElem? (i := 1243) (by decide +kernel), List.mem_of_getElem? (i := 1773) (by decide +kernel), List.mem_of_getElem? (i := 1774) (by decide +kernel)⟩
theorem lw_p89 : lw_okq (⟨"InkBarsModel", "mayOf", "(I)I"⟩, 77) := ⟨⟨by decide +kernel, by decide +kernel⟩, List.mem_of_getElem? (i := 1243) (by decide +kernel), List.mem_of_getElem? (i := 1781) (by decide +kernel), List.mem_of_getElem? (i := 1782) (by decide +kernel)⟩
theorem lw_p90 : lw_okq (⟨"InkBarsModel", "habits", "()V"⟩, 77) := ⟨⟨by decide +kernel, by decide +kernel⟩, List.mem_of_getElem? (i := 1243) (by decide +kernel), List.mem_of_getElem? (i := 1798) (by decide +kernel), List.mem_of_getElem? (i := 1799) (by decide +kernel)⟩
theorem lw_p91 : lw_okq (⟨"InkBarsModel", "haveAll", "(II)Z"⟩, 77) := ⟨⟨by decide +kernel, by decide +kernel⟩, List.mem_of_getElem? (i := 1243) (by decide +kernel), List.mem_of_getElem? (i := 1802) (by decide +kernel), List.mem_of_getElem? (i := 1803) (by decide +kernel)⟩
theorem lw_p92 : lw_okq (⟨"InkBarsModel", "says", "(II)I"⟩, 77) := ⟨⟨by decide +kernel, by decide +kernel⟩, List.mem_of_getElem? (i := 1243) (by decide +kernel), List.mem_of_getElem? (i := 1811) (by decide +kernel), List.mem_of_getElem? (i := 1812) (by decide +kernel)⟩
theorem lw_p93 : lw_okq (⟨"InkBarsModel", "openOf", "(II)I"⟩, 77) := ⟨⟨by decide +kernel, by decide +kernel⟩, List.mem_of_getElem? (i := 1243) (by decide +kernel), List.mem_of_getElem? (i := 1830) (by decide +kernel), List.mem_of_getElem? (i := 1831) (by decide +kernel)⟩
theorem lw_p94 : lw_okq (⟨"InkBarsModel", "isCopy", "(I)Z"⟩, 77) := ⟨⟨by decide +kernel, by decide +kernel⟩, List.mem_of_getElem? (i := 1243) (by decide +kernel), List.mem_of_getElem? (i := 1838) (by decide +kernel), List.mem_of_getElem? (i := 1839) (by decide +kernel)⟩
theorem lw_p95 : lw_okq (⟨"InkBarsModel", "hasCopy", "(II)Z"⟩, 77) := ⟨⟨by decide +kernel, by decide +kernel⟩, List.mem_of_getElem? (i := 1243) (by decide +kernel), List.mem_of_getElem? (i := 1854) (by decide +kernel), List.mem_of_getElem? (i := 1855) (by decide +kernel)⟩
def lw_privs_6 : List (MethodName × Nat) := [(⟨"InkBarsModel", "speaks", "(II)I"⟩, 77), (⟨"InkBarsModel", "breaksSo", "(I)Z"⟩, 77), (⟨"InkBarsModel", "sets", "(I)V"⟩, 77), (⟨"InkBarsModel", "wideOfToken", "(II)I"⟩, 77), (⟨"InkBarsModel", "isSheet", "(I)Z"⟩, 77), (⟨"InkBarsModel", "fills", "(I)V"⟩, 77), (⟨"InkBarsModel", "begins", "()Z"⟩, 77), (⟨"InkBarsModel", "tableOf", "()I"⟩, 77), (⟨"InkBarsModel", "goesOnNames", "()Z"⟩, 77), (⟨"InkBarsModel", "mayOf", "(I)I"⟩, 77), (⟨"InkBarsModel", "habits", "()V"⟩, 77), (⟨"InkBarsModel", "haveAll", "(II)Z"⟩, 77), (⟨"InkBarsModel", "says", "(II)I"⟩, 77), (⟨"InkBarsModel", "openOf", "(II)I"⟩, 77), (⟨"InkBarsModel", "isCopy", "(I)Z"⟩, 77), (⟨"InkBarsModel", "hasCopy", "(II)Z"⟩, 77)]
theorem lw_r6 : ∀ q ∈ lw_privs_6, lw_okq q := List.forall_mem_cons.mpr ⟨lw_p80, List.forall_mem_cons.mpr ⟨lw_p81, List.forall_mem_cons.mpr ⟨lw_p82, List.forall_mem_cons.mpr ⟨lw_p83, List.forall_mem_cons.mpr ⟨lw_p84, List.forall_mem_cons.mpr ⟨lw_p85, List.forall_mem_cons.mpr ⟨lw_p86, List.forall_mem_cons.mpr ⟨lw_p87, List.forall_mem_cons.mpr ⟨lw_p88, List.forall_mem_cons.mpr ⟨lw_p89, List.forall_mem_cons.mpr ⟨lw_p90, List.forall_mem_cons.mpr ⟨lw_p91, List.forall_mem_cons.mpr ⟨lw_p92, List.forall_mem_cons.mpr ⟨lw_p93, List.forall_mem_cons.mpr ⟨lw_p94, List.forall_mem_cons.mpr ⟨lw_p95, fun _ h => absurd h List.not_mem_nil⟩⟩⟩⟩⟩⟩⟩⟩⟩⟩⟩⟩⟩⟩⟩⟩
theorem lw_p96 : lw_okq (⟨"InkBarsModel", "coversOf", "(II)I"⟩, 77) := ⟨⟨by decide +kernel, by decide +kernel⟩, List.mem_of_getElem? (i := 1243) (by decide +kernel), List.mem_of_getElem? (i := 1858) (by decide +kernel), List.mem_of_getElem? (i := 1859) (by decide +kernel)⟩
theorem lw_p97 : lw_okq (⟨"InkBarsModel", "numberAt", "(I)I"⟩, 77) := ⟨⟨by decide +kernel, by decide +kernel⟩, List.mem_of_getElem? (i := 1243) (by decide +kernel), List.mem_of_getElem? (i := 1875) (by decide +kernel), List.mem_of_getElem? (i := 1876) (by decide +kernel)⟩
theorem lw_p98 : lw_okq (⟨"InkBarsModel", "linesOf", "(I)I"⟩, 77) := ⟨⟨by decide +kernel, by decide +kernel⟩, List.mem_of_getElem? (i := 1243) (by decide +kernel), List.mem_of_getElem? (i := 1884) (by decide +kernel), List.mem_of_getElem? (i := 1885) (by decide +kernel)⟩
def lw_privs_7 : List (MethodName × Nat) := [(⟨"InkBarsModel", "coversOf", "(II)I"⟩, 77), (⟨"InkBarsModel", "numberAt", "(I)I"⟩, 77), (⟨"InkBarsModel", "linesOf", "(I)I"⟩, 77)]
theorem lw_r7 : ∀ q ∈ lw_privs_7, lw_okq q := List.forall_mem_cons.mpr ⟨lw_p96, List.forall_mem_cons.mpr ⟨lw_p97, List.forall_mem_cons.mpr ⟨lw_p98, fun _ h => absurd h List.not_mem_nil⟩⟩⟩
def lw_privs : List (MethodName × Nat) := lw_privs_1 ++ (lw_privs_2 ++ (lw_privs_3 ++ (lw_privs_4 ++ (lw_privs_5 ++ (lw_privs_6 ++ (lw_privs_7))))))
def lw_tbl : List Cond := k2_sels lw_privs ++ tables_1
theorem lw_privs_ok : ∀ q ∈ lw_privs, lw_okq q := by
  show ∀ q ∈ lw_privs_1 ++ (lw_privs_2 ++ (lw_privs_3 ++ (lw_privs_4 ++ (lw_privs_5 ++ (lw_privs_6 ++ (lw_privs_7)))))), lw_okq q
  exact List.forall_mem_append.mpr ⟨lw_r1, List.forall_mem_append.mpr ⟨lw_r2, List.forall_mem_append.mpr ⟨lw_r3, List.forall_mem_append.mpr ⟨lw_r4, List.forall_mem_append.mpr ⟨lw_r5, List.forall_mem_append.mpr ⟨lw_r6, lw_r7⟩⟩⟩⟩⟩⟩
-- ===== end of PART A; then your names; then what follows =====
end
section
def RX0 : String := "InkBars$Bars"
def TX0 : u_T := fun k => match k with
  | 0 => ("InkBars$Bars", "inks", "[I", true)
  | 1 => ("InkBars$Bars", "years", "[I", true)
  | 2 => ("InkBars$Bars", "sorts", "[I", true)
  | 3 => ("InkBars$Bars", "tieSorts", "[I", true)
  | 4 => ("InkBars$Bars", "tieFirsts", "[I", true)
  | 5 => ("InkBars$Bars", "tieSeconds", "[I", true)
  | 6 => ("InkBars$Bars", "listBars", "[I", true)
  | 7 => ("InkBars$Bars", "listBehinds", "[I", true)
  | 8 => ("InkBars$Bars", "listAheads", "[I", true)
  | 9 => ("InkBars$Bars", "count", "I", false)
  | 10 => ("InkBars$Bars", "ties", "I", false)
  | _ => ("InkBars$Bars", "lists", "I", false)
def tyX0 : Nat → FieldType := fun k => match k with
  | 0 => .array .int
  | 1 => .array .int
  | 2 => .array .int
  | 3 => .array .int
  | 4 => .array .int
  | 5 => .array .int
  | 6 => .array .int
  | 7 => .array .int
  | 8 => .array .int
  | 9 => .int
  | 10 => .int
  | _ => .int
theorem nmX0 : ∀ a, a < 12 → ∀ b, b < 12 → a ≠ b → (TX0 a).2.1 ≠ (TX0 b).2.1 := by decide +kernel
theorem tyX0_ok : ∀ k, k < 12 → parseFieldDescriptor (TX0 k).2.2.1 = some (tyX0 k) := by decide +kernel
abbrev cX0_init : ByteArray := prog_2_method_1_code
def yX0_init : MethodName := ⟨RX0, "<init>", "()V"⟩
abbrev cX0_count : ByteArray := prog_2_method_2_code
def yX0_count : MethodName := ⟨RX0, "count", "()I"⟩
abbrev cX0_ties : ByteArray := prog_2_method_3_code
def yX0_ties : MethodName := ⟨RX0, "ties", "()I"⟩
abbrev cX0_lists : ByteArray := prog_2_method_4_code
def yX0_lists : MethodName := ⟨RX0, "lists", "()I"⟩
abbrev cX0_full : ByteArray := prog_2_method_5_code
def yX0_full : MethodName := ⟨RX0, "full", "()Z"⟩
abbrev cX0_tiesFull : ByteArray := prog_2_method_6_code
def yX0_tiesFull : MethodName := ⟨RX0, "tiesFull", "()Z"⟩
abbrev cX0_listsFull : ByteArray := prog_2_method_7_code
def yX0_listsFull : MethodName := ⟨RX0, "listsFull", "()Z"⟩
abbrev cX0_has : ByteArray := prog_2_method_8_code
def yX0_has : MethodName := ⟨RX0, "has", "(I)Z"⟩
abbrev cX0_add : ByteArray := prog_2_method_9_code
def yX0_add : MethodName := ⟨RX0, "add", "(III)I"⟩
abbrev cX0_addTie : ByteArray := prog_2_method_10_code
def yX0_addTie : MethodName := ⟨RX0, "addTie", "(III)V"⟩
abbrev cX0_addListed : ByteArray := prog_2_method_11_code
def yX0_addListed : MethodName := ⟨RX0, "addListed", "(III)V"⟩
abbrev cX0_ink : ByteArray := prog_2_method_12_code
def yX0_ink : MethodName := ⟨RX0, "ink", "(I)I"⟩
abbrev cX0_year : ByteArray := prog_2_method_13_code
def yX0_year : MethodName := ⟨RX0, "year", "(I)I"⟩
abbrev cX0_sorts : ByteArray := prog_2_method_14_code
def yX0_sorts : MethodName := ⟨RX0, "sorts", "(I)I"⟩
abbrev cX0_tied : ByteArray := prog_2_method_15_code
def yX0_tied : MethodName := ⟨RX0, "tied", "(I)Z"⟩
abbrev cX0_tieSort : ByteArray := prog_2_method_16_code
def yX0_tieSort : MethodName := ⟨RX0, "tieSort", "(I)I"⟩
abbrev cX0_tieFirst : ByteArray := prog_2_method_17_code
def yX0_tieFirst : MethodName := ⟨RX0, "tieFirst", "(I)I"⟩
abbrev cX0_tieSecond : ByteArray := prog_2_method_18_code
def yX0_tieSecond : MethodName := ⟨RX0, "tieSecond", "(I)I"⟩
abbrev cX0_inLists : ByteArray := prog_2_method_19_code
def yX0_inLists : MethodName := ⟨RX0, "inLists", "(IILInkBars$Names;)Z"⟩
def RX1 : String := "InkBars$Copies"
def TX1 : u_T := fun k => match k with
  | 0 => ("InkBars$Copies", "sheets", "[I", true)
  | 1 => ("InkBars$Copies", "days", "[I", true)
  | 2 => ("InkBars$Copies", "houses", "[I", true)
  | 3 => ("InkBars$Copies", "covers", "[I", true)
  | _ => ("InkBars$Copies", "count", "I", false)
def tyX1 : Nat → FieldType := fun k => match k with
  | 0 => .array .int
  | 1 => .array .int
  | 2 => .array .int
  | 3 => .array .int
  | _ => .int
theorem nmX1 : ∀ a, a < 5 → ∀ b, b < 5 → a ≠ b → (TX1 a).2.1 ≠ (TX1 b).2.1 := by decide +kernel
theorem tyX1_ok : ∀ k, k < 5 → parseFieldDescriptor (TX1 k).2.2.1 = some (tyX1 k) := by decide +kernel
abbrev cX1_init : ByteArray := prog_3_method_1_code
def yX1_init : MethodName := ⟨RX1, "<init>", "()V"⟩
abbrev cX1_count : ByteArray := prog_3_method_2_code
def yX1_count : MethodName := ⟨RX1, "count", "()I"⟩
abbrev cX1_full : ByteArray := prog_3_method_3_code
def yX1_full : MethodName := ⟨RX1, "full", "()Z"⟩
abbrev cX1_has : ByteArray := prog_3_method_4_code
def yX1_has : MethodName := ⟨RX1, "has", "(I)Z"⟩
abbrev cX1_add : ByteArray := prog_3_method_5_code
def yX1_add : MethodName := ⟨RX1, "add", "(IIII)I"⟩
abbrev cX1_sheet : ByteArray := prog_3_method_6_code
def yX1_sheet : MethodName := ⟨RX1, "sheet", "(I)I"⟩
abbrev cX1_day : ByteArray := prog_3_method_7_code
def yX1_day : MethodName := ⟨RX1, "day", "(I)I"⟩
abbrev cX1_covered : ByteArray := prog_3_method_8_code
def yX1_covered : MethodName := ⟨RX1, "covered", "(I)I"⟩
abbrev cX1_openBy : ByteArray := prog_3_method_9_code
def yX1_openBy : MethodName := ⟨RX1, "openBy", "(III)I"⟩
abbrev cX1_firstOpen : ByteArray := prog_3_method_10_code
def yX1_firstOpen : MethodName := ⟨RX1, "firstOpen", "(II)I"⟩
abbrev cX1_copied : ByteArray := prog_3_method_11_code
def yX1_copied : MethodName := ⟨RX1, "copied", "(II)Z"⟩
abbrev cX1_coveredBy : ByteArray := prog_3_method_12_code
def yX1_coveredBy : MethodName := ⟨RX1, "coveredBy", "(II)I"⟩
abbrev cX1_compare : ByteArray := prog_3_method_13_code
def yX1_compare : MethodName := ⟨RX1, "compare", "(II)I"⟩
def RX2 : String := "InkBars$Fillings"
def TX2 : u_T := fun k => match k with
  | 0 => ("InkBars$Fillings", "lines", "LInkBars$Lines;", true)
  | 1 => ("InkBars$Fillings", "fits", "[I", true)
  | 2 => ("InkBars$Fillings", "pairs", "[I", true)
  | 3 => ("InkBars$Fillings", "wides", "[I", true)
  | 4 => ("InkBars$Fillings", "weights", "[I", true)
  | 5 => ("InkBars$Fillings", "under", "[I", true)
  | 6 => ("InkBars$Fillings", "underWides", "[I", true)
  | 7 => ("InkBars$Fillings", "reached", "[I", true)
  | 8 => ("InkBars$Fillings", "odds", "[J", true)
  | 9 => ("InkBars$Fillings", "bars", "I", false)
  | 10 => ("InkBars$Fillings", "names", "I", false)
  | 11 => ("InkBars$Fillings", "tied", "Z", false)
  | 12 => ("InkBars$Fillings", "lined", "Z", false)
  | _ => ("InkBars$Fillings", "all", "J", false)
def tyX2 : Nat → FieldType := fun k => match k with
  | 0 => .object "InkBars$Lines"
  | 1 => .array .int
  | 2 => .array .int
  | 3 => .array .int
  | 4 => .array .int
  | 5 => .array .int
  | 6 => .array .int
  | 7 => .array .int
  | 8 => .array .long
  | 9 => .int
  | 10 => .int
  | 11 => .boolean
  | 12 => .boolean
  | _ => .long
theorem nmX2 : ∀ a, a < 14 → ∀ b, b < 14 → a ≠ b → (TX2 a).2.1 ≠ (TX2 b).2.1 := by decide +kernel
theorem tyX2_ok : ∀ k, k < 14 → parseFieldDescriptor (TX2 k).2.2.1 = some (tyX2 k) := by decide +kernel
abbrev cX2_init : ByteArray := prog_4_method_1_code
def yX2_init : MethodName := ⟨RX2, "<init>", "()V"⟩
abbrev cX2_begin : ByteArray := prog_4_method_2_code
def yX2_begin : MethodName := ⟨RX2, "begin", "(II)V"⟩
abbrev cX2_isBar : ByteArray := prog_4_method_3_code
def yX2_isBar : MethodName := ⟨RX2, "isBar", "(I)Z"⟩
abbrev cX2_isName : ByteArray := prog_4_method_4_code
def yX2_isName : MethodName := ⟨RX2, "isName", "(I)Z"⟩
abbrev cX2_pairPlace : ByteArray := prog_4_method_5_code
def yX2_pairPlace : MethodName := ⟨RX2, "pairPlace", "(III)I"⟩
abbrev cX2_setName : ByteArray := prog_4_method_6_code
def yX2_setName : MethodName := ⟨RX2, "setName", "(III)V"⟩
abbrev cX2_wide : ByteArray := prog_4_method_7_code
def yX2_wide : MethodName := ⟨RX2, "wide", "(I)I"⟩
abbrev cX2_pair : ByteArray := prog_4_method_8_code
def yX2_pair : MethodName := ⟨RX2, "pair", "(IIII)V"⟩
abbrev cX2_setFits : ByteArray := prog_4_method_9_code
def yX2_setFits : MethodName := ⟨RX2, "setFits", "(II)V"⟩
abbrev cX2_heed : ByteArray := prog_4_method_10_code
def yX2_heed : MethodName := ⟨RX2, "heed", "(ZZ)V"⟩
abbrev cX2_hopeful : ByteArray := prog_4_method_11_code
def yX2_hopeful : MethodName := ⟨RX2, "hopeful", "()Z"⟩
abbrev cX2_number : ByteArray := prog_4_method_12_code
def yX2_number : MethodName := ⟨RX2, "number", "()I"⟩
abbrev cX2_fewest : ByteArray := prog_4_method_13_code
def yX2_fewest : MethodName := ⟨RX2, "fewest", "()I"⟩
abbrev cX2_weighAll : ByteArray := prog_4_method_14_code
def yX2_weighAll : MethodName := ⟨RX2, "weighAll", "()V"⟩
abbrev cX2_all : ByteArray := prog_4_method_15_code
def yX2_all : MethodName := ⟨RX2, "all", "()J"⟩
abbrev cX2_odds : ByteArray := prog_4_method_16_code
def yX2_odds : MethodName := ⟨RX2, "odds", "(II)J"⟩
abbrev cX2_may : ByteArray := prog_4_method_17_code
def yX2_may : MethodName := ⟨RX2, "may", "(I)I"⟩
abbrev cX2_likeliest : ByteArray := prog_4_method_18_code
def yX2_likeliest : MethodName := ⟨RX2, "likeliest", "(I)I"⟩
abbrev cX2_candidates : ByteArray := prog_4_method_19_code
def yX2_candidates : MethodName := ⟨RX2, "candidates", "(I)I"⟩
abbrev cX2_countFrom : ByteArray := prog_4_method_20_code
def yX2_countFrom : MethodName := ⟨RX2, "countFrom", "(I)I"⟩
abbrev cX2_countBehind : ByteArray := prog_4_method_21_code
def yX2_countBehind : MethodName := ⟨RX2, "countBehind", "(II)I"⟩
abbrev cX2_reachFrom : ByteArray := prog_4_method_22_code
def yX2_reachFrom : MethodName := ⟨RX2, "reachFrom", "(I)Z"⟩
abbrev cX2_reachBehind : ByteArray := prog_4_method_23_code
def yX2_reachBehind : MethodName := ⟨RX2, "reachBehind", "(II)Z"⟩
abbrev cX2_weighFrom : ByteArray := prog_4_method_24_code
def yX2_weighFrom : MethodName := ⟨RX2, "weighFrom", "(IJ)J"⟩
abbrev cX2_weighBehind : ByteArray := prog_4_method_25_code
def yX2_weighBehind : MethodName := ⟨RX2, "weighBehind", "(IIJ)J"⟩
def RX3 : String := "InkBars$Habits"
def TX3 : u_T := fun k => match k with
  | 0 => ("InkBars$Habits", "houses", "[I", true)
  | 1 => ("InkBars$Habits", "lifted", "[I", true)
  | 2 => ("InkBars$Habits", "inks", "[I", true)
  | _ => ("InkBars$Habits", "count", "I", false)
def tyX3 : Nat → FieldType := fun k => match k with
  | 0 => .array .int
  | 1 => .array .int
  | 2 => .array .int
  | _ => .int
theorem nmX3 : ∀ a, a < 4 → ∀ b, b < 4 → a ≠ b → (TX3 a).2.1 ≠ (TX3 b).2.1 := by decide +kernel
theorem tyX3_ok : ∀ k, k < 4 → parseFieldDescriptor (TX3 k).2.2.1 = some (tyX3 k) := by decide +kernel
abbrev cX3_init : ByteArray := prog_5_method_1_code
def yX3_init : MethodName := ⟨RX3, "<init>", "()V"⟩
abbrev cX3_count : ByteArray := prog_5_method_2_code
def yX3_count : MethodName := ⟨RX3, "count", "()I"⟩
abbrev cX3_full : ByteArray := prog_5_method_3_code
def yX3_full : MethodName := ⟨RX3, "full", "()Z"⟩
abbrev cX3_add : ByteArray := prog_5_method_4_code
def yX3_add : MethodName := ⟨RX3, "add", "(III)V"⟩
abbrev cX3_least : ByteArray := prog_5_method_5_code
def yX3_least : MethodName := ⟨RX3, "least", "(ILInkBars$Names;LInkBars$Letters;)I"⟩
abbrev cX3_greatest : ByteArray := prog_5_method_6_code
def yX3_greatest : MethodName := ⟨RX3, "greatest", "(ILInkBars$Names;LInkBars$Letters;)I"⟩
abbrev cX3_bound : ByteArray := prog_5_method_7_code
def yX3_bound : MethodName := ⟨RX3, "bound", "(IZLInkBars$Names;LInkBars$Letters;)I"⟩
def RX4 : String := "InkBars$Letters"
def TX4 : u_T := fun k => match k with
  | 0 => ("InkBars$Letters", "wides", "[I", true)
  | _ => ("InkBars$Letters", "joins", "[I", true)
def tyX4 : Nat → FieldType := fun k => match k with
  | 0 => .array .int
  | _ => .array .int
theorem nmX4 : ∀ a, a < 2 → ∀ b, b < 2 → a ≠ b → (TX4 a).2.1 ≠ (TX4 b).2.1 := by decide +kernel
theorem tyX4_ok : ∀ k, k < 2 → parseFieldDescriptor (TX4 k).2.2.1 = some (tyX4 k) := by decide +kernel
abbrev cX4_init : ByteArray := prog_6_method_1_code
def yX4_init : MethodName := ⟨RX4, "<init>", "()V"⟩
abbrev cX4_setWide : ByteArray := prog_6_method_2_code
def yX4_setWide : MethodName := ⟨RX4, "setWide", "(II)V"⟩
abbrev cX4_setJoined : ByteArray := prog_6_method_3_code
def yX4_setJoined : MethodName := ⟨RX4, "setJoined", "(III)V"⟩
abbrev cX4_wideOf : ByteArray := prog_6_method_4_code
def yX4_wideOf : MethodName := ⟨RX4, "wideOf", "(I)I"⟩
abbrev cX4_joinOf : ByteArray := prog_6_method_5_code
def yX4_joinOf : MethodName := ⟨RX4, "joinOf", "(II)I"⟩
def RX5 : String := "InkBars$Lines"
def TX5 : u_T := fun k => match k with
  | 0 => ("InkBars$Lines", "many", "[I", true)
  | 1 => ("InkBars$Lines", "left", "[I", true)
  | 2 => ("InkBars$Lines", "wider", "[Z", true)
  | 3 => ("InkBars$Lines", "times", "[I", true)
  | 4 => ("InkBars$Lines", "now", "[I", true)
  | 5 => ("InkBars$Lines", "broken", "Z", false)
  | 6 => ("InkBars$Lines", "least", "I", false)
  | _ => ("InkBars$Lines", "greatest", "I", false)
def tyX5 : Nat → FieldType := fun k => match k with
  | 0 => .array .int
  | 1 => .array .int
  | 2 => .array .boolean
  | 3 => .array .int
  | 4 => .array .int
  | 5 => .boolean
  | 6 => .int
  | _ => .int
theorem nmX5 : ∀ a, a < 8 → ∀ b, b < 8 → a ≠ b → (TX5 a).2.1 ≠ (TX5 b).2.1 := by decide +kernel
theorem tyX5_ok : ∀ k, k < 8 → parseFieldDescriptor (TX5 k).2.2.1 = some (tyX5 k) := by decide +kernel
abbrev cX5_init : ByteArray := prog_7_method_1_code
def yX5_init : MethodName := ⟨RX5, "<init>", "()V"⟩
abbrev cX5_broken : ByteArray := prog_7_method_2_code
def yX5_broken : MethodName := ⟨RX5, "broken", "()Z"⟩
abbrev cX5_least : ByteArray := prog_7_method_3_code
def yX5_least : MethodName := ⟨RX5, "least", "()I"⟩
abbrev cX5_greatest : ByteArray := prog_7_method_4_code
def yX5_greatest : MethodName := ⟨RX5, "greatest", "()I"⟩
abbrev cX5_read : ByteArray := prog_7_method_5_code
def yX5_read : MethodName := ⟨RX5, "read", "(LInkBars$Sheets;LInkBars$Letters;)V"⟩
abbrev cX5_readSheet : ByteArray := prog_7_method_6_code
def yX5_readSheet : MethodName := ⟨RX5, "readSheet", "(ILInkBars$Sheets;LInkBars$Letters;)V"⟩
abbrev cX5_stand : ByteArray := prog_7_method_7_code
def yX5_stand : MethodName := ⟨RX5, "stand", "(IZ)V"⟩
abbrev cX5_add : ByteArray := prog_7_method_8_code
def yX5_add : MethodName := ⟨RX5, "add", "(IZ)V"⟩
abbrev cX5_asksOfTheSame : ByteArray := prog_7_method_9_code
def yX5_asksOfTheSame : MethodName := ⟨RX5, "asksOfTheSame", "(I)Z"⟩
abbrev cX5_put : ByteArray := prog_7_method_10_code
def yX5_put : MethodName := ⟨RX5, "put", "(IIZ)V"⟩
abbrev cX5_heeds : ByteArray := prog_7_method_11_code
def yX5_heeds : MethodName := ⟨RX5, "heeds", "(I)Z"⟩
abbrev cX5_narrow : ByteArray := prog_7_method_12_code
def yX5_narrow : MethodName := ⟨RX5, "narrow", "(I[I)V"⟩
def RX6 : String := "InkBars$Names"
def TX6 : u_T := fun k => match k with
  | 0 => ("InkBars$Names", "words", "LInkBars$Words;", true)
  | 1 => ("InkBars$Names", "sorts", "[I", true)
  | 2 => ("InkBars$Names", "froms", "[I", true)
  | 3 => ("InkBars$Names", "tos", "[I", true)
  | 4 => ("InkBars$Names", "weights", "[I", true)
  | 5 => ("InkBars$Names", "aheads", "[I", true)
  | _ => ("InkBars$Names", "count", "I", false)
def tyX6 : Nat → FieldType := fun k => match k with
  | 0 => .object "InkBars$Words"
  | 1 => .array .int
  | 2 => .array .int
  | 3 => .array .int
  | 4 => .array .int
  | 5 => .array .int
  | _ => .int
theorem nmX6 : ∀ a, a < 7 → ∀ b, b < 7 → a ≠ b → (TX6 a).2.1 ≠ (TX6 b).2.1 := by decide +kernel
theorem tyX6_ok : ∀ k, k < 7 → parseFieldDescriptor (TX6 k).2.2.1 = some (tyX6 k) := by decide +kernel
abbrev cX6_init : ByteArray := prog_8_method_1_code
def yX6_init : MethodName := ⟨RX6, "<init>", "()V"⟩
abbrev cX6_count : ByteArray := prog_8_method_2_code
def yX6_count : MethodName := ⟨RX6, "count", "()I"⟩
abbrev cX6_full : ByteArray := prog_8_method_3_code
def yX6_full : MethodName := ⟨RX6, "full", "()Z"⟩
abbrev cX6_has : ByteArray := prog_8_method_4_code
def yX6_has : MethodName := ⟨RX6, "has", "(I)Z"⟩
abbrev cX6_read : ByteArray := prog_8_method_5_code
def yX6_read : MethodName := ⟨RX6, "read", "(LInkBars$Tape;I)Z"⟩
abbrev cX6_add : ByteArray := prog_8_method_6_code
def yX6_add : MethodName := ⟨RX6, "add", "(IIII)I"⟩
abbrev cX6_wide : ByteArray := prog_8_method_7_code
def yX6_wide : MethodName := ⟨RX6, "wide", "(ILInkBars$Letters;)I"⟩
abbrev cX6_length : ByteArray := prog_8_method_8_code
def yX6_length : MethodName := ⟨RX6, "length", "(I)I"⟩
abbrev cX6_first : ByteArray := prog_8_method_9_code
def yX6_first : MethodName := ⟨RX6, "first", "(I)I"⟩
abbrev cX6_vowel : ByteArray := prog_8_method_10_code
def yX6_vowel : MethodName := ⟨RX6, "vowel", "(I)Z"⟩
abbrev cX6_sort : ByteArray := prog_8_method_11_code
def yX6_sort : MethodName := ⟨RX6, "sort", "(I)I"⟩
abbrev cX6_from : ByteArray := prog_8_method_12_code
def yX6_from : MethodName := ⟨RX6, "from", "(I)I"⟩
abbrev cX6_to : ByteArray := prog_8_method_13_code
def yX6_to : MethodName := ⟨RX6, "to", "(I)I"⟩
abbrev cX6_weight : ByteArray := prog_8_method_14_code
def yX6_weight : MethodName := ⟨RX6, "weight", "(I)I"⟩
abbrev cX6_lives : ByteArray := prog_8_method_15_code
def yX6_lives : MethodName := ⟨RX6, "lives", "(II)Z"⟩
abbrev cX6_ahead : ByteArray := prog_8_method_16_code
def yX6_ahead : MethodName := ⟨RX6, "ahead", "(I)I"⟩
abbrev cX6_mates : ByteArray := prog_8_method_17_code
def yX6_mates : MethodName := ⟨RX6, "mates", "(IIZ)I"⟩
abbrev cX6_oneSort : ByteArray := prog_8_method_18_code
def yX6_oneSort : MethodName := ⟨RX6, "oneSort", "(I)I"⟩
def RX7 : String := "InkBars$Rules"
def TX7 : u_T := fun k => match k with
  | 0 => ("InkBars$Rules", "text", "[I", true)
  | 1 => ("InkBars$Rules", "draft", "[I", true)
  | 2 => ("InkBars$Rules", "facts", "[I", true)
  | 3 => ("InkBars$Rules", "length", "I", false)
  | 4 => ("InkBars$Rules", "clauses", "I", false)
  | 5 => ("InkBars$Rules", "asking", "Z", false)
  | 6 => ("InkBars$Rules", "end", "I", false)
  | 7 => ("InkBars$Rules", "at", "I", false)
  | 8 => ("InkBars$Rules", "next", "I", false)
  | 9 => ("InkBars$Rules", "fault", "I", false)
  | _ => ("InkBars$Rules", "refused", "Z", false)
def tyX7 : Nat → FieldType := fun k => match k with
  | 0 => .array .int
  | 1 => .array .int
  | 2 => .array .int
  | 3 => .int
  | 4 => .int
  | 5 => .boolean
  | 6 => .int
  | 7 => .int
  | 8 => .int
  | 9 => .int
  | _ => .boolean
theorem nmX7 : ∀ a, a < 11 → ∀ b, b < 11 → a ≠ b → (TX7 a).2.1 ≠ (TX7 b).2.1 := by decide +kernel
theorem tyX7_ok : ∀ k, k < 11 → parseFieldDescriptor (TX7 k).2.2.1 = some (tyX7 k) := by decide +kernel
abbrev cX7_init : ByteArray := prog_9_method_1_code
def yX7_init : MethodName := ⟨RX7, "<init>", "()V"⟩
abbrev cX7_clauses : ByteArray := prog_9_method_2_code
def yX7_clauses : MethodName := ⟨RX7, "clauses", "()I"⟩
abbrev cX7_tell : ByteArray := prog_9_method_3_code
def yX7_tell : MethodName := ⟨RX7, "tell", "(CI)V"⟩
abbrev cX7_take : ByteArray := prog_9_method_4_code
def yX7_take : MethodName := ⟨RX7, "take", "(LInkBars$Tape;I)I"⟩
abbrev cX7_hold : ByteArray := prog_9_method_5_code
def yX7_hold : MethodName := ⟨RX7, "hold", "(I)Z"⟩
abbrev cX7_begin : ByteArray := prog_9_method_6_code
def yX7_begin : MethodName := ⟨RX7, "begin", "(ZII)V"⟩
abbrev cX7_go : ByteArray := prog_9_method_7_code
def yX7_go : MethodName := ⟨RX7, "go", "(I)V"⟩
abbrev cX7_clause : ByteArray := prog_9_method_8_code
def yX7_clause : MethodName := ⟨RX7, "clause", "(I)V"⟩
abbrev cX7_condition : ByteArray := prog_9_method_9_code
def yX7_condition : MethodName := ⟨RX7, "condition", "(IZ)Z"⟩
abbrev cX7_part : ByteArray := prog_9_method_10_code
def yX7_part : MethodName := ⟨RX7, "part", "(IZ)Z"⟩
abbrev cX7_piece : ByteArray := prog_9_method_11_code
def yX7_piece : MethodName := ⟨RX7, "piece", "(IZ)Z"⟩
abbrev cX7_nested : ByteArray := prog_9_method_12_code
def yX7_nested : MethodName := ⟨RX7, "nested", "(IZ)Z"⟩
abbrev cX7_sum : ByteArray := prog_9_method_13_code
def yX7_sum : MethodName := ⟨RX7, "sum", "(IZ)I"⟩
abbrev cX7_product : ByteArray := prog_9_method_14_code
def yX7_product : MethodName := ⟨RX7, "product", "(IZ)I"⟩
abbrev cX7_factor : ByteArray := prog_9_method_15_code
def yX7_factor : MethodName := ⟨RX7, "factor", "(IZ)I"⟩
abbrev cX7_isFact : ByteArray := prog_9_method_16_code
def yX7_isFact : MethodName := ⟨RX7, "isFact", "(I)Z"⟩
def RX8 : String := "InkBars$Sheets"
def TX8 : u_T := fun k => match k with
  | 0 => ("InkBars$Sheets", "words", "LInkBars$Words;", true)
  | 1 => ("InkBars$Sheets", "bars", "[I", true)
  | 2 => ("InkBars$Sheets", "begins", "[Z", true)
  | 3 => ("InkBars$Sheets", "setBegins", "[Z", true)
  | 4 => ("InkBars$Sheets", "wides", "[I", true)
  | 5 => ("InkBars$Sheets", "tokens", "[I", true)
  | 6 => ("InkBars$Sheets", "notes", "[I", true)
  | 7 => ("InkBars$Sheets", "count", "I", false)
  | 8 => ("InkBars$Sheets", "read", "I", false)
  | 9 => ("InkBars$Sheets", "behindA", "I", false)
  | _ => ("InkBars$Sheets", "behindAn", "I", false)
def tyX8 : Nat → FieldType := fun k => match k with
  | 0 => .object "InkBars$Words"
  | 1 => .array .int
  | 2 => .array .boolean
  | 3 => .array .boolean
  | 4 => .array .int
  | 5 => .array .int
  | 6 => .array .int
  | 7 => .int
  | 8 => .int
  | 9 => .int
  | _ => .int
theorem nmX8 : ∀ a, a < 11 → ∀ b, b < 11 → a ≠ b → (TX8 a).2.1 ≠ (TX8 b).2.1 := by decide +kernel
theorem tyX8_ok : ∀ k, k < 11 → parseFieldDescriptor (TX8 k).2.2.1 = some (tyX8 k) := by decide +kernel
abbrev cX8_init : ByteArray := prog_10_method_1_code
def yX8_init : MethodName := ⟨RX8, "<init>", "()V"⟩
abbrev cX8_count : ByteArray := prog_10_method_2_code
def yX8_count : MethodName := ⟨RX8, "count", "()I"⟩
abbrev cX8_full : ByteArray := prog_10_method_3_code
def yX8_full : MethodName := ⟨RX8, "full", "()Z"⟩
abbrev cX8_has : ByteArray := prog_10_method_4_code
def yX8_has : MethodName := ⟨RX8, "has", "(I)Z"⟩
abbrev cX8_read : ByteArray := prog_10_method_5_code
def yX8_read : MethodName := ⟨RX8, "read", "(LInkBars$Tape;II)I"⟩
abbrev cX8_beginToken : ByteArray := prog_10_method_6_code
def yX8_beginToken : MethodName := ⟨RX8, "beginToken", "(IZI)I"⟩
abbrev cX8_add : ByteArray := prog_10_method_7_code
def yX8_add : MethodName := ⟨RX8, "add", "(I)I"⟩
abbrev cX8_heedArticle : ByteArray := prog_10_method_8_code
def yX8_heedArticle : MethodName := ⟨RX8, "heedArticle", "(II)V"⟩
abbrev cX8_isBehindA : ByteArray := prog_10_method_9_code
def yX8_isBehindA : MethodName := ⟨RX8, "isBehindA", "(I)Z"⟩
abbrev cX8_isBehindAn : ByteArray := prog_10_method_10_code
def yX8_isBehindAn : MethodName := ⟨RX8, "isBehindAn", "(I)Z"⟩
abbrev cX8_slot : ByteArray := prog_10_method_11_code
def yX8_slot : MethodName := ⟨RX8, "slot", "(II)I"⟩
abbrev cX8_stands : ByteArray := prog_10_method_12_code
def yX8_stands : MethodName := ⟨RX8, "stands", "(II)Z"⟩
abbrev cX8_tokens : ByteArray := prog_10_method_13_code
def yX8_tokens : MethodName := ⟨RX8, "tokens", "(I)I"⟩
abbrev cX8_allTokens : ByteArray := prog_10_method_14_code
def yX8_allTokens : MethodName := ⟨RX8, "allTokens", "(I)I"⟩
abbrev cX8_wide : ByteArray := prog_10_method_15_code
def yX8_wide : MethodName := ⟨RX8, "wide", "(I)I"⟩
abbrev cX8_barAt : ByteArray := prog_10_method_16_code
def yX8_barAt : MethodName := ⟨RX8, "barAt", "(II)I"⟩
abbrev cX8_begins : ByteArray := prog_10_method_17_code
def yX8_begins : MethodName := ⟨RX8, "begins", "(II)Z"⟩
abbrev cX8_wordWide : ByteArray := prog_10_method_18_code
def yX8_wordWide : MethodName := ⟨RX8, "wordWide", "(IILInkBars$Letters;)I"⟩
abbrev cX8_lines : ByteArray := prog_10_method_19_code
def yX8_lines : MethodName := ⟨RX8, "lines", "(I)I"⟩
abbrev cX8_set : ByteArray := prog_10_method_20_code
def yX8_set : MethodName := ⟨RX8, "set", "(I[ILInkBars$Letters;)V"⟩
abbrev cX8_setLine : ByteArray := prog_10_method_21_code
def yX8_setLine : MethodName := ⟨RX8, "setLine", "(II)I"⟩
abbrev cX8_breaksOtherwise : ByteArray := prog_10_method_22_code
def yX8_breaksOtherwise : MethodName := ⟨RX8, "breaksOtherwise", "(I)Z"⟩
abbrev cX8_takesNote : ByteArray := prog_10_method_23_code
def yX8_takesNote : MethodName := ⟨RX8, "takesNote", "(II)Z"⟩
abbrev cX8_addNote : ByteArray := prog_10_method_24_code
def yX8_addNote : MethodName := ⟨RX8, "addNote", "(II)V"⟩
abbrev cX8_notes : ByteArray := prog_10_method_25_code
def yX8_notes : MethodName := ⟨RX8, "notes", "()I"⟩
abbrev cX8_misses : ByteArray := prog_10_method_26_code
def yX8_misses : MethodName := ⟨RX8, "misses", "(I)Z"⟩
abbrev cX8_noteBelow : ByteArray := prog_10_method_27_code
def yX8_noteBelow : MethodName := ⟨RX8, "noteBelow", "(I)I"⟩
abbrev cX8_noteAbove : ByteArray := prog_10_method_28_code
def yX8_noteAbove : MethodName := ⟨RX8, "noteAbove", "(I)I"⟩
def RX9 : String := "InkBars$Tape"
def TX9 : u_T := fun k => match k with
  | 0 => ("InkBars$Tape", "bytes", "[I", true)
  | _ => ("InkBars$Tape", "length", "I", false)
def tyX9 : Nat → FieldType := fun k => match k with
  | 0 => .array .int
  | _ => .int
theorem nmX9 : ∀ a, a < 2 → ∀ b, b < 2 → a ≠ b → (TX9 a).2.1 ≠ (TX9 b).2.1 := by decide +kernel
theorem tyX9_ok : ∀ k, k < 2 → parseFieldDescriptor (TX9 k).2.2.1 = some (tyX9 k) := by decide +kernel
abbrev cX9_init : ByteArray := prog_11_method_1_code
def yX9_init : MethodName := ⟨RX9, "<init>", "()V"⟩
abbrev cX9_length : ByteArray := prog_11_method_2_code
def yX9_length : MethodName := ⟨RX9, "length", "()I"⟩
abbrev cX9_takes : ByteArray := prog_11_method_3_code
def yX9_takes : MethodName := ⟨RX9, "takes", "(I)Z"⟩
abbrev cX9_push : ByteArray := prog_11_method_4_code
def yX9_push : MethodName := ⟨RX9, "push", "(I)V"⟩
abbrev cX9_at : ByteArray := prog_11_method_5_code
def yX9_at : MethodName := ⟨RX9, "at", "(I)I"⟩
abbrev cX9_number : ByteArray := prog_11_method_6_code
def yX9_number : MethodName := ⟨RX9, "number", "(I)I"⟩
abbrev cX9_clear : ByteArray := prog_11_method_7_code
def yX9_clear : MethodName := ⟨RX9, "clear", "()V"⟩
def RX10 : String := "InkBars$Words"
def TX10 : u_T := fun k => match k with
  | 0 => ("InkBars$Words", "room", "I", true)
  | 1 => ("InkBars$Words", "signs", "[I", true)
  | _ => ("InkBars$Words", "lengths", "[I", true)
def tyX10 : Nat → FieldType := fun k => match k with
  | 0 => .int
  | 1 => .array .int
  | _ => .array .int
theorem nmX10 : ∀ a, a < 3 → ∀ b, b < 3 → a ≠ b → (TX10 a).2.1 ≠ (TX10 b).2.1 := by decide +kernel
theorem tyX10_ok : ∀ k, k < 3 → parseFieldDescriptor (TX10 k).2.2.1 = some (tyX10 k) := by decide +kernel
abbrev cX10_init : ByteArray := prog_12_method_1_code
def yX10_init : MethodName := ⟨RX10, "<init>", "(I)V"⟩
abbrev cX10_stands : ByteArray := prog_12_method_2_code
def yX10_stands : MethodName := ⟨RX10, "stands", "(I)Z"⟩
abbrev cX10_wipe : ByteArray := prog_12_method_3_code
def yX10_wipe : MethodName := ⟨RX10, "wipe", "(I)V"⟩
abbrev cX10_grow : ByteArray := prog_12_method_4_code
def yX10_grow : MethodName := ⟨RX10, "grow", "(II)Z"⟩
abbrev cX10_length : ByteArray := prog_12_method_5_code
def yX10_length : MethodName := ⟨RX10, "length", "(I)I"⟩
abbrev cX10_letter : ByteArray := prog_12_method_6_code
def yX10_letter : MethodName := ⟨RX10, "letter", "(II)I"⟩
abbrev cX10_wide : ByteArray := prog_12_method_7_code
def yX10_wide : MethodName := ⟨RX10, "wide", "(ILInkBars$Letters;)I"⟩
abbrev cX10_compare : ByteArray := prog_12_method_8_code
def yX10_compare : MethodName := ⟨RX10, "compare", "(II)I"⟩
def RX11 : String := "InkBars"
def TX11 : u_T := fun k => match k with
  | 0 => ("InkBars", "tape", "LInkBars$Tape;", true)
  | 1 => ("InkBars", "letters", "LInkBars$Letters;", true)
  | 2 => ("InkBars", "names", "LInkBars$Names;", true)
  | 3 => ("InkBars", "bars", "LInkBars$Bars;", true)
  | 4 => ("InkBars", "sheets", "LInkBars$Sheets;", true)
  | 5 => ("InkBars", "rules", "LInkBars$Rules;", true)
  | 6 => ("InkBars", "habits", "LInkBars$Habits;", true)
  | 7 => ("InkBars", "copies", "LInkBars$Copies;", true)
  | 8 => ("InkBars", "fillings", "LInkBars$Fillings;", true)
  | 9 => ("InkBars", "alone", "[I", true)
  | 10 => ("InkBars", "under", "[I", true)
  | 11 => ("InkBars", "barWides", "[I", true)
  | 12 => ("InkBars", "theHouse", "I", false)
  | 13 => ("InkBars", "prepared", "Z", false)
  | _ => ("InkBars", "weighed", "Z", false)
def tyX11 : Nat → FieldType := fun k => match k with
  | 0 => .object "InkBars$Tape"
  | 1 => .object "InkBars$Letters"
  | 2 => .object "InkBars$Names"
  | 3 => .object "InkBars$Bars"
  | 4 => .object "InkBars$Sheets"
  | 5 => .object "InkBars$Rules"
  | 6 => .object "InkBars$Habits"
  | 7 => .object "InkBars$Copies"
  | 8 => .object "InkBars$Fillings"
  | 9 => .array .int
  | 10 => .array .int
  | 11 => .array .int
  | 12 => .int
  | 13 => .boolean
  | _ => .boolean
theorem nmX11 : ∀ a, a < 15 → ∀ b, b < 15 → a ≠ b → (TX11 a).2.1 ≠ (TX11 b).2.1 := by decide +kernel
theorem tyX11_ok : ∀ k, k < 15 → parseFieldDescriptor (TX11 k).2.2.1 = some (tyX11 k) := by decide +kernel
abbrev cX11_init : ByteArray := prog_1_method_1_code
def yX11_init : MethodName := ⟨RX11, "<init>", "()V"⟩
abbrev cX11_width : ByteArray := prog_1_method_2_code
def yX11_width : MethodName := ⟨RX11, "width", "(II)Z"⟩
abbrev cX11_joined : ByteArray := prog_1_method_3_code
def yX11_joined : MethodName := ⟨RX11, "joined", "(III)Z"⟩
abbrev cX11_feed : ByteArray := prog_1_method_4_code
def yX11_feed : MethodName := ⟨RX11, "feed", "(IIIII)I"⟩
abbrev cX11_name : ByteArray := prog_1_method_5_code
def yX11_name : MethodName := ⟨RX11, "name", "(IIIII)I"⟩
abbrev cX11_wide : ByteArray := prog_1_method_6_code
def yX11_wide : MethodName := ⟨RX11, "wide", "(I)I"⟩
abbrev cX11_bar : ByteArray := prog_1_method_7_code
def yX11_bar : MethodName := ⟨RX11, "bar", "(III)I"⟩
abbrev cX11_sheet : ByteArray := prog_1_method_8_code
def yX11_sheet : MethodName := ⟨RX11, "sheet", "(II)I"⟩
abbrev cX11_rules : ByteArray := prog_1_method_9_code
def yX11_rules : MethodName := ⟨RX11, "rules", "(I)I"⟩
abbrev cX11_tie : ByteArray := prog_1_method_10_code
def yX11_tie : MethodName := ⟨RX11, "tie", "(III)Z"⟩
abbrev cX11_listed : ByteArray := prog_1_method_11_code
def yX11_listed : MethodName := ⟨RX11, "listed", "(III)Z"⟩
abbrev cX11_lifted : ByteArray := prog_1_method_12_code
def yX11_lifted : MethodName := ⟨RX11, "lifted", "(III)Z"⟩
abbrev cX11_habit : ByteArray := prog_1_method_13_code
def yX11_habit : MethodName := ⟨RX11, "habit", "(II)I"⟩
abbrev cX11_house : ByteArray := prog_1_method_14_code
def yX11_house : MethodName := ⟨RX11, "house", "(I)Z"⟩
abbrev cX11_against : ByteArray := prog_1_method_15_code
def yX11_against : MethodName := ⟨RX11, "against", "(II)I"⟩
abbrev cX11_judge : ByteArray := prog_1_method_16_code
def yX11_judge : MethodName := ⟨RX11, "judge", "(I)I"⟩
abbrev cX11_line : ByteArray := prog_1_method_17_code
def yX11_line : MethodName := ⟨RX11, "line", "(III)I"⟩
abbrev cX11_fillings : ByteArray := prog_1_method_18_code
def yX11_fillings : MethodName := ⟨RX11, "fillings", "(I)I"⟩
abbrev cX11_may : ByteArray := prog_1_method_19_code
def yX11_may : MethodName := ⟨RX11, "may", "(I)I"⟩
abbrev cX11_odds : ByteArray := prog_1_method_20_code
def yX11_odds : MethodName := ⟨RX11, "odds", "(II)J"⟩
abbrev cX11_given : ByteArray := prog_1_method_21_code
def yX11_given : MethodName := ⟨RX11, "given", "()I"⟩
abbrev cX11_kept : ByteArray := prog_1_method_22_code
def yX11_kept : MethodName := ⟨RX11, "kept", "(I)I"⟩
abbrev cX11_said : ByteArray := prog_1_method_23_code
def yX11_said : MethodName := ⟨RX11, "said", "(III)I"⟩
abbrev cX11_copy : ByteArray := prog_1_method_24_code
def yX11_copy : MethodName := ⟨RX11, "copy", "(IIII)I"⟩
abbrev cX11_open : ByteArray := prog_1_method_25_code
def yX11_open : MethodName := ⟨RX11, "open", "(II)I"⟩
abbrev cX11_needless : ByteArray := prog_1_method_26_code
def yX11_needless : MethodName := ⟨RX11, "needless", "(I)I"⟩
abbrev cX11_since : ByteArray := prog_1_method_27_code
def yX11_since : MethodName := ⟨RX11, "since", "(II)I"⟩
abbrev cX11_twice : ByteArray := prog_1_method_28_code
def yX11_twice : MethodName := ⟨RX11, "twice", "(II)I"⟩
abbrev cX11_stricter : ByteArray := prog_1_method_29_code
def yX11_stricter : MethodName := ⟨RX11, "stricter", "(II)I"⟩
abbrev cX11_note : ByteArray := prog_1_method_30_code
def yX11_note : MethodName := ⟨RX11, "note", "(II)Z"⟩
abbrev cX11_missing : ByteArray := prog_1_method_31_code
def yX11_missing : MethodName := ⟨RX11, "missing", "(II)I"⟩
abbrev cX11_check : ByteArray := prog_1_method_32_code
def yX11_check : MethodName := ⟨RX11, "check", "(II)I"⟩
abbrev cX11_count : ByteArray := prog_1_method_33_code
def yX11_count : MethodName := ⟨RX11, "count", "(I)I"⟩
abbrev cX11_within : ByteArray := prog_1_method_34_code
def yX11_within : MethodName := ⟨RX11, "within", "(III)Z"⟩
abbrev cX11_isHouse : ByteArray := prog_1_method_35_code
def yX11_isHouse : MethodName := ⟨RX11, "isHouse", "(I)Z"⟩
abbrev cX11_isDay : ByteArray := prog_1_method_36_code
def yX11_isDay : MethodName := ⟨RX11, "isDay", "(I)Z"⟩
abbrev cX11_isLetter : ByteArray := prog_1_method_37_code
def yX11_isLetter : MethodName := ⟨RX11, "isLetter", "(I)Z"⟩
abbrev cX11_isDigit : ByteArray := prog_1_method_38_code
def yX11_isDigit : MethodName := ⟨RX11, "isDigit", "(I)Z"⟩
abbrev cX11_bit : ByteArray := prog_1_method_39_code
def yX11_bit : MethodName := ⟨RX11, "bit", "(II)Z"⟩
abbrev cX11_changed : ByteArray := prog_1_method_40_code
def yX11_changed : MethodName := ⟨RX11, "changed", "()V"⟩
abbrev cX11_inkReason : ByteArray := prog_1_method_41_code
def yX11_inkReason : MethodName := ⟨RX11, "inkReason", "(II)I"⟩
abbrev cX11_reasonsButInk : ByteArray := prog_1_method_42_code
def yX11_reasonsButInk : MethodName := ⟨RX11, "reasonsButInk", "(II)I"⟩
abbrev cX11_tellFacts : ByteArray := prog_1_method_43_code
def yX11_tellFacts : MethodName := ⟨RX11, "tellFacts", "(IIZ)V"⟩
abbrev cX11_lay : ByteArray := prog_1_method_44_code
def yX11_lay : MethodName := ⟨RX11, "lay", "(I)Z"⟩
abbrev cX11_tiesReason : ByteArray := prog_1_method_45_code
def yX11_tiesReason : MethodName := ⟨RX11, "tiesReason", "()I"⟩
abbrev cX11_linesReason : ByteArray := prog_1_method_46_code
def yX11_linesReason : MethodName := ⟨RX11, "linesReason", "()I"⟩
abbrev cX11_prepare : ByteArray := prog_1_method_47_code
def yX11_prepare : MethodName := ⟨RX11, "prepare", "()V"⟩
abbrev cX11_fit : ByteArray := prog_1_method_48_code
def yX11_fit : MethodName := ⟨RX11, "fit", "(III)V"⟩
abbrev cX11_countWithout : ByteArray := prog_1_method_49_code
def yX11_countWithout : MethodName := ⟨RX11, "countWithout", "(I)I"⟩
abbrev cX11_weigh : ByteArray := prog_1_method_50_code
def yX11_weigh : MethodName := ⟨RX11, "weigh", "()V"⟩
abbrev cX11_keeps : ByteArray := prog_1_method_51_code
def yX11_keeps : MethodName := ⟨RX11, "keeps", "(II)Z"⟩
abbrev cX11_firstWrong : ByteArray := prog_1_method_52_code
def yX11_firstWrong : MethodName := ⟨RX11, "firstWrong", "(II)I"⟩
def RX12 : String := "InkBarsModel"
def TX12 : u_T := fun k => match k with
  | 0 => ("InkBarsModel", "tape", "[B", true)
  | 1 => ("InkBarsModel", "taped", "I", false)
  | 2 => ("InkBarsModel", "names", "I", false)
  | 3 => ("InkBarsModel", "bars", "I", false)
  | 4 => ("InkBarsModel", "sheets", "I", false)
  | 5 => ("InkBarsModel", "clauses", "I", false)
  | 6 => ("InkBarsModel", "ties", "I", false)
  | 7 => ("InkBarsModel", "lists", "I", false)
  | 8 => ("InkBarsModel", "liftedMany", "I", false)
  | 9 => ("InkBarsModel", "copies", "I", false)
  | 10 => ("InkBarsModel", "notes", "I", false)
  | 11 => ("InkBarsModel", "theHouse", "I", false)
  | 12 => ("InkBarsModel", "width", "[I", true)
  | 13 => ("InkBarsModel", "join", "[I", true)
  | 14 => ("InkBarsModel", "nameLetters", "[B", true)
  | 15 => ("InkBarsModel", "nameSize", "[I", true)
  | 16 => ("InkBarsModel", "sort", "[I", true)
  | 17 => ("InkBarsModel", "yearFrom", "[I", true)
  | 18 => ("InkBarsModel", "yearTo", "[I", true)
  | 19 => ("InkBarsModel", "weight", "[I", true)
  | 20 => ("InkBarsModel", "ink", "[I", true)
  | 21 => ("InkBarsModel", "barYear", "[I", true)
  | 22 => ("InkBarsModel", "barSorts", "[I", true)
  | 23 => ("InkBarsModel", "sheetWide", "[I", true)
  | 24 => ("InkBarsModel", "tokens", "[I", true)
  | 25 => ("InkBarsModel", "sheetText", "[B", true)
  | 26 => ("InkBarsModel", "tokenBar", "[I", true)
  | 27 => ("InkBarsModel", "tokenFrom", "[I", true)
  | 28 => ("InkBarsModel", "tokenTo", "[I", true)
  | 29 => ("InkBarsModel", "isBreak", "[Z", true)
  | 30 => ("InkBarsModel", "place", "I", false)
  | 31 => ("InkBarsModel", "end", "I", false)
  | 32 => ("InkBarsModel", "bad", "I", false)
  | 33 => ("InkBarsModel", "under", "[I", true)
  | 34 => ("InkBarsModel", "lineMany", "I", false)
  | 35 => ("InkBarsModel", "lineAt", "[I", true)
  | 36 => ("InkBarsModel", "clauseBar", "[I", true)
  | 37 => ("InkBarsModel", "codeFrom", "[I", true)
  | 38 => ("InkBarsModel", "codeTo", "[I", true)
  | 39 => ("InkBarsModel", "code", "[I", true)
  | 40 => ("InkBarsModel", "codeArg", "[I", true)
  | 41 => ("InkBarsModel", "newBar", "[I", true)
  | 42 => ("InkBarsModel", "newFrom", "[I", true)
  | 43 => ("InkBarsModel", "newTo", "[I", true)
  | 44 => ("InkBarsModel", "newCode", "[I", true)
  | 45 => ("InkBarsModel", "newArg", "[I", true)
  | 46 => ("InkBarsModel", "many", "I", false)
  | 47 => ("InkBarsModel", "codes", "I", false)
  | 48 => ("InkBarsModel", "opened", "I", false)
  | 49 => ("InkBarsModel", "stacked", "I", false)
  | 50 => ("InkBarsModel", "isOver", "Z", false)
  | 51 => ("InkBarsModel", "isBehind", "Z", false)
  | 52 => ("InkBarsModel", "stack", "[I", true)
  | 53 => ("InkBarsModel", "askedBar", "I", false)
  | 54 => ("InkBarsModel", "askedName", "I", false)
  | 55 => ("InkBarsModel", "value", "[I", true)
  | 56 => ("InkBarsModel", "isRefused", "[Z", true)
  | 57 => ("InkBarsModel", "tieSort", "[I", true)
  | 58 => ("InkBarsModel", "tieX", "[I", true)
  | 59 => ("InkBarsModel", "tieY", "[I", true)
  | 60 => ("InkBarsModel", "listBar", "[I", true)
  | 61 => ("InkBarsModel", "listA", "[I", true)
  | 62 => ("InkBarsModel", "listB", "[I", true)
  | 63 => ("InkBarsModel", "liftHouse", "[I", true)
  | 64 => ("InkBarsModel", "liftName", "[I", true)
  | 65 => ("InkBarsModel", "liftInk", "[I", true)
  | 66 => ("InkBarsModel", "reasons", "[I", true)
  | 67 => ("InkBarsModel", "fillings", "I", false)
  | 68 => ("InkBarsModel", "found", "I", false)
  | 69 => ("InkBarsModel", "allWorth", "J", false)
  | 70 => ("InkBarsModel", "worth", "[J", true)
  | 71 => ("InkBarsModel", "leastHabit", "[I", true)
  | 72 => ("InkBarsModel", "copySheet", "[I", true)
  | 73 => ("InkBarsModel", "copyDay", "[I", true)
  | 74 => ("InkBarsModel", "copyHouse", "[I", true)
  | 75 => ("InkBarsModel", "copyCovered", "[I", true)
  | _ => ("InkBarsModel", "noteIn", "[I", true)
def tyX12 : Nat → FieldType := fun k => match k with
  | 0 => .array .byte
  | 1 => .int
  | 2 => .int
  | 3 => .int
  | 4 => .int
  | 5 => .int
  | 6 => .int
  | 7 => .int
  | 8 => .int
  | 9 => .int
  | 10 => .int
  | 11 => .int
  | 12 => .array .int
  | 13 => .array .int
  | 14 => .array .byte
  | 15 => .array .int
  | 16 => .array .int
  | 17 => .array .int
  | 18 => .array .int
  | 19 => .array .int
  | 20 => .array .int
  | 21 => .array .int
  | 22 => .array .int
  | 23 => .array .int
  | 24 => .array .int
  | 25 => .array .byte
  | 26 => .array .int
  | 27 => .array .int
  | 28 => .array .int
  | 29 => .array .boolean
  | 30 => .int
  | 31 => .int
  | 32 => .int
  | 33 => .array .int
  | 34 => .int
  | 35 => .array .int
  | 36 => .array .int
  | 37 => .array .int
  | 38 => .array .int
  | 39 => .array .int
  | 40 => .array .int
  | 41 => .array .int
  | 42 => .array .int
  | 43 => .array .int
  | 44 => .array .int
  | 45 => .array .int
  | 46 => .int
  | 47 => .int
  | 48 => .int
  | 49 => .int
  | 50 => .boolean
  | 51 => .boolean
  | 52 => .array .int
  | 53 => .int
  | 54 => .int
  | 55 => .array .int
  | 56 => .array .boolean
  | 57 => .array .int
  | 58 => .array .int
  | 59 => .array .int
  | 60 => .array .int
  | 61 => .array .int
  | 62 => .array .int
  | 63 => .array .int
  | 64 => .array .int
  | 65 => .array .int
  | 66 => .array .int
  | 67 => .int
  | 68 => .int
  | 69 => .long
  | 70 => .array .long
  | 71 => .array .int
  | 72 => .array .int
  | 73 => .array .int
  | 74 => .array .int
  | 75 => .array .int
  | _ => .array .int
theorem nmX12 : ∀ a, a < 77 → ∀ b, b < 77 → a ≠ b → (TX12 a).2.1 ≠ (TX12 b).2.1 := by decide +kernel
theorem tyX12_ok : ∀ k, k < 77 → parseFieldDescriptor (TX12 k).2.2.1 = some (tyX12 k) := by decide +kernel
abbrev cX12_init : ByteArray := prog_14_method_1_code
def yX12_init : MethodName := ⟨RX12, "<init>", "()V"⟩
abbrev cX12_lies : ByteArray := prog_14_method_2_code
def yX12_lies : MethodName := ⟨RX12, "lies", "(JJJ)Z"⟩
abbrev cX12_has : ByteArray := prog_14_method_3_code
def yX12_has : MethodName := ⟨RX12, "has", "(II)Z"⟩
abbrev cX12_sizeOf : ByteArray := prog_14_method_4_code
def yX12_sizeOf : MethodName := ⟨RX12, "sizeOf", "(I)I"⟩
abbrev cX12_isName : ByteArray := prog_14_method_5_code
def yX12_isName : MethodName := ⟨RX12, "isName", "(I)Z"⟩
abbrev cX12_isBar : ByteArray := prog_14_method_6_code
def yX12_isBar : MethodName := ⟨RX12, "isBar", "(I)Z"⟩
abbrev cX12_isSheet : ByteArray := prog_14_method_7_code
def yX12_isSheet : MethodName := ⟨RX12, "isSheet", "(I)Z"⟩
abbrev cX12_isHouse : ByteArray := prog_14_method_8_code
def yX12_isHouse : MethodName := ⟨RX12, "isHouse", "(I)Z"⟩
abbrev cX12_width : ByteArray := prog_14_method_9_code
def yX12_width : MethodName := ⟨RX12, "width", "(II)Z"⟩
abbrev cX12_joined : ByteArray := prog_14_method_10_code
def yX12_joined : MethodName := ⟨RX12, "joined", "(III)Z"⟩
abbrev cX12_push : ByteArray := prog_14_method_11_code
def yX12_push : MethodName := ⟨RX12, "push", "(I)V"⟩
abbrev cX12_feed : ByteArray := prog_14_method_12_code
def yX12_feed : MethodName := ⟨RX12, "feed", "(IIIII)I"⟩
abbrev cX12_isLetter : ByteArray := prog_14_method_13_code
def yX12_isLetter : MethodName := ⟨RX12, "isLetter", "(I)Z"⟩
abbrev cX12_isDigit : ByteArray := prog_14_method_14_code
def yX12_isDigit : MethodName := ⟨RX12, "isDigit", "(I)Z"⟩
abbrev cX12_compared : ByteArray := prog_14_method_15_code
def yX12_compared : MethodName := ⟨RX12, "compared", "(II)I"⟩
abbrev cX12_name : ByteArray := prog_14_method_16_code
def yX12_name : MethodName := ⟨RX12, "name", "(IIIII)I"⟩
abbrev cX12_wideOf : ByteArray := prog_14_method_17_code
def yX12_wideOf : MethodName := ⟨RX12, "wideOf", "(I)I"⟩
abbrev cX12_wide : ByteArray := prog_14_method_18_code
def yX12_wide : MethodName := ⟨RX12, "wide", "(I)I"⟩
abbrev cX12_bar : ByteArray := prog_14_method_19_code
def yX12_bar : MethodName := ⟨RX12, "bar", "(III)I"⟩
abbrev cX12_here : ByteArray := prog_14_method_20_code
def yX12_here : MethodName := ⟨RX12, "here", "()I"⟩
abbrev cX12_wrongs : ByteArray := prog_14_method_21_code
def yX12_wrongs : MethodName := ⟨RX12, "wrongs", "(II)V"⟩
abbrev cX12_isGood : ByteArray := prog_14_method_22_code
def yX12_isGood : MethodName := ⟨RX12, "isGood", "()Z"⟩
abbrev cX12_token : ByteArray := prog_14_method_23_code
def yX12_token : MethodName := ⟨RX12, "token", "(II)V"⟩
abbrev cX12_sheet : ByteArray := prog_14_method_24_code
def yX12_sheet : MethodName := ⟨RX12, "sheet", "(II)I"⟩
abbrev cX12_wideOfToken : ByteArray := prog_14_method_25_code
def yX12_wideOfToken : MethodName := ⟨RX12, "wideOfToken", "(II)I"⟩
abbrev cX12_sets : ByteArray := prog_14_method_26_code
def yX12_sets : MethodName := ⟨RX12, "sets", "(I)V"⟩
abbrev cX12_breaksSo : ByteArray := prog_14_method_27_code
def yX12_breaksSo : MethodName := ⟨RX12, "breaksSo", "(I)Z"⟩
abbrev cX12_emit : ByteArray := prog_14_method_28_code
def yX12_emit : MethodName := ⟨RX12, "emit", "(II)V"⟩
abbrev cX12_top : ByteArray := prog_14_method_29_code
def yX12_top : MethodName := ⟨RX12, "top", "()I"⟩
abbrev cX12_puts : ByteArray := prog_14_method_30_code
def yX12_puts : MethodName := ⟨RX12, "puts", "(I)V"⟩
abbrev cX12_opens : ByteArray := prog_14_method_31_code
def yX12_opens : MethodName := ⟨RX12, "opens", "()V"⟩
abbrev cX12_reads : ByteArray := prog_14_method_32_code
def yX12_reads : MethodName := ⟨RX12, "reads", "()I"⟩
abbrev cX12_isTimes : ByteArray := prog_14_method_33_code
def yX12_isTimes : MethodName := ⟨RX12, "isTimes", "(I)Z"⟩
abbrev cX12_isPlus : ByteArray := prog_14_method_34_code
def yX12_isPlus : MethodName := ⟨RX12, "isPlus", "(I)Z"⟩
abbrev cX12_isSign : ByteArray := prog_14_method_35_code
def yX12_isSign : MethodName := ⟨RX12, "isSign", "(I)Z"⟩
abbrev cX12_isValue : ByteArray := prog_14_method_36_code
def yX12_isValue : MethodName := ⟨RX12, "isValue", "(I)Z"⟩
abbrev cX12_sums : ByteArray := prog_14_method_37_code
def yX12_sums : MethodName := ⟨RX12, "sums", "(Z)V"⟩
abbrev cX12_joins : ByteArray := prog_14_method_38_code
def yX12_joins : MethodName := ⟨RX12, "joins", "(Z)V"⟩
abbrev cX12_ends : ByteArray := prog_14_method_39_code
def yX12_ends : MethodName := ⟨RX12, "ends", "()V"⟩
abbrev cX12_factor : ByteArray := prog_14_method_40_code
def yX12_factor : MethodName := ⟨RX12, "factor", "()V"⟩
abbrev cX12_goesOn : ByteArray := prog_14_method_41_code
def yX12_goesOn : MethodName := ⟨RX12, "goesOn", "()Z"⟩
abbrev cX12_pieceOfC : ByteArray := prog_14_method_42_code
def yX12_pieceOfC : MethodName := ⟨RX12, "pieceOfC", "()V"⟩
abbrev cX12_goesBehind : ByteArray := prog_14_method_43_code
def yX12_goesBehind : MethodName := ⟨RX12, "goesBehind", "()Z"⟩
abbrev cX12_condition : ByteArray := prog_14_method_44_code
def yX12_condition : MethodName := ⟨RX12, "condition", "()V"⟩
abbrev cX12_clause : ByteArray := prog_14_method_45_code
def yX12_clause : MethodName := ⟨RX12, "clause", "()V"⟩
abbrev cX12_rules : ByteArray := prog_14_method_46_code
def yX12_rules : MethodName := ⟨RX12, "rules", "(I)I"⟩
abbrev cX12_isVowel : ByteArray := prog_14_method_47_code
def yX12_isVowel : MethodName := ⟨RX12, "isVowel", "(I)Z"⟩
abbrev cX12_valueOf : ByteArray := prog_14_method_48_code
def yX12_valueOf : MethodName := ⟨RX12, "valueOf", "(I)I"⟩
abbrev cX12_worked : ByteArray := prog_14_method_49_code
def yX12_worked : MethodName := ⟨RX12, "worked", "(III)I"⟩
abbrev cX12_does : ByteArray := prog_14_method_50_code
def yX12_does : MethodName := ⟨RX12, "does", "(II)V"⟩
abbrev cX12_holds : ByteArray := prog_14_method_51_code
def yX12_holds : MethodName := ⟨RX12, "holds", "(I)Z"⟩
abbrev cX12_tie : ByteArray := prog_14_method_52_code
def yX12_tie : MethodName := ⟨RX12, "tie", "(III)Z"⟩
abbrev cX12_listed : ByteArray := prog_14_method_53_code
def yX12_listed : MethodName := ⟨RX12, "listed", "(III)Z"⟩
abbrev cX12_lifted : ByteArray := prog_14_method_54_code
def yX12_lifted : MethodName := ⟨RX12, "lifted", "(III)Z"⟩
abbrev cX12_habitOf : ByteArray := prog_14_method_55_code
def yX12_habitOf : MethodName := ⟨RX12, "habitOf", "(IZ)I"⟩
abbrev cX12_habit : ByteArray := prog_14_method_56_code
def yX12_habit : MethodName := ⟨RX12, "habit", "(II)I"⟩
abbrev cX12_house : ByteArray := prog_14_method_57_code
def yX12_house : MethodName := ⟨RX12, "house", "(I)Z"⟩
abbrev cX12_isWord : ByteArray := prog_14_method_58_code
def yX12_isWord : MethodName := ⟨RX12, "isWord", "(IIZ)Z"⟩
abbrev cX12_isAgainstGrammar : ByteArray := prog_14_method_59_code
def yX12_isAgainstGrammar : MethodName := ⟨RX12, "isAgainstGrammar", "(II)Z"⟩
abbrev cX12_isAgainstRules : ByteArray := prog_14_method_60_code
def yX12_isAgainstRules : MethodName := ⟨RX12, "isAgainstRules", "(II)Z"⟩
abbrev cX12_isAgainstLists : ByteArray := prog_14_method_61_code
def yX12_isAgainstLists : MethodName := ⟨RX12, "isAgainstLists", "(II)Z"⟩
abbrev cX12_againstOf : ByteArray := prog_14_method_62_code
def yX12_againstOf : MethodName := ⟨RX12, "againstOf", "(II)I"⟩
abbrev cX12_against : ByteArray := prog_14_method_63_code
def yX12_against : MethodName := ⟨RX12, "against", "(II)I"⟩
abbrev cX12_asks : ByteArray := prog_14_method_64_code
def yX12_asks : MethodName := ⟨RX12, "asks", "()V"⟩
abbrev cX12_speaks : ByteArray := prog_14_method_65_code
def yX12_speaks : MethodName := ⟨RX12, "speaks", "(II)I"⟩
abbrev cX12_rowsOf : ByteArray := prog_14_method_66_code
def yX12_rowsOf : MethodName := ⟨RX12, "rowsOf", "()I"⟩
abbrev cX12_takes : ByteArray := prog_14_method_67_code
def yX12_takes : MethodName := ⟨RX12, "takes", "(I)Z"⟩
abbrev cX12_judge : ByteArray := prog_14_method_68_code
def yX12_judge : MethodName := ⟨RX12, "judge", "(I)I"⟩
abbrev cX12_line : ByteArray := prog_14_method_69_code
def yX12_line : MethodName := ⟨RX12, "line", "(III)I"⟩
abbrev cX12_goesOnNames : ByteArray := prog_14_method_70_code
def yX12_goesOnNames : MethodName := ⟨RX12, "goesOnNames", "()Z"⟩
abbrev cX12_begins : ByteArray := prog_14_method_71_code
def yX12_begins : MethodName := ⟨RX12, "begins", "()Z"⟩
abbrev cX12_tableOf : ByteArray := prog_14_method_72_code
def yX12_tableOf : MethodName := ⟨RX12, "tableOf", "()I"⟩
abbrev cX12_fills : ByteArray := prog_14_method_73_code
def yX12_fills : MethodName := ⟨RX12, "fills", "(I)V"⟩
abbrev cX12_fillings : ByteArray := prog_14_method_74_code
def yX12_fillings : MethodName := ⟨RX12, "fillings", "(I)I"⟩
abbrev cX12_mayOf : ByteArray := prog_14_method_75_code
def yX12_mayOf : MethodName := ⟨RX12, "mayOf", "(I)I"⟩
abbrev cX12_may : ByteArray := prog_14_method_76_code
def yX12_may : MethodName := ⟨RX12, "may", "(I)I"⟩
abbrev cX12_odds : ByteArray := prog_14_method_77_code
def yX12_odds : MethodName := ⟨RX12, "odds", "(II)J"⟩
abbrev cX12_given : ByteArray := prog_14_method_78_code
def yX12_given : MethodName := ⟨RX12, "given", "()I"⟩
abbrev cX12_habits : ByteArray := prog_14_method_79_code
def yX12_habits : MethodName := ⟨RX12, "habits", "()V"⟩
abbrev cX12_haveAll : ByteArray := prog_14_method_80_code
def yX12_haveAll : MethodName := ⟨RX12, "haveAll", "(II)Z"⟩
abbrev cX12_kept : ByteArray := prog_14_method_81_code
def yX12_kept : MethodName := ⟨RX12, "kept", "(I)I"⟩
abbrev cX12_says : ByteArray := prog_14_method_82_code
def yX12_says : MethodName := ⟨RX12, "says", "(II)I"⟩
abbrev cX12_said : ByteArray := prog_14_method_83_code
def yX12_said : MethodName := ⟨RX12, "said", "(III)I"⟩
abbrev cX12_isDay : ByteArray := prog_14_method_84_code
def yX12_isDay : MethodName := ⟨RX12, "isDay", "(I)Z"⟩
abbrev cX12_isCopy : ByteArray := prog_14_method_85_code
def yX12_isCopy : MethodName := ⟨RX12, "isCopy", "(I)Z"⟩
abbrev cX12_copy : ByteArray := prog_14_method_86_code
def yX12_copy : MethodName := ⟨RX12, "copy", "(IIII)I"⟩
abbrev cX12_openOf : ByteArray := prog_14_method_87_code
def yX12_openOf : MethodName := ⟨RX12, "openOf", "(II)I"⟩
abbrev cX12_open : ByteArray := prog_14_method_88_code
def yX12_open : MethodName := ⟨RX12, "open", "(II)I"⟩
abbrev cX12_needless : ByteArray := prog_14_method_89_code
def yX12_needless : MethodName := ⟨RX12, "needless", "(I)I"⟩
abbrev cX12_since : ByteArray := prog_14_method_90_code
def yX12_since : MethodName := ⟨RX12, "since", "(II)I"⟩
abbrev cX12_twice : ByteArray := prog_14_method_91_code
def yX12_twice : MethodName := ⟨RX12, "twice", "(II)I"⟩
abbrev cX12_hasCopy : ByteArray := prog_14_method_92_code
def yX12_hasCopy : MethodName := ⟨RX12, "hasCopy", "(II)Z"⟩
abbrev cX12_coversOf : ByteArray := prog_14_method_93_code
def yX12_coversOf : MethodName := ⟨RX12, "coversOf", "(II)I"⟩
abbrev cX12_stricter : ByteArray := prog_14_method_94_code
def yX12_stricter : MethodName := ⟨RX12, "stricter", "(II)I"⟩
abbrev cX12_note : ByteArray := prog_14_method_95_code
def yX12_note : MethodName := ⟨RX12, "note", "(II)Z"⟩
abbrev cX12_missing : ByteArray := prog_14_method_96_code
def yX12_missing : MethodName := ⟨RX12, "missing", "(II)I"⟩
abbrev cX12_numberAt : ByteArray := prog_14_method_97_code
def yX12_numberAt : MethodName := ⟨RX12, "numberAt", "(I)I"⟩
abbrev cX12_check : ByteArray := prog_14_method_98_code
def yX12_check : MethodName := ⟨RX12, "check", "(II)I"⟩
abbrev cX12_linesOf : ByteArray := prog_14_method_99_code
def yX12_linesOf : MethodName := ⟨RX12, "linesOf", "(I)I"⟩
abbrev cX12_count : ByteArray := prog_14_method_100_code
def yX12_count : MethodName := ⟨RX12, "count", "(I)I"⟩
def RJ6 : String := "java/lang/Integer"
abbrev cJ6_bitCount_0f7a4 : ByteArray := prog_15_method_49_code
def yJ6_bitCount_0f7a4 : MethodName := ⟨RJ6, "bitCount", "(I)I"⟩
def RJ9 : String := "java/lang/Math"
abbrev cJ9_floorDiv_7cf53 : ByteArray := prog_16_method_47_code
def yJ9_floorDiv_7cf53 : MethodName := ⟨RJ9, "floorDiv", "(II)I"⟩
abbrev cJ9_max_7cf53 : ByteArray := prog_16_method_65_code
def yJ9_max_7cf53 : MethodName := ⟨RJ9, "max", "(II)I"⟩
abbrev cJ9_min_7cf53 : ByteArray := prog_16_method_69_code
def yJ9_min_7cf53 : MethodName := ⟨RJ9, "min", "(II)I"⟩
def RJ10 : String := "java/lang/System"
def RL : String := "InkBarsLaw"
abbrev cL_law : ByteArray := code
def yL_law : MethodName := ⟨RL, "law", "([I)Z"⟩
abbrev vwCl : List vw_C := [(RX0, TX0, 12), (RX1, TX1, 5), (RX2, TX2, 14), (RX3, TX3, 4), (RX4, TX4, 2), (RX5, TX5, 8), (RX6, TX6, 7), (RX7, TX7, 11), (RX8, TX8, 11), (RX9, TX9, 2), (RX10, TX10, 3), (RX11, TX11, 15), (RX12, TX12, 77)]
/-- words of a list, by their places in another -/
theorem ik_places {big ws : List Cond} (ps : List Nat) (hp : ws = ps.filterMap (fun i => big[i]?)) : ∀ w ∈ ws, w ∈ big := by
  intro w hw
  rw [hp] at hw
  obtain ⟨i, -, hi⟩ := List.mem_filterMap.mp hw
  exact List.mem_of_getElem? hi
theorem ik_inT {w : Cond} (h : w ∈ tables_1) : w ∈ lw_tbl := List.mem_append_right _ h
theorem ik_inS {w : Cond} (h : w ∈ k2_sels lw_privs) : w ∈ lw_tbl := List.mem_append_left _ h
theorem inX0 : ∀ w ∈ u_ws RX0 TX0 12, w ∈ lw_tbl := fun w h => ik_inT (ik_places [117, 119, 121, 123, 125, 127, 129, 131, 133, 135, 137, 139] (by decide +kernel) w h)
theorem inX1 : ∀ w ∈ u_ws RX1 TX1 5, w ∈ lw_tbl := fun w h => ik_inT (ik_places [255, 257, 259, 261, 263] (by decide +kernel) w h)
theorem inX2 : ∀ w ∈ u_ws RX2 TX2 14, w ∈ lw_tbl := fun w h => ik_inT (ik_places [318, 320, 322, 324, 326, 328, 330, 332, 334, 336, 338, 340, 342, 344] (by decide +kernel) w h)
theorem inX3 : ∀ w ∈ u_ws RX3 TX3 4, w ∈ lw_tbl := fun w h => ik_inT (ik_places [235, 237, 239, 241] (by decide +kernel) w h)
theorem inX4 : ∀ w ∈ u_ws RX4 TX4 2, w ∈ lw_tbl := fun w h => ik_inT (ik_places [47, 49] (by decide +kernel) w h)
theorem inX5 : ∀ w ∈ u_ws RX5 TX5 8, w ∈ lw_tbl := fun w h => ik_inT (ik_places [286, 288, 290, 292, 294, 296, 298, 300] (by decide +kernel) w h)
theorem inX6 : ∀ w ∈ u_ws RX6 TX6 7, w ∈ lw_tbl := fun w h => ik_inT (ik_places [84, 86, 88, 90, 92, 94, 96] (by decide +kernel) w h)
theorem inX7 : ∀ w ∈ u_ws RX7 TX7 11, w ∈ lw_tbl := fun w h => ik_inT (ik_places [202, 204, 206, 208, 210, 212, 214, 216, 218, 220, 222] (by decide +kernel) w h)
theorem inX8 : ∀ w ∈ u_ws RX8 TX8 11, w ∈ lw_tbl := fun w h => ik_inT (ik_places [161, 163, 165, 167, 169, 171, 173, 175, 177, 179, 181] (by decide +kernel) w h)
theorem inX9 : ∀ w ∈ u_ws RX9 TX9 2, w ∈ lw_tbl := fun w h => ik_inT (ik_places [33, 35] (by decide +kernel) w h)
theorem inX10 : ∀ w ∈ u_ws RX10 TX10 3, w ∈ lw_tbl := fun w h => ik_inT (ik_places [70, 72, 74] (by decide +kernel) w h)
theorem inX11 : ∀ w ∈ u_ws RX11 TX11 15, w ∈ lw_tbl := fun w h => ik_inT (ik_places [363, 365, 367, 369, 371, 373, 375, 377, 379, 381, 383, 385, 387, 389, 391] (by decide +kernel) w h)
theorem inX12 : ∀ w ∈ u_ws RX12 TX12 77, w ∈ lw_tbl := fun w h => ik_inT (ik_places [1325, 1327, 1329, 1331, 1333, 1335, 1337, 1339, 1341, 1343, 1345, 1347, 1349, 1351, 1353, 1355, 1357, 1359, 1361, 1363, 1365, 1367, 1369, 1371, 1373, 1375, 1377, 1379, 1381, 1383, 1385, 1387, 1389, 1391, 1393, 1395, 1397, 1399, 1401, 1403, 1405, 1407, 1409, 1411, 1413, 1415, 1417, 1419, 1421, 1423, 1425, 1427, 1429, 1431, 1433, 1435, 1437, 1439, 1441, 1443, 1445, 1447, 1449, 1451, 1453, 1455, 1457, 1459, 1461, 1463, 1465, 1467, 1469, 1471, 1473, 1475, 1477] (by decide +kernel) w h)
end
section
-- the words that every method of ours takes along: those that stay as classes warm up; and the links between nest mates
def lw_gd : List Cond := lw_tbl.filter goodWord
theorem ik_gd {w : Cond} (h : w ∈ lw_tbl) (hg : goodWord w = true) : w ∈ lw_gd := List.mem_filter.mpr ⟨h, hg⟩
theorem ik_gd_good : ∀ w ∈ lw_gd, (w.onTables && w.keeps) = true ∨ ∃ ty, w = .arrayClass ty := fun _ h => good_of_word (List.mem_filter.mp h).2
theorem ik_lay_good (C : String) (T : u_T) (k : Nat) : goodWord (u_lay C T k) = true := by
  unfold u_lay
  split <;> rfl
theorem ik_gd_lays {C : String} {T : u_T} {N : Nat} (h : ∀ w ∈ u_ws C T N, w ∈ lw_tbl) : ∀ w ∈ u_ws C T N, w ∈ lw_gd := by
  intro w hw
  obtain ⟨k, -, rfl⟩ := List.mem_map.mp hw
  exact ik_gd (h _ hw) (ik_lay_good C T k)
def ik_nest (U : State) : Prop := ∀ (own : String) (i : Nat) (y : MethodName) (host : String), Cond.methodLinkNest own i y host ∈ lw_tbl → va_Nw (.methodLinkNest own i y host) U
theorem ik_nest.warm {s U : State} (hW : s.WarmedH U.vm) (h : ik_nest s) : ik_nest U := fun own i y host hm => (h own i y host hm).warmM hW
theorem ik_nest.same {u U : State} (h : u.vm = U.vm) (hn : ik_nest u) : ik_nest U := fun own i y host hm => (hn own i y host hm).same rfl h
/-! the state of a system: what its cells hold, by the cell's number and the place in it (ints; longs) -/
abbrev GG : Type := (Nat → Nat → Int32) × (Nat → Nat → Int64)
/-- a method's state: its ints and longs by their places among the locals, and the system's state -/
abbrev SS : Type := (Nat → Int32) × (Nat → Int64) × GG
/-- a cell: an array (kind, length) or an object (class, its fields: a kind or the cell that it names). Kinds: 0 int, 1 long, 2 byte, 3 boolean -/
abbrev ik_CD : Type := (Nat × Nat) ⊕ (Nat × List (Nat ⊕ Nat))
def ik_ty : Nat → FieldType
  | 0 => .int
  | 1 => .long
  | 2 => .byte
  | _ => .boolean
abbrev ik_tys (cA : Nat → ClassId) : List (ClassId × FieldType) := [(cA 0, .int), (cA 1, .long), (cA 2, .byte), (cA 3, .boolean)]
def ik_fv (ad : Nat → Nat) (g : GG) (id : Nat) : Nat → List (Nat ⊕ Nat) → List Value
  | _, [] => []
  | j, .inl t :: r => (if t = 1 then .long (g.2 id j) else .int (g.1 id j)) :: ik_fv ad g id (j + 1) r
  | j, .inr q :: r => .ref (ad q) :: ik_fv ad g id (j + 1) r
def ik_ce (ad : Nat → Nat) (cA : Nat → ClassId) (g : GG) (id : Nat) : ik_CD → va_E
  | .inl (k, n) => .inl (cA k, n, if k = 1 then .inr (.inl (g.2 id)) else .inl (g.1 id))
  | .inr (ci, fds) => .inr (ci, ik_fv ad g id 0 fds)
def ik_w (wd : List ik_CD) (ad : Nat → Nat) (cA : Nat → ClassId) (g : GG) : va_W := wd.mapIdx (fun id cd => (ad id, ik_ce ad cA g id cd))
theorem ik_w_at (wd : List ik_CD) (ad : Nat → Nat) (cA : Nat → ClassId) (g : GG) (id : Nat) : (ik_w wd ad cA g)[id]? = (wd[id]?).map (fun cd => (ad id, ik_ce ad cA g id cd)) := by
  simp [ik_w, List.getElem?_mapIdx]
theorem ik_fv_congr {ad : Nat → Nat} {g g' : GG} {id : Nat} (h1 : g.1 id = g'.1 id) (h2 : g.2 id = g'.2 id) : ∀ (fds : List (Nat ⊕ Nat)) (j : Nat), ik_fv ad g id j fds = ik_fv ad g' id j fds
  | [], _ => rfl
  | .inl t :: r, j => by simp only [ik_fv, h1, h2, ik_fv_congr h1 h2 r (j + 1)]
  | .inr q :: r, j => by simp only [ik_fv, ik_fv_congr h1 h2 r (j + 1)]
theorem ik_ce_congr {ad : Nat → Nat} {cA : Nat → ClassId} {g g' : GG} {id : Nat} (h1 : g.1 id = g'.1 id) (h2 : g.2 id = g'.2 id) (cd : ik_CD) : ik_ce ad cA g id cd = ik_ce ad cA g' id cd := by
  rcases cd with ⟨k, n⟩ | ⟨ci, fds⟩
  · simp only [ik_ce, h1, h2]
  · simp only [ik_ce, ik_fv_congr h1 h2]
theorem ik_fv_at {ad : Nat → Nat} {g : GG} {id : Nat} : ∀ (fds : List (Nat ⊕ Nat)) (j k : Nat), (ik_fv ad g id j fds)[k]? = (fds[k]?).map (fun fd => match fd with
    | .inl t => if t = 1 then Value.long (g.2 id (j + k)) else Value.int (g.1 id (j + k))
    | .inr q => Value.ref (ad q))
  | [], j, k => by simp [ik_fv]
  | .inl t :: r, j, 0 => by simp [ik_fv]
  | .inr q :: r, j, 0 => by simp [ik_fv]
  | .inl t :: r, j, k + 1 => by
    have h := ik_fv_at (ad := ad) (g := g) (id := id) r (j + 1) k
    simp only [ik_fv, List.getElem?_cons_succ, h, show j + 1 + k = j + (k + 1) by omega]
  | .inr q :: r, j, k + 1 => by
    have h := ik_fv_at (ad := ad) (g := g) (id := id) r (j + 1) k
    simp only [ik_fv, List.getElem?_cons_succ, h, show j + 1 + k = j + (k + 1) by omega]
theorem ik_fv_len {ad : Nat → Nat} {g : GG} {id : Nat} : ∀ (fds : List (Nat ⊕ Nat)) (j : Nat), (ik_fv ad g id j fds).length = fds.length
  | [], j => rfl
  | .inl t :: r, j => by simp [ik_fv, ik_fv_len r]
  | .inr q :: r, j => by simp [ik_fv, ik_fv_len r]
theorem ik_w_set {wd : List ik_CD} {ad : Nat → Nat} {cA : Nat → ClassId} {g g' : GG} {id : Nat} {cd : ik_CD} {e : va_E} (hc : wd[id]? = some cd) (he : ik_ce ad cA g' id cd = e) (h : ∀ a, a ≠ id → g.1 a = g'.1 a ∧ g.2 a = g'.2 a) : (ik_w wd ad cA g).set id (ad id, e) = ik_w wd ad cA g' := by
  refine List.ext_getElem? fun k => ?_
  by_cases hk : k = id
  · subst hk
    have hl : k < (ik_w wd ad cA g).length := (List.getElem?_eq_some_iff.mp (show (ik_w wd ad cA g)[k]? = some _ by rw [ik_w_at, hc]; rfl)).1
    rw [List.getElem?_set_self hl, ik_w_at, hc, ← he]
    rfl
  · rw [List.getElem?_set_ne (Ne.symm hk), ik_w_at, ik_w_at]
    cases wd[k]? with
    | none => rfl
    | some cd => simp only [Option.map_some, ik_ce_congr (h k hk).1 (h k hk).2]
/-- an int, a long put at a place of a cell -/
def ik_si (g : GG) (id j : Nat) (x : Int32) : GG := (fun a b => if a = id ∧ b = j then x else g.1 a b, g.2)
def ik_sl (g : GG) (id j : Nat) (x : Int64) : GG := (g.1, fun a b => if a = id ∧ b = j then x else g.2 a b)
theorem ik_w_si_arr {wd : List ik_CD} {ad : Nat → Nat} {cA : Nat → ClassId} {g : GG} {id k n j : Nat} {x : Int32} (hc : wd[id]? = some (.inl (k, n))) (hk : k ≠ 1) : (ik_w wd ad cA g).set id (ad id, .inl (cA k, n, .inl (upd (g.1 id) j x))) = ik_w wd ad cA (ik_si g id j x) := by
  refine ik_w_set hc ?_ (fun a ha => ⟨?_, rfl⟩)
  · simp only [ik_ce, if_neg hk, ik_si]
    congr 4
    funext b
    simp [upd]
  · funext b
    simp [ik_si, ha]
theorem ik_w_sl_arr {wd : List ik_CD} {ad : Nat → Nat} {cA : Nat → ClassId} {g : GG} {id n j : Nat} {x : Int64} (hc : wd[id]? = some (.inl (1, n))) : (ik_w wd ad cA g).set id (ad id, .inl (cA 1, n, .inr (.inl (vp_updL (g.2 id) j x)))) = ik_w wd ad cA (ik_sl g id j x) := by
  refine ik_w_set hc ?_ (fun a ha => ⟨rfl, ?_⟩)
  · have e : (fun b => if id = id ∧ b = j then x else g.2 id b) = vp_updL (g.2 id) j x := by
      funext b
      simp [vp_updL]
    show Sum.inl (cA 1, n, if (1 : Nat) = 1 then Sum.inr (Sum.inl (fun b => if id = id ∧ b = j then x else g.2 id b)) else _) = _
    rw [e]
    rfl
  · funext b
    simp [ik_sl, ha]
theorem ik_w_si_obj {wd : List ik_CD} {ad : Nat → Nat} {cA : Nat → ClassId} {g : GG} {id ci j t : Nat} {fds : List (Nat ⊕ Nat)} {x : Int32} (hc : wd[id]? = some (.inr (ci, fds))) (hf : fds[j]? = some (.inl t)) (ht : t ≠ 1) : (ik_w wd ad cA g).set id (ad id, .inr (ci, (ik_fv ad g id 0 fds).set j (.int x))) = ik_w wd ad cA (ik_si g id j x) := by
  refine ik_w_set hc ?_ (fun a ha => ⟨?_, rfl⟩)
  · simp only [ik_ce]
    congr 2
    refine List.ext_getElem? fun k => ?_
    by_cases hk : k = j
    · subst hk
      rw [List.getElem?_set_self (by rw [ik_fv_len]; exact (List.getElem?_eq_some_iff.mp hf).1), ik_fv_at, hf]
      simp [ht, ik_si]
    · rw [List.getElem?_set_ne (Ne.symm hk), ik_fv_at, ik_fv_at]
      cases fds[k]? with
      | none => rfl
      | some fd => cases fd <;> simp [ik_si, hk]
  · funext b
    simp [ik_si, ha]
theorem ik_w_sl_obj {wd : List ik_CD} {ad : Nat → Nat} {cA : Nat → ClassId} {g : GG} {id ci j : Nat} {fds : List (Nat ⊕ Nat)} {x : Int64} (hc : wd[id]? = some (.inr (ci, fds))) (hf : fds[j]? = some (.inl 1)) : (ik_w wd ad cA g).set id (ad id, .inr (ci, (ik_fv ad g id 0 fds).set j (.long x))) = ik_w wd ad cA (ik_sl g id j x) := by
  refine ik_w_set hc ?_ (fun a ha => ⟨rfl, ?_⟩)
  · simp only [ik_ce]
    congr 2
    refine List.ext_getElem? fun k => ?_
    by_cases hk : k = j
    · subst hk
      rw [List.getElem?_set_self (by rw [ik_fv_len]; exact (List.getElem?_eq_some_iff.mp hf).1), ik_fv_at, hf]
      simp [ik_sl]
    · rw [List.getElem?_set_ne (Ne.symm hk), ik_fv_at, ik_fv_at]
      cases fds[k]? with
      | none => rfl
      | some fd => cases fd <;> simp [ik_sl, hk]
  · funext b
    simp [ik_sl, ha]
/-- the cells' addresses are apart and of a kind: that says nothing of what they hold -/
theorem ik_w_D {wd : List ik_CD} {ad : Nat → Nat} {cA : Nat → ClassId} {g g' : GG} {A : Nat → Prop} (h : va_D A (ik_w wd ad cA g)) : va_D A (ik_w wd ad cA g') := by
  have key : ∀ (k : Nat) (q : Nat × va_E), (ik_w wd ad cA g')[k]? = some q → ∃ q0, (ik_w wd ad cA g)[k]? = some q0 ∧ q0.1 = q.1 := by
    intro k q hk
    rw [ik_w_at] at hk ⊢
    cases hw : wd[k]? with
    | none => rw [hw] at hk; cases hk
    | some cd => rw [hw] at hk; cases hk; exact ⟨_, rfl, rfl⟩
  refine ⟨fun i j x y hi hj hxy => ?_, fun k q hk => ?_⟩
  · obtain ⟨x0, h1, h2⟩ := key i x hi
    obtain ⟨y0, h3, h4⟩ := key j y hj
    exact h.1 i j x0 y0 h1 h3 (h2.trans (hxy.trans h4.symm))
  · obtain ⟨q0, h1, h2⟩ := key k q hk
    rw [← h2]
    exact h.2 k q0 h1
/-! what is fixed for a method: the cells, its bytes, its locals' number, its class, its locals that name cells, its level (room), what it returns -/
abbrev ik_SC : Type := List ik_CD × ByteArray × Nat × String × List (Nat × Nat) × Nat × Option FieldType
abbrev ik_DX : Type := Program × Launch × Env × State × MethodId × Array Value × List Frame × Method × Code × (Nat → Nat) × va_G × (Nat → ClassId) × (Nat → Prop) × Value × GG
abbrev ik_rm (k : Nat) : Room := { frames := k, cells := 0, slots := 0, locals := 200 * k }
abbrev ik_B (wd : List ik_CD) (ad : Nat → Nat) (D : va_G) (cA : Nat → ClassId) (g : GG) : Unit → State → Prop := fun _ t => va_P D vwCl (ik_w wd ad cA g) t.heap
def ik_Q (wd : List ik_CD) (ad : Nat → Nat) (D : va_G) (cA : Nat → ClassId) (A : Nat → Prop) (v : Value) (g : GG) : Array Value → State → Outcome → State → Prop := match v with
  | .int r => va_Qi (fun r' _ => r' = r) (ik_B wd ad D cA g) A
  | .long r => va_Ql (fun r' _ => r' = r) (ik_B wd ad D cA g) A
  | _ => va_Qv (fun _ => True) (ik_B wd ad D cA g) A
def ik_lv (ad : Nat → Nat) (rl lv : List (Nat × Nat)) (σ : SS) : List (Nat × Value) := rl.map (fun q => (q.1, Value.ref (ad q.2))) ++ lv.map (fun q => (q.1, if q.2 = 1 then Value.long (σ.2.1 q.1) else Value.int (σ.1 q.1)))
/-- the machine, with these locals and this stack, in this state of the system, comes to the method's end -/
def ik_Go (sc : ik_SC) : ik_DX → List (Nat × Nat) → Nat → List Value → SS → Prop
  | (p, l, e, s, m, args, below, meth, c, ad, D, cA, A, v0, g0), lv, pc, st, σ => ∀ (H : Heap) (locs : List Loc) (ls : Array Slot), va_P D vwCl (ik_w sc.1 ad cA σ.2.2) H → va_S A s.heap H locs → lv_has ls sc.2.2.1 (ik_lv ad sc.2.2.2.2.1 lv σ) →
    W p l e (ik_rm sc.2.2.2.2.2.1) s m args below meth c H locs 0 0 (MQ below (ik_Q sc.1 ad D cA A v0 g0) args s 0 0 A) (F0 m pc ls st)
/-- what holds of the machine all through a method -/
def ik_Cx (sc : ik_SC) : ik_DX → Prop
  | (p, l, e, s, m, args, below, meth, c, ad, D, cA, A, v0, g0) => p.tables.exec = Jvm.exec ∧ c.code = sc.2.1 ∧ c.maxLocals = sc.2.2.1 ∧ s.vm.findClass sc.2.2.2.1 = some m.cls ∧ (∀ w ∈ lw_gd, w.before args s = true) ∧ ik_nest s ∧ va_K D vwCl (ik_tys cA) s ∧ (∀ g, va_D A (ik_w sc.1 ad cA g)) ∧ meth.sig.returnType = sc.2.2.2.2.2.2 ∧ meth.locks = false
def ik_cat (st : List Value) : Nat := (st.map fun v => v.category).sum
abbrev ik_LV : Type := List (Nat × Nat)
end
section
/-! pieces: what a stretch of bytes does, as a function of the method's state; each carries the check of its bytes and the proof that the machine does so -/
def ik_okE (sc : ik_SC) (chk : ik_LV → Nat → Nat → Option Nat) (sem : SS → Option (Int32 × GG)) : Prop :=
  ∀ (x : ik_DX), ik_Cx sc x → ∀ (lv : ik_LV) (d pc pc' : Nat) (st : List Value) (σ : SS) (v : Int32) (g' : GG), chk lv d pc = some pc' → ik_cat st ≤ d → sem σ = some (v, g') → ik_Go sc x lv pc' (.int v :: st) (σ.1, σ.2.1, g') → ik_Go sc x lv pc st σ
def ik_okL (sc : ik_SC) (chk : ik_LV → Nat → Nat → Option Nat) (sem : SS → Option (Int64 × GG)) : Prop :=
  ∀ (x : ik_DX), ik_Cx sc x → ∀ (lv : ik_LV) (d pc pc' : Nat) (st : List Value) (σ : SS) (v : Int64) (g' : GG), chk lv d pc = some pc' → ik_cat st ≤ d → sem σ = some (v, g') → ik_Go sc x lv pc' (.long v :: st) (σ.1, σ.2.1, g') → ik_Go sc x lv pc st σ
def ik_xad (x : ik_DX) : Nat → Nat := x.2.2.2.2.2.2.2.2.2.1
def ik_okR (sc : ik_SC) (id : Nat) (chk : ik_LV → Nat → Nat → Option Nat) : Prop :=
  ∀ (x : ik_DX), ik_Cx sc x → ∀ (lv : ik_LV) (d pc pc' : Nat) (st : List Value) (σ : SS), chk lv d pc = some pc' → ik_Go sc x lv pc' (.ref (ik_xad x id) :: st) σ → ik_Go sc x lv pc st σ
def ik_okC (sc : ik_SC) (T F : Nat) (chk : ik_LV → Nat → Nat → Bool) (sem : SS → Option (Bool × GG)) : Prop :=
  ∀ (x : ik_DX), ik_Cx sc x → ∀ (lv : ik_LV) (d pc : Nat) (st : List Value) (σ : SS) (b : Bool) (g' : GG), chk lv d pc = true → ik_cat st ≤ d → sem σ = some (b, g') → ik_Go sc x lv (if b then T else F) st (σ.1, σ.2.1, g') → ik_Go sc x lv pc st σ
abbrev EP (sc : ik_SC) : Type := { q : (ik_LV → Nat → Nat → Option Nat) × (SS → Option (Int32 × GG)) // ik_okE sc q.1 q.2 }
abbrev JP (sc : ik_SC) : Type := { q : (ik_LV → Nat → Nat → Option Nat) × (SS → Option (Int64 × GG)) // ik_okL sc q.1 q.2 }
abbrev RP (sc : ik_SC) (id : Nat) : Type := { q : ik_LV → Nat → Nat → Option Nat // ik_okR sc id q }
abbrev CP (sc : ik_SC) (T F : Nat) : Type := { q : (ik_LV → Nat → Nat → Bool) × (SS → Option (Bool × GG)) // ik_okC sc T F q.1 q.2 }
theorem ik_cat_i {v : Int32} {st : List Value} {d : Nat} (h : ik_cat st ≤ d) : ik_cat (.int v :: st) ≤ d + 1 := by
  have e : ik_cat (.int v :: st) = 1 + ik_cat st := by simp [ik_cat, Value.category]
  omega
theorem ik_cat_l {v : Int64} {st : List Value} {d : Nat} (h : ik_cat st ≤ d) : ik_cat (.long v :: st) ≤ d + 2 := by
  have e : ik_cat (.long v :: st) = 2 + ik_cat st := by simp [ik_cat, Value.category]
  omega
theorem ik_cat_r {v : Nat} {st : List Value} {d : Nat} (h : ik_cat st ≤ d) : ik_cat (.ref v :: st) ≤ d + 1 := by
  have e : ik_cat (.ref v :: st) = 1 + ik_cat st := by simp [ik_cat, Value.category]
  omega
-- jumps that lead on to a place
def ik_reach (cc : ByteArray) : Nat → Nat → Nat → Bool
  | 0, pc, t => pc == t
  | n + 1, pc, t => pc == t || (match decode cc pc with
    | .ok (.goto off, 3) => decide (0 ≤ (pc : Int) + off) && ik_reach cc n ((pc : Int) + off).toNat t
    | _ => false)
theorem ik_reach_ok {sc : ik_SC} {x : ik_DX} (hC : ik_Cx sc x) {lv : ik_LV} {st : List Value} {σ : SS} {t : Nat} (hk : ik_Go sc x lv t st σ) : ∀ (n pc : Nat), ik_reach sc.2.1 n pc t = true → ik_Go sc x lv pc st σ := by
  intro n
  induction n with
  | zero =>
    intro pc h
    simp only [ik_reach, beq_iff_eq] at h
    rw [h]; exact hk
  | succ n ih =>
    intro pc h
    simp only [ik_reach, Bool.or_eq_true, beq_iff_eq] at h
    rcases h with h | h
    · rw [h]; exact hk
    · split at h
      · rename_i off hdg
        simp only [Bool.and_eq_true, decide_eq_true_eq] at h
        have h2 := ih _ h.2
        obtain ⟨p, l, e, s, m, args, below, meth, c, ad, D, cA, A, v0, g0⟩ := x
        obtain ⟨hx, hb, hml, hown, hts, hns, hK, hD, hr, hlk⟩ := hC
        intro H locs ls hP hS hl
        exact lv_goto (tgt := ((pc : Int) + off).toNat) hx hb hdg (by omega) (h2 H locs ls hP hS hl)
      · cases h
-- a state seen with fewer locals
theorem ik_Go_sub {sc : ik_SC} {x : ik_DX} {lv lv' : ik_LV} {pc : Nat} {st : List Value} {σ : SS} (h : ∀ q ∈ lv', q ∈ lv) (hk : ik_Go sc x lv' pc st σ) : ik_Go sc x lv pc st σ := by
  obtain ⟨p, l, e, s, m, args, below, meth, c, ad, D, cA, A, v0, g0⟩ := x
  intro H locs ls hP hS hl
  refine hk H locs ls hP hS ⟨hl.1, hl.2.1, fun q hq => hl.2.2 q ?_⟩
  simp only [ik_lv, List.mem_append, List.mem_map] at hq ⊢
  rcases hq with hq | ⟨a, ha, rfl⟩
  · exact Or.inl hq
  · exact Or.inr ⟨a, h a ha, rfl⟩
theorem ik_lv_int {ad : Nat → Nat} {rl lv : ik_LV} {σ : SS} {ls : Array Slot} {n k : Nat} (hl : lv_has ls n (ik_lv ad rl lv σ)) (h : (k, 0) ∈ lv) : ls[k]? = some (.val (.int (σ.1 k))) :=
  hl.2.2 (k, .int (σ.1 k)) (List.mem_append_right _ (List.mem_map.mpr ⟨(k, 0), h, rfl⟩))
theorem ik_lv_long {ad : Nat → Nat} {rl lv : ik_LV} {σ : SS} {ls : Array Slot} {n k : Nat} (hl : lv_has ls n (ik_lv ad rl lv σ)) (h : (k, 1) ∈ lv) : ls[k]? = some (.val (.long (σ.2.1 k))) :=
  hl.2.2 (k, .long (σ.2.1 k)) (List.mem_append_right _ (List.mem_map.mpr ⟨(k, 1), h, rfl⟩))
theorem ik_lv_ref {ad : Nat → Nat} {rl lv : ik_LV} {σ : SS} {ls : Array Slot} {n k id : Nat} (hl : lv_has ls n (ik_lv ad rl lv σ)) (h : (k, id) ∈ rl) : ls[k]? = some (.val (.ref (ad id))) :=
  hl.2.2 (k, .ref (ad id)) (List.mem_append_left _ (List.mem_map.mpr ⟨(k, id), h, rfl⟩))
section EX
variable {sc : ik_SC}
-- a number
def cLit (cc : ByteArray) (v : Int32) (pc : Nat) : Option Nat := match decode cc pc with
  | .ok (.iconst n, 1) => if Int32.ofInt n = v then some (pc + 1) else none
  | .ok (.bipush n, 2) => if (Int8.ofInt n).toInt32 = v then some (pc + 2) else none
  | .ok (.sipush n, 3) => if (Int16.ofInt n).toInt32 = v then some (pc + 3) else none
  | _ => none
def sLit (v : Int32) : SS → Option (Int32 × GG) := fun σ => some (v, σ.2.2)
theorem okLit (v : Int32) : ik_okE sc (fun _ _ pc => cLit sc.2.1 v pc) (sLit v) := by
  rintro ⟨p, l, e, s, m, args, below, meth, c, ad, D, cA, A, v0, g0⟩ ⟨hx, hb, hml, hown, hts, hns, hK, hD, hr, hlk⟩ lv d pc pc' st ⟨I, L, g⟩ v g' hc hd hs hk
  cases hs
  intro H locs ls hP hS hl
  have hk := hk H locs ls hP hS hl
  dsimp only [cLit] at hc
  split at hc
  · rename_i n hdg
    split at hc
    · rename_i he
      cases hc
      exact lv_iconst hx hb hdg he hk
    · cases hc
  · rename_i n hdg
    split at hc
    · rename_i he
      cases hc
      exact lv_bipush hx hb hdg he hk
    · cases hc
  · rename_i n hdg
    split at hc
    · rename_i he
      cases hc
      exact lv_sipush hx hb hdg he hk
    · cases hc
  · cases hc
def eLit (v : Int32) : EP sc := ⟨(fun _ _ pc => cLit sc.2.1 v pc, sLit v), okLit v⟩
def cLdc (cc : ByteArray) (idx pc : Nat) : Option Nat := match decode cc pc with
  | .ok (.ldc i, 2) => if i = idx then some (pc + 2) else none
  | .ok (.ldc_w i, 3) => if i = idx then some (pc + 3) else none
  | _ => none
theorem okLdc (idx : Nat) (v : Int32) (hw : Cond.constant sc.2.2.2.1 idx v ∈ lw_tbl) : ik_okE sc (fun _ _ pc => cLdc sc.2.1 idx pc) (sLit v) := by
  rintro ⟨p, l, e, s, m, args, below, meth, c, ad, D, cA, A, v0, g0⟩ ⟨hx, hb, hml, hown, hts, hns, hK, hD, hr, hlk⟩ lv d pc pc' st ⟨I, L, g⟩ v g' hc hd hs hk
  cases hs
  intro H locs ls hP hS hl
  have hk := hk H locs ls hP hS hl
  have hc2 := hts _ (ik_gd hw rfl)
  dsimp only [cLdc] at hc
  split at hc
  · rename_i n hdg
    split at hc
    · rename_i he
      subst he
      cases hc
      exact lv_ldc hx hb hown hc2 hdg hk
    · cases hc
  · rename_i n hdg
    split at hc
    · rename_i he
      subst he
      cases hc
      exact lv_ldcw hx hb hown hc2 hdg hk
    · cases hc
  · cases hc
def eLdc (idx : Nat) (v : Int32) (hw : Cond.constant sc.2.2.2.1 idx v ∈ lw_tbl) : EP sc := ⟨(fun _ _ pc => cLdc sc.2.1 idx pc, sLit v), okLdc idx v hw⟩
def cLdcL (cc : ByteArray) (idx pc : Nat) : Option Nat := match decode cc pc with
  | .ok (.ldc2_w i, 3) => if i = idx then some (pc + 3) else none
  | _ => none
def sLitL (v : Int64) : SS → Option (Int64 × GG) := fun σ => some (v, σ.2.2)
theorem okLdcL (idx : Nat) (v : Int64) (hw : Cond.constantLong sc.2.2.2.1 idx v ∈ lw_tbl) : ik_okL sc (fun _ _ pc => cLdcL sc.2.1 idx pc) (sLitL v) := by
  rintro ⟨p, l, e, s, m, args, below, meth, c, ad, D, cA, A, v0, g0⟩ ⟨hx, hb, hml, hown, hts, hns, hK, hD, hr, hlk⟩ lv d pc pc' st ⟨I, L, g⟩ v g' hc hd hs hk
  cases hs
  intro H locs ls hP hS hl
  have hk := hk H locs ls hP hS hl
  have hc2 := hts _ (ik_gd hw rfl)
  dsimp only [cLdcL] at hc
  split at hc
  · rename_i n hdg
    split at hc
    · rename_i he
      subst he
      cases hc
      exact lv_ldc2 hx hb hown hc2 hdg hk
    · cases hc
  · cases hc
def lLdc (idx : Nat) (v : Int64) (hw : Cond.constantLong sc.2.2.2.1 idx v ∈ lw_tbl) : JP sc := ⟨(fun _ _ pc => cLdcL sc.2.1 idx pc, sLitL v), okLdcL idx v hw⟩
def cLitL (cc : ByteArray) (v : Int64) (pc : Nat) : Option Nat := match decode cc pc with
  | .ok (.lconst n, 1) => if Int64.ofNat (n : Nat) = v then some (pc + 1) else none
  | _ => none
theorem okLitL (v : Int64) : ik_okL sc (fun _ _ pc => cLitL sc.2.1 v pc) (sLitL v) := by
  rintro ⟨p, l, e, s, m, args, below, meth, c, ad, D, cA, A, v0, g0⟩ ⟨hx, hb, hml, hown, hts, hns, hK, hD, hr, hlk⟩ lv d pc pc' st ⟨I, L, g⟩ v g' hc hd hs hk
  cases hs
  intro H locs ls hP hS hl
  have hk := hk H locs ls hP hS hl
  dsimp only [cLitL] at hc
  split at hc
  · rename_i n hdg
    split at hc
    · rename_i he
      cases hc
      exact lv_lconst hx hb hdg he hk
    · cases hc
  · cases hc
def lLit (v : Int64) : JP sc := ⟨(fun _ _ pc => cLitL sc.2.1 v pc, sLitL v), okLitL v⟩
-- a local
def cLoc (cc : ByteArray) (k : Nat) (lv : ik_LV) (pc : Nat) : Option Nat := if (k, 0) ∈ lv then (match decode cc pc with
  | .ok (.iload_n n, 1) => if (n : Nat) = k then some (pc + 1) else none
  | .ok (.iload n, 2) => if n = k then some (pc + 2) else none
  | _ => none) else none
def sLoc (k : Nat) : SS → Option (Int32 × GG) := fun σ => some (σ.1 k, σ.2.2)
theorem okLoc (k : Nat) : ik_okE sc (fun lv _ pc => cLoc sc.2.1 k lv pc) (sLoc k) := by
  rintro ⟨p, l, e, s, m, args, below, meth, c, ad, D, cA, A, v0, g0⟩ ⟨hx, hb, hml, hown, hts, hns, hK, hD, hr, hlk⟩ lv d pc pc' st ⟨I, L, g⟩ v g' hc hd hs hk
  cases hs
  intro H locs ls hP hS hl
  have hk := hk H locs ls hP hS hl
  dsimp only [cLoc] at hc
  split at hc
  · rename_i hin
    have h1 := ik_lv_int hl hin
    split at hc
    · rename_i n hdg
      split at hc
      · rename_i he
        cases hc
        exact lv_iload_n hx hb hdg he h1 hk
      · cases hc
    · rename_i n hdg
      split at hc
      · rename_i he
        subst he
        cases hc
        exact lv_iload hx hb hdg h1 hk
      · cases hc
    · cases hc
  · cases hc
def eLoc (k : Nat) : EP sc := ⟨(fun lv _ pc => cLoc sc.2.1 k lv pc, sLoc k), okLoc k⟩
def cLocL (cc : ByteArray) (k : Nat) (lv : ik_LV) (pc : Nat) : Option Nat := if (k, 1) ∈ lv then (match decode cc pc with
  | .ok (.lload_n n, 1) => if (n : Nat) = k then some (pc + 1) else none
  | .ok (.lload n, 2) => if n = k then some (pc + 2) else none
  | _ => none) else none
def sLocL (k : Nat) : SS → Option (Int64 × GG) := fun σ => some (σ.2.1 k, σ.2.2)
theorem okLocL (k : Nat) : ik_okL sc (fun lv _ pc => cLocL sc.2.1 k lv pc) (sLocL k) := by
  rintro ⟨p, l, e, s, m, args, below, meth, c, ad, D, cA, A, v0, g0⟩ ⟨hx, hb, hml, hown, hts, hns, hK, hD, hr, hlk⟩ lv d pc pc' st ⟨I, L, g⟩ v g' hc hd hs hk
  cases hs
  intro H locs ls hP hS hl
  have hk := hk H locs ls hP hS hl
  dsimp only [cLocL] at hc
  split at hc
  · rename_i hin
    have h1 := ik_lv_long hl hin
    split at hc
    · rename_i n hdg
      split at hc
      · rename_i he
        cases hc
        exact lv_lload_n hx hb hdg he h1 hk
      · cases hc
    · rename_i n hdg
      split at hc
      · rename_i he
        subst he
        cases hc
        exact lv_lload hx hb hdg h1 hk
      · cases hc
    · cases hc
  · cases hc
def lLoc (k : Nat) : JP sc := ⟨(fun lv _ pc => cLocL sc.2.1 k lv pc, sLocL k), okLocL k⟩
-- two ints made one: 0 + 1 - 2 * 3 and 4 or 5 xor 6 << 7 >> 8 >>> 9 / 10 %
def ik_bi : Nat → Instr
  | 0 => .iadd | 1 => .isub | 2 => .imul | 3 => .iand | 4 => .ior | 5 => .ixor | 6 => .ishl | 7 => .ishr | 8 => .iushr | 9 => .idiv | _ => .irem
def ik_bo : Nat → Int32 → Int32 → Option Int32
  | 0, x, y => some (x + y)
  | 1, x, y => some (x - y)
  | 2, x, y => some (x * y)
  | 3, x, y => some (x &&& y)
  | 4, x, y => some (x ||| y)
  | 5, x, y => some (x ^^^ y)
  | 6, x, y => some (x <<< (y &&& 31))
  | 7, x, y => some (x >>> (y &&& 31))
  | 8, x, y => some (x.toUInt32 >>> (y.toUInt32 &&& Int32.toUInt32 31)).toInt32
  | 9, x, y => if y = 0 then none else some (x / y)
  | _, x, y => if y = 0 then none else some (x - x / y * y)
section BO
variable {p : Program} {l : Launch} {e : Env} {R : Room} {s : State} {m : MethodId} {args : Array Value} {below : List Frame} {meth : Method} {c : Code} {H : Heap} {locs : List Loc} {cells slots : Nat} {Q : State → Prop}
theorem ik_bin_row {cc : ByteArray} {pc : Nat} {ls : Array Slot} {rest : List Value} (hx : p.tables.exec = Jvm.exec) (hb : c.code = cc) {o : Nat} {x y z : Int32} (hz : ik_bo o x y = some z) (hdg : decode cc pc = .ok (ik_bi o, 1)) (k : W p l e R s m args below meth c H locs cells slots Q (F0 m (pc + 1) ls (.int z :: rest))) : W p l e R s m args below meth c H locs cells slots Q (F0 m pc ls (.int y :: .int x :: rest)) := by
  match o, hz, hdg with
  | 0, hz, hdg => cases hz; exact lv_iadd hx hb hdg k
  | 1, hz, hdg => cases hz; exact lv_isub hx hb hdg k
  | 2, hz, hdg => cases hz; exact lv_imul hx hb hdg k
  | 3, hz, hdg => cases hz; exact lv_iand hx hb hdg k
  | 4, hz, hdg => cases hz; exact lv_ior hx hb hdg k
  | 5, hz, hdg => cases hz; exact lv_ixor hx hb hdg k
  | 6, hz, hdg => cases hz; exact lv_ishl hx hb hdg k
  | 7, hz, hdg => cases hz; exact lv_ishr hx hb hdg k
  | 8, hz, hdg => cases hz; exact lv_iushr hx hb hdg rfl k
  | 9, hz, hdg =>
    simp only [ik_bo] at hz
    split at hz
    · cases hz
    · rename_i h; cases hz; exact lv_idiv hx hb hdg h k
  | n + 10, hz, hdg =>
    simp only [ik_bo] at hz
    split at hz
    · cases hz
    · rename_i h; cases hz; exact lv_irem hx hb hdg h k
end BO
def cOp (cc : ByteArray) (i : Instr) (pc : Nat) : Option Nat := match decode cc pc with
  | .ok (j, 1) => if j = i then some (pc + 1) else none
  | _ => none
theorem cOp_ok {cc : ByteArray} {i : Instr} {pc pc' : Nat} (h : cOp cc i pc = some pc') : decode cc pc = .ok (i, 1) ∧ pc' = pc + 1 := by
  unfold cOp at h
  split at h
  · rename_i j hdg
    split at h
    · rename_i he
      subst he
      cases h
      exact ⟨hdg, rfl⟩
    · cases h
  · cases h
def sBin (o : Nat) (a b : SS → Option (Int32 × GG)) : SS → Option (Int32 × GG) := fun σ => (a σ).bind fun q => (b (σ.1, σ.2.1, q.2)).bind fun r => (ik_bo o q.1 r.1).map fun z => (z, r.2)
theorem okBin (o : Nat) (a b : EP sc) : ik_okE sc (fun lv d pc => (a.1.1 lv d pc).bind fun p1 => (b.1.1 lv (d + 1) p1).bind fun p2 => cOp sc.2.1 (ik_bi o) p2) (sBin o a.1.2 b.1.2) := by
  intro x hC lv d pc pc' st σ v g' hc hd hs hk
  simp only [Option.bind_eq_some_iff] at hc
  obtain ⟨p1, h1, p2, h2, h3⟩ := hc
  obtain ⟨hdg, rfl⟩ := cOp_ok h3
  simp only [sBin, Option.bind_eq_some_iff, Option.map_eq_some_iff] at hs
  obtain ⟨⟨v1, g1⟩, e1, ⟨v2, g2⟩, e2, z, e3, e4⟩ := hs
  cases e4
  refine a.2 x hC lv d pc p1 st σ v1 g1 h1 hd e1 ?_
  refine b.2 x hC lv (d + 1) p1 p2 (.int v1 :: st) (σ.1, σ.2.1, g1) v2 g2 h2 (ik_cat_i hd) e2 ?_
  obtain ⟨p, l, e, s, m, args, below, meth, c, ad, D, cA, A, v0, g0⟩ := x
  obtain ⟨hx, hb, hml, hown, hts, hns, hK, hD, hr, hlk⟩ := hC
  intro H locs ls hP hS hl
  exact ik_bin_row hx hb e3 hdg (hk H locs ls hP hS hl)
def eBin (o : Nat) (a b : EP sc) : EP sc := ⟨(fun lv d pc => (a.1.1 lv d pc).bind fun p1 => (b.1.1 lv (d + 1) p1).bind fun p2 => cOp sc.2.1 (ik_bi o) p2, sBin o a.1.2 b.1.2), okBin o a b⟩
end EX
end
section
section EH
variable {sc : ik_SC}
-- one int made another: 0 neg, 1 i2b
def ik_ui : Nat → Instr
  | 0 => .ineg | _ => .i2b
def ik_uo : Nat → Int32 → Int32
  | 0, x => -x
  | _, x => x.toInt8.toInt32
def sUn (o : Nat) (a : SS → Option (Int32 × GG)) : SS → Option (Int32 × GG) := fun σ => (a σ).map fun q => (ik_uo o q.1, q.2)
theorem okUn (o : Nat) (a : EP sc) : ik_okE sc (fun lv d pc => (a.1.1 lv d pc).bind fun p1 => cOp sc.2.1 (ik_ui o) p1) (sUn o a.1.2) := by
  intro x hC lv d pc pc' st σ v g' hc hd hs hk
  simp only [Option.bind_eq_some_iff] at hc
  obtain ⟨p1, h1, h3⟩ := hc
  obtain ⟨hdg, rfl⟩ := cOp_ok h3
  simp only [sUn, Option.map_eq_some_iff] at hs
  obtain ⟨⟨v1, g1⟩, e1, e4⟩ := hs
  cases e4
  refine a.2 x hC lv d pc p1 st σ v1 g1 h1 hd e1 ?_
  obtain ⟨p, l, e, s, m, args, below, meth, c, ad, D, cA, A, v0, g0⟩ := x
  obtain ⟨hx, hb, hml, hown, hts, hns, hK, hD, hr, hlk⟩ := hC
  intro H locs ls hP hS hl
  have hk := hk H locs ls hP hS hl
  match o, hk, hdg with
  | 0, hk, hdg => exact lv_ineg hx hb hdg hk
  | n + 1, hk, hdg => exact lv_i2b hx hb hdg rfl hk
def eUn (o : Nat) (a : EP sc) : EP sc := ⟨(fun lv d pc => (a.1.1 lv d pc).bind fun p1 => cOp sc.2.1 (ik_ui o) p1, sUn o a.1.2), okUn o a⟩
def sL2i (a : SS → Option (Int64 × GG)) : SS → Option (Int32 × GG) := fun σ => (a σ).map fun q => (q.1.toInt32, q.2)
theorem okL2i (a : JP sc) : ik_okE sc (fun lv d pc => (a.1.1 lv d pc).bind fun p1 => cOp sc.2.1 .l2i p1) (sL2i a.1.2) := by
  intro x hC lv d pc pc' st σ v g' hc hd hs hk
  simp only [Option.bind_eq_some_iff] at hc
  obtain ⟨p1, h1, h3⟩ := hc
  obtain ⟨hdg, rfl⟩ := cOp_ok h3
  simp only [sL2i, Option.map_eq_some_iff] at hs
  obtain ⟨⟨v1, g1⟩, e1, e4⟩ := hs
  cases e4
  refine a.2 x hC lv d pc p1 st σ v1 g1 h1 hd e1 ?_
  obtain ⟨p, l, e, s, m, args, below, meth, c, ad, D, cA, A, v0, g0⟩ := x
  obtain ⟨hx, hb, hml, hown, hts, hns, hK, hD, hr, hlk⟩ := hC
  intro H locs ls hP hS hl
  exact lv_l2i hx hb hdg rfl (hk H locs ls hP hS hl)
def eL2i (a : JP sc) : EP sc := ⟨(fun lv d pc => (a.1.1 lv d pc).bind fun p1 => cOp sc.2.1 .l2i p1, sL2i a.1.2), okL2i a⟩
def sI2l (a : SS → Option (Int32 × GG)) : SS → Option (Int64 × GG) := fun σ => (a σ).map fun q => (q.1.toInt64, q.2)
theorem okI2l (a : EP sc) : ik_okL sc (fun lv d pc => (a.1.1 lv d pc).bind fun p1 => cOp sc.2.1 .i2l p1) (sI2l a.1.2) := by
  intro x hC lv d pc pc' st σ v g' hc hd hs hk
  simp only [Option.bind_eq_some_iff] at hc
  obtain ⟨p1, h1, h3⟩ := hc
  obtain ⟨hdg, rfl⟩ := cOp_ok h3
  simp only [sI2l, Option.map_eq_some_iff] at hs
  obtain ⟨⟨v1, g1⟩, e1, e4⟩ := hs
  cases e4
  refine a.2 x hC lv d pc p1 st σ v1 g1 h1 hd e1 ?_
  obtain ⟨p, l, e, s, m, args, below, meth, c, ad, D, cA, A, v0, g0⟩ := x
  obtain ⟨hx, hb, hml, hown, hts, hns, hK, hD, hr, hlk⟩ := hC
  intro H locs ls hP hS hl
  exact lv_i2l hx hb hdg rfl (hk H locs ls hP hS hl)
def lI2l (a : EP sc) : JP sc := ⟨(fun lv d pc => (a.1.1 lv d pc).bind fun p1 => cOp sc.2.1 .i2l p1, sI2l a.1.2), okI2l a⟩
-- two longs made one: 0 + 1 *
def ik_ji : Nat → Instr
  | 0 => .ladd | _ => .lmul
def ik_jo : Nat → Int64 → Int64 → Int64
  | 0, x, y => x + y
  | _, x, y => x * y
def sBinL (o : Nat) (a b : SS → Option (Int64 × GG)) : SS → Option (Int64 × GG) := fun σ => (a σ).bind fun q => (b (σ.1, σ.2.1, q.2)).map fun r => (ik_jo o q.1 r.1, r.2)
theorem okBinL (o : Nat) (a b : JP sc) : ik_okL sc (fun lv d pc => (a.1.1 lv d pc).bind fun p1 => (b.1.1 lv (d + 2) p1).bind fun p2 => cOp sc.2.1 (ik_ji o) p2) (sBinL o a.1.2 b.1.2) := by
  intro x hC lv d pc pc' st σ v g' hc hd hs hk
  simp only [Option.bind_eq_some_iff] at hc
  obtain ⟨p1, h1, p2, h2, h3⟩ := hc
  obtain ⟨hdg, rfl⟩ := cOp_ok h3
  simp only [sBinL, Option.bind_eq_some_iff, Option.map_eq_some_iff] at hs
  obtain ⟨⟨v1, g1⟩, e1, ⟨v2, g2⟩, e2, e4⟩ := hs
  cases e4
  refine a.2 x hC lv d pc p1 st σ v1 g1 h1 hd e1 ?_
  refine b.2 x hC lv (d + 2) p1 p2 (.long v1 :: st) (σ.1, σ.2.1, g1) v2 g2 h2 (ik_cat_l hd) e2 ?_
  obtain ⟨p, l, e, s, m, args, below, meth, c, ad, D, cA, A, v0, g0⟩ := x
  obtain ⟨hx, hb, hml, hown, hts, hns, hK, hD, hr, hlk⟩ := hC
  intro H locs ls hP hS hl
  have hk := hk H locs ls hP hS hl
  match o, hk, hdg with
  | 0, hk, hdg => exact lv_ladd hx hb hdg hk
  | n + 1, hk, hdg => exact lv_lmul hx hb hdg hk
def lBin (o : Nat) (a b : JP sc) : JP sc := ⟨(fun lv d pc => (a.1.1 lv d pc).bind fun p1 => (b.1.1 lv (d + 2) p1).bind fun p2 => cOp sc.2.1 (ik_ji o) p2, sBinL o a.1.2 b.1.2), okBinL o a b⟩
-- a reference in a local
def cRloc (cc : ByteArray) (k pc : Nat) : Option Nat := match decode cc pc with
  | .ok (.aload_n n, 1) => if (n : Nat) = k then some (pc + 1) else none
  | .ok (.aload n, 2) => if n = k then some (pc + 2) else none
  | _ => none
theorem okRloc (k id : Nat) : ik_okR sc id (fun _ _ pc => if (k, id) ∈ sc.2.2.2.2.1 then cRloc sc.2.1 k pc else none) := by
  rintro ⟨p, l, e, s, m, args, below, meth, c, ad, D, cA, A, v0, g0⟩ ⟨hx, hb, hml, hown, hts, hns, hK, hD, hr, hlk⟩ lv d pc pc' st σ hc hk
  intro H locs ls hP hS hl
  have hk := hk H locs ls hP hS hl
  dsimp only [cRloc] at hc
  split at hc
  · rename_i hin
    have h1 := ik_lv_ref hl hin
    split at hc
    · rename_i n hdg
      split at hc
      · rename_i he
        cases hc
        exact lv_aload_n hx hb hdg he h1 hk
      · cases hc
    · rename_i n hdg
      split at hc
      · rename_i he
        subst he
        cases hc
        exact lv_aload hx hb hdg h1 hk
      · cases hc
    · cases hc
  · cases hc
def rLoc (k id : Nat) : RP sc id := ⟨fun _ _ pc => if (k, id) ∈ sc.2.2.2.2.1 then cRloc sc.2.1 k pc else none, okRloc k id⟩
-- what the tables say of a field: the number idx in the pool of class own is field k of class ci; and (FW) that it is of kind t, and not final
def ik_FL (own : String) (idx ci k : Nat) : Prop := ∃ (C : String) (T : u_T) (N : Nat) (ty : Nat → FieldType), vwCl[ci]? = some (C, T, N) ∧ k < N ∧ (∀ w ∈ u_ws C T N, w ∈ lw_tbl) ∧ (∀ j, j < N → parseFieldDescriptor (T j).2.2.1 = some (ty j)) ∧ (∀ a, a < N → ∀ b, b < N → a ≠ b → (T a).2.1 ≠ (T b).2.1) ∧ (T k).1 = C ∧ Cond.fieldLink own idx C (T k).2.1 (T k).2.2.1 ∈ lw_tbl
def ik_FW (own : String) (idx ci k t : Nat) : Prop := ∃ (C : String) (T : u_T) (N : Nat) (ty : Nat → FieldType), vwCl[ci]? = some (C, T, N) ∧ k < N ∧ (∀ w ∈ u_ws C T N, w ∈ lw_tbl) ∧ (∀ j, j < N → parseFieldDescriptor (T j).2.2.1 = some (ty j)) ∧ (∀ a, a < N → ∀ b, b < N → a ≠ b → (T a).2.1 ≠ (T b).2.1) ∧ (T k).1 = C ∧ Cond.fieldLink own idx C (T k).2.1 (T k).2.2.1 ∈ lw_tbl ∧ (T k).2.2.2 = false ∧ ty k = ik_ty t
theorem ik_FW.fl {own : String} {idx ci k t : Nat} (h : ik_FW own idx ci k t) : ik_FL own idx ci k := by
  obtain ⟨C, T, N, ty, h1, h2, h3, h4, h5, h6, h7, -⟩ := h
  exact ⟨C, T, N, ty, h1, h2, h3, h4, h5, h6, h7⟩
-- the cell o is an object of class ci, its field k is fd
def ik_isF (wd : List ik_CD) (o ci k : Nat) (fd : Nat ⊕ Nat) : Bool := match wd[o]? with
  | some (.inr (c, fds)) => c == ci && decide (fds[k]? = some fd)
  | _ => false
theorem ik_isF_ok {wd : List ik_CD} {o ci k : Nat} {fd : Nat ⊕ Nat} (h : ik_isF wd o ci k fd = true) : ∃ fds, wd[o]? = some (.inr (ci, fds)) ∧ fds[k]? = some fd := by
  unfold ik_isF at h
  split at h
  · rename_i c fds hw
    simp only [Bool.and_eq_true, beq_iff_eq, decide_eq_true_eq] at h
    exact ⟨fds, by rw [hw, h.1], h.2⟩
  · cases h
def ik_isA (wd : List ik_CD) (a k n : Nat) : Bool := decide (wd[a]? = some (.inl (k, n)))
def cGet (cc : ByteArray) (idx pc : Nat) : Option Nat := match decode cc pc with
  | .ok (.getfield i, 3) => if i = idx then some (pc + 3) else none
  | _ => none
theorem cGet_ok {cc : ByteArray} {idx pc pc' : Nat} (h : cGet cc idx pc = some pc') : decode cc pc = .ok (.getfield idx, 3) ∧ pc' = pc + 3 := by
  unfold cGet at h
  split at h
  · rename_i j hdg
    split at h
    · rename_i he
      subst he
      cases h
      exact ⟨hdg, rfl⟩
    · cases h
  · cases h
-- the row of a getfield in our words
theorem ik_get_row {x : ik_DX} (hC : ik_Cx sc x) {lv : ik_LV} {pc o ci k idx : Nat} {st : List Value} {σ : SS} {fd : Nat ⊕ Nat} {v : Value} (hF : ik_FL sc.2.2.2.1 idx ci k) (hi : ik_isF sc.1 o ci k fd = true) (hv : v = (match fd with
    | .inl t => if t = 1 then Value.long (σ.2.2.2 o k) else Value.int (σ.2.2.1 o k)
    | .inr q => Value.ref (ik_xad x q))) (hdg : decode sc.2.1 pc = .ok (.getfield idx, 3)) (hk : ik_Go sc x lv (pc + 3) (v :: st) σ) : ik_Go sc x lv pc (.ref (ik_xad x o) :: st) σ := by
  obtain ⟨p, l, e, s, m, args, below, meth, c, ad, D, cA, A, v0, g0⟩ := x
  obtain ⟨hx, hb, hml, hown, hts, hns, hK, hD, hr, hlk⟩ := hC
  obtain ⟨C, T, N, ty, h1, h2, h3, h4, h5, h6, h7⟩ := hF
  obtain ⟨fds, hw, hf⟩ := ik_isF_ok hi
  intro H locs ls hP hS hl
  refine va_get (D := D) (ci := ci) (C := C) (T := T) (N := N) (ref := C) (fs := ik_fv ad σ.2.2 o 0 fds) hx hb hts (ik_gd_lays h3) hown hK hP o (by rw [ik_w_at, hw]; rfl) h1 k h2 (hts _ (ik_gd h7 rfl)) (fun y hy => by rw [h6] at hy; exact hy) (v := v) ?_ hdg (hk H locs ls hP hS hl)
  rw [ik_fv_at, hf, hv]
  cases fd with
  | inl t => simp
  | inr q => rfl
-- a reference in a field
theorem okRfld {o : Nat} (r : RP sc o) (idx ci k q : Nat) (hF : ik_FL sc.2.2.2.1 idx ci k) : ik_okR sc q (fun lv d pc => (r.1 lv d pc).bind fun p1 => if ik_isF sc.1 o ci k (.inr q) = true then cGet sc.2.1 idx p1 else none) := by
  intro x hC lv d pc pc' st σ hc hk
  simp only [Option.bind_eq_some_iff] at hc
  obtain ⟨p1, h1, h3⟩ := hc
  split at h3
  · rename_i hi
    obtain ⟨hdg, rfl⟩ := cGet_ok h3
    exact r.2 x hC lv d pc p1 st σ h1 (ik_get_row hC hF hi rfl hdg hk)
  · cases h3
def rFld {o : Nat} (r : RP sc o) (idx ci k q : Nat) (hF : ik_FL sc.2.2.2.1 idx ci k) : RP sc q := ⟨fun lv d pc => (r.1 lv d pc).bind fun p1 => if ik_isF sc.1 o ci k (.inr q) = true then cGet sc.2.1 idx p1 else none, okRfld r idx ci k q hF⟩
-- an int, a long in a field
def sFld (o k : Nat) : SS → Option (Int32 × GG) := fun σ => some (σ.2.2.1 o k, σ.2.2)
def sFldL (o k : Nat) : SS → Option (Int64 × GG) := fun σ => some (σ.2.2.2 o k, σ.2.2)
theorem okFld {o : Nat} (r : RP sc o) (idx ci k t : Nat) (hF : ik_FL sc.2.2.2.1 idx ci k) : ik_okE sc (fun lv d pc => (r.1 lv d pc).bind fun p1 => if ik_isF sc.1 o ci k (.inl t) = true ∧ t ≠ 1 then cGet sc.2.1 idx p1 else none) (sFld o k) := by
  intro x hC lv d pc pc' st σ v g' hc hd hs hk
  simp only [Option.bind_eq_some_iff] at hc
  obtain ⟨p1, h1, h3⟩ := hc
  cases hs
  split at h3
  · rename_i hi
    obtain ⟨hdg, rfl⟩ := cGet_ok h3
    exact r.2 x hC lv d pc p1 st σ h1 (ik_get_row hC hF hi.1 (by simp [hi.2]) hdg hk)
  · cases h3
def eFld {o : Nat} (r : RP sc o) (idx ci k t : Nat) (hF : ik_FL sc.2.2.2.1 idx ci k) : EP sc := ⟨(fun lv d pc => (r.1 lv d pc).bind fun p1 => if ik_isF sc.1 o ci k (.inl t) = true ∧ t ≠ 1 then cGet sc.2.1 idx p1 else none, sFld o k), okFld r idx ci k t hF⟩
theorem okFldL {o : Nat} (r : RP sc o) (idx ci k : Nat) (hF : ik_FL sc.2.2.2.1 idx ci k) : ik_okL sc (fun lv d pc => (r.1 lv d pc).bind fun p1 => if ik_isF sc.1 o ci k (.inl 1) = true then cGet sc.2.1 idx p1 else none) (sFldL o k) := by
  intro x hC lv d pc pc' st σ v g' hc hd hs hk
  simp only [Option.bind_eq_some_iff] at hc
  obtain ⟨p1, h1, h3⟩ := hc
  cases hs
  split at h3
  · rename_i hi
    obtain ⟨hdg, rfl⟩ := cGet_ok h3
    exact r.2 x hC lv d pc p1 st σ h1 (ik_get_row hC hF hi (by simp) hdg hk)
  · cases h3
def lFld {o : Nat} (r : RP sc o) (idx ci k : Nat) (hF : ik_FL sc.2.2.2.1 idx ci k) : JP sc := ⟨(fun lv d pc => (r.1 lv d pc).bind fun p1 => if ik_isF sc.1 o ci k (.inl 1) = true then cGet sc.2.1 idx p1 else none, sFldL o k), okFldL r idx ci k hF⟩
-- an element of an array of n
def ik_ix (i : Int32) (n : Nat) : Option Nat := if i < 0 ∨ n ≤ i.toNatClampNeg then none else some i.toNatClampNeg
theorem ik_ix_ok {i : Int32} {n j : Nat} (h : ik_ix i n = some j) : vp_in i n ∧ j = i.toNatClampNeg := by
  unfold ik_ix at h
  split at h
  · cases h
  · rename_i hn
    cases h
    exact ⟨hn, rfl⟩
theorem ik_isA_ok {wd : List ik_CD} {ad : Nat → Nat} {cA : Nat → ClassId} {g : GG} {a k n : Nat} (h : ik_isA wd a k n = true) : wd[a]? = some (.inl (k, n)) ∧ (ik_w wd ad cA g)[a]? = some (ad a, .inl (cA k, n, if k = 1 then .inr (.inl (g.2 a)) else .inl (g.1 a))) := by
  simp only [ik_isA, decide_eq_true_eq] at h
  exact ⟨h, by rw [ik_w_at, h]; rfl⟩
-- iaload for an int array, baload for the others
def ik_ai : Nat → Instr
  | 0 => .iaload | _ => .baload
def sArr (a n : Nat) (i : SS → Option (Int32 × GG)) : SS → Option (Int32 × GG) := fun σ => (i σ).bind fun q => (ik_ix q.1 n).map fun j => (q.2.1 a j, q.2)
theorem okArr (k n : Nat) {a : Nat} (r : RP sc a) (i : EP sc) : ik_okE sc (fun lv d pc => (r.1 lv d pc).bind fun p1 => (i.1.1 lv (d + 1) p1).bind fun p2 => if ik_isA sc.1 a k n = true ∧ (k = 0 ∨ k = 2 ∨ k = 3) then cOp sc.2.1 (ik_ai k) p2 else none) (sArr a n i.1.2) := by
  intro x hC lv d pc pc' st σ v g' hc hd hs hk
  simp only [Option.bind_eq_some_iff] at hc
  obtain ⟨p1, h1, p2, h2, h3⟩ := hc
  split at h3
  · rename_i hi
    obtain ⟨hdg, rfl⟩ := cOp_ok h3
    simp only [sArr, Option.bind_eq_some_iff, Option.map_eq_some_iff] at hs
    obtain ⟨⟨v1, g1⟩, e1, j, e2, e4⟩ := hs
    cases e4
    obtain ⟨hin, rfl⟩ := ik_ix_ok e2
    refine r.2 x hC lv d pc p1 st σ h1 ?_
    refine i.2 x hC lv (d + 1) p1 p2 _ σ v1 g1 h2 (ik_cat_r hd) e1 ?_
    obtain ⟨p, l, e, s, m, args, below, meth, c, ad, D, cA, A, v0, g0⟩ := x
    obtain ⟨hx, hb, hml, hown, hts, hns, hK, hD, hr, hlk⟩ := hC
    intro H locs ls hP hS hl
    have hk := hk H locs ls hP hS hl
    have ha := (ik_isA_ok (ad := ad) (cA := cA) (g := g1) hi.1).2
    rcases hi.2 with rfl | rfl | rfl
    · exact va_iald hx hb hK hP a 0 ha rfl hin hdg hk
    · exact va_bald hx hb hK hP a 2 ha rfl hin hdg hk
    · exact va_zald hx hb hK hP a 3 ha rfl hin hdg hk
  · cases h3
def eArr (k n : Nat) {a : Nat} (r : RP sc a) (i : EP sc) : EP sc := ⟨(fun lv d pc => (r.1 lv d pc).bind fun p1 => (i.1.1 lv (d + 1) p1).bind fun p2 => if ik_isA sc.1 a k n = true ∧ (k = 0 ∨ k = 2 ∨ k = 3) then cOp sc.2.1 (ik_ai k) p2 else none, sArr a n i.1.2), okArr k n r i⟩
def sArrL (a n : Nat) (i : SS → Option (Int32 × GG)) : SS → Option (Int64 × GG) := fun σ => (i σ).bind fun q => (ik_ix q.1 n).map fun j => (q.2.2 a j, q.2)
theorem okArrL (n : Nat) {a : Nat} (r : RP sc a) (i : EP sc) : ik_okL sc (fun lv d pc => (r.1 lv d pc).bind fun p1 => (i.1.1 lv (d + 1) p1).bind fun p2 => if ik_isA sc.1 a 1 n = true then cOp sc.2.1 .laload p2 else none) (sArrL a n i.1.2) := by
  intro x hC lv d pc pc' st σ v g' hc hd hs hk
  simp only [Option.bind_eq_some_iff] at hc
  obtain ⟨p1, h1, p2, h2, h3⟩ := hc
  split at h3
  · rename_i hi
    obtain ⟨hdg, rfl⟩ := cOp_ok h3
    simp only [sArrL, Option.bind_eq_some_iff, Option.map_eq_some_iff] at hs
    obtain ⟨⟨v1, g1⟩, e1, j, e2, e4⟩ := hs
    cases e4
    obtain ⟨hin, rfl⟩ := ik_ix_ok e2
    refine r.2 x hC lv d pc p1 st σ h1 ?_
    refine i.2 x hC lv (d + 1) p1 p2 _ σ v1 g1 h2 (ik_cat_r hd) e1 ?_
    obtain ⟨p, l, e, s, m, args, below, meth, c, ad, D, cA, A, v0, g0⟩ := x
    obtain ⟨hx, hb, hml, hown, hts, hns, hK, hD, hr, hlk⟩ := hC
    intro H locs ls hP hS hl
    have ha := (ik_isA_ok (ad := ad) (cA := cA) (g := g1) hi).2
    exact va_lald hx hb hK hP a 1 ha rfl hin hdg (hk H locs ls hP hS hl)
  · cases h3
def lArr (n : Nat) {a : Nat} (r : RP sc a) (i : EP sc) : JP sc := ⟨(fun lv d pc => (r.1 lv d pc).bind fun p1 => (i.1.1 lv (d + 1) p1).bind fun p2 => if ik_isA sc.1 a 1 n = true then cOp sc.2.1 .laload p2 else none, sArrL a n i.1.2), okArrL n r i⟩
-- an array's length
theorem okLen (k n : Nat) {a : Nat} (r : RP sc a) : ik_okE sc (fun lv d pc => (r.1 lv d pc).bind fun p1 => if ik_isA sc.1 a k n = true ∧ k ≤ 3 then cOp sc.2.1 .arraylength p1 else none) (sLit (Int32.ofNat n)) := by
  intro x hC lv d pc pc' st σ v g' hc hd hs hk
  simp only [Option.bind_eq_some_iff] at hc
  obtain ⟨p1, h1, h3⟩ := hc
  cases hs
  split at h3
  · rename_i hi
    obtain ⟨hdg, rfl⟩ := cOp_ok h3
    refine r.2 x hC lv d pc p1 st σ h1 ?_
    obtain ⟨p, l, e, s, m, args, below, meth, c, ad, D, cA, A, v0, g0⟩ := x
    obtain ⟨hx, hb, hml, hown, hts, hns, hK, hD, hr, hlk⟩ := hC
    intro H locs ls hP hS hl
    have ha := (ik_isA_ok (ad := ad) (cA := cA) (g := σ.2.2) hi.1).2
    have hk3 : k = 0 ∨ k = 1 ∨ k = 2 ∨ k = 3 := by omega
    rcases hk3 with rfl | rfl | rfl | rfl
    · exact va_alen hx hb hK hP a 0 ha (ty := .int) rfl rfl hdg (hk H locs ls hP hS hl)
    · exact va_alen hx hb hK hP a 1 ha (ty := .long) rfl rfl hdg (hk H locs ls hP hS hl)
    · exact va_alen hx hb hK hP a 2 ha (ty := .byte) rfl rfl hdg (hk H locs ls hP hS hl)
    · exact va_alen hx hb hK hP a 3 ha (ty := .boolean) rfl rfl hdg (hk H locs ls hP hS hl)
  · cases h3
def eLen (k n : Nat) {a : Nat} (r : RP sc a) : EP sc := ⟨(fun lv d pc => (r.1 lv d pc).bind fun p1 => if ik_isA sc.1 a k n = true ∧ k ≤ 3 then cOp sc.2.1 .arraylength p1 else none, sLit (Int32.ofNat n)), okLen k n r⟩
end EH
end
section
-- comparisons: 0 = 1 ≠ 2 < 3 ≥ 4 > 5 ≤
def ik_cc : Nat → ClassFile.Cond
  | 0 => .eq | 1 => .ne | 2 => .lt | 3 => .ge | 4 => .gt | _ => .le
def ik_cmp : Nat → Int32 → Int32 → Bool
  | 0, x, y => decide (x = y)
  | 1, x, y => !decide (x = y)
  | 2, x, y => decide (x < y)
  | 3, x, y => decide (y ≤ x)
  | 4, x, y => decide (y < x)
  | _, x, y => decide (x ≤ y)
def ik_cmpL : Nat → Int64 → Int64 → Bool
  | 0, x, y => decide (x = y)
  | 1, x, y => !decide (x = y)
  | 2, x, y => decide (x < y)
  | 3, x, y => decide (y ≤ x)
  | 4, x, y => decide (y < x)
  | _, x, y => decide (x ≤ y)
def ik_neg : Nat → Nat
  | 0 => 1 | 1 => 0 | 2 => 3 | 3 => 2 | 4 => 5 | _ => 4
theorem ik_cmp_neg (o : Nat) (x y : Int32) : ik_cmp (ik_neg o) x y = !ik_cmp o x y := by
  match o with
  | 0 => rfl
  | 1 => simp [ik_neg, ik_cmp]
  | 2 => simp [ik_neg, ik_cmp, ← Int32.not_lt]
  | 3 => simp [ik_neg, ik_cmp, ← Int32.not_lt]
  | 4 => simp [ik_neg, ik_cmp, ← Int32.not_lt]
  | n + 5 => simp [ik_neg, ik_cmp, ← Int32.not_lt]
theorem ik_lcmp (o : Nat) (x y : Int64) : ik_cmp o (lg_cmp x y) 0 = ik_cmpL o x y := by
  have h1 : (lg_cmp x y = 0) ↔ x = y := by
    unfold lg_cmp
    simp only [gt_iff_lt, Int64.lt_iff_toInt_lt, ← Int64.toInt_inj]
    repeat' split
    · constructor
      · intro h; cases h
      · intro h; omega
    · constructor
      · intro h; assumption
      · intro h; rfl
    · constructor
      · intro h; cases h
      · intro h; omega
  have h2 : (lg_cmp x y < 0) ↔ x < y := by
    unfold lg_cmp
    simp only [gt_iff_lt, Int64.lt_iff_toInt_lt, ← Int64.toInt_inj]
    repeat' split
    · constructor
      · intro h; exact absurd h (by decide)
      · intro h; omega
    · constructor
      · intro h; exact absurd h (by decide)
      · intro h; omega
    · constructor
      · intro h; omega
      · intro h; decide
  have h3 : (0 < lg_cmp x y) ↔ y < x := by
    unfold lg_cmp
    simp only [gt_iff_lt, Int64.lt_iff_toInt_lt, ← Int64.toInt_inj]
    repeat' split
    · constructor
      · intro h; omega
      · intro h; decide
    · constructor
      · intro h; exact absurd h (by decide)
      · intro h; omega
    · constructor
      · intro h; exact absurd h (by decide)
      · intro h; omega
  match o with
  | 0 => simp [ik_cmp, ik_cmpL, h1]
  | 1 => simp [ik_cmp, ik_cmpL, h1]
  | 2 => simp [ik_cmp, ik_cmpL, h2]
  | 3 => simp [ik_cmp, ik_cmpL, ← Int32.not_lt, ← Int64.not_lt, h2]
  | 4 => simp [ik_cmp, ik_cmpL, h3]
  | n + 5 => simp [ik_cmp, ik_cmpL, ← Int32.not_lt, ← Int64.not_lt, h3]
section CR
variable {p : Program} {l : Launch} {e : Env} {R : Room} {s : State} {m : MethodId} {args : Array Value} {below : List Frame} {meth : Method} {c : Code} {H : Heap} {locs : List Loc} {cells slots : Nat} {Q : State → Prop}
theorem ik_icmp_row {cc : ByteArray} {pc : Nat} {ls : Array Slot} {rest : List Value} (hx : p.tables.exec = Jvm.exec) (hb : c.code = cc) {o : Nat} {x y : Int32} {off : Int} {tgt : Nat} (hdg : decode cc pc = .ok (.if_icmp (ik_cc o) off, 3)) (ht : (pc : Int) + off = (tgt : Int)) (k : W p l e R s m args below meth c H locs cells slots Q (F0 m (if ik_cmp o x y = true then tgt else pc + 3) ls rest)) : W p l e R s m args below meth c H locs cells slots Q (F0 m pc ls (.int y :: .int x :: rest)) := by
  match o, k, hdg with
  | 0, k, hdg => exact lv_icmp_eq hx hb hdg ht (fun h => by rwa [if_pos (by simpa [ik_cmp] using h)] at k) (fun h => by rwa [if_neg (by simpa [ik_cmp] using h)] at k)
  | 1, k, hdg => exact lv_icmp_ne hx hb hdg ht (fun h => by rwa [if_pos (by simpa [ik_cmp] using h)] at k) (fun h => by rwa [if_neg (by simpa [ik_cmp] using h)] at k)
  | 2, k, hdg => exact lv_icmp_lt hx hb hdg ht (fun h => by rwa [if_pos (by simpa only [ik_cmp, decide_eq_true_eq] using h)] at k) (fun h => by rwa [if_neg (by simpa only [ik_cmp, decide_eq_true_eq] using h)] at k)
  | 3, k, hdg => exact lv_icmp_ge hx hb hdg ht (fun h => by rwa [if_pos (by simpa only [ik_cmp, decide_eq_true_eq] using h)] at k) (fun h => by rwa [if_neg (by simpa only [ik_cmp, decide_eq_true_eq] using h)] at k)
  | 4, k, hdg => exact lv_icmp_gt hx hb hdg ht (fun h => by rwa [if_pos (by simpa only [ik_cmp, decide_eq_true_eq] using h)] at k) (fun h => by rwa [if_neg (by simpa only [ik_cmp, decide_eq_true_eq] using h)] at k)
  | n + 5, k, hdg => exact lv_icmp_le hx hb hdg ht (fun h => by rwa [if_pos (by simpa only [ik_cmp, decide_eq_true_eq] using h)] at k) (fun h => by rwa [if_neg (by simpa only [ik_cmp, decide_eq_true_eq] using h)] at k)
theorem ik_if_row {cc : ByteArray} {pc : Nat} {ls : Array Slot} {rest : List Value} (hx : p.tables.exec = Jvm.exec) (hb : c.code = cc) {o : Nat} {x : Int32} {off : Int} {tgt : Nat} (hdg : decode cc pc = .ok (.ifCond (ik_cc o) off, 3)) (ht : (pc : Int) + off = (tgt : Int)) (k : W p l e R s m args below meth c H locs cells slots Q (F0 m (if ik_cmp o x 0 = true then tgt else pc + 3) ls rest)) : W p l e R s m args below meth c H locs cells slots Q (F0 m pc ls (.int x :: rest)) := by
  match o, k, hdg with
  | 0, k, hdg => exact lv_if_eq hx hb hdg ht (fun h => by rwa [if_pos (by simpa [ik_cmp] using h)] at k) (fun h => by rwa [if_neg (by simpa [ik_cmp] using h)] at k)
  | 1, k, hdg => exact lv_if_ne hx hb hdg ht (fun h => by rwa [if_pos (by simpa [ik_cmp] using h)] at k) (fun h => by rwa [if_neg (by simpa [ik_cmp] using h)] at k)
  | 2, k, hdg => exact lv_if_lt hx hb hdg ht (fun h => by rwa [if_pos (by simpa only [ik_cmp, decide_eq_true_eq] using h)] at k) (fun h => by rwa [if_neg (by simpa only [ik_cmp, decide_eq_true_eq] using h)] at k)
  | 3, k, hdg => exact lv_if_ge hx hb hdg ht (fun h => by rwa [if_pos (by simpa only [ik_cmp, decide_eq_true_eq] using h)] at k) (fun h => by rwa [if_neg (by simpa only [ik_cmp, decide_eq_true_eq] using h)] at k)
  | 4, k, hdg => exact lv_if_gt hx hb hdg ht (fun h => by rwa [if_pos (by simpa only [ik_cmp, decide_eq_true_eq] using h)] at k) (fun h => by rwa [if_neg (by simpa only [ik_cmp, decide_eq_true_eq] using h)] at k)
  | n + 5, k, hdg => exact lv_if_le hx hb hdg ht (fun h => by rwa [if_pos (by simpa only [ik_cmp, decide_eq_true_eq] using h)] at k) (fun h => by rwa [if_neg (by simpa only [ik_cmp, decide_eq_true_eq] using h)] at k)
end CR
-- the jump at a comparison's end: on true to T, on false to F; behind the jump it may go on by jumps
def ik_jmp (cc : ByteArray) (pc : Nat) (off : Int) (c : ClassFile.Cond) (o T F : Nat) : Bool := (decide (c = ik_cc o) && (decide ((pc : Int) + off = (T : Int)) && ik_reach cc 3 (pc + 3) F)) || (decide (c = ik_cc (ik_neg o)) && (decide ((pc : Int) + off = (F : Int)) && ik_reach cc 3 (pc + 3) T))
def cIcmp (cc : ByteArray) (o T F pc : Nat) : Bool := match decode cc pc with
  | .ok (.if_icmp c off, 3) => ik_jmp cc pc off c o T F
  | _ => false
def cIf (cc : ByteArray) (o T F pc : Nat) : Bool := match decode cc pc with
  | .ok (.ifCond c off, 3) => ik_jmp cc pc off c o T F
  | _ => false
theorem ik_jmp_ok {sc : ik_SC} {x : ik_DX} (hC : ik_Cx sc x) {lv : ik_LV} {st : List Value} {σ : SS} {pc : Nat} {off : Int} {c : ClassFile.Cond} {o T F : Nat} {a b : Int32} (h : ik_jmp sc.2.1 pc off c o T F = true) (hk : ik_Go sc x lv (if ik_cmp o a b = true then T else F) st σ) : ∃ (o' tgt : Nat), c = ik_cc o' ∧ (pc : Int) + off = (tgt : Int) ∧ ik_Go sc x lv (if ik_cmp o' a b = true then tgt else pc + 3) st σ := by
  simp only [ik_jmp, Bool.or_eq_true, Bool.and_eq_true, decide_eq_true_eq] at h
  rcases h with ⟨h1, h2, h3⟩ | ⟨h1, h2, h3⟩
  · refine ⟨o, T, h1, h2, ?_⟩
    cases hb : ik_cmp o a b with
    | true => rw [hb] at hk; exact hk
    | false => rw [hb] at hk; exact ik_reach_ok hC hk 3 _ h3
  · refine ⟨ik_neg o, F, h1, h2, ?_⟩
    rw [ik_cmp_neg]
    cases hb : ik_cmp o a b with
    | true => rw [hb] at hk; exact ik_reach_ok hC hk 3 _ h3
    | false => rw [hb] at hk; exact hk
section CX
variable {sc : ik_SC} {T F : Nat}
def sCmp (o : Nat) (a b : SS → Option (Int32 × GG)) : SS → Option (Bool × GG) := fun σ => (a σ).bind fun q => (b (σ.1, σ.2.1, q.2)).map fun r => (ik_cmp o q.1 r.1, r.2)
theorem okCmp (o : Nat) (a b : EP sc) : ik_okC sc T F (fun lv d pc => match a.1.1 lv d pc with
    | none => false
    | some p1 => match b.1.1 lv (d + 1) p1 with
      | none => false
      | some p2 => cIcmp sc.2.1 o T F p2) (sCmp o a.1.2 b.1.2) := by
  intro x hC lv d pc st σ v g' hc hd hs hk
  dsimp only at hc
  split at hc
  · cases hc
  · rename_i p1 h1
    split at hc
    · cases hc
    · rename_i p2 h2
      unfold cIcmp at hc
      split at hc
      · rename_i c' off hdg
        simp only [sCmp, Option.bind_eq_some_iff, Option.map_eq_some_iff] at hs
        obtain ⟨⟨v1, g1⟩, e1, ⟨v2, g2⟩, e2, e4⟩ := hs
        cases e4
        refine a.2 x hC lv d pc p1 st σ v1 g1 h1 hd e1 ?_
        refine b.2 x hC lv (d + 1) p1 p2 (.int v1 :: st) (σ.1, σ.2.1, g1) v2 g2 h2 (ik_cat_i hd) e2 ?_
        obtain ⟨o', tgt, rfl, ht, hj⟩ := ik_jmp_ok hC hc hk
        obtain ⟨p, l, e, s, m, args, below, meth, c, ad, D, cA, A, v0, g0⟩ := x
        obtain ⟨hx, hb, hml, hown, hts, hns, hK, hD, hr, hlk⟩ := hC
        intro H locs ls hP hS hl
        exact ik_icmp_row hx hb hdg ht (hj H locs ls hP hS hl)
      · cases hc
def cCmp (o : Nat) (a b : EP sc) : CP sc T F := ⟨(fun lv d pc => match a.1.1 lv d pc with
    | none => false
    | some p1 => match b.1.1 lv (d + 1) p1 with
      | none => false
      | some p2 => cIcmp sc.2.1 o T F p2, sCmp o a.1.2 b.1.2), okCmp o a b⟩
def sCmp0 (o : Nat) (a : SS → Option (Int32 × GG)) : SS → Option (Bool × GG) := fun σ => (a σ).map fun q => (ik_cmp o q.1 0, q.2)
theorem okCmp0 (o : Nat) (a : EP sc) : ik_okC sc T F (fun lv d pc => match a.1.1 lv d pc with
    | none => false
    | some p1 => cIf sc.2.1 o T F p1) (sCmp0 o a.1.2) := by
  intro x hC lv d pc st σ v g' hc hd hs hk
  dsimp only at hc
  split at hc
  · cases hc
  · rename_i p1 h1
    unfold cIf at hc
    split at hc
    · rename_i c' off hdg
      simp only [sCmp0, Option.map_eq_some_iff] at hs
      obtain ⟨⟨v1, g1⟩, e1, e4⟩ := hs
      cases e4
      refine a.2 x hC lv d pc p1 st σ v1 g1 h1 hd e1 ?_
      obtain ⟨o', tgt, rfl, ht, hj⟩ := ik_jmp_ok hC hc hk
      obtain ⟨p, l, e, s, m, args, below, meth, c, ad, D, cA, A, v0, g0⟩ := x
      obtain ⟨hx, hb, hml, hown, hts, hns, hK, hD, hr, hlk⟩ := hC
      intro H locs ls hP hS hl
      exact ik_if_row hx hb hdg ht (hj H locs ls hP hS hl)
    · cases hc
def cCmp0 (o : Nat) (a : EP sc) : CP sc T F := ⟨(fun lv d pc => match a.1.1 lv d pc with
    | none => false
    | some p1 => cIf sc.2.1 o T F p1, sCmp0 o a.1.2), okCmp0 o a⟩
def sCmpL (o : Nat) (a b : SS → Option (Int64 × GG)) : SS → Option (Bool × GG) := fun σ => (a σ).bind fun q => (b (σ.1, σ.2.1, q.2)).map fun r => (ik_cmpL o q.1 r.1, r.2)
theorem okCmpL (o : Nat) (a b : JP sc) : ik_okC sc T F (fun lv d pc => match a.1.1 lv d pc with
    | none => false
    | some p1 => match b.1.1 lv (d + 2) p1 with
      | none => false
      | some p2 => match cOp sc.2.1 .lcmp p2 with
        | none => false
        | some p3 => cIf sc.2.1 o T F p3) (sCmpL o a.1.2 b.1.2) := by
  intro x hC lv d pc st σ v g' hc hd hs hk
  dsimp only at hc
  split at hc
  · cases hc
  · rename_i p1 h1
    split at hc
    · cases hc
    · rename_i p2 h2
      split at hc
      · cases hc
      · rename_i p3 h3
        obtain ⟨hdg3, rfl⟩ := cOp_ok h3
        unfold cIf at hc
        split at hc
        · rename_i c' off hdg
          simp only [sCmpL, Option.bind_eq_some_iff, Option.map_eq_some_iff] at hs
          obtain ⟨⟨v1, g1⟩, e1, ⟨v2, g2⟩, e2, e4⟩ := hs
          cases e4
          refine a.2 x hC lv d pc p1 st σ v1 g1 h1 hd e1 ?_
          refine b.2 x hC lv (d + 2) p1 p2 (.long v1 :: st) (σ.1, σ.2.1, g1) v2 g2 h2 (ik_cat_l hd) e2 ?_
          rw [← ik_lcmp] at hk
          obtain ⟨o', tgt, rfl, ht, hj⟩ := ik_jmp_ok hC hc hk
          obtain ⟨p, l, e, s, m, args, below, meth, c, ad, D, cA, A, v0, g0⟩ := x
          obtain ⟨hx, hb, hml, hown, hts, hns, hK, hD, hr, hlk⟩ := hC
          intro H locs ls hP hS hl
          exact W.lcmp hx hb hdg3 (ik_if_row hx hb hdg ht (hj H locs ls hP hS hl))
        · cases hc
def cCmpL (o : Nat) (a b : JP sc) : CP sc T F := ⟨(fun lv d pc => match a.1.1 lv d pc with
    | none => false
    | some p1 => match b.1.1 lv (d + 2) p1 with
      | none => false
      | some p2 => match cOp sc.2.1 .lcmp p2 with
        | none => false
        | some p3 => cIf sc.2.1 o T F p3, sCmpL o a.1.2 b.1.2), okCmpL o a b⟩
-- one and the other; one or the other; not so; of one of two
def sAnd (a b : SS → Option (Bool × GG)) : SS → Option (Bool × GG) := fun σ => (a σ).bind fun q => if q.1 = true then b (σ.1, σ.2.1, q.2) else some (false, q.2)
theorem okAnd (M : Nat) (a : CP sc M F) (b : CP sc T F) : ik_okC sc T F (fun lv d pc => a.1.1 lv d pc && b.1.1 lv d M) (sAnd a.1.2 b.1.2) := by
  intro x hC lv d pc st σ v g' hc hd hs hk
  simp only [Bool.and_eq_true] at hc
  simp only [sAnd, Option.bind_eq_some_iff] at hs
  obtain ⟨⟨v1, g1⟩, e1, e2⟩ := hs
  refine a.2 x hC lv d pc st σ v1 g1 hc.1 hd e1 ?_
  cases v1 with
  | true => exact b.2 x hC lv d M st (σ.1, σ.2.1, g1) v g' hc.2 hd e2 hk
  | false => cases e2; exact hk
def cAnd (M : Nat) (a : CP sc M F) (b : CP sc T F) : CP sc T F := ⟨(fun lv d pc => a.1.1 lv d pc && b.1.1 lv d M, sAnd a.1.2 b.1.2), okAnd M a b⟩
def sOr (a b : SS → Option (Bool × GG)) : SS → Option (Bool × GG) := fun σ => (a σ).bind fun q => if q.1 = true then some (true, q.2) else b (σ.1, σ.2.1, q.2)
theorem okOr (M : Nat) (a : CP sc T M) (b : CP sc T F) : ik_okC sc T F (fun lv d pc => a.1.1 lv d pc && b.1.1 lv d M) (sOr a.1.2 b.1.2) := by
  intro x hC lv d pc st σ v g' hc hd hs hk
  simp only [Bool.and_eq_true] at hc
  simp only [sOr, Option.bind_eq_some_iff] at hs
  obtain ⟨⟨v1, g1⟩, e1, e2⟩ := hs
  refine a.2 x hC lv d pc st σ v1 g1 hc.1 hd e1 ?_
  cases v1 with
  | false => exact b.2 x hC lv d M st (σ.1, σ.2.1, g1) v g' hc.2 hd e2 hk
  | true => cases e2; exact hk
def cOr (M : Nat) (a : CP sc T M) (b : CP sc T F) : CP sc T F := ⟨(fun lv d pc => a.1.1 lv d pc && b.1.1 lv d M, sOr a.1.2 b.1.2), okOr M a b⟩
def sNot (a : SS → Option (Bool × GG)) : SS → Option (Bool × GG) := fun σ => (a σ).map fun q => (!q.1, q.2)
theorem okNot (a : CP sc F T) : ik_okC sc T F (fun lv d pc => a.1.1 lv d pc) (sNot a.1.2) := by
  intro x hC lv d pc st σ v g' hc hd hs hk
  simp only [sNot, Option.map_eq_some_iff] at hs
  obtain ⟨⟨v1, g1⟩, e1, e2⟩ := hs
  cases e2
  refine a.2 x hC lv d pc st σ v1 g1 hc hd e1 ?_
  cases v1 <;> exact hk
def cNot (a : CP sc F T) : CP sc T F := ⟨(fun lv d pc => a.1.1 lv d pc, sNot a.1.2), okNot a⟩
def sIteC (c a b : SS → Option (Bool × GG)) : SS → Option (Bool × GG) := fun σ => (c σ).bind fun q => if q.1 = true then a (σ.1, σ.2.1, q.2) else b (σ.1, σ.2.1, q.2)
theorem okIteC (M1 M2 T1 : Nat) (c : CP sc M1 M2) (a : CP sc T1 F) (b : CP sc T F) : ik_okC sc T F (fun lv d pc => c.1.1 lv d pc && (a.1.1 lv d M1 && (b.1.1 lv d M2 && ik_reach sc.2.1 3 T1 T))) (sIteC c.1.2 a.1.2 b.1.2) := by
  intro x hC lv d pc st σ v g' hc hd hs hk
  simp only [Bool.and_eq_true] at hc
  simp only [sIteC, Option.bind_eq_some_iff] at hs
  obtain ⟨⟨v1, g1⟩, e1, e2⟩ := hs
  refine c.2 x hC lv d pc st σ v1 g1 hc.1 hd e1 ?_
  cases v1 with
  | true =>
    refine a.2 x hC lv d M1 st (σ.1, σ.2.1, g1) v g' hc.2.1 hd e2 ?_
    cases v with
    | true => exact ik_reach_ok hC hk 3 T1 hc.2.2.2
    | false => exact hk
  | false => exact b.2 x hC lv d M2 st (σ.1, σ.2.1, g1) v g' hc.2.2.1 hd e2 hk
def cIteC (M1 M2 T1 : Nat) (c : CP sc M1 M2) (a : CP sc T1 F) (b : CP sc T F) : CP sc T F := ⟨(fun lv d pc => c.1.1 lv d pc && (a.1.1 lv d M1 && (b.1.1 lv d M2 && ik_reach sc.2.1 3 T1 T)), sIteC c.1.2 a.1.2 b.1.2), okIteC M1 M2 T1 c a b⟩
-- of two ints one, by a condition; of two longs
def ik_cnd (cc : ByteArray) (c : Bool) (a b : Option Nat) (E : Nat) : Option Nat := match c, a, b with
  | true, some e1, some e2 => if ik_reach cc 3 e1 E = true ∧ ik_reach cc 3 e2 E = true then some E else none
  | _, _, _ => none
theorem ik_cnd_ok {cc : ByteArray} {c : Bool} {a b : Option Nat} {E p : Nat} (h : ik_cnd cc c a b E = some p) : ∃ e1 e2, c = true ∧ a = some e1 ∧ b = some e2 ∧ ik_reach cc 3 e1 E = true ∧ ik_reach cc 3 e2 E = true ∧ p = E := by
  unfold ik_cnd at h
  split at h
  · split at h
    · rename_i e1 e2 h2
      cases h
      exact ⟨e1, e2, rfl, rfl, rfl, h2.1, h2.2, rfl⟩
    · cases h
  · cases h
def sIte (c : SS → Option (Bool × GG)) (a b : SS → Option (Int32 × GG)) : SS → Option (Int32 × GG) := fun σ => (c σ).bind fun q => if q.1 = true then a (σ.1, σ.2.1, q.2) else b (σ.1, σ.2.1, q.2)
theorem okIte (M1 M2 E : Nat) (c : CP sc M1 M2) (a b : EP sc) : ik_okE sc (fun lv d pc => ik_cnd sc.2.1 (c.1.1 lv d pc) (a.1.1 lv d M1) (b.1.1 lv d M2) E) (sIte c.1.2 a.1.2 b.1.2) := by
  intro x hC lv d pc pc' st σ v g' hc hd hs hk
  obtain ⟨p1, p2, h1, h2, h3, h4, h5, rfl⟩ := ik_cnd_ok hc
  simp only [sIte, Option.bind_eq_some_iff] at hs
  obtain ⟨⟨v1, g1⟩, e1, e2⟩ := hs
  refine c.2 x hC lv d pc st σ v1 g1 h1 hd e1 ?_
  cases v1 with
  | true => exact a.2 x hC lv d M1 p1 st (σ.1, σ.2.1, g1) v g' h2 hd e2 (ik_reach_ok hC hk 3 p1 h4)
  | false => exact b.2 x hC lv d M2 p2 st (σ.1, σ.2.1, g1) v g' h3 hd e2 (ik_reach_ok hC hk 3 p2 h5)
def eIte (M1 M2 E : Nat) (c : CP sc M1 M2) (a b : EP sc) : EP sc := ⟨(fun lv d pc => ik_cnd sc.2.1 (c.1.1 lv d pc) (a.1.1 lv d M1) (b.1.1 lv d M2) E, sIte c.1.2 a.1.2 b.1.2), okIte M1 M2 E c a b⟩
def sIteL (c : SS → Option (Bool × GG)) (a b : SS → Option (Int64 × GG)) : SS → Option (Int64 × GG) := fun σ => (c σ).bind fun q => if q.1 = true then a (σ.1, σ.2.1, q.2) else b (σ.1, σ.2.1, q.2)
theorem okIteL (M1 M2 E : Nat) (c : CP sc M1 M2) (a b : JP sc) : ik_okL sc (fun lv d pc => ik_cnd sc.2.1 (c.1.1 lv d pc) (a.1.1 lv d M1) (b.1.1 lv d M2) E) (sIteL c.1.2 a.1.2 b.1.2) := by
  intro x hC lv d pc pc' st σ v g' hc hd hs hk
  obtain ⟨p1, p2, h1, h2, h3, h4, h5, rfl⟩ := ik_cnd_ok hc
  simp only [sIteL, Option.bind_eq_some_iff] at hs
  obtain ⟨⟨v1, g1⟩, e1, e2⟩ := hs
  refine c.2 x hC lv d pc st σ v1 g1 h1 hd e1 ?_
  cases v1 with
  | true => exact a.2 x hC lv d M1 p1 st (σ.1, σ.2.1, g1) v g' h2 hd e2 (ik_reach_ok hC hk 3 p1 h4)
  | false => exact b.2 x hC lv d M2 p2 st (σ.1, σ.2.1, g1) v g' h3 hd e2 (ik_reach_ok hC hk 3 p2 h5)
def lIte (M1 M2 E : Nat) (c : CP sc M1 M2) (a b : JP sc) : JP sc := ⟨(fun lv d pc => ik_cnd sc.2.1 (c.1.1 lv d pc) (a.1.1 lv d M1) (b.1.1 lv d M2) E, sIteL c.1.2 a.1.2 b.1.2), okIteL M1 M2 E c a b⟩
end CX
end
section
abbrev ST : Type := SS → Option (SS ⊕ (Value × GG))
def ik_res (x : ik_DX) : Value × GG := x.2.2.2.2.2.2.2.2.2.2.2.2.2
def ik_okS (sc : ik_SC) (chk : ik_LV → Nat → Option (ik_LV × Nat)) (sem : ST) : Prop :=
  ∀ (x : ik_DX), ik_Cx sc x → ∀ (lv : ik_LV) (pc : Nat) (lv' : ik_LV) (pc' : Nat) (σ : SS) (o : SS ⊕ (Value × GG)), chk lv pc = some (lv', pc') → sem σ = some o → (∀ σ', o = .inl σ' → ik_Go sc x lv' pc' [] σ') → (∀ r, o = .inr r → ik_res x = r) → ik_Go sc x lv pc [] σ
abbrev SP (sc : ik_SC) : Type := { q : (ik_LV → Nat → Option (ik_LV × Nat)) × ST // ik_okS sc q.1 q.2 }
theorem ik_cat_0 : ik_cat [] ≤ 0 := Nat.le_refl 0
-- locals that a store leaves
def ik_set1 (k : Nat) (lv : ik_LV) : ik_LV := (k, 0) :: lv.filter (fun q => !(q.1 == k) && !(q.1 + 1 == k && q.2 == 1))
def ik_set2 (k : Nat) (lv : ik_LV) : ik_LV := (k, 1) :: lv.filter (fun q => !(q.1 == k) && (!(q.1 == k + 1) && !(q.1 + 1 == k && q.2 == 1)))
theorem ik_lv_set1 {ad : Nat → Nat} {rl lv : ik_LV} {σ : SS} {ls : Array Slot} {n k : Nat} {x : Int32} {g : GG} (hr : rl.all (fun q => !(q.1 == k)) = true) (hl : lv_has ls n ((k, Value.int x) :: (ik_lv ad rl lv σ).filter (fun q => !(q.1 == k) && !(q.1 + 1 == k && q.2.category == 2)))) : lv_has ls n (ik_lv ad rl (ik_set1 k lv) (upd σ.1 k x, σ.2.1, g)) := by
  refine ⟨hl.1, hl.2.1, fun q hq => hl.2.2 q ?_⟩
  simp only [ik_lv, List.mem_append, List.mem_map] at hq
  rcases hq with ⟨a, ha, rfl⟩ | ⟨a, ha, rfl⟩
  · have h1 := List.all_eq_true.mp hr a ha
    refine List.mem_cons_of_mem _ (List.mem_filter.mpr ⟨List.mem_append_left _ (List.mem_map.mpr ⟨a, ha, rfl⟩), ?_⟩)
    simp only [Bool.not_eq_true', beq_eq_false_iff_ne, ne_eq] at h1
    simp [h1, Value.category]
  · rcases List.mem_cons.mp ha with rfl | ha
    · simp [upd]
    · obtain ⟨h1, h2⟩ := List.mem_filter.mp ha
      simp only [Bool.and_eq_true, Bool.not_eq_true', beq_eq_false_iff_ne, ne_eq, Bool.and_eq_false_iff] at h2
      refine List.mem_cons_of_mem _ (List.mem_filter.mpr ⟨List.mem_append_right _ (List.mem_map.mpr ⟨a, h1, ?_⟩), ?_⟩)
      · simp [upd, h2.1]
      · rcases h2.2 with h3 | h3
        · simp [h2.1, h3]
        · simp [h2.1, h3, Value.category]
theorem ik_lv_set2 {ad : Nat → Nat} {rl lv : ik_LV} {σ : SS} {ls : Array Slot} {n k : Nat} {x : Int64} {g : GG} (hr : rl.all (fun q => !(q.1 == k) && !(q.1 == k + 1)) = true) (hl : lv_has ls n ((k, Value.long x) :: (ik_lv ad rl lv σ).filter (fun q => !(q.1 == k) && (!(q.1 == k + 1) && !(q.1 + 1 == k && q.2.category == 2))))) : lv_has ls n (ik_lv ad rl (ik_set2 k lv) (σ.1, vp_updL σ.2.1 k x, g)) := by
  refine ⟨hl.1, hl.2.1, fun q hq => hl.2.2 q ?_⟩
  simp only [ik_lv, List.mem_append, List.mem_map] at hq
  rcases hq with ⟨a, ha, rfl⟩ | ⟨a, ha, rfl⟩
  · have h1 := List.all_eq_true.mp hr a ha
    refine List.mem_cons_of_mem _ (List.mem_filter.mpr ⟨List.mem_append_left _ (List.mem_map.mpr ⟨a, ha, rfl⟩), ?_⟩)
    simp only [Bool.and_eq_true, Bool.not_eq_true', beq_eq_false_iff_ne, ne_eq] at h1
    simp [h1.1, h1.2, Value.category]
  · rcases List.mem_cons.mp ha with rfl | ha
    · simp [vp_updL]
    · obtain ⟨h1, h2⟩ := List.mem_filter.mp ha
      simp only [Bool.and_eq_true, Bool.not_eq_true', beq_eq_false_iff_ne, ne_eq, Bool.and_eq_false_iff] at h2
      refine List.mem_cons_of_mem _ (List.mem_filter.mpr ⟨List.mem_append_right _ (List.mem_map.mpr ⟨a, h1, ?_⟩), ?_⟩)
      · simp [vp_updL, h2.1]
      · rcases h2.2.2 with h3 | h3
        · simp [h2.1, h2.2.1, h3]
        · simp [h2.1, h2.2.1, h3, Value.category]
section SX
variable {sc : ik_SC}
def sSkip : ST := fun σ => some (.inl σ)
theorem okSkip : ik_okS sc (fun lv pc => some (lv, pc)) sSkip := by
  intro x hC lv pc lv' pc' σ o hc hs hk hr
  cases hc
  cases hs
  exact hk _ rfl
def pSkip : SP sc := ⟨(fun lv pc => some (lv, pc), sSkip), okSkip⟩
def sSeq (a b : ST) : ST := fun σ => (a σ).bind fun o => match o with
  | .inl σ' => b σ'
  | .inr r => some (.inr r)
theorem okSeq (a b : SP sc) : ik_okS sc (fun lv pc => (a.1.1 lv pc).bind fun q => b.1.1 q.1 q.2) (sSeq a.1.2 b.1.2) := by
  intro x hC lv pc lv' pc' σ o hc hs hk hr
  simp only [Option.bind_eq_some_iff] at hc
  obtain ⟨⟨lv1, p1⟩, h1, h2⟩ := hc
  simp only [sSeq, Option.bind_eq_some_iff] at hs
  obtain ⟨o1, e1, e2⟩ := hs
  refine a.2 x hC lv pc lv1 p1 σ o1 h1 e1 (fun σ' he => ?_) (fun r he => ?_)
  · subst he
    exact b.2 x hC lv1 p1 lv' pc' σ' o h2 e2 hk hr
  · subst he
    cases e2
    exact hr r rfl
def pSeq (a b : SP sc) : SP sc := ⟨(fun lv pc => (a.1.1 lv pc).bind fun q => b.1.1 q.1 q.2, sSeq a.1.2 b.1.2), okSeq a b⟩
-- a local set
def cIst (cc : ByteArray) (k pc : Nat) : Option Nat := match decode cc pc with
  | .ok (.istore_n n, 1) => if (n : Nat) = k then some (pc + 1) else none
  | .ok (.istore n, 2) => if n = k then some (pc + 2) else none
  | _ => none
def sSet (k : Nat) (e : SS → Option (Int32 × GG)) : ST := fun σ => (e σ).map fun q => .inl (upd σ.1 k q.1, σ.2.1, q.2)
theorem okSet (k : Nat) (e : EP sc) : ik_okS sc (fun lv pc => (e.1.1 lv 0 pc).bind fun p1 => if sc.2.2.2.2.1.all (fun q => !(q.1 == k)) = true ∧ k < sc.2.2.1 then (cIst sc.2.1 k p1).map fun p2 => (ik_set1 k lv, p2) else none) (sSet k e.1.2) := by
  intro x hC lv pc lv' pc' σ o hc hs hk hr
  simp only [Option.bind_eq_some_iff] at hc
  obtain ⟨p1, h1, h2⟩ := hc
  split at h2
  · rename_i hcond
    simp only [Option.map_eq_some_iff] at h2
    obtain ⟨p2, h3, h4⟩ := h2
    cases h4
    simp only [sSet, Option.map_eq_some_iff] at hs
    obtain ⟨⟨v1, g1⟩, e1, e4⟩ := hs
    have hk := hk _ e4.symm
    refine e.2 x hC lv 0 pc p1 [] σ v1 g1 h1 ik_cat_0 e1 ?_
    obtain ⟨p, l, e, s, m, args, below, meth, c, ad, D, cA, A, v0, g0⟩ := x
    obtain ⟨hx, hb, hml, hown, hts, hns, hK, hD, hr, hlk⟩ := hC
    intro H locs ls hP hS hl
    unfold cIst at h3
    split at h3
    · rename_i n hdg
      split at h3
      · rename_i he
        cases h3
        exact lv_istore_n hx hb hdg he hl hcond.2 rfl (fun ls' hl' => hk H locs ls' hP hS (ik_lv_set1 hcond.1 hl'))
      · cases h3
    · rename_i n hdg
      split at h3
      · rename_i he
        subst he
        cases h3
        exact lv_istore hx hb hdg hl hcond.2 rfl (fun ls' hl' => hk H locs ls' hP hS (ik_lv_set1 hcond.1 hl'))
      · cases h3
    · cases h3
  · cases h2
def pSet (k : Nat) (e : EP sc) : SP sc := ⟨(fun lv pc => (e.1.1 lv 0 pc).bind fun p1 => if sc.2.2.2.2.1.all (fun q => !(q.1 == k)) = true ∧ k < sc.2.2.1 then (cIst sc.2.1 k p1).map fun p2 => (ik_set1 k lv, p2) else none, sSet k e.1.2), okSet k e⟩
def cLst (cc : ByteArray) (k pc : Nat) : Option Nat := match decode cc pc with
  | .ok (.lstore_n n, 1) => if (n : Nat) = k then some (pc + 1) else none
  | .ok (.lstore n, 2) => if n = k then some (pc + 2) else none
  | _ => none
def sSetL (k : Nat) (e : SS → Option (Int64 × GG)) : ST := fun σ => (e σ).map fun q => .inl (σ.1, vp_updL σ.2.1 k q.1, q.2)
theorem okSetL (k : Nat) (e : JP sc) : ik_okS sc (fun lv pc => (e.1.1 lv 0 pc).bind fun p1 => if sc.2.2.2.2.1.all (fun q => !(q.1 == k) && !(q.1 == k + 1)) = true ∧ k + 1 < sc.2.2.1 then (cLst sc.2.1 k p1).map fun p2 => (ik_set2 k lv, p2) else none) (sSetL k e.1.2) := by
  intro x hC lv pc lv' pc' σ o hc hs hk hr
  simp only [Option.bind_eq_some_iff] at hc
  obtain ⟨p1, h1, h2⟩ := hc
  split at h2
  · rename_i hcond
    simp only [Option.map_eq_some_iff] at h2
    obtain ⟨p2, h3, h4⟩ := h2
    cases h4
    simp only [sSetL, Option.map_eq_some_iff] at hs
    obtain ⟨⟨v1, g1⟩, e1, e4⟩ := hs
    have hk := hk _ e4.symm
    refine e.2 x hC lv 0 pc p1 [] σ v1 g1 h1 ik_cat_0 e1 ?_
    obtain ⟨p, l, e, s, m, args, below, meth, c, ad, D, cA, A, v0, g0⟩ := x
    obtain ⟨hx, hb, hml, hown, hts, hns, hK, hD, hr, hlk⟩ := hC
    intro H locs ls hP hS hl
    unfold cLst at h3
    split at h3
    · rename_i n hdg
      split at h3
      · rename_i he
        cases h3
        exact lv_lstore_n hx hb hdg he hl hcond.2 rfl (fun ls' hl' => hk H locs ls' hP hS (ik_lv_set2 hcond.1 hl'))
      · cases h3
    · rename_i n hdg
      split at h3
      · rename_i he
        subst he
        cases h3
        exact lv_lstore hx hb hdg hl hcond.2 rfl (fun ls' hl' => hk H locs ls' hP hS (ik_lv_set2 hcond.1 hl'))
      · cases h3
    · cases h3
  · cases h2
def pSetL (k : Nat) (e : JP sc) : SP sc := ⟨(fun lv pc => (e.1.1 lv 0 pc).bind fun p1 => if sc.2.2.2.2.1.all (fun q => !(q.1 == k) && !(q.1 == k + 1)) = true ∧ k + 1 < sc.2.2.1 then (cLst sc.2.1 k p1).map fun p2 => (ik_set2 k lv, p2) else none, sSetL k e.1.2), okSetL k e⟩
def sInc (k : Nat) (v : Int32) : ST := fun σ => some (.inl (upd σ.1 k (σ.1 k + v), σ.2.1, σ.2.2))
def cInc (cc : ByteArray) (k : Nat) (v : Int32) (pc : Nat) : Option Nat := match decode cc pc with
  | .ok (.iinc i n, 3) => if i = k ∧ Int32.ofInt n = v then some (pc + 3) else none
  | _ => none
theorem okInc (k : Nat) (v : Int32) : ik_okS sc (fun lv pc => if sc.2.2.2.2.1.all (fun q => !(q.1 == k)) = true ∧ k < sc.2.2.1 ∧ (k, 0) ∈ lv then (cInc sc.2.1 k v pc).map fun p2 => (ik_set1 k lv, p2) else none) (sInc k v) := by
  intro x hC lv pc lv' pc' σ o hc hs hk hr
  dsimp only at hc
  split at hc
  · rename_i hcond
    simp only [Option.map_eq_some_iff] at hc
    obtain ⟨p2, h3, h4⟩ := hc
    cases h4
    cases hs
    have hk := hk _ rfl
    obtain ⟨p, l, e, s, m, args, below, meth, c, ad, D, cA, A, v0, g0⟩ := x
    obtain ⟨hx, hb, hml, hown, hts, hns, hK, hD, hr, hlk⟩ := hC
    intro H locs ls hP hS hl
    unfold cInc at h3
    split at h3
    · rename_i i n hdg
      split at h3
      · rename_i he
        obtain ⟨rfl, rfl⟩ := he
        cases h3
        have hm : (i, Value.int (σ.1 i)) ∈ ik_lv ad sc.2.2.2.2.1 lv σ := List.mem_append_right _ (List.mem_map.mpr ⟨(i, 0), hcond.2.2, rfl⟩)
        obtain ⟨kk, hkk⟩ := List.getElem?_of_mem hm
        exact lv_iinc hx hb hdg hl hkk rfl hcond.2.1 rfl (fun ls' hl' => hk H locs ls' hP hS (ik_lv_set1 hcond.1 hl'))
      · cases h3
    · cases h3
  · cases hc
def pInc (k : Nat) (v : Int32) : SP sc := ⟨(fun lv pc => if sc.2.2.2.2.1.all (fun q => !(q.1 == k)) = true ∧ k < sc.2.2.1 ∧ (k, 0) ∈ lv then (cInc sc.2.1 k v pc).map fun p2 => (ik_set1 k lv, p2) else none, sInc k v), okInc k v⟩
-- one of two, by a condition
def ik_meet (lv lv1 lv2 : ik_LV) : ik_LV := lv1.filter (fun q => decide (q ∈ lv2))
def ik_cif (cc : ByteArray) (c : Bool) (a b : Option (ik_LV × Nat)) (E : Nat) : Option (ik_LV × Nat) := match c, a, b with
  | true, some q1, some q2 => if ik_reach cc 3 q1.2 E = true ∧ ik_reach cc 3 q2.2 E = true then some (q1.1.filter (fun q => decide (q ∈ q2.1)), E) else none
  | _, _, _ => none
theorem ik_cif_ok {cc : ByteArray} {c : Bool} {a b : Option (ik_LV × Nat)} {E : Nat} {r : ik_LV × Nat} (h : ik_cif cc c a b E = some r) : ∃ q1 q2, c = true ∧ a = some q1 ∧ b = some q2 ∧ ik_reach cc 3 q1.2 E = true ∧ ik_reach cc 3 q2.2 E = true ∧ r = (q1.1.filter (fun q => decide (q ∈ q2.1)), E) := by
  unfold ik_cif at h
  split at h
  · split at h
    · rename_i q1 q2 h2
      cases h
      exact ⟨q1, q2, rfl, rfl, rfl, h2.1, h2.2, rfl⟩
    · cases h
  · cases h
def sIf (c : SS → Option (Bool × GG)) (a b : ST) : ST := fun σ => (c σ).bind fun q => if q.1 = true then a (σ.1, σ.2.1, q.2) else b (σ.1, σ.2.1, q.2)
theorem okIf (T F E : Nat) (c : CP sc T F) (a b : SP sc) : ik_okS sc (fun lv pc => ik_cif sc.2.1 (c.1.1 lv 0 pc) (a.1.1 lv T) (b.1.1 lv F) E) (sIf c.1.2 a.1.2 b.1.2) := by
  intro x hC lv pc lv' pc' σ o hc hs hk hr
  obtain ⟨q1, q2, h1, h2, h3, h4, h5, h6⟩ := ik_cif_ok hc
  cases h6
  simp only [sIf, Option.bind_eq_some_iff] at hs
  obtain ⟨⟨v1, g1⟩, e1, e2⟩ := hs
  refine c.2 x hC lv 0 pc [] σ v1 g1 h1 ik_cat_0 e1 ?_
  cases v1 with
  | true => exact a.2 x hC lv T q1.1 q1.2 (σ.1, σ.2.1, g1) o h2 e2 (fun σ' he => ik_reach_ok hC (ik_Go_sub (fun q hq => (List.mem_filter.mp hq).1) (hk σ' he)) 3 q1.2 h4) hr
  | false => exact b.2 x hC lv F q2.1 q2.2 (σ.1, σ.2.1, g1) o h3 e2 (fun σ' he => ik_reach_ok hC (ik_Go_sub (fun q hq => of_decide_eq_true (List.mem_filter.mp hq).2) (hk σ' he)) 3 q2.2 h5) hr
def pIf (T F E : Nat) (c : CP sc T F) (a b : SP sc) : SP sc := ⟨(fun lv pc => ik_cif sc.2.1 (c.1.1 lv 0 pc) (a.1.1 lv T) (b.1.1 lv F) E, sIf c.1.2 a.1.2 b.1.2), okIf T F E c a b⟩
-- while: at most n times
def sWh (c : SS → Option (Bool × GG)) (b : ST) : Nat → ST
  | 0, _ => none
  | n + 1, σ => (c σ).bind fun q => if q.1 = true then (b (σ.1, σ.2.1, q.2)).bind (fun o => match o with
      | .inl σ' => sWh c b n σ'
      | .inr r => some (.inr r)) else some (.inl (σ.1, σ.2.1, q.2))
def ik_fuel : Nat := 1000000
def ik_cwh (cc : ByteArray) (c : Bool) (lv : ik_LV) (b : Option (ik_LV × Nat)) (pc F E : Nat) : Option (ik_LV × Nat) := match c, b with
  | true, some q1 => if ik_reach cc 3 q1.2 pc = true ∧ ik_reach cc 3 F E = true ∧ lv.all (fun q => decide (q ∈ q1.1)) = true then some (lv, E) else none
  | _, _ => none
theorem ik_cwh_ok {cc : ByteArray} {c : Bool} {lv : ik_LV} {b : Option (ik_LV × Nat)} {pc F E : Nat} {r : ik_LV × Nat} (h : ik_cwh cc c lv b pc F E = some r) : ∃ q1, c = true ∧ b = some q1 ∧ ik_reach cc 3 q1.2 pc = true ∧ ik_reach cc 3 F E = true ∧ (∀ q ∈ lv, q ∈ q1.1) ∧ r = (lv, E) := by
  unfold ik_cwh at h
  split at h
  · split at h
    · rename_i q1 h2
      cases h
      exact ⟨q1, rfl, rfl, h2.1, h2.2.1, fun q hq => of_decide_eq_true (List.all_eq_true.mp h2.2.2 q hq), rfl⟩
    · cases h
  · cases h
theorem okWh (T F E : Nat) (c : CP sc T F) (b : SP sc) (n : Nat) : ik_okS sc (fun lv pc => ik_cwh sc.2.1 (c.1.1 lv 0 pc) lv (b.1.1 lv T) pc F E) (sWh c.1.2 b.1.2 n) := by
  intro x hC lv pc lv' pc' σ o hc
  obtain ⟨q1, h1, h2, h3, h4, h5, h6⟩ := ik_cwh_ok hc
  cases h6
  induction n generalizing σ with
  | zero => intro hs; cases hs
  | succ n ih =>
    intro hs hk hr
    simp only [sWh, Option.bind_eq_some_iff] at hs
    obtain ⟨⟨v1, g1⟩, e1, e2⟩ := hs
    refine c.2 x hC lv 0 pc [] σ v1 g1 h1 ik_cat_0 e1 ?_
    cases v1 with
    | true =>
      simp only [if_true, Option.bind_eq_some_iff] at e2
      obtain ⟨o1, e3, e4⟩ := e2
      refine b.2 x hC lv T q1.1 q1.2 (σ.1, σ.2.1, g1) o1 h2 e3 (fun σ' he => ?_) (fun r he => ?_)
      · subst he
        exact ik_reach_ok hC (ik_Go_sub h5 (ih σ' e4 hk hr)) 3 q1.2 h3
      · subst he
        cases e4
        exact hr r rfl
    | false =>
      simp only [Bool.false_eq_true, if_false] at e2
      cases e2
      exact ik_reach_ok hC (hk _ rfl) 3 F h4
def pWh (T F E : Nat) (c : CP sc T F) (b : SP sc) : SP sc := ⟨(fun lv pc => ik_cwh sc.2.1 (c.1.1 lv 0 pc) lv (b.1.1 lv T) pc F E, sWh c.1.2 b.1.2 ik_fuel), okWh T F E c b ik_fuel⟩
end SX
end
section
section SY
variable {sc : ik_SC}
-- a field written
def ik_bz (t : Nat) (x : Int32) : Bool := !(t == 3) || (decide (x = 0) || decide (x = 1))
theorem ik_bz_ok {t : Nat} {x : Int32} (h : ik_bz t x = true) (ht : t = 0 ∨ t = 3) : narrow (ik_ty t) (.int x) = .int x ∧ fits (ik_ty t) (.int x) = true := by
  rcases ht with rfl | rfl
  · exact ⟨rfl, rfl⟩
  · simp only [ik_bz, Bool.or_eq_true, decide_eq_true_eq] at h
    rcases h with h | h | h
    · exact absurd h (by decide)
    · subst h; exact ⟨rfl, rfl⟩
    · subst h; exact ⟨rfl, rfl⟩
def cPut (cc : ByteArray) (idx pc : Nat) : Option Nat := match decode cc pc with
  | .ok (.putfield i, 3) => if i = idx then some (pc + 3) else none
  | _ => none
theorem cPut_ok {cc : ByteArray} {idx pc pc' : Nat} (h : cPut cc idx pc = some pc') : decode cc pc = .ok (.putfield idx, 3) ∧ pc' = pc + 3 := by
  unfold cPut at h
  split at h
  · rename_i j hdg
    split at h
    · rename_i he
      subst he
      cases h
      exact ⟨hdg, rfl⟩
    · cases h
  · cases h
theorem ik_put_row {x : ik_DX} (hC : ik_Cx sc x) {lv : ik_LV} {pc o ci k t idx : Nat} {st : List Value} {σ : SS} {v : Int32} (hF : ik_FW sc.2.2.2.1 idx ci k t) (hi : ik_isF sc.1 o ci k (.inl t) = true) (ht : t = 0 ∨ t = 3) (hv : ik_bz t v = true) (hdg : decode sc.2.1 pc = .ok (.putfield idx, 3)) (hk : ik_Go sc x lv (pc + 3) st (σ.1, σ.2.1, ik_si σ.2.2 o k v)) : ik_Go sc x lv pc (.int v :: .ref (ik_xad x o) :: st) σ := by
  obtain ⟨p, l, e, s, m, args, below, meth, c, ad, D, cA, A, v0, g0⟩ := x
  obtain ⟨hx, hb, hml, hown, hts, hns, hK, hD, hr, hlk⟩ := hC
  obtain ⟨C, T, N, ty, h1, h2, h3, h4, h5, h6, h7, h8, h9⟩ := hF
  obtain ⟨fds, hw, hf⟩ := ik_isF_ok hi
  obtain ⟨n1, n2⟩ := ik_bz_ok hv ht
  intro H locs ls hP hS hl
  refine va_put (D := D) (ci := ci) (C := C) (T := T) (N := N) (ref := C) (fs := ik_fv ad σ.2.2 o 0 fds) hx hb hts (ik_gd_lays h3) ty h4 h5 hown hK hP (hD σ.2.2) hS o (by rw [ik_w_at, hw]; rfl) h1 k h2 (hts _ (ik_gd h7 rfl)) (fun y hy => by rw [h6] at hy; exact hy) h8 (ty := ik_ty t) (by rw [h4 k h2, h9]) n1 n2 (by rw [ik_fv_len]; exact (List.getElem?_eq_some_iff.mp hf).1) hdg (fun H1 locs1 hP1 hD1 hS1 => ?_)
  have e := ik_w_si_obj (ad := ad) (cA := cA) (g := σ.2.2) (x := v) hw hf (by omega)
  exact hk H1 locs1 ls (by rw [← e]; exact hP1) hS1 hl
theorem ik_putL_row {x : ik_DX} (hC : ik_Cx sc x) {lv : ik_LV} {pc o ci k idx : Nat} {st : List Value} {σ : SS} {v : Int64} (hF : ik_FW sc.2.2.2.1 idx ci k 1) (hi : ik_isF sc.1 o ci k (.inl 1) = true) (hdg : decode sc.2.1 pc = .ok (.putfield idx, 3)) (hk : ik_Go sc x lv (pc + 3) st (σ.1, σ.2.1, ik_sl σ.2.2 o k v)) : ik_Go sc x lv pc (.long v :: .ref (ik_xad x o) :: st) σ := by
  obtain ⟨p, l, e, s, m, args, below, meth, c, ad, D, cA, A, v0, g0⟩ := x
  obtain ⟨hx, hb, hml, hown, hts, hns, hK, hD, hr, hlk⟩ := hC
  obtain ⟨C, T, N, ty, h1, h2, h3, h4, h5, h6, h7, h8, h9⟩ := hF
  obtain ⟨fds, hw, hf⟩ := ik_isF_ok hi
  intro H locs ls hP hS hl
  refine va_put (D := D) (ci := ci) (C := C) (T := T) (N := N) (ref := C) (fs := ik_fv ad σ.2.2 o 0 fds) hx hb hts (ik_gd_lays h3) ty h4 h5 hown hK hP (hD σ.2.2) hS o (by rw [ik_w_at, hw]; rfl) h1 k h2 (hts _ (ik_gd h7 rfl)) (fun y hy => by rw [h6] at hy; exact hy) h8 (ty := ik_ty 1) (by rw [h4 k h2, h9]) rfl rfl (by rw [ik_fv_len]; exact (List.getElem?_eq_some_iff.mp hf).1) hdg (fun H1 locs1 hP1 hD1 hS1 => ?_)
  have e := ik_w_sl_obj (ad := ad) (cA := cA) (g := σ.2.2) (x := v) hw hf
  exact hk H1 locs1 ls (by rw [← e]; exact hP1) hS1 hl
def sPut (o k t : Nat) (e : SS → Option (Int32 × GG)) : ST := fun σ => (e σ).bind fun q => if ik_bz t q.1 = true then some (.inl (σ.1, σ.2.1, ik_si q.2 o k q.1)) else none
theorem okPut {o : Nat} (r : RP sc o) (idx ci k t : Nat) (hF : ik_FW sc.2.2.2.1 idx ci k t) (e : EP sc) : ik_okS sc (fun lv pc => (r.1 lv 0 pc).bind fun p1 => (e.1.1 lv 1 p1).bind fun p2 => if ik_isF sc.1 o ci k (.inl t) = true ∧ (t = 0 ∨ t = 3) then (cPut sc.2.1 idx p2).map fun p3 => (lv, p3) else none) (sPut o k t e.1.2) := by
  intro x hC lv pc lv' pc' σ o1 hc hs hk hr
  simp only [Option.bind_eq_some_iff] at hc
  obtain ⟨p1, h1, p2, h2, h3⟩ := hc
  split at h3
  · rename_i hi
    simp only [Option.map_eq_some_iff] at h3
    obtain ⟨p3, h4, h5⟩ := h3
    cases h5
    obtain ⟨hdg, rfl⟩ := cPut_ok h4
    simp only [sPut, Option.bind_eq_some_iff] at hs
    obtain ⟨⟨v1, g1⟩, e1, e2⟩ := hs
    split at e2
    · rename_i hb
      cases e2
      refine r.2 x hC lv 0 pc p1 [] σ h1 ?_
      refine e.2 x hC lv 1 p1 p2 _ σ v1 g1 h2 (ik_cat_r ik_cat_0) e1 ?_
      exact ik_put_row hC hF hi.1 hi.2 hb hdg (hk _ rfl)
    · cases e2
  · cases h3
def pPut {o : Nat} (r : RP sc o) (idx ci k t : Nat) (hF : ik_FW sc.2.2.2.1 idx ci k t) (e : EP sc) : SP sc := ⟨(fun lv pc => (r.1 lv 0 pc).bind fun p1 => (e.1.1 lv 1 p1).bind fun p2 => if ik_isF sc.1 o ci k (.inl t) = true ∧ (t = 0 ∨ t = 3) then (cPut sc.2.1 idx p2).map fun p3 => (lv, p3) else none, sPut o k t e.1.2), okPut r idx ci k t hF e⟩
def sPutL (o k : Nat) (e : SS → Option (Int64 × GG)) : ST := fun σ => (e σ).map fun q => .inl (σ.1, σ.2.1, ik_sl q.2 o k q.1)
theorem okPutL {o : Nat} (r : RP sc o) (idx ci k : Nat) (hF : ik_FW sc.2.2.2.1 idx ci k 1) (e : JP sc) : ik_okS sc (fun lv pc => (r.1 lv 0 pc).bind fun p1 => (e.1.1 lv 1 p1).bind fun p2 => if ik_isF sc.1 o ci k (.inl 1) = true then (cPut sc.2.1 idx p2).map fun p3 => (lv, p3) else none) (sPutL o k e.1.2) := by
  intro x hC lv pc lv' pc' σ o1 hc hs hk hr
  simp only [Option.bind_eq_some_iff] at hc
  obtain ⟨p1, h1, p2, h2, h3⟩ := hc
  split at h3
  · rename_i hi
    simp only [Option.map_eq_some_iff] at h3
    obtain ⟨p3, h4, h5⟩ := h3
    cases h5
    obtain ⟨hdg, rfl⟩ := cPut_ok h4
    simp only [sPutL, Option.map_eq_some_iff] at hs
    obtain ⟨⟨v1, g1⟩, e1, e2⟩ := hs
    cases e2
    refine r.2 x hC lv 0 pc p1 [] σ h1 ?_
    refine e.2 x hC lv 1 p1 p2 _ σ v1 g1 h2 (ik_cat_r ik_cat_0) e1 ?_
    exact ik_putL_row hC hF hi hdg (hk _ rfl)
  · cases h3
def pPutL {o : Nat} (r : RP sc o) (idx ci k : Nat) (hF : ik_FW sc.2.2.2.1 idx ci k 1) (e : JP sc) : SP sc := ⟨(fun lv pc => (r.1 lv 0 pc).bind fun p1 => (e.1.1 lv 1 p1).bind fun p2 => if ik_isF sc.1 o ci k (.inl 1) = true then (cPut sc.2.1 idx p2).map fun p3 => (lv, p3) else none, sPutL o k e.1.2), okPutL r idx ci k hF e⟩
-- a field changed in place: r; dup; getfield; e; op; putfield
theorem ik_dup_row {x : ik_DX} (hC : ik_Cx sc x) {lv : ik_LV} {pc : Nat} {v : Value} {st : List Value} {σ : SS} (hv : v.category = 1) (hdg : decode sc.2.1 pc = .ok (.dup, 1)) (hk : ik_Go sc x lv (pc + 1) (v :: v :: st) σ) : ik_Go sc x lv pc (v :: st) σ := by
  obtain ⟨p, l, e, s, m, args, below, meth, c, ad, D, cA, A, v0, g0⟩ := x
  obtain ⟨hx, hb, hml, hown, hts, hns, hK, hD, hr, hlk⟩ := hC
  intro H locs ls hP hS hl
  exact lv_dup hx hb hdg hv (hk H locs ls hP hS hl)
theorem ik_dup2_row {x : ik_DX} (hC : ik_Cx sc x) {lv : ik_LV} {pc : Nat} {v w : Value} {st : List Value} {σ : SS} (hv : v.category = 1) (hw : w.category = 1) (hdg : decode sc.2.1 pc = .ok (.dup2, 1)) (hk : ik_Go sc x lv (pc + 1) (v :: w :: v :: w :: st) σ) : ik_Go sc x lv pc (v :: w :: st) σ := by
  obtain ⟨p, l, e, s, m, args, below, meth, c, ad, D, cA, A, v0, g0⟩ := x
  obtain ⟨hx, hb, hml, hown, hts, hns, hK, hD, hr, hlk⟩ := hC
  intro H locs ls hP hS hl
  exact lv_dup2_11 hx hb hdg hv hw (hk H locs ls hP hS hl)
theorem ik_op_row {x : ik_DX} (hC : ik_Cx sc x) {lv : ik_LV} {pc o : Nat} {a b z : Int32} {st : List Value} {σ : SS} (hz : ik_bo o a b = some z) (hdg : decode sc.2.1 pc = .ok (ik_bi o, 1)) (hk : ik_Go sc x lv (pc + 1) (.int z :: st) σ) : ik_Go sc x lv pc (.int b :: .int a :: st) σ := by
  obtain ⟨p, l, e, s, m, args, below, meth, c, ad, D, cA, A, v0, g0⟩ := x
  obtain ⟨hx, hb, hml, hown, hts, hns, hK, hD, hr, hlk⟩ := hC
  intro H locs ls hP hS hl
  exact ik_bin_row hx hb hz hdg (hk H locs ls hP hS hl)
theorem ik_ladd_row {x : ik_DX} (hC : ik_Cx sc x) {lv : ik_LV} {pc : Nat} {a b : Int64} {st : List Value} {σ : SS} (hdg : decode sc.2.1 pc = .ok (.ladd, 1)) (hk : ik_Go sc x lv (pc + 1) (.long (a + b) :: st) σ) : ik_Go sc x lv pc (.long b :: .long a :: st) σ := by
  obtain ⟨p, l, e, s, m, args, below, meth, c, ad, D, cA, A, v0, g0⟩ := x
  obtain ⟨hx, hb, hml, hown, hts, hns, hK, hD, hr, hlk⟩ := hC
  intro H locs ls hP hS hl
  exact lv_ladd hx hb hdg (hk H locs ls hP hS hl)
def sPutOp (o k w : Nat) (e : SS → Option (Int32 × GG)) : ST := fun σ => (e σ).bind fun q => (ik_bo w (σ.2.2.1 o k) q.1).map fun z => .inl (σ.1, σ.2.1, ik_si q.2 o k z)
theorem okPutOp {o : Nat} (r : RP sc o) (idx ci k w : Nat) (hF : ik_FW sc.2.2.2.1 idx ci k 0) (e : EP sc) : ik_okS sc (fun lv pc => (r.1 lv 0 pc).bind fun p1 => (cOp sc.2.1 .dup p1).bind fun p2 => if ik_isF sc.1 o ci k (.inl 0) = true then (cGet sc.2.1 idx p2).bind fun p3 => (e.1.1 lv 2 p3).bind fun p4 => (cOp sc.2.1 (ik_bi w) p4).bind fun p5 => (cPut sc.2.1 idx p5).map fun p6 => (lv, p6) else none) (sPutOp o k w e.1.2) := by
  intro x hC lv pc lv' pc' σ o1 hc hs hk hr
  simp only [Option.bind_eq_some_iff] at hc
  obtain ⟨p1, h1, p2, h2, h3⟩ := hc
  split at h3
  · rename_i hi
    simp only [Option.bind_eq_some_iff, Option.map_eq_some_iff] at h3
    obtain ⟨p3, h4, p4, h5, p5, h6, p6, h7, h8⟩ := h3
    cases h8
    obtain ⟨d2, rfl⟩ := cOp_ok h2
    obtain ⟨d3, rfl⟩ := cGet_ok h4
    obtain ⟨d5, rfl⟩ := cOp_ok h6
    obtain ⟨d6, rfl⟩ := cPut_ok h7
    simp only [sPutOp, Option.bind_eq_some_iff, Option.map_eq_some_iff] at hs
    obtain ⟨⟨v1, g1⟩, e1, z, e2, e3⟩ := hs
    cases e3
    refine r.2 x hC lv 0 pc p1 [] σ h1 ?_
    refine ik_dup_row hC rfl d2 ?_
    refine ik_get_row hC hF.fl hi (by simp; rfl) d3 ?_
    refine e.2 x hC lv 2 _ p4 _ σ v1 g1 h5 (ik_cat_i (ik_cat_r ik_cat_0)) e1 ?_
    refine ik_op_row hC e2 d5 ?_
    exact ik_put_row hC hF hi (Or.inl rfl) rfl d6 (hk _ rfl)
  · cases h3
def pPutOp {o : Nat} (r : RP sc o) (idx ci k w : Nat) (hF : ik_FW sc.2.2.2.1 idx ci k 0) (e : EP sc) : SP sc := ⟨(fun lv pc => (r.1 lv 0 pc).bind fun p1 => (cOp sc.2.1 .dup p1).bind fun p2 => if ik_isF sc.1 o ci k (.inl 0) = true then (cGet sc.2.1 idx p2).bind fun p3 => (e.1.1 lv 2 p3).bind fun p4 => (cOp sc.2.1 (ik_bi w) p4).bind fun p5 => (cPut sc.2.1 idx p5).map fun p6 => (lv, p6) else none, sPutOp o k w e.1.2), okPutOp r idx ci k w hF e⟩
def sPutOpL (o k : Nat) (e : SS → Option (Int64 × GG)) : ST := fun σ => (e σ).map fun q => .inl (σ.1, σ.2.1, ik_sl q.2 o k (σ.2.2.2 o k + q.1))
theorem okPutOpL {o : Nat} (r : RP sc o) (idx ci k : Nat) (hF : ik_FW sc.2.2.2.1 idx ci k 1) (e : JP sc) : ik_okS sc (fun lv pc => (r.1 lv 0 pc).bind fun p1 => (cOp sc.2.1 .dup p1).bind fun p2 => if ik_isF sc.1 o ci k (.inl 1) = true then (cGet sc.2.1 idx p2).bind fun p3 => (e.1.1 lv 3 p3).bind fun p4 => (cOp sc.2.1 .ladd p4).bind fun p5 => (cPut sc.2.1 idx p5).map fun p6 => (lv, p6) else none) (sPutOpL o k e.1.2) := by
  intro x hC lv pc lv' pc' σ o1 hc hs hk hr
  simp only [Option.bind_eq_some_iff] at hc
  obtain ⟨p1, h1, p2, h2, h3⟩ := hc
  split at h3
  · rename_i hi
    simp only [Option.bind_eq_some_iff, Option.map_eq_some_iff] at h3
    obtain ⟨p3, h4, p4, h5, p5, h6, p6, h7, h8⟩ := h3
    cases h8
    obtain ⟨d2, rfl⟩ := cOp_ok h2
    obtain ⟨d3, rfl⟩ := cGet_ok h4
    obtain ⟨d5, rfl⟩ := cOp_ok h6
    obtain ⟨d6, rfl⟩ := cPut_ok h7
    simp only [sPutOpL, Option.map_eq_some_iff] at hs
    obtain ⟨⟨v1, g1⟩, e1, e3⟩ := hs
    cases e3
    refine r.2 x hC lv 0 pc p1 [] σ h1 ?_
    refine ik_dup_row hC rfl d2 ?_
    refine ik_get_row hC hF.fl hi (by simp; rfl) d3 ?_
    refine e.2 x hC lv 3 _ p4 _ σ v1 g1 h5 (ik_cat_l (ik_cat_r ik_cat_0)) e1 ?_
    refine ik_ladd_row hC d5 ?_
    exact ik_putL_row hC hF hi d6 (hk _ rfl)
  · cases h3
def pPutOpL {o : Nat} (r : RP sc o) (idx ci k : Nat) (hF : ik_FW sc.2.2.2.1 idx ci k 1) (e : JP sc) : SP sc := ⟨(fun lv pc => (r.1 lv 0 pc).bind fun p1 => (cOp sc.2.1 .dup p1).bind fun p2 => if ik_isF sc.1 o ci k (.inl 1) = true then (cGet sc.2.1 idx p2).bind fun p3 => (e.1.1 lv 3 p3).bind fun p4 => (cOp sc.2.1 .ladd p4).bind fun p5 => (cPut sc.2.1 idx p5).map fun p6 => (lv, p6) else none, sPutOpL o k e.1.2), okPutOpL r idx ci k hF e⟩
-- an element written: what is kept of x in an array of kind k
def ik_as (k : Nat) (x : Int32) : Option Int32 := match k with
  | 0 => some x
  | 2 => some x.toInt8.toInt32
  | 3 => if x = 0 ∨ x = 1 then some x else none
  | _ => none
def ik_asi : Nat → Instr
  | 0 => .iastore | _ => .bastore
theorem ik_ast_row {x : ik_DX} (hC : ik_Cx sc x) {lv : ik_LV} {pc a k n : Nat} {st : List Value} {σ : SS} {i v z : Int32} {j : Nat} (hi : ik_isA sc.1 a k n = true) (hv : ik_as k v = some z) (hj : ik_ix i n = some j) (hdg : decode sc.2.1 pc = .ok (ik_asi k, 1)) (hk : ik_Go sc x lv (pc + 1) st (σ.1, σ.2.1, ik_si σ.2.2 a j z)) : ik_Go sc x lv pc (.int v :: .int i :: .ref (ik_xad x a) :: st) σ := by
  obtain ⟨p, l, e, s, m, args, below, meth, c, ad, D, cA, A, v0, g0⟩ := x
  obtain ⟨hx, hb, hml, hown, hts, hns, hK, hD, hr, hlk⟩ := hC
  obtain ⟨hin, rfl⟩ := ik_ix_ok hj
  obtain ⟨hw, ha⟩ := ik_isA_ok (ad := ad) (cA := cA) (g := σ.2.2) hi
  intro H locs ls hP hS hl
  have fin : ∀ (H1 : Heap) (locs1 : List Loc), k ≠ 1 → va_P D vwCl ((ik_w sc.1 ad cA σ.2.2).set a (ad a, .inl (cA k, n, .inl (upd (σ.2.2.1 a) i.toNatClampNeg z)))) H1 → va_S A s.heap H1 locs1 → W p l e (ik_rm sc.2.2.2.2.2.1) s m args below meth c H1 locs1 0 0 (MQ below (ik_Q sc.1 ad D cA A v0 g0) args s 0 0 A) (F0 m (pc + 1) ls st) := by
    intro H1 locs1 hk1 hP1 hS1
    rw [ik_w_si_arr hw hk1] at hP1
    exact hk H1 locs1 ls hP1 hS1 hl
  unfold ik_as at hv
  split at hv
  · cases hv
    exact va_iast hx hb hK hP (hD _) hS a 0 ha rfl hin hdg (fun H1 locs1 hP1 _ hS1 => fin H1 locs1 (by decide) hP1 hS1)
  · cases hv
    exact va_bast hx hb hK hP (hD _) hS a 2 ha rfl hin hdg (fun H1 locs1 hP1 _ hS1 => fin H1 locs1 (by decide) hP1 hS1)
  · split at hv
    · rename_i hb1
      cases hv
      have e : vp_nar .boolean v = v := by rcases hb1 with rfl | rfl <;> rfl
      exact va_zast hx hb hK hP (hD _) hS a 3 ha rfl hin hdg (fun H1 locs1 hP1 _ hS1 => fin H1 locs1 (by decide) (by rw [e] at hP1; exact hP1) hS1)
    · cases hv
  · cases hv
theorem ik_lst_row {x : ik_DX} (hC : ik_Cx sc x) {lv : ik_LV} {pc a n : Nat} {st : List Value} {σ : SS} {i : Int32} {v : Int64} {j : Nat} (hi : ik_isA sc.1 a 1 n = true) (hj : ik_ix i n = some j) (hdg : decode sc.2.1 pc = .ok (.lastore, 1)) (hk : ik_Go sc x lv (pc + 1) st (σ.1, σ.2.1, ik_sl σ.2.2 a j v)) : ik_Go sc x lv pc (.long v :: .int i :: .ref (ik_xad x a) :: st) σ := by
  obtain ⟨p, l, e, s, m, args, below, meth, c, ad, D, cA, A, v0, g0⟩ := x
  obtain ⟨hx, hb, hml, hown, hts, hns, hK, hD, hr, hlk⟩ := hC
  obtain ⟨hin, rfl⟩ := ik_ix_ok hj
  obtain ⟨hw, ha⟩ := ik_isA_ok (ad := ad) (cA := cA) (g := σ.2.2) hi
  intro H locs ls hP hS hl
  refine va_last hx hb hK hP (hD _) hS a 1 ha rfl hin hdg (fun H1 locs1 hP1 _ hS1 => ?_)
  rw [ik_w_sl_arr hw] at hP1
  exact hk H1 locs1 ls hP1 hS1 hl
theorem ik_ald_row {x : ik_DX} (hC : ik_Cx sc x) {lv : ik_LV} {pc a n : Nat} {st : List Value} {σ : SS} {i : Int32} {j : Nat} (hi : ik_isA sc.1 a 0 n = true) (hj : ik_ix i n = some j) (hdg : decode sc.2.1 pc = .ok (.iaload, 1)) (hk : ik_Go sc x lv (pc + 1) (.int (σ.2.2.1 a j) :: st) σ) : ik_Go sc x lv pc (.int i :: .ref (ik_xad x a) :: st) σ := by
  obtain ⟨p, l, e, s, m, args, below, meth, c, ad, D, cA, A, v0, g0⟩ := x
  obtain ⟨hx, hb, hml, hown, hts, hns, hK, hD, hr, hlk⟩ := hC
  obtain ⟨hin, rfl⟩ := ik_ix_ok hj
  obtain ⟨hw, ha⟩ := ik_isA_ok (ad := ad) (cA := cA) (g := σ.2.2) hi
  intro H locs ls hP hS hl
  exact va_iald hx hb hK hP a 0 ha rfl hin hdg (hk H locs ls hP hS hl)
theorem ik_lld_row {x : ik_DX} (hC : ik_Cx sc x) {lv : ik_LV} {pc a n : Nat} {st : List Value} {σ : SS} {i : Int32} {j : Nat} (hi : ik_isA sc.1 a 1 n = true) (hj : ik_ix i n = some j) (hdg : decode sc.2.1 pc = .ok (.laload, 1)) (hk : ik_Go sc x lv (pc + 1) (.long (σ.2.2.2 a j) :: st) σ) : ik_Go sc x lv pc (.int i :: .ref (ik_xad x a) :: st) σ := by
  obtain ⟨p, l, e, s, m, args, below, meth, c, ad, D, cA, A, v0, g0⟩ := x
  obtain ⟨hx, hb, hml, hown, hts, hns, hK, hD, hr, hlk⟩ := hC
  obtain ⟨hin, rfl⟩ := ik_ix_ok hj
  obtain ⟨hw, ha⟩ := ik_isA_ok (ad := ad) (cA := cA) (g := σ.2.2) hi
  intro H locs ls hP hS hl
  exact va_lald hx hb hK hP a 1 ha rfl hin hdg (hk H locs ls hP hS hl)
def sAst (a k n : Nat) (i e : SS → Option (Int32 × GG)) : ST := fun σ => (i σ).bind fun q => (e (σ.1, σ.2.1, q.2)).bind fun w => (ik_ix q.1 n).bind fun j => (ik_as k w.1).map fun z => .inl (σ.1, σ.2.1, ik_si w.2 a j z)
theorem okAst (k n : Nat) {a : Nat} (r : RP sc a) (i e : EP sc) : ik_okS sc (fun lv pc => (r.1 lv 0 pc).bind fun p1 => (i.1.1 lv 1 p1).bind fun p2 => (e.1.1 lv 2 p2).bind fun p3 => if ik_isA sc.1 a k n = true then (cOp sc.2.1 (ik_asi k) p3).map fun p4 => (lv, p4) else none) (sAst a k n i.1.2 e.1.2) := by
  intro x hC lv pc lv' pc' σ o1 hc hs hk hr
  simp only [Option.bind_eq_some_iff] at hc
  obtain ⟨p1, h1, p2, h2, p3, h3, h4⟩ := hc
  split at h4
  · rename_i hi
    simp only [Option.map_eq_some_iff] at h4
    obtain ⟨p4, h5, h6⟩ := h4
    cases h6
    obtain ⟨hdg, rfl⟩ := cOp_ok h5
    simp only [sAst, Option.bind_eq_some_iff, Option.map_eq_some_iff] at hs
    obtain ⟨⟨v1, g1⟩, e1, ⟨v2, g2⟩, e2, j, e3, z, e4, e5⟩ := hs
    cases e5
    refine r.2 x hC lv 0 pc p1 [] σ h1 ?_
    refine i.2 x hC lv 1 p1 p2 _ σ v1 g1 h2 (ik_cat_r ik_cat_0) e1 ?_
    refine e.2 x hC lv 2 p2 p3 _ (σ.1, σ.2.1, g1) v2 g2 h3 (ik_cat_i (ik_cat_r ik_cat_0)) e2 ?_
    exact ik_ast_row hC hi e4 e3 hdg (hk _ rfl)
  · cases h4
def pAst (k n : Nat) {a : Nat} (r : RP sc a) (i e : EP sc) : SP sc := ⟨(fun lv pc => (r.1 lv 0 pc).bind fun p1 => (i.1.1 lv 1 p1).bind fun p2 => (e.1.1 lv 2 p2).bind fun p3 => if ik_isA sc.1 a k n = true then (cOp sc.2.1 (ik_asi k) p3).map fun p4 => (lv, p4) else none, sAst a k n i.1.2 e.1.2), okAst k n r i e⟩
def sAstL (a n : Nat) (i : SS → Option (Int32 × GG)) (e : SS → Option (Int64 × GG)) : ST := fun σ => (i σ).bind fun q => (e (σ.1, σ.2.1, q.2)).bind fun w => (ik_ix q.1 n).map fun j => .inl (σ.1, σ.2.1, ik_sl w.2 a j w.1)
theorem okAstL (n : Nat) {a : Nat} (r : RP sc a) (i : EP sc) (e : JP sc) : ik_okS sc (fun lv pc => (r.1 lv 0 pc).bind fun p1 => (i.1.1 lv 1 p1).bind fun p2 => (e.1.1 lv 2 p2).bind fun p3 => if ik_isA sc.1 a 1 n = true then (cOp sc.2.1 .lastore p3).map fun p4 => (lv, p4) else none) (sAstL a n i.1.2 e.1.2) := by
  intro x hC lv pc lv' pc' σ o1 hc hs hk hr
  simp only [Option.bind_eq_some_iff] at hc
  obtain ⟨p1, h1, p2, h2, p3, h3, h4⟩ := hc
  split at h4
  · rename_i hi
    simp only [Option.map_eq_some_iff] at h4
    obtain ⟨p4, h5, h6⟩ := h4
    cases h6
    obtain ⟨hdg, rfl⟩ := cOp_ok h5
    simp only [sAstL, Option.bind_eq_some_iff, Option.map_eq_some_iff] at hs
    obtain ⟨⟨v1, g1⟩, e1, ⟨v2, g2⟩, e2, j, e3, e5⟩ := hs
    cases e5
    refine r.2 x hC lv 0 pc p1 [] σ h1 ?_
    refine i.2 x hC lv 1 p1 p2 _ σ v1 g1 h2 (ik_cat_r ik_cat_0) e1 ?_
    refine e.2 x hC lv 2 p2 p3 _ (σ.1, σ.2.1, g1) v2 g2 h3 (ik_cat_i (ik_cat_r ik_cat_0)) e2 ?_
    exact ik_lst_row hC hi e3 hdg (hk _ rfl)
  · cases h4
def pAstL (n : Nat) {a : Nat} (r : RP sc a) (i : EP sc) (e : JP sc) : SP sc := ⟨(fun lv pc => (r.1 lv 0 pc).bind fun p1 => (i.1.1 lv 1 p1).bind fun p2 => (e.1.1 lv 2 p2).bind fun p3 => if ik_isA sc.1 a 1 n = true then (cOp sc.2.1 .lastore p3).map fun p4 => (lv, p4) else none, sAstL a n i.1.2 e.1.2), okAstL n r i e⟩
-- an element changed in place: r; i; dup2; iaload; e; op; iastore
def sAop (a n w : Nat) (i e : SS → Option (Int32 × GG)) : ST := fun σ => (i σ).bind fun q => (ik_ix q.1 n).bind fun j => (e (σ.1, σ.2.1, q.2)).bind fun y => (ik_bo w (q.2.1 a j) y.1).map fun z => .inl (σ.1, σ.2.1, ik_si y.2 a j z)
theorem okAop (n w : Nat) {a : Nat} (r : RP sc a) (i e : EP sc) : ik_okS sc (fun lv pc => (r.1 lv 0 pc).bind fun p1 => (i.1.1 lv 1 p1).bind fun p2 => (cOp sc.2.1 .dup2 p2).bind fun p3 => if ik_isA sc.1 a 0 n = true then (cOp sc.2.1 .iaload p3).bind fun p4 => (e.1.1 lv 3 p4).bind fun p5 => (cOp sc.2.1 (ik_bi w) p5).bind fun p6 => (cOp sc.2.1 .iastore p6).map fun p7 => (lv, p7) else none) (sAop a n w i.1.2 e.1.2) := by
  intro x hC lv pc lv' pc' σ o1 hc hs hk hr
  simp only [Option.bind_eq_some_iff] at hc
  obtain ⟨p1, h1, p2, h2, p3, h3, h4⟩ := hc
  split at h4
  · rename_i hi
    simp only [Option.bind_eq_some_iff, Option.map_eq_some_iff] at h4
    obtain ⟨p4, h5, p5, h6, p6, h7, p7, h8, h9⟩ := h4
    cases h9
    obtain ⟨d3, rfl⟩ := cOp_ok h3
    obtain ⟨d4, rfl⟩ := cOp_ok h5
    obtain ⟨d6, rfl⟩ := cOp_ok h7
    obtain ⟨d7, rfl⟩ := cOp_ok h8
    simp only [sAop, Option.bind_eq_some_iff, Option.map_eq_some_iff] at hs
    obtain ⟨⟨v1, g1⟩, e1, j, e3, ⟨v2, g2⟩, e2, z, e4, e5⟩ := hs
    cases e5
    refine r.2 x hC lv 0 pc p1 [] σ h1 ?_
    refine i.2 x hC lv 1 p1 p2 _ σ v1 g1 h2 (ik_cat_r ik_cat_0) e1 ?_
    refine ik_dup2_row hC rfl rfl d3 ?_
    refine ik_ald_row hC hi e3 d4 ?_
    refine e.2 x hC lv 3 _ p5 _ (σ.1, σ.2.1, g1) v2 g2 h6 (ik_cat_i (ik_cat_i (ik_cat_r ik_cat_0))) e2 ?_
    refine ik_op_row hC e4 d6 ?_
    exact ik_ast_row hC hi rfl e3 d7 (hk _ rfl)
  · cases h4
def pAop (n w : Nat) {a : Nat} (r : RP sc a) (i e : EP sc) : SP sc := ⟨(fun lv pc => (r.1 lv 0 pc).bind fun p1 => (i.1.1 lv 1 p1).bind fun p2 => (cOp sc.2.1 .dup2 p2).bind fun p3 => if ik_isA sc.1 a 0 n = true then (cOp sc.2.1 .iaload p3).bind fun p4 => (e.1.1 lv 3 p4).bind fun p5 => (cOp sc.2.1 (ik_bi w) p5).bind fun p6 => (cOp sc.2.1 .iastore p6).map fun p7 => (lv, p7) else none, sAop a n w i.1.2 e.1.2), okAop n w r i e⟩
def sAopL (a n : Nat) (i : SS → Option (Int32 × GG)) (e : SS → Option (Int64 × GG)) : ST := fun σ => (i σ).bind fun q => (ik_ix q.1 n).bind fun j => (e (σ.1, σ.2.1, q.2)).map fun y => .inl (σ.1, σ.2.1, ik_sl y.2 a j (q.2.2 a j + y.1))
theorem okAopL (n : Nat) {a : Nat} (r : RP sc a) (i : EP sc) (e : JP sc) : ik_okS sc (fun lv pc => (r.1 lv 0 pc).bind fun p1 => (i.1.1 lv 1 p1).bind fun p2 => (cOp sc.2.1 .dup2 p2).bind fun p3 => if ik_isA sc.1 a 1 n = true then (cOp sc.2.1 .laload p3).bind fun p4 => (e.1.1 lv 4 p4).bind fun p5 => (cOp sc.2.1 .ladd p5).bind fun p6 => (cOp sc.2.1 .lastore p6).map fun p7 => (lv, p7) else none) (sAopL a n i.1.2 e.1.2) := by
  intro x hC lv pc lv' pc' σ o1 hc hs hk hr
  simp only [Option.bind_eq_some_iff] at hc
  obtain ⟨p1, h1, p2, h2, p3, h3, h4⟩ := hc
  split at h4
  · rename_i hi
    simp only [Option.bind_eq_some_iff, Option.map_eq_some_iff] at h4
    obtain ⟨p4, h5, p5, h6, p6, h7, p7, h8, h9⟩ := h4
    cases h9
    obtain ⟨d3, rfl⟩ := cOp_ok h3
    obtain ⟨d4, rfl⟩ := cOp_ok h5
    obtain ⟨d6, rfl⟩ := cOp_ok h7
    obtain ⟨d7, rfl⟩ := cOp_ok h8
    simp only [sAopL, Option.bind_eq_some_iff, Option.map_eq_some_iff] at hs
    obtain ⟨⟨v1, g1⟩, e1, j, e3, ⟨v2, g2⟩, e2, e5⟩ := hs
    cases e5
    refine r.2 x hC lv 0 pc p1 [] σ h1 ?_
    refine i.2 x hC lv 1 p1 p2 _ σ v1 g1 h2 (ik_cat_r ik_cat_0) e1 ?_
    refine ik_dup2_row hC rfl rfl d3 ?_
    refine ik_lld_row hC hi e3 d4 ?_
    refine e.2 x hC lv 4 _ p5 _ (σ.1, σ.2.1, g1) v2 g2 h6 (ik_cat_l (ik_cat_i (ik_cat_r ik_cat_0))) e2 ?_
    refine ik_ladd_row hC d6 ?_
    exact ik_lst_row hC hi e3 d7 (hk _ rfl)
  · cases h4
def pAopL (n : Nat) {a : Nat} (r : RP sc a) (i : EP sc) (e : JP sc) : SP sc := ⟨(fun lv pc => (r.1 lv 0 pc).bind fun p1 => (i.1.1 lv 1 p1).bind fun p2 => (cOp sc.2.1 .dup2 p2).bind fun p3 => if ik_isA sc.1 a 1 n = true then (cOp sc.2.1 .laload p3).bind fun p4 => (e.1.1 lv 4 p4).bind fun p5 => (cOp sc.2.1 .ladd p5).bind fun p6 => (cOp sc.2.1 .lastore p6).map fun p7 => (lv, p7) else none, sAopL a n i.1.2 e.1.2), okAopL n r i e⟩
-- the method's end
theorem ik_ret_S {A : Nat → Prop} {s t : State} {H : Heap} {locs : List Loc} (h : va_S A s.heap H locs) (ht : t.heap = H) : va_F A s t := h.F ht
def sRet (t : Nat) (e : SS → Option (Int32 × GG)) : ST := fun σ => (e σ).bind fun q => if ik_bz t q.1 = true then some (.inr (.int q.1, q.2)) else none
theorem okRet (t nx : Nat) (e : EP sc) : ik_okS sc (fun lv pc => (e.1.1 lv 0 pc).bind fun p1 => if sc.2.2.2.2.2.2 = some (ik_ty t) ∧ (t = 0 ∨ t = 3) then (cOp sc.2.1 .ireturn p1).map fun _ => (lv, nx) else none) (sRet t e.1.2) := by
  intro x hC lv pc lv' pc' σ o1 hc hs hk hr
  simp only [Option.bind_eq_some_iff] at hc
  obtain ⟨p1, h1, h2⟩ := hc
  split at h2
  · rename_i hi
    simp only [Option.map_eq_some_iff] at h2
    obtain ⟨p2, h3, h4⟩ := h2
    obtain ⟨hdg, -⟩ := cOp_ok h3
    simp only [sRet, Option.bind_eq_some_iff] at hs
    obtain ⟨⟨v1, g1⟩, e1, e2⟩ := hs
    split at e2
    · rename_i hb
      cases e2
      have hres := hr _ rfl
      refine e.2 x hC lv 0 pc p1 [] σ v1 g1 h1 ik_cat_0 e1 ?_
      obtain ⟨p, l, e, s, m, args, below, meth, c, ad, D, cA, A, v0, g0⟩ := x
      obtain ⟨hx, hbc, hml, hown, hts, hns, hK, hD, hrt, hlk⟩ := hC
      cases hres
      intro H locs ls hP hS hl
      exact W.zret hx hbc (hrt.trans hi.1) (ik_bz_ok hb hi.2).1 (fun t ht hW => ⟨⟨v1, (), rfl, rfl, by show va_P _ _ _ _; rw [ht]; exact hP⟩, hS.F ht⟩) hS.2.2 hdg
    · cases e2
  · cases h2
def pRet (t nx : Nat) (e : EP sc) : SP sc := ⟨(fun lv pc => (e.1.1 lv 0 pc).bind fun p1 => if sc.2.2.2.2.2.2 = some (ik_ty t) ∧ (t = 0 ∨ t = 3) then (cOp sc.2.1 .ireturn p1).map fun _ => (lv, nx) else none, sRet t e.1.2), okRet t nx e⟩
def sRetL (e : SS → Option (Int64 × GG)) : ST := fun σ => (e σ).map fun q => .inr (.long q.1, q.2)
theorem okRetL (nx : Nat) (e : JP sc) : ik_okS sc (fun lv pc => (e.1.1 lv 0 pc).bind fun p1 => if sc.2.2.2.2.2.2 = some .long then (cOp sc.2.1 .lreturn p1).map fun _ => (lv, nx) else none) (sRetL e.1.2) := by
  intro x hC lv pc lv' pc' σ o1 hc hs hk hr
  simp only [Option.bind_eq_some_iff] at hc
  obtain ⟨p1, h1, h2⟩ := hc
  split at h2
  · rename_i hi
    simp only [Option.map_eq_some_iff] at h2
    obtain ⟨p2, h3, h4⟩ := h2
    obtain ⟨hdg, -⟩ := cOp_ok h3
    simp only [sRetL, Option.map_eq_some_iff] at hs
    obtain ⟨⟨v1, g1⟩, e1, e2⟩ := hs
    cases e2
    have hres := hr _ rfl
    refine e.2 x hC lv 0 pc p1 [] σ v1 g1 h1 ik_cat_0 e1 ?_
    obtain ⟨p, l, e, s, m, args, below, meth, c, ad, D, cA, A, v0, g0⟩ := x
    obtain ⟨hx, hbc, hml, hown, hts, hns, hK, hD, hrt, hlk⟩ := hC
    cases hres
    intro H locs ls hP hS hl
    exact W.lret hx hbc (hrt.trans hi) (fun t ht hW => ⟨⟨v1, (), rfl, rfl, by show va_P _ _ _ _; rw [ht]; exact hP⟩, hS.F ht⟩) hS.2.2 hdg
  · cases h2
def pRetL (nx : Nat) (e : JP sc) : SP sc := ⟨(fun lv pc => (e.1.1 lv 0 pc).bind fun p1 => if sc.2.2.2.2.2.2 = some .long then (cOp sc.2.1 .lreturn p1).map fun _ => (lv, nx) else none, sRetL e.1.2), okRetL nx e⟩
def sRetV : ST := fun σ => some (.inr (.null, σ.2.2))
theorem okRetV (nx : Nat) : ik_okS sc (fun lv pc => if sc.2.2.2.2.2.2 = none then (cOp sc.2.1 .return_ pc).map fun _ => (lv, nx) else none) sRetV := by
  intro x hC lv pc lv' pc' σ o1 hc hs hk hr
  dsimp only at hc
  split at hc
  · rename_i hi
    simp only [Option.map_eq_some_iff] at hc
    obtain ⟨p2, h3, h4⟩ := hc
    obtain ⟨hdg, -⟩ := cOp_ok h3
    cases hs
    have hres := hr _ rfl
    obtain ⟨p, l, e, s, m, args, below, meth, c, ad, D, cA, A, v0, g0⟩ := x
    obtain ⟨hx, hbc, hml, hown, hts, hns, hK, hD, hrt, hlk⟩ := hC
    cases hres
    intro H locs ls hP hS hl
    exact W.vret hx hbc (hrt.trans hi) (fun t ht hW => ⟨⟨(), rfl, trivial, by show va_P _ _ _ _; rw [ht]; exact hP⟩, hS.F ht⟩) hS.2.2 hdg
  · cases hc
def pRetV (nx : Nat) : SP sc := ⟨(fun lv pc => if sc.2.2.2.2.2.2 = none then (cOp sc.2.1 .return_ pc).map fun _ => (lv, nx) else none, sRetV), okRetV nx⟩
end SY
end
section
-- a method's parameters, the receiver first: a kind (0 int, 1 long), or the cell that it names; what is told are the numbers alone
abbrev ik_sg : Type := List (Nat ⊕ Nat)
def ik_kind : ik_sg → List Value → Prop
  | [], [] => True
  | .inr _ :: r, vs => ik_kind r vs
  | .inl 0 :: r, .int _ :: vs => ik_kind r vs
  | .inl 1 :: r, .long _ :: vs => ik_kind r vs
  | _, _ => False
def ik_wv (ad : Nat → Nat) : ik_sg → List Value → List Value
  | [], _ => []
  | .inr q :: r, vs => .ref (ad q) :: ik_wv ad r vs
  | .inl _ :: r, v :: vs => v :: ik_wv ad r vs
  | .inl _ :: _, [] => []
def ik_eI : Nat → ik_sg → List Value → Nat → Int32
  | s, .inr _ :: r, vs, k => ik_eI (s + 1) r vs k
  | s, .inl _ :: r, .int v :: vs, k => if k = s then v else ik_eI (s + 1) r vs k
  | s, .inl _ :: r, .long _ :: vs, k => ik_eI (s + 2) r vs k
  | _, _, _, _ => 0
def ik_eL : Nat → ik_sg → List Value → Nat → Int64
  | s, .inr _ :: r, vs, k => ik_eL (s + 1) r vs k
  | s, .inl _ :: r, .int _ :: vs, k => ik_eL (s + 1) r vs k
  | s, .inl _ :: r, .long v :: vs, k => if k = s then v else ik_eL (s + 2) r vs k
  | _, _, _, _ => 0
def ik_elv : Nat → ik_sg → ik_LV
  | _, [] => []
  | s, .inr _ :: r => ik_elv (s + 1) r
  | s, .inl 0 :: r => (s, 0) :: ik_elv (s + 1) r
  | s, .inl _ :: r => (s, 1) :: ik_elv (s + 2) r
def ik_erl : Nat → ik_sg → ik_LV
  | _, [] => []
  | s, .inr q :: r => (s, q) :: ik_erl (s + 1) r
  | s, .inl 0 :: r => ik_erl (s + 1) r
  | s, .inl _ :: r => ik_erl (s + 2) r
def ik_wds : ik_sg → Nat
  | [] => 0
  | .inr _ :: r => ik_wds r + 1
  | .inl 0 :: r => ik_wds r + 1
  | .inl _ :: r => ik_wds r + 2
theorem ik_elv_ge : ∀ (sig : ik_sg) (s : Nat), ∀ q ∈ ik_elv s sig, s ≤ q.1
  | [], s, q, h => by simp [ik_elv] at h
  | .inr _ :: r, s, q, h => by
    have := ik_elv_ge r (s + 1) q h
    omega
  | .inl 0 :: r, s, q, h => by
    rcases List.mem_cons.mp h with rfl | h
    · exact Nat.le_refl _
    · have := ik_elv_ge r (s + 1) q h
      omega
  | .inl (n + 1) :: r, s, q, h => by
    rcases List.mem_cons.mp h with rfl | h
    · exact Nat.le_refl _
    · have := ik_elv_ge r (s + 2) q h
      omega
theorem ik_sl1 {v : Value} {vs : List Value} (h : v.category = 1) : (lg_sl (v :: vs)).length = (lg_sl vs).length + 1 := by
  have e : lg_sl (v :: vs) = [.val v] ++ lg_sl vs := by simp [lg_sl, h]
  rw [e, List.length_append]
  simp
  omega
theorem ik_sl2 {v : Value} {vs : List Value} (h : v.category = 2) : (lg_sl (v :: vs)).length = (lg_sl vs).length + 2 := by
  have e : lg_sl (v :: vs) = [.val v, .second] ++ lg_sl vs := by simp [lg_sl, h]
  rw [e, List.length_append]
  simp
  omega
theorem ik_kind_wds {ad : Nat → Nat} : ∀ (sig : ik_sg) (vs : List Value), ik_kind sig vs → (lg_sl (ik_wv ad sig vs)).length = ik_wds sig
  | [], [], _ => rfl
  | .inr q :: r, vs, h => by
    rw [ik_wv, ik_sl1 rfl, ik_kind_wds (ad := ad) r vs h]
    rfl
  | .inl 0 :: r, .int v :: vs, h => by
    rw [ik_wv, ik_sl1 rfl, ik_kind_wds (ad := ad) r vs h]
    rfl
  | .inl 1 :: r, .long v :: vs, h => by
    rw [ik_wv, ik_sl2 rfl, ik_kind_wds (ad := ad) r vs h]
    rfl
theorem ik_entry {ad : Nat → Nat} {g : GG} : ∀ (sig : ik_sg) (vs : List Value) (s : Nat), ik_kind sig vs → (∀ q ∈ ik_erl s sig, (q.1, Value.ref (ad q.2)) ∈ lv_args s (ik_wv ad sig vs)) ∧ ∀ q ∈ ik_elv s sig, (q.1, if q.2 = 1 then Value.long (ik_eL s sig vs q.1) else Value.int (ik_eI s sig vs q.1)) ∈ lv_args s (ik_wv ad sig vs)
  | [], [], s, _ => ⟨fun q h => by simp [ik_erl] at h, fun q h => by simp [ik_elv] at h⟩
  | .inr i :: r, vs, s, h => by
    obtain ⟨h1, h2⟩ := ik_entry (ad := ad) (g := g) r vs (s + 1) h
    refine ⟨fun q hq => ?_, fun q hq => ?_⟩
    · rcases List.mem_cons.mp hq with rfl | hq
      · exact List.mem_cons_self
      · exact List.mem_cons_of_mem _ (by simpa [Value.category] using h1 q hq)
    · exact List.mem_cons_of_mem _ (by simpa [Value.category, ik_eI, ik_eL] using h2 q hq)
  | .inl 0 :: r, .int v :: vs, s, h => by
    obtain ⟨h1, h2⟩ := ik_entry (ad := ad) (g := g) r vs (s + 1) h
    refine ⟨fun q hq => ?_, fun q hq => ?_⟩
    · exact List.mem_cons_of_mem _ (by simpa [Value.category] using h1 q hq)
    · rcases List.mem_cons.mp hq with rfl | hq
      · simp [ik_eI, ik_wv, lv_args]
      · have hne : q.1 ≠ s := by have := ik_elv_ge r (s + 1) q hq; omega
        exact List.mem_cons_of_mem _ (by simpa [Value.category, ik_eI, ik_eL, hne] using h2 q hq)
  | .inl 1 :: r, .long v :: vs, s, h => by
    obtain ⟨h1, h2⟩ := ik_entry (ad := ad) (g := g) r vs (s + 2) h
    refine ⟨fun q hq => ?_, fun q hq => ?_⟩
    · exact List.mem_cons_of_mem _ (by simpa [Value.category] using h1 q hq)
    · rcases List.mem_cons.mp hq with rfl | hq
      · simp [ik_eL, ik_wv, lv_args]
      · have hne : q.1 ≠ s := by have := ik_elv_ge r (s + 2) q hq; omega
        exact List.mem_cons_of_mem _ (by simpa [Value.category, ik_eI, ik_eL, hne] using h2 q hq)
-- what a method does: of its numbers and the system's state, its answer and the new state; and that the machine does so
def ik_okM (wd : List ik_CD) (y : MethodName) (cc : ByteArray) (mL : Nat) (rt : Option FieldType) (k : Nat) (sig : ik_sg) (f : List Value → GG → Option (Value × GG)) : Prop :=
  ∀ (l : Launch) (ad : Nat → Nat) (D : va_G) (cA : Nat → ClassId) (A : Nat → Prop) (g : GG) (vs : List Value) (v : Value) (g' : GG), ik_kind sig vs → f vs g = some (v, g') →
    Met l y (Cond.code y cc mL rt :: lw_gd) (ik_rm k) (va_Pc (ik_wv ad sig vs) (fun U => va_P D vwCl (ik_w wd ad cA g) U.heap ∧ va_K D vwCl (ik_tys cA) U ∧ ik_nest U ∧ ∀ g, va_D A (ik_w wd ad cA g))) (ik_Q wd ad D cA A v g') 0 0 A
abbrev MP (wd : List ik_CD) (y : MethodName) (cc : ByteArray) (mL : Nat) (rt : Option FieldType) (k : Nat) (sig : ik_sg) : Type := { f : List Value → GG → Option (Value × GG) // ik_okM wd y cc mL rt k sig f }
def sBody (sig : ik_sg) (b : ST) : List Value → GG → Option (Value × GG) := fun vs g => (b (ik_eI 0 sig vs, ik_eL 0 sig vs, g)).bind fun o => match o with
  | .inr r => some r
  | .inl _ => none
theorem okBody (sc : ik_SC) (y : MethodName) (sig : ik_sg) (body : SP sc) (hy : plainName y.cls = true) (hrl : sc.2.2.2.2.1 = ik_erl 0 sig) (hown : sc.2.2.2.1 = y.cls) (hsz : ik_wds sig ≤ sc.2.2.1) (hck : (body.1.1 (ik_elv 0 sig) 0).isSome = true) : ik_okM sc.1 y sc.2.1 sc.2.2.1 sc.2.2.2.2.2.2 sc.2.2.2.2.2.1 sig (sBody sig body.1.2) := by
  intro l ad D cA A g vs v g' hkd hf
  refine Met.ofW (cc := sc.2.1) (maxL := sc.2.2.1) (ret := sc.2.2.2.2.2.2) hy rfl ?_
  intro p e s m args below meth c s₁ B hml hv
  obtain ⟨rfl, hP, hK, hN, hD⟩ := hv
  have hts := atoms_spec (ws := Cond.code y sc.2.1 sc.2.2.1 sc.2.2.2.2.2.2 :: lw_gd) B.pre
  have hcls : s.vm.findClass y.cls = some m.cls := findClass_of_methodNamed B.named
  obtain ⟨⟨lv', pc'⟩, hc⟩ := Option.isSome_iff_exists.mp hck
  simp only [sBody, Option.bind_eq_some_iff] at hf
  obtain ⟨o, e1, e2⟩ := hf
  have hl := lv_entry (ik_wv ad sig vs) (n := sc.2.2.1) (by rw [ik_kind_wds sig vs hkd]; exact hsz)
  rw [lg_entry_eq]
  refine body.2 (p, l, e, s, m, (ik_wv ad sig vs).toArray, below, meth, c, ad, D, cA, A, v, g') ⟨B.exec, B.bytes, hml, by rw [hown]; exact hcls, fun w hw => hts w (List.mem_cons_of_mem _ hw), hN, hK, hD, B.returns, B.notSynchronized⟩ (ik_elv 0 sig) 0 lv' pc' (ik_eI 0 sig vs, ik_eL 0 sig vs, g) o hc e1 (fun σ' he => ?_) (fun r he => ?_) s.heap [] _ hP va_S.rf ?_
  · subst he; cases e2
  · subst he
    cases e2
    rfl
  · refine ⟨hl.1, hl.2.1, fun q hq => hl.2.2 q ?_⟩
    obtain ⟨h1, h2⟩ := ik_entry (ad := ad) (g := g) sig vs 0 hkd
    simp only [ik_lv, List.mem_append, List.mem_map] at hq
    rcases hq with ⟨a, ha, rfl⟩ | ⟨a, ha, rfl⟩
    · rw [hrl] at ha
      exact h1 a ha
    · exact h2 a ha
def mkM (sc : ik_SC) (y : MethodName) (sig : ik_sg) (body : SP sc) (hy : plainName y.cls = true) (hrl : sc.2.2.2.2.1 = ik_erl 0 sig) (hown : sc.2.2.2.1 = y.cls) (hsz : ik_wds sig ≤ sc.2.2.1) (hck : (body.1.1 (ik_elv 0 sig) 0).isSome = true) : MP sc.1 y sc.2.1 sc.2.2.1 sc.2.2.2.2.2.2 sc.2.2.2.2.2.1 sig := ⟨sBody sig body.1.2, okBody sc y sig body hy hrl hown hsz hck⟩
-- numbers put on the stack for a call
def ik_okA (sc : ik_SC) (sig : ik_sg) (chk : ik_LV → Nat → Nat → Option Nat) (sem : SS → Option (List Value × GG)) : Prop :=
  ∀ (x : ik_DX), ik_Cx sc x → ∀ (lv : ik_LV) (d pc pc' : Nat) (st : List Value) (σ : SS) (vs : List Value) (g' : GG), chk lv d pc = some pc' → ik_cat st ≤ d → sem σ = some (vs, g') → ik_kind sig vs ∧ (ik_Go sc x lv pc' ((ik_wv (ik_xad x) sig vs).reverse ++ st) (σ.1, σ.2.1, g') → ik_Go sc x lv pc st σ)
abbrev AP (sc : ik_SC) (sig : ik_sg) : Type := { q : (ik_LV → Nat → Nat → Option Nat) × (SS → Option (List Value × GG)) // ik_okA sc sig q.1 q.2 }
section CA
variable {sc : ik_SC} {sig : ik_sg}
def sNil : SS → Option (List Value × GG) := fun σ => some ([], σ.2.2)
theorem okNil : ik_okA sc [] (fun _ _ pc => some pc) sNil := by
  intro x hC lv d pc pc' st σ vs g' hc hd hs
  cases hc
  cases hs
  exact ⟨trivial, fun h => h⟩
def aNil : AP sc [] := ⟨(fun _ _ pc => some pc, sNil), okNil⟩
def sArgI (e : SS → Option (Int32 × GG)) (r : SS → Option (List Value × GG)) : SS → Option (List Value × GG) := fun σ => (e σ).bind fun q => (r (σ.1, σ.2.1, q.2)).map fun w => (.int q.1 :: w.1, w.2)
theorem okArgI (e : EP sc) (r : AP sc sig) : ik_okA sc (.inl 0 :: sig) (fun lv d pc => (e.1.1 lv d pc).bind fun p1 => r.1.1 lv (d + 1) p1) (sArgI e.1.2 r.1.2) := by
  intro x hC lv d pc pc' st σ vs g' hc hd hs
  simp only [Option.bind_eq_some_iff] at hc
  obtain ⟨p1, h1, h2⟩ := hc
  simp only [sArgI, Option.bind_eq_some_iff, Option.map_eq_some_iff] at hs
  obtain ⟨⟨v1, g1⟩, e1, ⟨ws, g2⟩, e2, e3⟩ := hs
  cases e3
  obtain ⟨hk, hgo⟩ := r.2 x hC lv (d + 1) p1 pc' (.int v1 :: st) (σ.1, σ.2.1, g1) ws g2 h2 (ik_cat_i hd) e2
  refine ⟨hk, fun h => e.2 x hC lv d pc p1 st σ v1 g1 h1 hd e1 (hgo ?_)⟩
  simpa [ik_wv] using h
def aI (e : EP sc) (r : AP sc sig) : AP sc (.inl 0 :: sig) := ⟨(fun lv d pc => (e.1.1 lv d pc).bind fun p1 => r.1.1 lv (d + 1) p1, sArgI e.1.2 r.1.2), okArgI e r⟩
def sArgL (e : SS → Option (Int64 × GG)) (r : SS → Option (List Value × GG)) : SS → Option (List Value × GG) := fun σ => (e σ).bind fun q => (r (σ.1, σ.2.1, q.2)).map fun w => (.long q.1 :: w.1, w.2)
theorem okArgL (e : JP sc) (r : AP sc sig) : ik_okA sc (.inl 1 :: sig) (fun lv d pc => (e.1.1 lv d pc).bind fun p1 => r.1.1 lv (d + 2) p1) (sArgL e.1.2 r.1.2) := by
  intro x hC lv d pc pc' st σ vs g' hc hd hs
  simp only [Option.bind_eq_some_iff] at hc
  obtain ⟨p1, h1, h2⟩ := hc
  simp only [sArgL, Option.bind_eq_some_iff, Option.map_eq_some_iff] at hs
  obtain ⟨⟨v1, g1⟩, e1, ⟨ws, g2⟩, e2, e3⟩ := hs
  cases e3
  obtain ⟨hk, hgo⟩ := r.2 x hC lv (d + 2) p1 pc' (.long v1 :: st) (σ.1, σ.2.1, g1) ws g2 h2 (ik_cat_l hd) e2
  refine ⟨hk, fun h => e.2 x hC lv d pc p1 st σ v1 g1 h1 hd e1 (hgo ?_)⟩
  simpa [ik_wv] using h
def aL (e : JP sc) (r : AP sc sig) : AP sc (.inl 1 :: sig) := ⟨(fun lv d pc => (e.1.1 lv d pc).bind fun p1 => r.1.1 lv (d + 2) p1, sArgL e.1.2 r.1.2), okArgL e r⟩
theorem okArgR {id : Nat} (e : RP sc id) (r : AP sc sig) : ik_okA sc (.inr id :: sig) (fun lv d pc => (e.1 lv d pc).bind fun p1 => r.1.1 lv (d + 1) p1) r.1.2 := by
  intro x hC lv d pc pc' st σ vs g' hc hd hs
  simp only [Option.bind_eq_some_iff] at hc
  obtain ⟨p1, h1, h2⟩ := hc
  obtain ⟨hk, hgo⟩ := r.2 x hC lv (d + 1) p1 pc' (.ref (ik_xad x id) :: st) σ vs g' h2 (ik_cat_r hd) hs
  refine ⟨hk, fun h => e.2 x hC lv d pc p1 st σ h1 (hgo ?_)⟩
  simpa [ik_wv] using h
def aR {id : Nat} (e : RP sc id) (r : AP sc sig) : AP sc (.inr id :: sig) := ⟨(fun lv d pc => (e.1 lv d pc).bind fun p1 => r.1.1 lv (d + 1) p1, r.1.2), okArgR e r⟩
end CA
-- a call that the tables link: by it the machine runs the method that a contract tells of
def ik_LK (sc : ik_SC) (y : MethodName) (cc : ByteArray) (mL : Nat) (rt : Option FieldType) (k : Nat) (sig : ik_sg) (ins : Instr) : Prop :=
  ∀ (p : Program) (l : Launch) (e : Env) (s : State) (m : MethodId) (args : Array Value) (below : List Frame) (meth : Method) (c : Code) (ad : Nat → Nat) (D : va_G) (cA : Nat → ClassId) (A : Nat → Prop) (v0 : Value) (g0 : GG), ik_Cx sc (p, l, e, s, m, args, below, meth, c, ad, D, cA, A, v0, g0) →
    ∀ (H : Heap) (locs : List Loc) (ls : Array Slot) (pc : Nat) (st vs : List Value) (g : GG) (v : Value) (g' : GG), Met l y (Cond.code y cc mL rt :: lw_gd) (ik_rm k) (va_Pc (ik_wv ad sig vs) (fun U => va_P D vwCl (ik_w sc.1 ad cA g) U.heap ∧ va_K D vwCl (ik_tys cA) U ∧ ik_nest U ∧ ∀ g, va_D A (ik_w sc.1 ad cA g))) (ik_Q sc.1 ad D cA A v g') 0 0 A →
    va_P D vwCl (ik_w sc.1 ad cA g) H → decode sc.2.1 pc = .ok (ins, 3) → ik_cat st ≤ 8 → ik_kind sig vs → ls.size = sc.2.2.1 →
    ∃ a : Array Value, va_Run p l e (ik_rm sc.2.2.2.2.2.1) s m args below meth c H locs 0 0 0 0 (F0 m pc ls ((ik_wv ad sig vs).reverse ++ st)) st (ik_Q sc.1 ad D cA A v g' a) A
-- what the tables say of a method
def ik_MF (y : MethodName) (cc : ByteArray) (mL : Nat) (rt : Option FieldType) (n : Nat) : Prop := Cond.code y cc mL rt ∈ lw_tbl ∧ Cond.initialized y.cls ∈ lw_tbl ∧ (y.cls ≠ "java/lang/invoke/MethodHandle" ∧ y.cls ≠ "java/lang/invoke/VarHandle" ∧ (parseMethodDescriptor y.desc).map (fun d => d.parameters.length) = some n)
def ik_MV (y : MethodName) : Prop := Cond.instanceMethod y ∈ lw_tbl ∧ Cond.selects y.cls y y ∈ lw_tbl
theorem ik_goodIn {ws : List Cond} (h : ∀ w ∈ ws, w ∈ lw_gd) : GoodIn lw_gd ws := fun w hw => ⟨h w hw, ik_gd_good w (h w hw)⟩
theorem ik_goodM {y : MethodName} {cc : ByteArray} {mL : Nat} {rt : Option FieldType} {n : Nat} (h : ik_MF y cc mL rt n) : GoodIn lw_gd (Cond.code y cc mL rt :: lw_gd) := ik_goodIn (fun w hw => by
  rcases List.mem_cons.mp hw with rfl | hw
  · exact ik_gd h.1 rfl
  · exact hw)
theorem ik_blind {ad : Nat → Nat} {wd : List ik_CD} {D : va_G} {cA : Nat → ClassId} {A : Nat → Prop} {g : GG} {vs : List Value} : FrameBlind (va_Pc vs (fun U => va_P D vwCl (ik_w wd ad cA g) U.heap ∧ va_K D vwCl (ik_tys cA) U ∧ ik_nest U ∧ ∀ g, va_D A (ik_w wd ad cA g))) := by
  intro a U gg mk q
  obtain ⟨q0, qP, qK, qN, qD⟩ := q
  exact ⟨q0, qP, va_K.moved (u := U) (U := U.calling gg mk a) (Vm.Alike.refl U.vm) qK, qN.same rfl, qD⟩
theorem ik_kind_len {ad : Nat → Nat} : ∀ (sig : ik_sg) (vs : List Value), ik_kind sig vs → (ik_wv ad sig vs).length = sig.length
  | [], [], _ => rfl
  | .inr q :: r, vs, h => by simp [ik_wv, ik_kind_len (ad := ad) r vs h]
  | .inl 0 :: r, .int v :: vs, h => by simp [ik_wv, ik_kind_len (ad := ad) r vs h]
  | .inl 1 :: r, .long v :: vs, h => by simp [ik_wv, ik_kind_len (ad := ad) r vs h]
theorem lkV {sc : ik_SC} {y : MethodName} {cc : ByteArray} {mL : Nat} {rt : Option FieldType} {k o n idx ci : Nat} {sig : ik_sg} {T : u_T} {N : Nat} {fds : List (Nat ⊕ Nat)} (hf : ik_MF y cc mL rt n) (hv : ik_MV y) (hl : Cond.methodLink sc.2.2.2.1 idx y ∈ lw_tbl) (ho : sc.1[o]? = some (.inr (ci, fds))) (hci : vwCl[ci]? = some (y.cls, T, N)) (hn : sig.length = n) (hk : k + 1 ≤ sc.2.2.2.2.2.1) (hm : mL ≤ 181) : ik_LK sc y cc mL rt k (.inr o :: sig) (.invokevirtual idx) := by
  intro p l e s m args below meth c ad D cA A v0 g0 hC H locs ls pc st vs g v g' hM hP hdg hst hkd hls
  obtain ⟨hx, hb, hml, hown, hts, hns, hK, hD, hr, hlk⟩ := hC
  have hcell : (ik_w sc.1 ad cA g)[o]? = some (ad o, .inr (ci, ik_fv ad g o 0 fds)) := by rw [ik_w_at, ho]; rfl
  refine ⟨(ik_wv ad (.inr o :: sig) vs).toArray, ?_⟩
  have hGo : GoodIn lw_gd (wsV sc.2.2.2.1 idx y.cls y (Cond.code y cc mL rt :: lw_gd)) := ik_goodIn (fun w hw => by
    unfold wsV at hw
    rcases List.mem_append.mp hw with hw | hw
    · simp only [List.mem_cons, List.not_mem_nil, or_false] at hw
      rcases hw with rfl | rfl | rfl | rfl
      · exact ik_gd hl rfl
      · exact ik_gd hv.1 rfl
      · exact ik_gd hv.2 rfl
      · exact ik_gd hf.2.1 rfl
    · exact (ik_goodM hf w hw).1)
  refine va_runV (As := ik_wv ad sig vs) (rest := st) (C := y.cls) (n := n) (b := ad o) ⟨hx, hb, hml, hown, hts⟩ hM (cwV n hts hGo rfl rfl rfl ⟨rfl, hf.2.2⟩ ⟨hk, by show 8 + (mL + 11) + 200 * k ≤ 200 * _; omega⟩) ⟨ik_blind, va_recv hK hP hci hcell, fun U hU hW => ⟨rfl, by rw [hU]; exact hP, va_K.moved hW.alike hK, hns.warm hW, hD⟩⟩ rfl (by rw [ik_kind_len sig vs hkd]; exact hn) hls ?_ (lv_room hst) hdg ⟨Nat.le_refl _, Nat.le_refl _⟩
  simp [ik_wv]
theorem lkS {sc : ik_SC} {y : MethodName} {cc : ByteArray} {mL : Nat} {rt : Option FieldType} {k n idx : Nat} {sig : ik_sg} (hf : ik_MF y cc mL rt n) (hv : Cond.static y ∈ lw_tbl) (hl : Cond.methodLink sc.2.2.2.1 idx y ∈ lw_tbl) (hn : sig.length = n) (hk : k + 1 ≤ sc.2.2.2.2.2.1) (hm : mL ≤ 181) : ik_LK sc y cc mL rt k sig (.invokestatic idx) := by
  intro p l e s m args below meth c ad D cA A v0 g0 hC H locs ls pc st vs g v g' hM hP hdg hst hkd hls
  obtain ⟨hx, hb, hml, hown, hts, hns, hK, hD, hr, hlk⟩ := hC
  refine ⟨(ik_wv ad sig vs).toArray, ?_⟩
  have hGo : GoodIn lw_gd (va_wsS sc.2.2.2.1 idx y (Cond.code y cc mL rt :: lw_gd)) := ik_goodIn (fun w hw => by
    unfold va_wsS at hw
    rcases List.mem_append.mp hw with hw | hw
    · simp only [List.mem_cons, List.not_mem_nil, or_false] at hw
      rcases hw with rfl | rfl | rfl
      · exact ik_gd hl rfl
      · exact ik_gd hv rfl
      · exact ik_gd hf.2.1 rfl
    · exact (ik_goodM hf w hw).1)
  exact va_runS (As := ik_wv ad sig vs) (rest := st) (n := n) ⟨hx, hb, hml, hown, hts⟩ hM (va_cwS n hts hGo rfl rfl rfl hf.2.2 ⟨hk, by show 8 + (mL + 11) + 200 * k ≤ 200 * _; omega⟩) ⟨ik_blind, fun U hU hW => ⟨rfl, by rw [hU]; exact hP, va_K.moved hW.alike hK, hns.warm hW, hD⟩⟩ rfl (by rw [ik_kind_len sig vs hkd]; exact hn) hls rfl (lv_room hst) hdg ⟨Nat.le_refl _, Nat.le_refl _⟩
theorem lkN {sc : ik_SC} {y : MethodName} {cc : ByteArray} {mL : Nat} {rt : Option FieldType} {k n idx : Nat} {sig : ik_sg} {host : String} (hf : ik_MF y cc mL rt n) (hv : Cond.static y ∈ lw_tbl) (hl : Cond.methodLinkNest sc.2.2.2.1 idx y host ∈ lw_tbl) (hn : sig.length = n) (hk : k + 1 ≤ sc.2.2.2.2.2.1) (hm : mL ≤ 181) : ik_LK sc y cc mL rt k sig (.invokestatic idx) := by
  intro p l e s m args below meth c ad D cA A v0 g0 hC H locs ls pc st vs g v g' hM hP hdg hst hkd hls
  obtain ⟨hx, hb, hml, hown, hts, hns, hK, hD, hr, hlk⟩ := hC
  refine ⟨(ik_wv ad sig vs).toArray, ?_⟩
  exact va_runSN (As := ik_wv ad sig vs) (rest := st) (n := n) ⟨hx, hb, hml, hown, hts⟩ hM ⟨va_cnB n hts (ik_goodM hf) rfl rfl rfl (hns _ _ _ _ hl) (hts _ (ik_gd hf.2.1 rfl)) hf.2.2 ⟨hk, by show 8 + (mL + 11) + 200 * k ≤ 200 * _; omega⟩, hts _ (ik_gd hv rfl), trivial⟩ ⟨ik_blind, fun U hU hW => ⟨rfl, by rw [hU]; exact hP, va_K.moved hW.alike hK, hns.warm hW, hD⟩⟩ rfl (by rw [ik_kind_len sig vs hkd]; exact hn) hls rfl (lv_room hst) hdg ⟨Nat.le_refl _, Nat.le_refl _⟩
-- behind a call
theorem ik_call_i {sc : ik_SC} {y : MethodName} {cc : ByteArray} {mL : Nat} {rt : Option FieldType} {k : Nat} {sig : ik_sg} {ins : Instr} (h : ik_LK sc y cc mL rt k sig ins) (M : MP sc.1 y cc mL rt k sig) {x : ik_DX} (hC : ik_Cx sc x) {lv : ik_LV} {pc : Nat} {st vs : List Value} {σ : SS} {r : Int32} {g' : GG} (hf : M.1 vs σ.2.2 = some (.int r, g')) (hkd : ik_kind sig vs) (hst : ik_cat st ≤ 8) (hdg : decode sc.2.1 pc = .ok (ins, 3)) (hk : ik_Go sc x lv (pc + 3) (.int r :: st) (σ.1, σ.2.1, g')) : ik_Go sc x lv pc ((ik_wv (ik_xad x) sig vs).reverse ++ st) σ := by
  obtain ⟨p, l, e, s, m, args, below, meth, c, ad, D, cA, A, v0, g0⟩ := x
  intro H locs ls hP hS hl
  obtain ⟨a, hrun⟩ := h p l e s m args below meth c ad D cA A v0 g0 hC H locs ls pc st vs σ.2.2 (.int r) g' (M.2 l ad D cA A σ.2.2 vs (.int r) g' hkd hf) hP hdg hst hkd hl.1
  refine va_calli (a := a) (S := Unit) (post := fun r' _ => r' = r) (B := ik_B sc.1 ad D cA g') hrun hS (fun _ _ h => h) (fun _ h => h) (fun r' u t H1 locs1 ht hvm hw hB hz hk1 hS1 => ?_)
  subst hw
  subst ht
  exact hk t.heap locs1 ls hB hS1 hl
theorem ik_call_l {sc : ik_SC} {y : MethodName} {cc : ByteArray} {mL : Nat} {rt : Option FieldType} {k : Nat} {sig : ik_sg} {ins : Instr} (h : ik_LK sc y cc mL rt k sig ins) (M : MP sc.1 y cc mL rt k sig) {x : ik_DX} (hC : ik_Cx sc x) {lv : ik_LV} {pc : Nat} {st vs : List Value} {σ : SS} {r : Int64} {g' : GG} (hf : M.1 vs σ.2.2 = some (.long r, g')) (hkd : ik_kind sig vs) (hst : ik_cat st ≤ 8) (hdg : decode sc.2.1 pc = .ok (ins, 3)) (hk : ik_Go sc x lv (pc + 3) (.long r :: st) (σ.1, σ.2.1, g')) : ik_Go sc x lv pc ((ik_wv (ik_xad x) sig vs).reverse ++ st) σ := by
  obtain ⟨p, l, e, s, m, args, below, meth, c, ad, D, cA, A, v0, g0⟩ := x
  intro H locs ls hP hS hl
  obtain ⟨a, hrun⟩ := h p l e s m args below meth c ad D cA A v0 g0 hC H locs ls pc st vs σ.2.2 (.long r) g' (M.2 l ad D cA A σ.2.2 vs (.long r) g' hkd hf) hP hdg hst hkd hl.1
  refine va_calll (a := a) (S := Unit) (post := fun r' _ => r' = r) (B := ik_B sc.1 ad D cA g') hrun hS (fun _ _ h => h) (fun _ h => h) (fun r' u t H1 locs1 ht hvm hw hB hz hk1 hS1 => ?_)
  subst hw
  subst ht
  exact hk t.heap locs1 ls hB hS1 hl
theorem ik_call_v {sc : ik_SC} {y : MethodName} {cc : ByteArray} {mL : Nat} {rt : Option FieldType} {k : Nat} {sig : ik_sg} {ins : Instr} (h : ik_LK sc y cc mL rt k sig ins) (M : MP sc.1 y cc mL rt k sig) {x : ik_DX} (hC : ik_Cx sc x) {lv : ik_LV} {pc : Nat} {st vs : List Value} {σ : SS} {g' : GG} (hf : M.1 vs σ.2.2 = some (.null, g')) (hkd : ik_kind sig vs) (hst : ik_cat st ≤ 8) (hdg : decode sc.2.1 pc = .ok (ins, 3)) (hk : ik_Go sc x lv (pc + 3) st (σ.1, σ.2.1, g')) : ik_Go sc x lv pc ((ik_wv (ik_xad x) sig vs).reverse ++ st) σ := by
  obtain ⟨p, l, e, s, m, args, below, meth, c, ad, D, cA, A, v0, g0⟩ := x
  intro H locs ls hP hS hl
  obtain ⟨a, hrun⟩ := h p l e s m args below meth c ad D cA A v0 g0 hC H locs ls pc st vs σ.2.2 .null g' (M.2 l ad D cA A σ.2.2 vs .null g' hkd hf) hP hdg hst hkd hl.1
  refine va_callv (a := a) (S := Unit) (post := fun _ => True) (B := ik_B sc.1 ad D cA g') hrun hS (fun _ _ h => h) (fun _ h => h) (fun u t H1 locs1 ht hvm hw hB hz hk1 hS1 => ?_)
  subst ht
  exact hk t.heap locs1 ls hB hS1 hl
section CB
variable {sc : ik_SC} {y : MethodName} {cc : ByteArray} {mL : Nat} {rt : Option FieldType} {k : Nat} {sig : ik_sg}
def cCall (cc : ByteArray) (ins : Instr) (d pc : Nat) : Option Nat := if d ≤ 8 then (match decode cc pc with
  | .ok (i, 3) => if i = ins then some (pc + 3) else none
  | _ => none) else none
theorem cCall_ok {cc : ByteArray} {ins : Instr} {d pc pc' : Nat} (h : cCall cc ins d pc = some pc') : d ≤ 8 ∧ decode cc pc = .ok (ins, 3) ∧ pc' = pc + 3 := by
  unfold cCall at h
  split at h
  · rename_i hd
    split at h
    · rename_i j hdg
      split at h
      · rename_i he
        subst he
        cases h
        exact ⟨hd, hdg, rfl⟩
      · cases h
    · cases h
  · cases h
def sCall (f : List Value → GG → Option (Value × GG)) (a : SS → Option (List Value × GG)) : SS → Option (Int32 × GG) := fun σ => (a σ).bind fun q => (f q.1 q.2).bind fun r => match r with
  | (.int v, g) => some (v, g)
  | _ => none
theorem okCall (ins : Instr) (h : ik_LK sc y cc mL rt k sig ins) (M : MP sc.1 y cc mL rt k sig) (a : AP sc sig) : ik_okE sc (fun lv d pc => (a.1.1 lv d pc).bind fun p1 => cCall sc.2.1 ins d p1) (sCall M.1 a.1.2) := by
  intro x hC lv d pc pc' st σ v g' hc hd hs hk
  simp only [Option.bind_eq_some_iff] at hc
  obtain ⟨p1, h1, h2⟩ := hc
  obtain ⟨hd8, hdg, rfl⟩ := cCall_ok h2
  simp only [sCall, Option.bind_eq_some_iff] at hs
  obtain ⟨⟨vs, g1⟩, e1, ⟨w, g2⟩, e2, e3⟩ := hs
  obtain ⟨hkd, hgo⟩ := a.2 x hC lv d pc p1 st σ vs g1 h1 hd e1
  cases w with
  | int r =>
    cases e3
    exact hgo (ik_call_i (σ := (σ.1, σ.2.1, g1)) h M hC e2 hkd (Nat.le_trans hd hd8) hdg hk)
  | _ => cases e3
def eCall (ins : Instr) (h : ik_LK sc y cc mL rt k sig ins) (M : MP sc.1 y cc mL rt k sig) (a : AP sc sig) : EP sc := ⟨(fun lv d pc => (a.1.1 lv d pc).bind fun p1 => cCall sc.2.1 ins d p1, sCall M.1 a.1.2), okCall ins h M a⟩
def sCallL (f : List Value → GG → Option (Value × GG)) (a : SS → Option (List Value × GG)) : SS → Option (Int64 × GG) := fun σ => (a σ).bind fun q => (f q.1 q.2).bind fun r => match r with
  | (.long v, g) => some (v, g)
  | _ => none
theorem okCallL (ins : Instr) (h : ik_LK sc y cc mL rt k sig ins) (M : MP sc.1 y cc mL rt k sig) (a : AP sc sig) : ik_okL sc (fun lv d pc => (a.1.1 lv d pc).bind fun p1 => cCall sc.2.1 ins d p1) (sCallL M.1 a.1.2) := by
  intro x hC lv d pc pc' st σ v g' hc hd hs hk
  simp only [Option.bind_eq_some_iff] at hc
  obtain ⟨p1, h1, h2⟩ := hc
  obtain ⟨hd8, hdg, rfl⟩ := cCall_ok h2
  simp only [sCallL, Option.bind_eq_some_iff] at hs
  obtain ⟨⟨vs, g1⟩, e1, ⟨w, g2⟩, e2, e3⟩ := hs
  obtain ⟨hkd, hgo⟩ := a.2 x hC lv d pc p1 st σ vs g1 h1 hd e1
  cases w with
  | long r =>
    cases e3
    exact hgo (ik_call_l (σ := (σ.1, σ.2.1, g1)) h M hC e2 hkd (Nat.le_trans hd hd8) hdg hk)
  | _ => cases e3
def lCall (ins : Instr) (h : ik_LK sc y cc mL rt k sig ins) (M : MP sc.1 y cc mL rt k sig) (a : AP sc sig) : JP sc := ⟨(fun lv d pc => (a.1.1 lv d pc).bind fun p1 => cCall sc.2.1 ins d p1, sCallL M.1 a.1.2), okCallL ins h M a⟩
def sDo (f : List Value → GG → Option (Value × GG)) (a : SS → Option (List Value × GG)) : ST := fun σ => (a σ).bind fun q => (f q.1 q.2).bind fun r => match r with
  | (.null, g) => some (.inl (σ.1, σ.2.1, g))
  | _ => none
theorem okDo (ins : Instr) (h : ik_LK sc y cc mL rt k sig ins) (M : MP sc.1 y cc mL rt k sig) (a : AP sc sig) : ik_okS sc (fun lv pc => (a.1.1 lv 0 pc).bind fun p1 => (cCall sc.2.1 ins 0 p1).map fun p2 => (lv, p2)) (sDo M.1 a.1.2) := by
  intro x hC lv pc lv' pc' σ o hc hs hk hr
  simp only [Option.bind_eq_some_iff, Option.map_eq_some_iff] at hc
  obtain ⟨p1, h1, p2, h2, h3⟩ := hc
  cases h3
  obtain ⟨hd8, hdg, rfl⟩ := cCall_ok h2
  simp only [sDo, Option.bind_eq_some_iff] at hs
  obtain ⟨⟨vs, g1⟩, e1, ⟨w, g2⟩, e2, e3⟩ := hs
  obtain ⟨hkd, hgo⟩ := a.2 x hC lv 0 pc p1 [] σ vs g1 h1 ik_cat_0 e1
  cases w with
  | null =>
    cases e3
    exact hgo (ik_call_v (σ := (σ.1, σ.2.1, g1)) h M hC e2 hkd (Nat.zero_le _) hdg (hk _ rfl))
  | _ => cases e3
def pDo (ins : Instr) (h : ik_LK sc y cc mL rt k sig ins) (M : MP sc.1 y cc mL rt k sig) (a : AP sc sig) : SP sc := ⟨(fun lv pc => (a.1.1 lv 0 pc).bind fun p1 => (cCall sc.2.1 ins 0 p1).map fun p2 => (lv, p2), sDo M.1 a.1.2), okDo ins h M a⟩
-- an int dropped
def sPop (e : SS → Option (Int32 × GG)) : ST := fun σ => (e σ).map fun q => .inl (σ.1, σ.2.1, q.2)
theorem okPop (e : EP sc) : ik_okS sc (fun lv pc => (e.1.1 lv 0 pc).bind fun p1 => (cOp sc.2.1 .pop p1).map fun p2 => (lv, p2)) (sPop e.1.2) := by
  intro x hC lv pc lv' pc' σ o hc hs hk hr
  simp only [Option.bind_eq_some_iff, Option.map_eq_some_iff] at hc
  obtain ⟨p1, h1, p2, h2, h3⟩ := hc
  cases h3
  obtain ⟨hdg, rfl⟩ := cOp_ok h2
  simp only [sPop, Option.map_eq_some_iff] at hs
  obtain ⟨⟨v1, g1⟩, e1, e2⟩ := hs
  have hk := hk _ e2.symm
  refine e.2 x hC lv 0 pc p1 [] σ v1 g1 h1 ik_cat_0 e1 ?_
  obtain ⟨p, l, e, s, m, args, below, meth, c, ad, D, cA, A, v0, g0⟩ := x
  obtain ⟨hx, hb, hml, hown, hts, hns, hK, hD, hr, hlk⟩ := hC
  intro H locs ls hP hS hl
  exact lv_pop hx hb hdg rfl (hk H locs ls hP hS hl)
def pPop (e : EP sc) : SP sc := ⟨(fun lv pc => (e.1.1 lv 0 pc).bind fun p1 => (cOp sc.2.1 .pop p1).map fun p2 => (lv, p2), sPop e.1.2), okPop e⟩
end CB
-- no such call is ever made
def mFail (wd : List ik_CD) (y : MethodName) (cc : ByteArray) (mL : Nat) (rt : Option FieldType) (k : Nat) (sig : ik_sg) : MP wd y cc mL rt k sig := ⟨fun _ _ => none, fun _ _ _ _ _ _ _ _ _ _ h => by cases h⟩
end
section
-- a switch: the pairs (value, jump) of either kind
def ik_pairs (lo : Int) (offs : Array Int) : List (Int × Int) := (List.range offs.size).map (fun (i : Nat) => (lo + (i : Int), (offs[i]?).getD 0))
def ik_swt (cs : List (Int32 × Nat)) (dp : Nat) (x : Int32) : Nat := match cs.find? (fun c => decide (c.1 = x)) with
  | some c => c.2
  | none => dp
def ik_swok (pc : Nat) (d : Int) (ps : List (Int × Int)) (cs : List (Int32 × Nat)) (dp : Nat) : Bool := decide ((pc : Int) + d = (dp : Int)) && (ps.all (fun q => decide ((Int32.ofInt q.1).toInt = q.1) && decide ((pc : Int) + q.2 = (ik_swt cs dp (Int32.ofInt q.1) : Int))) && cs.all (fun c => (ps.find? (fun q => q.1 == c.1.toInt)).isSome))
theorem ik_swok_in {pc : Nat} {d : Int} {ps : List (Int × Int)} {cs : List (Int32 × Nat)} {dp : Nat} (h : ik_swok pc d ps cs dp = true) {x : Int32} {q : Int × Int} (hq : ps.find? (fun q => q.1 == x.toInt) = some q) : (pc : Int) + q.2 = (ik_swt cs dp x : Int) := by
  simp only [ik_swok, Bool.and_eq_true, decide_eq_true_eq] at h
  have h1 := List.all_eq_true.mp h.2.1 q (List.mem_of_find?_eq_some hq)
  have h2 := List.find?_some hq
  simp only [Bool.and_eq_true, decide_eq_true_eq, beq_iff_eq] at h1 h2
  rw [h1.2, h2, Int32.ofInt_toInt]
theorem ik_swok_out {pc : Nat} {d : Int} {ps : List (Int × Int)} {cs : List (Int32 × Nat)} {dp : Nat} (h : ik_swok pc d ps cs dp = true) {x : Int32} (hq : ps.find? (fun q => q.1 == x.toInt) = none) : (pc : Int) + d = (ik_swt cs dp x : Int) := by
  simp only [ik_swok, Bool.and_eq_true, decide_eq_true_eq] at h
  rw [h.1]
  unfold ik_swt
  split
  · rename_i c hc
    have h1 := List.all_eq_true.mp h.2.2 c (List.mem_of_find?_eq_some hc)
    have h2 := List.find?_some hc
    simp only [decide_eq_true_eq] at h2
    rw [h2, hq] at h1
    cases h1
  · rfl
section SWR
variable {p : Program} {l : Launch} {e : Env} {R : Room} {s : State} {m : MethodId} {args : Array Value} {below : List Frame} {meth : Method} {c : Code} {H : Heap} {locs : List Loc} {cells slots : Nat} {Q : State → Prop}
theorem ik_table_row {cc : ByteArray} {pc len dp : Nat} {ls : Array Slot} {rest : List Value} (hx : p.tables.exec = Jvm.exec) (hb : c.code = cc) {d lo hi : Int} {offs : Array Int} {x : Int32} {cs : List (Int32 × Nat)} (hdg : decode cc pc = .ok (.tableswitch d lo hi offs, len)) (hsz : hi + 1 = lo + (offs.size : Int)) (h : ik_swok pc d (ik_pairs lo offs) cs dp = true) (k : W p l e R s m args below meth c H locs cells slots Q (F0 m (ik_swt cs dp x) ls rest)) : W p l e R s m args below meth c H locs cells slots Q (F0 m pc ls (.int x :: rest)) := by
  cases hq : (ik_pairs lo offs).find? (fun q => q.1 == x.toInt) with
  | some q =>
    have h1 := List.mem_of_find?_eq_some hq
    have h2 := List.find?_some hq
    simp only [beq_iff_eq] at h2
    obtain ⟨i, hi1, rfl⟩ := List.mem_map.mp h1
    have hi2 := List.mem_range.mp hi1
    dsimp only at h2
    refine lv_tableIn (off := (offs[i]?).getD 0) hx hb hdg (by omega) (by omega) ?_ (ik_swok_in h hq) k
    have e : (x.toInt - lo).toNat = i := by omega
    rw [e, Array.getElem?_eq_getElem hi2]
    rfl
  | none =>
    refine lv_tableOut hx hb hdg ?_ (ik_swok_out h hq) k
    rcases Int.lt_or_le x.toInt lo with h1 | h1
    · exact Or.inl h1
    · rcases Int.lt_or_le hi x.toInt with h2 | h2
      · exact Or.inr h2
      · have h3 := List.find?_eq_none.mp hq (lo + ((x.toInt - lo).toNat : Int), (offs[(x.toInt - lo).toNat]?).getD 0) (List.mem_map.mpr ⟨(x.toInt - lo).toNat, List.mem_range.mpr (by omega), rfl⟩)
        exfalso
        apply h3
        simp only [beq_iff_eq]
        omega
theorem ik_lookup_row {cc : ByteArray} {pc len dp : Nat} {ls : Array Slot} {rest : List Value} (hx : p.tables.exec = Jvm.exec) (hb : c.code = cc) {d : Int} {ps : Array (Int × Int)} {x : Int32} {cs : List (Int32 × Nat)} (hdg : decode cc pc = .ok (.lookupswitch d ps, len)) (hp : (ps.toList.zip (ps.toList.drop 1)).all (fun (a, next) => a.1 < next.1) = true) (h : ik_swok pc d ps.toList cs dp = true) (k : W p l e R s m args below meth c H locs cells slots Q (F0 m (ik_swt cs dp x) ls rest)) : W p l e R s m args below meth c H locs cells slots Q (F0 m pc ls (.int x :: rest)) := by
  cases hq : ps.toList.find? (fun q => q.1 == x.toInt) with
  | some q =>
    obtain ⟨a, o⟩ := q
    exact lv_lookup hx hb hdg hp (Op.lookupswitch.offset_some hq) (ik_swok_in h hq) k
  | none => exact lv_lookup hx hb hdg hp (Op.lookupswitch.offset_none hq) (ik_swok_out h hq) k
end SWR
section SW
variable {sc : ik_SC}
def cSw (cc : ByteArray) (cs : List (Int32 × Nat)) (dp pc : Nat) : Bool := match decode cc pc with
  | .ok (.tableswitch d lo hi offs, _) => decide (hi + 1 = lo + (offs.size : Int)) && ik_swok pc d (ik_pairs lo offs) cs dp
  | .ok (.lookupswitch d ps, _) => (ps.toList.zip (ps.toList.drop 1)).all (fun (a, next) => a.1 < next.1) && ik_swok pc d ps.toList cs dp
  | _ => false
theorem cSw_ok {cs : List (Int32 × Nat)} {dp pc : Nat} {x : ik_DX} (hC : ik_Cx sc x) {lv : ik_LV} {st : List Value} {σ : SS} {v : Int32} (h : cSw sc.2.1 cs dp pc = true) (hk : ik_Go sc x lv (ik_swt cs dp v) st σ) : ik_Go sc x lv pc (.int v :: st) σ := by
  obtain ⟨p, l, e, s, m, args, below, meth, c, ad, D, cA, A, v0, g0⟩ := x
  obtain ⟨hx, hb, hml, hown, hts, hns, hK, hD, hr, hlk⟩ := hC
  intro H locs ls hP hS hl
  unfold cSw at h
  split at h
  · rename_i d lo hi offs len hdg
    simp only [Bool.and_eq_true, decide_eq_true_eq] at h
    exact ik_table_row hx hb hdg h.1 h.2 (hk H locs ls hP hS hl)
  · rename_i d ps len hdg
    rw [Bool.and_eq_true] at h
    exact ik_lookup_row hx hb hdg h.1 h.2 (hk H locs ls hP hS hl)
  · cases h
def ik_pick (cs : List (Int32 × Nat × SP sc)) (D : SP sc) (x : Int32) : SP sc := match cs.find? (fun c => decide (c.1 = x)) with
  | some c => c.2.2
  | none => D
def sSw (e : SS → Option (Int32 × GG)) (f : Int32 → ST) : ST := fun σ => (e σ).bind fun q => f q.1 (σ.1, σ.2.1, q.2)
def ik_arm (cc : ByteArray) (lv : ik_LV) (E : Nat) (q : Option (ik_LV × Nat)) : Bool := match q with
  | some r => ik_reach cc 3 r.2 E && lv.all (fun a => decide (a ∈ r.1))
  | none => false
theorem ik_swt_map (cs : List (Int32 × Nat × SP sc)) (dp : Nat) (x : Int32) : ik_swt (cs.map (fun c => (c.1, c.2.1))) dp x = match cs.find? (fun c => decide (c.1 = x)) with
    | some c => c.2.1
    | none => dp := by
  unfold ik_swt
  rw [List.find?_map]
  cases h : cs.find? ((fun c => decide (c.1 = x)) ∘ fun c => (c.1, c.2.1)) with
  | none =>
    have h2 : cs.find? (fun c => decide (c.1 = x)) = none := h
    simp [h2]
  | some c =>
    have h2 : cs.find? (fun c => decide (c.1 = x)) = some c := h
    simp [h2]
theorem okSw (e : EP sc) (cs : List (Int32 × Nat × SP sc)) (dp : Nat) (D : SP sc) (E : Nat) : ik_okS sc (fun lv pc => (e.1.1 lv 0 pc).bind fun p1 => if cSw sc.2.1 (cs.map (fun c => (c.1, c.2.1))) dp p1 = true ∧ cs.all (fun c => ik_arm sc.2.1 lv E (c.2.2.1.1 lv c.2.1)) = true ∧ ik_arm sc.2.1 lv E (D.1.1 lv dp) = true then some (lv, E) else none) (sSw e.1.2 (fun x => (ik_pick cs D x).1.2)) := by
  intro x hC lv pc lv' pc' σ o hc hs hk hr
  simp only [Option.bind_eq_some_iff] at hc
  obtain ⟨p1, h1, h2⟩ := hc
  split at h2
  · rename_i hcond
    cases h2
    simp only [sSw, Option.bind_eq_some_iff] at hs
    obtain ⟨⟨v1, g1⟩, e1, e2⟩ := hs
    refine e.2 x hC lv 0 pc p1 [] σ v1 g1 h1 ik_cat_0 e1 (cSw_ok hC hcond.1 ?_)
    have fin : ∀ (P : SP sc) (q : Nat), ik_arm sc.2.1 lv E (P.1.1 lv q) = true → P.1.2 (σ.1, σ.2.1, g1) = some o → ik_Go sc x lv q [] (σ.1, σ.2.1, g1) := by
      intro P q ha he
      unfold ik_arm at ha
      split at ha
      · rename_i r hP
        simp only [Bool.and_eq_true] at ha
        exact P.2 x hC lv q r.1 r.2 _ o hP he (fun σ' hσ => ik_reach_ok hC (ik_Go_sub (fun a hx => of_decide_eq_true (List.all_eq_true.mp ha.2 a hx)) (hk σ' hσ)) 3 r.2 ha.1) hr
      · cases ha
    rw [ik_swt_map]
    unfold ik_pick at e2
    cases hf : cs.find? (fun c => decide (c.1 = v1)) with
    | none =>
      rw [hf] at e2
      exact fin D dp hcond.2.2 e2
    | some c =>
      rw [hf] at e2
      exact fin c.2.2 c.2.1 (List.all_eq_true.mp hcond.2.1 c (List.mem_of_find?_eq_some hf)) e2
  · cases h2
def pSw (e : EP sc) (cs : List (Int32 × Nat × SP sc)) (dp : Nat) (D : SP sc) (E : Nat) : SP sc := ⟨(fun lv pc => (e.1.1 lv 0 pc).bind fun p1 => if cSw sc.2.1 (cs.map (fun c => (c.1, c.2.1))) dp p1 = true ∧ cs.all (fun c => ik_arm sc.2.1 lv E (c.2.2.1.1 lv c.2.1)) = true ∧ ik_arm sc.2.1 lv E (D.1.1 lv dp) = true then some (lv, E) else none, sSw e.1.2 (fun x => (ik_pick cs D x).1.2)), okSw e cs dp D E⟩
-- a loop that is left in its midst: while (c) { a; if (x) break; b }
def sWhB (c : SS → Option (Bool × GG)) (a : ST) (x : SS → Option (Bool × GG)) (b : ST) : Nat → ST
  | 0, _ => none
  | n + 1, σ => (c σ).bind fun q => if q.1 = true then (a (σ.1, σ.2.1, q.2)).bind (fun o => match o with
      | .inl σ1 => (x σ1).bind fun q2 => if q2.1 = true then some (.inl (σ1.1, σ1.2.1, q2.2)) else (b (σ1.1, σ1.2.1, q2.2)).bind (fun o2 => match o2 with
        | .inl σ2 => sWhB c a x b n σ2
        | .inr r => some (.inr r))
      | .inr r => some (.inr r)) else some (.inl (σ.1, σ.2.1, q.2))
def ik_cwb (cc : ByteArray) (c : Bool) (lv : ik_LV) (a : Option (ik_LV × Nat)) (x : ik_LV → Nat → Bool) (b : ik_LV → Option (ik_LV × Nat)) (pc F TB E : Nat) : Option (ik_LV × Nat) := match c, a with
  | true, some q1 => match x q1.1 q1.2, b q1.1 with
    | true, some q2 => if ik_reach cc 3 q2.2 pc = true ∧ ik_reach cc 3 F E = true ∧ ik_reach cc 3 TB E = true ∧ lv.all (fun q => decide (q ∈ q1.1)) = true ∧ lv.all (fun q => decide (q ∈ q2.1)) = true then some (lv, E) else none
    | _, _ => none
  | _, _ => none
theorem ik_cwb_ok {cc : ByteArray} {c : Bool} {lv : ik_LV} {a : Option (ik_LV × Nat)} {x : ik_LV → Nat → Bool} {b : ik_LV → Option (ik_LV × Nat)} {pc F TB E : Nat} {r : ik_LV × Nat} (h : ik_cwb cc c lv a x b pc F TB E = some r) : ∃ q1 q2, c = true ∧ a = some q1 ∧ x q1.1 q1.2 = true ∧ b q1.1 = some q2 ∧ ik_reach cc 3 q2.2 pc = true ∧ ik_reach cc 3 F E = true ∧ ik_reach cc 3 TB E = true ∧ (∀ q ∈ lv, q ∈ q1.1) ∧ (∀ q ∈ lv, q ∈ q2.1) ∧ r = (lv, E) := by
  unfold ik_cwb at h
  split at h
  · rename_i q1
    split at h
    · rename_i q2 h3 h4
      split at h
      · rename_i h5
        cases h
        exact ⟨q1, q2, rfl, rfl, h3, h4, h5.1, h5.2.1, h5.2.2.1, fun q hq => of_decide_eq_true (List.all_eq_true.mp h5.2.2.2.1 q hq), fun q hq => of_decide_eq_true (List.all_eq_true.mp h5.2.2.2.2 q hq), rfl⟩
      · cases h
    · cases h
  · cases h
theorem okWhB (T F TB FB E : Nat) (c : CP sc T F) (a : SP sc) (y : CP sc TB FB) (b : SP sc) (n : Nat) : ik_okS sc (fun lv pc => ik_cwb sc.2.1 (c.1.1 lv 0 pc) lv (a.1.1 lv T) (fun lv1 p1 => y.1.1 lv1 0 p1) (fun lv1 => b.1.1 lv1 FB) pc F TB E) (sWhB c.1.2 a.1.2 y.1.2 b.1.2 n) := by
  intro x hC lv pc lv' pc' σ o hc
  obtain ⟨q1, q2, h1, h2, h3, h4, h5, h6, h7, h8, h9, h10⟩ := ik_cwb_ok hc
  cases h10
  induction n generalizing σ with
  | zero => intro hs; cases hs
  | succ n ih =>
    intro hs hk hr
    simp only [sWhB, Option.bind_eq_some_iff] at hs
    obtain ⟨⟨v1, g1⟩, e1, e2⟩ := hs
    refine c.2 x hC lv 0 pc [] σ v1 g1 h1 ik_cat_0 e1 ?_
    cases v1 with
    | true =>
      simp only [if_true, Option.bind_eq_some_iff] at e2
      obtain ⟨o1, e3, e4⟩ := e2
      refine a.2 x hC lv T q1.1 q1.2 (σ.1, σ.2.1, g1) o1 h2 e3 (fun σ' he => ?_) (fun r he => ?_)
      · subst he
        simp only [Option.bind_eq_some_iff] at e4
        obtain ⟨⟨v2, g2⟩, e5, e6⟩ := e4
        refine y.2 x hC q1.1 0 q1.2 [] σ' v2 g2 h3 ik_cat_0 e5 ?_
        cases v2 with
        | true =>
          simp only [if_true] at e6
          cases e6
          exact ik_reach_ok hC (ik_Go_sub h8 (hk _ rfl)) 3 TB h7
        | false =>
          simp only [Bool.false_eq_true, if_false, Option.bind_eq_some_iff] at e6
          obtain ⟨o2, e7, e8⟩ := e6
          refine b.2 x hC q1.1 FB q2.1 q2.2 _ o2 h4 e7 (fun σ2 he => ?_) (fun r he => ?_)
          · subst he
            exact ik_reach_ok hC (ik_Go_sub h9 (ih σ2 e8 hk hr)) 3 q2.2 h5
          · subst he
            cases e8
            exact hr r rfl
      · subst he
        cases e4
        exact hr r rfl
    | false =>
      simp only [Bool.false_eq_true, if_false] at e2
      cases e2
      exact ik_reach_ok hC (hk _ rfl) 3 F h6
def pWhB (T F TB FB E : Nat) (c : CP sc T F) (a : SP sc) (y : CP sc TB FB) (b : SP sc) : SP sc := ⟨(fun lv pc => ik_cwb sc.2.1 (c.1.1 lv 0 pc) lv (a.1.1 lv T) (fun lv1 p1 => y.1.1 lv1 0 p1) (fun lv1 => b.1.1 lv1 FB) pc F TB E, sWhB c.1.2 a.1.2 y.1.2 b.1.2 ik_fuel), okWhB T F TB FB E c a y b ik_fuel⟩
-- a stretch that never comes to its end but by a return
def sDead (b : ST) : ST := fun σ => (b σ).bind fun o => match o with
  | .inl _ => none
  | .inr r => some (.inr r)
theorem okDead (E : Nat) (b : SP sc) : ik_okS sc (fun lv pc => (b.1.1 lv pc).map fun _ => (lv, E)) (sDead b.1.2) := by
  intro x hC lv pc lv' pc' σ o hc hs hk hr
  simp only [Option.map_eq_some_iff] at hc
  obtain ⟨⟨l1, p1⟩, h1, h2⟩ := hc
  simp only [sDead, Option.bind_eq_some_iff] at hs
  obtain ⟨o1, e1, e2⟩ := hs
  refine b.2 x hC lv pc l1 p1 σ o1 h1 e1 (fun σ' he => ?_) (fun r he => ?_)
  · subst he; cases e2
  · subst he; cases e2; exact hr r rfl
def pDead (E : Nat) (b : SP sc) : SP sc := ⟨(fun lv pc => (b.1.1 lv pc).map fun _ => (lv, E), sDead b.1.2), okDead E b⟩
-- System.arraycopy of one int array to another, from 0, n of them
def sCopy (a b n0 n1 : Nat) (n : Int32) : ST := fun σ => if n < 0 ∨ n0 < n.toNatClampNeg ∨ n1 < n.toNatClampNeg then none else some (.inl (σ.1, σ.2.1, (fun i j => if i = b ∧ j < n.toNatClampNeg then σ.2.2.1 a j else σ.2.2.1 i j, σ.2.2.2)))
def ik_ACP (own : String) (idx : Nat) : Prop := Cond.methodLink own idx arraycopyName ∈ lw_tbl ∧ Cond.native arraycopyName ∈ lw_tbl ∧ Cond.static arraycopyName ∈ lw_tbl ∧ Cond.initialized "java/lang/System" ∈ lw_tbl
theorem okCopy {a b : Nat} (idx n0 n1 : Nat) (n : Int32) (h : ik_ACP sc.2.2.2.1 idx) (hlv : 1 ≤ sc.2.2.2.2.2.1) (r1 : RP sc a) (r2 : RP sc b) (z1 z2 e : EP sc) (hz1 : z1.1.2 = sLit 0) (hz2 : z2.1.2 = sLit 0) (he : e.1.2 = sLit n) (hr : nativeFrameWords "java/lang/System" "arraycopy" 5 + 11 ≤ 200) : ik_okS sc (fun lv pc => (r1.1 lv 0 pc).bind fun p1 => (z1.1.1 lv 1 p1).bind fun p2 => (r2.1 lv 2 p2).bind fun p3 => (z2.1.1 lv 3 p3).bind fun p4 => (e.1.1 lv 4 p4).bind fun p5 => if ik_isA sc.1 a 0 n0 = true ∧ ik_isA sc.1 b 0 n1 = true then (cCall sc.2.1 (.invokestatic idx) 0 p5).map fun p6 => (lv, p6) else none) (sCopy a b n0 n1 n) := by
  intro x hC lv pc lv' pc' σ o hc hs hk hrr
  simp only [Option.bind_eq_some_iff] at hc
  obtain ⟨p1, h1, p2, h2, p3, h3, p4, h4, p5, h5, h6⟩ := hc
  split at h6
  · rename_i hi
    simp only [Option.map_eq_some_iff] at h6
    obtain ⟨p6, h7, h8⟩ := h6
    cases h8
    obtain ⟨-, hdg, rfl⟩ := cCall_ok h7
    unfold sCopy at hs
    split at hs
    · cases hs
    · rename_i hn
      cases hs
      have hk := hk _ rfl
      refine r1.2 x hC lv 0 pc p1 [] σ h1 ?_
      refine z1.2 x hC lv 1 p1 p2 _ σ 0 σ.2.2 h2 (ik_cat_r ik_cat_0) (by rw [hz1]; rfl) ?_
      refine r2.2 x hC lv 2 p2 p3 _ σ h3 ?_
      refine z2.2 x hC lv 3 p3 p4 _ σ 0 σ.2.2 h4 (ik_cat_r (ik_cat_i (ik_cat_r ik_cat_0))) (by rw [hz2]; rfl) ?_
      refine e.2 x hC lv 4 p4 p5 _ σ n σ.2.2 h5 (ik_cat_i (ik_cat_r (ik_cat_i (ik_cat_r ik_cat_0)))) (by rw [he]; rfl) ?_
      obtain ⟨p, l, ee, s, m, args, below, meth, c, ad, D, cA, A, v0, g0⟩ := x
      obtain ⟨hx, hb, hml, hown, hts, hns, hK, hD, hrt, hlk⟩ := hC
      intro H locs ls hP hS hl
      have ha := ik_isA_ok (ad := ad) (cA := cA) (g := σ.2.2) hi.1
      have hb2 := ik_isA_ok (ad := ad) (cA := cA) (g := σ.2.2) hi.2
      refine va_copyi hx hb (by rw [hml]; exact hl.1.symm) hown (hts _ (ik_gd h.1 rfl)) (hts _ (ik_gd h.2.1 rfl)) (hts _ (ik_gd h.2.2.1 rfl)) (hts _ (ik_gd h.2.2.2 rfl)) hK hP (hD _) hS a b 0 0 ha.2 hb2.2 rfl rfl rfl (by decide) (by decide) (fun z => hn (Or.inl z)) ?_ ?_ (fun _ _ => rfl) hlv ?_ hdg (fun H1 locs1 hP1 _ hS1 => ?_)
      · show 0 + _ ≤ _
        have := fun z => hn (Or.inr (Or.inl z))
        omega
      · show 0 + _ ≤ _
        have := fun z => hn (Or.inr (Or.inr z))
        omega
      · show 0 + _ ≤ 200 * _
        omega
      · have e1 := ik_w_set (wd := sc.1) (ad := ad) (cA := cA) (g := σ.2.2) (g' := (fun i j => if i = b ∧ j < n.toNatClampNeg then σ.2.2.1 a j else σ.2.2.1 i j, σ.2.2.2)) (e := .inl (cA 0, n1, .inl (va_cpy (σ.2.2.1 a) (σ.2.2.1 b) (Int32.toNatClampNeg 0) (Int32.toNatClampNeg 0) n.toNatClampNeg))) hb2.1 ?_ (fun q hq => ⟨?_, rfl⟩)
        · exact hk H1 locs1 ls (e1 ▸ hP1) hS1 hl
        · have z : Int32.toNatClampNeg 0 = 0 := rfl
          have e2 : (fun j => if b = b ∧ j < n.toNatClampNeg then σ.2.2.1 a j else σ.2.2.1 b j) = va_cpy (σ.2.2.1 a) (σ.2.2.1 b) (Int32.toNatClampNeg 0) (Int32.toNatClampNeg 0) n.toNatClampNeg := by
            funext j
            simp [va_cpy, z]
          show Sum.inl (cA 0, n1, Sum.inl (fun j => if b = b ∧ j < n.toNatClampNeg then σ.2.2.1 a j else σ.2.2.1 b j)) = _
          rw [e2]
        · funext j
          simp [hq]
  · cases h6
def pCopy {a b : Nat} (idx n0 n1 : Nat) (n : Int32) (h : ik_ACP sc.2.2.2.1 idx) (hlv : 1 ≤ sc.2.2.2.2.2.1) (r1 : RP sc a) (r2 : RP sc b) (z1 z2 e : EP sc) (hz1 : z1.1.2 = sLit 0) (hz2 : z2.1.2 = sLit 0) (he : e.1.2 = sLit n) (hr : nativeFrameWords "java/lang/System" "arraycopy" 5 + 11 ≤ 200) : SP sc := ⟨(fun lv pc => (r1.1 lv 0 pc).bind fun p1 => (z1.1.1 lv 1 p1).bind fun p2 => (r2.1 lv 2 p2).bind fun p3 => (z2.1.1 lv 3 p3).bind fun p4 => (e.1.1 lv 4 p4).bind fun p5 => if ik_isA sc.1 a 0 n0 = true ∧ ik_isA sc.1 b 0 n1 = true then (cCall sc.2.1 (.invokestatic idx) 0 p5).map fun p6 => (lv, p6) else none, sCopy a b n0 n1 n), okCopy idx n0 n1 n h hlv r1 r2 z1 z2 e hz1 hz2 he hr⟩
end SW
end
section
/-! printed by program out of the landed class and the reference: what the tables say of their links; the cells of each -/
def wdX : List ik_CD := [.inr (11, [.inr 1, .inr 3, .inr 6, .inr 15, .inr 25, .inr 35, .inr 39, .inr 43, .inr 48, .inr 63, .inr 64, .inr 65, .inl 0, .inl 3, .inl 3]), .inr (9, [.inr 2, .inl 0]), .inl (0, 400), .inr (4, [.inr 4, .inr 5]), .inl (0, 27), .inl (0, 729), .inr (6, [.inr 7, .inr 10, .inr 11, .inr 12, .inr 13, .inr 14, .inl 0]), .inr (10, [.inl 0, .inr 8, .inr 9]), .inl (0, 288), .inl (0, 24), .inl (0, 24), .inl (0, 24), .inl (0, 24), .inl (0, 24), .inl (0, 24), .inr (0, [.inr 16, .inr 17, .inr 18, .inr 19, .inr 20, .inr 21, .inr 22, .inr 23, .inr 24, .inl 0, .inl 0, .inl 0]), .inl (0, 4), .inl (0, 4), .inl (0, 4), .inl (0, 20), .inl (0, 20), .inl (0, 20), .inl (0, 20), .inl (0, 20), .inl (0, 20), .inr (8, [.inr 26, .inr 29, .inr 30, .inr 31, .inr 32, .inr 33, .inr 34, .inl 0, .inl 0, .inl 0, .inl 0]), .inr (10, [.inl 0, .inr 27, .inr 28]), .inl (0, 1728), .inl (0, 144), .inl (0, 144), .inl (3, 144), .inl (3, 24), .inl (0, 6), .inl (0, 6), .inl (0, 6), .inr (7, [.inr 36, .inr 37, .inr 38, .inl 0, .inl 0, .inl 3, .inl 0, .inl 0, .inl 0, .inl 0, .inl 3]), .inl (0, 160), .inl (0, 160), .inl (0, 26), .inr (3, [.inr 40, .inr 41, .inr 42, .inl 0]), .inl (0, 60), .inl (0, 60), .inl (0, 60), .inr (1, [.inr 44, .inr 45, .inr 46, .inr 47, .inl 0]), .inl (0, 8), .inl (0, 8), .inl (0, 8), .inl (0, 8), .inr (2, [.inr 49, .inr 55, .inr 56, .inr 57, .inr 58, .inr 59, .inr 60, .inr 61, .inr 62, .inl 0, .inl 0, .inl 3, .inl 3, .inl 1]), .inr (5, [.inr 50, .inr 51, .inr 52, .inr 53, .inr 54, .inl 3, .inl 0, .inl 0]), .inl (0, 4), .inl (0, 576), .inl (3, 576), .inl (0, 2304), .inl (0, 4), .inl (0, 4), .inl (0, 384), .inl (0, 24), .inl (0, 24), .inl (0, 4), .inl (0, 4), .inl (0, 4), .inl (1, 96), .inl (0, 96), .inl (0, 4), .inl (0, 4)]
def wdM : List ik_CD := [.inr (12, [.inr 1, .inl 0, .inl 0, .inl 0, .inl 0, .inl 0, .inl 0, .inl 0, .inl 0, .inl 0, .inl 0, .inl 0, .inr 2, .inr 3, .inr 4, .inr 5, .inr 6, .inr 7, .inr 8, .inr 9, .inr 10, .inr 11, .inr 12, .inr 13, .inr 14, .inr 15, .inr 16, .inr 17, .inr 18, .inr 19, .inl 0, .inl 0, .inl 0, .inr 20, .inl 0, .inr 21, .inr 22, .inr 23, .inr 24, .inr 25, .inr 26, .inr 27, .inr 28, .inr 29, .inr 30, .inr 31, .inl 0, .inl 0, .inl 0, .inl 0, .inl 3, .inl 3, .inr 32, .inl 0, .inl 0, .inr 33, .inr 34, .inr 35, .inr 36, .inr 37, .inr 38, .inr 39, .inr 40, .inr 41, .inr 42, .inr 43, .inr 44, .inl 0, .inl 0, .inl 1, .inr 45, .inr 46, .inr 47, .inr 48, .inr 49, .inr 50, .inr 51]), .inl (2, 400), .inl (0, 27), .inl (0, 729), .inl (2, 288), .inl (0, 24), .inl (0, 24), .inl (0, 24), .inl (0, 24), .inl (0, 24), .inl (0, 4), .inl (0, 4), .inl (0, 4), .inl (0, 6), .inl (0, 6), .inl (2, 960), .inl (0, 144), .inl (0, 144), .inl (0, 144), .inl (3, 144), .inl (0, 4), .inl (0, 24), .inl (0, 12), .inl (0, 12), .inl (0, 12), .inl (0, 160), .inl (0, 160), .inl (0, 12), .inl (0, 12), .inl (0, 12), .inl (0, 160), .inl (0, 160), .inl (0, 200), .inl (0, 200), .inl (3, 200), .inl (0, 20), .inl (0, 20), .inl (0, 20), .inl (0, 20), .inl (0, 20), .inl (0, 20), .inl (0, 60), .inl (0, 60), .inl (0, 60), .inl (0, 96), .inl (1, 96), .inl (0, 96), .inl (0, 8), .inl (0, 8), .inl (0, 8), .inl (0, 8), .inl (0, 6)]
theorem ik_in1 {w : Cond} (h : w ∈ tables_1_1) : w ∈ lw_tbl := ik_inT (List.mem_append_left _ h)
theorem ik_in2 {w : Cond} (h : w ∈ tables_1_2) : w ∈ lw_tbl := ik_inT (List.mem_append_right _ (List.mem_append_left _ h))
theorem ik_in3 {w : Cond} (h : w ∈ tables_1_3) : w ∈ lw_tbl := ik_inT (List.mem_append_right _ (List.mem_append_right _ (List.mem_append_left _ h)))
theorem ik_in4 {w : Cond} (h : w ∈ tables_1_4) : w ∈ lw_tbl := ik_inT (List.mem_append_right _ (List.mem_append_right _ (List.mem_append_right _ (List.mem_append_left _ h))))
theorem ik_in5 {w : Cond} (h : w ∈ tables_1_5) : w ∈ lw_tbl := ik_inT (List.mem_append_right _ (List.mem_append_right _ (List.mem_append_right _ (List.mem_append_right _ (List.mem_append_left _ h)))))
theorem ik_in6 {w : Cond} (h : w ∈ tables_1_6) : w ∈ lw_tbl := ik_inT (List.mem_append_right _ (List.mem_append_right _ (List.mem_append_right _ (List.mem_append_right _ (List.mem_append_right _ (List.mem_append_left _ h))))))
theorem ik_in7 {w : Cond} (h : w ∈ tables_1_7) : w ∈ lw_tbl := ik_inT (List.mem_append_right _ (List.mem_append_right _ (List.mem_append_right _ (List.mem_append_right _ (List.mem_append_right _ (List.mem_append_right _ (List.mem_append_left _ h)))))))
theorem ik_in8 {w : Cond} (h : w ∈ tables_1_8) : w ∈ lw_tbl := ik_inT (List.mem_append_right _ (List.mem_append_right _ (List.mem_append_right _ (List.mem_append_right _ (List.mem_append_right _ (List.mem_append_right _ (List.mem_append_right _ (h))))))))
theorem ml_X11_82 : Cond.methodLink RX11 82 yX11_within ∈ lw_tbl := ik_in2 (List.mem_of_getElem? (i := 158) rfl)
theorem mf_X11_within : ik_MF yX11_within cX11_within 3 (some .boolean) 3 := ⟨ik_in2 (List.mem_of_getElem? (i := 160) rfl), ik_in1 (List.mem_of_getElem? (i := 1) rfl), by decide +kernel, by decide +kernel, by decide +kernel⟩
theorem ms_X11_within : Cond.static yX11_within ∈ lw_tbl := ik_in2 (List.mem_of_getElem? (i := 159) rfl)
theorem fl_X11_19 : ik_FL RX11 19 11 1 := ⟨RX11, TX11, 15, tyX11, rfl, by decide, inX11, tyX11_ok, nmX11, rfl, ik_in2 (List.mem_of_getElem? (i := 109) rfl)⟩
theorem fl_X4_11 : ik_FL RX4 11 4 0 := ⟨RX4, TX4, 2, tyX4, rfl, by decide, inX4, tyX4_ok, nmX4, rfl, ik_in1 (List.mem_of_getElem? (i := 45) rfl)⟩
theorem ml_X11_86 : Cond.methodLink RX11 86 yX4_setWide ∈ lw_tbl := ik_in2 (List.mem_of_getElem? (i := 161) rfl)
theorem mf_X4_setWide : ik_MF yX4_setWide cX4_setWide 3 (none) 2 := ⟨ik_in2 (List.mem_of_getElem? (i := 164) rfl), ik_in1 (List.mem_of_getElem? (i := 3) rfl), by decide +kernel, by decide +kernel, by decide +kernel⟩
theorem mv_X4_setWide : ik_MV yX4_setWide := ⟨ik_in2 (List.mem_of_getElem? (i := 162) rfl), ik_in2 (List.mem_of_getElem? (i := 163) rfl)⟩
theorem fw_X11_309 : ik_FW RX11 309 11 13 3 := ⟨RX11, TX11, 15, tyX11, rfl, by decide, inX11, tyX11_ok, nmX11, rfl, ik_in2 (List.mem_of_getElem? (i := 121) rfl), rfl, rfl⟩
theorem ml_X11_90 : Cond.methodLink RX11 90 yX11_changed ∈ lw_tbl := ik_in2 (List.mem_of_getElem? (i := 165) rfl)
theorem mf_X11_changed : ik_MF yX11_changed cX11_changed 1 (none) 0 := ⟨ik_in2 (List.mem_of_getElem? (i := 168) rfl), ik_in1 (List.mem_of_getElem? (i := 1) rfl), by decide +kernel, by decide +kernel, by decide +kernel⟩
theorem mv_X11_changed : ik_MV yX11_changed := ⟨ik_in2 (List.mem_of_getElem? (i := 167) rfl), ik_inS (List.mem_of_getElem? (i := 0) (by decide +kernel))⟩
theorem fl_X4_15 : ik_FL RX4 15 4 1 := ⟨RX4, TX4, 2, tyX4, rfl, by decide, inX4, tyX4_ok, nmX4, rfl, ik_in1 (List.mem_of_getElem? (i := 46) rfl)⟩
theorem ml_X11_93 : Cond.methodLink RX11 93 yX4_setJoined ∈ lw_tbl := ik_in2 (List.mem_of_getElem? (i := 173) rfl)
theorem mf_X4_setJoined : ik_MF yX4_setJoined cX4_setJoined 4 (none) 3 := ⟨ik_in2 (List.mem_of_getElem? (i := 176) rfl), ik_in1 (List.mem_of_getElem? (i := 3) rfl), by decide +kernel, by decide +kernel, by decide +kernel⟩
theorem mv_X4_setJoined : ik_MV yX4_setJoined := ⟨ik_in2 (List.mem_of_getElem? (i := 174) rfl), ik_in2 (List.mem_of_getElem? (i := 175) rfl)⟩
theorem fl_X11_10 : ik_FL RX11 10 11 0 := ⟨RX11, TX11, 15, tyX11, rfl, by decide, inX11, tyX11_ok, nmX11, rfl, ik_in2 (List.mem_of_getElem? (i := 108) rfl)⟩
theorem fl_X9_13 : ik_FL RX9 13 9 1 := ⟨RX9, TX9, 2, tyX9, rfl, by decide, inX9, tyX9_ok, nmX9, rfl, ik_in1 (List.mem_of_getElem? (i := 32) rfl)⟩
theorem ml_X11_97 : Cond.methodLink RX11 97 yX9_takes ∈ lw_tbl := ik_in2 (List.mem_of_getElem? (i := 181) rfl)
theorem mf_X9_takes : ik_MF yX9_takes cX9_takes 2 (some .boolean) 1 := ⟨ik_in2 (List.mem_of_getElem? (i := 184) rfl), ik_in1 (List.mem_of_getElem? (i := 2) rfl), by decide +kernel, by decide +kernel, by decide +kernel⟩
theorem mv_X9_takes : ik_MV yX9_takes := ⟨ik_in2 (List.mem_of_getElem? (i := 182) rfl), ik_in2 (List.mem_of_getElem? (i := 183) rfl)⟩
theorem fl_X9_9 : ik_FL RX9 9 9 0 := ⟨RX9, TX9, 2, tyX9, rfl, by decide, inX9, tyX9_ok, nmX9, rfl, ik_in1 (List.mem_of_getElem? (i := 31) rfl)⟩
theorem fw_X9_13 : ik_FW RX9 13 9 1 0 := ⟨RX9, TX9, 2, tyX9, rfl, by decide, inX9, tyX9_ok, nmX9, rfl, ik_in1 (List.mem_of_getElem? (i := 32) rfl), rfl, rfl⟩
theorem ml_X11_101 : Cond.methodLink RX11 101 yX9_push ∈ lw_tbl := ik_in2 (List.mem_of_getElem? (i := 185) rfl)
theorem mf_X9_push : ik_MF yX9_push cX9_push 3 (none) 1 := ⟨ik_in2 (List.mem_of_getElem? (i := 188) rfl), ik_in1 (List.mem_of_getElem? (i := 2) rfl), by decide +kernel, by decide +kernel, by decide +kernel⟩
theorem mv_X9_push : ik_MV yX9_push := ⟨ik_in2 (List.mem_of_getElem? (i := 186) rfl), ik_in2 (List.mem_of_getElem? (i := 187) rfl)⟩
theorem ml_X11_105 : Cond.methodLink RX11 105 yX9_length ∈ lw_tbl := ik_in2 (List.mem_of_getElem? (i := 189) rfl)
theorem mf_X9_length : ik_MF yX9_length cX9_length 1 (some .int) 0 := ⟨ik_in2 (List.mem_of_getElem? (i := 192) rfl), ik_in1 (List.mem_of_getElem? (i := 2) rfl), by decide +kernel, by decide +kernel, by decide +kernel⟩
theorem mv_X9_length : ik_MV yX9_length := ⟨ik_in2 (List.mem_of_getElem? (i := 190) rfl), ik_in2 (List.mem_of_getElem? (i := 191) rfl)⟩
theorem fl_X11_26 : ik_FL RX11 26 11 2 := ⟨RX11, TX11, 15, tyX11, rfl, by decide, inX11, tyX11_ok, nmX11, rfl, ik_in2 (List.mem_of_getElem? (i := 110) rfl)⟩
theorem fl_X6_36 : ik_FL RX6 36 6 6 := ⟨RX6, TX6, 7, tyX6, rfl, by decide, inX6, tyX6_ok, nmX6, rfl, ik_in1 (List.mem_of_getElem? (i := 83) rfl)⟩
theorem ml_X11_109 : Cond.methodLink RX11 109 yX6_full ∈ lw_tbl := ik_in2 (List.mem_of_getElem? (i := 197) rfl)
theorem mf_X6_full : ik_MF yX6_full cX6_full 1 (some .boolean) 0 := ⟨ik_in2 (List.mem_of_getElem? (i := 200) rfl), ik_in1 (List.mem_of_getElem? (i := 4) rfl), by decide +kernel, by decide +kernel, by decide +kernel⟩
theorem mv_X6_full : ik_MV yX6_full := ⟨ik_in2 (List.mem_of_getElem? (i := 198) rfl), ik_in2 (List.mem_of_getElem? (i := 199) rfl)⟩
theorem fl_X6_14 : ik_FL RX6 14 6 0 := ⟨RX6, TX6, 7, tyX6, rfl, by decide, inX6, tyX6_ok, nmX6, rfl, ik_in1 (List.mem_of_getElem? (i := 77) rfl)⟩
theorem fl_X10_15 : ik_FL RX10 15 10 0 := ⟨RX10, TX10, 3, tyX10, rfl, by decide, inX10, tyX10_ok, nmX10, rfl, ik_in1 (List.mem_of_getElem? (i := 67) rfl)⟩
theorem ml_X10_28 : Cond.methodLink RX10 28 yX10_stands ∈ lw_tbl := ik_in2 (List.mem_of_getElem? (i := 209) rfl)
theorem mf_X10_stands : ik_MF yX10_stands cX10_stands 2 (some .boolean) 1 := ⟨ik_in2 (List.mem_of_getElem? (i := 212) rfl), ik_in1 (List.mem_of_getElem? (i := 5) rfl), by decide +kernel, by decide +kernel, by decide +kernel⟩
theorem mv_X10_stands : ik_MV yX10_stands := ⟨ik_in2 (List.mem_of_getElem? (i := 211) rfl), ik_inS (List.mem_of_getElem? (i := 1) (by decide +kernel))⟩
theorem fl_X10_25 : ik_FL RX10 25 10 2 := ⟨RX10, TX10, 3, tyX10, rfl, by decide, inX10, tyX10_ok, nmX10, rfl, ik_in1 (List.mem_of_getElem? (i := 69) rfl)⟩
theorem ml_X6_40 : Cond.methodLink RX6 40 yX10_wipe ∈ lw_tbl := ik_in2 (List.mem_of_getElem? (i := 205) rfl)
theorem mf_X10_wipe : ik_MF yX10_wipe cX10_wipe 2 (none) 1 := ⟨ik_in2 (List.mem_of_getElem? (i := 208) rfl), ik_in1 (List.mem_of_getElem? (i := 5) rfl), by decide +kernel, by decide +kernel, by decide +kernel⟩
theorem mv_X10_wipe : ik_MV yX10_wipe := ⟨ik_in2 (List.mem_of_getElem? (i := 206) rfl), ik_in2 (List.mem_of_getElem? (i := 207) rfl)⟩
theorem ml_X6_43 : Cond.methodLink RX6 43 yX9_at ∈ lw_tbl := ik_in2 (List.mem_of_getElem? (i := 213) rfl)
theorem mf_X9_at : ik_MF yX9_at cX9_at 2 (some .int) 1 := ⟨ik_in2 (List.mem_of_getElem? (i := 216) rfl), ik_in1 (List.mem_of_getElem? (i := 2) rfl), by decide +kernel, by decide +kernel, by decide +kernel⟩
theorem mv_X9_at : ik_MV yX9_at := ⟨ik_in2 (List.mem_of_getElem? (i := 214) rfl), ik_in2 (List.mem_of_getElem? (i := 215) rfl)⟩
theorem ml_X6_49 : Cond.methodLinkNest RX6 49 yX11_isLetter "InkBars" ∈ lw_tbl := ik_in2 (List.mem_of_getElem? (i := 217) rfl)
theorem mf_X11_isLetter : ik_MF yX11_isLetter cX11_isLetter 1 (some .boolean) 1 := ⟨ik_in2 (List.mem_of_getElem? (i := 219) rfl), ik_in1 (List.mem_of_getElem? (i := 1) rfl), by decide +kernel, by decide +kernel, by decide +kernel⟩
theorem ms_X11_isLetter : Cond.static yX11_isLetter ∈ lw_tbl := ik_in2 (List.mem_of_getElem? (i := 218) rfl)
theorem fl_X10_21 : ik_FL RX10 21 10 1 := ⟨RX10, TX10, 3, tyX10, rfl, by decide, inX10, tyX10_ok, nmX10, rfl, ik_in1 (List.mem_of_getElem? (i := 68) rfl)⟩
theorem ml_X6_53 : Cond.methodLink RX6 53 yX10_grow ∈ lw_tbl := ik_in2 (List.mem_of_getElem? (i := 220) rfl)
theorem mf_X10_grow : ik_MF yX10_grow cX10_grow 3 (some .boolean) 2 := ⟨ik_in2 (List.mem_of_getElem? (i := 223) rfl), ik_in1 (List.mem_of_getElem? (i := 5) rfl), by decide +kernel, by decide +kernel, by decide +kernel⟩
theorem mv_X10_grow : ik_MV yX10_grow := ⟨ik_in2 (List.mem_of_getElem? (i := 221) rfl), ik_in2 (List.mem_of_getElem? (i := 222) rfl)⟩
theorem ml_X10_36 : Cond.methodLink RX10 36 yX10_letter ∈ lw_tbl := ik_in2 (List.mem_of_getElem? (i := 228) rfl)
theorem mf_X10_letter : ik_MF yX10_letter cX10_letter 4 (some .int) 2 := ⟨ik_in2 (List.mem_of_getElem? (i := 231) rfl), ik_in1 (List.mem_of_getElem? (i := 5) rfl), by decide +kernel, by decide +kernel, by decide +kernel⟩
theorem mv_X10_letter : ik_MV yX10_letter := ⟨ik_in2 (List.mem_of_getElem? (i := 229) rfl), ik_in2 (List.mem_of_getElem? (i := 230) rfl)⟩
theorem ml_X6_57 : Cond.methodLink RX6 57 yX10_compare ∈ lw_tbl := ik_in2 (List.mem_of_getElem? (i := 224) rfl)
theorem mf_X10_compare : ik_MF yX10_compare cX10_compare 5 (some .int) 2 := ⟨ik_in2 (List.mem_of_getElem? (i := 227) rfl), ik_in1 (List.mem_of_getElem? (i := 5) rfl), by decide +kernel, by decide +kernel, by decide +kernel⟩
theorem mv_X10_compare : ik_MV yX10_compare := ⟨ik_in2 (List.mem_of_getElem? (i := 225) rfl), ik_in2 (List.mem_of_getElem? (i := 226) rfl)⟩
theorem ml_X11_113 : Cond.methodLink RX11 113 yX6_read ∈ lw_tbl := ik_in2 (List.mem_of_getElem? (i := 201) rfl)
theorem mf_X6_read : ik_MF yX6_read cX6_read 5 (some .boolean) 2 := ⟨ik_in2 (List.mem_of_getElem? (i := 204) rfl), ik_in1 (List.mem_of_getElem? (i := 4) rfl), by decide +kernel, by decide +kernel, by decide +kernel⟩
theorem mv_X6_read : ik_MV yX6_read := ⟨ik_in2 (List.mem_of_getElem? (i := 202) rfl), ik_in2 (List.mem_of_getElem? (i := 203) rfl)⟩
theorem ml_X11_117 : Cond.methodLink RX11 117 yX9_clear ∈ lw_tbl := ik_in2 (List.mem_of_getElem? (i := 232) rfl)
theorem mf_X9_clear : ik_MF yX9_clear cX9_clear 1 (none) 0 := ⟨ik_in2 (List.mem_of_getElem? (i := 235) rfl), ik_in1 (List.mem_of_getElem? (i := 2) rfl), by decide +kernel, by decide +kernel, by decide +kernel⟩
theorem mv_X9_clear : ik_MV yX9_clear := ⟨ik_in2 (List.mem_of_getElem? (i := 233) rfl), ik_in2 (List.mem_of_getElem? (i := 234) rfl)⟩
theorem ml_X6_61 : Cond.methodLink RX6 61 yX6_full ∈ lw_tbl := ik_in3 (List.mem_of_getElem? (i := 0) rfl)
theorem fl_X6_20 : ik_FL RX6 20 6 1 := ⟨RX6, TX6, 7, tyX6, rfl, by decide, inX6, tyX6_ok, nmX6, rfl, ik_in1 (List.mem_of_getElem? (i := 78) rfl)⟩
theorem fl_X6_24 : ik_FL RX6 24 6 2 := ⟨RX6, TX6, 7, tyX6, rfl, by decide, inX6, tyX6_ok, nmX6, rfl, ik_in1 (List.mem_of_getElem? (i := 79) rfl)⟩
theorem fl_X6_27 : ik_FL RX6 27 6 3 := ⟨RX6, TX6, 7, tyX6, rfl, by decide, inX6, tyX6_ok, nmX6, rfl, ik_in1 (List.mem_of_getElem? (i := 80) rfl)⟩
theorem fl_X6_30 : ik_FL RX6 30 6 4 := ⟨RX6, TX6, 7, tyX6, rfl, by decide, inX6, tyX6_ok, nmX6, rfl, ik_in1 (List.mem_of_getElem? (i := 81) rfl)⟩
theorem fl_X6_33 : ik_FL RX6 33 6 5 := ⟨RX6, TX6, 7, tyX6, rfl, by decide, inX6, tyX6_ok, nmX6, rfl, ik_in1 (List.mem_of_getElem? (i := 82) rfl)⟩
theorem fw_X6_36 : ik_FW RX6 36 6 6 0 := ⟨RX6, TX6, 7, tyX6, rfl, by decide, inX6, tyX6_ok, nmX6, rfl, ik_in1 (List.mem_of_getElem? (i := 83) rfl), rfl, rfl⟩
theorem ml_X11_120 : Cond.methodLink RX11 120 yX6_add ∈ lw_tbl := ik_in2 (List.mem_of_getElem? (i := 236) rfl)
theorem mf_X6_add : ik_MF yX6_add cX6_add 6 (some .int) 4 := ⟨ik_in2 (List.mem_of_getElem? (i := 239) rfl), ik_in1 (List.mem_of_getElem? (i := 4) rfl), by decide +kernel, by decide +kernel, by decide +kernel⟩
theorem mv_X6_add : ik_MV yX6_add := ⟨ik_in2 (List.mem_of_getElem? (i := 237) rfl), ik_in2 (List.mem_of_getElem? (i := 238) rfl)⟩
theorem ml_X11_124 : Cond.methodLink RX11 124 yX6_has ∈ lw_tbl := ik_in3 (List.mem_of_getElem? (i := 5) rfl)
theorem mf_X6_has : ik_MF yX6_has cX6_has 2 (some .boolean) 1 := ⟨ik_in3 (List.mem_of_getElem? (i := 8) rfl), ik_in1 (List.mem_of_getElem? (i := 4) rfl), by decide +kernel, by decide +kernel, by decide +kernel⟩
theorem mv_X6_has : ik_MV yX6_has := ⟨ik_in3 (List.mem_of_getElem? (i := 6) rfl), ik_in3 (List.mem_of_getElem? (i := 7) rfl)⟩
theorem ml_X10_32 : Cond.methodLink RX10 32 yX10_length ∈ lw_tbl := ik_in3 (List.mem_of_getElem? (i := 17) rfl)
theorem mf_X10_length : ik_MF yX10_length cX10_length 2 (some .int) 1 := ⟨ik_in3 (List.mem_of_getElem? (i := 20) rfl), ik_in1 (List.mem_of_getElem? (i := 5) rfl), by decide +kernel, by decide +kernel, by decide +kernel⟩
theorem mv_X10_length : ik_MV yX10_length := ⟨ik_in3 (List.mem_of_getElem? (i := 18) rfl), ik_in3 (List.mem_of_getElem? (i := 19) rfl)⟩
theorem ml_X10_39 : Cond.methodLink RX10 39 yX4_wideOf ∈ lw_tbl := ik_in3 (List.mem_of_getElem? (i := 21) rfl)
theorem mf_X4_wideOf : ik_MF yX4_wideOf cX4_wideOf 2 (some .int) 1 := ⟨ik_in3 (List.mem_of_getElem? (i := 24) rfl), ik_in1 (List.mem_of_getElem? (i := 3) rfl), by decide +kernel, by decide +kernel, by decide +kernel⟩
theorem mv_X4_wideOf : ik_MV yX4_wideOf := ⟨ik_in3 (List.mem_of_getElem? (i := 22) rfl), ik_in3 (List.mem_of_getElem? (i := 23) rfl)⟩
theorem ml_X10_44 : Cond.methodLink RX10 44 yX4_joinOf ∈ lw_tbl := ik_in3 (List.mem_of_getElem? (i := 25) rfl)
theorem mf_X4_joinOf : ik_MF yX4_joinOf cX4_joinOf 3 (some .int) 2 := ⟨ik_in3 (List.mem_of_getElem? (i := 28) rfl), ik_in1 (List.mem_of_getElem? (i := 3) rfl), by decide +kernel, by decide +kernel, by decide +kernel⟩
theorem mv_X4_joinOf : ik_MV yX4_joinOf := ⟨ik_in3 (List.mem_of_getElem? (i := 26) rfl), ik_in3 (List.mem_of_getElem? (i := 27) rfl)⟩
theorem ml_X6_65 : Cond.methodLink RX6 65 yX10_wide ∈ lw_tbl := ik_in3 (List.mem_of_getElem? (i := 13) rfl)
theorem mf_X10_wide : ik_MF yX10_wide cX10_wide 8 (some .int) 2 := ⟨ik_in3 (List.mem_of_getElem? (i := 16) rfl), ik_in1 (List.mem_of_getElem? (i := 5) rfl), by decide +kernel, by decide +kernel, by decide +kernel⟩
theorem mv_X10_wide : ik_MV yX10_wide := ⟨ik_in3 (List.mem_of_getElem? (i := 14) rfl), ik_in3 (List.mem_of_getElem? (i := 15) rfl)⟩
theorem ml_X11_127 : Cond.methodLink RX11 127 yX6_wide ∈ lw_tbl := ik_in3 (List.mem_of_getElem? (i := 9) rfl)
theorem mf_X6_wide : ik_MF yX6_wide cX6_wide 3 (some .int) 2 := ⟨ik_in3 (List.mem_of_getElem? (i := 12) rfl), ik_in1 (List.mem_of_getElem? (i := 4) rfl), by decide +kernel, by decide +kernel, by decide +kernel⟩
theorem mv_X6_wide : ik_MV yX6_wide := ⟨ik_in3 (List.mem_of_getElem? (i := 10) rfl), ik_in3 (List.mem_of_getElem? (i := 11) rfl)⟩
theorem fl_X11_33 : ik_FL RX11 33 11 3 := ⟨RX11, TX11, 15, tyX11, rfl, by decide, inX11, tyX11_ok, nmX11, rfl, ik_in2 (List.mem_of_getElem? (i := 111) rfl)⟩
theorem fl_X0_39 : ik_FL RX0 39 0 9 := ⟨RX0, TX0, 12, tyX0, rfl, by decide, inX0, tyX0_ok, nmX0, rfl, ik_in1 (List.mem_of_getElem? (i := 114) rfl)⟩
theorem ml_X11_131 : Cond.methodLink RX11 131 yX0_full ∈ lw_tbl := ik_in3 (List.mem_of_getElem? (i := 33) rfl)
theorem mf_X0_full : ik_MF yX0_full cX0_full 1 (some .boolean) 0 := ⟨ik_in3 (List.mem_of_getElem? (i := 36) rfl), ik_in1 (List.mem_of_getElem? (i := 7) rfl), by decide +kernel, by decide +kernel, by decide +kernel⟩
theorem mv_X0_full : ik_MV yX0_full := ⟨ik_in3 (List.mem_of_getElem? (i := 34) rfl), ik_in3 (List.mem_of_getElem? (i := 35) rfl)⟩
theorem ml_X0_49 : Cond.methodLink RX0 49 yX0_full ∈ lw_tbl := ik_in3 (List.mem_of_getElem? (i := 41) rfl)
theorem fl_X0_9 : ik_FL RX0 9 0 0 := ⟨RX0, TX0, 12, tyX0, rfl, by decide, inX0, tyX0_ok, nmX0, rfl, ik_in1 (List.mem_of_getElem? (i := 105) rfl)⟩
theorem fl_X0_15 : ik_FL RX0 15 0 1 := ⟨RX0, TX0, 12, tyX0, rfl, by decide, inX0, tyX0_ok, nmX0, rfl, ik_in1 (List.mem_of_getElem? (i := 106) rfl)⟩
theorem fl_X0_18 : ik_FL RX0 18 0 2 := ⟨RX0, TX0, 12, tyX0, rfl, by decide, inX0, tyX0_ok, nmX0, rfl, ik_in1 (List.mem_of_getElem? (i := 107) rfl)⟩
theorem fw_X0_39 : ik_FW RX0 39 0 9 0 := ⟨RX0, TX0, 12, tyX0, rfl, by decide, inX0, tyX0_ok, nmX0, rfl, ik_in1 (List.mem_of_getElem? (i := 114) rfl), rfl, rfl⟩
theorem ml_X11_132 : Cond.methodLink RX11 132 yX0_add ∈ lw_tbl := ik_in3 (List.mem_of_getElem? (i := 37) rfl)
theorem mf_X0_add : ik_MF yX0_add cX0_add 4 (some .int) 3 := ⟨ik_in3 (List.mem_of_getElem? (i := 40) rfl), ik_in1 (List.mem_of_getElem? (i := 7) rfl), by decide +kernel, by decide +kernel, by decide +kernel⟩
theorem mv_X0_add : ik_MV yX0_add := ⟨ik_in3 (List.mem_of_getElem? (i := 38) rfl), ik_in3 (List.mem_of_getElem? (i := 39) rfl)⟩
theorem fl_X11_40 : ik_FL RX11 40 11 4 := ⟨RX11, TX11, 15, tyX11, rfl, by decide, inX11, tyX11_ok, nmX11, rfl, ik_in2 (List.mem_of_getElem? (i := 112) rfl)⟩
theorem fl_X8_40 : ik_FL RX8 40 8 7 := ⟨RX8, TX8, 11, tyX8, rfl, by decide, inX8, tyX8_ok, nmX8, rfl, ik_in1 (List.mem_of_getElem? (i := 157) rfl)⟩
theorem ml_X11_135 : Cond.methodLink RX11 135 yX8_full ∈ lw_tbl := ik_in3 (List.mem_of_getElem? (i := 46) rfl)
theorem mf_X8_full : ik_MF yX8_full cX8_full 1 (some .boolean) 0 := ⟨ik_in3 (List.mem_of_getElem? (i := 49) rfl), ik_in1 (List.mem_of_getElem? (i := 8) rfl), by decide +kernel, by decide +kernel, by decide +kernel⟩
theorem mv_X8_full : ik_MV yX8_full := ⟨ik_in3 (List.mem_of_getElem? (i := 47) rfl), ik_in3 (List.mem_of_getElem? (i := 48) rfl)⟩
theorem ml_X11_136 : Cond.methodLink RX11 136 yX0_count ∈ lw_tbl := ik_in3 (List.mem_of_getElem? (i := 50) rfl)
theorem mf_X0_count : ik_MF yX0_count cX0_count 1 (some .int) 0 := ⟨ik_in3 (List.mem_of_getElem? (i := 53) rfl), ik_in1 (List.mem_of_getElem? (i := 7) rfl), by decide +kernel, by decide +kernel, by decide +kernel⟩
theorem mv_X0_count : ik_MV yX0_count := ⟨ik_in3 (List.mem_of_getElem? (i := 51) rfl), ik_in3 (List.mem_of_getElem? (i := 52) rfl)⟩
theorem fw_X8_44 : ik_FW RX8 44 8 8 0 := ⟨RX8, TX8, 11, tyX8, rfl, by decide, inX8, tyX8_ok, nmX8, rfl, ik_in1 (List.mem_of_getElem? (i := 158) rfl), rfl, rfl⟩
theorem ml_X8_47 : Cond.methodLink RX8 47 yX9_at ∈ lw_tbl := ik_in3 (List.mem_of_getElem? (i := 58) rfl)
theorem ml_X8_57 : Cond.methodLinkNest RX8 57 yX11_isLetter "InkBars" ∈ lw_tbl := ik_in3 (List.mem_of_getElem? (i := 63) rfl)
theorem ml_X8_69 : Cond.methodLinkNest RX8 69 yX11_isDigit "InkBars" ∈ lw_tbl := ik_in3 (List.mem_of_getElem? (i := 64) rfl)
theorem mf_X11_isDigit : ik_MF yX11_isDigit cX11_isDigit 1 (some .boolean) 1 := ⟨ik_in3 (List.mem_of_getElem? (i := 66) rfl), ik_in1 (List.mem_of_getElem? (i := 1) rfl), by decide +kernel, by decide +kernel, by decide +kernel⟩
theorem ms_X11_isDigit : Cond.static yX11_isDigit ∈ lw_tbl := ik_in3 (List.mem_of_getElem? (i := 65) rfl)
theorem fl_X8_44 : ik_FL RX8 44 8 8 := ⟨RX8, TX8, 11, tyX8, rfl, by decide, inX8, tyX8_ok, nmX8, rfl, ik_in1 (List.mem_of_getElem? (i := 158) rfl)⟩
theorem ml_X8_61 : Cond.methodLink RX8 61 yX8_slot ∈ lw_tbl := ik_in3 (List.mem_of_getElem? (i := 67) rfl)
theorem mf_X8_slot : ik_MF yX8_slot cX8_slot 2 (some .int) 2 := ⟨ik_in3 (List.mem_of_getElem? (i := 69) rfl), ik_in1 (List.mem_of_getElem? (i := 8) rfl), by decide +kernel, by decide +kernel, by decide +kernel⟩
theorem ms_X8_slot : Cond.static yX8_slot ∈ lw_tbl := ik_in3 (List.mem_of_getElem? (i := 68) rfl)
theorem fl_X8_16 : ik_FL RX8 16 8 0 := ⟨RX8, TX8, 11, tyX8, rfl, by decide, inX8, tyX8_ok, nmX8, rfl, ik_in1 (List.mem_of_getElem? (i := 150) rfl)⟩
theorem ml_X8_72 : Cond.methodLink RX8 72 yX10_wipe ∈ lw_tbl := ik_in3 (List.mem_of_getElem? (i := 70) rfl)
theorem fl_X8_20 : ik_FL RX8 20 8 1 := ⟨RX8, TX8, 11, tyX8, rfl, by decide, inX8, tyX8_ok, nmX8, rfl, ik_in1 (List.mem_of_getElem? (i := 151) rfl)⟩
theorem fl_X8_24 : ik_FL RX8 24 8 2 := ⟨RX8, TX8, 11, tyX8, rfl, by decide, inX8, tyX8_ok, nmX8, rfl, ik_in1 (List.mem_of_getElem? (i := 152) rfl)⟩
theorem ml_X8_65 : Cond.methodLink RX8 65 yX10_grow ∈ lw_tbl := ik_in3 (List.mem_of_getElem? (i := 71) rfl)
theorem ml_X8_53 : Cond.methodLink RX8 53 yX8_beginToken ∈ lw_tbl := ik_in3 (List.mem_of_getElem? (i := 59) rfl)
theorem mf_X8_beginToken : ik_MF yX8_beginToken cX8_beginToken 5 (some .int) 3 := ⟨ik_in3 (List.mem_of_getElem? (i := 62) rfl), ik_in1 (List.mem_of_getElem? (i := 8) rfl), by decide +kernel, by decide +kernel, by decide +kernel⟩
theorem mv_X8_beginToken : ik_MV yX8_beginToken := ⟨ik_in3 (List.mem_of_getElem? (i := 61) rfl), ik_inS (List.mem_of_getElem? (i := 2) (by decide +kernel))⟩
theorem ml_X11_139 : Cond.methodLink RX11 139 yX8_read ∈ lw_tbl := ik_in3 (List.mem_of_getElem? (i := 54) rfl)
theorem mf_X8_read : ik_MF yX8_read cX8_read 9 (some .int) 3 := ⟨ik_in3 (List.mem_of_getElem? (i := 57) rfl), ik_in1 (List.mem_of_getElem? (i := 8) rfl), by decide +kernel, by decide +kernel, by decide +kernel⟩
theorem mv_X8_read : ik_MV yX8_read := ⟨ik_in3 (List.mem_of_getElem? (i := 55) rfl), ik_in3 (List.mem_of_getElem? (i := 56) rfl)⟩
theorem ml_X8_75 : Cond.methodLink RX8 75 yX8_full ∈ lw_tbl := ik_in3 (List.mem_of_getElem? (i := 76) rfl)
theorem fl_X8_31 : ik_FL RX8 31 8 4 := ⟨RX8, TX8, 11, tyX8, rfl, by decide, inX8, tyX8_ok, nmX8, rfl, ik_in1 (List.mem_of_getElem? (i := 154) rfl)⟩
theorem fl_X8_34 : ik_FL RX8 34 8 5 := ⟨RX8, TX8, 11, tyX8, rfl, by decide, inX8, tyX8_ok, nmX8, rfl, ik_in1 (List.mem_of_getElem? (i := 155) rfl)⟩
theorem fl_X8_37 : ik_FL RX8 37 8 6 := ⟨RX8, TX8, 11, tyX8, rfl, by decide, inX8, tyX8_ok, nmX8, rfl, ik_in1 (List.mem_of_getElem? (i := 156) rfl)⟩
theorem fw_X8_40 : ik_FW RX8 40 8 7 0 := ⟨RX8, TX8, 11, tyX8, rfl, by decide, inX8, tyX8_ok, nmX8, rfl, ik_in1 (List.mem_of_getElem? (i := 157) rfl), rfl, rfl⟩
theorem ml_X8_101 : Cond.methodLink RX8 101 yX8_has ∈ lw_tbl := ik_in3 (List.mem_of_getElem? (i := 85) rfl)
theorem mf_X8_has : ik_MF yX8_has cX8_has 2 (some .boolean) 1 := ⟨ik_in3 (List.mem_of_getElem? (i := 88) rfl), ik_in1 (List.mem_of_getElem? (i := 8) rfl), by decide +kernel, by decide +kernel, by decide +kernel⟩
theorem mv_X8_has : ik_MV yX8_has := ⟨ik_in3 (List.mem_of_getElem? (i := 86) rfl), ik_in3 (List.mem_of_getElem? (i := 87) rfl)⟩
theorem ml_X8_106 : Cond.methodLink RX8 106 yX8_stands ∈ lw_tbl := ik_in3 (List.mem_of_getElem? (i := 81) rfl)
theorem mf_X8_stands : ik_MF yX8_stands cX8_stands 3 (some .boolean) 2 := ⟨ik_in3 (List.mem_of_getElem? (i := 84) rfl), ik_in1 (List.mem_of_getElem? (i := 8) rfl), by decide +kernel, by decide +kernel, by decide +kernel⟩
theorem mv_X8_stands : ik_MV yX8_stands := ⟨ik_in3 (List.mem_of_getElem? (i := 83) rfl), ik_inS (List.mem_of_getElem? (i := 3) (by decide +kernel))⟩
theorem ml_X8_79 : Cond.methodLink RX8 79 yX8_barAt ∈ lw_tbl := ik_in3 (List.mem_of_getElem? (i := 77) rfl)
theorem mf_X8_barAt : ik_MF yX8_barAt cX8_barAt 3 (some .int) 2 := ⟨ik_in3 (List.mem_of_getElem? (i := 80) rfl), ik_in1 (List.mem_of_getElem? (i := 8) rfl), by decide +kernel, by decide +kernel, by decide +kernel⟩
theorem mv_X8_barAt : ik_MV yX8_barAt := ⟨ik_in3 (List.mem_of_getElem? (i := 78) rfl), ik_in3 (List.mem_of_getElem? (i := 79) rfl)⟩
theorem ml_X8_86 : Cond.methodLink RX8 86 yX10_letter ∈ lw_tbl := ik_in3 (List.mem_of_getElem? (i := 93) rfl)
theorem ml_X8_89 : Cond.methodLink RX8 89 yX10_length ∈ lw_tbl := ik_in3 (List.mem_of_getElem? (i := 94) rfl)
theorem fw_X8_92 : ik_FW RX8 92 8 9 0 := ⟨RX8, TX8, 11, tyX8, rfl, by decide, inX8, tyX8_ok, nmX8, rfl, ik_in1 (List.mem_of_getElem? (i := 159) rfl), rfl, rfl⟩
theorem fw_X8_95 : ik_FW RX8 95 8 10 0 := ⟨RX8, TX8, 11, tyX8, rfl, by decide, inX8, tyX8_ok, nmX8, rfl, ik_in1 (List.mem_of_getElem? (i := 160) rfl), rfl, rfl⟩
theorem ml_X8_82 : Cond.methodLink RX8 82 yX8_heedArticle ∈ lw_tbl := ik_in3 (List.mem_of_getElem? (i := 89) rfl)
theorem mf_X8_heedArticle : ik_MF yX8_heedArticle cX8_heedArticle 3 (none) 2 := ⟨ik_in3 (List.mem_of_getElem? (i := 92) rfl), ik_in1 (List.mem_of_getElem? (i := 8) rfl), by decide +kernel, by decide +kernel, by decide +kernel⟩
theorem mv_X8_heedArticle : ik_MV yX8_heedArticle := ⟨ik_in3 (List.mem_of_getElem? (i := 91) rfl), ik_inS (List.mem_of_getElem? (i := 4) (by decide +kernel))⟩
theorem ml_X11_142 : Cond.methodLink RX11 142 yX8_add ∈ lw_tbl := ik_in3 (List.mem_of_getElem? (i := 72) rfl)
theorem mf_X8_add : ik_MF yX8_add cX8_add 3 (some .int) 1 := ⟨ik_in3 (List.mem_of_getElem? (i := 75) rfl), ik_in1 (List.mem_of_getElem? (i := 8) rfl), by decide +kernel, by decide +kernel, by decide +kernel⟩
theorem mv_X8_add : ik_MV yX8_add := ⟨ik_in3 (List.mem_of_getElem? (i := 73) rfl), ik_in3 (List.mem_of_getElem? (i := 74) rfl)⟩
theorem fl_X11_47 : ik_FL RX11 47 11 5 := ⟨RX11, TX11, 15, tyX11, rfl, by decide, inX11, tyX11_ok, nmX11, rfl, ik_in2 (List.mem_of_getElem? (i := 113) rfl)⟩
theorem fl_X7_15 : ik_FL RX7 15 7 1 := ⟨RX7, TX7, 11, tyX7, rfl, by decide, inX7, tyX7_ok, nmX7, rfl, ik_in1 (List.mem_of_getElem? (i := 192) rfl)⟩
theorem ml_X7_25 : Cond.methodLink RX7 25 yX9_at ∈ lw_tbl := ik_in3 (List.mem_of_getElem? (i := 103) rfl)
theorem fw_X7_65 : ik_FW RX7 65 7 5 3 := ⟨RX7, TX7, 11, tyX7, rfl, by decide, inX7, tyX7_ok, nmX7, rfl, ik_in1 (List.mem_of_getElem? (i := 196) rfl), rfl, rfl⟩
theorem fw_X7_68 : ik_FW RX7 68 7 6 0 := ⟨RX7, TX7, 11, tyX7, rfl, by decide, inX7, tyX7_ok, nmX7, rfl, ik_in1 (List.mem_of_getElem? (i := 197) rfl), rfl, rfl⟩
theorem fw_X7_71 : ik_FW RX7 71 7 7 0 := ⟨RX7, TX7, 11, tyX7, rfl, by decide, inX7, tyX7_ok, nmX7, rfl, ik_in1 (List.mem_of_getElem? (i := 198) rfl), rfl, rfl⟩
theorem fw_X7_45 : ik_FW RX7 45 7 9 0 := ⟨RX7, TX7, 11, tyX7, rfl, by decide, inX7, tyX7_ok, nmX7, rfl, ik_in1 (List.mem_of_getElem? (i := 200) rfl), rfl, rfl⟩
theorem fw_X7_61 : ik_FW RX7 61 7 10 3 := ⟨RX7, TX7, 11, tyX7, rfl, by decide, inX7, tyX7_ok, nmX7, rfl, ik_in1 (List.mem_of_getElem? (i := 201) rfl), rfl, rfl⟩
theorem fl_X7_45 : ik_FL RX7 45 7 9 := ⟨RX7, TX7, 11, tyX7, rfl, by decide, inX7, tyX7_ok, nmX7, rfl, ik_in1 (List.mem_of_getElem? (i := 200) rfl)⟩
theorem fl_X7_71 : ik_FL RX7 71 7 7 := ⟨RX7, TX7, 11, tyX7, rfl, by decide, inX7, tyX7_ok, nmX7, rfl, ik_in1 (List.mem_of_getElem? (i := 198) rfl)⟩
theorem fw_X7_39 : ik_FW RX7 39 7 8 0 := ⟨RX7, TX7, 11, tyX7, rfl, by decide, inX7, tyX7_ok, nmX7, rfl, ik_in1 (List.mem_of_getElem? (i := 199) rfl), rfl, rfl⟩
theorem fl_X7_68 : ik_FL RX7 68 7 6 := ⟨RX7, TX7, 11, tyX7, rfl, by decide, inX7, tyX7_ok, nmX7, rfl, ik_in1 (List.mem_of_getElem? (i := 197) rfl)⟩
theorem fl_X7_65 : ik_FL RX7 65 7 5 := ⟨RX7, TX7, 11, tyX7, rfl, by decide, inX7, tyX7_ok, nmX7, rfl, ik_in1 (List.mem_of_getElem? (i := 196) rfl)⟩
theorem fl_X7_9 : ik_FL RX7 9 7 0 := ⟨RX7, TX7, 11, tyX7, rfl, by decide, inX7, tyX7_ok, nmX7, rfl, ik_in1 (List.mem_of_getElem? (i := 191) rfl)⟩
theorem ml_X7_42 : Cond.methodLink RX7 42 yX7_go ∈ lw_tbl := ik_in3 (List.mem_of_getElem? (i := 108) rfl)
theorem mf_X7_go : ik_MF yX7_go cX7_go 3 (none) 1 := ⟨ik_in3 (List.mem_of_getElem? (i := 111) rfl), ik_in1 (List.mem_of_getElem? (i := 9) rfl), by decide +kernel, by decide +kernel, by decide +kernel⟩
theorem mv_X7_go : ik_MV yX7_go := ⟨ik_in3 (List.mem_of_getElem? (i := 110) rfl), ik_inS (List.mem_of_getElem? (i := 6) (by decide +kernel))⟩
theorem ml_X7_31 : Cond.methodLink RX7 31 yX7_begin ∈ lw_tbl := ik_in3 (List.mem_of_getElem? (i := 104) rfl)
theorem mf_X7_begin : ik_MF yX7_begin cX7_begin 4 (none) 3 := ⟨ik_in3 (List.mem_of_getElem? (i := 107) rfl), ik_in1 (List.mem_of_getElem? (i := 9) rfl), by decide +kernel, by decide +kernel, by decide +kernel⟩
theorem mv_X7_begin : ik_MV yX7_begin := ⟨ik_in3 (List.mem_of_getElem? (i := 106) rfl), ik_inS (List.mem_of_getElem? (i := 5) (by decide +kernel))⟩
theorem fl_X7_39 : ik_FL RX7 39 7 8 := ⟨RX7, TX7, 11, tyX7, rfl, by decide, inX7, tyX7_ok, nmX7, rfl, ik_in1 (List.mem_of_getElem? (i := 199) rfl)⟩
theorem ml_X7_73 : Cond.methodLinkNest RX7 73 yX11_isDigit "InkBars" ∈ lw_tbl := ik_in3 (List.mem_of_getElem? (i := 116) rfl)
theorem ml_X7_80 : Cond.methodLink RX7 80 yX7_piece ∈ lw_tbl := ik_in3 (List.mem_of_getElem? (i := 125) rfl)
theorem mf_X7_piece : ik_MF yX7_piece cX7_piece 6 (some .boolean) 2 := ⟨ik_in3 (List.mem_of_getElem? (i := 128) rfl), ik_in1 (List.mem_of_getElem? (i := 9) rfl), by decide +kernel, by decide +kernel, by decide +kernel⟩
theorem mv_X7_piece : ik_MV yX7_piece := ⟨ik_in3 (List.mem_of_getElem? (i := 127) rfl), ik_inS (List.mem_of_getElem? (i := 10) (by decide +kernel))⟩
theorem ml_X7_57 : Cond.methodLink RX7 57 yX7_condition ∈ lw_tbl := ik_in3 (List.mem_of_getElem? (i := 117) rfl)
theorem mf_X7_condition : ik_MF yX7_condition cX7_condition 6 (some .boolean) 2 := ⟨ik_in3 (List.mem_of_getElem? (i := 120) rfl), ik_in1 (List.mem_of_getElem? (i := 9) rfl), by decide +kernel, by decide +kernel, by decide +kernel⟩
theorem mv_X7_condition : ik_MV yX7_condition := ⟨ik_in3 (List.mem_of_getElem? (i := 119) rfl), ik_inS (List.mem_of_getElem? (i := 8) (by decide +kernel))⟩
theorem ml_X7_83 : Cond.methodLink RX7 83 yX7_nested ∈ lw_tbl := ik_in3 (List.mem_of_getElem? (i := 129) rfl)
theorem mf_X7_nested : ik_MF yX7_nested cX7_nested 5 (some .boolean) 2 := ⟨ik_in3 (List.mem_of_getElem? (i := 132) rfl), ik_in1 (List.mem_of_getElem? (i := 9) rfl), by decide +kernel, by decide +kernel, by decide +kernel⟩
theorem mv_X7_nested : ik_MV yX7_nested := ⟨ik_in3 (List.mem_of_getElem? (i := 131) rfl), ik_inS (List.mem_of_getElem? (i := 11) (by decide +kernel))⟩
theorem ml_X7_86 : Cond.methodLink RX7 86 yX7_sum ∈ lw_tbl := ik_in3 (List.mem_of_getElem? (i := 133) rfl)
theorem mf_X7_sum : ik_MF yX7_sum cX7_sum 7 (some .int) 2 := ⟨ik_in3 (List.mem_of_getElem? (i := 136) rfl), ik_in1 (List.mem_of_getElem? (i := 9) rfl), by decide +kernel, by decide +kernel, by decide +kernel⟩
theorem mv_X7_sum : ik_MV yX7_sum := ⟨ik_in3 (List.mem_of_getElem? (i := 135) rfl), ik_inS (List.mem_of_getElem? (i := 12) (by decide +kernel))⟩
theorem ml_X7_96 : Cond.methodLink RX7 96 yX7_isFact ∈ lw_tbl := ik_in3 (List.mem_of_getElem? (i := 145) rfl)
theorem mf_X7_isFact : ik_MF yX7_isFact cX7_isFact 1 (some .boolean) 1 := ⟨ik_in3 (List.mem_of_getElem? (i := 147) rfl), ik_in1 (List.mem_of_getElem? (i := 9) rfl), by decide +kernel, by decide +kernel, by decide +kernel⟩
theorem ms_X7_isFact : Cond.static yX7_isFact ∈ lw_tbl := ik_in3 (List.mem_of_getElem? (i := 146) rfl)
theorem fl_X7_18 : ik_FL RX7 18 7 2 := ⟨RX7, TX7, 11, tyX7, rfl, by decide, inX7, tyX7_ok, nmX7, rfl, ik_in1 (List.mem_of_getElem? (i := 193) rfl)⟩
theorem ml_X7_93 : Cond.methodLink RX7 93 yX7_factor ∈ lw_tbl := ik_in3 (List.mem_of_getElem? (i := 141) rfl)
theorem mf_X7_factor : ik_MF yX7_factor cX7_factor 6 (some .int) 2 := ⟨ik_in3 (List.mem_of_getElem? (i := 144) rfl), ik_in1 (List.mem_of_getElem? (i := 9) rfl), by decide +kernel, by decide +kernel, by decide +kernel⟩
theorem mv_X7_factor : ik_MV yX7_factor := ⟨ik_in3 (List.mem_of_getElem? (i := 143) rfl), ik_inS (List.mem_of_getElem? (i := 14) (by decide +kernel))⟩
theorem fl_X7_61 : ik_FL RX7 61 7 10 := ⟨RX7, TX7, 11, tyX7, rfl, by decide, inX7, tyX7_ok, nmX7, rfl, ik_in1 (List.mem_of_getElem? (i := 201) rfl)⟩
theorem ml_X7_90 : Cond.methodLink RX7 90 yX7_product ∈ lw_tbl := ik_in3 (List.mem_of_getElem? (i := 137) rfl)
theorem mf_X7_product : ik_MF yX7_product cX7_product 7 (some .int) 2 := ⟨ik_in3 (List.mem_of_getElem? (i := 140) rfl), ik_in1 (List.mem_of_getElem? (i := 9) rfl), by decide +kernel, by decide +kernel, by decide +kernel⟩
theorem mv_X7_product : ik_MV yX7_product := ⟨ik_in3 (List.mem_of_getElem? (i := 139) rfl), ik_inS (List.mem_of_getElem? (i := 13) (by decide +kernel))⟩
theorem ml_X7_77 : Cond.methodLink RX7 77 yX7_part ∈ lw_tbl := ik_in3 (List.mem_of_getElem? (i := 121) rfl)
theorem mf_X7_part : ik_MF yX7_part cX7_part 6 (some .boolean) 2 := ⟨ik_in3 (List.mem_of_getElem? (i := 124) rfl), ik_in1 (List.mem_of_getElem? (i := 9) rfl), by decide +kernel, by decide +kernel, by decide +kernel⟩
theorem mv_X7_part : ik_MV yX7_part := ⟨ik_in3 (List.mem_of_getElem? (i := 123) rfl), ik_inS (List.mem_of_getElem? (i := 9) (by decide +kernel))⟩
theorem ml_X7_35 : Cond.methodLink RX7 35 yX7_clause ∈ lw_tbl := ik_in3 (List.mem_of_getElem? (i := 112) rfl)
theorem mf_X7_clause : ik_MF yX7_clause cX7_clause 3 (none) 1 := ⟨ik_in3 (List.mem_of_getElem? (i := 115) rfl), ik_in1 (List.mem_of_getElem? (i := 9) rfl), by decide +kernel, by decide +kernel, by decide +kernel⟩
theorem mv_X7_clause : ik_MV yX7_clause := ⟨ik_in3 (List.mem_of_getElem? (i := 114) rfl), ik_inS (List.mem_of_getElem? (i := 7) (by decide +kernel))⟩
theorem acp_X7_48 : ik_ACP RX7 48 := ⟨ik_in3 (List.mem_of_getElem? (i := 148) rfl), ik_in3 (List.mem_of_getElem? (i := 150) rfl), ik_in3 (List.mem_of_getElem? (i := 149) rfl), ik_in1 (List.mem_of_getElem? (i := 15) rfl)⟩
theorem fw_X7_54 : ik_FW RX7 54 7 3 0 := ⟨RX7, TX7, 11, tyX7, rfl, by decide, inX7, tyX7_ok, nmX7, rfl, ik_in1 (List.mem_of_getElem? (i := 194) rfl), rfl, rfl⟩
theorem fw_X7_21 : ik_FW RX7 21 7 4 0 := ⟨RX7, TX7, 11, tyX7, rfl, by decide, inX7, tyX7_ok, nmX7, rfl, ik_in1 (List.mem_of_getElem? (i := 195) rfl), rfl, rfl⟩
theorem ml_X11_145 : Cond.methodLink RX11 145 yX7_take ∈ lw_tbl := ik_in3 (List.mem_of_getElem? (i := 99) rfl)
theorem mf_X7_take : ik_MF yX7_take cX7_take 5 (some .int) 2 := ⟨ik_in3 (List.mem_of_getElem? (i := 102) rfl), ik_in1 (List.mem_of_getElem? (i := 9) rfl), by decide +kernel, by decide +kernel, by decide +kernel⟩
theorem mv_X7_take : ik_MV yX7_take := ⟨ik_in3 (List.mem_of_getElem? (i := 100) rfl), ik_in3 (List.mem_of_getElem? (i := 101) rfl)⟩
theorem fl_X7_21 : ik_FL RX7 21 7 4 := ⟨RX7, TX7, 11, tyX7, rfl, by decide, inX7, tyX7_ok, nmX7, rfl, ik_in1 (List.mem_of_getElem? (i := 195) rfl)⟩
theorem ml_X11_149 : Cond.methodLink RX11 149 yX7_clauses ∈ lw_tbl := ik_in3 (List.mem_of_getElem? (i := 151) rfl)
theorem mf_X7_clauses : ik_MF yX7_clauses cX7_clauses 1 (some .int) 0 := ⟨ik_in3 (List.mem_of_getElem? (i := 154) rfl), ik_in1 (List.mem_of_getElem? (i := 9) rfl), by decide +kernel, by decide +kernel, by decide +kernel⟩
theorem mv_X7_clauses : ik_MV yX7_clauses := ⟨ik_in3 (List.mem_of_getElem? (i := 152) rfl), ik_in3 (List.mem_of_getElem? (i := 153) rfl)⟩
theorem ml_X11_152 : Cond.methodLink RX11 152 yX0_has ∈ lw_tbl := ik_in3 (List.mem_of_getElem? (i := 159) rfl)
theorem mf_X0_has : ik_MF yX0_has cX0_has 2 (some .boolean) 1 := ⟨ik_in3 (List.mem_of_getElem? (i := 162) rfl), ik_in1 (List.mem_of_getElem? (i := 7) rfl), by decide +kernel, by decide +kernel, by decide +kernel⟩
theorem mv_X0_has : ik_MV yX0_has := ⟨ik_in3 (List.mem_of_getElem? (i := 160) rfl), ik_in3 (List.mem_of_getElem? (i := 161) rfl)⟩
theorem fl_X0_43 : ik_FL RX0 43 0 10 := ⟨RX0, TX0, 12, tyX0, rfl, by decide, inX0, tyX0_ok, nmX0, rfl, ik_in1 (List.mem_of_getElem? (i := 115) rfl)⟩
theorem ml_X11_153 : Cond.methodLink RX11 153 yX0_tiesFull ∈ lw_tbl := ik_in3 (List.mem_of_getElem? (i := 163) rfl)
theorem mf_X0_tiesFull : ik_MF yX0_tiesFull cX0_tiesFull 1 (some .boolean) 0 := ⟨ik_in3 (List.mem_of_getElem? (i := 166) rfl), ik_in1 (List.mem_of_getElem? (i := 7) rfl), by decide +kernel, by decide +kernel, by decide +kernel⟩
theorem mv_X0_tiesFull : ik_MV yX0_tiesFull := ⟨ik_in3 (List.mem_of_getElem? (i := 164) rfl), ik_in3 (List.mem_of_getElem? (i := 165) rfl)⟩
theorem ml_X0_53 : Cond.methodLink RX0 53 yX0_tiesFull ∈ lw_tbl := ik_in3 (List.mem_of_getElem? (i := 171) rfl)
theorem fl_X0_21 : ik_FL RX0 21 0 3 := ⟨RX0, TX0, 12, tyX0, rfl, by decide, inX0, tyX0_ok, nmX0, rfl, ik_in1 (List.mem_of_getElem? (i := 108) rfl)⟩
theorem fl_X0_24 : ik_FL RX0 24 0 4 := ⟨RX0, TX0, 12, tyX0, rfl, by decide, inX0, tyX0_ok, nmX0, rfl, ik_in1 (List.mem_of_getElem? (i := 109) rfl)⟩
theorem fl_X0_27 : ik_FL RX0 27 0 5 := ⟨RX0, TX0, 12, tyX0, rfl, by decide, inX0, tyX0_ok, nmX0, rfl, ik_in1 (List.mem_of_getElem? (i := 110) rfl)⟩
theorem fw_X0_43 : ik_FW RX0 43 0 10 0 := ⟨RX0, TX0, 12, tyX0, rfl, by decide, inX0, tyX0_ok, nmX0, rfl, ik_in1 (List.mem_of_getElem? (i := 115) rfl), rfl, rfl⟩
theorem ml_X11_156 : Cond.methodLink RX11 156 yX0_addTie ∈ lw_tbl := ik_in3 (List.mem_of_getElem? (i := 167) rfl)
theorem mf_X0_addTie : ik_MF yX0_addTie cX0_addTie 4 (none) 3 := ⟨ik_in3 (List.mem_of_getElem? (i := 170) rfl), ik_in1 (List.mem_of_getElem? (i := 7) rfl), by decide +kernel, by decide +kernel, by decide +kernel⟩
theorem mv_X0_addTie : ik_MV yX0_addTie := ⟨ik_in3 (List.mem_of_getElem? (i := 168) rfl), ik_in3 (List.mem_of_getElem? (i := 169) rfl)⟩
theorem fl_X0_46 : ik_FL RX0 46 0 11 := ⟨RX0, TX0, 12, tyX0, rfl, by decide, inX0, tyX0_ok, nmX0, rfl, ik_in1 (List.mem_of_getElem? (i := 116) rfl)⟩
theorem ml_X11_159 : Cond.methodLink RX11 159 yX0_listsFull ∈ lw_tbl := ik_in3 (List.mem_of_getElem? (i := 176) rfl)
theorem mf_X0_listsFull : ik_MF yX0_listsFull cX0_listsFull 1 (some .boolean) 0 := ⟨ik_in3 (List.mem_of_getElem? (i := 179) rfl), ik_in1 (List.mem_of_getElem? (i := 7) rfl), by decide +kernel, by decide +kernel, by decide +kernel⟩
theorem mv_X0_listsFull : ik_MV yX0_listsFull := ⟨ik_in3 (List.mem_of_getElem? (i := 177) rfl), ik_in3 (List.mem_of_getElem? (i := 178) rfl)⟩
theorem ml_X0_56 : Cond.methodLink RX0 56 yX0_listsFull ∈ lw_tbl := ik_in3 (List.mem_of_getElem? (i := 184) rfl)
theorem fl_X0_30 : ik_FL RX0 30 0 6 := ⟨RX0, TX0, 12, tyX0, rfl, by decide, inX0, tyX0_ok, nmX0, rfl, ik_in1 (List.mem_of_getElem? (i := 111) rfl)⟩
theorem fl_X0_33 : ik_FL RX0 33 0 7 := ⟨RX0, TX0, 12, tyX0, rfl, by decide, inX0, tyX0_ok, nmX0, rfl, ik_in1 (List.mem_of_getElem? (i := 112) rfl)⟩
theorem fl_X0_36 : ik_FL RX0 36 0 8 := ⟨RX0, TX0, 12, tyX0, rfl, by decide, inX0, tyX0_ok, nmX0, rfl, ik_in1 (List.mem_of_getElem? (i := 113) rfl)⟩
theorem fw_X0_46 : ik_FW RX0 46 0 11 0 := ⟨RX0, TX0, 12, tyX0, rfl, by decide, inX0, tyX0_ok, nmX0, rfl, ik_in1 (List.mem_of_getElem? (i := 116) rfl), rfl, rfl⟩
theorem ml_X11_162 : Cond.methodLink RX11 162 yX0_addListed ∈ lw_tbl := ik_in3 (List.mem_of_getElem? (i := 180) rfl)
theorem mf_X0_addListed : ik_MF yX0_addListed cX0_addListed 4 (none) 3 := ⟨ik_in3 (List.mem_of_getElem? (i := 183) rfl), ik_in1 (List.mem_of_getElem? (i := 7) rfl), by decide +kernel, by decide +kernel, by decide +kernel⟩
theorem mv_X0_addListed : ik_MV yX0_addListed := ⟨ik_in3 (List.mem_of_getElem? (i := 181) rfl), ik_in3 (List.mem_of_getElem? (i := 182) rfl)⟩
theorem ml_X11_165 : Cond.methodLink RX11 165 yX11_isHouse ∈ lw_tbl := ik_in3 (List.mem_of_getElem? (i := 189) rfl)
theorem mf_X11_isHouse : ik_MF yX11_isHouse cX11_isHouse 1 (some .boolean) 1 := ⟨ik_in3 (List.mem_of_getElem? (i := 191) rfl), ik_in1 (List.mem_of_getElem? (i := 1) rfl), by decide +kernel, by decide +kernel, by decide +kernel⟩
theorem ms_X11_isHouse : Cond.static yX11_isHouse ∈ lw_tbl := ik_in3 (List.mem_of_getElem? (i := 190) rfl)
theorem fl_X11_54 : ik_FL RX11 54 11 6 := ⟨RX11, TX11, 15, tyX11, rfl, by decide, inX11, tyX11_ok, nmX11, rfl, ik_in2 (List.mem_of_getElem? (i := 114) rfl)⟩
theorem fl_X3_19 : ik_FL RX3 19 3 3 := ⟨RX3, TX3, 4, tyX3, rfl, by decide, inX3, tyX3_ok, nmX3, rfl, ik_in1 (List.mem_of_getElem? (i := 234) rfl)⟩
theorem ml_X11_168 : Cond.methodLink RX11 168 yX3_full ∈ lw_tbl := ik_in3 (List.mem_of_getElem? (i := 192) rfl)
theorem mf_X3_full : ik_MF yX3_full cX3_full 1 (some .boolean) 0 := ⟨ik_in3 (List.mem_of_getElem? (i := 195) rfl), ik_in1 (List.mem_of_getElem? (i := 10) rfl), by decide +kernel, by decide +kernel, by decide +kernel⟩
theorem mv_X3_full : ik_MV yX3_full := ⟨ik_in3 (List.mem_of_getElem? (i := 193) rfl), ik_in3 (List.mem_of_getElem? (i := 194) rfl)⟩
theorem ml_X3_23 : Cond.methodLink RX3 23 yX3_full ∈ lw_tbl := ik_in3 (List.mem_of_getElem? (i := 200) rfl)
theorem fl_X3_9 : ik_FL RX3 9 3 0 := ⟨RX3, TX3, 4, tyX3, rfl, by decide, inX3, tyX3_ok, nmX3, rfl, ik_in1 (List.mem_of_getElem? (i := 231) rfl)⟩
theorem fl_X3_13 : ik_FL RX3 13 3 1 := ⟨RX3, TX3, 4, tyX3, rfl, by decide, inX3, tyX3_ok, nmX3, rfl, ik_in1 (List.mem_of_getElem? (i := 232) rfl)⟩
theorem fl_X3_16 : ik_FL RX3 16 3 2 := ⟨RX3, TX3, 4, tyX3, rfl, by decide, inX3, tyX3_ok, nmX3, rfl, ik_in1 (List.mem_of_getElem? (i := 233) rfl)⟩
theorem fw_X3_19 : ik_FW RX3 19 3 3 0 := ⟨RX3, TX3, 4, tyX3, rfl, by decide, inX3, tyX3_ok, nmX3, rfl, ik_in1 (List.mem_of_getElem? (i := 234) rfl), rfl, rfl⟩
theorem ml_X11_169 : Cond.methodLink RX11 169 yX3_add ∈ lw_tbl := ik_in3 (List.mem_of_getElem? (i := 196) rfl)
theorem mf_X3_add : ik_MF yX3_add cX3_add 4 (none) 3 := ⟨ik_in3 (List.mem_of_getElem? (i := 199) rfl), ik_in1 (List.mem_of_getElem? (i := 10) rfl), by decide +kernel, by decide +kernel, by decide +kernel⟩
theorem mv_X3_add : ik_MV yX3_add := ⟨ik_in3 (List.mem_of_getElem? (i := 197) rfl), ik_in3 (List.mem_of_getElem? (i := 198) rfl)⟩
theorem ml_X3_31 : Cond.methodLink RX3 31 yX6_wide ∈ lw_tbl := ik_in3 (List.mem_of_getElem? (i := 213) rfl)
theorem ml_X3_27 : Cond.methodLink RX3 27 yX3_bound ∈ lw_tbl := ik_in3 (List.mem_of_getElem? (i := 209) rfl)
theorem mf_X3_bound : ik_MF yX3_bound cX3_bound 10 (some .int) 4 := ⟨ik_in3 (List.mem_of_getElem? (i := 212) rfl), ik_in1 (List.mem_of_getElem? (i := 10) rfl), by decide +kernel, by decide +kernel, by decide +kernel⟩
theorem mv_X3_bound : ik_MV yX3_bound := ⟨ik_in3 (List.mem_of_getElem? (i := 211) rfl), ik_inS (List.mem_of_getElem? (i := 15) (by decide +kernel))⟩
theorem ml_X11_171 : Cond.methodLink RX11 171 yX3_least ∈ lw_tbl := ik_in3 (List.mem_of_getElem? (i := 205) rfl)
theorem mf_X3_least : ik_MF yX3_least cX3_least 4 (some .int) 3 := ⟨ik_in3 (List.mem_of_getElem? (i := 208) rfl), ik_in1 (List.mem_of_getElem? (i := 10) rfl), by decide +kernel, by decide +kernel, by decide +kernel⟩
theorem mv_X3_least : ik_MV yX3_least := ⟨ik_in3 (List.mem_of_getElem? (i := 206) rfl), ik_in3 (List.mem_of_getElem? (i := 207) rfl)⟩
theorem ml_X11_175 : Cond.methodLink RX11 175 yX3_greatest ∈ lw_tbl := ik_in3 (List.mem_of_getElem? (i := 214) rfl)
theorem mf_X3_greatest : ik_MF yX3_greatest cX3_greatest 4 (some .int) 3 := ⟨ik_in3 (List.mem_of_getElem? (i := 217) rfl), ik_in1 (List.mem_of_getElem? (i := 10) rfl), by decide +kernel, by decide +kernel, by decide +kernel⟩
theorem mv_X3_greatest : ik_MV yX3_greatest := ⟨ik_in3 (List.mem_of_getElem? (i := 215) rfl), ik_in3 (List.mem_of_getElem? (i := 216) rfl)⟩
theorem fw_X11_178 : ik_FW RX11 178 11 12 0 := ⟨RX11, TX11, 15, tyX11, rfl, by decide, inX11, tyX11_ok, nmX11, rfl, ik_in2 (List.mem_of_getElem? (i := 120) rfl), rfl, rfl⟩
theorem ml_X6_72 : Cond.methodLink RX6 72 yX10_letter ∈ lw_tbl := ik_in3 (List.mem_of_getElem? (i := 238) rfl)
theorem ml_X6_75 : Cond.methodLink RX6 75 yX6_first ∈ lw_tbl := ik_in3 (List.mem_of_getElem? (i := 234) rfl)
theorem mf_X6_first : ik_MF yX6_first cX6_first 2 (some .int) 1 := ⟨ik_in3 (List.mem_of_getElem? (i := 237) rfl), ik_in1 (List.mem_of_getElem? (i := 4) rfl), by decide +kernel, by decide +kernel, by decide +kernel⟩
theorem mv_X6_first : ik_MV yX6_first := ⟨ik_in3 (List.mem_of_getElem? (i := 235) rfl), ik_in3 (List.mem_of_getElem? (i := 236) rfl)⟩
theorem ml_X11_316 : Cond.methodLink RX11 316 yX6_vowel ∈ lw_tbl := ik_in3 (List.mem_of_getElem? (i := 230) rfl)
theorem mf_X6_vowel : ik_MF yX6_vowel cX6_vowel 3 (some .boolean) 1 := ⟨ik_in3 (List.mem_of_getElem? (i := 233) rfl), ik_in1 (List.mem_of_getElem? (i := 4) rfl), by decide +kernel, by decide +kernel, by decide +kernel⟩
theorem mv_X6_vowel : ik_MV yX6_vowel := ⟨ik_in3 (List.mem_of_getElem? (i := 231) rfl), ik_in3 (List.mem_of_getElem? (i := 232) rfl)⟩
theorem fl_X8_92 : ik_FL RX8 92 8 9 := ⟨RX8, TX8, 11, tyX8, rfl, by decide, inX8, tyX8_ok, nmX8, rfl, ik_in1 (List.mem_of_getElem? (i := 159) rfl)⟩
theorem ml_X8_98 : Cond.methodLinkNest RX8 98 yX11_bit "InkBars" ∈ lw_tbl := ik_in4 (List.mem_of_getElem? (i := 3) rfl)
theorem mf_X11_bit : ik_MF yX11_bit cX11_bit 2 (some .boolean) 2 := ⟨ik_in4 (List.mem_of_getElem? (i := 5) rfl), ik_in1 (List.mem_of_getElem? (i := 1) rfl), by decide +kernel, by decide +kernel, by decide +kernel⟩
theorem ms_X11_bit : Cond.static yX11_bit ∈ lw_tbl := ik_in4 (List.mem_of_getElem? (i := 4) rfl)
theorem ml_X11_319 : Cond.methodLink RX11 319 yX8_isBehindA ∈ lw_tbl := ik_in3 (List.mem_of_getElem? (i := 239) rfl)
theorem mf_X8_isBehindA : ik_MF yX8_isBehindA cX8_isBehindA 2 (some .boolean) 1 := ⟨ik_in4 (List.mem_of_getElem? (i := 2) rfl), ik_in1 (List.mem_of_getElem? (i := 8) rfl), by decide +kernel, by decide +kernel, by decide +kernel⟩
theorem mv_X8_isBehindA : ik_MV yX8_isBehindA := ⟨ik_in4 (List.mem_of_getElem? (i := 0) rfl), ik_in4 (List.mem_of_getElem? (i := 1) rfl)⟩
theorem fl_X8_95 : ik_FL RX8 95 8 10 := ⟨RX8, TX8, 11, tyX8, rfl, by decide, inX8, tyX8_ok, nmX8, rfl, ik_in1 (List.mem_of_getElem? (i := 160) rfl)⟩
theorem ml_X11_322 : Cond.methodLink RX11 322 yX8_isBehindAn ∈ lw_tbl := ik_in4 (List.mem_of_getElem? (i := 6) rfl)
theorem mf_X8_isBehindAn : ik_MF yX8_isBehindAn cX8_isBehindAn 2 (some .boolean) 1 := ⟨ik_in4 (List.mem_of_getElem? (i := 9) rfl), ik_in1 (List.mem_of_getElem? (i := 8) rfl), by decide +kernel, by decide +kernel, by decide +kernel⟩
theorem mv_X8_isBehindAn : ik_MV yX8_isBehindAn := ⟨ik_in4 (List.mem_of_getElem? (i := 7) rfl), ik_in4 (List.mem_of_getElem? (i := 8) rfl)⟩
theorem ml_X11_351 : Cond.methodLink RX11 351 yX7_tell ∈ lw_tbl := ik_in4 (List.mem_of_getElem? (i := 14) rfl)
theorem mf_X7_tell : ik_MF yX7_tell cX7_tell 4 (none) 2 := ⟨ik_in4 (List.mem_of_getElem? (i := 17) rfl), ik_in1 (List.mem_of_getElem? (i := 9) rfl), by decide +kernel, by decide +kernel, by decide +kernel⟩
theorem mv_X7_tell : ik_MV yX7_tell := ⟨ik_in4 (List.mem_of_getElem? (i := 15) rfl), ik_in4 (List.mem_of_getElem? (i := 16) rfl)⟩
theorem ml_X6_69 : Cond.methodLink RX6 69 yX10_length ∈ lw_tbl := ik_in4 (List.mem_of_getElem? (i := 22) rfl)
theorem ml_X11_355 : Cond.methodLink RX11 355 yX6_length ∈ lw_tbl := ik_in4 (List.mem_of_getElem? (i := 18) rfl)
theorem mf_X6_length : ik_MF yX6_length cX6_length 2 (some .int) 1 := ⟨ik_in4 (List.mem_of_getElem? (i := 21) rfl), ik_in1 (List.mem_of_getElem? (i := 4) rfl), by decide +kernel, by decide +kernel, by decide +kernel⟩
theorem mv_X6_length : ik_MV yX6_length := ⟨ik_in4 (List.mem_of_getElem? (i := 19) rfl), ik_in4 (List.mem_of_getElem? (i := 20) rfl)⟩
theorem ml_X6_78 : Cond.methodLink RX6 78 yX6_has ∈ lw_tbl := ik_in4 (List.mem_of_getElem? (i := 27) rfl)
theorem ml_X11_345 : Cond.methodLink RX11 345 yX6_sort ∈ lw_tbl := ik_in4 (List.mem_of_getElem? (i := 23) rfl)
theorem mf_X6_sort : ik_MF yX6_sort cX6_sort 2 (some .int) 1 := ⟨ik_in4 (List.mem_of_getElem? (i := 26) rfl), ik_in1 (List.mem_of_getElem? (i := 4) rfl), by decide +kernel, by decide +kernel, by decide +kernel⟩
theorem mv_X6_sort : ik_MV yX6_sort := ⟨ik_in4 (List.mem_of_getElem? (i := 24) rfl), ik_in4 (List.mem_of_getElem? (i := 25) rfl)⟩
theorem ml_X11_357 : Cond.methodLink RX11 357 yX6_from ∈ lw_tbl := ik_in4 (List.mem_of_getElem? (i := 28) rfl)
theorem mf_X6_from : ik_MF yX6_from cX6_from 2 (some .int) 1 := ⟨ik_in4 (List.mem_of_getElem? (i := 31) rfl), ik_in1 (List.mem_of_getElem? (i := 4) rfl), by decide +kernel, by decide +kernel, by decide +kernel⟩
theorem mv_X6_from : ik_MV yX6_from := ⟨ik_in4 (List.mem_of_getElem? (i := 29) rfl), ik_in4 (List.mem_of_getElem? (i := 30) rfl)⟩
theorem ml_X11_360 : Cond.methodLink RX11 360 yX6_to ∈ lw_tbl := ik_in4 (List.mem_of_getElem? (i := 32) rfl)
theorem mf_X6_to : ik_MF yX6_to cX6_to 2 (some .int) 1 := ⟨ik_in4 (List.mem_of_getElem? (i := 35) rfl), ik_in1 (List.mem_of_getElem? (i := 4) rfl), by decide +kernel, by decide +kernel, by decide +kernel⟩
theorem mv_X6_to : ik_MV yX6_to := ⟨ik_in4 (List.mem_of_getElem? (i := 33) rfl), ik_in4 (List.mem_of_getElem? (i := 34) rfl)⟩
theorem ml_X11_363 : Cond.methodLink RX11 363 yX6_first ∈ lw_tbl := ik_in4 (List.mem_of_getElem? (i := 36) rfl)
theorem ml_X0_59 : Cond.methodLink RX0 59 yX0_has ∈ lw_tbl := ik_in4 (List.mem_of_getElem? (i := 41) rfl)
theorem ml_X11_313 : Cond.methodLink RX11 313 yX0_ink ∈ lw_tbl := ik_in4 (List.mem_of_getElem? (i := 37) rfl)
theorem mf_X0_ink : ik_MF yX0_ink cX0_ink 2 (some .int) 1 := ⟨ik_in4 (List.mem_of_getElem? (i := 40) rfl), ik_in1 (List.mem_of_getElem? (i := 7) rfl), by decide +kernel, by decide +kernel, by decide +kernel⟩
theorem mv_X0_ink : ik_MV yX0_ink := ⟨ik_in4 (List.mem_of_getElem? (i := 38) rfl), ik_in4 (List.mem_of_getElem? (i := 39) rfl)⟩
theorem ml_X11_325 : Cond.methodLink RX11 325 yX11_tellFacts ∈ lw_tbl := ik_in4 (List.mem_of_getElem? (i := 10) rfl)
theorem mf_X11_tellFacts : ik_MF yX11_tellFacts cX11_tellFacts 4 (none) 3 := ⟨ik_in4 (List.mem_of_getElem? (i := 13) rfl), ik_in1 (List.mem_of_getElem? (i := 1) rfl), by decide +kernel, by decide +kernel, by decide +kernel⟩
theorem mv_X11_tellFacts : ik_MV yX11_tellFacts := ⟨ik_in4 (List.mem_of_getElem? (i := 12) rfl), ik_inS (List.mem_of_getElem? (i := 17) (by decide +kernel))⟩
theorem fl_X7_54 : ik_FL RX7 54 7 3 := ⟨RX7, TX7, 11, tyX7, rfl, by decide, inX7, tyX7_ok, nmX7, rfl, ik_in1 (List.mem_of_getElem? (i := 194) rfl)⟩
theorem ml_X11_329 : Cond.methodLink RX11 329 yX7_hold ∈ lw_tbl := ik_in4 (List.mem_of_getElem? (i := 42) rfl)
theorem mf_X7_hold : ik_MF yX7_hold cX7_hold 4 (some .boolean) 1 := ⟨ik_in4 (List.mem_of_getElem? (i := 45) rfl), ik_in1 (List.mem_of_getElem? (i := 9) rfl), by decide +kernel, by decide +kernel, by decide +kernel⟩
theorem mv_X7_hold : ik_MV yX7_hold := ⟨ik_in4 (List.mem_of_getElem? (i := 43) rfl), ik_in4 (List.mem_of_getElem? (i := 44) rfl)⟩
theorem ml_X0_66 : Cond.methodLink RX0 66 yX6_ahead ∈ lw_tbl := ik_in4 (List.mem_of_getElem? (i := 50) rfl)
theorem mf_X6_ahead : ik_MF yX6_ahead cX6_ahead 2 (some .int) 1 := ⟨ik_in4 (List.mem_of_getElem? (i := 53) rfl), ik_in1 (List.mem_of_getElem? (i := 4) rfl), by decide +kernel, by decide +kernel, by decide +kernel⟩
theorem mv_X6_ahead : ik_MV yX6_ahead := ⟨ik_in4 (List.mem_of_getElem? (i := 51) rfl), ik_in4 (List.mem_of_getElem? (i := 52) rfl)⟩
theorem ml_X0_72 : Cond.methodLinkNest RX0 72 yX11_bit "InkBars" ∈ lw_tbl := ik_in4 (List.mem_of_getElem? (i := 54) rfl)
theorem ml_X11_332 : Cond.methodLink RX11 332 yX0_inLists ∈ lw_tbl := ik_in4 (List.mem_of_getElem? (i := 46) rfl)
theorem mf_X0_inLists : ik_MF yX0_inLists cX0_inLists 7 (some .boolean) 3 := ⟨ik_in4 (List.mem_of_getElem? (i := 49) rfl), ik_in1 (List.mem_of_getElem? (i := 7) rfl), by decide +kernel, by decide +kernel, by decide +kernel⟩
theorem mv_X0_inLists : ik_MV yX0_inLists := ⟨ik_in4 (List.mem_of_getElem? (i := 47) rfl), ik_in4 (List.mem_of_getElem? (i := 48) rfl)⟩
theorem ml_X11_336 : Cond.methodLink RX11 336 yX0_year ∈ lw_tbl := ik_in4 (List.mem_of_getElem? (i := 55) rfl)
theorem mf_X0_year : ik_MF yX0_year cX0_year 2 (some .int) 1 := ⟨ik_in4 (List.mem_of_getElem? (i := 58) rfl), ik_in1 (List.mem_of_getElem? (i := 7) rfl), by decide +kernel, by decide +kernel, by decide +kernel⟩
theorem mv_X0_year : ik_MV yX0_year := ⟨ik_in4 (List.mem_of_getElem? (i := 56) rfl), ik_in4 (List.mem_of_getElem? (i := 57) rfl)⟩
theorem ml_X6_81 : Cond.methodLink RX6 81 yX6_from ∈ lw_tbl := ik_in4 (List.mem_of_getElem? (i := 63) rfl)
theorem ml_X6_84 : Cond.methodLink RX6 84 yX6_to ∈ lw_tbl := ik_in4 (List.mem_of_getElem? (i := 64) rfl)
theorem ml_X11_339 : Cond.methodLink RX11 339 yX6_lives ∈ lw_tbl := ik_in4 (List.mem_of_getElem? (i := 59) rfl)
theorem mf_X6_lives : ik_MF yX6_lives cX6_lives 3 (some .boolean) 2 := ⟨ik_in4 (List.mem_of_getElem? (i := 62) rfl), ik_in1 (List.mem_of_getElem? (i := 4) rfl), by decide +kernel, by decide +kernel, by decide +kernel⟩
theorem mv_X6_lives : ik_MV yX6_lives := ⟨ik_in4 (List.mem_of_getElem? (i := 60) rfl), ik_in4 (List.mem_of_getElem? (i := 61) rfl)⟩
theorem ml_X11_342 : Cond.methodLink RX11 342 yX0_sorts ∈ lw_tbl := ik_in4 (List.mem_of_getElem? (i := 65) rfl)
theorem mf_X0_sorts : ik_MF yX0_sorts cX0_sorts 2 (some .int) 1 := ⟨ik_in4 (List.mem_of_getElem? (i := 68) rfl), ik_in1 (List.mem_of_getElem? (i := 7) rfl), by decide +kernel, by decide +kernel, by decide +kernel⟩
theorem mv_X0_sorts : ik_MV yX0_sorts := ⟨ik_in4 (List.mem_of_getElem? (i := 66) rfl), ik_in4 (List.mem_of_getElem? (i := 67) rfl)⟩
theorem ml_X11_348 : Cond.methodLink RX11 348 yX11_bit ∈ lw_tbl := ik_in4 (List.mem_of_getElem? (i := 69) rfl)
theorem ml_X11_182 : Cond.methodLink RX11 182 yX11_reasonsButInk ∈ lw_tbl := ik_in3 (List.mem_of_getElem? (i := 226) rfl)
theorem mf_X11_reasonsButInk : ik_MF yX11_reasonsButInk cX11_reasonsButInk 6 (some .int) 2 := ⟨ik_in3 (List.mem_of_getElem? (i := 229) rfl), ik_in1 (List.mem_of_getElem? (i := 1) rfl), by decide +kernel, by decide +kernel, by decide +kernel⟩
theorem mv_X11_reasonsButInk : ik_MV yX11_reasonsButInk := ⟨ik_in3 (List.mem_of_getElem? (i := 228) rfl), ik_inS (List.mem_of_getElem? (i := 16) (by decide +kernel))⟩
theorem fl_X11_178 : ik_FL RX11 178 11 12 := ⟨RX11, TX11, 15, tyX11, rfl, by decide, inX11, tyX11_ok, nmX11, rfl, ik_in2 (List.mem_of_getElem? (i := 120) rfl)⟩
theorem ml_X11_186 : Cond.methodLink RX11 186 yX11_inkReason ∈ lw_tbl := ik_in4 (List.mem_of_getElem? (i := 70) rfl)
theorem mf_X11_inkReason : ik_MF yX11_inkReason cX11_inkReason 5 (some .int) 2 := ⟨ik_in4 (List.mem_of_getElem? (i := 73) rfl), ik_in1 (List.mem_of_getElem? (i := 1) rfl), by decide +kernel, by decide +kernel, by decide +kernel⟩
theorem mv_X11_inkReason : ik_MV yX11_inkReason := ⟨ik_in4 (List.mem_of_getElem? (i := 72) rfl), ik_inS (List.mem_of_getElem? (i := 18) (by decide +kernel))⟩
theorem fl_X11_76 : ik_FL RX11 76 11 10 := ⟨RX11, TX11, 15, tyX11, rfl, by decide, inX11, tyX11_ok, nmX11, rfl, ik_in2 (List.mem_of_getElem? (i := 118) rfl)⟩
theorem fl_X11_79 : ik_FL RX11 79 11 11 := ⟨RX11, TX11, 15, tyX11, rfl, by decide, inX11, tyX11_ok, nmX11, rfl, ik_in2 (List.mem_of_getElem? (i := 119) rfl)⟩
theorem ml_X11_189 : Cond.methodLink RX11 189 yX11_lay ∈ lw_tbl := ik_in4 (List.mem_of_getElem? (i := 78) rfl)
theorem mf_X11_lay : ik_MF yX11_lay cX11_lay 5 (some .boolean) 1 := ⟨ik_in4 (List.mem_of_getElem? (i := 81) rfl), ik_in1 (List.mem_of_getElem? (i := 1) rfl), by decide +kernel, by decide +kernel, by decide +kernel⟩
theorem mv_X11_lay : ik_MV yX11_lay := ⟨ik_in4 (List.mem_of_getElem? (i := 80) rfl), ik_inS (List.mem_of_getElem? (i := 19) (by decide +kernel))⟩
theorem ml_X11_295 : Cond.methodLink RX11 295 yX0_ties ∈ lw_tbl := ik_in4 (List.mem_of_getElem? (i := 86) rfl)
theorem mf_X0_ties : ik_MF yX0_ties cX0_ties 1 (some .int) 0 := ⟨ik_in4 (List.mem_of_getElem? (i := 89) rfl), ik_in1 (List.mem_of_getElem? (i := 7) rfl), by decide +kernel, by decide +kernel, by decide +kernel⟩
theorem mv_X0_ties : ik_MV yX0_ties := ⟨ik_in4 (List.mem_of_getElem? (i := 87) rfl), ik_in4 (List.mem_of_getElem? (i := 88) rfl)⟩
theorem ml_X0_63 : Cond.methodLink RX0 63 yX0_tied ∈ lw_tbl := ik_in4 (List.mem_of_getElem? (i := 94) rfl)
theorem mf_X0_tied : ik_MF yX0_tied cX0_tied 2 (some .boolean) 1 := ⟨ik_in4 (List.mem_of_getElem? (i := 97) rfl), ik_in1 (List.mem_of_getElem? (i := 7) rfl), by decide +kernel, by decide +kernel, by decide +kernel⟩
theorem mv_X0_tied : ik_MV yX0_tied := ⟨ik_in4 (List.mem_of_getElem? (i := 96) rfl), ik_inS (List.mem_of_getElem? (i := 21) (by decide +kernel))⟩
theorem ml_X11_366 : Cond.methodLink RX11 366 yX0_tieFirst ∈ lw_tbl := ik_in4 (List.mem_of_getElem? (i := 90) rfl)
theorem mf_X0_tieFirst : ik_MF yX0_tieFirst cX0_tieFirst 2 (some .int) 1 := ⟨ik_in4 (List.mem_of_getElem? (i := 93) rfl), ik_in1 (List.mem_of_getElem? (i := 7) rfl), by decide +kernel, by decide +kernel, by decide +kernel⟩
theorem mv_X0_tieFirst : ik_MV yX0_tieFirst := ⟨ik_in4 (List.mem_of_getElem? (i := 91) rfl), ik_in4 (List.mem_of_getElem? (i := 92) rfl)⟩
theorem ml_X11_369 : Cond.methodLink RX11 369 yX0_tieSecond ∈ lw_tbl := ik_in4 (List.mem_of_getElem? (i := 98) rfl)
theorem mf_X0_tieSecond : ik_MF yX0_tieSecond cX0_tieSecond 2 (some .int) 1 := ⟨ik_in4 (List.mem_of_getElem? (i := 101) rfl), ik_in1 (List.mem_of_getElem? (i := 7) rfl), by decide +kernel, by decide +kernel, by decide +kernel⟩
theorem mv_X0_tieSecond : ik_MV yX0_tieSecond := ⟨ik_in4 (List.mem_of_getElem? (i := 99) rfl), ik_in4 (List.mem_of_getElem? (i := 100) rfl)⟩
theorem ml_X11_372 : Cond.methodLink RX11 372 yX0_tieSort ∈ lw_tbl := ik_in4 (List.mem_of_getElem? (i := 102) rfl)
theorem mf_X0_tieSort : ik_MF yX0_tieSort cX0_tieSort 2 (some .int) 1 := ⟨ik_in4 (List.mem_of_getElem? (i := 105) rfl), ik_in1 (List.mem_of_getElem? (i := 7) rfl), by decide +kernel, by decide +kernel, by decide +kernel⟩
theorem mv_X0_tieSort : ik_MV yX0_tieSort := ⟨ik_in4 (List.mem_of_getElem? (i := 103) rfl), ik_in4 (List.mem_of_getElem? (i := 104) rfl)⟩
theorem ml_X6_87 : Cond.methodLink RX6 87 yX6_ahead ∈ lw_tbl := ik_in4 (List.mem_of_getElem? (i := 110) rfl)
theorem ml_X11_375 : Cond.methodLink RX11 375 yX6_mates ∈ lw_tbl := ik_in4 (List.mem_of_getElem? (i := 106) rfl)
theorem mf_X6_mates : ik_MF yX6_mates cX6_mates 5 (some .int) 3 := ⟨ik_in4 (List.mem_of_getElem? (i := 109) rfl), ik_in1 (List.mem_of_getElem? (i := 4) rfl), by decide +kernel, by decide +kernel, by decide +kernel⟩
theorem mv_X6_mates : ik_MV yX6_mates := ⟨ik_in4 (List.mem_of_getElem? (i := 107) rfl), ik_in4 (List.mem_of_getElem? (i := 108) rfl)⟩
theorem ml_X11_192 : Cond.methodLink RX11 192 yX11_tiesReason ∈ lw_tbl := ik_in4 (List.mem_of_getElem? (i := 82) rfl)
theorem mf_X11_tiesReason : ik_MF yX11_tiesReason cX11_tiesReason 4 (some .int) 0 := ⟨ik_in4 (List.mem_of_getElem? (i := 85) rfl), ik_in1 (List.mem_of_getElem? (i := 1) rfl), by decide +kernel, by decide +kernel, by decide +kernel⟩
theorem mv_X11_tiesReason : ik_MV yX11_tiesReason := ⟨ik_in4 (List.mem_of_getElem? (i := 84) rfl), ik_inS (List.mem_of_getElem? (i := 20) (by decide +kernel))⟩
theorem ml_X11_294 : Cond.methodLink RX11 294 yX8_count ∈ lw_tbl := ik_in4 (List.mem_of_getElem? (i := 115) rfl)
theorem mf_X8_count : ik_MF yX8_count cX8_count 1 (some .int) 0 := ⟨ik_in4 (List.mem_of_getElem? (i := 118) rfl), ik_in1 (List.mem_of_getElem? (i := 8) rfl), by decide +kernel, by decide +kernel, by decide +kernel⟩
theorem mv_X8_count : ik_MV yX8_count := ⟨ik_in4 (List.mem_of_getElem? (i := 116) rfl), ik_in4 (List.mem_of_getElem? (i := 117) rfl)⟩
theorem ml_X8_104 : Cond.methodLink RX8 104 yX8_tokens ∈ lw_tbl := ik_in4 (List.mem_of_getElem? (i := 123) rfl)
theorem mf_X8_tokens : ik_MF yX8_tokens cX8_tokens 2 (some .int) 1 := ⟨ik_in4 (List.mem_of_getElem? (i := 126) rfl), ik_in1 (List.mem_of_getElem? (i := 8) rfl), by decide +kernel, by decide +kernel, by decide +kernel⟩
theorem mv_X8_tokens : ik_MV yX8_tokens := ⟨ik_in4 (List.mem_of_getElem? (i := 124) rfl), ik_in4 (List.mem_of_getElem? (i := 125) rfl)⟩
theorem ml_X8_109 : Cond.methodLink RX8 109 yX10_wide ∈ lw_tbl := ik_in4 (List.mem_of_getElem? (i := 131) rfl)
theorem ml_X8_115 : Cond.methodLink RX8 115 yX8_wordWide ∈ lw_tbl := ik_in4 (List.mem_of_getElem? (i := 127) rfl)
theorem mf_X8_wordWide : ik_MF yX8_wordWide cX8_wordWide 4 (some .int) 3 := ⟨ik_in4 (List.mem_of_getElem? (i := 130) rfl), ik_in1 (List.mem_of_getElem? (i := 8) rfl), by decide +kernel, by decide +kernel, by decide +kernel⟩
theorem mv_X8_wordWide : ik_MV yX8_wordWide := ⟨ik_in4 (List.mem_of_getElem? (i := 128) rfl), ik_in4 (List.mem_of_getElem? (i := 129) rfl)⟩
theorem ml_X8_119 : Cond.methodLink RX8 119 yX4_wideOf ∈ lw_tbl := ik_in4 (List.mem_of_getElem? (i := 132) rfl)
theorem fl_X8_28 : ik_FL RX8 28 8 3 := ⟨RX8, TX8, 11, tyX8, rfl, by decide, inX8, tyX8_ok, nmX8, rfl, ik_in1 (List.mem_of_getElem? (i := 153) rfl)⟩
theorem ml_X8_124 : Cond.methodLink RX8 124 yX8_wide ∈ lw_tbl := ik_in4 (List.mem_of_getElem? (i := 133) rfl)
theorem mf_X8_wide : ik_MF yX8_wide cX8_wide 2 (some .int) 1 := ⟨ik_in4 (List.mem_of_getElem? (i := 136) rfl), ik_in1 (List.mem_of_getElem? (i := 8) rfl), by decide +kernel, by decide +kernel, by decide +kernel⟩
theorem mv_X8_wide : ik_MV yX8_wide := ⟨ik_in4 (List.mem_of_getElem? (i := 134) rfl), ik_in4 (List.mem_of_getElem? (i := 135) rfl)⟩
theorem ml_X11_199 : Cond.methodLink RX11 199 yX8_set ∈ lw_tbl := ik_in4 (List.mem_of_getElem? (i := 119) rfl)
theorem mf_X8_set : ik_MF yX8_set cX8_set 9 (none) 3 := ⟨ik_in4 (List.mem_of_getElem? (i := 122) rfl), ik_in1 (List.mem_of_getElem? (i := 8) rfl), by decide +kernel, by decide +kernel, by decide +kernel⟩
theorem mv_X8_set : ik_MV yX8_set := ⟨ik_in4 (List.mem_of_getElem? (i := 120) rfl), ik_in4 (List.mem_of_getElem? (i := 121) rfl)⟩
theorem ml_X8_113 : Cond.methodLink RX8 113 yX8_begins ∈ lw_tbl := ik_in4 (List.mem_of_getElem? (i := 141) rfl)
theorem mf_X8_begins : ik_MF yX8_begins cX8_begins 3 (some .boolean) 2 := ⟨ik_in4 (List.mem_of_getElem? (i := 144) rfl), ik_in1 (List.mem_of_getElem? (i := 8) rfl), by decide +kernel, by decide +kernel, by decide +kernel⟩
theorem mv_X8_begins : ik_MV yX8_begins := ⟨ik_in4 (List.mem_of_getElem? (i := 142) rfl), ik_in4 (List.mem_of_getElem? (i := 143) rfl)⟩
theorem ml_X11_379 : Cond.methodLink RX11 379 yX8_breaksOtherwise ∈ lw_tbl := ik_in4 (List.mem_of_getElem? (i := 137) rfl)
theorem mf_X8_breaksOtherwise : ik_MF yX8_breaksOtherwise cX8_breaksOtherwise 3 (some .boolean) 1 := ⟨ik_in4 (List.mem_of_getElem? (i := 140) rfl), ik_in1 (List.mem_of_getElem? (i := 8) rfl), by decide +kernel, by decide +kernel, by decide +kernel⟩
theorem mv_X8_breaksOtherwise : ik_MV yX8_breaksOtherwise := ⟨ik_in4 (List.mem_of_getElem? (i := 138) rfl), ik_in4 (List.mem_of_getElem? (i := 139) rfl)⟩
theorem ml_X11_195 : Cond.methodLink RX11 195 yX11_linesReason ∈ lw_tbl := ik_in4 (List.mem_of_getElem? (i := 111) rfl)
theorem mf_X11_linesReason : ik_MF yX11_linesReason cX11_linesReason 2 (some .int) 0 := ⟨ik_in4 (List.mem_of_getElem? (i := 114) rfl), ik_in1 (List.mem_of_getElem? (i := 1) rfl), by decide +kernel, by decide +kernel, by decide +kernel⟩
theorem mv_X11_linesReason : ik_MV yX11_linesReason := ⟨ik_in4 (List.mem_of_getElem? (i := 113) rfl), ik_inS (List.mem_of_getElem? (i := 22) (by decide +kernel))⟩
theorem ml_X11_198 : Cond.methodLink RX11 198 yX8_has ∈ lw_tbl := ik_in4 (List.mem_of_getElem? (i := 149) rfl)
theorem ml_X11_203 : Cond.methodLink RX11 203 yX8_setLine ∈ lw_tbl := ik_in4 (List.mem_of_getElem? (i := 150) rfl)
theorem mf_X8_setLine : ik_MF yX8_setLine cX8_setLine 5 (some .int) 2 := ⟨ik_in4 (List.mem_of_getElem? (i := 153) rfl), ik_in1 (List.mem_of_getElem? (i := 8) rfl), by decide +kernel, by decide +kernel, by decide +kernel⟩
theorem mv_X8_setLine : ik_MV yX8_setLine := ⟨ik_in4 (List.mem_of_getElem? (i := 151) rfl), ik_in4 (List.mem_of_getElem? (i := 152) rfl)⟩
theorem fl_X11_309 : ik_FL RX11 309 11 13 := ⟨RX11, TX11, 15, tyX11, rfl, by decide, inX11, tyX11_ok, nmX11, rfl, ik_in2 (List.mem_of_getElem? (i := 121) rfl)⟩
theorem fl_X11_68 : ik_FL RX11 68 11 8 := ⟨RX11, TX11, 15, tyX11, rfl, by decide, inX11, tyX11_ok, nmX11, rfl, ik_in2 (List.mem_of_getElem? (i := 116) rfl)⟩
theorem ml_X11_293 : Cond.methodLink RX11 293 yX6_count ∈ lw_tbl := ik_in4 (List.mem_of_getElem? (i := 166) rfl)
theorem mf_X6_count : ik_MF yX6_count cX6_count 1 (some .int) 0 := ⟨ik_in4 (List.mem_of_getElem? (i := 169) rfl), ik_in1 (List.mem_of_getElem? (i := 4) rfl), by decide +kernel, by decide +kernel, by decide +kernel⟩
theorem mv_X6_count : ik_MV yX6_count := ⟨ik_in4 (List.mem_of_getElem? (i := 167) rfl), ik_in4 (List.mem_of_getElem? (i := 168) rfl)⟩
theorem ml_X2_44 : Cond.methodLink RX2 44 yJ9_max_7cf53 ∈ lw_tbl := ik_in4 (List.mem_of_getElem? (i := 174) rfl)
theorem mf_J9_max_7cf53 : ik_MF yJ9_max_7cf53 cJ9_max_7cf53 2 (some .int) 2 := ⟨ik_in1 (List.mem_of_getElem? (i := 66) rfl), ik_in1 (List.mem_of_getElem? (i := 6) rfl), by decide +kernel, by decide +kernel, by decide +kernel⟩
theorem ms_J9_max_7cf53 : Cond.static yJ9_max_7cf53 ∈ lw_tbl := ik_in1 (List.mem_of_getElem? (i := 65) rfl)
theorem ml_X2_50 : Cond.methodLink RX2 50 yJ9_min_7cf53 ∈ lw_tbl := ik_in4 (List.mem_of_getElem? (i := 175) rfl)
theorem mf_J9_min_7cf53 : ik_MF yJ9_min_7cf53 cJ9_min_7cf53 2 (some .int) 2 := ⟨ik_in4 (List.mem_of_getElem? (i := 177) rfl), ik_in1 (List.mem_of_getElem? (i := 6) rfl), by decide +kernel, by decide +kernel, by decide +kernel⟩
theorem ms_J9_min_7cf53 : Cond.static yJ9_min_7cf53 ∈ lw_tbl := ik_in4 (List.mem_of_getElem? (i := 176) rfl)
theorem fw_X2_53 : ik_FW RX2 53 2 9 0 := ⟨RX2, TX2, 14, tyX2, rfl, by decide, inX2, tyX2_ok, nmX2, rfl, ik_in2 (List.mem_of_getElem? (i := 73) rfl), rfl, rfl⟩
theorem fw_X2_57 : ik_FW RX2 57 2 10 0 := ⟨RX2, TX2, 14, tyX2, rfl, by decide, inX2, tyX2_ok, nmX2, rfl, ik_in2 (List.mem_of_getElem? (i := 74) rfl), rfl, rfl⟩
theorem fl_X2_22 : ik_FL RX2 22 2 2 := ⟨RX2, TX2, 14, tyX2, rfl, by decide, inX2, tyX2_ok, nmX2, rfl, ik_in2 (List.mem_of_getElem? (i := 66) rfl)⟩
theorem ml_X11_382 : Cond.methodLink RX11 382 yX2_begin ∈ lw_tbl := ik_in4 (List.mem_of_getElem? (i := 170) rfl)
theorem mf_X2_begin : ik_MF yX2_begin cX2_begin 4 (none) 2 := ⟨ik_in4 (List.mem_of_getElem? (i := 173) rfl), ik_in1 (List.mem_of_getElem? (i := 12) rfl), by decide +kernel, by decide +kernel, by decide +kernel⟩
theorem mv_X2_begin : ik_MV yX2_begin := ⟨ik_in4 (List.mem_of_getElem? (i := 171) rfl), ik_in4 (List.mem_of_getElem? (i := 172) rfl)⟩
theorem ml_X11_385 : Cond.methodLink RX11 385 yX6_weight ∈ lw_tbl := ik_in4 (List.mem_of_getElem? (i := 178) rfl)
theorem mf_X6_weight : ik_MF yX6_weight cX6_weight 2 (some .int) 1 := ⟨ik_in4 (List.mem_of_getElem? (i := 181) rfl), ik_in1 (List.mem_of_getElem? (i := 4) rfl), by decide +kernel, by decide +kernel, by decide +kernel⟩
theorem mv_X6_weight : ik_MV yX6_weight := ⟨ik_in4 (List.mem_of_getElem? (i := 179) rfl), ik_in4 (List.mem_of_getElem? (i := 180) rfl)⟩
theorem ml_X2_60 : Cond.methodLink RX2 60 yX2_isName ∈ lw_tbl := ik_in4 (List.mem_of_getElem? (i := 186) rfl)
theorem mf_X2_isName : ik_MF yX2_isName cX2_isName 1 (some .boolean) 1 := ⟨ik_in4 (List.mem_of_getElem? (i := 188) rfl), ik_in1 (List.mem_of_getElem? (i := 12) rfl), by decide +kernel, by decide +kernel, by decide +kernel⟩
theorem ms_X2_isName : Cond.static yX2_isName ∈ lw_tbl := ik_in4 (List.mem_of_getElem? (i := 187) rfl)
theorem fl_X2_25 : ik_FL RX2 25 2 3 := ⟨RX2, TX2, 14, tyX2, rfl, by decide, inX2, tyX2_ok, nmX2, rfl, ik_in2 (List.mem_of_getElem? (i := 67) rfl)⟩
theorem fl_X2_28 : ik_FL RX2 28 2 4 := ⟨RX2, TX2, 14, tyX2, rfl, by decide, inX2, tyX2_ok, nmX2, rfl, ik_in2 (List.mem_of_getElem? (i := 68) rfl)⟩
theorem ml_X11_388 : Cond.methodLink RX11 388 yX2_setName ∈ lw_tbl := ik_in4 (List.mem_of_getElem? (i := 182) rfl)
theorem mf_X2_setName : ik_MF yX2_setName cX2_setName 4 (none) 3 := ⟨ik_in4 (List.mem_of_getElem? (i := 185) rfl), ik_in1 (List.mem_of_getElem? (i := 12) rfl), by decide +kernel, by decide +kernel, by decide +kernel⟩
theorem mv_X2_setName : ik_MV yX2_setName := ⟨ik_in4 (List.mem_of_getElem? (i := 183) rfl), ik_in4 (List.mem_of_getElem? (i := 184) rfl)⟩
theorem ml_X2_64 : Cond.methodLink RX2 64 yX2_isBar ∈ lw_tbl := ik_in4 (List.mem_of_getElem? (i := 193) rfl)
theorem mf_X2_isBar : ik_MF yX2_isBar cX2_isBar 1 (some .boolean) 1 := ⟨ik_in4 (List.mem_of_getElem? (i := 195) rfl), ik_in1 (List.mem_of_getElem? (i := 12) rfl), by decide +kernel, by decide +kernel, by decide +kernel⟩
theorem ms_X2_isBar : Cond.static yX2_isBar ∈ lw_tbl := ik_in4 (List.mem_of_getElem? (i := 194) rfl)
theorem ml_X2_67 : Cond.methodLink RX2 67 yX2_pairPlace ∈ lw_tbl := ik_in4 (List.mem_of_getElem? (i := 196) rfl)
theorem mf_X2_pairPlace : ik_MF yX2_pairPlace cX2_pairPlace 3 (some .int) 3 := ⟨ik_in4 (List.mem_of_getElem? (i := 198) rfl), ik_in1 (List.mem_of_getElem? (i := 12) rfl), by decide +kernel, by decide +kernel, by decide +kernel⟩
theorem ms_X2_pairPlace : Cond.static yX2_pairPlace ∈ lw_tbl := ik_in4 (List.mem_of_getElem? (i := 197) rfl)
theorem ml_X11_391 : Cond.methodLink RX11 391 yX2_pair ∈ lw_tbl := ik_in4 (List.mem_of_getElem? (i := 189) rfl)
theorem mf_X2_pair : ik_MF yX2_pair cX2_pair 5 (none) 4 := ⟨ik_in4 (List.mem_of_getElem? (i := 192) rfl), ik_in1 (List.mem_of_getElem? (i := 12) rfl), by decide +kernel, by decide +kernel, by decide +kernel⟩
theorem mv_X2_pair : ik_MV yX2_pair := ⟨ik_in4 (List.mem_of_getElem? (i := 190) rfl), ik_in4 (List.mem_of_getElem? (i := 191) rfl)⟩
theorem fl_X11_395 : ik_FL RX11 395 2 0 := ⟨RX2, TX2, 14, tyX2, rfl, by decide, inX2, tyX2_ok, nmX2, rfl, ik_in2 (List.mem_of_getElem? (i := 64) rfl)⟩
theorem fw_X5_28 : ik_FW RX5 28 5 5 3 := ⟨RX5, TX5, 8, tyX5, rfl, by decide, inX5, tyX5_ok, nmX5, rfl, ik_in2 (List.mem_of_getElem? (i := 43) rfl), rfl, rfl⟩
theorem fl_X5_9 : ik_FL RX5 9 5 0 := ⟨RX5, TX5, 8, tyX5, rfl, by decide, inX5, tyX5_ok, nmX5, rfl, ik_in2 (List.mem_of_getElem? (i := 38) rfl)⟩
theorem ml_X5_39 : Cond.methodLink RX5 39 yX8_count ∈ lw_tbl := ik_in4 (List.mem_of_getElem? (i := 203) rfl)
theorem ml_X5_49 : Cond.methodLink RX5 49 yX8_tokens ∈ lw_tbl := ik_in4 (List.mem_of_getElem? (i := 208) rfl)
theorem ml_X5_53 : Cond.methodLink RX5 53 yX8_barAt ∈ lw_tbl := ik_in4 (List.mem_of_getElem? (i := 209) rfl)
theorem ml_X5_57 : Cond.methodLink RX5 57 yX8_wordWide ∈ lw_tbl := ik_in4 (List.mem_of_getElem? (i := 210) rfl)
theorem ml_X5_61 : Cond.methodLink RX5 61 yX4_wideOf ∈ lw_tbl := ik_in4 (List.mem_of_getElem? (i := 211) rfl)
theorem fl_X5_25 : ik_FL RX5 25 5 4 := ⟨RX5, TX5, 8, tyX5, rfl, by decide, inX5, tyX5_ok, nmX5, rfl, ik_in2 (List.mem_of_getElem? (i := 42) rfl)⟩
theorem ml_X5_66 : Cond.methodLink RX5 66 yX5_stand ∈ lw_tbl := ik_in4 (List.mem_of_getElem? (i := 212) rfl)
theorem mf_X5_stand : ik_MF yX5_stand cX5_stand 4 (none) 2 := ⟨ik_in4 (List.mem_of_getElem? (i := 215) rfl), ik_in1 (List.mem_of_getElem? (i := 13) rfl), by decide +kernel, by decide +kernel, by decide +kernel⟩
theorem mv_X5_stand : ik_MV yX5_stand := ⟨ik_in4 (List.mem_of_getElem? (i := 214) rfl), ik_inS (List.mem_of_getElem? (i := 26) (by decide +kernel))⟩
theorem ml_X5_70 : Cond.methodLink RX5 70 yX8_wide ∈ lw_tbl := ik_in4 (List.mem_of_getElem? (i := 216) rfl)
theorem ml_X5_73 : Cond.methodLink RX5 73 yX8_begins ∈ lw_tbl := ik_in4 (List.mem_of_getElem? (i := 217) rfl)
theorem fl_X5_28 : ik_FL RX5 28 5 5 := ⟨RX5, TX5, 8, tyX5, rfl, by decide, inX5, tyX5_ok, nmX5, rfl, ik_in2 (List.mem_of_getElem? (i := 43) rfl)⟩
theorem fl_X5_18 : ik_FL RX5 18 5 2 := ⟨RX5, TX5, 8, tyX5, rfl, by decide, inX5, tyX5_ok, nmX5, rfl, ik_in2 (List.mem_of_getElem? (i := 40) rfl)⟩
theorem fl_X5_22 : ik_FL RX5 22 5 3 := ⟨RX5, TX5, 8, tyX5, rfl, by decide, inX5, tyX5_ok, nmX5, rfl, ik_in2 (List.mem_of_getElem? (i := 41) rfl)⟩
theorem ml_X5_80 : Cond.methodLink RX5 80 yX5_asksOfTheSame ∈ lw_tbl := ik_in4 (List.mem_of_getElem? (i := 222) rfl)
theorem mf_X5_asksOfTheSame : ik_MF yX5_asksOfTheSame cX5_asksOfTheSame 3 (some .boolean) 1 := ⟨ik_in4 (List.mem_of_getElem? (i := 225) rfl), ik_in1 (List.mem_of_getElem? (i := 13) rfl), by decide +kernel, by decide +kernel, by decide +kernel⟩
theorem mv_X5_asksOfTheSame : ik_MV yX5_asksOfTheSame := ⟨ik_in4 (List.mem_of_getElem? (i := 224) rfl), ik_inS (List.mem_of_getElem? (i := 28) (by decide +kernel))⟩
theorem fl_X5_15 : ik_FL RX5 15 5 1 := ⟨RX5, TX5, 8, tyX5, rfl, by decide, inX5, tyX5_ok, nmX5, rfl, ik_in2 (List.mem_of_getElem? (i := 39) rfl)⟩
theorem ml_X5_84 : Cond.methodLink RX5 84 yJ9_max_7cf53 ∈ lw_tbl := ik_in4 (List.mem_of_getElem? (i := 226) rfl)
theorem ml_X5_89 : Cond.methodLink RX5 89 yJ9_min_7cf53 ∈ lw_tbl := ik_in4 (List.mem_of_getElem? (i := 227) rfl)
theorem ml_X5_92 : Cond.methodLink RX5 92 yX5_put ∈ lw_tbl := ik_in4 (List.mem_of_getElem? (i := 228) rfl)
theorem mf_X5_put : ik_MF yX5_put cX5_put 5 (none) 3 := ⟨ik_in4 (List.mem_of_getElem? (i := 231) rfl), ik_in1 (List.mem_of_getElem? (i := 13) rfl), by decide +kernel, by decide +kernel, by decide +kernel⟩
theorem mv_X5_put : ik_MV yX5_put := ⟨ik_in4 (List.mem_of_getElem? (i := 230) rfl), ik_inS (List.mem_of_getElem? (i := 29) (by decide +kernel))⟩
theorem ml_X5_77 : Cond.methodLink RX5 77 yX5_add ∈ lw_tbl := ik_in4 (List.mem_of_getElem? (i := 218) rfl)
theorem mf_X5_add : ik_MF yX5_add cX5_add 6 (none) 2 := ⟨ik_in4 (List.mem_of_getElem? (i := 221) rfl), ik_in1 (List.mem_of_getElem? (i := 13) rfl), by decide +kernel, by decide +kernel, by decide +kernel⟩
theorem mv_X5_add : ik_MV yX5_add := ⟨ik_in4 (List.mem_of_getElem? (i := 220) rfl), ik_inS (List.mem_of_getElem? (i := 27) (by decide +kernel))⟩
theorem ml_X5_45 : Cond.methodLink RX5 45 yX5_readSheet ∈ lw_tbl := ik_in4 (List.mem_of_getElem? (i := 204) rfl)
theorem mf_X5_readSheet : ik_MF yX5_readSheet cX5_readSheet 8 (none) 3 := ⟨ik_in4 (List.mem_of_getElem? (i := 207) rfl), ik_in1 (List.mem_of_getElem? (i := 13) rfl), by decide +kernel, by decide +kernel, by decide +kernel⟩
theorem mv_X5_readSheet : ik_MV yX5_readSheet := ⟨ik_in4 (List.mem_of_getElem? (i := 206) rfl), ik_inS (List.mem_of_getElem? (i := 25) (by decide +kernel))⟩
theorem ml_X11_398 : Cond.methodLink RX11 398 yX5_read ∈ lw_tbl := ik_in4 (List.mem_of_getElem? (i := 199) rfl)
theorem mf_X5_read : ik_MF yX5_read cX5_read 4 (none) 2 := ⟨ik_in4 (List.mem_of_getElem? (i := 202) rfl), ik_in1 (List.mem_of_getElem? (i := 13) rfl), by decide +kernel, by decide +kernel, by decide +kernel⟩
theorem mv_X5_read : ik_MV yX5_read := ⟨ik_in4 (List.mem_of_getElem? (i := 200) rfl), ik_in4 (List.mem_of_getElem? (i := 201) rfl)⟩
theorem fl_X11_72 : ik_FL RX11 72 11 9 := ⟨RX11, TX11, 15, tyX11, rfl, by decide, inX11, tyX11_ok, nmX11, rfl, ik_in2 (List.mem_of_getElem? (i := 117) rfl)⟩
theorem fw_X11_403 : ik_FW RX11 403 11 14 3 := ⟨RX11, TX11, 15, tyX11, rfl, by decide, inX11, tyX11_ok, nmX11, rfl, ik_in2 (List.mem_of_getElem? (i := 122) rfl), rfl, rfl⟩
theorem ml_X11_225 : Cond.methodLink RX11 225 yX11_prepare ∈ lw_tbl := ik_in4 (List.mem_of_getElem? (i := 162) rfl)
theorem mf_X11_prepare : ik_MF yX11_prepare cX11_prepare 5 (none) 0 := ⟨ik_in4 (List.mem_of_getElem? (i := 165) rfl), ik_in1 (List.mem_of_getElem? (i := 1) rfl), by decide +kernel, by decide +kernel, by decide +kernel⟩
theorem mv_X11_prepare : ik_MV yX11_prepare := ⟨ik_in4 (List.mem_of_getElem? (i := 164) rfl), ik_inS (List.mem_of_getElem? (i := 24) (by decide +kernel))⟩
theorem ml_X11_406 : Cond.methodLink RX11 406 yX2_wide ∈ lw_tbl := ik_in4 (List.mem_of_getElem? (i := 236) rfl)
theorem mf_X2_wide : ik_MF yX2_wide cX2_wide 2 (some .int) 1 := ⟨ik_in4 (List.mem_of_getElem? (i := 239) rfl), ik_in1 (List.mem_of_getElem? (i := 12) rfl), by decide +kernel, by decide +kernel, by decide +kernel⟩
theorem mv_X2_wide : ik_MV yX2_wide := ⟨ik_in4 (List.mem_of_getElem? (i := 237) rfl), ik_in4 (List.mem_of_getElem? (i := 238) rfl)⟩
theorem fl_X2_18 : ik_FL RX2 18 2 1 := ⟨RX2, TX2, 14, tyX2, rfl, by decide, inX2, tyX2_ok, nmX2, rfl, ik_in2 (List.mem_of_getElem? (i := 65) rfl)⟩
theorem ml_X11_408 : Cond.methodLink RX11 408 yX2_setFits ∈ lw_tbl := ik_in5 (List.mem_of_getElem? (i := 0) rfl)
theorem mf_X2_setFits : ik_MF yX2_setFits cX2_setFits 3 (none) 2 := ⟨ik_in5 (List.mem_of_getElem? (i := 3) rfl), ik_in1 (List.mem_of_getElem? (i := 12) rfl), by decide +kernel, by decide +kernel, by decide +kernel⟩
theorem mv_X2_setFits : ik_MV yX2_setFits := ⟨ik_in5 (List.mem_of_getElem? (i := 1) rfl), ik_in5 (List.mem_of_getElem? (i := 2) rfl)⟩
theorem fw_X2_71 : ik_FW RX2 71 2 11 3 := ⟨RX2, TX2, 14, tyX2, rfl, by decide, inX2, tyX2_ok, nmX2, rfl, ik_in2 (List.mem_of_getElem? (i := 75) rfl), rfl, rfl⟩
theorem fw_X2_75 : ik_FW RX2 75 2 12 3 := ⟨RX2, TX2, 14, tyX2, rfl, by decide, inX2, tyX2_ok, nmX2, rfl, ik_in2 (List.mem_of_getElem? (i := 76) rfl), rfl, rfl⟩
theorem ml_X11_411 : Cond.methodLink RX11 411 yX2_heed ∈ lw_tbl := ik_in5 (List.mem_of_getElem? (i := 4) rfl)
theorem mf_X2_heed : ik_MF yX2_heed cX2_heed 3 (none) 2 := ⟨ik_in5 (List.mem_of_getElem? (i := 7) rfl), ik_in1 (List.mem_of_getElem? (i := 12) rfl), by decide +kernel, by decide +kernel, by decide +kernel⟩
theorem mv_X2_heed : ik_MV yX2_heed := ⟨ik_in5 (List.mem_of_getElem? (i := 5) rfl), ik_in5 (List.mem_of_getElem? (i := 6) rfl)⟩
theorem ml_X11_415 : Cond.methodLink RX11 415 yX11_fit ∈ lw_tbl := ik_in4 (List.mem_of_getElem? (i := 232) rfl)
theorem mf_X11_fit : ik_MF yX11_fit cX11_fit 9 (none) 3 := ⟨ik_in4 (List.mem_of_getElem? (i := 235) rfl), ik_in1 (List.mem_of_getElem? (i := 1) rfl), by decide +kernel, by decide +kernel, by decide +kernel⟩
theorem mv_X11_fit : ik_MV yX11_fit := ⟨ik_in4 (List.mem_of_getElem? (i := 234) rfl), ik_inS (List.mem_of_getElem? (i := 30) (by decide +kernel))⟩
theorem fl_X2_53 : ik_FL RX2 53 2 9 := ⟨RX2, TX2, 14, tyX2, rfl, by decide, inX2, tyX2_ok, nmX2, rfl, ik_in2 (List.mem_of_getElem? (i := 73) rfl)⟩
theorem fl_X2_75 : ik_FL RX2 75 2 12 := ⟨RX2, TX2, 14, tyX2, rfl, by decide, inX2, tyX2_ok, nmX2, rfl, ik_in2 (List.mem_of_getElem? (i := 76) rfl)⟩
theorem fl_X2_12 : ik_FL RX2 12 2 0 := ⟨RX2, TX2, 14, tyX2, rfl, by decide, inX2, tyX2_ok, nmX2, rfl, ik_in2 (List.mem_of_getElem? (i := 63) rfl)⟩
theorem ml_X2_78 : Cond.methodLink RX2 78 yX5_broken ∈ lw_tbl := ik_in5 (List.mem_of_getElem? (i := 16) rfl)
theorem mf_X5_broken : ik_MF yX5_broken cX5_broken 1 (some .boolean) 0 := ⟨ik_in5 (List.mem_of_getElem? (i := 19) rfl), ik_in1 (List.mem_of_getElem? (i := 13) rfl), by decide +kernel, by decide +kernel, by decide +kernel⟩
theorem mv_X5_broken : ik_MV yX5_broken := ⟨ik_in5 (List.mem_of_getElem? (i := 17) rfl), ik_in5 (List.mem_of_getElem? (i := 18) rfl)⟩
theorem ml_X2_82 : Cond.methodLink RX2 82 yX2_hopeful ∈ lw_tbl := ik_in5 (List.mem_of_getElem? (i := 12) rfl)
theorem mf_X2_hopeful : ik_MF yX2_hopeful cX2_hopeful 1 (some .boolean) 0 := ⟨ik_in5 (List.mem_of_getElem? (i := 15) rfl), ik_in1 (List.mem_of_getElem? (i := 12) rfl), by decide +kernel, by decide +kernel, by decide +kernel⟩
theorem mv_X2_hopeful : ik_MV yX2_hopeful := ⟨ik_in5 (List.mem_of_getElem? (i := 14) rfl), ik_inS (List.mem_of_getElem? (i := 31) (by decide +kernel))⟩
theorem fl_X2_71 : ik_FL RX2 71 2 11 := ⟨RX2, TX2, 14, tyX2, rfl, by decide, inX2, tyX2_ok, nmX2, rfl, ik_in2 (List.mem_of_getElem? (i := 75) rfl)⟩
theorem fl_X2_31 : ik_FL RX2 31 2 5 := ⟨RX2, TX2, 14, tyX2, rfl, by decide, inX2, tyX2_ok, nmX2, rfl, ik_in2 (List.mem_of_getElem? (i := 69) rfl)⟩
theorem ml_X2_108 : Cond.methodLink RX2 108 yX5_heeds ∈ lw_tbl := ik_in5 (List.mem_of_getElem? (i := 28) rfl)
theorem mf_X5_heeds : ik_MF yX5_heeds cX5_heeds 2 (some .boolean) 1 := ⟨ik_in5 (List.mem_of_getElem? (i := 31) rfl), ik_in1 (List.mem_of_getElem? (i := 13) rfl), by decide +kernel, by decide +kernel, by decide +kernel⟩
theorem mv_X5_heeds : ik_MV yX5_heeds := ⟨ik_in5 (List.mem_of_getElem? (i := 29) rfl), ik_in5 (List.mem_of_getElem? (i := 30) rfl)⟩
theorem fl_X2_34 : ik_FL RX2 34 2 6 := ⟨RX2, TX2, 14, tyX2, rfl, by decide, inX2, tyX2_ok, nmX2, rfl, ik_in2 (List.mem_of_getElem? (i := 70) rfl)⟩
theorem kc_X5_96 : Cond.constant RX5 96 (-1000000) ∈ lw_tbl := ik_in5 (List.mem_of_getElem? (i := 36) rfl)
theorem fw_X5_32 : ik_FW RX5 32 5 6 0 := ⟨RX5, TX5, 8, tyX5, rfl, by decide, inX5, tyX5_ok, nmX5, rfl, ik_in2 (List.mem_of_getElem? (i := 44) rfl), rfl, rfl⟩
theorem kc_X5_97 : Cond.constant RX5 97 (1000000) ∈ lw_tbl := ik_in5 (List.mem_of_getElem? (i := 37) rfl)
theorem fw_X5_36 : ik_FW RX5 36 5 7 0 := ⟨RX5, TX5, 8, tyX5, rfl, by decide, inX5, tyX5_ok, nmX5, rfl, ik_in2 (List.mem_of_getElem? (i := 45) rfl), rfl, rfl⟩
theorem ml_X5_98 : Cond.methodLink RX5 98 yX5_heeds ∈ lw_tbl := ik_in5 (List.mem_of_getElem? (i := 38) rfl)
theorem ml_X5_101 : Cond.methodLink RX5 101 yJ9_floorDiv_7cf53 ∈ lw_tbl := ik_in5 (List.mem_of_getElem? (i := 39) rfl)
theorem mf_J9_floorDiv_7cf53 : ik_MF yJ9_floorDiv_7cf53 cJ9_floorDiv_7cf53 3 (some .int) 2 := ⟨ik_in5 (List.mem_of_getElem? (i := 41) rfl), ik_in1 (List.mem_of_getElem? (i := 6) rfl), by decide +kernel, by decide +kernel, by decide +kernel⟩
theorem ms_J9_floorDiv_7cf53 : Cond.static yJ9_floorDiv_7cf53 ∈ lw_tbl := ik_in5 (List.mem_of_getElem? (i := 40) rfl)
theorem fl_X5_32 : ik_FL RX5 32 5 6 := ⟨RX5, TX5, 8, tyX5, rfl, by decide, inX5, tyX5_ok, nmX5, rfl, ik_in2 (List.mem_of_getElem? (i := 44) rfl)⟩
theorem fl_X5_36 : ik_FL RX5 36 5 7 := ⟨RX5, TX5, 8, tyX5, rfl, by decide, inX5, tyX5_ok, nmX5, rfl, ik_in2 (List.mem_of_getElem? (i := 45) rfl)⟩
theorem ml_X2_111 : Cond.methodLink RX2 111 yX5_narrow ∈ lw_tbl := ik_in5 (List.mem_of_getElem? (i := 32) rfl)
theorem mf_X5_narrow : ik_MF yX5_narrow cX5_narrow 8 (none) 2 := ⟨ik_in5 (List.mem_of_getElem? (i := 35) rfl), ik_in1 (List.mem_of_getElem? (i := 13) rfl), by decide +kernel, by decide +kernel, by decide +kernel⟩
theorem mv_X5_narrow : ik_MV yX5_narrow := ⟨ik_in5 (List.mem_of_getElem? (i := 33) rfl), ik_in5 (List.mem_of_getElem? (i := 34) rfl)⟩
theorem fl_X2_57 : ik_FL RX2 57 2 10 := ⟨RX2, TX2, 14, tyX2, rfl, by decide, inX2, tyX2_ok, nmX2, rfl, ik_in2 (List.mem_of_getElem? (i := 74) rfl)⟩
theorem ml_X2_115 : Cond.methodLink RX2 115 yX5_least ∈ lw_tbl := ik_in5 (List.mem_of_getElem? (i := 42) rfl)
theorem mf_X5_least : ik_MF yX5_least cX5_least 1 (some .int) 0 := ⟨ik_in5 (List.mem_of_getElem? (i := 45) rfl), ik_in1 (List.mem_of_getElem? (i := 13) rfl), by decide +kernel, by decide +kernel, by decide +kernel⟩
theorem mv_X5_least : ik_MV yX5_least := ⟨ik_in5 (List.mem_of_getElem? (i := 43) rfl), ik_in5 (List.mem_of_getElem? (i := 44) rfl)⟩
theorem ml_X2_119 : Cond.methodLink RX2 119 yX5_greatest ∈ lw_tbl := ik_in5 (List.mem_of_getElem? (i := 46) rfl)
theorem mf_X5_greatest : ik_MF yX5_greatest cX5_greatest 1 (some .int) 0 := ⟨ik_in5 (List.mem_of_getElem? (i := 49) rfl), ik_in1 (List.mem_of_getElem? (i := 13) rfl), by decide +kernel, by decide +kernel, by decide +kernel⟩
theorem mv_X5_greatest : ik_MV yX5_greatest := ⟨ik_in5 (List.mem_of_getElem? (i := 47) rfl), ik_in5 (List.mem_of_getElem? (i := 48) rfl)⟩
theorem ml_X2_122 : Cond.methodLink RX2 122 yX2_candidates ∈ lw_tbl := ik_in5 (List.mem_of_getElem? (i := 24) rfl)
theorem mf_X2_candidates : ik_MF yX2_candidates cX2_candidates 4 (some .int) 1 := ⟨ik_in5 (List.mem_of_getElem? (i := 27) rfl), ik_in1 (List.mem_of_getElem? (i := 12) rfl), by decide +kernel, by decide +kernel, by decide +kernel⟩
theorem mv_X2_candidates : ik_MV yX2_candidates := ⟨ik_in5 (List.mem_of_getElem? (i := 26) rfl), ik_inS (List.mem_of_getElem? (i := 33) (by decide +kernel))⟩
theorem kc_J6_265 : Cond.constant RJ6 265 (1431655765) ∈ lw_tbl := ik_in5 (List.mem_of_getElem? (i := 53) rfl)
theorem kc_J6_266 : Cond.constant RJ6 266 (858993459) ∈ lw_tbl := ik_in5 (List.mem_of_getElem? (i := 54) rfl)
theorem kc_J6_267 : Cond.constant RJ6 267 (252645135) ∈ lw_tbl := ik_in5 (List.mem_of_getElem? (i := 55) rfl)
theorem ml_X2_92 : Cond.methodLink RX2 92 yJ6_bitCount_0f7a4 ∈ lw_tbl := ik_in5 (List.mem_of_getElem? (i := 50) rfl)
theorem mf_J6_bitCount_0f7a4 : ik_MF yJ6_bitCount_0f7a4 cJ6_bitCount_0f7a4 1 (some .int) 1 := ⟨ik_in5 (List.mem_of_getElem? (i := 52) rfl), ik_in1 (List.mem_of_getElem? (i := 16) rfl), by decide +kernel, by decide +kernel, by decide +kernel⟩
theorem ms_J6_bitCount_0f7a4 : Cond.static yJ6_bitCount_0f7a4 ∈ lw_tbl := ik_in5 (List.mem_of_getElem? (i := 51) rfl)
theorem ml_X2_125 : Cond.methodLinkNest RX2 125 yX11_bit "InkBars" ∈ lw_tbl := ik_in5 (List.mem_of_getElem? (i := 56) rfl)
theorem ml_X2_85 : Cond.methodLink RX2 85 yX2_countFrom ∈ lw_tbl := ik_in5 (List.mem_of_getElem? (i := 20) rfl)
theorem mf_X2_countFrom : ik_MF yX2_countFrom cX2_countFrom 5 (some .int) 1 := ⟨ik_in5 (List.mem_of_getElem? (i := 23) rfl), ik_in1 (List.mem_of_getElem? (i := 12) rfl), by decide +kernel, by decide +kernel, by decide +kernel⟩
theorem mv_X2_countFrom : ik_MV yX2_countFrom := ⟨ik_in5 (List.mem_of_getElem? (i := 22) rfl), ik_inS (List.mem_of_getElem? (i := 32) (by decide +kernel))⟩
theorem ml_X2_129 : Cond.methodLink RX2 129 yX2_countBehind ∈ lw_tbl := ik_in5 (List.mem_of_getElem? (i := 57) rfl)
theorem mf_X2_countBehind : ik_MF yX2_countBehind cX2_countBehind 3 (some .int) 2 := ⟨ik_in5 (List.mem_of_getElem? (i := 60) rfl), ik_in1 (List.mem_of_getElem? (i := 12) rfl), by decide +kernel, by decide +kernel, by decide +kernel⟩
theorem mv_X2_countBehind : ik_MV yX2_countBehind := ⟨ik_in5 (List.mem_of_getElem? (i := 59) rfl), ik_inS (List.mem_of_getElem? (i := 34) (by decide +kernel))⟩
theorem ml_X11_418 : Cond.methodLink RX11 418 yX2_number ∈ lw_tbl := ik_in5 (List.mem_of_getElem? (i := 8) rfl)
theorem mf_X2_number : ik_MF yX2_number cX2_number 1 (some .int) 0 := ⟨ik_in5 (List.mem_of_getElem? (i := 11) rfl), ik_in1 (List.mem_of_getElem? (i := 12) rfl), by decide +kernel, by decide +kernel, by decide +kernel⟩
theorem mv_X2_number : ik_MV yX2_number := ⟨ik_in5 (List.mem_of_getElem? (i := 9) rfl), ik_in5 (List.mem_of_getElem? (i := 10) rfl)⟩
theorem ml_X11_206 : Cond.methodLink RX11 206 yX11_countWithout ∈ lw_tbl := ik_in4 (List.mem_of_getElem? (i := 158) rfl)
theorem mf_X11_countWithout : ik_MF yX11_countWithout cX11_countWithout 2 (some .int) 1 := ⟨ik_in4 (List.mem_of_getElem? (i := 161) rfl), ik_in1 (List.mem_of_getElem? (i := 1) rfl), by decide +kernel, by decide +kernel, by decide +kernel⟩
theorem mv_X11_countWithout : ik_MV yX11_countWithout := ⟨ik_in4 (List.mem_of_getElem? (i := 160) rfl), ik_inS (List.mem_of_getElem? (i := 23) (by decide +kernel))⟩
theorem fl_X11_403 : ik_FL RX11 403 11 14 := ⟨RX11, TX11, 15, tyX11, rfl, by decide, inX11, tyX11_ok, nmX11, rfl, ik_in2 (List.mem_of_getElem? (i := 122) rfl)⟩
theorem fl_X2_40 : ik_FL RX2 40 2 8 := ⟨RX2, TX2, 14, tyX2, rfl, by decide, inX2, tyX2_ok, nmX2, rfl, ik_in2 (List.mem_of_getElem? (i := 72) rfl)⟩
theorem ml_X2_97 : Cond.methodLink RX2 97 yX2_weighFrom ∈ lw_tbl := ik_in5 (List.mem_of_getElem? (i := 73) rfl)
theorem mf_X2_weighFrom : ik_MF yX2_weighFrom cX2_weighFrom 10 (some .long) 2 := ⟨ik_in5 (List.mem_of_getElem? (i := 76) rfl), ik_in1 (List.mem_of_getElem? (i := 12) rfl), by decide +kernel, by decide +kernel, by decide +kernel⟩
theorem mv_X2_weighFrom : ik_MV yX2_weighFrom := ⟨ik_in5 (List.mem_of_getElem? (i := 75) rfl), ik_inS (List.mem_of_getElem? (i := 36) (by decide +kernel))⟩
theorem ml_X2_135 : Cond.methodLink RX2 135 yX2_weighBehind ∈ lw_tbl := ik_in5 (List.mem_of_getElem? (i := 77) rfl)
theorem mf_X2_weighBehind : ik_MF yX2_weighBehind cX2_weighBehind 5 (some .long) 3 := ⟨ik_in5 (List.mem_of_getElem? (i := 80) rfl), ik_in1 (List.mem_of_getElem? (i := 12) rfl), by decide +kernel, by decide +kernel, by decide +kernel⟩
theorem mv_X2_weighBehind : ik_MV yX2_weighBehind := ⟨ik_in5 (List.mem_of_getElem? (i := 79) rfl), ik_inS (List.mem_of_getElem? (i := 37) (by decide +kernel))⟩
theorem fw_X2_101 : ik_FW RX2 101 2 13 1 := ⟨RX2, TX2, 14, tyX2, rfl, by decide, inX2, tyX2_ok, nmX2, rfl, ik_in2 (List.mem_of_getElem? (i := 77) rfl), rfl, rfl⟩
theorem ml_X11_421 : Cond.methodLink RX11 421 yX2_weighAll ∈ lw_tbl := ik_in5 (List.mem_of_getElem? (i := 69) rfl)
theorem mf_X2_weighAll : ik_MF yX2_weighAll cX2_weighAll 2 (none) 0 := ⟨ik_in5 (List.mem_of_getElem? (i := 72) rfl), ik_in1 (List.mem_of_getElem? (i := 12) rfl), by decide +kernel, by decide +kernel, by decide +kernel⟩
theorem mv_X2_weighAll : ik_MV yX2_weighAll := ⟨ik_in5 (List.mem_of_getElem? (i := 70) rfl), ik_in5 (List.mem_of_getElem? (i := 71) rfl)⟩
theorem ml_X11_209 : Cond.methodLink RX11 209 yX11_weigh ∈ lw_tbl := ik_in5 (List.mem_of_getElem? (i := 65) rfl)
theorem mf_X11_weigh : ik_MF yX11_weigh cX11_weigh 1 (none) 0 := ⟨ik_in5 (List.mem_of_getElem? (i := 68) rfl), ik_in1 (List.mem_of_getElem? (i := 1) rfl), by decide +kernel, by decide +kernel, by decide +kernel⟩
theorem mv_X11_weigh : ik_MV yX11_weigh := ⟨ik_in5 (List.mem_of_getElem? (i := 67) rfl), ik_inS (List.mem_of_getElem? (i := 35) (by decide +kernel))⟩
theorem ml_X2_105 : Cond.methodLink RX2 105 yX2_odds ∈ lw_tbl := ik_in5 (List.mem_of_getElem? (i := 85) rfl)
theorem mf_X2_odds : ik_MF yX2_odds cX2_odds 3 (some .long) 2 := ⟨ik_in5 (List.mem_of_getElem? (i := 88) rfl), ik_in1 (List.mem_of_getElem? (i := 12) rfl), by decide +kernel, by decide +kernel, by decide +kernel⟩
theorem mv_X2_odds : ik_MV yX2_odds := ⟨ik_in5 (List.mem_of_getElem? (i := 86) rfl), ik_in5 (List.mem_of_getElem? (i := 87) rfl)⟩
theorem ml_X11_212 : Cond.methodLink RX11 212 yX2_may ∈ lw_tbl := ik_in5 (List.mem_of_getElem? (i := 81) rfl)
theorem mf_X2_may : ik_MF yX2_may cX2_may 4 (some .int) 1 := ⟨ik_in5 (List.mem_of_getElem? (i := 84) rfl), ik_in1 (List.mem_of_getElem? (i := 12) rfl), by decide +kernel, by decide +kernel, by decide +kernel⟩
theorem mv_X2_may : ik_MV yX2_may := ⟨ik_in5 (List.mem_of_getElem? (i := 82) rfl), ik_in5 (List.mem_of_getElem? (i := 83) rfl)⟩
theorem kc_X11_215 : Cond.constantLong RX11 215 (-1) ∈ lw_tbl := ik_in5 (List.mem_of_getElem? (i := 93) rfl)
theorem fl_X2_101 : ik_FL RX2 101 2 13 := ⟨RX2, TX2, 14, tyX2, rfl, by decide, inX2, tyX2_ok, nmX2, rfl, ik_in2 (List.mem_of_getElem? (i := 77) rfl)⟩
theorem ml_X11_217 : Cond.methodLink RX11 217 yX2_all ∈ lw_tbl := ik_in5 (List.mem_of_getElem? (i := 94) rfl)
theorem mf_X2_all : ik_MF yX2_all cX2_all 1 (some .long) 0 := ⟨ik_in5 (List.mem_of_getElem? (i := 97) rfl), ik_in1 (List.mem_of_getElem? (i := 12) rfl), by decide +kernel, by decide +kernel, by decide +kernel⟩
theorem mv_X2_all : ik_MV yX2_all := ⟨ik_in5 (List.mem_of_getElem? (i := 95) rfl), ik_in5 (List.mem_of_getElem? (i := 96) rfl)⟩
theorem ml_X11_221 : Cond.methodLink RX11 221 yX2_odds ∈ lw_tbl := ik_in5 (List.mem_of_getElem? (i := 98) rfl)
theorem fl_X2_37 : ik_FL RX2 37 2 7 := ⟨RX2, TX2, 14, tyX2, rfl, by decide, inX2, tyX2_ok, nmX2, rfl, ik_in2 (List.mem_of_getElem? (i := 71) rfl)⟩
theorem ml_X2_89 : Cond.methodLink RX2 89 yX2_reachFrom ∈ lw_tbl := ik_in5 (List.mem_of_getElem? (i := 115) rfl)
theorem mf_X2_reachFrom : ik_MF yX2_reachFrom cX2_reachFrom 4 (some .boolean) 1 := ⟨ik_in5 (List.mem_of_getElem? (i := 118) rfl), ik_in1 (List.mem_of_getElem? (i := 12) rfl), by decide +kernel, by decide +kernel, by decide +kernel⟩
theorem mv_X2_reachFrom : ik_MV yX2_reachFrom := ⟨ik_in5 (List.mem_of_getElem? (i := 117) rfl), ik_inS (List.mem_of_getElem? (i := 39) (by decide +kernel))⟩
theorem ml_X2_132 : Cond.methodLink RX2 132 yX2_reachBehind ∈ lw_tbl := ik_in5 (List.mem_of_getElem? (i := 119) rfl)
theorem mf_X2_reachBehind : ik_MF yX2_reachBehind cX2_reachBehind 3 (some .boolean) 2 := ⟨ik_in5 (List.mem_of_getElem? (i := 122) rfl), ik_in1 (List.mem_of_getElem? (i := 12) rfl), by decide +kernel, by decide +kernel, by decide +kernel⟩
theorem mv_X2_reachBehind : ik_MV yX2_reachBehind := ⟨ik_in5 (List.mem_of_getElem? (i := 121) rfl), ik_inS (List.mem_of_getElem? (i := 40) (by decide +kernel))⟩
theorem ml_X11_424 : Cond.methodLink RX11 424 yX2_fewest ∈ lw_tbl := ik_in5 (List.mem_of_getElem? (i := 111) rfl)
theorem mf_X2_fewest : ik_MF yX2_fewest cX2_fewest 3 (some .int) 0 := ⟨ik_in5 (List.mem_of_getElem? (i := 114) rfl), ik_in1 (List.mem_of_getElem? (i := 12) rfl), by decide +kernel, by decide +kernel, by decide +kernel⟩
theorem mv_X2_fewest : ik_MV yX2_fewest := ⟨ik_in5 (List.mem_of_getElem? (i := 112) rfl), ik_in5 (List.mem_of_getElem? (i := 113) rfl)⟩
theorem ml_X11_228 : Cond.methodLink RX11 228 yX11_keeps ∈ lw_tbl := ik_in5 (List.mem_of_getElem? (i := 107) rfl)
theorem mf_X11_keeps : ik_MF yX11_keeps cX11_keeps 3 (some .boolean) 2 := ⟨ik_in5 (List.mem_of_getElem? (i := 110) rfl), ik_in1 (List.mem_of_getElem? (i := 1) rfl), by decide +kernel, by decide +kernel, by decide +kernel⟩
theorem mv_X11_keeps : ik_MV yX11_keeps := ⟨ik_in5 (List.mem_of_getElem? (i := 109) rfl), ik_inS (List.mem_of_getElem? (i := 38) (by decide +kernel))⟩
theorem ml_X11_232 : Cond.methodLink RX11 232 yX2_likeliest ∈ lw_tbl := ik_in5 (List.mem_of_getElem? (i := 127) rfl)
theorem mf_X2_likeliest : ik_MF yX2_likeliest cX2_likeliest 4 (some .int) 1 := ⟨ik_in5 (List.mem_of_getElem? (i := 130) rfl), ik_in1 (List.mem_of_getElem? (i := 12) rfl), by decide +kernel, by decide +kernel, by decide +kernel⟩
theorem mv_X2_likeliest : ik_MV yX2_likeliest := ⟨ik_in5 (List.mem_of_getElem? (i := 128) rfl), ik_in5 (List.mem_of_getElem? (i := 129) rfl)⟩
theorem ml_X11_235 : Cond.methodLink RX11 235 yJ6_bitCount_0f7a4 ∈ lw_tbl := ik_in5 (List.mem_of_getElem? (i := 131) rfl)
theorem kc_X11_240 : Cond.constantLong RX11 240 (1000) ∈ lw_tbl := ik_in5 (List.mem_of_getElem? (i := 132) rfl)
theorem ml_X6_90 : Cond.methodLinkNest RX6 90 yX11_bit "InkBars" ∈ lw_tbl := ik_in5 (List.mem_of_getElem? (i := 137) rfl)
theorem ml_X11_242 : Cond.methodLink RX11 242 yX6_oneSort ∈ lw_tbl := ik_in5 (List.mem_of_getElem? (i := 133) rfl)
theorem mf_X6_oneSort : ik_MF yX6_oneSort cX6_oneSort 4 (some .int) 1 := ⟨ik_in5 (List.mem_of_getElem? (i := 136) rfl), ik_in1 (List.mem_of_getElem? (i := 4) rfl), by decide +kernel, by decide +kernel, by decide +kernel⟩
theorem mv_X6_oneSort : ik_MV yX6_oneSort := ⟨ik_in5 (List.mem_of_getElem? (i := 134) rfl), ik_in5 (List.mem_of_getElem? (i := 135) rfl)⟩
theorem ml_X11_245 : Cond.methodLink RX11 245 yX11_isDay ∈ lw_tbl := ik_in5 (List.mem_of_getElem? (i := 142) rfl)
theorem mf_X11_isDay : ik_MF yX11_isDay cX11_isDay 1 (some .boolean) 1 := ⟨ik_in5 (List.mem_of_getElem? (i := 144) rfl), ik_in1 (List.mem_of_getElem? (i := 1) rfl), by decide +kernel, by decide +kernel, by decide +kernel⟩
theorem ms_X11_isDay : Cond.static yX11_isDay ∈ lw_tbl := ik_in5 (List.mem_of_getElem? (i := 143) rfl)
theorem fl_X11_61 : ik_FL RX11 61 11 7 := ⟨RX11, TX11, 15, tyX11, rfl, by decide, inX11, tyX11_ok, nmX11, rfl, ik_in2 (List.mem_of_getElem? (i := 115) rfl)⟩
theorem fl_X1_24 : ik_FL RX1 24 1 4 := ⟨RX1, TX1, 5, tyX1, rfl, by decide, inX1, tyX1_ok, nmX1, rfl, ik_in2 (List.mem_of_getElem? (i := 14) rfl)⟩
theorem ml_X11_248 : Cond.methodLink RX11 248 yX1_full ∈ lw_tbl := ik_in5 (List.mem_of_getElem? (i := 145) rfl)
theorem mf_X1_full : ik_MF yX1_full cX1_full 1 (some .boolean) 0 := ⟨ik_in5 (List.mem_of_getElem? (i := 148) rfl), ik_in1 (List.mem_of_getElem? (i := 11) rfl), by decide +kernel, by decide +kernel, by decide +kernel⟩
theorem mv_X1_full : ik_MV yX1_full := ⟨ik_in5 (List.mem_of_getElem? (i := 146) rfl), ik_in5 (List.mem_of_getElem? (i := 147) rfl)⟩
theorem ml_X11_249 : Cond.methodLink RX11 249 yX8_allTokens ∈ lw_tbl := ik_in5 (List.mem_of_getElem? (i := 149) rfl)
theorem mf_X8_allTokens : ik_MF yX8_allTokens cX8_allTokens 2 (some .int) 1 := ⟨ik_in5 (List.mem_of_getElem? (i := 152) rfl), ik_in1 (List.mem_of_getElem? (i := 8) rfl), by decide +kernel, by decide +kernel, by decide +kernel⟩
theorem mv_X8_allTokens : ik_MV yX8_allTokens := ⟨ik_in5 (List.mem_of_getElem? (i := 150) rfl), ik_in5 (List.mem_of_getElem? (i := 151) rfl)⟩
theorem ml_X1_28 : Cond.methodLink RX1 28 yX1_full ∈ lw_tbl := ik_in5 (List.mem_of_getElem? (i := 157) rfl)
theorem fl_X1_11 : ik_FL RX1 11 1 0 := ⟨RX1, TX1, 5, tyX1, rfl, by decide, inX1, tyX1_ok, nmX1, rfl, ik_in2 (List.mem_of_getElem? (i := 10) rfl)⟩
theorem fl_X1_15 : ik_FL RX1 15 1 1 := ⟨RX1, TX1, 5, tyX1, rfl, by decide, inX1, tyX1_ok, nmX1, rfl, ik_in2 (List.mem_of_getElem? (i := 11) rfl)⟩
theorem fl_X1_18 : ik_FL RX1 18 1 2 := ⟨RX1, TX1, 5, tyX1, rfl, by decide, inX1, tyX1_ok, nmX1, rfl, ik_in2 (List.mem_of_getElem? (i := 12) rfl)⟩
theorem fl_X1_21 : ik_FL RX1 21 1 3 := ⟨RX1, TX1, 5, tyX1, rfl, by decide, inX1, tyX1_ok, nmX1, rfl, ik_in2 (List.mem_of_getElem? (i := 13) rfl)⟩
theorem fw_X1_24 : ik_FW RX1 24 1 4 0 := ⟨RX1, TX1, 5, tyX1, rfl, by decide, inX1, tyX1_ok, nmX1, rfl, ik_in2 (List.mem_of_getElem? (i := 14) rfl), rfl, rfl⟩
theorem ml_X11_252 : Cond.methodLink RX11 252 yX1_add ∈ lw_tbl := ik_in5 (List.mem_of_getElem? (i := 153) rfl)
theorem mf_X1_add : ik_MF yX1_add cX1_add 5 (some .int) 4 := ⟨ik_in5 (List.mem_of_getElem? (i := 156) rfl), ik_in1 (List.mem_of_getElem? (i := 11) rfl), by decide +kernel, by decide +kernel, by decide +kernel⟩
theorem mv_X1_add : ik_MV yX1_add := ⟨ik_in5 (List.mem_of_getElem? (i := 154) rfl), ik_in5 (List.mem_of_getElem? (i := 155) rfl)⟩
theorem ml_X11_253 : Cond.methodLink RX11 253 yX1_openBy ∈ lw_tbl := ik_in5 (List.mem_of_getElem? (i := 162) rfl)
theorem mf_X1_openBy : ik_MF yX1_openBy cX1_openBy 6 (some .int) 3 := ⟨ik_in5 (List.mem_of_getElem? (i := 165) rfl), ik_in1 (List.mem_of_getElem? (i := 11) rfl), by decide +kernel, by decide +kernel, by decide +kernel⟩
theorem mv_X1_openBy : ik_MV yX1_openBy := ⟨ik_in5 (List.mem_of_getElem? (i := 163) rfl), ik_in5 (List.mem_of_getElem? (i := 164) rfl)⟩
theorem ml_X11_256 : Cond.methodLink RX11 256 yX1_has ∈ lw_tbl := ik_in5 (List.mem_of_getElem? (i := 170) rfl)
theorem mf_X1_has : ik_MF yX1_has cX1_has 2 (some .boolean) 1 := ⟨ik_in5 (List.mem_of_getElem? (i := 173) rfl), ik_in1 (List.mem_of_getElem? (i := 11) rfl), by decide +kernel, by decide +kernel, by decide +kernel⟩
theorem mv_X1_has : ik_MV yX1_has := ⟨ik_in5 (List.mem_of_getElem? (i := 171) rfl), ik_in5 (List.mem_of_getElem? (i := 172) rfl)⟩
theorem ml_X1_32 : Cond.methodLink RX1 32 yX1_has ∈ lw_tbl := ik_in5 (List.mem_of_getElem? (i := 178) rfl)
theorem ml_X11_257 : Cond.methodLink RX11 257 yX1_sheet ∈ lw_tbl := ik_in5 (List.mem_of_getElem? (i := 174) rfl)
theorem mf_X1_sheet : ik_MF yX1_sheet cX1_sheet 2 (some .int) 1 := ⟨ik_in5 (List.mem_of_getElem? (i := 177) rfl), ik_in1 (List.mem_of_getElem? (i := 11) rfl), by decide +kernel, by decide +kernel, by decide +kernel⟩
theorem mv_X1_sheet : ik_MV yX1_sheet := ⟨ik_in5 (List.mem_of_getElem? (i := 175) rfl), ik_in5 (List.mem_of_getElem? (i := 176) rfl)⟩
theorem ml_X11_260 : Cond.methodLink RX11 260 yX1_covered ∈ lw_tbl := ik_in5 (List.mem_of_getElem? (i := 179) rfl)
theorem mf_X1_covered : ik_MF yX1_covered cX1_covered 2 (some .int) 1 := ⟨ik_in5 (List.mem_of_getElem? (i := 182) rfl), ik_in1 (List.mem_of_getElem? (i := 11) rfl), by decide +kernel, by decide +kernel, by decide +kernel⟩
theorem mv_X1_covered : ik_MV yX1_covered := ⟨ik_in5 (List.mem_of_getElem? (i := 180) rfl), ik_in5 (List.mem_of_getElem? (i := 181) rfl)⟩
theorem ml_X11_263 : Cond.methodLink RX11 263 yX1_day ∈ lw_tbl := ik_in5 (List.mem_of_getElem? (i := 183) rfl)
theorem mf_X1_day : ik_MF yX1_day cX1_day 2 (some .int) 1 := ⟨ik_in5 (List.mem_of_getElem? (i := 186) rfl), ik_in1 (List.mem_of_getElem? (i := 11) rfl), by decide +kernel, by decide +kernel, by decide +kernel⟩
theorem mv_X1_day : ik_MV yX1_day := ⟨ik_in5 (List.mem_of_getElem? (i := 184) rfl), ik_in5 (List.mem_of_getElem? (i := 185) rfl)⟩
theorem ml_X11_266 : Cond.methodLink RX11 266 yX8_tokens ∈ lw_tbl := ik_in5 (List.mem_of_getElem? (i := 191) rfl)
theorem ml_X1_36 : Cond.methodLinkNest RX1 36 yX11_bit "InkBars" ∈ lw_tbl := ik_in5 (List.mem_of_getElem? (i := 196) rfl)
theorem ml_X11_269 : Cond.methodLink RX11 269 yX1_firstOpen ∈ lw_tbl := ik_in5 (List.mem_of_getElem? (i := 192) rfl)
theorem mf_X1_firstOpen : ik_MF yX1_firstOpen cX1_firstOpen 5 (some .int) 2 := ⟨ik_in5 (List.mem_of_getElem? (i := 195) rfl), ik_in1 (List.mem_of_getElem? (i := 11) rfl), by decide +kernel, by decide +kernel, by decide +kernel⟩
theorem mv_X1_firstOpen : ik_MV yX1_firstOpen := ⟨ik_in5 (List.mem_of_getElem? (i := 193) rfl), ik_in5 (List.mem_of_getElem? (i := 194) rfl)⟩
theorem ml_X1_40 : Cond.methodLink RX1 40 yX1_copied ∈ lw_tbl := ik_in5 (List.mem_of_getElem? (i := 209) rfl)
theorem mf_X1_copied : ik_MF yX1_copied cX1_copied 4 (some .boolean) 2 := ⟨ik_in5 (List.mem_of_getElem? (i := 212) rfl), ik_in1 (List.mem_of_getElem? (i := 11) rfl), by decide +kernel, by decide +kernel, by decide +kernel⟩
theorem mv_X1_copied : ik_MV yX1_copied := ⟨ik_in5 (List.mem_of_getElem? (i := 211) rfl), ik_inS (List.mem_of_getElem? (i := 41) (by decide +kernel))⟩
theorem ml_X1_43 : Cond.methodLink RX1 43 yX1_coveredBy ∈ lw_tbl := ik_in5 (List.mem_of_getElem? (i := 213) rfl)
theorem mf_X1_coveredBy : ik_MF yX1_coveredBy cX1_coveredBy 5 (some .int) 2 := ⟨ik_in5 (List.mem_of_getElem? (i := 216) rfl), ik_in1 (List.mem_of_getElem? (i := 11) rfl), by decide +kernel, by decide +kernel, by decide +kernel⟩
theorem mv_X1_coveredBy : ik_MV yX1_coveredBy := ⟨ik_in5 (List.mem_of_getElem? (i := 215) rfl), ik_inS (List.mem_of_getElem? (i := 42) (by decide +kernel))⟩
theorem ml_X11_272 : Cond.methodLink RX11 272 yX1_compare ∈ lw_tbl := ik_in5 (List.mem_of_getElem? (i := 205) rfl)
theorem mf_X1_compare : ik_MF yX1_compare cX1_compare 7 (some .int) 2 := ⟨ik_in5 (List.mem_of_getElem? (i := 208) rfl), ik_in1 (List.mem_of_getElem? (i := 11) rfl), by decide +kernel, by decide +kernel, by decide +kernel⟩
theorem mv_X1_compare : ik_MV yX1_compare := ⟨ik_in5 (List.mem_of_getElem? (i := 206) rfl), ik_in5 (List.mem_of_getElem? (i := 207) rfl)⟩
theorem ml_X11_275 : Cond.methodLink RX11 275 yX8_takesNote ∈ lw_tbl := ik_in5 (List.mem_of_getElem? (i := 221) rfl)
theorem mf_X8_takesNote : ik_MF yX8_takesNote cX8_takesNote 5 (some .boolean) 2 := ⟨ik_in5 (List.mem_of_getElem? (i := 224) rfl), ik_in1 (List.mem_of_getElem? (i := 8) rfl), by decide +kernel, by decide +kernel, by decide +kernel⟩
theorem mv_X8_takesNote : ik_MV yX8_takesNote := ⟨ik_in5 (List.mem_of_getElem? (i := 222) rfl), ik_in5 (List.mem_of_getElem? (i := 223) rfl)⟩
theorem ml_X11_278 : Cond.methodLink RX11 278 yX8_addNote ∈ lw_tbl := ik_in5 (List.mem_of_getElem? (i := 225) rfl)
theorem mf_X8_addNote : ik_MF yX8_addNote cX8_addNote 3 (none) 2 := ⟨ik_in5 (List.mem_of_getElem? (i := 228) rfl), ik_in1 (List.mem_of_getElem? (i := 8) rfl), by decide +kernel, by decide +kernel, by decide +kernel⟩
theorem mv_X8_addNote : ik_MV yX8_addNote := ⟨ik_in5 (List.mem_of_getElem? (i := 226) rfl), ik_in5 (List.mem_of_getElem? (i := 227) rfl)⟩
theorem ml_X11_281 : Cond.methodLink RX11 281 yX8_misses ∈ lw_tbl := ik_in5 (List.mem_of_getElem? (i := 233) rfl)
theorem mf_X8_misses : ik_MF yX8_misses cX8_misses 4 (some .boolean) 1 := ⟨ik_in5 (List.mem_of_getElem? (i := 236) rfl), ik_in1 (List.mem_of_getElem? (i := 8) rfl), by decide +kernel, by decide +kernel, by decide +kernel⟩
theorem mv_X8_misses : ik_MV yX8_misses := ⟨ik_in5 (List.mem_of_getElem? (i := 234) rfl), ik_in5 (List.mem_of_getElem? (i := 235) rfl)⟩
theorem ml_X11_284 : Cond.methodLink RX11 284 yX8_noteBelow ∈ lw_tbl := ik_in5 (List.mem_of_getElem? (i := 237) rfl)
theorem mf_X8_noteBelow : ik_MF yX8_noteBelow cX8_noteBelow 4 (some .int) 1 := ⟨ik_in6 (List.mem_of_getElem? (i := 0) rfl), ik_in1 (List.mem_of_getElem? (i := 8) rfl), by decide +kernel, by decide +kernel, by decide +kernel⟩
theorem mv_X8_noteBelow : ik_MV yX8_noteBelow := ⟨ik_in5 (List.mem_of_getElem? (i := 238) rfl), ik_in5 (List.mem_of_getElem? (i := 239) rfl)⟩
theorem ml_X11_287 : Cond.methodLink RX11 287 yX8_noteAbove ∈ lw_tbl := ik_in6 (List.mem_of_getElem? (i := 1) rfl)
theorem mf_X8_noteAbove : ik_MF yX8_noteAbove cX8_noteAbove 3 (some .int) 1 := ⟨ik_in6 (List.mem_of_getElem? (i := 4) rfl), ik_in1 (List.mem_of_getElem? (i := 8) rfl), by decide +kernel, by decide +kernel, by decide +kernel⟩
theorem mv_X8_noteAbove : ik_MV yX8_noteAbove := ⟨ik_in6 (List.mem_of_getElem? (i := 2) rfl), ik_in6 (List.mem_of_getElem? (i := 3) rfl)⟩
theorem ml_X9_17 : Cond.methodLink RX9 17 yX9_at ∈ lw_tbl := ik_in6 (List.mem_of_getElem? (i := 17) rfl)
theorem ml_X11_427 : Cond.methodLink RX11 427 yX9_number ∈ lw_tbl := ik_in6 (List.mem_of_getElem? (i := 13) rfl)
theorem mf_X9_number : ik_MF yX9_number cX9_number 3 (some .int) 1 := ⟨ik_in6 (List.mem_of_getElem? (i := 16) rfl), ik_in1 (List.mem_of_getElem? (i := 2) rfl), by decide +kernel, by decide +kernel, by decide +kernel⟩
theorem mv_X9_number : ik_MV yX9_number := ⟨ik_in6 (List.mem_of_getElem? (i := 14) rfl), ik_in6 (List.mem_of_getElem? (i := 15) rfl)⟩
theorem ml_X11_290 : Cond.methodLink RX11 290 yX11_firstWrong ∈ lw_tbl := ik_in6 (List.mem_of_getElem? (i := 9) rfl)
theorem mf_X11_firstWrong : ik_MF yX11_firstWrong cX11_firstWrong 5 (some .int) 2 := ⟨ik_in6 (List.mem_of_getElem? (i := 12) rfl), ik_in1 (List.mem_of_getElem? (i := 1) rfl), by decide +kernel, by decide +kernel, by decide +kernel⟩
theorem mv_X11_firstWrong : ik_MV yX11_firstWrong := ⟨ik_in6 (List.mem_of_getElem? (i := 11) rfl), ik_inS (List.mem_of_getElem? (i := 43) (by decide +kernel))⟩
theorem ml_X11_298 : Cond.methodLink RX11 298 yX0_lists ∈ lw_tbl := ik_in6 (List.mem_of_getElem? (i := 22) rfl)
theorem mf_X0_lists : ik_MF yX0_lists cX0_lists 1 (some .int) 0 := ⟨ik_in6 (List.mem_of_getElem? (i := 25) rfl), ik_in1 (List.mem_of_getElem? (i := 7) rfl), by decide +kernel, by decide +kernel, by decide +kernel⟩
theorem mv_X0_lists : ik_MV yX0_lists := ⟨ik_in6 (List.mem_of_getElem? (i := 23) rfl), ik_in6 (List.mem_of_getElem? (i := 24) rfl)⟩
theorem ml_X11_301 : Cond.methodLink RX11 301 yX3_count ∈ lw_tbl := ik_in6 (List.mem_of_getElem? (i := 26) rfl)
theorem mf_X3_count : ik_MF yX3_count cX3_count 1 (some .int) 0 := ⟨ik_in6 (List.mem_of_getElem? (i := 29) rfl), ik_in1 (List.mem_of_getElem? (i := 10) rfl), by decide +kernel, by decide +kernel, by decide +kernel⟩
theorem mv_X3_count : ik_MV yX3_count := ⟨ik_in6 (List.mem_of_getElem? (i := 27) rfl), ik_in6 (List.mem_of_getElem? (i := 28) rfl)⟩
theorem ml_X11_302 : Cond.methodLink RX11 302 yX1_count ∈ lw_tbl := ik_in6 (List.mem_of_getElem? (i := 30) rfl)
theorem mf_X1_count : ik_MF yX1_count cX1_count 1 (some .int) 0 := ⟨ik_in6 (List.mem_of_getElem? (i := 33) rfl), ik_in1 (List.mem_of_getElem? (i := 11) rfl), by decide +kernel, by decide +kernel, by decide +kernel⟩
theorem mv_X1_count : ik_MV yX1_count := ⟨ik_in6 (List.mem_of_getElem? (i := 31) rfl), ik_in6 (List.mem_of_getElem? (i := 32) rfl)⟩
theorem ml_X11_303 : Cond.methodLink RX11 303 yX8_notes ∈ lw_tbl := ik_in6 (List.mem_of_getElem? (i := 34) rfl)
theorem mf_X8_notes : ik_MF yX8_notes cX8_notes 3 (some .int) 0 := ⟨ik_in6 (List.mem_of_getElem? (i := 37) rfl), ik_in1 (List.mem_of_getElem? (i := 8) rfl), by decide +kernel, by decide +kernel, by decide +kernel⟩
theorem mv_X8_notes : ik_MV yX8_notes := ⟨ik_in6 (List.mem_of_getElem? (i := 35) rfl), ik_in6 (List.mem_of_getElem? (i := 36) rfl)⟩
theorem ml_X11_306 : Cond.methodLink RX11 306 yX8_lines ∈ lw_tbl := ik_in6 (List.mem_of_getElem? (i := 38) rfl)
theorem mf_X8_lines : ik_MF yX8_lines cX8_lines 4 (some .int) 1 := ⟨ik_in6 (List.mem_of_getElem? (i := 41) rfl), ik_in1 (List.mem_of_getElem? (i := 8) rfl), by decide +kernel, by decide +kernel, by decide +kernel⟩
theorem mv_X8_lines : ik_MV yX8_lines := ⟨ik_in6 (List.mem_of_getElem? (i := 39) rfl), ik_in6 (List.mem_of_getElem? (i := 40) rfl)⟩
theorem kc_X12_182 : Cond.constantLong RX12 182 (26) ∈ lw_tbl := ik_in7 (List.mem_of_getElem? (i := 45) rfl)
theorem ml_X12_170 : Cond.methodLink RX12 170 yX12_lies ∈ lw_tbl := ik_in7 (List.mem_of_getElem? (i := 46) rfl)
theorem mf_X12_lies : ik_MF yX12_lies cX12_lies 6 (some .boolean) 3 := ⟨ik_in7 (List.mem_of_getElem? (i := 48) rfl), ik_in1 (List.mem_of_getElem? (i := 14) rfl), by decide +kernel, by decide +kernel, by decide +kernel⟩
theorem ms_X12_lies : Cond.static yX12_lies ∈ lw_tbl := ik_in7 (List.mem_of_getElem? (i := 47) rfl)
theorem kc_X12_184 : Cond.constantLong RX12 184 (60) ∈ lw_tbl := ik_in7 (List.mem_of_getElem? (i := 49) rfl)
theorem fl_X12_13 : ik_FL RX12 13 12 12 := ⟨RX12, TX12, 77, tyX12, rfl, by decide, inX12, tyX12_ok, nmX12, rfl, ik_in6 (List.mem_of_getElem? (i := 60) rfl)⟩
theorem kc_X12_186 : Cond.constantLong RX12 186 (-20) ∈ lw_tbl := ik_in7 (List.mem_of_getElem? (i := 54) rfl)
theorem kc_X12_188 : Cond.constantLong RX12 188 (20) ∈ lw_tbl := ik_in7 (List.mem_of_getElem? (i := 55) rfl)
theorem fl_X12_17 : ik_FL RX12 17 12 13 := ⟨RX12, TX12, 77, tyX12, rfl, by decide, inX12, tyX12_ok, nmX12, rfl, ik_in6 (List.mem_of_getElem? (i := 61) rfl)⟩
theorem fl_X12_190 : ik_FL RX12 190 12 1 := ⟨RX12, TX12, 77, tyX12, rfl, by decide, inX12, tyX12_ok, nmX12, rfl, ik_in6 (List.mem_of_getElem? (i := 49) rfl)⟩
theorem fl_X12_7 : ik_FL RX12 7 12 0 := ⟨RX12, TX12, 77, tyX12, rfl, by decide, inX12, tyX12_ok, nmX12, rfl, ik_in6 (List.mem_of_getElem? (i := 48) rfl)⟩
theorem fw_X12_190 : ik_FW RX12 190 12 1 0 := ⟨RX12, TX12, 77, tyX12, rfl, by decide, inX12, tyX12_ok, nmX12, rfl, ik_in6 (List.mem_of_getElem? (i := 49) rfl), rfl, rfl⟩
theorem ml_X12_193 : Cond.methodLink RX12 193 yX12_push ∈ lw_tbl := ik_in7 (List.mem_of_getElem? (i := 60) rfl)
theorem mf_X12_push : ik_MF yX12_push cX12_push 3 (none) 1 := ⟨ik_in7 (List.mem_of_getElem? (i := 63) rfl), ik_in1 (List.mem_of_getElem? (i := 14) rfl), by decide +kernel, by decide +kernel, by decide +kernel⟩
theorem mv_X12_push : ik_MV yX12_push := ⟨ik_in7 (List.mem_of_getElem? (i := 62) rfl), ik_inS (List.mem_of_getElem? (i := 44) (by decide +kernel))⟩
theorem fl_X12_166 : ik_FL RX12 166 12 2 := ⟨RX12, TX12, 77, tyX12, rfl, by decide, inX12, tyX12_ok, nmX12, rfl, ik_in6 (List.mem_of_getElem? (i := 50) rfl)⟩
theorem kc_X12_197 : Cond.constantLong RX12 197 (12) ∈ lw_tbl := ik_in7 (List.mem_of_getElem? (i := 68) rfl)
theorem kc_X12_199 : Cond.constantLong RX12 199 (7) ∈ lw_tbl := ik_in7 (List.mem_of_getElem? (i := 69) rfl)
theorem kc_X12_201 : Cond.constantLong RX12 201 (199) ∈ lw_tbl := ik_in7 (List.mem_of_getElem? (i := 70) rfl)
theorem kc_X12_203 : Cond.constantLong RX12 203 (100) ∈ lw_tbl := ik_in7 (List.mem_of_getElem? (i := 71) rfl)
theorem fl_X12_23 : ik_FL RX12 23 12 15 := ⟨RX12, TX12, 77, tyX12, rfl, by decide, inX12, tyX12_ok, nmX12, rfl, ik_in6 (List.mem_of_getElem? (i := 63) rfl)⟩
theorem ml_X12_205 : Cond.methodLink RX12 205 yX12_isLetter ∈ lw_tbl := ik_in7 (List.mem_of_getElem? (i := 72) rfl)
theorem mf_X12_isLetter : ik_MF yX12_isLetter cX12_isLetter 1 (some .boolean) 1 := ⟨ik_in7 (List.mem_of_getElem? (i := 74) rfl), ik_in1 (List.mem_of_getElem? (i := 14) rfl), by decide +kernel, by decide +kernel, by decide +kernel⟩
theorem ms_X12_isLetter : Cond.static yX12_isLetter ∈ lw_tbl := ik_in7 (List.mem_of_getElem? (i := 73) rfl)
theorem fl_X12_20 : ik_FL RX12 20 12 14 := ⟨RX12, TX12, 77, tyX12, rfl, by decide, inX12, tyX12_ok, nmX12, rfl, ik_in6 (List.mem_of_getElem? (i := 62) rfl)⟩
theorem ml_X12_209 : Cond.methodLink RX12 209 yX12_compared ∈ lw_tbl := ik_in7 (List.mem_of_getElem? (i := 75) rfl)
theorem mf_X12_compared : ik_MF yX12_compared cX12_compared 6 (some .int) 2 := ⟨ik_in7 (List.mem_of_getElem? (i := 78) rfl), ik_in1 (List.mem_of_getElem? (i := 14) rfl), by decide +kernel, by decide +kernel, by decide +kernel⟩
theorem mv_X12_compared : ik_MV yX12_compared := ⟨ik_in7 (List.mem_of_getElem? (i := 77) rfl), ik_inS (List.mem_of_getElem? (i := 45) (by decide +kernel))⟩
theorem fl_X12_26 : ik_FL RX12 26 12 16 := ⟨RX12, TX12, 77, tyX12, rfl, by decide, inX12, tyX12_ok, nmX12, rfl, ik_in6 (List.mem_of_getElem? (i := 64) rfl)⟩
theorem fl_X12_29 : ik_FL RX12 29 12 17 := ⟨RX12, TX12, 77, tyX12, rfl, by decide, inX12, tyX12_ok, nmX12, rfl, ik_in6 (List.mem_of_getElem? (i := 65) rfl)⟩
theorem fl_X12_32 : ik_FL RX12 32 12 18 := ⟨RX12, TX12, 77, tyX12, rfl, by decide, inX12, tyX12_ok, nmX12, rfl, ik_in6 (List.mem_of_getElem? (i := 66) rfl)⟩
theorem fl_X12_35 : ik_FL RX12 35 12 19 := ⟨RX12, TX12, 77, tyX12, rfl, by decide, inX12, tyX12_ok, nmX12, rfl, ik_in6 (List.mem_of_getElem? (i := 67) rfl)⟩
theorem fw_X12_166 : ik_FW RX12 166 12 2 0 := ⟨RX12, TX12, 77, tyX12, rfl, by decide, inX12, tyX12_ok, nmX12, rfl, ik_in6 (List.mem_of_getElem? (i := 50) rfl), rfl, rfl⟩
theorem ml_X12_213 : Cond.methodLink RX12 213 yX12_isName ∈ lw_tbl := ik_in7 (List.mem_of_getElem? (i := 83) rfl)
theorem mf_X12_isName : ik_MF yX12_isName cX12_isName 2 (some .boolean) 1 := ⟨ik_in7 (List.mem_of_getElem? (i := 86) rfl), ik_in1 (List.mem_of_getElem? (i := 14) rfl), by decide +kernel, by decide +kernel, by decide +kernel⟩
theorem mv_X12_isName : ik_MV yX12_isName := ⟨ik_in7 (List.mem_of_getElem? (i := 85) rfl), ik_inS (List.mem_of_getElem? (i := 46) (by decide +kernel))⟩
theorem ml_X12_216 : Cond.methodLink RX12 216 yX12_wideOf ∈ lw_tbl := ik_in7 (List.mem_of_getElem? (i := 87) rfl)
theorem mf_X12_wideOf : ik_MF yX12_wideOf cX12_wideOf 6 (some .int) 1 := ⟨ik_in7 (List.mem_of_getElem? (i := 90) rfl), ik_in1 (List.mem_of_getElem? (i := 14) rfl), by decide +kernel, by decide +kernel, by decide +kernel⟩
theorem mv_X12_wideOf : ik_MV yX12_wideOf := ⟨ik_in7 (List.mem_of_getElem? (i := 89) rfl), ik_inS (List.mem_of_getElem? (i := 47) (by decide +kernel))⟩
theorem fl_X12_174 : ik_FL RX12 174 12 3 := ⟨RX12, TX12, 77, tyX12, rfl, by decide, inX12, tyX12_ok, nmX12, rfl, ik_in6 (List.mem_of_getElem? (i := 51) rfl)⟩
theorem kc_X12_220 : Cond.constantLong RX12 220 (3000) ∈ lw_tbl := ik_in7 (List.mem_of_getElem? (i := 95) rfl)
theorem kc_X12_222 : Cond.constantLong RX12 222 (-1) ∈ lw_tbl := ik_in7 (List.mem_of_getElem? (i := 96) rfl)
theorem kc_X12_224 : Cond.constantLong RX12 224 (255) ∈ lw_tbl := ik_in7 (List.mem_of_getElem? (i := 97) rfl)
theorem fl_X12_38 : ik_FL RX12 38 12 20 := ⟨RX12, TX12, 77, tyX12, rfl, by decide, inX12, tyX12_ok, nmX12, rfl, ik_in6 (List.mem_of_getElem? (i := 68) rfl)⟩
theorem fl_X12_41 : ik_FL RX12 41 12 21 := ⟨RX12, TX12, 77, tyX12, rfl, by decide, inX12, tyX12_ok, nmX12, rfl, ik_in6 (List.mem_of_getElem? (i := 69) rfl)⟩
theorem fl_X12_44 : ik_FL RX12 44 12 22 := ⟨RX12, TX12, 77, tyX12, rfl, by decide, inX12, tyX12_ok, nmX12, rfl, ik_in6 (List.mem_of_getElem? (i := 70) rfl)⟩
theorem fw_X12_174 : ik_FW RX12 174 12 3 0 := ⟨RX12, TX12, 77, tyX12, rfl, by decide, inX12, tyX12_ok, nmX12, rfl, ik_in6 (List.mem_of_getElem? (i := 51) rfl), rfl, rfl⟩
theorem fl_X12_177 : ik_FL RX12 177 12 4 := ⟨RX12, TX12, 77, tyX12, rfl, by decide, inX12, tyX12_ok, nmX12, rfl, ik_in6 (List.mem_of_getElem? (i := 52) rfl)⟩
theorem kc_X12_250 : Cond.constantLong RX12 250 (50) ∈ lw_tbl := ik_in7 (List.mem_of_getElem? (i := 102) rfl)
theorem kc_X12_252 : Cond.constantLong RX12 252 (5000) ∈ lw_tbl := ik_in7 (List.mem_of_getElem? (i := 103) rfl)
theorem kc_X12_254 : Cond.constantLong RX12 254 (160) ∈ lw_tbl := ik_in7 (List.mem_of_getElem? (i := 104) rfl)
theorem fw_X12_226 : ik_FW RX12 226 12 30 0 := ⟨RX12, TX12, 77, tyX12, rfl, by decide, inX12, tyX12_ok, nmX12, rfl, ik_in6 (List.mem_of_getElem? (i := 78) rfl), rfl, rfl⟩
theorem fw_X12_229 : ik_FW RX12 229 12 31 0 := ⟨RX12, TX12, 77, tyX12, rfl, by decide, inX12, tyX12_ok, nmX12, rfl, ik_in6 (List.mem_of_getElem? (i := 79) rfl), rfl, rfl⟩
theorem fw_X12_232 : ik_FW RX12 232 12 32 0 := ⟨RX12, TX12, 77, tyX12, rfl, by decide, inX12, tyX12_ok, nmX12, rfl, ik_in6 (List.mem_of_getElem? (i := 80) rfl), rfl, rfl⟩
theorem fl_X12_232 : ik_FL RX12 232 12 32 := ⟨RX12, TX12, 77, tyX12, rfl, by decide, inX12, tyX12_ok, nmX12, rfl, ik_in6 (List.mem_of_getElem? (i := 80) rfl)⟩
theorem ml_X12_246 : Cond.methodLink RX12 246 yX12_isGood ∈ lw_tbl := ik_in7 (List.mem_of_getElem? (i := 105) rfl)
theorem mf_X12_isGood : ik_MF yX12_isGood cX12_isGood 1 (some .boolean) 0 := ⟨ik_in7 (List.mem_of_getElem? (i := 108) rfl), ik_in1 (List.mem_of_getElem? (i := 14) rfl), by decide +kernel, by decide +kernel, by decide +kernel⟩
theorem mv_X12_isGood : ik_MV yX12_isGood := ⟨ik_in7 (List.mem_of_getElem? (i := 107) rfl), ik_inS (List.mem_of_getElem? (i := 48) (by decide +kernel))⟩
theorem fl_X12_226 : ik_FL RX12 226 12 30 := ⟨RX12, TX12, 77, tyX12, rfl, by decide, inX12, tyX12_ok, nmX12, rfl, ik_in6 (List.mem_of_getElem? (i := 78) rfl)⟩
theorem fl_X12_229 : ik_FL RX12 229 12 31 := ⟨RX12, TX12, 77, tyX12, rfl, by decide, inX12, tyX12_ok, nmX12, rfl, ik_in6 (List.mem_of_getElem? (i := 79) rfl)⟩
theorem ml_X12_235 : Cond.methodLink RX12 235 yX12_here ∈ lw_tbl := ik_in7 (List.mem_of_getElem? (i := 113) rfl)
theorem mf_X12_here : ik_MF yX12_here cX12_here 1 (some .int) 0 := ⟨ik_in7 (List.mem_of_getElem? (i := 116) rfl), ik_in1 (List.mem_of_getElem? (i := 14) rfl), by decide +kernel, by decide +kernel, by decide +kernel⟩
theorem mv_X12_here : ik_MV yX12_here := ⟨ik_in7 (List.mem_of_getElem? (i := 115) rfl), ik_inS (List.mem_of_getElem? (i := 50) (by decide +kernel))⟩
theorem ml_X12_239 : Cond.methodLink RX12 239 yX12_isDigit ∈ lw_tbl := ik_in7 (List.mem_of_getElem? (i := 117) rfl)
theorem mf_X12_isDigit : ik_MF yX12_isDigit cX12_isDigit 1 (some .boolean) 1 := ⟨ik_in7 (List.mem_of_getElem? (i := 119) rfl), ik_in1 (List.mem_of_getElem? (i := 14) rfl), by decide +kernel, by decide +kernel, by decide +kernel⟩
theorem ms_X12_isDigit : Cond.static yX12_isDigit ∈ lw_tbl := ik_in7 (List.mem_of_getElem? (i := 118) rfl)
theorem ml_X12_242 : Cond.methodLink RX12 242 yX12_wrongs ∈ lw_tbl := ik_in7 (List.mem_of_getElem? (i := 120) rfl)
theorem mf_X12_wrongs : ik_MF yX12_wrongs cX12_wrongs 3 (none) 2 := ⟨ik_in7 (List.mem_of_getElem? (i := 123) rfl), ik_in1 (List.mem_of_getElem? (i := 14) rfl), by decide +kernel, by decide +kernel, by decide +kernel⟩
theorem mv_X12_wrongs : ik_MV yX12_wrongs := ⟨ik_in7 (List.mem_of_getElem? (i := 122) rfl), ik_inS (List.mem_of_getElem? (i := 51) (by decide +kernel))⟩
theorem fl_X12_56 : ik_FL RX12 56 12 26 := ⟨RX12, TX12, 77, tyX12, rfl, by decide, inX12, tyX12_ok, nmX12, rfl, ik_in6 (List.mem_of_getElem? (i := 74) rfl)⟩
theorem fl_X12_59 : ik_FL RX12 59 12 27 := ⟨RX12, TX12, 77, tyX12, rfl, by decide, inX12, tyX12_ok, nmX12, rfl, ik_in6 (List.mem_of_getElem? (i := 75) rfl)⟩
theorem fl_X12_62 : ik_FL RX12 62 12 28 := ⟨RX12, TX12, 77, tyX12, rfl, by decide, inX12, tyX12_ok, nmX12, rfl, ik_in6 (List.mem_of_getElem? (i := 76) rfl)⟩
theorem ml_X12_256 : Cond.methodLink RX12 256 yX12_token ∈ lw_tbl := ik_in7 (List.mem_of_getElem? (i := 109) rfl)
theorem mf_X12_token : ik_MF yX12_token cX12_token 5 (none) 2 := ⟨ik_in7 (List.mem_of_getElem? (i := 112) rfl), ik_in1 (List.mem_of_getElem? (i := 14) rfl), by decide +kernel, by decide +kernel, by decide +kernel⟩
theorem mv_X12_token : ik_MV yX12_token := ⟨ik_in7 (List.mem_of_getElem? (i := 111) rfl), ik_inS (List.mem_of_getElem? (i := 49) (by decide +kernel))⟩
theorem fl_X12_65 : ik_FL RX12 65 12 29 := ⟨RX12, TX12, 77, tyX12, rfl, by decide, inX12, tyX12_ok, nmX12, rfl, ik_in6 (List.mem_of_getElem? (i := 77) rfl)⟩
theorem fl_X12_53 : ik_FL RX12 53 12 25 := ⟨RX12, TX12, 77, tyX12, rfl, by decide, inX12, tyX12_ok, nmX12, rfl, ik_in6 (List.mem_of_getElem? (i := 73) rfl)⟩
theorem fl_X12_47 : ik_FL RX12 47 12 23 := ⟨RX12, TX12, 77, tyX12, rfl, by decide, inX12, tyX12_ok, nmX12, rfl, ik_in6 (List.mem_of_getElem? (i := 71) rfl)⟩
theorem fl_X12_50 : ik_FL RX12 50 12 24 := ⟨RX12, TX12, 77, tyX12, rfl, by decide, inX12, tyX12_ok, nmX12, rfl, ik_in6 (List.mem_of_getElem? (i := 72) rfl)⟩
theorem fw_X12_177 : ik_FW RX12 177 12 4 0 := ⟨RX12, TX12, 77, tyX12, rfl, by decide, inX12, tyX12_ok, nmX12, rfl, ik_in6 (List.mem_of_getElem? (i := 52) rfl), rfl, rfl⟩
theorem fw_X12_333 : ik_FW RX12 333 12 46 0 := ⟨RX12, TX12, 77, tyX12, rfl, by decide, inX12, tyX12_ok, nmX12, rfl, ik_in6 (List.mem_of_getElem? (i := 94) rfl), rfl, rfl⟩
theorem fw_X12_268 : ik_FW RX12 268 12 47 0 := ⟨RX12, TX12, 77, tyX12, rfl, by decide, inX12, tyX12_ok, nmX12, rfl, ik_in6 (List.mem_of_getElem? (i := 95) rfl), rfl, rfl⟩
theorem fl_X12_333 : ik_FL RX12 333 12 46 := ⟨RX12, TX12, 77, tyX12, rfl, by decide, inX12, tyX12_ok, nmX12, rfl, ik_in6 (List.mem_of_getElem? (i := 94) rfl)⟩
theorem fl_X12_90 : ik_FL RX12 90 12 41 := ⟨RX12, TX12, 77, tyX12, rfl, by decide, inX12, tyX12_ok, nmX12, rfl, ik_in6 (List.mem_of_getElem? (i := 89) rfl)⟩
theorem fl_X12_93 : ik_FL RX12 93 12 42 := ⟨RX12, TX12, 77, tyX12, rfl, by decide, inX12, tyX12_ok, nmX12, rfl, ik_in6 (List.mem_of_getElem? (i := 90) rfl)⟩
theorem fl_X12_268 : ik_FL RX12 268 12 47 := ⟨RX12, TX12, 77, tyX12, rfl, by decide, inX12, tyX12_ok, nmX12, rfl, ik_in6 (List.mem_of_getElem? (i := 95) rfl)⟩
theorem fw_X12_271 : ik_FW RX12 271 12 49 0 := ⟨RX12, TX12, 77, tyX12, rfl, by decide, inX12, tyX12_ok, nmX12, rfl, ik_in6 (List.mem_of_getElem? (i := 97) rfl), rfl, rfl⟩
theorem fw_X12_274 : ik_FW RX12 274 12 48 0 := ⟨RX12, TX12, 77, tyX12, rfl, by decide, inX12, tyX12_ok, nmX12, rfl, ik_in6 (List.mem_of_getElem? (i := 96) rfl), rfl, rfl⟩
theorem fw_X12_324 : ik_FW RX12 324 12 50 3 := ⟨RX12, TX12, 77, tyX12, rfl, by decide, inX12, tyX12_ok, nmX12, rfl, ik_in6 (List.mem_of_getElem? (i := 98) rfl), rfl, rfl⟩
theorem fl_X12_274 : ik_FL RX12 274 12 48 := ⟨RX12, TX12, 77, tyX12, rfl, by decide, inX12, tyX12_ok, nmX12, rfl, ik_in6 (List.mem_of_getElem? (i := 96) rfl)⟩
theorem fl_X12_105 : ik_FL RX12 105 12 52 := ⟨RX12, TX12, 77, tyX12, rfl, by decide, inX12, tyX12_ok, nmX12, rfl, ik_in6 (List.mem_of_getElem? (i := 100) rfl)⟩
theorem fl_X12_271 : ik_FL RX12 271 12 49 := ⟨RX12, TX12, 77, tyX12, rfl, by decide, inX12, tyX12_ok, nmX12, rfl, ik_in6 (List.mem_of_getElem? (i := 97) rfl)⟩
theorem ml_X12_277 : Cond.methodLink RX12 277 yX12_puts ∈ lw_tbl := ik_in7 (List.mem_of_getElem? (i := 140) rfl)
theorem mf_X12_puts : ik_MF yX12_puts cX12_puts 2 (none) 1 := ⟨ik_in7 (List.mem_of_getElem? (i := 143) rfl), ik_in1 (List.mem_of_getElem? (i := 14) rfl), by decide +kernel, by decide +kernel, by decide +kernel⟩
theorem mv_X12_puts : ik_MV yX12_puts := ⟨ik_in7 (List.mem_of_getElem? (i := 142) rfl), ik_inS (List.mem_of_getElem? (i := 55) (by decide +kernel))⟩
theorem ml_X12_292 : Cond.methodLink RX12 292 yX12_opens ∈ lw_tbl := ik_in7 (List.mem_of_getElem? (i := 136) rfl)
theorem mf_X12_opens : ik_MF yX12_opens cX12_opens 1 (none) 0 := ⟨ik_in7 (List.mem_of_getElem? (i := 139) rfl), ik_in1 (List.mem_of_getElem? (i := 14) rfl), by decide +kernel, by decide +kernel, by decide +kernel⟩
theorem mv_X12_opens : ik_MV yX12_opens := ⟨ik_in7 (List.mem_of_getElem? (i := 138) rfl), ik_inS (List.mem_of_getElem? (i := 54) (by decide +kernel))⟩
theorem fl_X12_324 : ik_FL RX12 324 12 50 := ⟨RX12, TX12, 77, tyX12, rfl, by decide, inX12, tyX12_ok, nmX12, rfl, ik_in6 (List.mem_of_getElem? (i := 98) rfl)⟩
theorem fw_X12_305 : ik_FW RX12 305 12 51 3 := ⟨RX12, TX12, 77, tyX12, rfl, by decide, inX12, tyX12_ok, nmX12, rfl, ik_in6 (List.mem_of_getElem? (i := 99) rfl), rfl, rfl⟩
theorem fl_X12_305 : ik_FL RX12 305 12 51 := ⟨RX12, TX12, 77, tyX12, rfl, by decide, inX12, tyX12_ok, nmX12, rfl, ik_in6 (List.mem_of_getElem? (i := 99) rfl)⟩
theorem ml_X12_295 : Cond.methodLink RX12 295 yX12_reads ∈ lw_tbl := ik_in7 (List.mem_of_getElem? (i := 152) rfl)
theorem mf_X12_reads : ik_MF yX12_reads cX12_reads 3 (some .int) 0 := ⟨ik_in7 (List.mem_of_getElem? (i := 155) rfl), ik_in1 (List.mem_of_getElem? (i := 14) rfl), by decide +kernel, by decide +kernel, by decide +kernel⟩
theorem mv_X12_reads : ik_MV yX12_reads := ⟨ik_in7 (List.mem_of_getElem? (i := 154) rfl), ik_inS (List.mem_of_getElem? (i := 58) (by decide +kernel))⟩
theorem fl_X12_99 : ik_FL RX12 99 12 44 := ⟨RX12, TX12, 77, tyX12, rfl, by decide, inX12, tyX12_ok, nmX12, rfl, ik_in6 (List.mem_of_getElem? (i := 92) rfl)⟩
theorem fl_X12_102 : ik_FL RX12 102 12 45 := ⟨RX12, TX12, 77, tyX12, rfl, by decide, inX12, tyX12_ok, nmX12, rfl, ik_in6 (List.mem_of_getElem? (i := 93) rfl)⟩
theorem ml_X12_289 : Cond.methodLink RX12 289 yX12_emit ∈ lw_tbl := ik_in7 (List.mem_of_getElem? (i := 156) rfl)
theorem mf_X12_emit : ik_MF yX12_emit cX12_emit 3 (none) 2 := ⟨ik_in7 (List.mem_of_getElem? (i := 159) rfl), ik_in1 (List.mem_of_getElem? (i := 14) rfl), by decide +kernel, by decide +kernel, by decide +kernel⟩
theorem mv_X12_emit : ik_MV yX12_emit := ⟨ik_in7 (List.mem_of_getElem? (i := 158) rfl), ik_inS (List.mem_of_getElem? (i := 59) (by decide +kernel))⟩
theorem ml_X12_298 : Cond.methodLink RX12 298 yX12_isValue ∈ lw_tbl := ik_in7 (List.mem_of_getElem? (i := 160) rfl)
theorem mf_X12_isValue : ik_MF yX12_isValue cX12_isValue 1 (some .boolean) 1 := ⟨ik_in7 (List.mem_of_getElem? (i := 162) rfl), ik_in1 (List.mem_of_getElem? (i := 14) rfl), by decide +kernel, by decide +kernel, by decide +kernel⟩
theorem ms_X12_isValue : Cond.static yX12_isValue ∈ lw_tbl := ik_in7 (List.mem_of_getElem? (i := 161) rfl)
theorem ml_X12_312 : Cond.methodLink RX12 312 yX12_factor ∈ lw_tbl := ik_in7 (List.mem_of_getElem? (i := 148) rfl)
theorem mf_X12_factor : ik_MF yX12_factor cX12_factor 1 (none) 0 := ⟨ik_in7 (List.mem_of_getElem? (i := 151) rfl), ik_in1 (List.mem_of_getElem? (i := 14) rfl), by decide +kernel, by decide +kernel, by decide +kernel⟩
theorem mv_X12_factor : ik_MV yX12_factor := ⟨ik_in7 (List.mem_of_getElem? (i := 150) rfl), ik_inS (List.mem_of_getElem? (i := 57) (by decide +kernel))⟩
theorem ml_X12_283 : Cond.methodLink RX12 283 yX12_isTimes ∈ lw_tbl := ik_in7 (List.mem_of_getElem? (i := 167) rfl)
theorem mf_X12_isTimes : ik_MF yX12_isTimes cX12_isTimes 1 (some .boolean) 1 := ⟨ik_in7 (List.mem_of_getElem? (i := 169) rfl), ik_in1 (List.mem_of_getElem? (i := 14) rfl), by decide +kernel, by decide +kernel, by decide +kernel⟩
theorem ms_X12_isTimes : Cond.static yX12_isTimes ∈ lw_tbl := ik_in7 (List.mem_of_getElem? (i := 168) rfl)
theorem ml_X12_286 : Cond.methodLink RX12 286 yX12_isPlus ∈ lw_tbl := ik_in7 (List.mem_of_getElem? (i := 170) rfl)
theorem mf_X12_isPlus : ik_MF yX12_isPlus cX12_isPlus 1 (some .boolean) 1 := ⟨ik_in7 (List.mem_of_getElem? (i := 172) rfl), ik_in1 (List.mem_of_getElem? (i := 14) rfl), by decide +kernel, by decide +kernel, by decide +kernel⟩
theorem ms_X12_isPlus : Cond.static yX12_isPlus ∈ lw_tbl := ik_in7 (List.mem_of_getElem? (i := 171) rfl)
theorem ml_X12_280 : Cond.methodLink RX12 280 yX12_top ∈ lw_tbl := ik_in7 (List.mem_of_getElem? (i := 177) rfl)
theorem mf_X12_top : ik_MF yX12_top cX12_top 1 (some .int) 0 := ⟨ik_in7 (List.mem_of_getElem? (i := 180) rfl), ik_in1 (List.mem_of_getElem? (i := 14) rfl), by decide +kernel, by decide +kernel, by decide +kernel⟩
theorem mv_X12_top : ik_MV yX12_top := ⟨ik_in7 (List.mem_of_getElem? (i := 179) rfl), ik_inS (List.mem_of_getElem? (i := 62) (by decide +kernel))⟩
theorem ml_X12_301 : Cond.methodLink RX12 301 yX12_sums ∈ lw_tbl := ik_in7 (List.mem_of_getElem? (i := 173) rfl)
theorem mf_X12_sums : ik_MF yX12_sums cX12_sums 2 (none) 1 := ⟨ik_in7 (List.mem_of_getElem? (i := 176) rfl), ik_in1 (List.mem_of_getElem? (i := 14) rfl), by decide +kernel, by decide +kernel, by decide +kernel⟩
theorem mv_X12_sums : ik_MV yX12_sums := ⟨ik_in7 (List.mem_of_getElem? (i := 175) rfl), ik_inS (List.mem_of_getElem? (i := 61) (by decide +kernel))⟩
theorem ml_X12_309 : Cond.methodLink RX12 309 yX12_isSign ∈ lw_tbl := ik_in7 (List.mem_of_getElem? (i := 181) rfl)
theorem mf_X12_isSign : ik_MF yX12_isSign cX12_isSign 1 (some .boolean) 1 := ⟨ik_in7 (List.mem_of_getElem? (i := 183) rfl), ik_in1 (List.mem_of_getElem? (i := 14) rfl), by decide +kernel, by decide +kernel, by decide +kernel⟩
theorem ms_X12_isSign : Cond.static yX12_isSign ∈ lw_tbl := ik_in7 (List.mem_of_getElem? (i := 182) rfl)
theorem ml_X12_315 : Cond.methodLink RX12 315 yX12_goesOn ∈ lw_tbl := ik_in7 (List.mem_of_getElem? (i := 163) rfl)
theorem mf_X12_goesOn : ik_MF yX12_goesOn cX12_goesOn 2 (some .boolean) 0 := ⟨ik_in7 (List.mem_of_getElem? (i := 166) rfl), ik_in1 (List.mem_of_getElem? (i := 14) rfl), by decide +kernel, by decide +kernel, by decide +kernel⟩
theorem mv_X12_goesOn : ik_MV yX12_goesOn := ⟨ik_in7 (List.mem_of_getElem? (i := 165) rfl), ik_inS (List.mem_of_getElem? (i := 60) (by decide +kernel))⟩
theorem ml_X12_318 : Cond.methodLink RX12 318 yX12_ends ∈ lw_tbl := ik_in7 (List.mem_of_getElem? (i := 184) rfl)
theorem mf_X12_ends : ik_MF yX12_ends cX12_ends 1 (none) 0 := ⟨ik_in7 (List.mem_of_getElem? (i := 187) rfl), ik_in1 (List.mem_of_getElem? (i := 14) rfl), by decide +kernel, by decide +kernel, by decide +kernel⟩
theorem mv_X12_ends : ik_MV yX12_ends := ⟨ik_in7 (List.mem_of_getElem? (i := 186) rfl), ik_inS (List.mem_of_getElem? (i := 63) (by decide +kernel))⟩
theorem ml_X12_327 : Cond.methodLink RX12 327 yX12_pieceOfC ∈ lw_tbl := ik_in7 (List.mem_of_getElem? (i := 144) rfl)
theorem mf_X12_pieceOfC : ik_MF yX12_pieceOfC cX12_pieceOfC 2 (none) 0 := ⟨ik_in7 (List.mem_of_getElem? (i := 147) rfl), ik_in1 (List.mem_of_getElem? (i := 14) rfl), by decide +kernel, by decide +kernel, by decide +kernel⟩
theorem mv_X12_pieceOfC : ik_MV yX12_pieceOfC := ⟨ik_in7 (List.mem_of_getElem? (i := 146) rfl), ik_inS (List.mem_of_getElem? (i := 56) (by decide +kernel))⟩
theorem ml_X12_321 : Cond.methodLink RX12 321 yX12_joins ∈ lw_tbl := ik_in7 (List.mem_of_getElem? (i := 192) rfl)
theorem mf_X12_joins : ik_MF yX12_joins cX12_joins 2 (none) 1 := ⟨ik_in7 (List.mem_of_getElem? (i := 195) rfl), ik_in1 (List.mem_of_getElem? (i := 14) rfl), by decide +kernel, by decide +kernel, by decide +kernel⟩
theorem mv_X12_joins : ik_MV yX12_joins := ⟨ik_in7 (List.mem_of_getElem? (i := 194) rfl), ik_inS (List.mem_of_getElem? (i := 65) (by decide +kernel))⟩
theorem ml_X12_330 : Cond.methodLink RX12 330 yX12_goesBehind ∈ lw_tbl := ik_in7 (List.mem_of_getElem? (i := 188) rfl)
theorem mf_X12_goesBehind : ik_MF yX12_goesBehind cX12_goesBehind 2 (some .boolean) 0 := ⟨ik_in7 (List.mem_of_getElem? (i := 191) rfl), ik_in1 (List.mem_of_getElem? (i := 14) rfl), by decide +kernel, by decide +kernel, by decide +kernel⟩
theorem mv_X12_goesBehind : ik_MV yX12_goesBehind := ⟨ik_in7 (List.mem_of_getElem? (i := 190) rfl), ik_inS (List.mem_of_getElem? (i := 64) (by decide +kernel))⟩
theorem ml_X12_336 : Cond.methodLink RX12 336 yX12_condition ∈ lw_tbl := ik_in7 (List.mem_of_getElem? (i := 132) rfl)
theorem mf_X12_condition : ik_MF yX12_condition cX12_condition 2 (none) 0 := ⟨ik_in7 (List.mem_of_getElem? (i := 135) rfl), ik_in1 (List.mem_of_getElem? (i := 14) rfl), by decide +kernel, by decide +kernel, by decide +kernel⟩
theorem mv_X12_condition : ik_MV yX12_condition := ⟨ik_in7 (List.mem_of_getElem? (i := 134) rfl), ik_inS (List.mem_of_getElem? (i := 53) (by decide +kernel))⟩
theorem fl_X12_96 : ik_FL RX12 96 12 43 := ⟨RX12, TX12, 77, tyX12, rfl, by decide, inX12, tyX12_ok, nmX12, rfl, ik_in6 (List.mem_of_getElem? (i := 91) rfl)⟩
theorem ml_X12_339 : Cond.methodLink RX12 339 yX12_clause ∈ lw_tbl := ik_in7 (List.mem_of_getElem? (i := 128) rfl)
theorem mf_X12_clause : ik_MF yX12_clause cX12_clause 2 (none) 0 := ⟨ik_in7 (List.mem_of_getElem? (i := 131) rfl), ik_in1 (List.mem_of_getElem? (i := 14) rfl), by decide +kernel, by decide +kernel, by decide +kernel⟩
theorem mv_X12_clause : ik_MV yX12_clause := ⟨ik_in7 (List.mem_of_getElem? (i := 130) rfl), ik_inS (List.mem_of_getElem? (i := 52) (by decide +kernel))⟩
theorem fl_X12_75 : ik_FL RX12 75 12 36 := ⟨RX12, TX12, 77, tyX12, rfl, by decide, inX12, tyX12_ok, nmX12, rfl, ik_in6 (List.mem_of_getElem? (i := 84) rfl)⟩
theorem fl_X12_78 : ik_FL RX12 78 12 37 := ⟨RX12, TX12, 77, tyX12, rfl, by decide, inX12, tyX12_ok, nmX12, rfl, ik_in6 (List.mem_of_getElem? (i := 85) rfl)⟩
theorem fl_X12_81 : ik_FL RX12 81 12 38 := ⟨RX12, TX12, 77, tyX12, rfl, by decide, inX12, tyX12_ok, nmX12, rfl, ik_in6 (List.mem_of_getElem? (i := 86) rfl)⟩
theorem fl_X12_84 : ik_FL RX12 84 12 39 := ⟨RX12, TX12, 77, tyX12, rfl, by decide, inX12, tyX12_ok, nmX12, rfl, ik_in6 (List.mem_of_getElem? (i := 87) rfl)⟩
theorem fl_X12_87 : ik_FL RX12 87 12 40 := ⟨RX12, TX12, 77, tyX12, rfl, by decide, inX12, tyX12_ok, nmX12, rfl, ik_in6 (List.mem_of_getElem? (i := 88) rfl)⟩
theorem fw_X12_342 : ik_FW RX12 342 12 5 0 := ⟨RX12, TX12, 77, tyX12, rfl, by decide, inX12, tyX12_ok, nmX12, rfl, ik_in6 (List.mem_of_getElem? (i := 53) rfl), rfl, rfl⟩
theorem fl_X12_364 : ik_FL RX12 364 12 6 := ⟨RX12, TX12, 77, tyX12, rfl, by decide, inX12, tyX12_ok, nmX12, rfl, ik_in6 (List.mem_of_getElem? (i := 54) rfl)⟩
theorem kc_X12_367 : Cond.constantLong RX12 367 (2) ∈ lw_tbl := ik_in7 (List.mem_of_getElem? (i := 200) rfl)
theorem ml_X12_369 : Cond.methodLink RX12 369 yX12_isBar ∈ lw_tbl := ik_in7 (List.mem_of_getElem? (i := 201) rfl)
theorem mf_X12_isBar : ik_MF yX12_isBar cX12_isBar 2 (some .boolean) 1 := ⟨ik_in7 (List.mem_of_getElem? (i := 204) rfl), ik_in1 (List.mem_of_getElem? (i := 14) rfl), by decide +kernel, by decide +kernel, by decide +kernel⟩
theorem mv_X12_isBar : ik_MV yX12_isBar := ⟨ik_in7 (List.mem_of_getElem? (i := 203) rfl), ik_inS (List.mem_of_getElem? (i := 66) (by decide +kernel))⟩
theorem fl_X12_114 : ik_FL RX12 114 12 57 := ⟨RX12, TX12, 77, tyX12, rfl, by decide, inX12, tyX12_ok, nmX12, rfl, ik_in6 (List.mem_of_getElem? (i := 105) rfl)⟩
theorem fl_X12_117 : ik_FL RX12 117 12 58 := ⟨RX12, TX12, 77, tyX12, rfl, by decide, inX12, tyX12_ok, nmX12, rfl, ik_in6 (List.mem_of_getElem? (i := 106) rfl)⟩
theorem fl_X12_120 : ik_FL RX12 120 12 59 := ⟨RX12, TX12, 77, tyX12, rfl, by decide, inX12, tyX12_ok, nmX12, rfl, ik_in6 (List.mem_of_getElem? (i := 107) rfl)⟩
theorem fw_X12_364 : ik_FW RX12 364 12 6 0 := ⟨RX12, TX12, 77, tyX12, rfl, by decide, inX12, tyX12_ok, nmX12, rfl, ik_in6 (List.mem_of_getElem? (i := 54) rfl), rfl, rfl⟩
theorem fl_X12_372 : ik_FL RX12 372 12 7 := ⟨RX12, TX12, 77, tyX12, rfl, by decide, inX12, tyX12_ok, nmX12, rfl, ik_in6 (List.mem_of_getElem? (i := 55) rfl)⟩
theorem fl_X12_123 : ik_FL RX12 123 12 60 := ⟨RX12, TX12, 77, tyX12, rfl, by decide, inX12, tyX12_ok, nmX12, rfl, ik_in6 (List.mem_of_getElem? (i := 108) rfl)⟩
theorem fl_X12_126 : ik_FL RX12 126 12 61 := ⟨RX12, TX12, 77, tyX12, rfl, by decide, inX12, tyX12_ok, nmX12, rfl, ik_in6 (List.mem_of_getElem? (i := 109) rfl)⟩
theorem fl_X12_129 : ik_FL RX12 129 12 62 := ⟨RX12, TX12, 77, tyX12, rfl, by decide, inX12, tyX12_ok, nmX12, rfl, ik_in6 (List.mem_of_getElem? (i := 110) rfl)⟩
theorem fw_X12_372 : ik_FW RX12 372 12 7 0 := ⟨RX12, TX12, 77, tyX12, rfl, by decide, inX12, tyX12_ok, nmX12, rfl, ik_in6 (List.mem_of_getElem? (i := 55) rfl), rfl, rfl⟩
theorem fl_X12_375 : ik_FL RX12 375 12 8 := ⟨RX12, TX12, 77, tyX12, rfl, by decide, inX12, tyX12_ok, nmX12, rfl, ik_in6 (List.mem_of_getElem? (i := 56) rfl)⟩
theorem kc_X12_180 : Cond.constantLong RX12 180 (3) ∈ lw_tbl := ik_in7 (List.mem_of_getElem? (i := 216) rfl)
theorem ml_X12_378 : Cond.methodLink RX12 378 yX12_isHouse ∈ lw_tbl := ik_in7 (List.mem_of_getElem? (i := 213) rfl)
theorem mf_X12_isHouse : ik_MF yX12_isHouse cX12_isHouse 1 (some .boolean) 1 := ⟨ik_in7 (List.mem_of_getElem? (i := 215) rfl), ik_in1 (List.mem_of_getElem? (i := 14) rfl), by decide +kernel, by decide +kernel, by decide +kernel⟩
theorem ms_X12_isHouse : Cond.static yX12_isHouse ∈ lw_tbl := ik_in7 (List.mem_of_getElem? (i := 214) rfl)
theorem fl_X12_132 : ik_FL RX12 132 12 63 := ⟨RX12, TX12, 77, tyX12, rfl, by decide, inX12, tyX12_ok, nmX12, rfl, ik_in6 (List.mem_of_getElem? (i := 111) rfl)⟩
theorem fl_X12_135 : ik_FL RX12 135 12 64 := ⟨RX12, TX12, 77, tyX12, rfl, by decide, inX12, tyX12_ok, nmX12, rfl, ik_in6 (List.mem_of_getElem? (i := 112) rfl)⟩
theorem fl_X12_138 : ik_FL RX12 138 12 65 := ⟨RX12, TX12, 77, tyX12, rfl, by decide, inX12, tyX12_ok, nmX12, rfl, ik_in6 (List.mem_of_getElem? (i := 113) rfl)⟩
theorem fw_X12_375 : ik_FW RX12 375 12 8 0 := ⟨RX12, TX12, 77, tyX12, rfl, by decide, inX12, tyX12_ok, nmX12, rfl, ik_in6 (List.mem_of_getElem? (i := 56) rfl), rfl, rfl⟩
theorem ml_X12_381 : Cond.methodLink RX12 381 yX12_habitOf ∈ lw_tbl := ik_in7 (List.mem_of_getElem? (i := 221) rfl)
theorem mf_X12_habitOf : ik_MF yX12_habitOf cX12_habitOf 7 (some .int) 2 := ⟨ik_in7 (List.mem_of_getElem? (i := 224) rfl), ik_in1 (List.mem_of_getElem? (i := 14) rfl), by decide +kernel, by decide +kernel, by decide +kernel⟩
theorem mv_X12_habitOf : ik_MV yX12_habitOf := ⟨ik_in7 (List.mem_of_getElem? (i := 223) rfl), ik_inS (List.mem_of_getElem? (i := 67) (by decide +kernel))⟩
theorem fw_X12_385 : ik_FW RX12 385 12 11 0 := ⟨RX12, TX12, 77, tyX12, rfl, by decide, inX12, tyX12_ok, nmX12, rfl, ik_in6 (List.mem_of_getElem? (i := 59) rfl), rfl, rfl⟩
theorem fl_X12_385 : ik_FL RX12 385 12 11 := ⟨RX12, TX12, 77, tyX12, rfl, by decide, inX12, tyX12_ok, nmX12, rfl, ik_in6 (List.mem_of_getElem? (i := 59) rfl)⟩
theorem ml_X12_388 : Cond.methodLink RX12 388 yX12_isWord ∈ lw_tbl := ik_in8 (List.mem_of_getElem? (i := 1) rfl)
theorem mf_X12_isWord : ik_MF yX12_isWord cX12_isWord 5 (some .boolean) 3 := ⟨ik_in8 (List.mem_of_getElem? (i := 4) rfl), ik_in1 (List.mem_of_getElem? (i := 14) rfl), by decide +kernel, by decide +kernel, by decide +kernel⟩
theorem mv_X12_isWord : ik_MV yX12_isWord := ⟨ik_in8 (List.mem_of_getElem? (i := 3) rfl), ik_inS (List.mem_of_getElem? (i := 70) (by decide +kernel))⟩
theorem ml_X12_348 : Cond.methodLink RX12 348 yX12_isVowel ∈ lw_tbl := ik_in8 (List.mem_of_getElem? (i := 5) rfl)
theorem mf_X12_isVowel : ik_MF yX12_isVowel cX12_isVowel 3 (some .boolean) 1 := ⟨ik_in8 (List.mem_of_getElem? (i := 8) rfl), ik_in1 (List.mem_of_getElem? (i := 14) rfl), by decide +kernel, by decide +kernel, by decide +kernel⟩
theorem mv_X12_isVowel : ik_MV yX12_isVowel := ⟨ik_in8 (List.mem_of_getElem? (i := 7) rfl), ik_inS (List.mem_of_getElem? (i := 71) (by decide +kernel))⟩
theorem ml_X12_395 : Cond.methodLink RX12 395 yX12_isAgainstGrammar ∈ lw_tbl := ik_in7 (List.mem_of_getElem? (i := 237) rfl)
theorem mf_X12_isAgainstGrammar : ik_MF yX12_isAgainstGrammar cX12_isAgainstGrammar 6 (some .boolean) 2 := ⟨ik_in8 (List.mem_of_getElem? (i := 0) rfl), ik_in1 (List.mem_of_getElem? (i := 14) rfl), by decide +kernel, by decide +kernel, by decide +kernel⟩
theorem mv_X12_isAgainstGrammar : ik_MV yX12_isAgainstGrammar := ⟨ik_in7 (List.mem_of_getElem? (i := 239) rfl), ik_inS (List.mem_of_getElem? (i := 69) (by decide +kernel))⟩
theorem fw_X12_351 : ik_FW RX12 351 12 53 0 := ⟨RX12, TX12, 77, tyX12, rfl, by decide, inX12, tyX12_ok, nmX12, rfl, ik_in6 (List.mem_of_getElem? (i := 101) rfl), rfl, rfl⟩
theorem fw_X12_345 : ik_FW RX12 345 12 54 0 := ⟨RX12, TX12, 77, tyX12, rfl, by decide, inX12, tyX12_ok, nmX12, rfl, ik_in6 (List.mem_of_getElem? (i := 102) rfl), rfl, rfl⟩
theorem fl_X12_342 : ik_FL RX12 342 12 5 := ⟨RX12, TX12, 77, tyX12, rfl, by decide, inX12, tyX12_ok, nmX12, rfl, ik_in6 (List.mem_of_getElem? (i := 53) rfl)⟩
theorem fl_X12_111 : ik_FL RX12 111 12 56 := ⟨RX12, TX12, 77, tyX12, rfl, by decide, inX12, tyX12_ok, nmX12, rfl, ik_in6 (List.mem_of_getElem? (i := 104) rfl)⟩
theorem fl_X12_108 : ik_FL RX12 108 12 55 := ⟨RX12, TX12, 77, tyX12, rfl, by decide, inX12, tyX12_ok, nmX12, rfl, ik_in6 (List.mem_of_getElem? (i := 103) rfl)⟩
theorem ml_X12_354 : Cond.methodLink RX12 354 yX12_worked ∈ lw_tbl := ik_in8 (List.mem_of_getElem? (i := 21) rfl)
theorem mf_X12_worked : ik_MF yX12_worked cX12_worked 3 (some .int) 3 := ⟨ik_in8 (List.mem_of_getElem? (i := 23) rfl), ik_in1 (List.mem_of_getElem? (i := 14) rfl), by decide +kernel, by decide +kernel, by decide +kernel⟩
theorem ms_X12_worked : Cond.static yX12_worked ∈ lw_tbl := ik_in8 (List.mem_of_getElem? (i := 22) rfl)
theorem ml_X12_358 : Cond.methodLink RX12 358 yX12_does ∈ lw_tbl := ik_in8 (List.mem_of_getElem? (i := 17) rfl)
theorem mf_X12_does : ik_MF yX12_does cX12_does 4 (none) 2 := ⟨ik_in8 (List.mem_of_getElem? (i := 20) rfl), ik_in1 (List.mem_of_getElem? (i := 14) rfl), by decide +kernel, by decide +kernel, by decide +kernel⟩
theorem mv_X12_does : ik_MV yX12_does := ⟨ik_in8 (List.mem_of_getElem? (i := 19) rfl), ik_inS (List.mem_of_getElem? (i := 74) (by decide +kernel))⟩
theorem fl_X12_345 : ik_FL RX12 345 12 54 := ⟨RX12, TX12, 77, tyX12, rfl, by decide, inX12, tyX12_ok, nmX12, rfl, ik_in6 (List.mem_of_getElem? (i := 102) rfl)⟩
theorem fl_X12_351 : ik_FL RX12 351 12 53 := ⟨RX12, TX12, 77, tyX12, rfl, by decide, inX12, tyX12_ok, nmX12, rfl, ik_in6 (List.mem_of_getElem? (i := 101) rfl)⟩
theorem ml_X12_361 : Cond.methodLink RX12 361 yX12_valueOf ∈ lw_tbl := ik_in8 (List.mem_of_getElem? (i := 24) rfl)
theorem mf_X12_valueOf : ik_MF yX12_valueOf cX12_valueOf 3 (some .int) 1 := ⟨ik_in8 (List.mem_of_getElem? (i := 27) rfl), ik_in1 (List.mem_of_getElem? (i := 14) rfl), by decide +kernel, by decide +kernel, by decide +kernel⟩
theorem mv_X12_valueOf : ik_MV yX12_valueOf := ⟨ik_in8 (List.mem_of_getElem? (i := 26) rfl), ik_inS (List.mem_of_getElem? (i := 75) (by decide +kernel))⟩
theorem ml_X12_392 : Cond.methodLink RX12 392 yX12_holds ∈ lw_tbl := ik_in8 (List.mem_of_getElem? (i := 13) rfl)
theorem mf_X12_holds : ik_MF yX12_holds cX12_holds 4 (some .boolean) 1 := ⟨ik_in8 (List.mem_of_getElem? (i := 16) rfl), ik_in1 (List.mem_of_getElem? (i := 14) rfl), by decide +kernel, by decide +kernel, by decide +kernel⟩
theorem mv_X12_holds : ik_MV yX12_holds := ⟨ik_in8 (List.mem_of_getElem? (i := 15) rfl), ik_inS (List.mem_of_getElem? (i := 73) (by decide +kernel))⟩
theorem ml_X12_399 : Cond.methodLink RX12 399 yX12_isAgainstRules ∈ lw_tbl := ik_in8 (List.mem_of_getElem? (i := 9) rfl)
theorem mf_X12_isAgainstRules : ik_MF yX12_isAgainstRules cX12_isAgainstRules 4 (some .boolean) 2 := ⟨ik_in8 (List.mem_of_getElem? (i := 12) rfl), ik_in1 (List.mem_of_getElem? (i := 14) rfl), by decide +kernel, by decide +kernel, by decide +kernel⟩
theorem mv_X12_isAgainstRules : ik_MV yX12_isAgainstRules := ⟨ik_in8 (List.mem_of_getElem? (i := 11) rfl), ik_inS (List.mem_of_getElem? (i := 72) (by decide +kernel))⟩
theorem ml_X12_402 : Cond.methodLink RX12 402 yX12_isAgainstLists ∈ lw_tbl := ik_in8 (List.mem_of_getElem? (i := 28) rfl)
theorem mf_X12_isAgainstLists : ik_MF yX12_isAgainstLists cX12_isAgainstLists 4 (some .boolean) 2 := ⟨ik_in8 (List.mem_of_getElem? (i := 31) rfl), ik_in1 (List.mem_of_getElem? (i := 14) rfl), by decide +kernel, by decide +kernel, by decide +kernel⟩
theorem mv_X12_isAgainstLists : ik_MV yX12_isAgainstLists := ⟨ik_in8 (List.mem_of_getElem? (i := 30) rfl), ik_inS (List.mem_of_getElem? (i := 76) (by decide +kernel))⟩
theorem ml_X12_405 : Cond.methodLink RX12 405 yX12_has ∈ lw_tbl := ik_in8 (List.mem_of_getElem? (i := 32) rfl)
theorem mf_X12_has : ik_MF yX12_has cX12_has 2 (some .boolean) 2 := ⟨ik_in8 (List.mem_of_getElem? (i := 34) rfl), ik_in1 (List.mem_of_getElem? (i := 14) rfl), by decide +kernel, by decide +kernel, by decide +kernel⟩
theorem ms_X12_has : Cond.static yX12_has ∈ lw_tbl := ik_in8 (List.mem_of_getElem? (i := 33) rfl)
theorem ml_X12_408 : Cond.methodLink RX12 408 yX12_againstOf ∈ lw_tbl := ik_in7 (List.mem_of_getElem? (i := 233) rfl)
theorem mf_X12_againstOf : ik_MF yX12_againstOf cX12_againstOf 6 (some .int) 2 := ⟨ik_in7 (List.mem_of_getElem? (i := 236) rfl), ik_in1 (List.mem_of_getElem? (i := 14) rfl), by decide +kernel, by decide +kernel, by decide +kernel⟩
theorem mv_X12_againstOf : ik_MV yX12_againstOf := ⟨ik_in7 (List.mem_of_getElem? (i := 235) rfl), ik_inS (List.mem_of_getElem? (i := 68) (by decide +kernel))⟩
theorem ml_X12_414 : Cond.methodLink RX12 414 yX12_rowsOf ∈ lw_tbl := ik_in8 (List.mem_of_getElem? (i := 39) rfl)
theorem mf_X12_rowsOf : ik_MF yX12_rowsOf cX12_rowsOf 3 (some .int) 0 := ⟨ik_in8 (List.mem_of_getElem? (i := 42) rfl), ik_in1 (List.mem_of_getElem? (i := 14) rfl), by decide +kernel, by decide +kernel, by decide +kernel⟩
theorem mv_X12_rowsOf : ik_MV yX12_rowsOf := ⟨ik_in8 (List.mem_of_getElem? (i := 41) rfl), ik_inS (List.mem_of_getElem? (i := 77) (by decide +kernel))⟩
theorem fl_X12_69 : ik_FL RX12 69 12 33 := ⟨RX12, TX12, 77, tyX12, rfl, by decide, inX12, tyX12_ok, nmX12, rfl, ik_in6 (List.mem_of_getElem? (i := 81) rfl)⟩
theorem ml_X12_417 : Cond.methodLink RX12 417 yX12_takes ∈ lw_tbl := ik_in8 (List.mem_of_getElem? (i := 43) rfl)
theorem mf_X12_takes : ik_MF yX12_takes cX12_takes 4 (some .boolean) 1 := ⟨ik_in8 (List.mem_of_getElem? (i := 46) rfl), ik_in1 (List.mem_of_getElem? (i := 14) rfl), by decide +kernel, by decide +kernel, by decide +kernel⟩
theorem mv_X12_takes : ik_MV yX12_takes := ⟨ik_in8 (List.mem_of_getElem? (i := 45) rfl), ik_inS (List.mem_of_getElem? (i := 78) (by decide +kernel))⟩
theorem fl_X12_141 : ik_FL RX12 141 12 66 := ⟨RX12, TX12, 77, tyX12, rfl, by decide, inX12, tyX12_ok, nmX12, rfl, ik_in6 (List.mem_of_getElem? (i := 114) rfl)⟩
theorem ml_X12_420 : Cond.methodLink RX12 420 yX12_asks ∈ lw_tbl := ik_in8 (List.mem_of_getElem? (i := 47) rfl)
theorem mf_X12_asks : ik_MF yX12_asks cX12_asks 3 (none) 0 := ⟨ik_in8 (List.mem_of_getElem? (i := 50) rfl), ik_in1 (List.mem_of_getElem? (i := 14) rfl), by decide +kernel, by decide +kernel, by decide +kernel⟩
theorem mv_X12_asks : ik_MV yX12_asks := ⟨ik_in8 (List.mem_of_getElem? (i := 49) rfl), ik_inS (List.mem_of_getElem? (i := 79) (by decide +kernel))⟩
theorem fw_X12_259 : ik_FW RX12 259 12 34 0 := ⟨RX12, TX12, 77, tyX12, rfl, by decide, inX12, tyX12_ok, nmX12, rfl, ik_in6 (List.mem_of_getElem? (i := 82) rfl), rfl, rfl⟩
theorem ml_X12_262 : Cond.methodLink RX12 262 yX12_wideOfToken ∈ lw_tbl := ik_in8 (List.mem_of_getElem? (i := 63) rfl)
theorem mf_X12_wideOfToken : ik_MF yX12_wideOfToken cX12_wideOfToken 8 (some .int) 2 := ⟨ik_in8 (List.mem_of_getElem? (i := 66) rfl), ik_in1 (List.mem_of_getElem? (i := 14) rfl), by decide +kernel, by decide +kernel, by decide +kernel⟩
theorem mv_X12_wideOfToken : ik_MV yX12_wideOfToken := ⟨ik_in8 (List.mem_of_getElem? (i := 65) rfl), ik_inS (List.mem_of_getElem? (i := 83) (by decide +kernel))⟩
theorem fl_X12_72 : ik_FL RX12 72 12 35 := ⟨RX12, TX12, 77, tyX12, rfl, by decide, inX12, tyX12_ok, nmX12, rfl, ik_in6 (List.mem_of_getElem? (i := 83) rfl)⟩
theorem fl_X12_259 : ik_FL RX12 259 12 34 := ⟨RX12, TX12, 77, tyX12, rfl, by decide, inX12, tyX12_ok, nmX12, rfl, ik_in6 (List.mem_of_getElem? (i := 82) rfl)⟩
theorem ml_X12_265 : Cond.methodLink RX12 265 yX12_sets ∈ lw_tbl := ik_in8 (List.mem_of_getElem? (i := 59) rfl)
theorem mf_X12_sets : ik_MF yX12_sets cX12_sets 5 (none) 1 := ⟨ik_in8 (List.mem_of_getElem? (i := 62) rfl), ik_in1 (List.mem_of_getElem? (i := 14) rfl), by decide +kernel, by decide +kernel, by decide +kernel⟩
theorem mv_X12_sets : ik_MV yX12_sets := ⟨ik_in8 (List.mem_of_getElem? (i := 61) rfl), ik_inS (List.mem_of_getElem? (i := 82) (by decide +kernel))⟩
theorem ml_X12_411 : Cond.methodLink RX12 411 yX12_breaksSo ∈ lw_tbl := ik_in8 (List.mem_of_getElem? (i := 55) rfl)
theorem mf_X12_breaksSo : ik_MF yX12_breaksSo cX12_breaksSo 5 (some .boolean) 1 := ⟨ik_in8 (List.mem_of_getElem? (i := 58) rfl), ik_in1 (List.mem_of_getElem? (i := 14) rfl), by decide +kernel, by decide +kernel, by decide +kernel⟩
theorem mv_X12_breaksSo : ik_MV yX12_breaksSo := ⟨ik_in8 (List.mem_of_getElem? (i := 57) rfl), ik_inS (List.mem_of_getElem? (i := 81) (by decide +kernel))⟩
theorem ml_X12_423 : Cond.methodLink RX12 423 yX12_speaks ∈ lw_tbl := ik_in8 (List.mem_of_getElem? (i := 51) rfl)
theorem mf_X12_speaks : ik_MF yX12_speaks cX12_speaks 7 (some .int) 2 := ⟨ik_in8 (List.mem_of_getElem? (i := 54) rfl), ik_in1 (List.mem_of_getElem? (i := 14) rfl), by decide +kernel, by decide +kernel, by decide +kernel⟩
theorem mv_X12_speaks : ik_MV yX12_speaks := ⟨ik_in8 (List.mem_of_getElem? (i := 53) rfl), ik_inS (List.mem_of_getElem? (i := 80) (by decide +kernel))⟩
theorem ml_X12_426 : Cond.methodLink RX12 426 yX12_isSheet ∈ lw_tbl := ik_in8 (List.mem_of_getElem? (i := 71) rfl)
theorem mf_X12_isSheet : ik_MF yX12_isSheet cX12_isSheet 2 (some .boolean) 1 := ⟨ik_in8 (List.mem_of_getElem? (i := 74) rfl), ik_in1 (List.mem_of_getElem? (i := 14) rfl), by decide +kernel, by decide +kernel, by decide +kernel⟩
theorem mv_X12_isSheet : ik_MV yX12_isSheet := ⟨ik_in8 (List.mem_of_getElem? (i := 73) rfl), ik_inS (List.mem_of_getElem? (i := 84) (by decide +kernel))⟩
theorem kc_X12_445 : Cond.constantLong RX12 445 (63) ∈ lw_tbl := ik_in8 (List.mem_of_getElem? (i := 79) rfl)
theorem fw_X12_429 : ik_FW RX12 429 12 67 0 := ⟨RX12, TX12, 77, tyX12, rfl, by decide, inX12, tyX12_ok, nmX12, rfl, ik_in6 (List.mem_of_getElem? (i := 115) rfl), rfl, rfl⟩
theorem fw_X12_432 : ik_FW RX12 432 12 69 1 := ⟨RX12, TX12, 77, tyX12, rfl, by decide, inX12, tyX12_ok, nmX12, rfl, ik_in6 (List.mem_of_getElem? (i := 117) rfl), rfl, rfl⟩
theorem fl_X12_144 : ik_FL RX12 144 12 70 := ⟨RX12, TX12, 77, tyX12, rfl, by decide, inX12, tyX12_ok, nmX12, rfl, ik_in6 (List.mem_of_getElem? (i := 118) rfl)⟩
theorem ml_X12_436 : Cond.methodLink RX12 436 yX12_begins ∈ lw_tbl := ik_in8 (List.mem_of_getElem? (i := 84) rfl)
theorem mf_X12_begins : ik_MF yX12_begins cX12_begins 2 (some .boolean) 0 := ⟨ik_in8 (List.mem_of_getElem? (i := 87) rfl), ik_in1 (List.mem_of_getElem? (i := 14) rfl), by decide +kernel, by decide +kernel, by decide +kernel⟩
theorem mv_X12_begins : ik_MV yX12_begins := ⟨ik_in8 (List.mem_of_getElem? (i := 86) rfl), ik_inS (List.mem_of_getElem? (i := 86) (by decide +kernel))⟩
theorem ml_X12_439 : Cond.methodLink RX12 439 yX12_tableOf ∈ lw_tbl := ik_in8 (List.mem_of_getElem? (i := 88) rfl)
theorem mf_X12_tableOf : ik_MF yX12_tableOf cX12_tableOf 3 (some .int) 0 := ⟨ik_in8 (List.mem_of_getElem? (i := 91) rfl), ik_in1 (List.mem_of_getElem? (i := 14) rfl), by decide +kernel, by decide +kernel, by decide +kernel⟩
theorem mv_X12_tableOf : ik_MV yX12_tableOf := ⟨ik_in8 (List.mem_of_getElem? (i := 90) rfl), ik_inS (List.mem_of_getElem? (i := 87) (by decide +kernel))⟩
theorem ml_X12_442 : Cond.methodLink RX12 442 yX12_goesOnNames ∈ lw_tbl := ik_in8 (List.mem_of_getElem? (i := 92) rfl)
theorem mf_X12_goesOnNames : ik_MF yX12_goesOnNames cX12_goesOnNames 2 (some .boolean) 0 := ⟨ik_in8 (List.mem_of_getElem? (i := 95) rfl), ik_in1 (List.mem_of_getElem? (i := 14) rfl), by decide +kernel, by decide +kernel, by decide +kernel⟩
theorem mv_X12_goesOnNames : ik_MV yX12_goesOnNames := ⟨ik_in8 (List.mem_of_getElem? (i := 94) rfl), ik_inS (List.mem_of_getElem? (i := 88) (by decide +kernel))⟩
theorem ml_X12_447 : Cond.methodLink RX12 447 yX12_fills ∈ lw_tbl := ik_in8 (List.mem_of_getElem? (i := 80) rfl)
theorem mf_X12_fills : ik_MF yX12_fills cX12_fills 7 (none) 1 := ⟨ik_in8 (List.mem_of_getElem? (i := 83) rfl), ik_in1 (List.mem_of_getElem? (i := 14) rfl), by decide +kernel, by decide +kernel, by decide +kernel⟩
theorem mv_X12_fills : ik_MV yX12_fills := ⟨ik_in8 (List.mem_of_getElem? (i := 82) rfl), ik_inS (List.mem_of_getElem? (i := 85) (by decide +kernel))⟩
theorem fl_X12_429 : ik_FL RX12 429 12 67 := ⟨RX12, TX12, 77, tyX12, rfl, by decide, inX12, tyX12_ok, nmX12, rfl, ik_in6 (List.mem_of_getElem? (i := 115) rfl)⟩
theorem ml_X12_450 : Cond.methodLink RX12 450 yX12_mayOf ∈ lw_tbl := ik_in8 (List.mem_of_getElem? (i := 100) rfl)
theorem mf_X12_mayOf : ik_MF yX12_mayOf cX12_mayOf 4 (some .int) 1 := ⟨ik_in8 (List.mem_of_getElem? (i := 103) rfl), ik_in1 (List.mem_of_getElem? (i := 14) rfl), by decide +kernel, by decide +kernel, by decide +kernel⟩
theorem mv_X12_mayOf : ik_MV yX12_mayOf := ⟨ik_in8 (List.mem_of_getElem? (i := 102) rfl), ik_inS (List.mem_of_getElem? (i := 89) (by decide +kernel))⟩
theorem fl_X12_432 : ik_FL RX12 432 12 69 := ⟨RX12, TX12, 77, tyX12, rfl, by decide, inX12, tyX12_ok, nmX12, rfl, ik_in6 (List.mem_of_getElem? (i := 117) rfl)⟩
theorem kc_X12_453 : Cond.constantLong RX12 453 (24) ∈ lw_tbl := ik_in8 (List.mem_of_getElem? (i := 116) rfl)
theorem fl_X12_148 : ik_FL RX12 148 12 71 := ⟨RX12, TX12, 77, tyX12, rfl, by decide, inX12, tyX12_ok, nmX12, rfl, ik_in6 (List.mem_of_getElem? (i := 119) rfl)⟩
theorem ml_X12_455 : Cond.methodLink RX12 455 yX12_habits ∈ lw_tbl := ik_in8 (List.mem_of_getElem? (i := 117) rfl)
theorem mf_X12_habits : ik_MF yX12_habits cX12_habits 7 (none) 0 := ⟨ik_in8 (List.mem_of_getElem? (i := 120) rfl), ik_in1 (List.mem_of_getElem? (i := 14) rfl), by decide +kernel, by decide +kernel, by decide +kernel⟩
theorem mv_X12_habits : ik_MV yX12_habits := ⟨ik_in8 (List.mem_of_getElem? (i := 119) rfl), ik_inS (List.mem_of_getElem? (i := 90) (by decide +kernel))⟩
theorem ml_X12_458 : Cond.methodLink RX12 458 yX12_haveAll ∈ lw_tbl := ik_in8 (List.mem_of_getElem? (i := 121) rfl)
theorem mf_X12_haveAll : ik_MF yX12_haveAll cX12_haveAll 6 (some .boolean) 2 := ⟨ik_in8 (List.mem_of_getElem? (i := 124) rfl), ik_in1 (List.mem_of_getElem? (i := 14) rfl), by decide +kernel, by decide +kernel, by decide +kernel⟩
theorem mv_X12_haveAll : ik_MV yX12_haveAll := ⟨ik_in8 (List.mem_of_getElem? (i := 123) rfl), ik_inS (List.mem_of_getElem? (i := 91) (by decide +kernel))⟩
theorem kc_X12_467 : Cond.constantLong RX12 467 (1000) ∈ lw_tbl := ik_in8 (List.mem_of_getElem? (i := 129) rfl)
theorem fw_X12_461 : ik_FW RX12 461 12 68 0 := ⟨RX12, TX12, 77, tyX12, rfl, by decide, inX12, tyX12_ok, nmX12, rfl, ik_in6 (List.mem_of_getElem? (i := 116) rfl), rfl, rfl⟩
theorem ml_X12_464 : Cond.methodLink RX12 464 yX12_sizeOf ∈ lw_tbl := ik_in8 (List.mem_of_getElem? (i := 134) rfl)
theorem mf_X12_sizeOf : ik_MF yX12_sizeOf cX12_sizeOf 3 (some .int) 1 := ⟨ik_in8 (List.mem_of_getElem? (i := 136) rfl), ik_in1 (List.mem_of_getElem? (i := 14) rfl), by decide +kernel, by decide +kernel, by decide +kernel⟩
theorem ms_X12_sizeOf : Cond.static yX12_sizeOf ∈ lw_tbl := ik_in8 (List.mem_of_getElem? (i := 135) rfl)
theorem ml_X12_469 : Cond.methodLink RX12 469 yX12_says ∈ lw_tbl := ik_in8 (List.mem_of_getElem? (i := 130) rfl)
theorem mf_X12_says : ik_MF yX12_says cX12_says 8 (some .int) 2 := ⟨ik_in8 (List.mem_of_getElem? (i := 133) rfl), ik_in1 (List.mem_of_getElem? (i := 14) rfl), by decide +kernel, by decide +kernel, by decide +kernel⟩
theorem mv_X12_says : ik_MV yX12_says := ⟨ik_in8 (List.mem_of_getElem? (i := 132) rfl), ik_inS (List.mem_of_getElem? (i := 92) (by decide +kernel))⟩
theorem fl_X12_461 : ik_FL RX12 461 12 68 := ⟨RX12, TX12, 77, tyX12, rfl, by decide, inX12, tyX12_ok, nmX12, rfl, ik_in6 (List.mem_of_getElem? (i := 116) rfl)⟩
theorem fl_X12_474 : ik_FL RX12 474 12 9 := ⟨RX12, TX12, 77, tyX12, rfl, by decide, inX12, tyX12_ok, nmX12, rfl, ik_in6 (List.mem_of_getElem? (i := 57) rfl)⟩
theorem kc_X12_472 : Cond.constantLong RX12 472 (9999) ∈ lw_tbl := ik_in8 (List.mem_of_getElem? (i := 144) rfl)
theorem ml_X12_477 : Cond.methodLink RX12 477 yX12_isDay ∈ lw_tbl := ik_in8 (List.mem_of_getElem? (i := 141) rfl)
theorem mf_X12_isDay : ik_MF yX12_isDay cX12_isDay 1 (some .boolean) 1 := ⟨ik_in8 (List.mem_of_getElem? (i := 143) rfl), ik_in1 (List.mem_of_getElem? (i := 14) rfl), by decide +kernel, by decide +kernel, by decide +kernel⟩
theorem ms_X12_isDay : Cond.static yX12_isDay ∈ lw_tbl := ik_in8 (List.mem_of_getElem? (i := 142) rfl)
theorem fl_X12_151 : ik_FL RX12 151 12 72 := ⟨RX12, TX12, 77, tyX12, rfl, by decide, inX12, tyX12_ok, nmX12, rfl, ik_in6 (List.mem_of_getElem? (i := 120) rfl)⟩
theorem fl_X12_154 : ik_FL RX12 154 12 73 := ⟨RX12, TX12, 77, tyX12, rfl, by decide, inX12, tyX12_ok, nmX12, rfl, ik_in6 (List.mem_of_getElem? (i := 121) rfl)⟩
theorem fl_X12_157 : ik_FL RX12 157 12 74 := ⟨RX12, TX12, 77, tyX12, rfl, by decide, inX12, tyX12_ok, nmX12, rfl, ik_in6 (List.mem_of_getElem? (i := 122) rfl)⟩
theorem fl_X12_160 : ik_FL RX12 160 12 75 := ⟨RX12, TX12, 77, tyX12, rfl, by decide, inX12, tyX12_ok, nmX12, rfl, ik_in6 (List.mem_of_getElem? (i := 123) rfl)⟩
theorem fw_X12_474 : ik_FW RX12 474 12 9 0 := ⟨RX12, TX12, 77, tyX12, rfl, by decide, inX12, tyX12_ok, nmX12, rfl, ik_in6 (List.mem_of_getElem? (i := 57) rfl), rfl, rfl⟩
theorem ml_X12_480 : Cond.methodLink RX12 480 yX12_openOf ∈ lw_tbl := ik_in8 (List.mem_of_getElem? (i := 149) rfl)
theorem mf_X12_openOf : ik_MF yX12_openOf cX12_openOf 5 (some .int) 2 := ⟨ik_in8 (List.mem_of_getElem? (i := 152) rfl), ik_in1 (List.mem_of_getElem? (i := 14) rfl), by decide +kernel, by decide +kernel, by decide +kernel⟩
theorem mv_X12_openOf : ik_MV yX12_openOf := ⟨ik_in8 (List.mem_of_getElem? (i := 151) rfl), ik_inS (List.mem_of_getElem? (i := 93) (by decide +kernel))⟩
theorem ml_X12_483 : Cond.methodLink RX12 483 yX12_isCopy ∈ lw_tbl := ik_in8 (List.mem_of_getElem? (i := 157) rfl)
theorem mf_X12_isCopy : ik_MF yX12_isCopy cX12_isCopy 2 (some .boolean) 1 := ⟨ik_in8 (List.mem_of_getElem? (i := 160) rfl), ik_in1 (List.mem_of_getElem? (i := 14) rfl), by decide +kernel, by decide +kernel, by decide +kernel⟩
theorem mv_X12_isCopy : ik_MV yX12_isCopy := ⟨ik_in8 (List.mem_of_getElem? (i := 159) rfl), ik_inS (List.mem_of_getElem? (i := 94) (by decide +kernel))⟩
theorem ml_X12_486 : Cond.methodLink RX12 486 yX12_hasCopy ∈ lw_tbl := ik_in8 (List.mem_of_getElem? (i := 173) rfl)
theorem mf_X12_hasCopy : ik_MF yX12_hasCopy cX12_hasCopy 4 (some .boolean) 2 := ⟨ik_in8 (List.mem_of_getElem? (i := 176) rfl), ik_in1 (List.mem_of_getElem? (i := 14) rfl), by decide +kernel, by decide +kernel, by decide +kernel⟩
theorem mv_X12_hasCopy : ik_MV yX12_hasCopy := ⟨ik_in8 (List.mem_of_getElem? (i := 175) rfl), ik_inS (List.mem_of_getElem? (i := 95) (by decide +kernel))⟩
theorem ml_X12_489 : Cond.methodLink RX12 489 yX12_coversOf ∈ lw_tbl := ik_in8 (List.mem_of_getElem? (i := 177) rfl)
theorem mf_X12_coversOf : ik_MF yX12_coversOf cX12_coversOf 5 (some .int) 2 := ⟨ik_in8 (List.mem_of_getElem? (i := 180) rfl), ik_in1 (List.mem_of_getElem? (i := 14) rfl), by decide +kernel, by decide +kernel, by decide +kernel⟩
theorem mv_X12_coversOf : ik_MV yX12_coversOf := ⟨ik_in8 (List.mem_of_getElem? (i := 179) rfl), ik_inS (List.mem_of_getElem? (i := 96) (by decide +kernel))⟩
theorem kc_X12_492 : Cond.constantLong RX12 492 (40) ∈ lw_tbl := ik_in8 (List.mem_of_getElem? (i := 185) rfl)
theorem fl_X12_163 : ik_FL RX12 163 12 76 := ⟨RX12, TX12, 77, tyX12, rfl, by decide, inX12, tyX12_ok, nmX12, rfl, ik_in6 (List.mem_of_getElem? (i := 124) rfl)⟩
theorem fw_X12_494 : ik_FW RX12 494 12 10 0 := ⟨RX12, TX12, 77, tyX12, rfl, by decide, inX12, tyX12_ok, nmX12, rfl, ik_in6 (List.mem_of_getElem? (i := 58) rfl), rfl, rfl⟩
theorem ml_X12_497 : Cond.methodLink RX12 497 yX12_numberAt ∈ lw_tbl := ik_in8 (List.mem_of_getElem? (i := 194) rfl)
theorem mf_X12_numberAt : ik_MF yX12_numberAt cX12_numberAt 4 (some .int) 1 := ⟨ik_in8 (List.mem_of_getElem? (i := 197) rfl), ik_in1 (List.mem_of_getElem? (i := 14) rfl), by decide +kernel, by decide +kernel, by decide +kernel⟩
theorem mv_X12_numberAt : ik_MV yX12_numberAt := ⟨ik_in8 (List.mem_of_getElem? (i := 196) rfl), ik_inS (List.mem_of_getElem? (i := 97) (by decide +kernel))⟩
theorem kc_X12_500 : Cond.constantLong RX12 500 (30) ∈ lw_tbl := ik_in8 (List.mem_of_getElem? (i := 202) rfl)
theorem ml_X12_502 : Cond.methodLink RX12 502 yX12_linesOf ∈ lw_tbl := ik_in8 (List.mem_of_getElem? (i := 203) rfl)
theorem mf_X12_linesOf : ik_MF yX12_linesOf cX12_linesOf 4 (some .int) 1 := ⟨ik_in8 (List.mem_of_getElem? (i := 206) rfl), ik_in1 (List.mem_of_getElem? (i := 14) rfl), by decide +kernel, by decide +kernel, by decide +kernel⟩
theorem mv_X12_linesOf : ik_MV yX12_linesOf := ⟨ik_in8 (List.mem_of_getElem? (i := 205) rfl), ik_inS (List.mem_of_getElem? (i := 98) (by decide +kernel))⟩
theorem fl_X12_494 : ik_FL RX12 494 12 10 := ⟨RX12, TX12, 77, tyX12, rfl, by decide, inX12, tyX12_ok, nmX12, rfl, ik_in6 (List.mem_of_getElem? (i := 58) rfl)⟩
end
