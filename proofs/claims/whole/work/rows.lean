section
-- ===== PART A: goes FIRST, ahead of the names: the tables' words, and 'selects' of the private methods out of them =====
/-- a private method of a class that the tables say can be made, by its rows of tables_1 -/
def lw_okq (q : MethodName × Nat) : Prop := (q.1.cls ≠ "java/lang/invoke/MethodHandle" ∧ q.1.cls ≠ "java/lang/invoke/VarHandle") ∧ Cond.instantiable q.1.cls q.2 ∈ tables_1 ∧ Cond.privateMethod q.1 ∈ tables_1 ∧ Cond.instanceMethod q.1 ∈ tables_1
theorem lw_p0 : lw_okq (⟨"StyleFamilies$Sheet", "redundantIn", "(LStyleFamilies$Rows;Z)I"⟩, 4) := ⟨⟨by decide +kernel, by decide +kernel⟩, List.mem_of_getElem? (i := 25) (by decide +kernel), List.mem_of_getElem? (i := 282) (by decide +kernel), List.mem_of_getElem? (i := 283) (by decide +kernel)⟩
theorem lw_p1 : lw_okq (⟨"StyleFamilies", "gatheredLooks", "()LStyleFamilies$Looks;"⟩, 8) := ⟨⟨by decide +kernel, by decide +kernel⟩, List.mem_of_getElem? (i := 17) (by decide +kernel), List.mem_of_getElem? (i := 295) (by decide +kernel), List.mem_of_getElem? (i := 296) (by decide +kernel)⟩
theorem lw_p2 : lw_okq (⟨"StyleFamilies$Looks", "enter", "(I)V"⟩, 3) := ⟨⟨by decide +kernel, by decide +kernel⟩, List.mem_of_getElem? (i := 120) (by decide +kernel), List.mem_of_getElem? (i := 316) (by decide +kernel), List.mem_of_getElem? (i := 317) (by decide +kernel)⟩
theorem lw_p3 : lw_okq (⟨"StyleFamilies", "costWithBestParents", "()I"⟩, 8) := ⟨⟨by decide +kernel, by decide +kernel⟩, List.mem_of_getElem? (i := 17) (by decide +kernel), List.mem_of_getElem? (i := 327) (by decide +kernel), List.mem_of_getElem? (i := 328) (by decide +kernel)⟩
theorem lw_p4 : lw_okq (⟨"StyleFamilies", "layForestOfStyles", "()V"⟩, 8) := ⟨⟨by decide +kernel, by decide +kernel⟩, List.mem_of_getElem? (i := 17) (by decide +kernel), List.mem_of_getElem? (i := 331) (by decide +kernel), List.mem_of_getElem? (i := 332) (by decide +kernel)⟩
theorem lw_p5 : lw_okq (⟨"StyleFamilies$Forest", "addUp", "()V"⟩, 6) := ⟨⟨by decide +kernel, by decide +kernel⟩, List.mem_of_getElem? (i := 143) (by decide +kernel), List.mem_of_getElem? (i := 365) (by decide +kernel), List.mem_of_getElem? (i := 366) (by decide +kernel)⟩
theorem lw_p6 : lw_okq (⟨"StyleFamilies", "foundBestStyles", "()LStyleFamilies$BestStyles;"⟩, 8) := ⟨⟨by decide +kernel, by decide +kernel⟩, List.mem_of_getElem? (i := 17) (by decide +kernel), List.mem_of_getElem? (i := 375) (by decide +kernel), List.mem_of_getElem? (i := 376) (by decide +kernel)⟩
theorem lw_p7 : lw_okq (⟨"StyleFamilies$BestStyles", "paragraphCosts", "(LStyleFamilies$Looks;I)I"⟩, 3) := ⟨⟨by decide +kernel, by decide +kernel⟩, List.mem_of_getElem? (i := 186) (by decide +kernel), List.mem_of_getElem? (i := 391) (by decide +kernel), List.mem_of_getElem? (i := 392) (by decide +kernel)⟩
theorem lw_p8 : lw_okq (⟨"StyleFamilies$BestStyles", "compare", "(II)V"⟩, 3) := ⟨⟨by decide +kernel, by decide +kernel⟩, List.mem_of_getElem? (i := 186) (by decide +kernel), List.mem_of_getElem? (i := 405) (by decide +kernel), List.mem_of_getElem? (i := 406) (by decide +kernel)⟩
theorem lw_p9 : lw_okq (⟨"StyleFamilies", "costWithNearestStyle", "(I)I"⟩, 8) := ⟨⟨by decide +kernel, by decide +kernel⟩, List.mem_of_getElem? (i := 17) (by decide +kernel), List.mem_of_getElem? (i := 462) (by decide +kernel), List.mem_of_getElem? (i := 463) (by decide +kernel)⟩
theorem lw_p10 : lw_okq (⟨"StyleFamilies", "bestParentOf", "(I)I"⟩, 8) := ⟨⟨by decide +kernel, by decide +kernel⟩, List.mem_of_getElem? (i := 17) (by decide +kernel), List.mem_of_getElem? (i := 483) (by decide +kernel), List.mem_of_getElem? (i := 484) (by decide +kernel)⟩
theorem lw_p11 : lw_okq (⟨"StyleFamilies$Forest", "firstParent", "(II)I"⟩, 6) := ⟨⟨by decide +kernel, by decide +kernel⟩, List.mem_of_getElem? (i := 143) (by decide +kernel), List.mem_of_getElem? (i := 492) (by decide +kernel), List.mem_of_getElem? (i := 493) (by decide +kernel)⟩
theorem lw_p12 : lw_okq (⟨"StyleFamilies$Forest", "costWithParent", "(II)I"⟩, 6) := ⟨⟨by decide +kernel, by decide +kernel⟩, List.mem_of_getElem? (i := 143) (by decide +kernel), List.mem_of_getElem? (i := 496) (by decide +kernel), List.mem_of_getElem? (i := 497) (by decide +kernel)⟩
theorem lw_p13 : lw_okq (⟨"StyleFamilies", "isStyleOrNone", "(I)Z"⟩, 8) := ⟨⟨by decide +kernel, by decide +kernel⟩, List.mem_of_getElem? (i := 17) (by decide +kernel), List.mem_of_getElem? (i := 510) (by decide +kernel), List.mem_of_getElem? (i := 511) (by decide +kernel)⟩
theorem lw_p14 : lw_okq (⟨"StyleFamilies", "give", "(LStyleFamilies$Rows;III)I"⟩, 8) := ⟨⟨by decide +kernel, by decide +kernel⟩, List.mem_of_getElem? (i := 17) (by decide +kernel), List.mem_of_getElem? (i := 566) (by decide +kernel), List.mem_of_getElem? (i := 567) (by decide +kernel)⟩
theorem lw_p15 : lw_okq (⟨"StyleFamilies", "errorOfParent", "(II)I"⟩, 8) := ⟨⟨by decide +kernel, by decide +kernel⟩, List.mem_of_getElem? (i := 17) (by decide +kernel), List.mem_of_getElem? (i := 600) (by decide +kernel), List.mem_of_getElem? (i := 601) (by decide +kernel)⟩
def lw_privs_1 : List (MethodName × Nat) := [(⟨"StyleFamilies$Sheet", "redundantIn", "(LStyleFamilies$Rows;Z)I"⟩, 4), (⟨"StyleFamilies", "gatheredLooks", "()LStyleFamilies$Looks;"⟩, 8), (⟨"StyleFamilies$Looks", "enter", "(I)V"⟩, 3), (⟨"StyleFamilies", "costWithBestParents", "()I"⟩, 8), (⟨"StyleFamilies", "layForestOfStyles", "()V"⟩, 8), (⟨"StyleFamilies$Forest", "addUp", "()V"⟩, 6), (⟨"StyleFamilies", "foundBestStyles", "()LStyleFamilies$BestStyles;"⟩, 8), (⟨"StyleFamilies$BestStyles", "paragraphCosts", "(LStyleFamilies$Looks;I)I"⟩, 3), (⟨"StyleFamilies$BestStyles", "compare", "(II)V"⟩, 3), (⟨"StyleFamilies", "costWithNearestStyle", "(I)I"⟩, 8), (⟨"StyleFamilies", "bestParentOf", "(I)I"⟩, 8), (⟨"StyleFamilies$Forest", "firstParent", "(II)I"⟩, 6), (⟨"StyleFamilies$Forest", "costWithParent", "(II)I"⟩, 6), (⟨"StyleFamilies", "isStyleOrNone", "(I)Z"⟩, 8), (⟨"StyleFamilies", "give", "(LStyleFamilies$Rows;III)I"⟩, 8), (⟨"StyleFamilies", "errorOfParent", "(II)I"⟩, 8)]
theorem lw_r1 : ∀ q ∈ lw_privs_1, lw_okq q := List.forall_mem_cons.mpr ⟨lw_p0, List.forall_mem_cons.mpr ⟨lw_p1, List.forall_mem_cons.mpr ⟨lw_p2, List.forall_mem_cons.mpr ⟨lw_p3, List.forall_mem_cons.mpr ⟨lw_p4, List.forall_mem_cons.mpr ⟨lw_p5, List.forall_mem_cons.mpr ⟨lw_p6, List.forall_mem_cons.mpr ⟨lw_p7, List.forall_mem_cons.mpr ⟨lw_p8, List.forall_mem_cons.mpr ⟨lw_p9, List.forall_mem_cons.mpr ⟨lw_p10, List.forall_mem_cons.mpr ⟨lw_p11, List.forall_mem_cons.mpr ⟨lw_p12, List.forall_mem_cons.mpr ⟨lw_p13, List.forall_mem_cons.mpr ⟨lw_p14, List.forall_mem_cons.mpr ⟨lw_p15, fun _ h => absurd h List.not_mem_nil⟩⟩⟩⟩⟩⟩⟩⟩⟩⟩⟩⟩⟩⟩⟩⟩
theorem lw_p16 : lw_okq (⟨"StyleFamilies", "giveAtRandom", "(I)V"⟩, 8) := ⟨⟨by decide +kernel, by decide +kernel⟩, List.mem_of_getElem? (i := 17) (by decide +kernel), List.mem_of_getElem? (i := 695) (by decide +kernel), List.mem_of_getElem? (i := 696) (by decide +kernel)⟩
theorem lw_p17 : lw_okq (⟨"StyleFamilies", "draw", "(I)I"⟩, 8) := ⟨⟨by decide +kernel, by decide +kernel⟩, List.mem_of_getElem? (i := 17) (by decide +kernel), List.mem_of_getElem? (i := 699) (by decide +kernel), List.mem_of_getElem? (i := 700) (by decide +kernel)⟩
theorem lw_p18 : lw_okq (⟨"StyleFamiliesModel", "cost", "()I"⟩, 18) := ⟨⟨by decide +kernel, by decide +kernel⟩, List.mem_of_getElem? (i := 753) (by decide +kernel), List.mem_of_getElem? (i := 818) (by decide +kernel), List.mem_of_getElem? (i := 819) (by decide +kernel)⟩
theorem lw_p19 : lw_okq (⟨"StyleFamiliesModel", "styleCost", "(I)I"⟩, 18) := ⟨⟨by decide +kernel, by decide +kernel⟩, List.mem_of_getElem? (i := 753) (by decide +kernel), List.mem_of_getElem? (i := 822) (by decide +kernel), List.mem_of_getElem? (i := 823) (by decide +kernel)⟩
theorem lw_p20 : lw_okq (⟨"StyleFamiliesModel", "bitsAt", "(I)I"⟩, 18) := ⟨⟨by decide +kernel, by decide +kernel⟩, List.mem_of_getElem? (i := 753) (by decide +kernel), List.mem_of_getElem? (i := 829) (by decide +kernel), List.mem_of_getElem? (i := 830) (by decide +kernel)⟩
theorem lw_p21 : lw_okq (⟨"StyleFamiliesModel", "paragraphCost", "(I)I"⟩, 18) := ⟨⟨by decide +kernel, by decide +kernel⟩, List.mem_of_getElem? (i := 753) (by decide +kernel), List.mem_of_getElem? (i := 836) (by decide +kernel), List.mem_of_getElem? (i := 837) (by decide +kernel)⟩
theorem lw_p22 : lw_okq (⟨"StyleFamiliesModel", "needless", "()I"⟩, 18) := ⟨⟨by decide +kernel, by decide +kernel⟩, List.mem_of_getElem? (i := 753) (by decide +kernel), List.mem_of_getElem? (i := 843) (by decide +kernel), List.mem_of_getElem? (i := 844) (by decide +kernel)⟩
theorem lw_p23 : lw_okq (⟨"StyleFamiliesModel", "isNeedlessOfStyle", "(II)Z"⟩, 18) := ⟨⟨by decide +kernel, by decide +kernel⟩, List.mem_of_getElem? (i := 753) (by decide +kernel), List.mem_of_getElem? (i := 847) (by decide +kernel), List.mem_of_getElem? (i := 848) (by decide +kernel)⟩
theorem lw_p24 : lw_okq (⟨"StyleFamiliesModel", "ofStyle", "(II)I"⟩, 18) := ⟨⟨by decide +kernel, by decide +kernel⟩, List.mem_of_getElem? (i := 753) (by decide +kernel), List.mem_of_getElem? (i := 851) (by decide +kernel), List.mem_of_getElem? (i := 852) (by decide +kernel)⟩
theorem lw_p25 : lw_okq (⟨"StyleFamiliesModel", "setter", "(II)I"⟩, 18) := ⟨⟨by decide +kernel, by decide +kernel⟩, List.mem_of_getElem? (i := 753) (by decide +kernel), List.mem_of_getElem? (i := 855) (by decide +kernel), List.mem_of_getElem? (i := 856) (by decide +kernel)⟩
theorem lw_p26 : lw_okq (⟨"StyleFamiliesModel", "isNeedlessOfParagraph", "(II)Z"⟩, 18) := ⟨⟨by decide +kernel, by decide +kernel⟩, List.mem_of_getElem? (i := 753) (by decide +kernel), List.mem_of_getElem? (i := 859) (by decide +kernel), List.mem_of_getElem? (i := 860) (by decide +kernel)⟩
theorem lw_p27 : lw_okq (⟨"StyleFamiliesModel", "looks", "()I"⟩, 18) := ⟨⟨by decide +kernel, by decide +kernel⟩, List.mem_of_getElem? (i := 753) (by decide +kernel), List.mem_of_getElem? (i := 863) (by decide +kernel), List.mem_of_getElem? (i := 864) (by decide +kernel)⟩
theorem lw_p28 : lw_okq (⟨"StyleFamiliesModel", "layLooks", "()V"⟩, 18) := ⟨⟨by decide +kernel, by decide +kernel⟩, List.mem_of_getElem? (i := 753) (by decide +kernel), List.mem_of_getElem? (i := 867) (by decide +kernel), List.mem_of_getElem? (i := 868) (by decide +kernel)⟩
theorem lw_p29 : lw_okq (⟨"StyleFamiliesModel", "layParagraphLooks", "()V"⟩, 18) := ⟨⟨by decide +kernel, by decide +kernel⟩, List.mem_of_getElem? (i := 753) (by decide +kernel), List.mem_of_getElem? (i := 871) (by decide +kernel), List.mem_of_getElem? (i := 872) (by decide +kernel)⟩
theorem lw_p30 : lw_okq (⟨"StyleFamiliesModel", "ofParagraph", "(II)I"⟩, 18) := ⟨⟨by decide +kernel, by decide +kernel⟩, List.mem_of_getElem? (i := 753) (by decide +kernel), List.mem_of_getElem? (i := 875) (by decide +kernel), List.mem_of_getElem? (i := 876) (by decide +kernel)⟩
theorem lw_p31 : lw_okq (⟨"StyleFamiliesModel", "knitCost", "()I"⟩, 18) := ⟨⟨by decide +kernel, by decide +kernel⟩, List.mem_of_getElem? (i := 753) (by decide +kernel), List.mem_of_getElem? (i := 882) (by decide +kernel), List.mem_of_getElem? (i := 883) (by decide +kernel)⟩
def lw_privs_2 : List (MethodName × Nat) := [(⟨"StyleFamilies", "giveAtRandom", "(I)V"⟩, 8), (⟨"StyleFamilies", "draw", "(I)I"⟩, 8), (⟨"StyleFamiliesModel", "cost", "()I"⟩, 18), (⟨"StyleFamiliesModel", "styleCost", "(I)I"⟩, 18), (⟨"StyleFamiliesModel", "bitsAt", "(I)I"⟩, 18), (⟨"StyleFamiliesModel", "paragraphCost", "(I)I"⟩, 18), (⟨"StyleFamiliesModel", "needless", "()I"⟩, 18), (⟨"StyleFamiliesModel", "isNeedlessOfStyle", "(II)Z"⟩, 18), (⟨"StyleFamiliesModel", "ofStyle", "(II)I"⟩, 18), (⟨"StyleFamiliesModel", "setter", "(II)I"⟩, 18), (⟨"StyleFamiliesModel", "isNeedlessOfParagraph", "(II)Z"⟩, 18), (⟨"StyleFamiliesModel", "looks", "()I"⟩, 18), (⟨"StyleFamiliesModel", "layLooks", "()V"⟩, 18), (⟨"StyleFamiliesModel", "layParagraphLooks", "()V"⟩, 18), (⟨"StyleFamiliesModel", "ofParagraph", "(II)I"⟩, 18), (⟨"StyleFamiliesModel", "knitCost", "()I"⟩, 18)]
theorem lw_r2 : ∀ q ∈ lw_privs_2, lw_okq q := List.forall_mem_cons.mpr ⟨lw_p16, List.forall_mem_cons.mpr ⟨lw_p17, List.forall_mem_cons.mpr ⟨lw_p18, List.forall_mem_cons.mpr ⟨lw_p19, List.forall_mem_cons.mpr ⟨lw_p20, List.forall_mem_cons.mpr ⟨lw_p21, List.forall_mem_cons.mpr ⟨lw_p22, List.forall_mem_cons.mpr ⟨lw_p23, List.forall_mem_cons.mpr ⟨lw_p24, List.forall_mem_cons.mpr ⟨lw_p25, List.forall_mem_cons.mpr ⟨lw_p26, List.forall_mem_cons.mpr ⟨lw_p27, List.forall_mem_cons.mpr ⟨lw_p28, List.forall_mem_cons.mpr ⟨lw_p29, List.forall_mem_cons.mpr ⟨lw_p30, List.forall_mem_cons.mpr ⟨lw_p31, fun _ h => absurd h List.not_mem_nil⟩⟩⟩⟩⟩⟩⟩⟩⟩⟩⟩⟩⟩⟩⟩⟩
theorem lw_p32 : lw_okq (⟨"StyleFamiliesModel", "layStyleLooks", "()V"⟩, 18) := ⟨⟨by decide +kernel, by decide +kernel⟩, List.mem_of_getElem? (i := 753) (by decide +kernel), List.mem_of_getElem? (i := 886) (by decide +kernel), List.mem_of_getElem? (i := 887) (by decide +kernel)⟩
theorem lw_p33 : lw_okq (⟨"StyleFamiliesModel", "layLinks", "([II)V"⟩, 18) := ⟨⟨by decide +kernel, by decide +kernel⟩, List.mem_of_getElem? (i := 753) (by decide +kernel), List.mem_of_getElem? (i := 890) (by decide +kernel), List.mem_of_getElem? (i := 891) (by decide +kernel)⟩
theorem lw_p34 : lw_okq (⟨"StyleFamiliesModel", "bitsApart", "([II[II)I"⟩, 18) := ⟨⟨by decide +kernel, by decide +kernel⟩, List.mem_of_getElem? (i := 753) (by decide +kernel), List.mem_of_getElem? (i := 894) (by decide +kernel), List.mem_of_getElem? (i := 895) (by decide +kernel)⟩
theorem lw_p35 : lw_okq (⟨"StyleFamiliesModel", "grown", "(I)I"⟩, 18) := ⟨⟨by decide +kernel, by decide +kernel⟩, List.mem_of_getElem? (i := 753) (by decide +kernel), List.mem_of_getElem? (i := 898) (by decide +kernel), List.mem_of_getElem? (i := 899) (by decide +kernel)⟩
theorem lw_p36 : lw_okq (⟨"StyleFamiliesModel", "putBehind", "(III)I"⟩, 18) := ⟨⟨by decide +kernel, by decide +kernel⟩, List.mem_of_getElem? (i := 753) (by decide +kernel), List.mem_of_getElem? (i := 903) (by decide +kernel), List.mem_of_getElem? (i := 904) (by decide +kernel)⟩
theorem lw_p37 : lw_okq (⟨"StyleFamiliesModel", "byFamily", "(Z)I"⟩, 18) := ⟨⟨by decide +kernel, by decide +kernel⟩, List.mem_of_getElem? (i := 753) (by decide +kernel), List.mem_of_getElem? (i := 907) (by decide +kernel), List.mem_of_getElem? (i := 908) (by decide +kernel)⟩
theorem lw_p38 : lw_okq (⟨"StyleFamiliesModel", "layFamily", "()V"⟩, 18) := ⟨⟨by decide +kernel, by decide +kernel⟩, List.mem_of_getElem? (i := 753) (by decide +kernel), List.mem_of_getElem? (i := 911) (by decide +kernel), List.mem_of_getElem? (i := 912) (by decide +kernel)⟩
theorem lw_p39 : lw_okq (⟨"StyleFamiliesModel", "numberOf", "(I)I"⟩, 18) := ⟨⟨by decide +kernel, by decide +kernel⟩, List.mem_of_getElem? (i := 753) (by decide +kernel), List.mem_of_getElem? (i := 918) (by decide +kernel), List.mem_of_getElem? (i := 919) (by decide +kernel)⟩
theorem lw_p40 : lw_okq (⟨"StyleFamiliesModel", "cheapest", "(II)I"⟩, 18) := ⟨⟨by decide +kernel, by decide +kernel⟩, List.mem_of_getElem? (i := 753) (by decide +kernel), List.mem_of_getElem? (i := 922) (by decide +kernel), List.mem_of_getElem? (i := 923) (by decide +kernel)⟩
theorem lw_p41 : lw_okq (⟨"StyleFamiliesModel", "idle", "()I"⟩, 18) := ⟨⟨by decide +kernel, by decide +kernel⟩, List.mem_of_getElem? (i := 753) (by decide +kernel), List.mem_of_getElem? (i := 926) (by decide +kernel), List.mem_of_getElem? (i := 927) (by decide +kernel)⟩
theorem lw_p42 : lw_okq (⟨"StyleFamiliesModel", "wrongEntry", "()I"⟩, 18) := ⟨⟨by decide +kernel, by decide +kernel⟩, List.mem_of_getElem? (i := 753) (by decide +kernel), List.mem_of_getElem? (i := 930) (by decide +kernel), List.mem_of_getElem? (i := 931) (by decide +kernel)⟩
theorem lw_p43 : lw_okq (⟨"StyleFamiliesModel", "isParagraph", "(I)Z"⟩, 18) := ⟨⟨by decide +kernel, by decide +kernel⟩, List.mem_of_getElem? (i := 753) (by decide +kernel), List.mem_of_getElem? (i := 934) (by decide +kernel), List.mem_of_getElem? (i := 935) (by decide +kernel)⟩
theorem lw_p44 : lw_okq (⟨"StyleFamiliesModel", "layAll", "()V"⟩, 18) := ⟨⟨by decide +kernel, by decide +kernel⟩, List.mem_of_getElem? (i := 753) (by decide +kernel), List.mem_of_getElem? (i := 958) (by decide +kernel), List.mem_of_getElem? (i := 959) (by decide +kernel)⟩
theorem lw_p45 : lw_okq (⟨"StyleFamiliesModel", "nearest", "(I)I"⟩, 18) := ⟨⟨by decide +kernel, by decide +kernel⟩, List.mem_of_getElem? (i := 753) (by decide +kernel), List.mem_of_getElem? (i := 962) (by decide +kernel), List.mem_of_getElem? (i := 963) (by decide +kernel)⟩
theorem lw_p46 : lw_okq (⟨"StyleFamiliesModel", "costBy", "(II)I"⟩, 18) := ⟨⟨by decide +kernel, by decide +kernel⟩, List.mem_of_getElem? (i := 753) (by decide +kernel), List.mem_of_getElem? (i := 966) (by decide +kernel), List.mem_of_getElem? (i := 967) (by decide +kernel)⟩
theorem lw_p47 : lw_okq (⟨"StyleFamiliesModel", "lookNumber", "(I)I"⟩, 18) := ⟨⟨by decide +kernel, by decide +kernel⟩, List.mem_of_getElem? (i := 753) (by decide +kernel), List.mem_of_getElem? (i := 970) (by decide +kernel), List.mem_of_getElem? (i := 971) (by decide +kernel)⟩
def lw_privs_3 : List (MethodName × Nat) := [(⟨"StyleFamiliesModel", "layStyleLooks", "()V"⟩, 18), (⟨"StyleFamiliesModel", "layLinks", "([II)V"⟩, 18), (⟨"StyleFamiliesModel", "bitsApart", "([II[II)I"⟩, 18), (⟨"StyleFamiliesModel", "grown", "(I)I"⟩, 18), (⟨"StyleFamiliesModel", "putBehind", "(III)I"⟩, 18), (⟨"StyleFamiliesModel", "byFamily", "(Z)I"⟩, 18), (⟨"StyleFamiliesModel", "layFamily", "()V"⟩, 18), (⟨"StyleFamiliesModel", "numberOf", "(I)I"⟩, 18), (⟨"StyleFamiliesModel", "cheapest", "(II)I"⟩, 18), (⟨"StyleFamiliesModel", "idle", "()I"⟩, 18), (⟨"StyleFamiliesModel", "wrongEntry", "()I"⟩, 18), (⟨"StyleFamiliesModel", "isParagraph", "(I)Z"⟩, 18), (⟨"StyleFamiliesModel", "layAll", "()V"⟩, 18), (⟨"StyleFamiliesModel", "nearest", "(I)I"⟩, 18), (⟨"StyleFamiliesModel", "costBy", "(II)I"⟩, 18), (⟨"StyleFamiliesModel", "lookNumber", "(I)I"⟩, 18)]
theorem lw_r3 : ∀ q ∈ lw_privs_3, lw_okq q := List.forall_mem_cons.mpr ⟨lw_p32, List.forall_mem_cons.mpr ⟨lw_p33, List.forall_mem_cons.mpr ⟨lw_p34, List.forall_mem_cons.mpr ⟨lw_p35, List.forall_mem_cons.mpr ⟨lw_p36, List.forall_mem_cons.mpr ⟨lw_p37, List.forall_mem_cons.mpr ⟨lw_p38, List.forall_mem_cons.mpr ⟨lw_p39, List.forall_mem_cons.mpr ⟨lw_p40, List.forall_mem_cons.mpr ⟨lw_p41, List.forall_mem_cons.mpr ⟨lw_p42, List.forall_mem_cons.mpr ⟨lw_p43, List.forall_mem_cons.mpr ⟨lw_p44, List.forall_mem_cons.mpr ⟨lw_p45, List.forall_mem_cons.mpr ⟨lw_p46, List.forall_mem_cons.mpr ⟨lw_p47, fun _ h => absurd h List.not_mem_nil⟩⟩⟩⟩⟩⟩⟩⟩⟩⟩⟩⟩⟩⟩⟩⟩
theorem lw_p48 : lw_okq (⟨"StyleFamiliesModel", "toldAt", "(I)I"⟩, 18) := ⟨⟨by decide +kernel, by decide +kernel⟩, List.mem_of_getElem? (i := 753) (by decide +kernel), List.mem_of_getElem? (i := 974) (by decide +kernel), List.mem_of_getElem? (i := 975) (by decide +kernel)⟩
theorem lw_p49 : lw_okq (⟨"StyleFamiliesModel", "isStyle", "(I)Z"⟩, 18) := ⟨⟨by decide +kernel, by decide +kernel⟩, List.mem_of_getElem? (i := 753) (by decide +kernel), List.mem_of_getElem? (i := 982) (by decide +kernel), List.mem_of_getElem? (i := 983) (by decide +kernel)⟩
theorem lw_p50 : lw_okq (⟨"StyleFamiliesModel", "above", "(I)I"⟩, 18) := ⟨⟨by decide +kernel, by decide +kernel⟩, List.mem_of_getElem? (i := 753) (by decide +kernel), List.mem_of_getElem? (i := 986) (by decide +kernel), List.mem_of_getElem? (i := 987) (by decide +kernel)⟩
theorem lw_p51 : lw_okq (⟨"StyleFamiliesModel", "havers", "(I)I"⟩, 18) := ⟨⟨by decide +kernel, by decide +kernel⟩, List.mem_of_getElem? (i := 753) (by decide +kernel), List.mem_of_getElem? (i := 990) (by decide +kernel), List.mem_of_getElem? (i := 991) (by decide +kernel)⟩
theorem lw_p52 : lw_okq (⟨"StyleFamiliesModel", "children", "(I)I"⟩, 18) := ⟨⟨by decide +kernel, by decide +kernel⟩, List.mem_of_getElem? (i := 753) (by decide +kernel), List.mem_of_getElem? (i := 994) (by decide +kernel), List.mem_of_getElem? (i := 995) (by decide +kernel)⟩
theorem lw_p53 : lw_okq (⟨"StyleFamiliesModel", "knitParent", "(I)I"⟩, 18) := ⟨⟨by decide +kernel, by decide +kernel⟩, List.mem_of_getElem? (i := 753) (by decide +kernel), List.mem_of_getElem? (i := 998) (by decide +kernel), List.mem_of_getElem? (i := 999) (by decide +kernel)⟩
theorem lw_p54 : lw_okq (⟨"StyleFamiliesModel", "layKnit", "([II)V"⟩, 18) := ⟨⟨by decide +kernel, by decide +kernel⟩, List.mem_of_getElem? (i := 753) (by decide +kernel), List.mem_of_getElem? (i := 1002) (by decide +kernel), List.mem_of_getElem? (i := 1003) (by decide +kernel)⟩
theorem lw_p55 : lw_okq (⟨"StyleFamiliesModel", "isStyleOrNone", "(I)Z"⟩, 18) := ⟨⟨by decide +kernel, by decide +kernel⟩, List.mem_of_getElem? (i := 753) (by decide +kernel), List.mem_of_getElem? (i := 1010) (by decide +kernel), List.mem_of_getElem? (i := 1011) (by decide +kernel)⟩
theorem lw_p56 : lw_okq (⟨"StyleFamiliesModel", "remember", "()V"⟩, 18) := ⟨⟨by decide +kernel, by decide +kernel⟩, List.mem_of_getElem? (i := 753) (by decide +kernel), List.mem_of_getElem? (i := 1027) (by decide +kernel), List.mem_of_getElem? (i := 1028) (by decide +kernel)⟩
theorem lw_p57 : lw_okq (⟨"StyleFamiliesModel", "copyRow", "(II)V"⟩, 18) := ⟨⟨by decide +kernel, by decide +kernel⟩, List.mem_of_getElem? (i := 753) (by decide +kernel), List.mem_of_getElem? (i := 1031) (by decide +kernel), List.mem_of_getElem? (i := 1032) (by decide +kernel)⟩
theorem lw_p58 : lw_okq (⟨"StyleFamiliesModel", "clear", "(I)V"⟩, 18) := ⟨⟨by decide +kernel, by decide +kernel⟩, List.mem_of_getElem? (i := 753) (by decide +kernel), List.mem_of_getElem? (i := 1035) (by decide +kernel), List.mem_of_getElem? (i := 1036) (by decide +kernel)⟩
theorem lw_p59 : lw_okq (⟨"StyleFamiliesModel", "lay", "(II)I"⟩, 18) := ⟨⟨by decide +kernel, by decide +kernel⟩, List.mem_of_getElem? (i := 753) (by decide +kernel), List.mem_of_getElem? (i := 1050) (by decide +kernel), List.mem_of_getElem? (i := 1051) (by decide +kernel)⟩
theorem lw_p60 : lw_okq (⟨"StyleFamiliesModel", "isRing", "(II)Z"⟩, 18) := ⟨⟨by decide +kernel, by decide +kernel⟩, List.mem_of_getElem? (i := 753) (by decide +kernel), List.mem_of_getElem? (i := 1074) (by decide +kernel), List.mem_of_getElem? (i := 1075) (by decide +kernel)⟩
theorem lw_p61 : lw_okq (⟨"StyleFamiliesModel", "tellAnew", "(II[II)V"⟩, 18) := ⟨⟨by decide +kernel, by decide +kernel⟩, List.mem_of_getElem? (i := 753) (by decide +kernel), List.mem_of_getElem? (i := 1083) (by decide +kernel), List.mem_of_getElem? (i := 1084) (by decide +kernel)⟩
theorem lw_p62 : lw_okq (⟨"StyleFamiliesModel", "lessAbove", "(II)V"⟩, 18) := ⟨⟨by decide +kernel, by decide +kernel⟩, List.mem_of_getElem? (i := 753) (by decide +kernel), List.mem_of_getElem? (i := 1095) (by decide +kernel), List.mem_of_getElem? (i := 1096) (by decide +kernel)⟩
theorem lw_p63 : lw_okq (⟨"StyleFamiliesModel", "draw", "(I)I"⟩, 18) := ⟨⟨by decide +kernel, by decide +kernel⟩, List.mem_of_getElem? (i := 753) (by decide +kernel), List.mem_of_getElem? (i := 1124) (by decide +kernel), List.mem_of_getElem? (i := 1125) (by decide +kernel)⟩
def lw_privs_4 : List (MethodName × Nat) := [(⟨"StyleFamiliesModel", "toldAt", "(I)I"⟩, 18), (⟨"StyleFamiliesModel", "isStyle", "(I)Z"⟩, 18), (⟨"StyleFamiliesModel", "above", "(I)I"⟩, 18), (⟨"StyleFamiliesModel", "havers", "(I)I"⟩, 18), (⟨"StyleFamiliesModel", "children", "(I)I"⟩, 18), (⟨"StyleFamiliesModel", "knitParent", "(I)I"⟩, 18), (⟨"StyleFamiliesModel", "layKnit", "([II)V"⟩, 18), (⟨"StyleFamiliesModel", "isStyleOrNone", "(I)Z"⟩, 18), (⟨"StyleFamiliesModel", "remember", "()V"⟩, 18), (⟨"StyleFamiliesModel", "copyRow", "(II)V"⟩, 18), (⟨"StyleFamiliesModel", "clear", "(I)V"⟩, 18), (⟨"StyleFamiliesModel", "lay", "(II)I"⟩, 18), (⟨"StyleFamiliesModel", "isRing", "(II)Z"⟩, 18), (⟨"StyleFamiliesModel", "tellAnew", "(II[II)V"⟩, 18), (⟨"StyleFamiliesModel", "lessAbove", "(II)V"⟩, 18), (⟨"StyleFamiliesModel", "draw", "(I)I"⟩, 18)]
theorem lw_r4 : ∀ q ∈ lw_privs_4, lw_okq q := List.forall_mem_cons.mpr ⟨lw_p48, List.forall_mem_cons.mpr ⟨lw_p49, List.forall_mem_cons.mpr ⟨lw_p50, List.forall_mem_cons.mpr ⟨lw_p51, List.forall_mem_cons.mpr ⟨lw_p52, List.forall_mem_cons.mpr ⟨lw_p53, List.forall_mem_cons.mpr ⟨lw_p54, List.forall_mem_cons.mpr ⟨lw_p55, List.forall_mem_cons.mpr ⟨lw_p56, List.forall_mem_cons.mpr ⟨lw_p57, List.forall_mem_cons.mpr ⟨lw_p58, List.forall_mem_cons.mpr ⟨lw_p59, List.forall_mem_cons.mpr ⟨lw_p60, List.forall_mem_cons.mpr ⟨lw_p61, List.forall_mem_cons.mpr ⟨lw_p62, List.forall_mem_cons.mpr ⟨lw_p63, fun _ h => absurd h List.not_mem_nil⟩⟩⟩⟩⟩⟩⟩⟩⟩⟩⟩⟩⟩⟩⟩⟩
theorem lw_p64 : lw_okq (⟨"StyleFamiliesModel", "drawValue", "(I)I"⟩, 18) := ⟨⟨by decide +kernel, by decide +kernel⟩, List.mem_of_getElem? (i := 753) (by decide +kernel), List.mem_of_getElem? (i := 1132) (by decide +kernel), List.mem_of_getElem? (i := 1133) (by decide +kernel)⟩
def lw_privs_5 : List (MethodName × Nat) := [(⟨"StyleFamiliesModel", "drawValue", "(I)I"⟩, 18)]
theorem lw_r5 : ∀ q ∈ lw_privs_5, lw_okq q := List.forall_mem_cons.mpr ⟨lw_p64, fun _ h => absurd h List.not_mem_nil⟩
def lw_privs : List (MethodName × Nat) := lw_privs_1 ++ (lw_privs_2 ++ (lw_privs_3 ++ (lw_privs_4 ++ (lw_privs_5))))
def lw_tbl : List Cond := k2_sels lw_privs ++ tables_1
theorem lw_privs_ok : ∀ q ∈ lw_privs, lw_okq q := by
  show ∀ q ∈ lw_privs_1 ++ (lw_privs_2 ++ (lw_privs_3 ++ (lw_privs_4 ++ (lw_privs_5)))), lw_okq q
  exact List.forall_mem_append.mpr ⟨lw_r1, List.forall_mem_append.mpr ⟨lw_r2, List.forall_mem_append.mpr ⟨lw_r3, List.forall_mem_append.mpr ⟨lw_r4, lw_r5⟩⟩⟩⟩
def RX0 : String := "StyleFamilies$BestStyles"
def TX0 : u_T := fun k => match k with
  | 0 => ("StyleFamilies$BestStyles", "set", "I", false)
  | 1 => ("StyleFamilies$BestStyles", "cost", "I", false)
  | _ => ("StyleFamilies$BestStyles", "reach", "LStyleFamilies$Reach;", true)
def tyX0 : Nat → FieldType := fun k => match k with
  | 0 => .int
  | 1 => .int
  | _ => .object "StyleFamilies$Reach"
abbrev wsX00 : List Cond := u_ws RX0 TX0 3
theorem nmX0 : ∀ a, a < 3 → ∀ b, b < 3 → a ≠ b → (TX0 a).2.1 ≠ (TX0 b).2.1 := by decide +kernel
theorem tyX0_ok : ∀ k, k < 3 → parseFieldDescriptor (TX0 k).2.2.1 = some (tyX0 k) := by decide +kernel
abbrev cX0_init : ByteArray := prog_2_method_1_code
def yX0_init : MethodName := ⟨RX0, "<init>", "()V"⟩
abbrev cX0_find : ByteArray := prog_2_method_2_code
def yX0_find : MethodName := ⟨RX0, "find", "(LStyleFamilies$Looks;LStyleFamilies$Forest;II)V"⟩
abbrev cX0_compare : ByteArray := prog_2_method_3_code
def yX0_compare : MethodName := ⟨RX0, "compare", "(II)V"⟩
abbrev cX0_paragraphCosts : ByteArray := prog_2_method_4_code
def yX0_paragraphCosts : MethodName := ⟨RX0, "paragraphCosts", "(LStyleFamilies$Looks;I)I"⟩
def RX1 : String := "StyleFamilies$Book"
def TX1 : u_T := fun k => match k with
  | 0 => ("StyleFamilies$Book", "count", "I", false)
  | 1 => ("StyleFamilies$Book", "paragraphs", "[I", true)
  | 2 => ("StyleFamilies$Book", "properties", "[I", true)
  | _ => ("StyleFamilies$Book", "values", "[I", true)
def tyX1 : Nat → FieldType := fun k => match k with
  | 0 => .int
  | 1 => .array .int
  | 2 => .array .int
  | _ => .array .int
abbrev wsX10 : List Cond := u_ws RX1 TX1 4
theorem nmX1 : ∀ a, a < 4 → ∀ b, b < 4 → a ≠ b → (TX1 a).2.1 ≠ (TX1 b).2.1 := by decide +kernel
theorem tyX1_ok : ∀ k, k < 4 → parseFieldDescriptor (TX1 k).2.2.1 = some (tyX1 k) := by decide +kernel
abbrev cX1_init : ByteArray := prog_3_method_1_code
def yX1_init : MethodName := ⟨RX1, "<init>", "()V"⟩
abbrev cX1_hasRoom : ByteArray := prog_3_method_2_code
def yX1_hasRoom : MethodName := ⟨RX1, "hasRoom", "()Z"⟩
abbrev cX1_append : ByteArray := prog_3_method_3_code
def yX1_append : MethodName := ⟨RX1, "append", "(III)V"⟩
abbrev cX1_clear : ByteArray := prog_3_method_4_code
def yX1_clear : MethodName := ⟨RX1, "clear", "()I"⟩
abbrev cX1_firstWrong : ByteArray := prog_3_method_5_code
def yX1_firstWrong : MethodName := ⟨RX1, "firstWrong", "(LStyleFamilies$Sheet;)I"⟩
def RX2 : String := "StyleFamilies$Forest"
def TX2 : u_T := fun k => match k with
  | 0 => ("StyleFamilies$Forest", "count", "I", false)
  | 1 => ("StyleFamilies$Forest", "look", "[I", true)
  | 2 => ("StyleFamilies$Forest", "parents", "[I", true)
  | 3 => ("StyleFamilies$Forest", "groundLook", "I", false)
  | 4 => ("StyleFamilies$Forest", "reach", "LStyleFamilies$Reach;", true)
  | _ => ("StyleFamilies$Forest", "sum", "[I", true)
def tyX2 : Nat → FieldType := fun k => match k with
  | 0 => .int
  | 1 => .array .int
  | 2 => .array .int
  | 3 => .int
  | 4 => .object "StyleFamilies$Reach"
  | _ => .array .int
abbrev wsX20 : List Cond := u_ws RX2 TX2 6
theorem nmX2 : ∀ a, a < 6 → ∀ b, b < 6 → a ≠ b → (TX2 a).2.1 ≠ (TX2 b).2.1 := by decide +kernel
theorem tyX2_ok : ∀ k, k < 6 → parseFieldDescriptor (TX2 k).2.2.1 = some (tyX2 k) := by decide +kernel
abbrev cX2_init : ByteArray := prog_4_method_1_code
def yX2_init : MethodName := ⟨RX2, "<init>", "()V"⟩
abbrev cX2_begin : ByteArray := prog_4_method_2_code
def yX2_begin : MethodName := ⟨RX2, "begin", "(I)V"⟩
abbrev cX2_plant : ByteArray := prog_4_method_3_code
def yX2_plant : MethodName := ⟨RX2, "plant", "(I)V"⟩
abbrev cX2_layChosen : ByteArray := prog_4_method_4_code
def yX2_layChosen : MethodName := ⟨RX2, "layChosen", "(LStyleFamilies$Looks;II)V"⟩
abbrev cX2_grow : ByteArray := prog_4_method_5_code
def yX2_grow : MethodName := ⟨RX2, "grow", "()V"⟩
abbrev cX2_addUp : ByteArray := prog_4_method_6_code
def yX2_addUp : MethodName := ⟨RX2, "addUp", "()V"⟩
abbrev cX2_costOf : ByteArray := prog_4_method_7_code
def yX2_costOf : MethodName := ⟨RX2, "costOf", "(I)I"⟩
abbrev cX2_costOfAll : ByteArray := prog_4_method_8_code
def yX2_costOfAll : MethodName := ⟨RX2, "costOfAll", "()I"⟩
abbrev cX2_parentLook : ByteArray := prog_4_method_9_code
def yX2_parentLook : MethodName := ⟨RX2, "parentLook", "(I)I"⟩
abbrev cX2_chooseParents : ByteArray := prog_4_method_10_code
def yX2_chooseParents : MethodName := ⟨RX2, "chooseParents", "()V"⟩
abbrev cX2_firstParent : ByteArray := prog_4_method_11_code
def yX2_firstParent : MethodName := ⟨RX2, "firstParent", "(II)I"⟩
abbrev cX2_costWithParent : ByteArray := prog_4_method_12_code
def yX2_costWithParent : MethodName := ⟨RX2, "costWithParent", "(II)I"⟩
def RX3 : String := "StyleFamilies$History"
def TX3 : u_T := fun k => match k with
  | 0 => ("StyleFamilies$History", "count", "I", false)
  | 1 => ("StyleFamilies$History", "next", "I", false)
  | _ => ("StyleFamilies$History", "before", "[LStyleFamilies$Sheet;", true)
def tyX3 : Nat → FieldType := fun k => match k with
  | 0 => .int
  | 1 => .int
  | _ => .array (.object "StyleFamilies$Sheet")
abbrev wsX30 : List Cond := u_ws RX3 TX3 3
theorem nmX3 : ∀ a, a < 3 → ∀ b, b < 3 → a ≠ b → (TX3 a).2.1 ≠ (TX3 b).2.1 := by decide +kernel
theorem tyX3_ok : ∀ k, k < 3 → parseFieldDescriptor (TX3 k).2.2.1 = some (tyX3 k) := by decide +kernel
abbrev cX3_init : ByteArray := prog_5_method_1_code
def yX3_init : MethodName := ⟨RX3, "<init>", "()V"⟩
abbrev cX3_remember : ByteArray := prog_5_method_2_code
def yX3_remember : MethodName := ⟨RX3, "remember", "(LStyleFamilies$Sheet;)V"⟩
abbrev cX3_restore : ByteArray := prog_5_method_3_code
def yX3_restore : MethodName := ⟨RX3, "restore", "(LStyleFamilies$Sheet;I)V"⟩
abbrev cX3_forget : ByteArray := prog_5_method_4_code
def yX3_forget : MethodName := ⟨RX3, "forget", "()V"⟩
def RX4 : String := "StyleFamilies$Image"
def TX4 : u_T := fun k => match k with
  | 0 => ("StyleFamilies$Image", "filled", "Z", false)
  | 1 => ("StyleFamilies$Image", "random", "I", false)
  | _ => ("StyleFamilies$Image", "sheet", "LStyleFamilies$Sheet;", true)
def tyX4 : Nat → FieldType := fun k => match k with
  | 0 => .boolean
  | 1 => .int
  | _ => .object "StyleFamilies$Sheet"
abbrev wsX40 : List Cond := u_ws RX4 TX4 3
theorem nmX4 : ∀ a, a < 3 → ∀ b, b < 3 → a ≠ b → (TX4 a).2.1 ≠ (TX4 b).2.1 := by decide +kernel
theorem tyX4_ok : ∀ k, k < 3 → parseFieldDescriptor (TX4 k).2.2.1 = some (tyX4 k) := by decide +kernel
abbrev cX4_init : ByteArray := prog_6_method_1_code
def yX4_init : MethodName := ⟨RX4, "<init>", "()V"⟩
def RX5 : String := "StyleFamilies$Looks"
def TX5 : u_T := fun k => match k with
  | 0 => ("StyleFamilies$Looks", "count", "I", false)
  | 1 => ("StyleFamilies$Looks", "look", "[I", true)
  | _ => ("StyleFamilies$Looks", "wearers", "[I", true)
def tyX5 : Nat → FieldType := fun k => match k with
  | 0 => .int
  | 1 => .array .int
  | _ => .array .int
abbrev wsX50 : List Cond := u_ws RX5 TX5 3
theorem nmX5 : ∀ a, a < 3 → ∀ b, b < 3 → a ≠ b → (TX5 a).2.1 ≠ (TX5 b).2.1 := by decide +kernel
theorem tyX5_ok : ∀ k, k < 3 → parseFieldDescriptor (TX5 k).2.2.1 = some (tyX5 k) := by decide +kernel
abbrev cX5_init : ByteArray := prog_7_method_1_code
def yX5_init : MethodName := ⟨RX5, "<init>", "()V"⟩
abbrev cX5_holds : ByteArray := prog_7_method_2_code
def yX5_holds : MethodName := ⟨RX5, "holds", "(I)Z"⟩
abbrev cX5_gather : ByteArray := prog_7_method_3_code
def yX5_gather : MethodName := ⟨RX5, "gather", "(LStyleFamilies$Sheet;)V"⟩
abbrev cX5_numberOf : ByteArray := prog_7_method_4_code
def yX5_numberOf : MethodName := ⟨RX5, "numberOf", "(I)I"⟩
abbrev cX5_enter : ByteArray := prog_7_method_5_code
def yX5_enter : MethodName := ⟨RX5, "enter", "(I)V"⟩
def RX6 : String := "StyleFamilies$Reach"
def TX6 : u_T := fun k => match k with
  | _ => ("StyleFamilies$Reach", "least", "[[I", true)
def tyX6 : Nat → FieldType := fun k => match k with
  | _ => .array (.array .int)
abbrev wsX60 : List Cond := u_ws RX6 TX6 1
theorem nmX6 : ∀ a, a < 1 → ∀ b, b < 1 → a ≠ b → (TX6 a).2.1 ≠ (TX6 b).2.1 := by decide +kernel
theorem tyX6_ok : ∀ k, k < 1 → parseFieldDescriptor (TX6 k).2.2.1 = some (tyX6 k) := by decide +kernel
abbrev cX6_init : ByteArray := prog_8_method_1_code
def yX6_init : MethodName := ⟨RX6, "<init>", "()V"⟩
abbrev cX6_fill : ByteArray := prog_8_method_2_code
def yX6_fill : MethodName := ⟨RX6, "fill", "(I[IIII)V"⟩
abbrev cX6_pin : ByteArray := prog_8_method_3_code
def yX6_pin : MethodName := ⟨RX6, "pin", "(IIII)V"⟩
def RX7 : String := "StyleFamilies$Rows"
def TX7 : u_T := fun k => match k with
  | 0 => ("StyleFamilies$Rows", "most", "I", true)
  | 1 => ("StyleFamilies$Rows", "count", "I", false)
  | 2 => ("StyleFamilies$Rows", "base", "[I", true)
  | _ => ("StyleFamilies$Rows", "own", "[I", true)
def tyX7 : Nat → FieldType := fun k => match k with
  | 0 => .int
  | 1 => .int
  | 2 => .array .int
  | _ => .array .int
abbrev wsX70 : List Cond := u_ws RX7 TX7 4
theorem nmX7 : ∀ a, a < 4 → ∀ b, b < 4 → a ≠ b → (TX7 a).2.1 ≠ (TX7 b).2.1 := by decide +kernel
theorem tyX7_ok : ∀ k, k < 4 → parseFieldDescriptor (TX7 k).2.2.1 = some (tyX7 k) := by decide +kernel
abbrev cX7_init : ByteArray := prog_9_method_1_code
def yX7_init : MethodName := ⟨RX7, "<init>", "(I)V"⟩
abbrev cX7_holds : ByteArray := prog_9_method_2_code
def yX7_holds : MethodName := ⟨RX7, "holds", "(I)Z"⟩
abbrev cX7_hasRoom : ByteArray := prog_9_method_3_code
def yX7_hasRoom : MethodName := ⟨RX7, "hasRoom", "()Z"⟩
abbrev cX7_ownValue : ByteArray := prog_9_method_4_code
def yX7_ownValue : MethodName := ⟨RX7, "ownValue", "(II)I"⟩
abbrev cX7_changeOwn : ByteArray := prog_9_method_5_code
def yX7_changeOwn : MethodName := ⟨RX7, "changeOwn", "(III)I"⟩
abbrev cX7_changeBase : ByteArray := prog_9_method_6_code
def yX7_changeBase : MethodName := ⟨RX7, "changeBase", "(II)I"⟩
abbrev cX7_ownBits : ByteArray := prog_9_method_7_code
def yX7_ownBits : MethodName := ⟨RX7, "ownBits", "(I)I"⟩
abbrev cX7_ownSet : ByteArray := prog_9_method_8_code
def yX7_ownSet : MethodName := ⟨RX7, "ownSet", "(I)I"⟩
abbrev cX7_withBase : ByteArray := prog_9_method_9_code
def yX7_withBase : MethodName := ⟨RX7, "withBase", "(I)I"⟩
abbrev cX7_append : ByteArray := prog_9_method_10_code
def yX7_append : MethodName := ⟨RX7, "append", "()I"⟩
abbrev cX7_remove : ByteArray := prog_9_method_11_code
def yX7_remove : MethodName := ⟨RX7, "remove", "(I)V"⟩
abbrev cX7_exchange : ByteArray := prog_9_method_12_code
def yX7_exchange : MethodName := ⟨RX7, "exchange", "(II)V"⟩
abbrev cX7_renumberBases : ByteArray := prog_9_method_13_code
def yX7_renumberBases : MethodName := ⟨RX7, "renumberBases", "(I)V"⟩
abbrev cX7_rest : ByteArray := prog_9_method_14_code
def yX7_rest : MethodName := ⟨RX7, "rest", "(IIII)V"⟩
abbrev cX7_copyFrom : ByteArray := prog_9_method_15_code
def yX7_copyFrom : MethodName := ⟨RX7, "copyFrom", "(LStyleFamilies$Rows;)V"⟩
def RX8 : String := "StyleFamilies$Sheet"
def TX8 : u_T := fun k => match k with
  | 0 => ("StyleFamilies$Sheet", "headCost", "I", false)
  | 1 => ("StyleFamilies$Sheet", "groundValues", "[I", true)
  | 2 => ("StyleFamilies$Sheet", "styles", "LStyleFamilies$Rows;", true)
  | _ => ("StyleFamilies$Sheet", "paragraphs", "LStyleFamilies$Rows;", true)
def tyX8 : Nat → FieldType := fun k => match k with
  | 0 => .int
  | 1 => .array .int
  | 2 => .object "StyleFamilies$Rows"
  | _ => .object "StyleFamilies$Rows"
abbrev wsX80 : List Cond := u_ws RX8 TX8 4
theorem nmX8 : ∀ a, a < 4 → ∀ b, b < 4 → a ≠ b → (TX8 a).2.1 ≠ (TX8 b).2.1 := by decide +kernel
theorem tyX8_ok : ∀ k, k < 4 → parseFieldDescriptor (TX8 k).2.2.1 = some (tyX8 k) := by decide +kernel
abbrev cX8_init : ByteArray := prog_10_method_1_code
def yX8_init : MethodName := ⟨RX8, "<init>", "()V"⟩
abbrev cX8_copyFrom : ByteArray := prog_10_method_2_code
def yX8_copyFrom : MethodName := ⟨RX8, "copyFrom", "(LStyleFamilies$Sheet;)V"⟩
abbrev cX8_setter : ByteArray := prog_10_method_3_code
def yX8_setter : MethodName := ⟨RX8, "setter", "(II)I"⟩
abbrev cX8_styleValue : ByteArray := prog_10_method_4_code
def yX8_styleValue : MethodName := ⟨RX8, "styleValue", "(II)I"⟩
abbrev cX8_paragraphValue : ByteArray := prog_10_method_5_code
def yX8_paragraphValue : MethodName := ⟨RX8, "paragraphValue", "(II)I"⟩
abbrev cX8_styleLook : ByteArray := prog_10_method_6_code
def yX8_styleLook : MethodName := ⟨RX8, "styleLook", "(I)I"⟩
abbrev cX8_paragraphLook : ByteArray := prog_10_method_7_code
def yX8_paragraphLook : MethodName := ⟨RX8, "paragraphLook", "(I)I"⟩
abbrev cX8_ancestors : ByteArray := prog_10_method_8_code
def yX8_ancestors : MethodName := ⟨RX8, "ancestors", "(I)I"⟩
abbrev cX8_descends : ByteArray := prog_10_method_9_code
def yX8_descends : MethodName := ⟨RX8, "descends", "(II)Z"⟩
abbrev cX8_styleCost : ByteArray := prog_10_method_10_code
def yX8_styleCost : MethodName := ⟨RX8, "styleCost", "(I)I"⟩
abbrev cX8_paragraphCost : ByteArray := prog_10_method_11_code
def yX8_paragraphCost : MethodName := ⟨RX8, "paragraphCost", "(I)I"⟩
abbrev cX8_costOfAll : ByteArray := prog_10_method_12_code
def yX8_costOfAll : MethodName := ⟨RX8, "costOfAll", "()I"⟩
abbrev cX8_unusedStyles : ByteArray := prog_10_method_13_code
def yX8_unusedStyles : MethodName := ⟨RX8, "unusedStyles", "()I"⟩
abbrev cX8_countRedundant : ByteArray := prog_10_method_14_code
def yX8_countRedundant : MethodName := ⟨RX8, "countRedundant", "(Z)I"⟩
abbrev cX8_redundantIn : ByteArray := prog_10_method_15_code
def yX8_redundantIn : MethodName := ⟨RX8, "redundantIn", "(LStyleFamilies$Rows;Z)I"⟩
abbrev cX8_costWithStyle : ByteArray := prog_10_method_16_code
def yX8_costWithStyle : MethodName := ⟨RX8, "costWithStyle", "(II)I"⟩
abbrev cX8_nearestStyle : ByteArray := prog_10_method_17_code
def yX8_nearestStyle : MethodName := ⟨RX8, "nearestStyle", "(I)I"⟩
abbrev cX8_rebaseStyle : ByteArray := prog_10_method_18_code
def yX8_rebaseStyle : MethodName := ⟨RX8, "rebaseStyle", "(II)V"⟩
abbrev cX8_rebaseParagraph : ByteArray := prog_10_method_19_code
def yX8_rebaseParagraph : MethodName := ⟨RX8, "rebaseParagraph", "(II)V"⟩
abbrev cX8_removeStyle : ByteArray := prog_10_method_20_code
def yX8_removeStyle : MethodName := ⟨RX8, "removeStyle", "(I)V"⟩
abbrev cX8_layStyles : ByteArray := prog_10_method_21_code
def yX8_layStyles : MethodName := ⟨RX8, "layStyles", "(LStyleFamilies$Forest;)V"⟩
abbrev cX8_replaceStyles : ByteArray := prog_10_method_22_code
def yX8_replaceStyles : MethodName := ⟨RX8, "replaceStyles", "(LStyleFamilies$Forest;)V"⟩
def RX9 : String := "StyleFamilies$Values"
def TX9 : u_T := fun k => match k with
  | _ => ("", "", "", false)
def tyX9 : Nat → FieldType := fun k => match k with
  | _ => .int
abbrev wsX90 : List Cond := u_ws RX9 TX9 0
theorem nmX9 : ∀ a, a < 0 → ∀ b, b < 0 → a ≠ b → (TX9 a).2.1 ≠ (TX9 b).2.1 := by decide +kernel
theorem tyX9_ok : ∀ k, k < 0 → parseFieldDescriptor (TX9 k).2.2.1 = some (tyX9 k) := by decide +kernel
abbrev cX9_isProperty : ByteArray := prog_11_method_2_code
def yX9_isProperty : MethodName := ⟨RX9, "isProperty", "(I)Z"⟩
abbrev cX9_isValue : ByteArray := prog_11_method_3_code
def yX9_isValue : MethodName := ⟨RX9, "isValue", "(II)Z"⟩
abbrev cX9_bits : ByteArray := prog_11_method_4_code
def yX9_bits : MethodName := ⟨RX9, "bits", "(II)I"⟩
abbrev cX9_inLook : ByteArray := prog_11_method_5_code
def yX9_inLook : MethodName := ⟨RX9, "inLook", "(II)I"⟩
abbrev cX9_asPartOfLook : ByteArray := prog_11_method_6_code
def yX9_asPartOfLook : MethodName := ⟨RX9, "asPartOfLook", "(II)I"⟩
abbrev cX9_bitsApart : ByteArray := prog_11_method_7_code
def yX9_bitsApart : MethodName := ⟨RX9, "bitsApart", "(II)I"⟩
def RX10 : String := "StyleFamilies"
def TX10 : u_T := fun k => match k with
  | 0 => ("StyleFamilies", "now", "LStyleFamilies$Sheet;", true)
  | 1 => ("StyleFamilies", "history", "LStyleFamilies$History;", true)
  | 2 => ("StyleFamilies", "book", "LStyleFamilies$Book;", true)
  | 3 => ("StyleFamilies", "images", "[LStyleFamilies$Image;", true)
  | 4 => ("StyleFamilies", "looks", "LStyleFamilies$Looks;", true)
  | 5 => ("StyleFamilies", "forest", "LStyleFamilies$Forest;", true)
  | 6 => ("StyleFamilies", "bestStyles", "LStyleFamilies$BestStyles;", true)
  | _ => ("StyleFamilies", "random", "I", false)
def tyX10 : Nat → FieldType := fun k => match k with
  | 0 => .object "StyleFamilies$Sheet"
  | 1 => .object "StyleFamilies$History"
  | 2 => .object "StyleFamilies$Book"
  | 3 => .array (.object "StyleFamilies$Image")
  | 4 => .object "StyleFamilies$Looks"
  | 5 => .object "StyleFamilies$Forest"
  | 6 => .object "StyleFamilies$BestStyles"
  | _ => .int
abbrev wsX100 : List Cond := u_ws RX10 TX10 8
theorem nmX10 : ∀ a, a < 8 → ∀ b, b < 8 → a ≠ b → (TX10 a).2.1 ≠ (TX10 b).2.1 := by decide +kernel
theorem tyX10_ok : ∀ k, k < 8 → parseFieldDescriptor (TX10 k).2.2.1 = some (tyX10 k) := by decide +kernel
abbrev cX10_init : ByteArray := prog_1_method_1_code
def yX10_init : MethodName := ⟨RX10, "<init>", "()V"⟩
abbrev cX10_told : ByteArray := prog_1_method_2_code
def yX10_told : MethodName := ⟨RX10, "told", "(I)I"⟩
abbrev cX10_has : ByteArray := prog_1_method_3_code
def yX10_has : MethodName := ⟨RX10, "has", "(II)I"⟩
abbrev cX10_from : ByteArray := prog_1_method_4_code
def yX10_from : MethodName := ⟨RX10, "from", "(II)I"⟩
abbrev cX10_paragraphAt : ByteArray := prog_1_method_5_code
def yX10_paragraphAt : MethodName := ⟨RX10, "paragraphAt", "(II)I"⟩
abbrev cX10_styleAt : ByteArray := prog_1_method_6_code
def yX10_styleAt : MethodName := ⟨RX10, "styleAt", "(II)I"⟩
abbrev cX10_styleHas : ByteArray := prog_1_method_7_code
def yX10_styleHas : MethodName := ⟨RX10, "styleHas", "(II)I"⟩
abbrev cX10_lookAt : ByteArray := prog_1_method_8_code
def yX10_lookAt : MethodName := ⟨RX10, "lookAt", "(II)I"⟩
abbrev cX10_apart : ByteArray := prog_1_method_9_code
def yX10_apart : MethodName := ⟨RX10, "apart", "(II)I"⟩
abbrev cX10_paragraph : ByteArray := prog_1_method_10_code
def yX10_paragraph : MethodName := ⟨RX10, "paragraph", "()I"⟩
abbrev cX10_style : ByteArray := prog_1_method_11_code
def yX10_style : MethodName := ⟨RX10, "style", "()I"⟩
abbrev cX10_direct : ByteArray := prog_1_method_12_code
def yX10_direct : MethodName := ⟨RX10, "direct", "(III)I"⟩
abbrev cX10_sets : ByteArray := prog_1_method_13_code
def yX10_sets : MethodName := ⟨RX10, "sets", "(III)I"⟩
abbrev cX10_ground : ByteArray := prog_1_method_14_code
def yX10_ground : MethodName := ⟨RX10, "ground", "(II)I"⟩
abbrev cX10_head : ByteArray := prog_1_method_15_code
def yX10_head : MethodName := ⟨RX10, "head", "(I)I"⟩
abbrev cX10_apply : ByteArray := prog_1_method_16_code
def yX10_apply : MethodName := ⟨RX10, "apply", "(II)I"⟩
abbrev cX10_parent : ByteArray := prog_1_method_17_code
def yX10_parent : MethodName := ⟨RX10, "parent", "(II)I"⟩
abbrev cX10_restyle : ByteArray := prog_1_method_18_code
def yX10_restyle : MethodName := ⟨RX10, "restyle", "(II)I"⟩
abbrev cX10_reparent : ByteArray := prog_1_method_19_code
def yX10_reparent : MethodName := ⟨RX10, "reparent", "(II)I"⟩
abbrev cX10_drop : ByteArray := prog_1_method_20_code
def yX10_drop : MethodName := ⟨RX10, "drop", "(I)I"⟩
abbrev cX10_take : ByteArray := prog_1_method_21_code
def yX10_take : MethodName := ⟨RX10, "take", "(I)I"⟩
abbrev cX10_swap : ByteArray := prog_1_method_22_code
def yX10_swap : MethodName := ⟨RX10, "swap", "(II)I"⟩
abbrev cX10_tidy : ByteArray := prog_1_method_23_code
def yX10_tidy : MethodName := ⟨RX10, "tidy", "()I"⟩
abbrev cX10_knit : ByteArray := prog_1_method_24_code
def yX10_knit : MethodName := ⟨RX10, "knit", "()I"⟩
abbrev cX10_adopt : ByteArray := prog_1_method_25_code
def yX10_adopt : MethodName := ⟨RX10, "adopt", "()I"⟩
abbrev cX10_drift : ByteArray := prog_1_method_26_code
def yX10_drift : MethodName := ⟨RX10, "drift", "(I)I"⟩
abbrev cX10_undo : ByteArray := prog_1_method_27_code
def yX10_undo : MethodName := ⟨RX10, "undo", "(I)I"⟩
abbrev cX10_write : ByteArray := prog_1_method_28_code
def yX10_write : MethodName := ⟨RX10, "write", "(III)I"⟩
abbrev cX10_tear : ByteArray := prog_1_method_29_code
def yX10_tear : MethodName := ⟨RX10, "tear", "()I"⟩
abbrev cX10_seed : ByteArray := prog_1_method_30_code
def yX10_seed : MethodName := ⟨RX10, "seed", "(I)I"⟩
abbrev cX10_keep : ByteArray := prog_1_method_31_code
def yX10_keep : MethodName := ⟨RX10, "keep", "(I)I"⟩
abbrev cX10_goBack : ByteArray := prog_1_method_32_code
def yX10_goBack : MethodName := ⟨RX10, "goBack", "(I)I"⟩
abbrev cX10_isStyleOrNone : ByteArray := prog_1_method_33_code
def yX10_isStyleOrNone : MethodName := ⟨RX10, "isStyleOrNone", "(I)Z"⟩
abbrev cX10_errorOfParent : ByteArray := prog_1_method_34_code
def yX10_errorOfParent : MethodName := ⟨RX10, "errorOfParent", "(II)I"⟩
abbrev cX10_give : ByteArray := prog_1_method_35_code
def yX10_give : MethodName := ⟨RX10, "give", "(LStyleFamilies$Rows;III)I"⟩
abbrev cX10_gatheredLooks : ByteArray := prog_1_method_36_code
def yX10_gatheredLooks : MethodName := ⟨RX10, "gatheredLooks", "()LStyleFamilies$Looks;"⟩
abbrev cX10_foundBestStyles : ByteArray := prog_1_method_37_code
def yX10_foundBestStyles : MethodName := ⟨RX10, "foundBestStyles", "()LStyleFamilies$BestStyles;"⟩
abbrev cX10_layForestOfStyles : ByteArray := prog_1_method_38_code
def yX10_layForestOfStyles : MethodName := ⟨RX10, "layForestOfStyles", "()V"⟩
abbrev cX10_costWithBestParents : ByteArray := prog_1_method_39_code
def yX10_costWithBestParents : MethodName := ⟨RX10, "costWithBestParents", "()I"⟩
abbrev cX10_bestParentOf : ByteArray := prog_1_method_40_code
def yX10_bestParentOf : MethodName := ⟨RX10, "bestParentOf", "(I)I"⟩
abbrev cX10_costWithNearestStyle : ByteArray := prog_1_method_41_code
def yX10_costWithNearestStyle : MethodName := ⟨RX10, "costWithNearestStyle", "(I)I"⟩
abbrev cX10_draw : ByteArray := prog_1_method_42_code
def yX10_draw : MethodName := ⟨RX10, "draw", "(I)I"⟩
abbrev cX10_giveAtRandom : ByteArray := prog_1_method_43_code
def yX10_giveAtRandom : MethodName := ⟨RX10, "giveAtRandom", "(I)V"⟩
def RX11 : String := "StyleFamiliesModel"
def TX11 : u_T := fun k => match k with
  | 0 => ("StyleFamiliesModel", "w", "[I", true)
  | 1 => ("StyleFamiliesModel", "known", "I", false)
  | 2 => ("StyleFamiliesModel", "kept", "I", false)
  | 3 => ("StyleFamiliesModel", "seed", "I", false)
  | 4 => ("StyleFamiliesModel", "keptSeed", "[I", true)
  | 5 => ("StyleFamiliesModel", "bookOf", "[I", true)
  | 6 => ("StyleFamiliesModel", "bookAt", "[I", true)
  | 7 => ("StyleFamiliesModel", "bookIs", "[I", true)
  | 8 => ("StyleFamiliesModel", "booked", "I", false)
  | 9 => ("StyleFamiliesModel", "styleLook", "[I", true)
  | 10 => ("StyleFamiliesModel", "look", "[I", true)
  | 11 => ("StyleFamiliesModel", "unlike", "[I", true)
  | 12 => ("StyleFamiliesModel", "unlikes", "I", false)
  | 13 => ("StyleFamiliesModel", "link", "[I", true)
  | 14 => ("StyleFamiliesModel", "best", "[I", true)
  | 15 => ("StyleFamiliesModel", "parents", "[I", true)
  | 16 => ("StyleFamiliesModel", "family", "I", false)
  | _ => ("StyleFamiliesModel", "familyCost", "I", false)
def tyX11 : Nat → FieldType := fun k => match k with
  | 0 => .array .int
  | 1 => .int
  | 2 => .int
  | 3 => .int
  | 4 => .array .int
  | 5 => .array .int
  | 6 => .array .int
  | 7 => .array .int
  | 8 => .int
  | 9 => .array .int
  | 10 => .array .int
  | 11 => .array .int
  | 12 => .int
  | 13 => .array .int
  | 14 => .array .int
  | 15 => .array .int
  | 16 => .int
  | _ => .int
abbrev wsX110 : List Cond := u_ws RX11 TX11 18
theorem nmX11 : ∀ a, a < 18 → ∀ b, b < 18 → a ≠ b → (TX11 a).2.1 ≠ (TX11 b).2.1 := by decide +kernel
theorem tyX11_ok : ∀ k, k < 18 → parseFieldDescriptor (TX11 k).2.2.1 = some (tyX11 k) := by decide +kernel
abbrev cX11_init : ByteArray := prog_13_method_1_code
def yX11_init : MethodName := ⟨RX11, "<init>", "()V"⟩
abbrev cX11_in : ByteArray := prog_13_method_2_code
def yX11_in : MethodName := ⟨RX11, "in", "(III)Z"⟩
abbrev cX11_copyRow : ByteArray := prog_13_method_3_code
def yX11_copyRow : MethodName := ⟨RX11, "copyRow", "(II)V"⟩
abbrev cX11_styleOf : ByteArray := prog_13_method_4_code
def yX11_styleOf : MethodName := ⟨RX11, "styleOf", "(I)I"⟩
abbrev cX11_paragraphOf : ByteArray := prog_13_method_5_code
def yX11_paragraphOf : MethodName := ⟨RX11, "paragraphOf", "(I)I"⟩
abbrev cX11_isStyle : ByteArray := prog_13_method_6_code
def yX11_isStyle : MethodName := ⟨RX11, "isStyle", "(I)Z"⟩
abbrev cX11_isStyleOrNone : ByteArray := prog_13_method_7_code
def yX11_isStyleOrNone : MethodName := ⟨RX11, "isStyleOrNone", "(I)Z"⟩
abbrev cX11_isParagraph : ByteArray := prog_13_method_8_code
def yX11_isParagraph : MethodName := ⟨RX11, "isParagraph", "(I)Z"⟩
abbrev cX11_isProperty : ByteArray := prog_13_method_9_code
def yX11_isProperty : MethodName := ⟨RX11, "isProperty", "(I)Z"⟩
abbrev cX11_isValue : ByteArray := prog_13_method_10_code
def yX11_isValue : MethodName := ⟨RX11, "isValue", "(II)Z"⟩
abbrev cX11_bits : ByteArray := prog_13_method_11_code
def yX11_bits : MethodName := ⟨RX11, "bits", "(II)I"⟩
abbrev cX11_setter : ByteArray := prog_13_method_12_code
def yX11_setter : MethodName := ⟨RX11, "setter", "(II)I"⟩
abbrev cX11_ofStyle : ByteArray := prog_13_method_13_code
def yX11_ofStyle : MethodName := ⟨RX11, "ofStyle", "(II)I"⟩
abbrev cX11_ofParagraph : ByteArray := prog_13_method_14_code
def yX11_ofParagraph : MethodName := ⟨RX11, "ofParagraph", "(II)I"⟩
abbrev cX11_layStyleLooks : ByteArray := prog_13_method_15_code
def yX11_layStyleLooks : MethodName := ⟨RX11, "layStyleLooks", "()V"⟩
abbrev cX11_layParagraphLooks : ByteArray := prog_13_method_16_code
def yX11_layParagraphLooks : MethodName := ⟨RX11, "layParagraphLooks", "()V"⟩
abbrev cX11_layAll : ByteArray := prog_13_method_17_code
def yX11_layAll : MethodName := ⟨RX11, "layAll", "()V"⟩
abbrev cX11_compare : ByteArray := prog_13_method_18_code
def yX11_compare : MethodName := ⟨RX11, "compare", "([II[II)I"⟩
abbrev cX11_layLooks : ByteArray := prog_13_method_19_code
def yX11_layLooks : MethodName := ⟨RX11, "layLooks", "()V"⟩
abbrev cX11_numberOf : ByteArray := prog_13_method_20_code
def yX11_numberOf : MethodName := ⟨RX11, "numberOf", "(I)I"⟩
abbrev cX11_bitsApart : ByteArray := prog_13_method_21_code
def yX11_bitsApart : MethodName := ⟨RX11, "bitsApart", "([II[II)I"⟩
abbrev cX11_bitsAt : ByteArray := prog_13_method_22_code
def yX11_bitsAt : MethodName := ⟨RX11, "bitsAt", "(I)I"⟩
abbrev cX11_styleCost : ByteArray := prog_13_method_23_code
def yX11_styleCost : MethodName := ⟨RX11, "styleCost", "(I)I"⟩
abbrev cX11_paragraphCost : ByteArray := prog_13_method_24_code
def yX11_paragraphCost : MethodName := ⟨RX11, "paragraphCost", "(I)I"⟩
abbrev cX11_cost : ByteArray := prog_13_method_25_code
def yX11_cost : MethodName := ⟨RX11, "cost", "()I"⟩
abbrev cX11_isNeedlessOfStyle : ByteArray := prog_13_method_26_code
def yX11_isNeedlessOfStyle : MethodName := ⟨RX11, "isNeedlessOfStyle", "(II)Z"⟩
abbrev cX11_isNeedlessOfParagraph : ByteArray := prog_13_method_27_code
def yX11_isNeedlessOfParagraph : MethodName := ⟨RX11, "isNeedlessOfParagraph", "(II)Z"⟩
abbrev cX11_needless : ByteArray := prog_13_method_28_code
def yX11_needless : MethodName := ⟨RX11, "needless", "()I"⟩
abbrev cX11_layLinks : ByteArray := prog_13_method_29_code
def yX11_layLinks : MethodName := ⟨RX11, "layLinks", "([II)V"⟩
abbrev cX11_putBehind : ByteArray := prog_13_method_30_code
def yX11_putBehind : MethodName := ⟨RX11, "putBehind", "(III)I"⟩
abbrev cX11_grown : ByteArray := prog_13_method_31_code
def yX11_grown : MethodName := ⟨RX11, "grown", "(I)I"⟩
abbrev cX11_layKnit : ByteArray := prog_13_method_32_code
def yX11_layKnit : MethodName := ⟨RX11, "layKnit", "([II)V"⟩
abbrev cX11_knitCost : ByteArray := prog_13_method_33_code
def yX11_knitCost : MethodName := ⟨RX11, "knitCost", "()I"⟩
abbrev cX11_ones : ByteArray := prog_13_method_34_code
def yX11_ones : MethodName := ⟨RX11, "ones", "(I)I"⟩
abbrev cX11_cheapest : ByteArray := prog_13_method_35_code
def yX11_cheapest : MethodName := ⟨RX11, "cheapest", "(II)I"⟩
abbrev cX11_layFamily : ByteArray := prog_13_method_36_code
def yX11_layFamily : MethodName := ⟨RX11, "layFamily", "()V"⟩
abbrev cX11_idle : ByteArray := prog_13_method_37_code
def yX11_idle : MethodName := ⟨RX11, "idle", "()I"⟩
abbrev cX11_wrongEntry : ByteArray := prog_13_method_38_code
def yX11_wrongEntry : MethodName := ⟨RX11, "wrongEntry", "()I"⟩
abbrev cX11_looks : ByteArray := prog_13_method_39_code
def yX11_looks : MethodName := ⟨RX11, "looks", "()I"⟩
abbrev cX11_byFamily : ByteArray := prog_13_method_40_code
def yX11_byFamily : MethodName := ⟨RX11, "byFamily", "(Z)I"⟩
abbrev cX11_told : ByteArray := prog_13_method_41_code
def yX11_told : MethodName := ⟨RX11, "told", "(I)I"⟩
abbrev cX11_has : ByteArray := prog_13_method_42_code
def yX11_has : MethodName := ⟨RX11, "has", "(II)I"⟩
abbrev cX11_from : ByteArray := prog_13_method_43_code
def yX11_from : MethodName := ⟨RX11, "from", "(II)I"⟩
abbrev cX11_costBy : ByteArray := prog_13_method_44_code
def yX11_costBy : MethodName := ⟨RX11, "costBy", "(II)I"⟩
abbrev cX11_nearest : ByteArray := prog_13_method_45_code
def yX11_nearest : MethodName := ⟨RX11, "nearest", "(I)I"⟩
abbrev cX11_toldAt : ByteArray := prog_13_method_46_code
def yX11_toldAt : MethodName := ⟨RX11, "toldAt", "(I)I"⟩
abbrev cX11_lookNumber : ByteArray := prog_13_method_47_code
def yX11_lookNumber : MethodName := ⟨RX11, "lookNumber", "(I)I"⟩
abbrev cX11_paragraphAt : ByteArray := prog_13_method_48_code
def yX11_paragraphAt : MethodName := ⟨RX11, "paragraphAt", "(II)I"⟩
abbrev cX11_above : ByteArray := prog_13_method_49_code
def yX11_above : MethodName := ⟨RX11, "above", "(I)I"⟩
abbrev cX11_havers : ByteArray := prog_13_method_50_code
def yX11_havers : MethodName := ⟨RX11, "havers", "(I)I"⟩
abbrev cX11_children : ByteArray := prog_13_method_51_code
def yX11_children : MethodName := ⟨RX11, "children", "(I)I"⟩
abbrev cX11_knitParent : ByteArray := prog_13_method_52_code
def yX11_knitParent : MethodName := ⟨RX11, "knitParent", "(I)I"⟩
abbrev cX11_styleAt : ByteArray := prog_13_method_53_code
def yX11_styleAt : MethodName := ⟨RX11, "styleAt", "(II)I"⟩
abbrev cX11_styleHas : ByteArray := prog_13_method_54_code
def yX11_styleHas : MethodName := ⟨RX11, "styleHas", "(II)I"⟩
abbrev cX11_lookAt : ByteArray := prog_13_method_55_code
def yX11_lookAt : MethodName := ⟨RX11, "lookAt", "(II)I"⟩
abbrev cX11_apart : ByteArray := prog_13_method_56_code
def yX11_apart : MethodName := ⟨RX11, "apart", "(II)I"⟩
abbrev cX11_remember : ByteArray := prog_13_method_57_code
def yX11_remember : MethodName := ⟨RX11, "remember", "()V"⟩
abbrev cX11_clear : ByteArray := prog_13_method_58_code
def yX11_clear : MethodName := ⟨RX11, "clear", "(I)V"⟩
abbrev cX11_paragraph : ByteArray := prog_13_method_59_code
def yX11_paragraph : MethodName := ⟨RX11, "paragraph", "()I"⟩
abbrev cX11_style : ByteArray := prog_13_method_60_code
def yX11_style : MethodName := ⟨RX11, "style", "()I"⟩
abbrev cX11_lay : ByteArray := prog_13_method_61_code
def yX11_lay : MethodName := ⟨RX11, "lay", "(II)I"⟩
abbrev cX11_direct : ByteArray := prog_13_method_62_code
def yX11_direct : MethodName := ⟨RX11, "direct", "(III)I"⟩
abbrev cX11_sets : ByteArray := prog_13_method_63_code
def yX11_sets : MethodName := ⟨RX11, "sets", "(III)I"⟩
abbrev cX11_ground : ByteArray := prog_13_method_64_code
def yX11_ground : MethodName := ⟨RX11, "ground", "(II)I"⟩
abbrev cX11_head : ByteArray := prog_13_method_65_code
def yX11_head : MethodName := ⟨RX11, "head", "(I)I"⟩
abbrev cX11_apply : ByteArray := prog_13_method_66_code
def yX11_apply : MethodName := ⟨RX11, "apply", "(II)I"⟩
abbrev cX11_isRing : ByteArray := prog_13_method_67_code
def yX11_isRing : MethodName := ⟨RX11, "isRing", "(II)Z"⟩
abbrev cX11_parent : ByteArray := prog_13_method_68_code
def yX11_parent : MethodName := ⟨RX11, "parent", "(II)I"⟩
abbrev cX11_tellAnew : ByteArray := prog_13_method_69_code
def yX11_tellAnew : MethodName := ⟨RX11, "tellAnew", "(II[II)V"⟩
abbrev cX11_restyle : ByteArray := prog_13_method_70_code
def yX11_restyle : MethodName := ⟨RX11, "restyle", "(II)I"⟩
abbrev cX11_reparent : ByteArray := prog_13_method_71_code
def yX11_reparent : MethodName := ⟨RX11, "reparent", "(II)I"⟩
abbrev cX11_lessAbove : ByteArray := prog_13_method_72_code
def yX11_lessAbove : MethodName := ⟨RX11, "lessAbove", "(II)V"⟩
abbrev cX11_drop : ByteArray := prog_13_method_73_code
def yX11_drop : MethodName := ⟨RX11, "drop", "(I)I"⟩
abbrev cX11_take : ByteArray := prog_13_method_74_code
def yX11_take : MethodName := ⟨RX11, "take", "(I)I"⟩
abbrev cX11_swap : ByteArray := prog_13_method_75_code
def yX11_swap : MethodName := ⟨RX11, "swap", "(II)I"⟩
abbrev cX11_tidy : ByteArray := prog_13_method_76_code
def yX11_tidy : MethodName := ⟨RX11, "tidy", "()I"⟩
abbrev cX11_knit : ByteArray := prog_13_method_77_code
def yX11_knit : MethodName := ⟨RX11, "knit", "()I"⟩
abbrev cX11_adopt : ByteArray := prog_13_method_78_code
def yX11_adopt : MethodName := ⟨RX11, "adopt", "()I"⟩
abbrev cX11_draw : ByteArray := prog_13_method_79_code
def yX11_draw : MethodName := ⟨RX11, "draw", "(I)I"⟩
abbrev cX11_drawValue : ByteArray := prog_13_method_80_code
def yX11_drawValue : MethodName := ⟨RX11, "drawValue", "(I)I"⟩
abbrev cX11_drift : ByteArray := prog_13_method_81_code
def yX11_drift : MethodName := ⟨RX11, "drift", "(I)I"⟩
abbrev cX11_undo : ByteArray := prog_13_method_82_code
def yX11_undo : MethodName := ⟨RX11, "undo", "(I)I"⟩
abbrev cX11_write : ByteArray := prog_13_method_83_code
def yX11_write : MethodName := ⟨RX11, "write", "(III)I"⟩
abbrev cX11_tear : ByteArray := prog_13_method_84_code
def yX11_tear : MethodName := ⟨RX11, "tear", "()I"⟩
abbrev cX11_seed : ByteArray := prog_13_method_85_code
def yX11_seed : MethodName := ⟨RX11, "seed", "(I)I"⟩
abbrev cX11_keep : ByteArray := prog_13_method_86_code
def yX11_keep : MethodName := ⟨RX11, "keep", "(I)I"⟩
abbrev cX11_goBack : ByteArray := prog_13_method_87_code
def yX11_goBack : MethodName := ⟨RX11, "goBack", "(I)I"⟩
def RJ6 : String := "java/lang/Integer"
def TJ6 : u_T := fun k => match k with
  | _ => ("", "", "", false)
def tyJ6 : Nat → FieldType := fun k => match k with
  | _ => .int
abbrev wsJ60 : List Cond := u_ws RJ6 TJ6 0
theorem nmJ6 : ∀ a, a < 0 → ∀ b, b < 0 → a ≠ b → (TJ6 a).2.1 ≠ (TJ6 b).2.1 := by decide +kernel
theorem tyJ6_ok : ∀ k, k < 0 → parseFieldDescriptor (TJ6 k).2.2.1 = some (tyJ6 k) := by decide +kernel
abbrev cJ6_bitCount_0f7a4 : ByteArray := prog_14_method_49_code
def yJ6_bitCount_0f7a4 : MethodName := ⟨RJ6, "bitCount", "(I)I"⟩
def RJ9 : String := "java/lang/Math"
def TJ9 : u_T := fun k => match k with
  | _ => ("", "", "", false)
def tyJ9 : Nat → FieldType := fun k => match k with
  | _ => .int
abbrev wsJ90 : List Cond := u_ws RJ9 TJ9 0
theorem nmJ9 : ∀ a, a < 0 → ∀ b, b < 0 → a ≠ b → (TJ9 a).2.1 ≠ (TJ9 b).2.1 := by decide +kernel
theorem tyJ9_ok : ∀ k, k < 0 → parseFieldDescriptor (TJ9 k).2.2.1 = some (tyJ9 k) := by decide +kernel
abbrev cJ9_min_7cf53 : ByteArray := prog_15_method_69_code
def yJ9_min_7cf53 : MethodName := ⟨RJ9, "min", "(II)I"⟩
def RJ10 : String := "java/lang/System"
def TJ10 : u_T := fun k => match k with
  | _ => ("", "", "", false)
def tyJ10 : Nat → FieldType := fun k => match k with
  | _ => .int
abbrev wsJ100 : List Cond := u_ws RJ10 TJ10 0
theorem nmJ10 : ∀ a, a < 0 → ∀ b, b < 0 → a ≠ b → (TJ10 a).2.1 ≠ (TJ10 b).2.1 := by decide +kernel
theorem tyJ10_ok : ∀ k, k < 0 → parseFieldDescriptor (TJ10 k).2.2.1 = some (tyJ10 k) := by decide +kernel
def RL : String := "StyleFamiliesLaw"
abbrev cL_law : ByteArray := code
def yL_law : MethodName := ⟨RL, "law", "([I)Z"⟩
abbrev vwCl : List vw_C := [(RX0, TX0, 3), (RX1, TX1, 4), (RX2, TX2, 6), (RX3, TX3, 3), (RX4, TX4, 3), (RX5, TX5, 3), (RX6, TX6, 1), (RX7, TX7, 4), (RX8, TX8, 4), (RX10, TX10, 8), (RX11, TX11, 18)]
end
section
/-! ===== THE ABSTRACT MACHINE: a fragment of a method as a function over small states (locals, stack, shape, numbers); 'Snd': the machine follows it ===== -/
def lw_good : List Cond := lw_tbl.filter goodWord
/-- numbers by object and place; the shape: how many objects, how many slots, the kind of each (0..10 a class of vwCl, 100 int[], 101 Sheet[], 102 Image[], 103 int[][]), the length, the references -/
abbrev vM : Type := Nat → Nat → Int32
abbrev vG : Type := Nat × Nat × (Nat → Nat) × (Nat → Nat) × (Nat → Nat → Option Nat)
abbrev vL : Type := List (Option Value)
abbrev vJ : Type := Nat × vL × List Value × vG × vM
abbrev vR : Type := Option Value × vG × vM
abbrev vD : Type := vL → List Value → vG → vM → Option (vJ ⊕ vR)
abbrev vF : Type := List Value → vG → vM → Option vR
def gC (g : vG) (a : Nat) : Nat := g.2.2.1 a
def gL (g : vG) (a : Nat) : Nat := g.2.2.2.1 a
def gR (g : vG) (a k : Nat) : Option Nat := g.2.2.2.2 a k
def nF (c : Nat) : Nat := [3, 4, 6, 3, 3, 3, 1, 4, 4, 8, 18].getD c 0
def rFt : List (List Bool) := [[false, false, true], [false, true, true, true], [false, true, true, false, true, true], [false, false, true], [false, false, true], [false, true, true], [true], [false, false, true, true], [false, true, true, true], [true, true, true, true, true, true, true, false], [true, false, false, false, true, true, true, true, false, true, true, true, false, true, true, true, false, false]]
def rF (c k : Nat) : Bool := (rFt.getD c []).getD k false
def cvA (ad : Nat → Nat) (v : Value) : Value := match v with
  | .ref a => .ref (ad a)
  | w => w
def fO (ad : Nat → Nat) (g : vG) (M : vM) (c a : Nat) : List Value := (List.range (nF c)).map (fun k => if rF c k then va_rf ((gR g a k).map ad) else .int (M a k))
def wE (cx : Nat → ClassId) (ad : Nat → Nat) (g : vG) (M : vM) (a : Nat) : va_E :=
  if gC g a < 100 then .inr (gC g a, fO ad g M (gC g a) a)
  else if gC g a = 100 then .inl (cx 0, gL g a, .inl (M a))
  else .inl (cx (gC g a - 100), gL g a, .inr (.inr (.inr (.inr (fun j => (gR g a j).map ad)))))
def wW (cx : Nat → ClassId) (ad : Nat → Nat) (g : vG) (M : vM) : va_W := (List.range g.1).map (fun a => (ad a, wE cx ad g M a))
def mset (M : vM) (a k : Nat) (v : Int32) : vM := fun b => if b = a then upd (M a) k v else M b
def mcpy (M : vM) (s d sp dp n : Nat) : vM := fun b => if b = d then va_cpy (M s) (M d) sp dp n else M b
theorem wW_at {cx : Nat → ClassId} {ad : Nat → Nat} {g : vG} {M : vM} {a : Nat} (h : a < g.1) : (wW cx ad g M)[a]? = some (ad a, wE cx ad g M a) := by
  simp [wW, h]
theorem wW_lt {cx : Nat → ClassId} {ad : Nat → Nat} {g : vG} {M : vM} {a : Nat} {q : Nat × va_E} (h : (wW cx ad g M)[a]? = some q) : a < g.1 ∧ q = (ad a, wE cx ad g M a) := by
  have hl : a < g.1 := by
    have := (List.getElem?_eq_some_iff.mp h).1
    simpa [wW] using this
  rw [wW_at hl] at h
  exact ⟨hl, (Option.some.inj h).symm⟩
theorem wE_o {cx : Nat → ClassId} {ad : Nat → Nat} {g : vG} {M : vM} {a c : Nat} (h : gC g a = c) (hc : c < 100) : wE cx ad g M a = .inr (c, fO ad g M c a) := by
  subst h
  simp [wE, hc]
theorem wE_i {cx : Nat → ClassId} {ad : Nat → Nat} {g : vG} {M : vM} {a : Nat} (h : gC g a = 100) : wE cx ad g M a = .inl (cx 0, gL g a, .inl (M a)) := by
  simp [wE, h]
theorem wE_r {cx : Nat → ClassId} {ad : Nat → Nat} {g : vG} {M : vM} {a t : Nat} (h : gC g a = 100 + t) (ht : 0 < t) : wE cx ad g M a = .inl (cx t, gL g a, .inr (.inr (.inr (.inr (fun j => (gR g a j).map ad))))) := by
  have h1 : ¬ 100 + t < 100 := by omega
  have h2 : ¬ 100 + t = 100 := by omega
  unfold wE
  rw [h, if_neg h1, if_neg h2, Nat.add_sub_cancel_left]
/-- a world with one cell anew is the world of other numbers -/
theorem wW_set {cx : Nat → ClassId} {ad : Nat → Nat} {g g' : vG} {M M' : vM} {a : Nat} {e : va_E} (hn : g'.1 = g.1) (he : wE cx ad g' M' a = e) (ho : ∀ b, b ≠ a → wE cx ad g' M' b = wE cx ad g M b) : (wW cx ad g M).set a (ad a, e) = wW cx ad g' M' := by
  apply List.ext_getElem?
  intro i
  by_cases hi : i < g.1
  · rw [wW_at (g := g') (by omega)]
    by_cases h : i = a
    · subst h
      rw [List.getElem?_set_self (by simpa [wW] using hi), he]
    · rw [List.getElem?_set_ne (fun q => h q.symm), wW_at hi, ho i h]
  · rw [List.getElem?_eq_none (by simp [wW]; omega), List.getElem?_eq_none (by simp [wW]; omega)]
theorem wE_M {cx : Nat → ClassId} {ad : Nat → Nat} {g : vG} {M M' : vM} {b : Nat} (h : M' b = M b) : wE cx ad g M' b = wE cx ad g M b := by
  unfold wE fO
  rw [h]
theorem mset_ne {M : vM} {a k b : Nat} {v : Int32} (h : b ≠ a) : mset M a k v b = M b := if_neg h
theorem mset_eq {M : vM} {a k : Nat} {v : Int32} : mset M a k v a = upd (M a) k v := if_pos rfl
theorem mcpy_ne {M : vM} {s d sp dp n b : Nat} (h : b ≠ d) : mcpy M s d sp dp n b = M b := if_neg h
theorem mcpy_eq {M : vM} {s d sp dp n : Nat} : mcpy M s d sp dp n d = va_cpy (M s) (M d) sp dp n := if_pos rfl
theorem fO_len {ad : Nat → Nat} {g : vG} {M : vM} {c a : Nat} : (fO ad g M c a).length = nF c := by simp [fO]
theorem fO_at {ad : Nat → Nat} {g : vG} {M : vM} {c a k : Nat} (h : k < nF c) : (fO ad g M c a)[k]? = some (if rF c k then va_rf ((gR g a k).map ad) else .int (M a k)) := by simp [fO, h]
theorem fO_set {ad : Nat → Nat} {g : vG} {M : vM} {c a k : Nat} {v : Int32} (hk : k < nF c) (hr : rF c k = false) : (fO ad g M c a).set k (.int v) = fO ad g (mset M a k v) c a := by
  apply List.ext_getElem?
  intro i
  by_cases hi : i < nF c
  · rw [fO_at hi]
    by_cases h : i = k
    · subst h
      rw [List.getElem?_set_self (by rw [fO_len]; exact hi), hr, mset_eq]
      simp [upd]
    · rw [List.getElem?_set_ne (fun q => h q.symm), fO_at hi, mset_eq]
      simp [upd, h]
  · rw [List.getElem?_eq_none (by rw [List.length_set, fO_len]; omega), List.getElem?_eq_none (by rw [fO_len]; omega)]
def tyL (cx : Nat → ClassId) : List (ClassId × FieldType) := [(cx 0, .int), (cx 1, .object "StyleFamilies$Sheet"), (cx 2, .object "StyleFamilies$Image"), (cx 3, .array .int)]
def sN (t : Nat) : String := ["SHIFT", "MASK", "TOP", "RANDOM_STEP"].getD t ""
def sVt : List (List Int32) := [[23, 22, 15, 8, 4, 0], [1, 1, 127, 127, 15, 15], [1, 1, 99, 99, 9, 9], [1, 1, 5, 5, 2, 2]]
def sV (t j : Nat) : Int32 := (sVt.getD t []).getD j 0
/-- the four static arrays: abstract references 1000 to 1003 -/
def Stt (ad : Nat → Nat) (A : Nat → Prop) (U : State) (H : Heap) : Prop := ∀ t, t < 4 → va_Z "StyleFamilies$Values" (sN t) "[I" (.ref (ad (1000 + t))) A U H ∧ va_X (ad (1000 + t)) 6 (sV t) U H ∧ ¬ A (ad (1000 + t))
def lw_nst : List Cond := lw_tbl.filter (fun w => match w with | .methodLinkNest .. => true | _ => false)
def Nst (U : State) : Prop := (∀ w ∈ lw_nst, va_Nw w U) ∧ va_AO "StyleFamilies$Sheet" U ∧ va_AO "StyleFamilies$Image" U ∧ (Cond.arrayOver (.array .int)).before #[] U = true
def rmL (lev mc ms : Nat) : Room := { frames := lev, cells := mc, slots := ms, locals := 36 * lev }
/-- the world at a state: the cells, apart, the tables, what is free -/
def Wd (D : va_G) (cx : Nat → ClassId) (ad : Nat → Nat) (A : Nat → Prop) (mc : Nat) (g : vG) (M : vM) (sz : Nat) (U : State) : Prop :=
  U.heap.size = sz ∧ va_P D vwCl (wW cx ad g M) U.heap ∧ va_D A (wW cx ad g M) ∧ va_K D vwCl (tyL cx) U ∧ (∀ q, sz ≤ q → A q) ∧ Stt ad A U U.heap ∧ Nst U ∧ (mc ≠ 0 → ∀ j, g.1 + j < 1000 → ad (g.1 + j) = sz + j)
def PoC (D : va_G) (cx : Nat → ClassId) (ad : Nat → Nat) (A : Nat → Prop) (mc ms : Nat) (g0 : vG) (v : Option Value) (g : vG) (M : vM) : Array Value → State → Outcome → State → Prop := fun _ st oc t =>
  oc = .returned (v.map (cvA ad)) ∧ (g.1 = g0.1 + mc ∧ g.2.1 = g0.2.1 + ms ∧ (mc = 0 → g = g0)) ∧ va_P D vwCl (wW cx ad g M) t.heap ∧ va_D A (wW cx ad g M) ∧ t.heap.size = st.heap.size + mc ∧ va_F A st t
/-- a method's contract: what its function says, it does -/
def Ctr (y : MethodName) (cc : ByteArray) (nL : Nat) (ret : Option FieldType) (lev mc ms : Nat) (f : vF) : Prop :=
  ∀ (l : Launch) (D : va_G) (cx : Nat → ClassId) (ad : Nat → Nat) (A : Nat → Prop) (sz : Nat) (as : List Value) (g : vG) (M : vM) (v : Option Value) (g' : vG) (M' : vM), f as g M = some (v, g', M') →
    Met l y (.code y cc nL ret :: lw_good) (rmL lev mc ms) (va_Pc (as.map (cvA ad)) (Wd D cx ad A mc g M sz)) (PoC D cx ad A mc ms g v g' M') mc ms A
/-- locals -/
def lR (ad : Nat → Nat) (L : vL) (ls : Array Slot) (nL : Nat) : Prop := ls.size = nL ∧ lv_wf ls ∧ ∀ (i : Nat) (v : Value), L[i]? = some (some v) → ls[i]? = some (.val (cvA ad v))
def Fx (p : Program) (s : State) (m : MethodId) (args : Array Value) (meth : Method) (c : Code) (D : va_G) (cx : Nat → ClassId) (ad : Nat → Nat) (A : Nat → Prop) (y : MethodName) (cc : ByteArray) (nL : Nat) (ret : Option FieldType) : Prop :=
  p.tables.exec = Jvm.exec ∧ c.code = cc ∧ c.maxLocals = nL ∧ s.vm.findClass y.cls = some m.cls ∧ (∀ w ∈ lw_good, w.before args s = true) ∧ meth.sig.returnType = ret ∧ meth.locks = false ∧ meth.name = y.name ∧ va_K D vwCl (tyL cx) s ∧ (∀ q, s.heap.size ≤ q → A q) ∧ Stt ad A s s.heap ∧ Nst s
def Iv (D : va_G) (cx : Nat → ClassId) (ad : Nat → Nat) (A : Nat → Prop) (mc ms : Nat) (g0 : vG) (s : State) (H : Heap) (locs : List Loc) (G : vG) (M : vM) : Prop :=
  va_P D vwCl (wW cx ad G M) H ∧ va_D A (wW cx ad G M) ∧ va_S A s.heap H locs ∧ (g0.1 ≤ G.1 ∧ H.size = s.heap.size + (G.1 - g0.1) ∧ g0.2.1 ≤ G.2.1 ∧ G.1 ≤ g0.1 + mc ∧ G.2.1 ≤ g0.2.1 + ms) ∧ (mc = 0 → G = g0) ∧ (mc ≠ 0 → ∀ j, G.1 + j < 1000 → ad (G.1 + j) = H.size + j)
def Rs (p : Program) (l : Launch) (e : Env) (s : State) (m : MethodId) (args : Array Value) (below : List Frame) (meth : Method) (c : Code) (D : va_G) (cx : Nat → ClassId) (ad : Nat → Nat) (A : Nat → Prop) (nL lev mc ms : Nat) (g0 : vG) (H : Heap) (locs : List Loc) (G : vG) (g : JFrame) (out : vJ ⊕ vR) : Prop := match out with
  | .inl (pc', L', st', G', M') => ∀ Q : State → Prop, (∀ (H' : Heap) (locs' : List Loc) (ls' : Array Slot), Iv D cx ad A mc ms g0 s H' locs' G' M' → lR ad L' ls' nL → W p l e (rmL lev mc ms) s m args below meth c H' locs' (G'.1 - g0.1) (G'.2.1 - g0.2.1) Q (F0 m pc' ls' (st'.map (cvA ad)))) → W p l e (rmL lev mc ms) s m args below meth c H locs (G.1 - g0.1) (G.2.1 - g0.2.1) Q g
  | .inr (v, G', M') => W p l e (rmL lev mc ms) s m args below meth c H locs (G.1 - g0.1) (G.2.1 - g0.2.1) (MQ below (PoC D cx ad A mc ms g0 v G' M') args s mc ms A) g
/-- the machine follows the fragment d from pc on -/
def Snd (y : MethodName) (cc : ByteArray) (nL : Nat) (ret : Option FieldType) (lev mc ms : Nat) (g0 : vG) (pc : Nat) (d : vD) : Prop :=
  ∀ (p : Program) (l : Launch) (e : Env) (s : State) (m : MethodId) (args : Array Value) (below : List Frame) (meth : Method) (c : Code) (D : va_G) (cx : Nat → ClassId) (ad : Nat → Nat) (A : Nat → Prop), Fx p s m args meth c D cx ad A y cc nL ret →
    ∀ (H : Heap) (locs : List Loc) (ls : Array Slot) (L : vL) (st : List Value) (G : vG) (M : vM), Iv D cx ad A mc ms g0 s H locs G M → lR ad L ls nL →
      ∀ out, d L st G M = some out → Rs p l e s m args below meth c D cx ad A nL lev mc ms g0 H locs G (F0 m pc ls (st.map (cvA ad))) out
-- the operations
def op_con (x : Int32) (k : vD) : vD := fun L st G M => k L (.int x :: st) G M
def op_ild (i : Nat) (k : vD) : vD := fun L st G M => match L.getD i none with
  | some (.int x) => k L (.int x :: st) G M
  | _ => none
def op_ald (i : Nat) (k : vD) : vD := fun L st G M => match L.getD i none with
  | some (.ref x) => k L (.ref x :: st) G M
  | _ => none
/-- a value of two slots stands just ahead -/
def lgb (L : vL) (i : Nat) : Bool := match i with
  | 0 => false
  | j + 1 => match L.getD j none with
    | some v => v.category == 2
    | none => false
def op_ist (i : Nat) (k : vD) : vD := fun L st G M => match st with
  | .int x :: r => if lgb L i then none else k (L.set i (some (.int x))) r G M
  | _ => none
def op_inc (i : Nat) (n : Int32) (k : vD) : vD := fun L st G M => match L.getD i none with
  | some (.int x) => if lgb L i then none else k (L.set i (some (.int (x + n)))) st G M
  | _ => none
def op_bin (f : Int32 → Int32 → Int32) (k : vD) : vD := fun L st G M => match st with
  | .int y :: .int x :: r => k L (.int (f x y) :: r) G M
  | _ => none
def op_div (f : Int32 → Int32 → Int32) (k : vD) : vD := fun L st G M => match st with
  | .int y :: .int x :: r => if y = 0 then none else k L (.int (f x y) :: r) G M
  | _ => none
def op_dup (k : vD) : vD := fun L st G M => match st with
  | v :: r => if v.category = 1 then k L (v :: v :: r) G M else none
  | _ => none
def op_dup2 (k : vD) : vD := fun L st G M => match st with
  | v :: w :: r => if v.category = 1 ∧ w.category = 1 then k L (v :: w :: v :: w :: r) G M else none
  | _ => none
def op_pop (k : vD) : vD := fun L st G M => match st with
  | v :: r => if v.category = 1 then k L r G M else none
  | _ => none
def op_ifeq (kt kf : vD) : vD := fun L st G M => match st with
  | .int x :: r => if x = 0 then kt L r G M else kf L r G M
  | _ => none
def op_ifne (kt kf : vD) : vD := fun L st G M => match st with
  | .int x :: r => if x = 0 then kf L r G M else kt L r G M
  | _ => none
def op_iflt (kt kf : vD) : vD := fun L st G M => match st with
  | .int x :: r => if x < 0 then kt L r G M else kf L r G M
  | _ => none
def op_ifge (kt kf : vD) : vD := fun L st G M => match st with
  | .int x :: r => if 0 ≤ x then kt L r G M else kf L r G M
  | _ => none
def op_ifgt (kt kf : vD) : vD := fun L st G M => match st with
  | .int x :: r => if 0 < x then kt L r G M else kf L r G M
  | _ => none
def op_ifle (kt kf : vD) : vD := fun L st G M => match st with
  | .int x :: r => if x ≤ 0 then kt L r G M else kf L r G M
  | _ => none
def op_iceq (kt kf : vD) : vD := fun L st G M => match st with
  | .int y :: .int x :: r => if x = y then kt L r G M else kf L r G M
  | _ => none
def op_icne (kt kf : vD) : vD := fun L st G M => match st with
  | .int y :: .int x :: r => if x = y then kf L r G M else kt L r G M
  | _ => none
def op_iclt (kt kf : vD) : vD := fun L st G M => match st with
  | .int y :: .int x :: r => if x < y then kt L r G M else kf L r G M
  | _ => none
def op_icge (kt kf : vD) : vD := fun L st G M => match st with
  | .int y :: .int x :: r => if y ≤ x then kt L r G M else kf L r G M
  | _ => none
def op_icgt (kt kf : vD) : vD := fun L st G M => match st with
  | .int y :: .int x :: r => if y < x then kt L r G M else kf L r G M
  | _ => none
def op_icle (kt kf : vD) : vD := fun L st G M => match st with
  | .int y :: .int x :: r => if x ≤ y then kt L r G M else kf L r G M
  | _ => none
def op_jmp (pc : Nat) : vD := fun L st G M => some (.inl (pc, L, st, G, M))
def op_seq (pj : Nat) (a b : vD) : vD := fun L st G M => match a L st G M with
  | some (.inl (p, L', st', G', M')) => if p = pj then b L' st' G' M' else some (.inl (p, L', st', G', M'))
  | o => o
def op_loop (ph : Nat) (b : vD) : Nat → vD
  | 0 => fun _ _ _ _ => none
  | n + 1 => fun L st G M => match b L st G M with
    | some (.inl (p, L', st', G', M')) => if p = ph then op_loop ph b n L' st' G' M' else some (.inl (p, L', st', G', M'))
    | o => o
/-- forget locals: keep those of which the list says true -/
def op_kil (ks : List Bool) (k : vD) : vD := fun L st G M => k (List.zipWith (fun b v => if b then v else none) ks L) st G M
def op_ret : vD := fun _ st G M => match st with
  | [.int x] => some (.inr (some (.int x), G, M))
  | _ => none
def op_zret : vD := fun _ st G M => match st with
  | [.int x] => if x = 0 ∨ x = 1 then some (.inr (some (.int x), G, M)) else none
  | _ => none
def op_vret : vD := fun _ st G M => match st with
  | [] => some (.inr (none, G, M))
  | _ => none
def op_aret : vD := fun _ st G M => match st with
  | [.ref x] => some (.inr (some (.ref x), G, M))
  | _ => none
/-- the object is there and of that kind -/
def gAt (G : vG) (a c : Nat) : Bool := decide (a < G.1) && (gC G a == c)
def op_gfi (c j : Nat) (k : vD) : vD := fun L st G M => match st with
  | .ref a :: r => if gAt G a c then k L (.int (M a j) :: r) G M else none
  | _ => none
def op_gfr (c j : Nat) (k : vD) : vD := fun L st G M => match st with
  | .ref a :: r => if gAt G a c then (match gR G a j with
    | some b => k L (.ref b :: r) G M
    | none => none) else none
  | _ => none
def op_pfi (c j : Nat) (k : vD) : vD := fun L st G M => match st with
  | .int x :: .ref a :: r => if gAt G a c then k L r G (mset M a j x) else none
  | _ => none
/-- the index is within -/
def inB (i : Int32) (n : Nat) : Bool := decide (0 ≤ i) && decide (i.toNatClampNeg < n)
def op_ial (k : vD) : vD := fun L st G M => match st with
  | .int i :: .ref a :: r => if gAt G a 100 && inB i (gL G a) then k L (.int (M a i.toNatClampNeg) :: r) G M else none
  | _ => none
def op_ias (k : vD) : vD := fun L st G M => match st with
  | .int x :: .int i :: .ref a :: r => if gAt G a 100 && inB i (gL G a) then k L r G (mset M a i.toNatClampNeg x) else none
  | _ => none
def op_aal (t : Nat) (k : vD) : vD := fun L st G M => match st with
  | .int i :: .ref a :: r => if gAt G a (100 + t) && inB i (gL G a) then (match gR G a i.toNatClampNeg with
    | some b => k L (.ref b :: r) G M
    | none => none) else none
  | _ => none
def op_gst (t : Nat) (k : vD) : vD := fun L st G M => k L (.ref (1000 + t) :: st) G M
def op_sal (t : Nat) (k : vD) : vD := fun L st G M => match st with
  | .int i :: .ref a :: r => if a = 1000 + t ∧ inB i 6 = true then k L (.int (sV t i.toNatClampNeg) :: r) G M else none
  | _ => none
def op_cal (n : Nat) (f : vF) (k : vD) : vD := fun L st G M => if n ≤ st.length ∧ st.length ≤ n + 4 then (match f (st.take n).reverse G M with
  | some (some v, G', M') => k L (v :: st.drop n) G' M'
  | some (none, G', M') => k L (st.drop n) G' M'
  | none => none) else none
def op_calV (c n : Nat) (f : vF) (k : vD) : vD := fun L st G M => match st.drop n with
  | .ref a :: r => if gAt G a c ∧ r.length ≤ 4 then (match f (.ref a :: (st.take n).reverse) G M with
    | some (some v, G', M') => k L (v :: r) G' M'
    | some (none, G', M') => k L r G' M'
    | none => none) else none
  | _ => none
def op_acp (k : vD) : vD := fun L st G M => match st with
  | .int n :: .int dp :: .ref d :: .int sp :: .ref a :: r => if gAt G a 100 && gAt G d 100 && decide (0 ≤ n) && decide (0 ≤ dp) && decide (0 ≤ sp) && decide (sp.toNatClampNeg + n.toNatClampNeg ≤ gL G a) && decide (dp.toNatClampNeg + n.toNatClampNeg ≤ gL G d) && decide (r.length ≤ 4) then k L r G (mcpy M a d sp.toNatClampNeg dp.toNatClampNeg n.toNatClampNeg) else none
  | _ => none
def en (as : List Value) (nL : Nat) : vL := as.map some ++ List.replicate (nL - as.length) none
def runD (d : vD) (nL : Nat) : vF := fun as G M => if as.length ≤ nL ∧ as.all (fun v => v.category == 1) = true then (match d (en as nL) [] G M with
  | some (.inr r) => some r
  | _ => none) else none
end
section
/-! ===== the machine follows the operations ===== -/
section SND
variable {p : Program} {l : Launch} {e : Env} {s : State} {m : MethodId} {args : Array Value} {below : List Frame} {meth : Method} {c : Code} {D : va_G} {cx : Nat → ClassId} {ad : Nat → Nat} {A : Nat → Prop}
variable {y : MethodName} {cc : ByteArray} {nL : Nat} {ret : Option FieldType} {lev mc ms : Nat} {g0 : vG} {pc pc' : Nat} {k : vD}
theorem Rs.go (hk : Snd y cc nL ret lev mc ms g0 pc' k) (F : Fx p s m args meth c D cx ad A y cc nL ret) {H : Heap} {locs : List Loc} {G : vG} {L2 : vL} {st2 : List Value} {G2 : vG} {M2 : vM} {out : vJ ⊕ vR} (ho : k L2 st2 G2 M2 = some out) {g : JFrame}
    (hW : ∀ Q : State → Prop, (∀ (H2 : Heap) (locs2 : List Loc) (ls2 : Array Slot), Iv D cx ad A mc ms g0 s H2 locs2 G2 M2 → lR ad L2 ls2 nL → W p l e (rmL lev mc ms) s m args below meth c H2 locs2 (G2.1 - g0.1) (G2.2.1 - g0.2.1) Q (F0 m pc' ls2 (st2.map (cvA ad)))) → W p l e (rmL lev mc ms) s m args below meth c H locs (G.1 - g0.1) (G.2.1 - g0.2.1) Q g) :
    Rs p l e s m args below meth c D cx ad A nL lev mc ms g0 H locs G g out := by
  match out, ho with
  | .inl (pc2, L', st', G', M'), ho => exact fun Q hQ => hW Q (fun H2 locs2 ls2 hI2 hL2 => hk p l e s m args below meth c D cx ad A F H2 locs2 ls2 L2 st2 G2 M2 hI2 hL2 _ ho Q hQ)
  | .inr (v, G', M'), ho => exact hW _ (fun H2 locs2 ls2 hI2 hL2 => hk p l e s m args below meth c D cx ad A F H2 locs2 ls2 L2 st2 G2 M2 hI2 hL2 _ ho)
theorem cvA_cat (v : Value) : (cvA ad v).category = v.category := by cases v <;> rfl
theorem lR_at {L : vL} {ls : Array Slot} {i : Nat} {v : Value} (h : lR ad L ls nL) (hi : L.getD i none = some v) : ls[i]? = some (.val (cvA ad v)) := by
  refine h.2.2 i v ?_
  rw [List.getD_eq_getElem?_getD] at hi
  cases hL : L[i]? with
  | none => rw [hL] at hi; cases hi
  | some w => rw [hL] at hi; exact congrArg some hi
def prs (ad : Nat → Nat) (L : vL) : List (Nat × Value) := (List.range L.length).filterMap (fun i => (L.getD i none).map (fun v => (i, cvA ad v)))
theorem lR_has {L : vL} {ls : Array Slot} (h : lR ad L ls nL) : lv_has ls nL (prs ad L) := by
  refine ⟨h.1, h.2.1, fun q hq => ?_⟩
  obtain ⟨i, -, hi⟩ := List.mem_filterMap.mp hq
  cases hv : L.getD i none with
  | none => rw [hv] at hi; cases hi
  | some v =>
    rw [hv] at hi
    cases hi
    exact lR_at h hv
theorem prs_in {L : vL} {j : Nat} {v : Value} (h : L[j]? = some (some v)) : (j, cvA ad v) ∈ prs ad L := by
  refine List.mem_filterMap.mpr ⟨j, List.mem_range.mpr (List.getElem?_eq_some_iff.mp h).1, ?_⟩
  rw [List.getD_eq_getElem?_getD, h]
  rfl
theorem lR_set1 {L : vL} {ls : Array Slot} {i : Nat} {v : Value} (hg : lgb L i = false) (h : lv_has ls nL ((i, cvA ad v) :: (prs ad L).filter (fun q => !(q.1 == i) && !(q.1 + 1 == i && q.2.category == 2)))) : lR ad (L.set i (some v)) ls nL := by
  refine ⟨h.1, h.2.1, fun j w hj => ?_⟩
  by_cases hji : j = i
  · subst hji
    have hl : j < L.length := by
      have := (List.getElem?_eq_some_iff.mp hj).1
      simpa using this
    rw [List.getElem?_set_self hl] at hj
    cases hj
    exact h.2.2 (j, cvA ad v) List.mem_cons_self
  · rw [List.getElem?_set_ne (fun q => hji q.symm)] at hj
    refine h.2.2 (j, cvA ad w) (List.mem_cons_of_mem _ (List.mem_filter.mpr ⟨prs_in hj, ?_⟩))
    have hb : (j + 1 == i && (cvA ad w).category == 2) = false := by
      by_cases hj1 : j + 1 = i
      · subst hj1
        have : lgb L (j + 1) = (w.category == 2) := by
          show (match L.getD j none with
            | some v => v.category == 2
            | none => false) = _
          rw [List.getD_eq_getElem?_getD, hj]
          rfl
        rw [this] at hg
        rw [cvA_cat, hg]
        simp
      · simp [hj1]
    simp [hji, hb]
theorem s_con {n : Int} {x : Int32} (hd : decode cc pc = .ok (.iconst n, 1)) (hv : Int32.ofInt n = x) (hp : pc + 1 = pc') (hk : Snd y cc nL ret lev mc ms g0 pc' k) : Snd y cc nL ret lev mc ms g0 pc (op_con x k) := by
  subst hp
  intro p l e s m args below meth c D cx ad A F H locs ls L st G M hI hL out ho
  obtain ⟨hx, hb, -⟩ := id F
  exact Rs.go (G2 := G) hk F ho (fun Q kk => lv_iconst hx hb hd hv (kk H locs ls hI hL))
theorem s_bip {n : Int} {x : Int32} (hd : decode cc pc = .ok (.bipush n, 2)) (hv : (Int8.ofInt n).toInt32 = x) (hp : pc + 2 = pc') (hk : Snd y cc nL ret lev mc ms g0 pc' k) : Snd y cc nL ret lev mc ms g0 pc (op_con x k) := by
  subst hp
  intro p l e s m args below meth c D cx ad A F H locs ls L st G M hI hL out ho
  obtain ⟨hx, hb, -⟩ := id F
  exact Rs.go (G2 := G) hk F ho (fun Q kk => lv_bipush hx hb hd hv (kk H locs ls hI hL))
theorem s_sip {n : Int} {x : Int32} (hd : decode cc pc = .ok (.sipush n, 3)) (hv : (Int16.ofInt n).toInt32 = x) (hp : pc + 3 = pc') (hk : Snd y cc nL ret lev mc ms g0 pc' k) : Snd y cc nL ret lev mc ms g0 pc (op_con x k) := by
  subst hp
  intro p l e s m args below meth c D cx ad A F H locs ls L st G M hI hL out ho
  obtain ⟨hx, hb, -⟩ := id F
  exact Rs.go (G2 := G) hk F ho (fun Q kk => lv_sipush hx hb hd hv (kk H locs ls hI hL))
theorem s_ldc {n : Nat} {x : Int32} (hd : decode cc pc = .ok (.ldc n, 2)) (hw : Cond.constant y.cls n x ∈ lw_good) (hp : pc + 2 = pc') (hk : Snd y cc nL ret lev mc ms g0 pc' k) : Snd y cc nL ret lev mc ms g0 pc (op_con x k) := by
  subst hp
  intro p l e s m args below meth c D cx ad A F H locs ls L st G M hI hL out ho
  obtain ⟨hx, hb, -, hown, hts, -⟩ := id F
  exact Rs.go (G2 := G) hk F ho (fun Q kk => lv_ldc hx hb hown (hts _ hw) hd (kk H locs ls hI hL))
theorem s_ldw {n : Nat} {x : Int32} (hd : decode cc pc = .ok (.ldc_w n, 3)) (hw : Cond.constant y.cls n x ∈ lw_good) (hp : pc + 3 = pc') (hk : Snd y cc nL ret lev mc ms g0 pc' k) : Snd y cc nL ret lev mc ms g0 pc (op_con x k) := by
  subst hp
  intro p l e s m args below meth c D cx ad A F H locs ls L st G M hI hL out ho
  obtain ⟨hx, hb, -, hown, hts, -⟩ := id F
  exact Rs.go (G2 := G) hk F ho (fun Q kk => lv_ldcw hx hb hown (hts _ hw) hd (kk H locs ls hI hL))
theorem s_ildn {i : Nat} {j : Fin 4} (hd : decode cc pc = .ok (.iload_n j, 1)) (hi : (j : Nat) = i) (hp : pc + 1 = pc') (hk : Snd y cc nL ret lev mc ms g0 pc' k) : Snd y cc nL ret lev mc ms g0 pc (op_ild i k) := by
  subst hp
  intro p l e s m args below meth c D cx ad A F H locs ls L st G M hI hL out ho
  obtain ⟨hx, hb, -⟩ := id F
  unfold op_ild at ho
  split at ho
  · next x hg => exact Rs.go (G2 := G) hk F ho (fun Q kk => lv_iload_n hx hb hd hi (lR_at hL hg) (kk H locs ls hI hL))
  · cases ho
theorem s_ild {i : Nat} (hd : decode cc pc = .ok (.iload i, 2)) (hp : pc + 2 = pc') (hk : Snd y cc nL ret lev mc ms g0 pc' k) : Snd y cc nL ret lev mc ms g0 pc (op_ild i k) := by
  subst hp
  intro p l e s m args below meth c D cx ad A F H locs ls L st G M hI hL out ho
  obtain ⟨hx, hb, -⟩ := id F
  unfold op_ild at ho
  split at ho
  · next x hg => exact Rs.go (G2 := G) hk F ho (fun Q kk => lv_iload hx hb hd (lR_at hL hg) (kk H locs ls hI hL))
  · cases ho
theorem s_aldn {i : Nat} {j : Fin 4} (hd : decode cc pc = .ok (.aload_n j, 1)) (hi : (j : Nat) = i) (hp : pc + 1 = pc') (hk : Snd y cc nL ret lev mc ms g0 pc' k) : Snd y cc nL ret lev mc ms g0 pc (op_ald i k) := by
  subst hp
  intro p l e s m args below meth c D cx ad A F H locs ls L st G M hI hL out ho
  obtain ⟨hx, hb, -⟩ := id F
  unfold op_ald at ho
  split at ho
  · next x hg => exact Rs.go (G2 := G) hk F ho (fun Q kk => lv_aload_n hx hb hd hi (lR_at hL hg) (kk H locs ls hI hL))
  · cases ho
theorem s_ald {i : Nat} (hd : decode cc pc = .ok (.aload i, 2)) (hp : pc + 2 = pc') (hk : Snd y cc nL ret lev mc ms g0 pc' k) : Snd y cc nL ret lev mc ms g0 pc (op_ald i k) := by
  subst hp
  intro p l e s m args below meth c D cx ad A F H locs ls L st G M hI hL out ho
  obtain ⟨hx, hb, -⟩ := id F
  unfold op_ald at ho
  split at ho
  · next x hg => exact Rs.go (G2 := G) hk F ho (fun Q kk => lv_aload hx hb hd (lR_at hL hg) (kk H locs ls hI hL))
  · cases ho
theorem s_istn {i : Nat} {j : Fin 4} (hd : decode cc pc = .ok (.istore_n j, 1)) (hi : (j : Nat) = i) (hn : i < nL) (hp : pc + 1 = pc') (hk : Snd y cc nL ret lev mc ms g0 pc' k) : Snd y cc nL ret lev mc ms g0 pc (op_ist i k) := by
  subst hp
  intro p l e s m args below meth c D cx ad A F H locs ls L st G M hI hL out ho
  obtain ⟨hx, hb, -⟩ := id F
  unfold op_ist at ho
  split at ho
  · next x r =>
    split at ho
    · cases ho
    · next hg => exact Rs.go (G2 := G) hk F ho (fun Q kk => lv_istore_n hx hb hd hi (lR_has hL) hn rfl (fun ls' h' => kk H locs ls' hI (lR_set1 (v := .int x) (by simpa using hg) h')))
  · cases ho
theorem s_ist {i : Nat} (hd : decode cc pc = .ok (.istore i, 2)) (hn : i < nL) (hp : pc + 2 = pc') (hk : Snd y cc nL ret lev mc ms g0 pc' k) : Snd y cc nL ret lev mc ms g0 pc (op_ist i k) := by
  subst hp
  intro p l e s m args below meth c D cx ad A F H locs ls L st G M hI hL out ho
  obtain ⟨hx, hb, -⟩ := id F
  unfold op_ist at ho
  split at ho
  · next x r =>
    split at ho
    · cases ho
    · next hg => exact Rs.go (G2 := G) hk F ho (fun Q kk => lv_istore hx hb hd (lR_has hL) hn rfl (fun ls' h' => kk H locs ls' hI (lR_set1 (v := .int x) (by simpa using hg) h')))
  · cases ho
end SND
end
section
/-! ===== the machine follows the operations, 2: numbers, branches, joins, loops, returns ===== -/
section SND2
variable {p : Program} {l : Launch} {e : Env} {s : State} {m : MethodId} {args : Array Value} {below : List Frame} {meth : Method} {c : Code} {D : va_G} {cx : Nat → ClassId} {ad : Nat → Nat} {A : Nat → Prop}
variable {y : MethodName} {cc : ByteArray} {nL : Nat} {ret : Option FieldType} {lev mc ms : Nat} {g0 : vG} {pc pc' pt : Nat} {k kt kf : vD}
theorem s_inc {i : Nat} {n : Int} {x : Int32} (hd : decode cc pc = .ok (.iinc i n, 3)) (hv : Int32.ofInt n = x) (hn : i < nL) (hp : pc + 3 = pc') (hk : Snd y cc nL ret lev mc ms g0 pc' k) : Snd y cc nL ret lev mc ms g0 pc (op_inc i x k) := by
  subst hp
  intro p l e s m args below meth c D cx ad A F H locs ls L st G M hI hL out ho
  obtain ⟨hx, hb, -⟩ := id F
  unfold op_inc at ho
  split at ho
  · next z hz =>
    split at ho
    · cases ho
    · next hg =>
      have hm : (i, Value.int z) ∈ prs ad L := by
        have h1 : L[i]? = some (some (.int z)) := by
          rw [List.getD_eq_getElem?_getD] at hz
          cases hL : L[i]? with
          | none => rw [hL] at hz; cases hz
          | some w => rw [hL] at hz; exact congrArg some hz
        exact prs_in (ad := ad) h1
      obtain ⟨j, hj⟩ := List.getElem?_of_mem hm
      exact Rs.go (G2 := G) hk F ho (fun Q kk => lv_iinc (v := z + x) hx hb hd (lR_has hL) hj (by rw [hv]) hn rfl (fun ls' h' => kk H locs ls' hI (lR_set1 (v := .int (z + x)) (by simpa using hg) h')))
  · cases ho
def f_add : Int32 → Int32 → Int32 := fun x y => x + y
theorem s_add (hd : decode cc pc = .ok (.iadd, 1)) (hp : pc + 1 = pc') (hk : Snd y cc nL ret lev mc ms g0 pc' k) : Snd y cc nL ret lev mc ms g0 pc (op_bin f_add k) := by
  subst hp
  intro p l e s m args below meth c D cx ad A F H locs ls L st G M hI hL out ho
  obtain ⟨hx, hb, -⟩ := id F
  unfold op_bin at ho
  split at ho
  · exact Rs.go (G2 := G) hk F ho (fun Q kk => lv_iadd hx hb hd (kk H locs ls hI hL))
  · cases ho
def f_sub : Int32 → Int32 → Int32 := fun x y => x - y
theorem s_sub (hd : decode cc pc = .ok (.isub, 1)) (hp : pc + 1 = pc') (hk : Snd y cc nL ret lev mc ms g0 pc' k) : Snd y cc nL ret lev mc ms g0 pc (op_bin f_sub k) := by
  subst hp
  intro p l e s m args below meth c D cx ad A F H locs ls L st G M hI hL out ho
  obtain ⟨hx, hb, -⟩ := id F
  unfold op_bin at ho
  split at ho
  · exact Rs.go (G2 := G) hk F ho (fun Q kk => lv_isub hx hb hd (kk H locs ls hI hL))
  · cases ho
def f_mul : Int32 → Int32 → Int32 := fun x y => x * y
theorem s_mul (hd : decode cc pc = .ok (.imul, 1)) (hp : pc + 1 = pc') (hk : Snd y cc nL ret lev mc ms g0 pc' k) : Snd y cc nL ret lev mc ms g0 pc (op_bin f_mul k) := by
  subst hp
  intro p l e s m args below meth c D cx ad A F H locs ls L st G M hI hL out ho
  obtain ⟨hx, hb, -⟩ := id F
  unfold op_bin at ho
  split at ho
  · exact Rs.go (G2 := G) hk F ho (fun Q kk => lv_imul hx hb hd (kk H locs ls hI hL))
  · cases ho
def f_and : Int32 → Int32 → Int32 := fun x y => x &&& y
theorem s_and (hd : decode cc pc = .ok (.iand, 1)) (hp : pc + 1 = pc') (hk : Snd y cc nL ret lev mc ms g0 pc' k) : Snd y cc nL ret lev mc ms g0 pc (op_bin f_and k) := by
  subst hp
  intro p l e s m args below meth c D cx ad A F H locs ls L st G M hI hL out ho
  obtain ⟨hx, hb, -⟩ := id F
  unfold op_bin at ho
  split at ho
  · exact Rs.go (G2 := G) hk F ho (fun Q kk => lv_iand hx hb hd (kk H locs ls hI hL))
  · cases ho
def f_or : Int32 → Int32 → Int32 := fun x y => x ||| y
theorem s_or (hd : decode cc pc = .ok (.ior, 1)) (hp : pc + 1 = pc') (hk : Snd y cc nL ret lev mc ms g0 pc' k) : Snd y cc nL ret lev mc ms g0 pc (op_bin f_or k) := by
  subst hp
  intro p l e s m args below meth c D cx ad A F H locs ls L st G M hI hL out ho
  obtain ⟨hx, hb, -⟩ := id F
  unfold op_bin at ho
  split at ho
  · exact Rs.go (G2 := G) hk F ho (fun Q kk => lv_ior hx hb hd (kk H locs ls hI hL))
  · cases ho
def f_xor : Int32 → Int32 → Int32 := fun x y => x ^^^ y
theorem s_xor (hd : decode cc pc = .ok (.ixor, 1)) (hp : pc + 1 = pc') (hk : Snd y cc nL ret lev mc ms g0 pc' k) : Snd y cc nL ret lev mc ms g0 pc (op_bin f_xor k) := by
  subst hp
  intro p l e s m args below meth c D cx ad A F H locs ls L st G M hI hL out ho
  obtain ⟨hx, hb, -⟩ := id F
  unfold op_bin at ho
  split at ho
  · exact Rs.go (G2 := G) hk F ho (fun Q kk => lv_ixor hx hb hd (kk H locs ls hI hL))
  · cases ho
def f_shl : Int32 → Int32 → Int32 := fun x y => x <<< (y &&& 31)
theorem s_shl (hd : decode cc pc = .ok (.ishl, 1)) (hp : pc + 1 = pc') (hk : Snd y cc nL ret lev mc ms g0 pc' k) : Snd y cc nL ret lev mc ms g0 pc (op_bin f_shl k) := by
  subst hp
  intro p l e s m args below meth c D cx ad A F H locs ls L st G M hI hL out ho
  obtain ⟨hx, hb, -⟩ := id F
  unfold op_bin at ho
  split at ho
  · exact Rs.go (G2 := G) hk F ho (fun Q kk => lv_ishl hx hb hd (kk H locs ls hI hL))
  · cases ho
def f_shr : Int32 → Int32 → Int32 := fun x y => x >>> (y &&& 31)
theorem s_shr (hd : decode cc pc = .ok (.ishr, 1)) (hp : pc + 1 = pc') (hk : Snd y cc nL ret lev mc ms g0 pc' k) : Snd y cc nL ret lev mc ms g0 pc (op_bin f_shr k) := by
  subst hp
  intro p l e s m args below meth c D cx ad A F H locs ls L st G M hI hL out ho
  obtain ⟨hx, hb, -⟩ := id F
  unfold op_bin at ho
  split at ho
  · exact Rs.go (G2 := G) hk F ho (fun Q kk => lv_ishr hx hb hd (kk H locs ls hI hL))
  · cases ho
def f_ushr : Int32 → Int32 → Int32 := fun x y => (x.toUInt32 >>> (y.toUInt32 &&& Int32.toUInt32 31)).toInt32
theorem s_ushr (hd : decode cc pc = .ok (.iushr, 1)) (hp : pc + 1 = pc') (hk : Snd y cc nL ret lev mc ms g0 pc' k) : Snd y cc nL ret lev mc ms g0 pc (op_bin f_ushr k) := by
  subst hp
  intro p l e s m args below meth c D cx ad A F H locs ls L st G M hI hL out ho
  obtain ⟨hx, hb, -⟩ := id F
  unfold op_bin at ho
  split at ho
  · exact Rs.go (G2 := G) hk F ho (fun Q kk => lv_iushr hx hb hd rfl (kk H locs ls hI hL))
  · cases ho
def f_div : Int32 → Int32 → Int32 := fun x y => x / y
theorem s_div (hd : decode cc pc = .ok (.idiv, 1)) (hp : pc + 1 = pc') (hk : Snd y cc nL ret lev mc ms g0 pc' k) : Snd y cc nL ret lev mc ms g0 pc (op_div f_div k) := by
  subst hp
  intro p l e s m args below meth c D cx ad A F H locs ls L st G M hI hL out ho
  obtain ⟨hx, hb, -⟩ := id F
  unfold op_div at ho
  split at ho
  · split at ho
    · cases ho
    · next hne => exact Rs.go (G2 := G) hk F ho (fun Q kk => lv_idiv hx hb hd hne (kk H locs ls hI hL))
  · cases ho
def f_rem : Int32 → Int32 → Int32 := fun x y => x - x / y * y
theorem s_rem (hd : decode cc pc = .ok (.irem, 1)) (hp : pc + 1 = pc') (hk : Snd y cc nL ret lev mc ms g0 pc' k) : Snd y cc nL ret lev mc ms g0 pc (op_div f_rem k) := by
  subst hp
  intro p l e s m args below meth c D cx ad A F H locs ls L st G M hI hL out ho
  obtain ⟨hx, hb, -⟩ := id F
  unfold op_div at ho
  split at ho
  · split at ho
    · cases ho
    · next hne => exact Rs.go (G2 := G) hk F ho (fun Q kk => lv_irem hx hb hd hne (kk H locs ls hI hL))
  · cases ho
theorem s_dup (hd : decode cc pc = .ok (.dup, 1)) (hp : pc + 1 = pc') (hk : Snd y cc nL ret lev mc ms g0 pc' k) : Snd y cc nL ret lev mc ms g0 pc (op_dup k) := by
  subst hp
  intro p l e s m args below meth c D cx ad A F H locs ls L st G M hI hL out ho
  obtain ⟨hx, hb, -⟩ := id F
  unfold op_dup at ho
  split at ho
  · next v r =>
    split at ho
    · next hc => exact Rs.go (G2 := G) hk F ho (fun Q kk => lv_dup hx hb hd (by rw [cvA_cat]; exact hc) (kk H locs ls hI hL))
    · cases ho
  · cases ho
theorem s_dup2 (hd : decode cc pc = .ok (.dup2, 1)) (hp : pc + 1 = pc') (hk : Snd y cc nL ret lev mc ms g0 pc' k) : Snd y cc nL ret lev mc ms g0 pc (op_dup2 k) := by
  subst hp
  intro p l e s m args below meth c D cx ad A F H locs ls L st G M hI hL out ho
  obtain ⟨hx, hb, -⟩ := id F
  unfold op_dup2 at ho
  split at ho
  · next v w r =>
    split at ho
    · next hc => exact Rs.go (G2 := G) hk F ho (fun Q kk => lv_dup2_11 hx hb hd (by rw [cvA_cat]; exact hc.1) (by rw [cvA_cat]; exact hc.2) (kk H locs ls hI hL))
    · cases ho
  · cases ho
theorem s_pop (hd : decode cc pc = .ok (.pop, 1)) (hp : pc + 1 = pc') (hk : Snd y cc nL ret lev mc ms g0 pc' k) : Snd y cc nL ret lev mc ms g0 pc (op_pop k) := by
  subst hp
  intro p l e s m args below meth c D cx ad A F H locs ls L st G M hI hL out ho
  obtain ⟨hx, hb, -⟩ := id F
  unfold op_pop at ho
  split at ho
  · next v r =>
    split at ho
    · next hc => exact Rs.go (G2 := G) hk F ho (fun Q kk => lv_pop hx hb hd (by rw [cvA_cat]; exact hc) (kk H locs ls hI hL))
    · cases ho
  · cases ho
theorem s_ifeq {off : Int} (hd : decode cc pc = .ok (.ifCond .eq off, 3)) (ht : (pc : Int) + off = (pt : Int)) (hp : pc + 3 = pc') (hkt : Snd y cc nL ret lev mc ms g0 pt kt) (hkf : Snd y cc nL ret lev mc ms g0 pc' kf) : Snd y cc nL ret lev mc ms g0 pc (op_ifeq kt kf) := by
  subst hp
  intro p l e s m args below meth c D cx ad A F H locs ls L st G M hI hL out ho
  obtain ⟨hx, hb, -⟩ := id F
  unfold op_ifeq at ho
  split at ho
  · split at ho
    · next hc => exact Rs.go (G2 := G) hkt F ho (fun Q kk => lv_if_eq hx hb hd ht (fun _ => kk H locs ls hI hL) (fun h => absurd hc h))
    · next hc => exact Rs.go (G2 := G) hkf F ho (fun Q kk => lv_if_eq hx hb hd ht (fun h => absurd h hc) (fun _ => kk H locs ls hI hL))
  · cases ho
theorem s_iceq {off : Int} (hd : decode cc pc = .ok (.if_icmp .eq off, 3)) (ht : (pc : Int) + off = (pt : Int)) (hp : pc + 3 = pc') (hkt : Snd y cc nL ret lev mc ms g0 pt kt) (hkf : Snd y cc nL ret lev mc ms g0 pc' kf) : Snd y cc nL ret lev mc ms g0 pc (op_iceq kt kf) := by
  subst hp
  intro p l e s m args below meth c D cx ad A F H locs ls L st G M hI hL out ho
  obtain ⟨hx, hb, -⟩ := id F
  unfold op_iceq at ho
  split at ho
  · split at ho
    · next hc => exact Rs.go (G2 := G) hkt F ho (fun Q kk => lv_icmp_eq hx hb hd ht (fun _ => kk H locs ls hI hL) (fun h => absurd hc h))
    · next hc => exact Rs.go (G2 := G) hkf F ho (fun Q kk => lv_icmp_eq hx hb hd ht (fun h => absurd h hc) (fun _ => kk H locs ls hI hL))
  · cases ho
theorem s_ifne {off : Int} (hd : decode cc pc = .ok (.ifCond .ne off, 3)) (ht : (pc : Int) + off = (pt : Int)) (hp : pc + 3 = pc') (hkt : Snd y cc nL ret lev mc ms g0 pt kt) (hkf : Snd y cc nL ret lev mc ms g0 pc' kf) : Snd y cc nL ret lev mc ms g0 pc (op_ifne kt kf) := by
  subst hp
  intro p l e s m args below meth c D cx ad A F H locs ls L st G M hI hL out ho
  obtain ⟨hx, hb, -⟩ := id F
  unfold op_ifne at ho
  split at ho
  · split at ho
    · next hc => exact Rs.go (G2 := G) hkf F ho (fun Q kk => lv_if_ne hx hb hd ht (fun h => absurd hc h) (fun _ => kk H locs ls hI hL))
    · next hc => exact Rs.go (G2 := G) hkt F ho (fun Q kk => lv_if_ne hx hb hd ht (fun _ => kk H locs ls hI hL) (fun h => absurd h hc))
  · cases ho
theorem s_icne {off : Int} (hd : decode cc pc = .ok (.if_icmp .ne off, 3)) (ht : (pc : Int) + off = (pt : Int)) (hp : pc + 3 = pc') (hkt : Snd y cc nL ret lev mc ms g0 pt kt) (hkf : Snd y cc nL ret lev mc ms g0 pc' kf) : Snd y cc nL ret lev mc ms g0 pc (op_icne kt kf) := by
  subst hp
  intro p l e s m args below meth c D cx ad A F H locs ls L st G M hI hL out ho
  obtain ⟨hx, hb, -⟩ := id F
  unfold op_icne at ho
  split at ho
  · split at ho
    · next hc => exact Rs.go (G2 := G) hkf F ho (fun Q kk => lv_icmp_ne hx hb hd ht (fun h => absurd hc h) (fun _ => kk H locs ls hI hL))
    · next hc => exact Rs.go (G2 := G) hkt F ho (fun Q kk => lv_icmp_ne hx hb hd ht (fun _ => kk H locs ls hI hL) (fun h => absurd h hc))
  · cases ho
theorem s_iflt {off : Int} (hd : decode cc pc = .ok (.ifCond .lt off, 3)) (ht : (pc : Int) + off = (pt : Int)) (hp : pc + 3 = pc') (hkt : Snd y cc nL ret lev mc ms g0 pt kt) (hkf : Snd y cc nL ret lev mc ms g0 pc' kf) : Snd y cc nL ret lev mc ms g0 pc (op_iflt kt kf) := by
  subst hp
  intro p l e s m args below meth c D cx ad A F H locs ls L st G M hI hL out ho
  obtain ⟨hx, hb, -⟩ := id F
  unfold op_iflt at ho
  split at ho
  · split at ho
    · next hc => exact Rs.go (G2 := G) hkt F ho (fun Q kk => lv_if_lt hx hb hd ht (fun _ => kk H locs ls hI hL) (fun h => absurd hc h))
    · next hc => exact Rs.go (G2 := G) hkf F ho (fun Q kk => lv_if_lt hx hb hd ht (fun h => absurd h hc) (fun _ => kk H locs ls hI hL))
  · cases ho
theorem s_iclt {off : Int} (hd : decode cc pc = .ok (.if_icmp .lt off, 3)) (ht : (pc : Int) + off = (pt : Int)) (hp : pc + 3 = pc') (hkt : Snd y cc nL ret lev mc ms g0 pt kt) (hkf : Snd y cc nL ret lev mc ms g0 pc' kf) : Snd y cc nL ret lev mc ms g0 pc (op_iclt kt kf) := by
  subst hp
  intro p l e s m args below meth c D cx ad A F H locs ls L st G M hI hL out ho
  obtain ⟨hx, hb, -⟩ := id F
  unfold op_iclt at ho
  split at ho
  · split at ho
    · next hc => exact Rs.go (G2 := G) hkt F ho (fun Q kk => lv_icmp_lt hx hb hd ht (fun _ => kk H locs ls hI hL) (fun h => absurd hc h))
    · next hc => exact Rs.go (G2 := G) hkf F ho (fun Q kk => lv_icmp_lt hx hb hd ht (fun h => absurd h hc) (fun _ => kk H locs ls hI hL))
  · cases ho
theorem s_ifge {off : Int} (hd : decode cc pc = .ok (.ifCond .ge off, 3)) (ht : (pc : Int) + off = (pt : Int)) (hp : pc + 3 = pc') (hkt : Snd y cc nL ret lev mc ms g0 pt kt) (hkf : Snd y cc nL ret lev mc ms g0 pc' kf) : Snd y cc nL ret lev mc ms g0 pc (op_ifge kt kf) := by
  subst hp
  intro p l e s m args below meth c D cx ad A F H locs ls L st G M hI hL out ho
  obtain ⟨hx, hb, -⟩ := id F
  unfold op_ifge at ho
  split at ho
  · split at ho
    · next hc => exact Rs.go (G2 := G) hkt F ho (fun Q kk => lv_if_ge hx hb hd ht (fun _ => kk H locs ls hI hL) (fun h => absurd hc h))
    · next hc => exact Rs.go (G2 := G) hkf F ho (fun Q kk => lv_if_ge hx hb hd ht (fun h => absurd h hc) (fun _ => kk H locs ls hI hL))
  · cases ho
theorem s_icge {off : Int} (hd : decode cc pc = .ok (.if_icmp .ge off, 3)) (ht : (pc : Int) + off = (pt : Int)) (hp : pc + 3 = pc') (hkt : Snd y cc nL ret lev mc ms g0 pt kt) (hkf : Snd y cc nL ret lev mc ms g0 pc' kf) : Snd y cc nL ret lev mc ms g0 pc (op_icge kt kf) := by
  subst hp
  intro p l e s m args below meth c D cx ad A F H locs ls L st G M hI hL out ho
  obtain ⟨hx, hb, -⟩ := id F
  unfold op_icge at ho
  split at ho
  · split at ho
    · next hc => exact Rs.go (G2 := G) hkt F ho (fun Q kk => lv_icmp_ge hx hb hd ht (fun _ => kk H locs ls hI hL) (fun h => absurd hc h))
    · next hc => exact Rs.go (G2 := G) hkf F ho (fun Q kk => lv_icmp_ge hx hb hd ht (fun h => absurd h hc) (fun _ => kk H locs ls hI hL))
  · cases ho
theorem s_ifgt {off : Int} (hd : decode cc pc = .ok (.ifCond .gt off, 3)) (ht : (pc : Int) + off = (pt : Int)) (hp : pc + 3 = pc') (hkt : Snd y cc nL ret lev mc ms g0 pt kt) (hkf : Snd y cc nL ret lev mc ms g0 pc' kf) : Snd y cc nL ret lev mc ms g0 pc (op_ifgt kt kf) := by
  subst hp
  intro p l e s m args below meth c D cx ad A F H locs ls L st G M hI hL out ho
  obtain ⟨hx, hb, -⟩ := id F
  unfold op_ifgt at ho
  split at ho
  · split at ho
    · next hc => exact Rs.go (G2 := G) hkt F ho (fun Q kk => lv_if_gt hx hb hd ht (fun _ => kk H locs ls hI hL) (fun h => absurd hc h))
    · next hc => exact Rs.go (G2 := G) hkf F ho (fun Q kk => lv_if_gt hx hb hd ht (fun h => absurd h hc) (fun _ => kk H locs ls hI hL))
  · cases ho
theorem s_icgt {off : Int} (hd : decode cc pc = .ok (.if_icmp .gt off, 3)) (ht : (pc : Int) + off = (pt : Int)) (hp : pc + 3 = pc') (hkt : Snd y cc nL ret lev mc ms g0 pt kt) (hkf : Snd y cc nL ret lev mc ms g0 pc' kf) : Snd y cc nL ret lev mc ms g0 pc (op_icgt kt kf) := by
  subst hp
  intro p l e s m args below meth c D cx ad A F H locs ls L st G M hI hL out ho
  obtain ⟨hx, hb, -⟩ := id F
  unfold op_icgt at ho
  split at ho
  · split at ho
    · next hc => exact Rs.go (G2 := G) hkt F ho (fun Q kk => lv_icmp_gt hx hb hd ht (fun _ => kk H locs ls hI hL) (fun h => absurd hc h))
    · next hc => exact Rs.go (G2 := G) hkf F ho (fun Q kk => lv_icmp_gt hx hb hd ht (fun h => absurd h hc) (fun _ => kk H locs ls hI hL))
  · cases ho
theorem s_ifle {off : Int} (hd : decode cc pc = .ok (.ifCond .le off, 3)) (ht : (pc : Int) + off = (pt : Int)) (hp : pc + 3 = pc') (hkt : Snd y cc nL ret lev mc ms g0 pt kt) (hkf : Snd y cc nL ret lev mc ms g0 pc' kf) : Snd y cc nL ret lev mc ms g0 pc (op_ifle kt kf) := by
  subst hp
  intro p l e s m args below meth c D cx ad A F H locs ls L st G M hI hL out ho
  obtain ⟨hx, hb, -⟩ := id F
  unfold op_ifle at ho
  split at ho
  · split at ho
    · next hc => exact Rs.go (G2 := G) hkt F ho (fun Q kk => lv_if_le hx hb hd ht (fun _ => kk H locs ls hI hL) (fun h => absurd hc h))
    · next hc => exact Rs.go (G2 := G) hkf F ho (fun Q kk => lv_if_le hx hb hd ht (fun h => absurd h hc) (fun _ => kk H locs ls hI hL))
  · cases ho
theorem s_icle {off : Int} (hd : decode cc pc = .ok (.if_icmp .le off, 3)) (ht : (pc : Int) + off = (pt : Int)) (hp : pc + 3 = pc') (hkt : Snd y cc nL ret lev mc ms g0 pt kt) (hkf : Snd y cc nL ret lev mc ms g0 pc' kf) : Snd y cc nL ret lev mc ms g0 pc (op_icle kt kf) := by
  subst hp
  intro p l e s m args below meth c D cx ad A F H locs ls L st G M hI hL out ho
  obtain ⟨hx, hb, -⟩ := id F
  unfold op_icle at ho
  split at ho
  · split at ho
    · next hc => exact Rs.go (G2 := G) hkt F ho (fun Q kk => lv_icmp_le hx hb hd ht (fun _ => kk H locs ls hI hL) (fun h => absurd hc h))
    · next hc => exact Rs.go (G2 := G) hkf F ho (fun Q kk => lv_icmp_le hx hb hd ht (fun h => absurd h hc) (fun _ => kk H locs ls hI hL))
  · cases ho
theorem s_goto {off : Int} (hd : decode cc pc = .ok (.goto off, 3)) (ht : (pc : Int) + off = (pt : Int)) (hk : Snd y cc nL ret lev mc ms g0 pt k) : Snd y cc nL ret lev mc ms g0 pc k := by
  intro p l e s m args below meth c D cx ad A F H locs ls L st G M hI hL out ho
  obtain ⟨hx, hb, -⟩ := id F
  exact Rs.go (G2 := G) hk F ho (fun Q kk => lv_goto hx hb hd ht (kk H locs ls hI hL))
theorem s_jmp : Snd y cc nL ret lev mc ms g0 pc (op_jmp pc) := by
  intro p l e s m args below meth c D cx ad A F H locs ls L st G M hI hL out ho
  cases ho
  exact fun Q hQ => hQ H locs ls hI hL
theorem s_seq {a b : vD} {pj : Nat} (ha : Snd y cc nL ret lev mc ms g0 pc a) (hb : Snd y cc nL ret lev mc ms g0 pj b) : Snd y cc nL ret lev mc ms g0 pc (op_seq pj a b) := by
  intro p l e s m args below meth c D cx ad A F H locs ls L st G M hI hL out ho
  have h1 := ha p l e s m args below meth c D cx ad A F H locs ls L st G M hI hL
  unfold op_seq at ho
  split at ho
  · next p' L' st' G' M' he =>
    split at ho
    · next hj =>
      subst hj
      exact Rs.go hb F ho (fun Q kk => h1 _ he Q kk)
    · cases ho
      exact h1 _ he
  · exact h1 _ ho
theorem s_loop {b : vD} (hb : Snd y cc nL ret lev mc ms g0 pc b) (n : Nat) : Snd y cc nL ret lev mc ms g0 pc (op_loop pc b n) := by
  induction n with
  | zero =>
    intro p l e s m args below meth c D cx ad A F H locs ls L st G M hI hL out ho
    cases ho
  | succ n ih =>
    intro p l e s m args below meth c D cx ad A F H locs ls L st G M hI hL out ho
    have h1 := hb p l e s m args below meth c D cx ad A F H locs ls L st G M hI hL
    unfold op_loop at ho
    split at ho
    · next p' L' st' G' M' he =>
      split at ho
      · next hj =>
        subst hj
        exact Rs.go ih F ho (fun Q kk => h1 _ he Q kk)
      · cases ho
        exact h1 _ he
    · exact h1 _ ho
theorem s_kil {ks : List Bool} (hk : Snd y cc nL ret lev mc ms g0 pc k) : Snd y cc nL ret lev mc ms g0 pc (op_kil ks k) := by
  intro p l e s m args below meth c D cx ad A F H locs ls L st G M hI hL out ho
  refine hk p l e s m args below meth c D cx ad A F H locs ls _ st G M hI ⟨hL.1, hL.2.1, fun i v hi => ?_⟩ out ho
  rw [List.getElem?_zipWith] at hi
  split at hi
  · next b w hb hw =>
    cases b
    · simp at hi
    · simp only [if_true, Option.some.injEq] at hi
      subst hi
      exact hL.2.2 i v hw
  · cases hi
theorem Iv.end0 {H : Heap} {locs : List Loc} {G : vG} {M : vM} {v : Option Value} (h : Iv D cx ad A mc ms g0 s H locs G M) (hmc : mc = 0) (hms : ms = 0) {t : State} (ht : t.heap = H) : PoC D cx ad A mc ms g0 v G M args s (.returned (v.map (cvA ad))) t := by
  obtain ⟨hP, hD, hS, ⟨h1, h2, h3, h4, h5⟩, h6, h7⟩ := h
  have hG := h6 hmc
  subst hG hmc hms
  exact ⟨rfl, ⟨rfl, rfl, fun _ => rfl⟩, by rw [ht]; exact hP, hD, by rw [ht, h2]; omega, hS.F ht⟩
theorem s_zret {ty : FieldType} (hd : decode cc pc = .ok (.ireturn, 1)) (hr : ret = some ty) (hn : ∀ x : Int32, x = 0 ∨ x = 1 → narrow ty (.int x) = .int x) (hmc : mc = 0) (hms : ms = 0) : Snd y cc nL ret lev mc ms g0 pc op_zret := by
  intro p l e s m args below meth c D cx ad A F H locs ls L st G M hI hL out ho
  obtain ⟨hx, hb, -, -, -, hret, hlk, -⟩ := id F
  unfold op_zret at ho
  split at ho
  · next x =>
    split at ho
    · next hc =>
      cases ho
      have hG : G = g0 := hI.2.2.2.2.1 hmc
      have e1 : G.1 - g0.1 = mc := by rw [hG, hmc]; omega
      have e2 : G.2.1 - g0.2.1 = ms := by rw [hG, hms]; omega
      show W _ _ _ _ _ _ _ _ _ _ _ _ _ _ _ _
      rw [e1, e2]
      exact W.zret hx hb (hret.trans hr) (hn x hc) (fun t ht _ => hI.end0 (v := some (.int x)) hmc hms ht) hI.2.2.1.2.2 hd hlk
    · cases ho
  · cases ho
theorem s_iret (hd : decode cc pc = .ok (.ireturn, 1)) (hr : ret = some .int) (hmc : mc = 0) (hms : ms = 0) : Snd y cc nL ret lev mc ms g0 pc op_ret := by
  intro p l e s m args below meth c D cx ad A F H locs ls L st G M hI hL out ho
  obtain ⟨hx, hb, -, -, -, hret, hlk, -⟩ := id F
  unfold op_ret at ho
  split at ho
  · next x =>
    cases ho
    have hG : G = g0 := hI.2.2.2.2.1 hmc
    have e1 : G.1 - g0.1 = mc := by rw [hG, hmc]; omega
    have e2 : G.2.1 - g0.2.1 = ms := by rw [hG, hms]; omega
    show W _ _ _ _ _ _ _ _ _ _ _ _ _ _ _ _
    rw [e1, e2]
    exact W.iret hx hb (hret.trans hr) (fun t ht _ => hI.end0 (v := some (.int x)) hmc hms ht) hI.2.2.1.2.2 hd hlk
  · cases ho
theorem s_vret (hd : decode cc pc = .ok (.return_, 1)) (hr : ret = none) (hmc : mc = 0) (hms : ms = 0) : Snd y cc nL ret lev mc ms g0 pc op_vret := by
  intro p l e s m args below meth c D cx ad A F H locs ls L st G M hI hL out ho
  obtain ⟨hx, hb, -, -, -, hret, hlk, -⟩ := id F
  unfold op_vret at ho
  split at ho
  · cases ho
    have hG : G = g0 := hI.2.2.2.2.1 hmc
    have e1 : G.1 - g0.1 = mc := by rw [hG, hmc]; omega
    have e2 : G.2.1 - g0.2.1 = ms := by rw [hG, hms]; omega
    show W _ _ _ _ _ _ _ _ _ _ _ _ _ _ _ _
    rw [e1, e2]
    exact W.vret hx hb (hret.trans hr) (fun t ht _ => hI.end0 (v := none) hmc hms ht) hI.2.2.1.2.2 hd hlk
  · cases ho
theorem s_aret {C : String} (hd : decode cc pc = .ok (.areturn, 1)) (hr : ret = some (.object C)) (hmc : mc = 0) (hms : ms = 0) : Snd y cc nL ret lev mc ms g0 pc op_aret := by
  intro p l e s m args below meth c D cx ad A F H locs ls L st G M hI hL out ho
  obtain ⟨hx, hb, -, -, -, hret, hlk, -⟩ := id F
  unfold op_aret at ho
  split at ho
  · next x =>
    cases ho
    have hG : G = g0 := hI.2.2.2.2.1 hmc
    have e1 : G.1 - g0.1 = mc := by rw [hG, hmc]; omega
    have e2 : G.2.1 - g0.2.1 = ms := by rw [hG, hms]; omega
    show W _ _ _ _ _ _ _ _ _ _ _ _ _ _ _ _
    rw [e1, e2]
    exact W.aret hx hb (hret.trans hr) (Or.inl ⟨_, rfl⟩) (Or.inr ⟨_, rfl⟩) (fun t ht _ => hI.end0 (v := some (.ref x)) hmc hms ht) hI.2.2.1.2.2 hd hlk
  · cases ho
end SND2
end
section
/-! ===== the machine follows the operations, 3: fields, arrays, statics, calls ===== -/
section SND3
variable {p : Program} {l : Launch} {e : Env} {s : State} {m : MethodId} {args : Array Value} {below : List Frame} {meth : Method} {c : Code} {D : va_G} {cx : Nat → ClassId} {ad : Nat → Nat} {A : Nat → Prop}
variable {y : MethodName} {cc : ByteArray} {nL : Nat} {ret : Option FieldType} {lev mc ms : Nat} {g0 : vG} {pc pc' pt : Nat} {k kt kf : vD}
theorem gAt_ok {G : vG} {a c : Nat} (h : gAt G a c = true) : a < G.1 ∧ gC G a = c := by
  simpa [gAt] using h
theorem inB_ok {i : Int32} {n : Nat} (h : inB i n = true) : vp_in i n ∧ i.toNatClampNeg < n := by
  simp only [inB, Bool.and_eq_true, decide_eq_true_eq] at h
  refine ⟨fun q => ?_, h.2⟩
  rcases q with q | q
  · exact absurd q (Int32.not_lt.mpr h.1)
  · omega
/-- the heap's size by the machine's own count -/
theorem W_sz {R : Room} {H : Heap} {locs : List Loc} {cells slots : Nat} {Q : State → Prop} {g : JFrame} (h : H.size ≤ s.heap.size + cells → W p l e R s m args below meth c H locs cells slots Q g) : W p l e R s m args below meth c H locs cells slots Q g :=
  fun T hT X => h (by rw [← hT]; exact X.heapSize) T hT X
theorem va_S.via {H0 H H1 : Heap} {locs locs1 : List Loc} (h : va_S A H0 H locs) (h1 : va_S A H H1 locs1) : va_S A H0 H1 locs1 :=
  ⟨Nat.le_trans h.1 h1.1, fun q a b => by rw [h1.2.1 q (Nat.lt_of_lt_of_le a h.1) b]; exact h.2.1 q a b, h1.2.2⟩
theorem va_S.me {H0 H : Heap} {locs : List Loc} (h : va_S A H0 H locs) : va_S A H H locs := ⟨Nat.le_refl _, fun _ _ _ => rfl, h.2.2⟩
theorem Iv.upd {H H1 : Heap} {locs locs1 : List Loc} {G : vG} {M M1 : vM} (h : Iv D cx ad A mc ms g0 s H locs G M) (hP : va_P D vwCl (wW cx ad G M1) H1) (hD : va_D A (wW cx ad G M1)) (hS : va_S A H H1 locs1) (hz : H1.size ≤ s.heap.size + (G.1 - g0.1)) : Iv D cx ad A mc ms g0 s H1 locs1 G M1 := by
  obtain ⟨-, -, hS0, ⟨h1, h2, h3, h4, h5⟩, h6, h7⟩ := h
  have hs : H1.size = H.size := by have := hS.1; omega
  exact ⟨hP, hD, hS0.via hS, ⟨h1, by rw [hs]; exact h2, h3, h4, h5⟩, h6, fun h j hj => by rw [hs]; exact h7 h j hj⟩
theorem s_gfi {C : String} {T : u_T} {N ci j index : Nat} (hc : vwCl[ci]? = some (C, T, N)) (hin : ∀ w ∈ u_ws C T N, w ∈ lw_good) (hj : j < N) (hci : ci < 100) (hjn : j < nF ci) (hrf : rF ci j = false) (hw : Cond.fieldLink y.cls index (T j).1 (T j).2.1 (T j).2.2.1 ∈ lw_good) (hd : decode cc pc = .ok (.getfield index, 3)) (hp : pc + 3 = pc') (hk : Snd y cc nL ret lev mc ms g0 pc' k) : Snd y cc nL ret lev mc ms g0 pc (op_gfi ci j k) := by
  subst hp
  intro p l e s m args below meth c D cx ad A F H locs ls L st G M hI hL out ho
  obtain ⟨hx, hb, -, hown, hts, -, -, -, hK, -⟩ := id F
  unfold op_gfi at ho
  split at ho
  · next a r =>
    split at ho
    · next hg =>
      obtain ⟨ha, hC⟩ := gAt_ok hg
      refine Rs.go (G2 := G) hk F ho (fun Q kk => va_get (v := .int (M a j)) hx hb hts hin hown hK hI.1 a (by rw [wW_at ha, wE_o hC hci]) hc j hj (hts _ hw) (fun x h => h) ?_ hd (kk H locs ls hI hL))
      rw [fO_at hjn, hrf]
      rfl
    · cases ho
  · cases ho
theorem s_gfr {C : String} {T : u_T} {N ci j index : Nat} (hc : vwCl[ci]? = some (C, T, N)) (hin : ∀ w ∈ u_ws C T N, w ∈ lw_good) (hj : j < N) (hci : ci < 100) (hjn : j < nF ci) (hrf : rF ci j = true) (hw : Cond.fieldLink y.cls index (T j).1 (T j).2.1 (T j).2.2.1 ∈ lw_good) (hd : decode cc pc = .ok (.getfield index, 3)) (hp : pc + 3 = pc') (hk : Snd y cc nL ret lev mc ms g0 pc' k) : Snd y cc nL ret lev mc ms g0 pc (op_gfr ci j k) := by
  subst hp
  intro p l e s m args below meth c D cx ad A F H locs ls L st G M hI hL out ho
  obtain ⟨hx, hb, -, hown, hts, -, -, -, hK, -⟩ := id F
  unfold op_gfr at ho
  split at ho
  · next a r =>
    split at ho
    · next hg =>
      obtain ⟨ha, hC⟩ := gAt_ok hg
      split at ho
      · next b hR =>
        refine Rs.go (G2 := G) hk F ho (fun Q kk => va_get (v := .ref (ad b)) hx hb hts hin hown hK hI.1 a (by rw [wW_at ha, wE_o hC hci]) hc j hj (hts _ hw) (fun x h => h) ?_ hd (kk H locs ls hI hL))
        rw [fO_at hjn, hrf, hR]
        rfl
      · cases ho
    · cases ho
  · cases ho
theorem s_pfi {C : String} {T : u_T} {N ci j index : Nat} (hc : vwCl[ci]? = some (C, T, N)) (hin : ∀ w ∈ u_ws C T N, w ∈ lw_good) (ty0 : Nat → FieldType) (hty : ∀ k, k < N → parseFieldDescriptor (T k).2.2.1 = some (ty0 k)) (hnm : ∀ a, a < N → ∀ b, b < N → a ≠ b → (T a).2.1 ≠ (T b).2.1) (hj : j < N) (hci : ci < 100) (hjn : j < nF ci) (hrf : rF ci j = false) (hfin : (T j).2.2.2 = false) (hti : ty0 j = .int) (hw : Cond.fieldLink y.cls index (T j).1 (T j).2.1 (T j).2.2.1 ∈ lw_good) (hd : decode cc pc = .ok (.putfield index, 3)) (hp : pc + 3 = pc') (hk : Snd y cc nL ret lev mc ms g0 pc' k) : Snd y cc nL ret lev mc ms g0 pc (op_pfi ci j k) := by
  subst hp
  intro p l e s m args below meth c D cx ad A F H locs ls L st G M hI hL out ho
  obtain ⟨hx, hb, -, hown, hts, -, -, -, hK, -⟩ := id F
  unfold op_pfi at ho
  split at ho
  · next x a r =>
    split at ho
    · next hg =>
      obtain ⟨ha, hC⟩ := gAt_ok hg
      refine Rs.go (G2 := G) hk F ho (fun Q kk => va_put (v := .int x) hx hb hts hin ty0 hty hnm hown hK hI.1 hI.2.1 hI.2.2.1.me a (by rw [wW_at ha, wE_o hC hci]) hc j hj (hts _ hw) (fun x h => h) hfin ((hty j hj).trans (congrArg some hti)) rfl rfl (by rw [fO_len]; exact hjn) hd (fun H1 locs1 hP1 hD1 hS1 => W_sz fun hz => ?_))
      rw [wW_set (g' := G) (M' := mset M a j x) rfl (by rw [wE_o hC hci, fO_set hjn hrf]) (fun b hb => wE_M (mset_ne hb))] at hP1 hD1
      exact kk H1 locs1 ls (hI.upd hP1 hD1 hS1 hz) hL
    · cases ho
  · cases ho
/-- a field of 0 or 1 -/
def op_pfz (c j : Nat) (k : vD) : vD := fun L st G M => match st with
  | .int x :: .ref a :: r => if gAt G a c ∧ (x = 0 ∨ x = 1) then k L r G (mset M a j x) else none
  | _ => none
theorem s_pfz {C : String} {T : u_T} {N ci j index : Nat} (hc : vwCl[ci]? = some (C, T, N)) (hin : ∀ w ∈ u_ws C T N, w ∈ lw_good) (ty0 : Nat → FieldType) (hty : ∀ k, k < N → parseFieldDescriptor (T k).2.2.1 = some (ty0 k)) (hnm : ∀ a, a < N → ∀ b, b < N → a ≠ b → (T a).2.1 ≠ (T b).2.1) (hj : j < N) (hci : ci < 100) (hjn : j < nF ci) (hrf : rF ci j = false) (hfin : (T j).2.2.2 = false) (hti : ty0 j = .boolean) (hw : Cond.fieldLink y.cls index (T j).1 (T j).2.1 (T j).2.2.1 ∈ lw_good) (hd : decode cc pc = .ok (.putfield index, 3)) (hp : pc + 3 = pc') (hk : Snd y cc nL ret lev mc ms g0 pc' k) : Snd y cc nL ret lev mc ms g0 pc (op_pfz ci j k) := by
  subst hp
  intro p l e s m args below meth c D cx ad A F H locs ls L st G M hI hL out ho
  obtain ⟨hx, hb, -, hown, hts, -, -, -, hK, -⟩ := id F
  unfold op_pfz at ho
  split at ho
  · next x a r =>
    split at ho
    · next hg =>
      obtain ⟨ha, hC⟩ := gAt_ok hg.1
      have h01 : narrow .boolean (.int x) = .int x ∧ fits .boolean (.int x) = true := by rcases hg.2 with rfl | rfl <;> decide
      refine Rs.go (G2 := G) hk F ho (fun Q kk => va_put (v := .int x) hx hb hts hin ty0 hty hnm hown hK hI.1 hI.2.1 hI.2.2.1.me a (by rw [wW_at ha, wE_o hC hci]) hc j hj (hts _ hw) (fun x h => h) hfin ((hty j hj).trans (congrArg some hti)) h01.1 h01.2 (by rw [fO_len]; exact hjn) hd (fun H1 locs1 hP1 hD1 hS1 => W_sz fun hz => ?_))
      rw [wW_set (g' := G) (M' := mset M a j x) rfl (by rw [wE_o hC hci, fO_set hjn hrf]) (fun b hb => wE_M (mset_ne hb))] at hP1 hD1
      exact kk H1 locs1 ls (hI.upd hP1 hD1 hS1 hz) hL
    · cases ho
  · cases ho
theorem s_ial (hd : decode cc pc = .ok (.iaload, 1)) (hp : pc + 1 = pc') (hk : Snd y cc nL ret lev mc ms g0 pc' k) : Snd y cc nL ret lev mc ms g0 pc (op_ial k) := by
  subst hp
  intro p l e s m args below meth c D cx ad A F H locs ls L st G M hI hL out ho
  obtain ⟨hx, hb, -, hown, hts, -, -, -, hK, -⟩ := id F
  unfold op_ial at ho
  split at ho
  · next i a r =>
    split at ho
    · next hg =>
      rw [Bool.and_eq_true] at hg
      obtain ⟨ha, hC⟩ := gAt_ok hg.1
      exact Rs.go (G2 := G) hk F ho (fun Q kk => va_iald (f := M a) hx hb hK hI.1 a 0 (by rw [wW_at ha, wE_i hC]) rfl (inB_ok hg.2).1 hd (kk H locs ls hI hL))
    · cases ho
  · cases ho
theorem s_ias (hd : decode cc pc = .ok (.iastore, 1)) (hp : pc + 1 = pc') (hk : Snd y cc nL ret lev mc ms g0 pc' k) : Snd y cc nL ret lev mc ms g0 pc (op_ias k) := by
  subst hp
  intro p l e s m args below meth c D cx ad A F H locs ls L st G M hI hL out ho
  obtain ⟨hx, hb, -, hown, hts, -, -, -, hK, -⟩ := id F
  unfold op_ias at ho
  split at ho
  · next x i a r =>
    split at ho
    · next hg =>
      rw [Bool.and_eq_true] at hg
      obtain ⟨ha, hC⟩ := gAt_ok hg.1
      refine Rs.go (G2 := G) hk F ho (fun Q kk => va_iast (f := M a) hx hb hK hI.1 hI.2.1 hI.2.2.1.me a 0 (by rw [wW_at ha, wE_i hC]) rfl (inB_ok hg.2).1 hd (fun H1 locs1 hP1 hD1 hS1 => W_sz fun hz => ?_))
      rw [wW_set (g' := G) (M' := mset M a i.toNatClampNeg x) rfl (by rw [wE_i hC, mset_eq]) (fun b hb => wE_M (mset_ne hb))] at hP1 hD1
      exact kk H1 locs1 ls (hI.upd hP1 hD1 hS1 hz) hL
    · cases ho
  · cases ho
theorem s_aal {t : Nat} {ty : FieldType} (ht0 : 0 < t) (ht : ∀ cx : Nat → ClassId, (tyL cx)[t]? = some (cx t, ty)) (hrk : refKind ty = true) (hd : decode cc pc = .ok (.aaload, 1)) (hp : pc + 1 = pc') (hk : Snd y cc nL ret lev mc ms g0 pc' k) : Snd y cc nL ret lev mc ms g0 pc (op_aal t k) := by
  subst hp
  intro p l e s m args below meth c D cx ad A F H locs ls L st G M hI hL out ho
  obtain ⟨hx, hb, -, hown, hts, -, -, -, hK, -⟩ := id F
  unfold op_aal at ho
  split at ho
  · next i a r =>
    split at ho
    · next hg =>
      rw [Bool.and_eq_true] at hg
      obtain ⟨ha, hC⟩ := gAt_ok hg.1
      obtain ⟨hi, hlt⟩ := inB_ok hg.2
      split at ho
      · next b hR =>
        have hcell := hI.1 a _ (wW_at ha)
        rw [wE_r hC ht0] at hcell
        refine Rs.go (G2 := G) hk F ho (fun Q kk => W.aald (v := .ref (ad b)) (ty := ty) hx hb hcell ((hK.2 t _ (ht cx)).1 (gL G a) (fun j => va_rf ((gR G a j).map ad))) hrk (fun q => by cases q) (by show ¬ (i < 0 ∨ (arrV _ _ _).slots.size ≤ _); rw [arrV_size]; exact hi) ?_ rfl rfl hd (kk H locs ls hI hL))
        show (arrV _ _ _).slots[_]? = _
        rw [arrV_read _ _ hlt]
        show some (va_rf (Option.map ad (gR G a i.toNatClampNeg))) = _
        rw [hR]
        rfl
      · cases ho
    · cases ho
  · cases ho
theorem s_gst {t index : Nat} (ht : t < 4) (hw : Cond.fieldLink y.cls index "StyleFamilies$Values" (sN t) "[I" ∈ lw_good) (hd : decode cc pc = .ok (.getstatic index, 3)) (hp : pc + 3 = pc') (hk : Snd y cc nL ret lev mc ms g0 pc' k) : Snd y cc nL ret lev mc ms g0 pc (op_gst t k) := by
  subst hp
  intro p l e s m args below meth c D cx ad A F H locs ls L st G M hI hL out ho
  obtain ⟨hx, hb, -, hown, hts, -, -, -, hK, -, hSt, -⟩ := id F
  exact Rs.go (G2 := G) hk F ho (fun Q kk => va_gets hx hb (hSt t ht).1 hI.2.2.1 hown (hts _ hw) (fun x h => h) hd (kk H locs ls hI hL))
theorem s_sal {t : Nat} (ht : t < 4) (hd : decode cc pc = .ok (.iaload, 1)) (hp : pc + 1 = pc') (hk : Snd y cc nL ret lev mc ms g0 pc' k) : Snd y cc nL ret lev mc ms g0 pc (op_sal t k) := by
  subst hp
  intro p l e s m args below meth c D cx ad A F H locs ls L st G M hI hL out ho
  obtain ⟨hx, hb, -, hown, hts, -, -, -, hK, -, hSt, -⟩ := id F
  unfold op_sal at ho
  split at ho
  · next i a r =>
    split at ho
    · next hg =>
      obtain ⟨rfl, hi⟩ := hg
      obtain ⟨-, hX, hnA⟩ := hSt t ht
      have hbl : ad (1000 + t) < s.heap.size := by
        obtain ⟨scr, h1, -⟩ := hX
        exact (Array.getElem?_eq_some_iff.mp h1).1
      exact Rs.go (G2 := G) hk F ho (fun Q kk => va_sld hx hb hX hbl hnA hI.2.2.1 (inB_ok hi).1 hd (kk H locs ls hI hL))
    · cases ho
  · cases ho
end SND3
end
section
/-! ===== the machine follows the operations, 4: calls; a method's contract out of its fragment ===== -/
section SND4
variable {p : Program} {l : Launch} {e : Env} {s : State} {m : MethodId} {args : Array Value} {below : List Frame} {meth : Method} {c : Code} {D : va_G} {cx : Nat → ClassId} {ad : Nat → Nat} {A : Nat → Prop}
variable {y : MethodName} {cc : ByteArray} {nL : Nat} {ret : Option FieldType} {lev mc ms : Nat} {g0 : vG} {pc pc' pt : Nat} {k kt kf : vD}
theorem Stt.to {u U : State} {H H1 : Heap} (h : Stt ad A u H) (hvm : u.vm.Alike U.vm) (hk : ∀ q : Nat, q < H.size → ¬ A q → H1[q]? = H[q]?) : Stt ad A U H1 := by
  intro t ht
  obtain ⟨h1, h2, h3⟩ := h t ht
  have hl : ad (1000 + t) < H.size := by
    obtain ⟨scr, q, -⟩ := h2
    exact (Array.getElem?_eq_some_iff.mp q).1
  exact ⟨(h1.kept hk).moved hvm, (h2.kept (hk _ hl h3)).moved hvm, h3⟩
theorem Nst.warm {U : State} (h : Nst s) (hW : s.WarmedH U.vm) : Nst U := by
  refine ⟨fun w hw => ?_, h.2.1.moved hW.alike, h.2.2.1.moved hW.alike, over_moved hW.alike h.2.2.2⟩
  have h1 := h.1 w hw
  have h2 := (List.mem_filter.mp hw).2
  cases w <;> first | exact va_Nw.warmM hW h1 | cases h2
theorem Nst.same {u U : State} (h : Nst u) (hv : u.vm = U.vm) : Nst U := by
  have ha : u.vm.Alike U.vm := by rw [hv]; exact Vm.Alike.refl _
  refine ⟨fun w hw => ?_, h.2.1.moved ha, h.2.2.1.moved ha, over_moved ha h.2.2.2⟩
  have h1 := h.1 w hw
  have h2 := (List.mem_filter.mp hw).2
  cases w <;> first | exact va_Nw.same rfl hv h1 | cases h2
theorem Wd_blind {g : vG} {M : vM} {sz : Nat} {vs : List Value} : FrameBlind (va_Pc vs (Wd D cx ad A mc g M sz)) := by
  intro a U g' mk q
  obtain ⟨q0, q1, q2, q3, q4, q5, q6, q7, q8⟩ := q
  exact ⟨q0, q1, q2, q3, va_K.moved (u := U) (U := U.calling g' mk a) (Vm.Alike.refl U.vm) q4, q5, q6.to (Vm.Alike.refl U.vm) (fun _ _ _ => rfl), q7.same rfl, q8⟩
theorem Wd_of {H : Heap} {locs : List Loc} {G : vG} {M : vM} (F : Fx p s m args meth c D cx ad A y cc nL ret) (hI : Iv D cx ad A mc ms g0 s H locs G M) {mc' : Nat} (hm : mc' ≠ 0 → mc ≠ 0) {U : State} (hU : U.heap = H) (hW : s.WarmedH U.vm) : Wd D cx ad A mc' G M H.size U := by
  obtain ⟨-, -, -, -, -, -, -, -, hK, hA, hSt, hN⟩ := F
  obtain ⟨hP, hD, hS, -, -, h7⟩ := hI
  exact ⟨by rw [hU], by rw [hU]; exact hP, hD, va_K.moved hW.alike hK, fun q hq => hA q (Nat.le_trans hS.1 hq), by rw [hU]; exact hSt.to hW.alike hS.2.1, hN.warm hW, fun h => h7 (hm h)⟩
theorem good_lw {ws : List Cond} (h : ∀ w ∈ ws, w ∈ lw_good) : GoodIn lw_good ws := fun w hw => ⟨h w hw, good_of_word (List.mem_filter.mp (h w hw)).2⟩
def Nm (y2 : MethodName) (n : Nat) : Prop := y2.cls ≠ "java/lang/invoke/MethodHandle" ∧ y2.cls ≠ "java/lang/invoke/VarHandle" ∧ (parseMethodDescriptor y2.desc).map (fun d => d.parameters.length) = some n
def CaS (y2 : MethodName) (c2 : ByteArray) (n2 : Nat) (r2 : Option FieldType) (n : Nat) : Prop := Cond.static y2 ∈ lw_good ∧ Cond.initialized y2.cls ∈ lw_good ∧ Cond.code y2 c2 n2 r2 ∈ lw_good ∧ Nm y2 n
def CaV (y2 : MethodName) (c2 : ByteArray) (n2 : Nat) (r2 : Option FieldType) (n : Nat) : Prop := Cond.instanceMethod y2 ∈ lw_good ∧ Cond.selects y2.cls y2 y2 ∈ lw_good ∧ Cond.initialized y2.cls ∈ lw_good ∧ Cond.code y2 c2 n2 r2 ∈ lw_good ∧ Nm y2 n
theorem vc_call {H : Heap} {locs : List Loc} {G G' : vG} {M M' : vM} {v0 : Option Value} {mc' ms' : Nat} {as : Array Value} {pc : Nat} {ls : Array Slot} {st rest : List Value} (hI : Iv D cx ad A mc ms g0 s H locs G M) (hmm : mc' ≠ 0 → mc ≠ 0) (hlm : G.1 + mc' ≤ g0.1 + mc ∧ G.2.1 + ms' ≤ g0.2.1 + ms)
    (hr : va_Run p l e (rmL lev mc ms) s m args below meth c H locs (G.1 - g0.1) (G.2.1 - g0.2.1) mc' ms' (F0 m pc ls st) rest (PoC D cx ad A mc' ms' G v0 G' M' as) A) {Q : State → Prop}
    (kk : ∀ (H1 : Heap) (locs1 : List Loc), Iv D cx ad A mc ms g0 s H1 locs1 G' M' → W p l e (rmL lev mc ms) s m args below meth c H1 locs1 (G'.1 - g0.1) (G'.2.1 - g0.2.1) Q (F0 m (pc + 3) ls ((v0.map (cvA ad)).toList ++ rest))) :
    W p l e (rmL lev mc ms) s m args below meth c H locs (G.1 - g0.1) (G.2.1 - g0.2.1) Q (F0 m pc ls st) := by
  intro T hT X
  obtain ⟨v, st₀, t, T', L, h0, X', hL, e1, e2, ⟨hv, ⟨f1, f2, f3⟩, hP, hD, hsz, hF1, hF2⟩, stp⟩ := hr T hT X
  cases hv
  obtain ⟨-, -, hS0, ⟨i1, i2, i3, i4, i5⟩, i6, i7⟩ := hI
  have hsz2 : T'.heap.size = H.size + mc' := by rw [e1, hsz, h0]
  have c1 : G.1 - g0.1 + mc' = G'.1 - g0.1 := by omega
  have c2 : G.2.1 - g0.2.1 + ms' = G'.2.1 - g0.2.1 := by omega
  rw [c1, c2] at X'
  rw [h0] at hF1 hF2
  obtain ⟨t2, a1, b1⟩ := kk T'.heap (locs ++ L) ⟨by rw [e1]; exact hP, hD, ⟨by rw [hsz2]; exact Nat.le_trans hS0.1 (by omega), fun q q1 q2 => by rw [e1, hF2 q (Nat.lt_of_lt_of_le q1 hS0.1) q2]; exact hS0.2.1 q q1 q2, fun q hq => by
      rcases List.mem_append.mp hq with h | h
      · exact hS0.2.2 q h
      · exact hL q h⟩, ⟨by omega, by omega, by omega, by omega, by omega⟩, fun hz => by
        have hz' : mc' = 0 := Classical.byContradiction fun hne => hmm hne hz
        rw [f3 hz', i6 hz], fun hne j hj => by
        have := i7 hne (mc' + j) (by omega)
        rw [f1, Nat.add_assoc, this, hsz2]
        omega⟩ T' rfl X'
  exact ⟨t2, stp t2 a1, b1⟩
theorem cat_sum : ∀ (r : List Value), ((r.map (cvA ad)).map fun v => v.category).sum ≤ 2 * r.length
  | [] => Nat.le_refl _
  | v :: r => by
    have := cat_sum r
    have h2 : (cvA ad v).category ≤ 2 := by rcases lv_cat (cvA ad v) with h | h <;> omega
    simp only [List.map_cons, List.sum_cons, List.length_cons]
    omega
theorem s_calS {y2 : MethodName} {c2 : ByteArray} {n2 : Nat} {r2 : Option FieldType} {lev2 n index : Nat} {f : vF} (hM : Ctr y2 c2 n2 r2 lev2 0 0 f) (hC : CaS y2 c2 n2 r2 n) (hw : Cond.methodLink y.cls index y2 ∈ lw_good) (hlv : lev2 + 1 ≤ lev ∧ 8 + (n2 + 11) + 36 * lev2 ≤ 36 * lev) (hd : decode cc pc = .ok (.invokestatic index, 3)) (hp : pc + 3 = pc') (hk : Snd y cc nL ret lev mc ms g0 pc' k) : Snd y cc nL ret lev mc ms g0 pc (op_cal n f k) := by
  subst hp
  intro p l e s m args below meth c D cx ad A F H locs ls L st G M hI hL out ho
  obtain ⟨hx, hb, hml, hown, hts, -⟩ := id F
  obtain ⟨w1, w2, w3, hN⟩ := hC
  unfold op_cal at ho
  split at ho
  · next hlen =>
    have key : ∀ (v0 : Option Value) (G' : vG) (M' : vM), f (st.take n).reverse G M = some (v0, G', M') → ∀ Q : State → Prop, (∀ (H1 : Heap) (locs1 : List Loc), Iv D cx ad A mc ms g0 s H1 locs1 G' M' → W p l e (rmL lev mc ms) s m args below meth c H1 locs1 (G'.1 - g0.1) (G'.2.1 - g0.2.1) Q (F0 m (pc + 3) ls ((v0.map (cvA ad)).toList ++ (st.drop n).map (cvA ad)))) → W p l e (rmL lev mc ms) s m args below meth c H locs (G.1 - g0.1) (G.2.1 - g0.2.1) Q (F0 m pc ls (st.map (cvA ad))) := by
      intro v0 G' M' hf Q kk
      refine vc_call hI (mc' := 0) (ms' := 0) (fun h => absurd rfl h) ⟨hI.2.2.2.1.2.2.2.1, hI.2.2.2.1.2.2.2.2⟩ (va_runS (As := (st.take n).reverse.map (cvA ad)) (rest := (st.drop n).map (cvA ad)) ⟨hx, hb, hml, hown, hts⟩ (hM l D cx ad A H.size _ G M v0 G' M' hf) (va_cwS n hts (good_lw (fun w hw' => ?_)) rfl rfl rfl hN hlv) ⟨Wd_blind, fun U hU hW => ⟨rfl, Wd_of F hI (fun h => absurd rfl h) hU hW⟩⟩ rfl ?_ hL.1 ?_ (lv_room ?_) hd ?_) kk
      · simp only [va_wsS, List.mem_append, List.mem_cons, List.not_mem_nil, or_false] at hw'
        rcases hw' with (rfl | rfl | rfl) | rfl | h
        · exact hw
        · exact w1
        · exact w2
        · exact w3
        · exact h
      · simp; omega
      · show st.map (cvA ad) = _
        rw [List.map_reverse, List.reverse_reverse, ← List.map_append, List.take_append_drop]
      · have := cat_sum (ad := ad) (st.drop n)
        have h4 : (st.drop n).length ≤ 4 := by simp; omega
        omega
      · have := hI.2.2.2.1
        exact ⟨by show _ + 0 ≤ mc; omega, by show _ + 0 ≤ ms; omega⟩
    split at ho
    · next v G' M' hf => exact Rs.go hk F ho (fun Q kk => key _ _ _ hf Q (fun H1 locs1 hI1 => kk H1 locs1 ls hI1 hL))
    · next G' M' hf => exact Rs.go hk F ho (fun Q kk => key _ _ _ hf Q (fun H1 locs1 hI1 => kk H1 locs1 ls hI1 hL))
    · cases ho
  · cases ho
theorem s_calV {y2 : MethodName} {c2 : ByteArray} {n2 : Nat} {r2 : Option FieldType} {lev2 n index ci : Nat} {f : vF} {T : u_T} {N : Nat} (hM : Ctr y2 c2 n2 r2 lev2 0 0 f) (hC : CaV y2 c2 n2 r2 n) (hcl : vwCl[ci]? = some (y2.cls, T, N)) (hci : ci < 100) (hw : Cond.methodLink y.cls index y2 ∈ lw_good) (hlv : lev2 + 1 ≤ lev ∧ 8 + (n2 + 11) + 36 * lev2 ≤ 36 * lev) (hd : decode cc pc = .ok (.invokevirtual index, 3)) (hp : pc + 3 = pc') (hk : Snd y cc nL ret lev mc ms g0 pc' k) : Snd y cc nL ret lev mc ms g0 pc (op_calV ci n f k) := by
  subst hp
  intro p l e s m args below meth c D cx ad A F H locs ls L st G M hI hL out ho
  obtain ⟨hx, hb, hml, hown, hts, -, -, -, hK, -⟩ := id F
  obtain ⟨w1, w2, w3, w4, hN⟩ := hC
  unfold op_calV at ho
  split at ho
  · next a r hdr =>
    split at ho
    · next hg =>
      obtain ⟨ha, hC⟩ := gAt_ok hg.1
      have hst : st = st.take n ++ .ref a :: r := by rw [← hdr, List.take_append_drop]
      have hlt : (st.take n).length = n := by
        have h1 : (st.drop n).length = r.length + 1 := by rw [hdr]; rfl
        simp at h1 ⊢
        omega
      have key : ∀ (v0 : Option Value) (G' : vG) (M' : vM), f (.ref a :: (st.take n).reverse) G M = some (v0, G', M') → ∀ Q : State → Prop, (∀ (H1 : Heap) (locs1 : List Loc), Iv D cx ad A mc ms g0 s H1 locs1 G' M' → W p l e (rmL lev mc ms) s m args below meth c H1 locs1 (G'.1 - g0.1) (G'.2.1 - g0.2.1) Q (F0 m (pc + 3) ls ((v0.map (cvA ad)).toList ++ r.map (cvA ad)))) → W p l e (rmL lev mc ms) s m args below meth c H locs (G.1 - g0.1) (G.2.1 - g0.2.1) Q (F0 m pc ls (st.map (cvA ad))) := by
        intro v0 G' M' hf Q kk
        refine vc_call hI (mc' := 0) (ms' := 0) (fun h => absurd rfl h) ⟨hI.2.2.2.1.2.2.2.1, hI.2.2.2.1.2.2.2.2⟩ (va_runV (C := y2.cls) (b := ad a) (As := (st.take n).reverse.map (cvA ad)) (rest := r.map (cvA ad)) ⟨hx, hb, hml, hown, hts⟩ (hM l D cx ad A H.size _ G M v0 G' M' hf) (cwV n hts (good_lw (fun w hw' => ?_)) rfl rfl rfl ⟨rfl, hN⟩ hlv) ⟨Wd_blind, va_recv hK hI.1 hcl (q0 := a) (by rw [wW_at ha, wE_o hC hci]), fun U hU hW => ⟨rfl, Wd_of F hI (fun h => absurd rfl h) hU hW⟩⟩ rfl ?_ hL.1 ?_ (lv_room ?_) hd ?_) kk
        · simp only [wsV, List.mem_append, List.mem_cons, List.not_mem_nil, or_false] at hw'
          rcases hw' with (rfl | rfl | rfl | rfl) | rfl | h
          · exact hw
          · exact w1
          · exact w2
          · exact w3
          · exact w4
          · exact h
        · rw [List.length_map, List.length_reverse, hlt]
        · show st.map (cvA ad) = _
          rw [List.map_reverse, List.reverse_reverse]
          conv => lhs; rw [hst]
          rw [List.map_append]
          rfl
        · have := cat_sum (ad := ad) r
          have h4 := hg.2
          omega
        · have := hI.2.2.2.1
          exact ⟨by show _ + 0 ≤ mc; omega, by show _ + 0 ≤ ms; omega⟩
      split at ho
      · next v G' M' hf => exact Rs.go hk F ho (fun Q kk => key _ _ _ hf Q (fun H1 locs1 hI1 => kk H1 locs1 ls hI1 hL))
      · next G' M' hf => exact Rs.go hk F ho (fun Q kk => key _ _ _ hf Q (fun H1 locs1 hI1 => kk H1 locs1 ls hI1 hL))
      · cases ho
    · cases ho
  · cases ho
theorem s_acp {index : Nat} (hw : Cond.methodLink y.cls index arraycopyName ∈ lw_good) (hw2 : Cond.native arraycopyName ∈ lw_good ∧ Cond.static arraycopyName ∈ lw_good ∧ Cond.initialized "java/lang/System" ∈ lw_good) (hlv : 1 ≤ lev) (hd : decode cc pc = .ok (.invokestatic index, 3)) (hp : pc + 3 = pc') (hk : Snd y cc nL ret lev mc ms g0 pc' k) : Snd y cc nL ret lev mc ms g0 pc (op_acp k) := by
  subst hp
  intro p l e s m args below meth c D cx ad A F H locs ls L st G M hI hL out ho
  obtain ⟨hx, hb, hml, hown, hts, -, -, -, hK, -⟩ := id F
  unfold op_acp at ho
  split at ho
  · next n dp d sp a r =>
    split at ho
    · next hg =>
      simp only [Bool.and_eq_true, decide_eq_true_eq] at hg
      obtain ⟨⟨⟨⟨⟨⟨⟨g1, g2⟩, g3⟩, g4⟩, g5⟩, g6⟩, g7⟩, g8⟩ := hg
      obtain ⟨ha, hCa⟩ := gAt_ok g1
      obtain ⟨hd', hCd⟩ := gAt_ok g2
      refine Rs.go (G2 := G) hk F ho (fun Q kk => va_copyi (f := M a) (g := M d) (rest := r.map (cvA ad)) hx hb (hml.trans hL.1.symm) hown (hts _ hw) (hts _ hw2.1) (hts _ hw2.2.1) (hts _ hw2.2.2) hK hI.1 hI.2.1 hI.2.2.1.me a d 0 0 (by rw [wW_at ha, wE_i hCa]) (by rw [wW_at hd', wE_i hCd]) rfl rfl rfl (Int32.not_lt.mpr g5) (Int32.not_lt.mpr g4) (Int32.not_lt.mpr g3) g6 g7 (fun _ _ => rfl) hlv ?_ hd (fun H1 locs1 hP1 hD1 hS1 => W_sz fun hz => ?_))
      · have h1 := cat_sum (ad := ad) r
        have h2 : nativeFrameWords "java/lang/System" "arraycopy" 5 = 7 := by decide +kernel
        show _ ≤ 36 * lev
        omega
      · rw [wW_set (g' := G) (M' := mcpy M a d sp.toNatClampNeg dp.toNatClampNeg n.toNatClampNeg) rfl (by rw [wE_i hCd, mcpy_eq]) (fun b hb => wE_M (mcpy_ne hb))] at hP1 hD1
        exact kk H1 locs1 ls (hI.upd hP1 hD1 hS1 hz) hL
    · cases ho
  · cases ho
theorem lR_entry {as : List Value} (hn : as.length ≤ nL) (hc : as.all (fun v => v.category == 1) = true) : lR ad (en as nL) ((lg_sl (as.map (cvA ad)) ++ List.replicate (nL - (lg_sl (as.map (cvA ad))).length) Slot.unset).toArray) nL ∧ (lg_sl (as.map (cvA ad))).length ≤ nL := by
  have hcat : ∀ v ∈ as, v.category = 1 := fun v hv => by simpa using List.all_eq_true.mp hc v hv
  have h1 : ∀ (as : List Value), (∀ v ∈ as, v.category = 1) → (lg_sl (as.map (cvA ad))).length = as.length := by
    intro as h
    induction as with
    | nil => rfl
    | cons v r ih =>
      have hv := h v List.mem_cons_self
      have ihr := ih (fun w hw => h w (List.mem_cons_of_mem _ hw))
      cases v <;> first | (simp [Value.category] at hv; done) | (simp [lg_sl, cvA, Value.category] at ihr ⊢; exact ihr)
  have h2 : ∀ (as : List Value), (∀ v ∈ as, v.category = 1) → ∀ (o i : Nat) (v : Value), as[i]? = some v → (o + i, cvA ad v) ∈ lv_args o (as.map (cvA ad)) := by
    intro as h
    induction as with
    | nil => intro o i v hi; simp at hi
    | cons w r ih =>
      intro o i v hi
      have hw := h w List.mem_cons_self
      cases i with
      | zero =>
        simp at hi
        subst hi
        exact List.mem_cons_self
      | succ i =>
        rw [List.getElem?_cons_succ] at hi
        have h3 := ih (fun w hw => h w (List.mem_cons_of_mem _ hw)) (o + 1) i v hi
        refine List.mem_cons_of_mem _ ?_
        rw [cvA_cat, hw]
        simpa [Nat.add_assoc, Nat.add_comm 1 i] using h3
  have hl : (lg_sl (as.map (cvA ad))).length ≤ nL := by rw [h1 as hcat]; exact hn
  have he := lv_entry (as.map (cvA ad)) (n := nL) hl
  refine ⟨⟨he.1, he.2.1, fun i v hi => ?_⟩, hl⟩
  have hi2 : as[i]? = some v := by
    unfold en at hi
    by_cases hlt : i < as.length
    · rw [List.getElem?_append_left (by simpa using hlt), List.getElem?_map] at hi
      cases hq : as[i]? with
      | none => rw [hq] at hi; cases hi
      | some w => rw [hq] at hi; simpa using hi
    · rw [List.getElem?_append_right (by simpa using hlt), List.getElem?_replicate] at hi
      split at hi <;> cases hi
  have := h2 as hcat 0 i v hi2
  rw [Nat.zero_add] at this
  exact he.2.2 _ this
/-- a contract out of a fragment -/
theorem ctr_of {d : vG → vD} (hy : plainName y.cls = true) (h : ∀ g0, Snd y cc nL ret lev mc ms g0 0 (d g0)) : Ctr y cc nL ret lev mc ms (fun as G M => runD (d G) nL as G M) := by
  intro l D cx ad A sz as g M v g' M' hf
  simp only [runD] at hf
  split at hf
  · next hl =>
    refine Met.ofW (cc := cc) (maxL := nL) (ret := ret) hy rfl ?_
    intro p e s m args below meth c s₁ B hml hv
    obtain ⟨rfl, hsz, hP, hD, hK, hA, hSt, hN, hal⟩ := hv
    have hts := atoms_spec (ws := (.code y cc nL ret :: lw_good)) B.pre
    have F : Fx p s m (as.map (cvA ad)).toArray meth c D cx ad A y cc nL ret := ⟨B.exec, B.bytes, hml, findClass_of_methodNamed B.named, fun w hw => hts w (List.mem_cons_of_mem _ hw), B.returns, B.notSynchronized, (name_of_methodNamed B.named B.method).1, hK, fun q hq => hA q (by omega), hSt, hN⟩
    have hI : Iv D cx ad A mc ms g s s.heap [] g M := ⟨hP, hD, va_S.rf, ⟨Nat.le_refl _, by omega, Nat.le_refl _, by omega, by omega⟩, fun _ => rfl, fun h j hj => by rw [hsz]; exact hal h j hj⟩
    obtain ⟨hL, hle⟩ := lR_entry (ad := ad) hl.1 hl.2
    split at hf
    · next r hr =>
      cases hf
      have := h g p l e s m (as.map (cvA ad)).toArray below meth c D cx ad A F s.heap [] _ _ [] g M hI hL _ hr
      simp only [Rs, Nat.sub_self, List.map_nil] at this
      rw [lg_entry_eq]
      exact this
    · cases hf
  · cases hf
end SND4
end
section
/-! ===== the machine follows the operations, 5: longs, switches ===== -/
def op_i2l (k : vD) : vD := fun L st G M => match st with
  | .int x :: r => k L (.long x.toInt64 :: r) G M
  | _ => none
def op_l2i (k : vD) : vD := fun L st G M => match st with
  | .long x :: r => k L (.int x.toInt32 :: r) G M
  | _ => none
def op_lcon (x : Int64) (k : vD) : vD := fun L st G M => k L (.long x :: st) G M
def op_lbin (f : Int64 → Int64 → Int64) (k : vD) : vD := fun L st G M => match st with
  | .long y :: .long x :: r => k L (.long (f x y) :: r) G M
  | _ => none
def op_ldiv (f : Int64 → Int64 → Int64) (k : vD) : vD := fun L st G M => match st with
  | .long y :: .long x :: r => if y = 0 then none else k L (.long (f x y) :: r) G M
  | _ => none
def op_lld (i : Nat) (k : vD) : vD := fun L st G M => match L.getD i none with
  | some (.long x) => k L (.long x :: st) G M
  | _ => none
def op_lst (i : Nat) (k : vD) : vD := fun L st G M => match st with
  | .long x :: r => if lgb L i then none else k ((L.set i (some (.long x))).set (i + 1) none) r G M
  | _ => none
def op_tsw (ks : List vD) (kd : vD) : vD := fun L st G M => match st with
  | .int x :: r => if 0 ≤ x.toInt ∧ x.toInt < ks.length then (ks.getD x.toInt.toNat (fun _ _ _ _ => none)) L r G M else kd L r G M
  | _ => none
section SND5
variable {p : Program} {l : Launch} {e : Env} {s : State} {m : MethodId} {args : Array Value} {below : List Frame} {meth : Method} {c : Code} {D : va_G} {cx : Nat → ClassId} {ad : Nat → Nat} {A : Nat → Prop}
variable {y : MethodName} {cc : ByteArray} {nL : Nat} {ret : Option FieldType} {lev mc ms : Nat} {g0 : vG} {pc pc' pt : Nat} {k kt kf : vD}
theorem s_i2l (hd : decode cc pc = .ok (.i2l, 1)) (hp : pc + 1 = pc') (hk : Snd y cc nL ret lev mc ms g0 pc' k) : Snd y cc nL ret lev mc ms g0 pc (op_i2l k) := by
  subst hp
  intro p l e s m args below meth c D cx ad A F H locs ls L st G M hI hL out ho
  obtain ⟨hx, hb, -⟩ := id F
  unfold op_i2l at ho
  split at ho
  · exact Rs.go (G2 := G) hk F ho (fun Q kk => lv_i2l hx hb hd rfl (kk H locs ls hI hL))
  · cases ho
theorem s_l2i (hd : decode cc pc = .ok (.l2i, 1)) (hp : pc + 1 = pc') (hk : Snd y cc nL ret lev mc ms g0 pc' k) : Snd y cc nL ret lev mc ms g0 pc (op_l2i k) := by
  subst hp
  intro p l e s m args below meth c D cx ad A F H locs ls L st G M hI hL out ho
  obtain ⟨hx, hb, -⟩ := id F
  unfold op_l2i at ho
  split at ho
  · exact Rs.go (G2 := G) hk F ho (fun Q kk => lv_l2i hx hb hd rfl (kk H locs ls hI hL))
  · cases ho
theorem s_lcon {n : Nat} {x : Int64} (hd : decode cc pc = .ok (.ldc2_w n, 3)) (hw : Cond.constantLong y.cls n x ∈ lw_good) (hp : pc + 3 = pc') (hk : Snd y cc nL ret lev mc ms g0 pc' k) : Snd y cc nL ret lev mc ms g0 pc (op_lcon x k) := by
  subst hp
  intro p l e s m args below meth c D cx ad A F H locs ls L st G M hI hL out ho
  obtain ⟨hx, hb, -, hown, hts, -⟩ := id F
  exact Rs.go (G2 := G) hk F ho (fun Q kk => lv_ldc2 hx hb hown (hts _ hw) hd (kk H locs ls hI hL))
def f_lmul : Int64 → Int64 → Int64 := fun x y => x * y
def f_ladd : Int64 → Int64 → Int64 := fun x y => x + y
def f_lrem : Int64 → Int64 → Int64 := fun x y => x - x / y * y
theorem s_lmul (hd : decode cc pc = .ok (.lmul, 1)) (hp : pc + 1 = pc') (hk : Snd y cc nL ret lev mc ms g0 pc' k) : Snd y cc nL ret lev mc ms g0 pc (op_lbin f_lmul k) := by
  subst hp
  intro p l e s m args below meth c D cx ad A F H locs ls L st G M hI hL out ho
  obtain ⟨hx, hb, -⟩ := id F
  unfold op_lbin at ho
  split at ho
  · exact Rs.go (G2 := G) hk F ho (fun Q kk => lv_lmul hx hb hd (kk H locs ls hI hL))
  · cases ho
theorem s_ladd (hd : decode cc pc = .ok (.ladd, 1)) (hp : pc + 1 = pc') (hk : Snd y cc nL ret lev mc ms g0 pc' k) : Snd y cc nL ret lev mc ms g0 pc (op_lbin f_ladd k) := by
  subst hp
  intro p l e s m args below meth c D cx ad A F H locs ls L st G M hI hL out ho
  obtain ⟨hx, hb, -⟩ := id F
  unfold op_lbin at ho
  split at ho
  · exact Rs.go (G2 := G) hk F ho (fun Q kk => lv_ladd hx hb hd (kk H locs ls hI hL))
  · cases ho
theorem s_lrem (hd : decode cc pc = .ok (.lrem, 1)) (hp : pc + 1 = pc') (hk : Snd y cc nL ret lev mc ms g0 pc' k) : Snd y cc nL ret lev mc ms g0 pc (op_ldiv f_lrem k) := by
  subst hp
  intro p l e s m args below meth c D cx ad A F H locs ls L st G M hI hL out ho
  obtain ⟨hx, hb, -⟩ := id F
  unfold op_ldiv at ho
  split at ho
  · split at ho
    · cases ho
    · next hne => exact Rs.go (G2 := G) hk F ho (fun Q kk => lv_lrem hx hb hd hne (kk H locs ls hI hL))
  · cases ho
theorem s_lldn {i : Nat} {j : Fin 4} (hd : decode cc pc = .ok (.lload_n j, 1)) (hi : (j : Nat) = i) (hp : pc + 1 = pc') (hk : Snd y cc nL ret lev mc ms g0 pc' k) : Snd y cc nL ret lev mc ms g0 pc (op_lld i k) := by
  subst hp
  intro p l e s m args below meth c D cx ad A F H locs ls L st G M hI hL out ho
  obtain ⟨hx, hb, -⟩ := id F
  unfold op_lld at ho
  split at ho
  · next x hg => exact Rs.go (G2 := G) hk F ho (fun Q kk => lv_lload_n hx hb hd hi (lR_at hL hg) (kk H locs ls hI hL))
  · cases ho
theorem lR_set2 {L : vL} {ls : Array Slot} {i : Nat} {v : Value} (hg : lgb L i = false) (h : lv_has ls nL ((i, cvA ad v) :: (prs ad L).filter (fun q => !(q.1 == i) && (!(q.1 == i + 1) && !(q.1 + 1 == i && q.2.category == 2))))) : lR ad ((L.set i (some v)).set (i + 1) none) ls nL := by
  refine ⟨h.1, h.2.1, fun j w hj => ?_⟩
  by_cases hj1 : j = i + 1
  · subst hj1
    have hl : i + 1 < (L.set i (some v)).length := by
      have := (List.getElem?_eq_some_iff.mp hj).1
      simpa using this
    rw [List.getElem?_set_self hl] at hj
    cases hj
  rw [List.getElem?_set_ne (fun q => hj1 q.symm)] at hj
  by_cases hji : j = i
  · subst hji
    have hl : j < L.length := by
      have := (List.getElem?_eq_some_iff.mp hj).1
      simpa using this
    rw [List.getElem?_set_self hl] at hj
    cases hj
    exact h.2.2 (j, cvA ad v) List.mem_cons_self
  · rw [List.getElem?_set_ne (fun q => hji q.symm)] at hj
    refine h.2.2 (j, cvA ad w) (List.mem_cons_of_mem _ (List.mem_filter.mpr ⟨prs_in hj, ?_⟩))
    have hb : (j + 1 == i && (cvA ad w).category == 2) = false := by
      by_cases hj1 : j + 1 = i
      · subst hj1
        have : lgb L (j + 1) = (w.category == 2) := by
          show (match L.getD j none with
            | some v => v.category == 2
            | none => false) = _
          rw [List.getD_eq_getElem?_getD, hj]
          rfl
        rw [this] at hg
        rw [cvA_cat, hg]
        simp
      · simp [hj1]
    simp [hji, hj1, hb]
theorem s_lstn {i : Nat} {j : Fin 4} (hd : decode cc pc = .ok (.lstore_n j, 1)) (hi : (j : Nat) = i) (hn : i + 1 < nL) (hp : pc + 1 = pc') (hk : Snd y cc nL ret lev mc ms g0 pc' k) : Snd y cc nL ret lev mc ms g0 pc (op_lst i k) := by
  subst hp
  intro p l e s m args below meth c D cx ad A F H locs ls L st G M hI hL out ho
  obtain ⟨hx, hb, -⟩ := id F
  unfold op_lst at ho
  split at ho
  · next x r =>
    split at ho
    · cases ho
    · next hg => exact Rs.go (G2 := G) hk F ho (fun Q kk => lv_lstore_n hx hb hd hi (lR_has hL) hn rfl (fun ls' h' => kk H locs ls' hI (lR_set2 (v := .long x) (by simpa using hg) h')))
  · cases ho
def SndL (y : MethodName) (cc : ByteArray) (nL : Nat) (ret : Option FieldType) (lev mc ms : Nat) (g0 : vG) : List Nat → List vD → Prop
  | t :: ts, k :: ks => Snd y cc nL ret lev mc ms g0 t k ∧ SndL y cc nL ret lev mc ms g0 ts ks
  | [], [] => True
  | _, _ => False
theorem SndL_at : ∀ {ts : List Nat} {ks : List vD}, SndL y cc nL ret lev mc ms g0 ts ks → ts.length = ks.length ∧ ∀ j, j < ks.length → Snd y cc nL ret lev mc ms g0 (ts.getD j 0) (ks.getD j (fun _ _ _ _ => none))
  | [], [], _ => ⟨rfl, fun j hj => absurd hj (Nat.not_lt_zero j)⟩
  | t :: ts, k :: ks, h => by
    obtain ⟨h1, h2⟩ := SndL_at h.2
    refine ⟨by simp [h1], fun j hj => ?_⟩
    cases j with
    | zero => exact h.1
    | succ j => exact h2 j (by simpa using hj)
  | t :: ts, [], h => h.elim
  | [], k :: ks, h => h.elim
theorem s_tsw {ks : List vD} {kd : vD} {ts : List Nat} {dflt hi : Int} {offs : Array Int} {len td : Nat} (hd : decode cc pc = .ok (.tableswitch dflt 0 hi offs, len)) (hh : hi + 1 = ts.length) (ho : ∀ j, j < ts.length → offs[j]? = some ((ts.getD j 0 : Nat) - (pc : Int))) (htd : (pc : Int) + dflt = (td : Int)) (hks : SndL y cc nL ret lev mc ms g0 ts ks) (hkd : Snd y cc nL ret lev mc ms g0 td kd) : Snd y cc nL ret lev mc ms g0 pc (op_tsw ks kd) := by
  intro p l e s m args below meth c D cx ad A F H locs ls L st G M hI hL out hot
  obtain ⟨hx, hb, -⟩ := id F
  obtain ⟨hlen, hat⟩ := SndL_at hks
  unfold op_tsw at hot
  split at hot
  · next x r =>
    split at hot
    · next hc =>
      have hj : x.toInt.toNat < ks.length := by omega
      exact Rs.go (G2 := G) (hat _ hj) F hot (fun Q kk => lv_tableIn hx hb hd (by omega) (by omega) (by rw [Int.sub_zero]; exact ho _ (by omega)) (by omega) (kk H locs ls hI hL))
    · next hc =>
      exact Rs.go (G2 := G) hkd F hot (fun Q kk => lv_tableOut hx hb hd (by omega) htd (kk H locs ls hI hL))
  · cases hot
end SND5
end
section
/-! ===== words of the tables, by their places (by program: wip/whole/gen.py) ===== -/
theorem wg {w : Cond} (i : Nat) (h : lw_tbl[i]? = some w) (hg : goodWord w = true) : w ∈ lw_good := List.mem_filter.mpr ⟨List.mem_of_getElem? h, hg⟩
theorem nar_bool : ∀ x : Int32, x = 0 ∨ x = 1 → narrow .boolean (.int x) = .int x := fun x h => by rcases h with rfl | rfl <;> decide
theorem g_ok0 : ∀ w ∈ u_ws RX0 TX0 3, w ∈ lw_good := by decide +kernel
theorem g_ok1 : ∀ w ∈ u_ws RX1 TX1 4, w ∈ lw_good := by decide +kernel
theorem g_ok2 : ∀ w ∈ u_ws RX2 TX2 6, w ∈ lw_good := by decide +kernel
theorem g_ok3 : ∀ w ∈ u_ws RX3 TX3 3, w ∈ lw_good := by decide +kernel
theorem g_ok4 : ∀ w ∈ u_ws RX4 TX4 3, w ∈ lw_good := by decide +kernel
theorem g_ok5 : ∀ w ∈ u_ws RX5 TX5 3, w ∈ lw_good := by decide +kernel
theorem g_ok6 : ∀ w ∈ u_ws RX6 TX6 1, w ∈ lw_good := by decide +kernel
theorem g_ok7 : ∀ w ∈ u_ws RX7 TX7 4, w ∈ lw_good := by decide +kernel
theorem g_ok8 : ∀ w ∈ u_ws RX8 TX8 4, w ∈ lw_good := by decide +kernel
theorem g_ok10 : ∀ w ∈ u_ws RX10 TX10 8, w ∈ lw_good := by decide +kernel
theorem g_ok11 : ∀ w ∈ u_ws RX11 TX11 18, w ∈ lw_good := by decide +kernel
theorem w_0 : Cond.selects "StyleFamilies$Sheet" yX8_redundantIn yX8_redundantIn ∈ lw_good := wg 0 (by decide +kernel) rfl
theorem w_1 : Cond.selects "StyleFamilies" yX10_gatheredLooks yX10_gatheredLooks ∈ lw_good := wg 1 (by decide +kernel) rfl
theorem w_2 : Cond.selects "StyleFamilies$Looks" yX5_enter yX5_enter ∈ lw_good := wg 2 (by decide +kernel) rfl
theorem w_3 : Cond.selects "StyleFamilies" yX10_costWithBestParents yX10_costWithBestParents ∈ lw_good := wg 3 (by decide +kernel) rfl
theorem w_4 : Cond.selects "StyleFamilies" yX10_layForestOfStyles yX10_layForestOfStyles ∈ lw_good := wg 4 (by decide +kernel) rfl
theorem w_5 : Cond.selects "StyleFamilies$Forest" yX2_addUp yX2_addUp ∈ lw_good := wg 5 (by decide +kernel) rfl
theorem w_6 : Cond.selects "StyleFamilies" yX10_foundBestStyles yX10_foundBestStyles ∈ lw_good := wg 6 (by decide +kernel) rfl
theorem w_7 : Cond.selects "StyleFamilies$BestStyles" yX0_paragraphCosts yX0_paragraphCosts ∈ lw_good := wg 7 (by decide +kernel) rfl
theorem w_8 : Cond.selects "StyleFamilies$BestStyles" yX0_compare yX0_compare ∈ lw_good := wg 8 (by decide +kernel) rfl
theorem w_9 : Cond.selects "StyleFamilies" yX10_costWithNearestStyle yX10_costWithNearestStyle ∈ lw_good := wg 9 (by decide +kernel) rfl
theorem w_10 : Cond.selects "StyleFamilies" yX10_bestParentOf yX10_bestParentOf ∈ lw_good := wg 10 (by decide +kernel) rfl
theorem w_11 : Cond.selects "StyleFamilies$Forest" yX2_firstParent yX2_firstParent ∈ lw_good := wg 11 (by decide +kernel) rfl
theorem w_12 : Cond.selects "StyleFamilies$Forest" yX2_costWithParent yX2_costWithParent ∈ lw_good := wg 12 (by decide +kernel) rfl
theorem w_13 : Cond.selects "StyleFamilies" yX10_isStyleOrNone yX10_isStyleOrNone ∈ lw_good := wg 13 (by decide +kernel) rfl
theorem w_14 : Cond.selects "StyleFamilies" yX10_give yX10_give ∈ lw_good := wg 14 (by decide +kernel) rfl
theorem w_15 : Cond.selects "StyleFamilies" yX10_errorOfParent yX10_errorOfParent ∈ lw_good := wg 15 (by decide +kernel) rfl
theorem w_16 : Cond.selects "StyleFamilies" yX10_giveAtRandom yX10_giveAtRandom ∈ lw_good := wg 16 (by decide +kernel) rfl
theorem w_17 : Cond.selects "StyleFamilies" yX10_draw yX10_draw ∈ lw_good := wg 17 (by decide +kernel) rfl
theorem w_18 : Cond.selects "StyleFamiliesModel" yX11_cost yX11_cost ∈ lw_good := wg 18 (by decide +kernel) rfl
theorem w_19 : Cond.selects "StyleFamiliesModel" yX11_styleCost yX11_styleCost ∈ lw_good := wg 19 (by decide +kernel) rfl
theorem w_20 : Cond.selects "StyleFamiliesModel" yX11_bitsAt yX11_bitsAt ∈ lw_good := wg 20 (by decide +kernel) rfl
theorem w_21 : Cond.selects "StyleFamiliesModel" yX11_paragraphCost yX11_paragraphCost ∈ lw_good := wg 21 (by decide +kernel) rfl
theorem w_22 : Cond.selects "StyleFamiliesModel" yX11_needless yX11_needless ∈ lw_good := wg 22 (by decide +kernel) rfl
theorem w_23 : Cond.selects "StyleFamiliesModel" yX11_isNeedlessOfStyle yX11_isNeedlessOfStyle ∈ lw_good := wg 23 (by decide +kernel) rfl
theorem w_24 : Cond.selects "StyleFamiliesModel" yX11_ofStyle yX11_ofStyle ∈ lw_good := wg 24 (by decide +kernel) rfl
theorem w_25 : Cond.selects "StyleFamiliesModel" yX11_setter yX11_setter ∈ lw_good := wg 25 (by decide +kernel) rfl
theorem w_26 : Cond.selects "StyleFamiliesModel" yX11_isNeedlessOfParagraph yX11_isNeedlessOfParagraph ∈ lw_good := wg 26 (by decide +kernel) rfl
theorem w_27 : Cond.selects "StyleFamiliesModel" yX11_looks yX11_looks ∈ lw_good := wg 27 (by decide +kernel) rfl
theorem w_28 : Cond.selects "StyleFamiliesModel" yX11_layLooks yX11_layLooks ∈ lw_good := wg 28 (by decide +kernel) rfl
theorem w_29 : Cond.selects "StyleFamiliesModel" yX11_layParagraphLooks yX11_layParagraphLooks ∈ lw_good := wg 29 (by decide +kernel) rfl
theorem w_30 : Cond.selects "StyleFamiliesModel" yX11_ofParagraph yX11_ofParagraph ∈ lw_good := wg 30 (by decide +kernel) rfl
theorem w_31 : Cond.selects "StyleFamiliesModel" yX11_knitCost yX11_knitCost ∈ lw_good := wg 31 (by decide +kernel) rfl
theorem w_32 : Cond.selects "StyleFamiliesModel" yX11_layStyleLooks yX11_layStyleLooks ∈ lw_good := wg 32 (by decide +kernel) rfl
theorem w_33 : Cond.selects "StyleFamiliesModel" yX11_layLinks yX11_layLinks ∈ lw_good := wg 33 (by decide +kernel) rfl
theorem w_34 : Cond.selects "StyleFamiliesModel" yX11_bitsApart yX11_bitsApart ∈ lw_good := wg 34 (by decide +kernel) rfl
theorem w_35 : Cond.selects "StyleFamiliesModel" yX11_grown yX11_grown ∈ lw_good := wg 35 (by decide +kernel) rfl
theorem w_36 : Cond.selects "StyleFamiliesModel" yX11_putBehind yX11_putBehind ∈ lw_good := wg 36 (by decide +kernel) rfl
theorem w_37 : Cond.selects "StyleFamiliesModel" yX11_byFamily yX11_byFamily ∈ lw_good := wg 37 (by decide +kernel) rfl
theorem w_38 : Cond.selects "StyleFamiliesModel" yX11_layFamily yX11_layFamily ∈ lw_good := wg 38 (by decide +kernel) rfl
theorem w_39 : Cond.selects "StyleFamiliesModel" yX11_numberOf yX11_numberOf ∈ lw_good := wg 39 (by decide +kernel) rfl
theorem w_40 : Cond.selects "StyleFamiliesModel" yX11_cheapest yX11_cheapest ∈ lw_good := wg 40 (by decide +kernel) rfl
theorem w_41 : Cond.selects "StyleFamiliesModel" yX11_idle yX11_idle ∈ lw_good := wg 41 (by decide +kernel) rfl
theorem w_42 : Cond.selects "StyleFamiliesModel" yX11_wrongEntry yX11_wrongEntry ∈ lw_good := wg 42 (by decide +kernel) rfl
theorem w_43 : Cond.selects "StyleFamiliesModel" yX11_isParagraph yX11_isParagraph ∈ lw_good := wg 43 (by decide +kernel) rfl
theorem w_44 : Cond.selects "StyleFamiliesModel" yX11_layAll yX11_layAll ∈ lw_good := wg 44 (by decide +kernel) rfl
theorem w_45 : Cond.selects "StyleFamiliesModel" yX11_nearest yX11_nearest ∈ lw_good := wg 45 (by decide +kernel) rfl
theorem w_46 : Cond.selects "StyleFamiliesModel" yX11_costBy yX11_costBy ∈ lw_good := wg 46 (by decide +kernel) rfl
theorem w_47 : Cond.selects "StyleFamiliesModel" yX11_lookNumber yX11_lookNumber ∈ lw_good := wg 47 (by decide +kernel) rfl
theorem w_48 : Cond.selects "StyleFamiliesModel" yX11_toldAt yX11_toldAt ∈ lw_good := wg 48 (by decide +kernel) rfl
theorem w_49 : Cond.selects "StyleFamiliesModel" yX11_isStyle yX11_isStyle ∈ lw_good := wg 49 (by decide +kernel) rfl
theorem w_50 : Cond.selects "StyleFamiliesModel" yX11_above yX11_above ∈ lw_good := wg 50 (by decide +kernel) rfl
theorem w_51 : Cond.selects "StyleFamiliesModel" yX11_havers yX11_havers ∈ lw_good := wg 51 (by decide +kernel) rfl
theorem w_52 : Cond.selects "StyleFamiliesModel" yX11_children yX11_children ∈ lw_good := wg 52 (by decide +kernel) rfl
theorem w_53 : Cond.selects "StyleFamiliesModel" yX11_knitParent yX11_knitParent ∈ lw_good := wg 53 (by decide +kernel) rfl
theorem w_54 : Cond.selects "StyleFamiliesModel" yX11_layKnit yX11_layKnit ∈ lw_good := wg 54 (by decide +kernel) rfl
theorem w_55 : Cond.selects "StyleFamiliesModel" yX11_isStyleOrNone yX11_isStyleOrNone ∈ lw_good := wg 55 (by decide +kernel) rfl
theorem w_56 : Cond.selects "StyleFamiliesModel" yX11_remember yX11_remember ∈ lw_good := wg 56 (by decide +kernel) rfl
theorem w_57 : Cond.selects "StyleFamiliesModel" yX11_copyRow yX11_copyRow ∈ lw_good := wg 57 (by decide +kernel) rfl
theorem w_58 : Cond.selects "StyleFamiliesModel" yX11_clear yX11_clear ∈ lw_good := wg 58 (by decide +kernel) rfl
theorem w_59 : Cond.selects "StyleFamiliesModel" yX11_lay yX11_lay ∈ lw_good := wg 59 (by decide +kernel) rfl
theorem w_60 : Cond.selects "StyleFamiliesModel" yX11_isRing yX11_isRing ∈ lw_good := wg 60 (by decide +kernel) rfl
theorem w_61 : Cond.selects "StyleFamiliesModel" yX11_tellAnew yX11_tellAnew ∈ lw_good := wg 61 (by decide +kernel) rfl
theorem w_62 : Cond.selects "StyleFamiliesModel" yX11_lessAbove yX11_lessAbove ∈ lw_good := wg 62 (by decide +kernel) rfl
theorem w_63 : Cond.selects "StyleFamiliesModel" yX11_draw yX11_draw ∈ lw_good := wg 63 (by decide +kernel) rfl
theorem w_64 : Cond.selects "StyleFamiliesModel" yX11_drawValue yX11_drawValue ∈ lw_good := wg 64 (by decide +kernel) rfl
theorem w_66 : Cond.initialized "StyleFamilies" ∈ lw_good := wg 66 (by decide +kernel) rfl
theorem w_67 : Cond.initialized "StyleFamilies$Sheet" ∈ lw_good := wg 67 (by decide +kernel) rfl
theorem w_68 : Cond.initialized "StyleFamilies$Rows" ∈ lw_good := wg 68 (by decide +kernel) rfl
theorem w_69 : Cond.initialized "java/lang/Math" ∈ lw_good := wg 69 (by decide +kernel) rfl
theorem w_70 : Cond.initialized "StyleFamilies$History" ∈ lw_good := wg 70 (by decide +kernel) rfl
theorem w_71 : Cond.initialized "StyleFamilies$Book" ∈ lw_good := wg 71 (by decide +kernel) rfl
theorem w_72 : Cond.initialized "StyleFamilies$Looks" ∈ lw_good := wg 72 (by decide +kernel) rfl
theorem w_73 : Cond.initialized "StyleFamilies$Forest" ∈ lw_good := wg 73 (by decide +kernel) rfl
theorem w_74 : Cond.initialized "StyleFamilies$Reach" ∈ lw_good := wg 74 (by decide +kernel) rfl
theorem w_75 : Cond.initialized "StyleFamilies$BestStyles" ∈ lw_good := wg 75 (by decide +kernel) rfl
theorem w_77 : Cond.initialized "StyleFamiliesModel" ∈ lw_good := wg 77 (by decide +kernel) rfl
theorem w_78 : Cond.initialized "StyleFamilies$Values" ∈ lw_good := wg 78 (by decide +kernel) rfl
theorem w_79 : Cond.initialized "java/lang/System" ∈ lw_good := wg 79 (by decide +kernel) rfl
theorem w_80 : Cond.initialized "java/lang/Integer" ∈ lw_good := wg 80 (by decide +kernel) rfl
theorem w_102 : Cond.static yJ9_min_7cf53 ∈ lw_good := wg 102 (by decide +kernel) rfl
theorem w_103 : Cond.code yJ9_min_7cf53 prog_15_method_69_code 2 (some .int) ∈ lw_good := wg 103 (by decide +kernel) rfl
theorem w_104 : Cond.fieldLink "StyleFamilies$Rows" 28 "StyleFamilies$Rows" "most" "I" ∈ lw_good := wg 104 (by decide +kernel) rfl
theorem w_105 : Cond.fieldLink "StyleFamilies$Rows" 9 "StyleFamilies$Rows" "count" "I" ∈ lw_good := wg 105 (by decide +kernel) rfl
theorem w_106 : Cond.fieldLink "StyleFamilies" 66 "StyleFamilies$Rows" "count" "I" ∈ lw_good := wg 106 (by decide +kernel) rfl
theorem w_107 : Cond.fieldLink "StyleFamilies$Looks" 28 "StyleFamilies$Rows" "count" "I" ∈ lw_good := wg 107 (by decide +kernel) rfl
theorem w_108 : Cond.fieldLink "StyleFamilies$Sheet" 63 "StyleFamilies$Rows" "count" "I" ∈ lw_good := wg 108 (by decide +kernel) rfl
theorem w_109 : Cond.fieldLink "StyleFamilies$Rows" 15 "StyleFamilies$Rows" "base" "[I" ∈ lw_good := wg 109 (by decide +kernel) rfl
theorem w_110 : Cond.fieldLink "StyleFamilies$Sheet" 45 "StyleFamilies$Rows" "base" "[I" ∈ lw_good := wg 110 (by decide +kernel) rfl
theorem w_111 : Cond.fieldLink "StyleFamilies" 130 "StyleFamilies$Rows" "base" "[I" ∈ lw_good := wg 111 (by decide +kernel) rfl
theorem w_112 : Cond.fieldLink "StyleFamilies$Rows" 19 "StyleFamilies$Rows" "own" "[I" ∈ lw_good := wg 112 (by decide +kernel) rfl
theorem w_123 : Cond.fieldLink "StyleFamilies$Sheet" 9 "StyleFamilies$Sheet" "headCost" "I" ∈ lw_good := wg 123 (by decide +kernel) rfl
theorem w_124 : Cond.fieldLink "StyleFamilies" 103 "StyleFamilies$Sheet" "headCost" "I" ∈ lw_good := wg 124 (by decide +kernel) rfl
theorem w_125 : Cond.fieldLink "StyleFamilies$Sheet" 15 "StyleFamilies$Sheet" "groundValues" "[I" ∈ lw_good := wg 125 (by decide +kernel) rfl
theorem w_126 : Cond.fieldLink "StyleFamilies" 215 "StyleFamilies$Sheet" "groundValues" "[I" ∈ lw_good := wg 126 (by decide +kernel) rfl
theorem w_127 : Cond.fieldLink "StyleFamilies$Sheet" 24 "StyleFamilies$Sheet" "styles" "LStyleFamilies$Rows;" ∈ lw_good := wg 127 (by decide +kernel) rfl
theorem w_128 : Cond.fieldLink "StyleFamilies" 71 "StyleFamilies$Sheet" "styles" "LStyleFamilies$Rows;" ∈ lw_good := wg 128 (by decide +kernel) rfl
theorem w_129 : Cond.fieldLink "StyleFamilies$Sheet" 28 "StyleFamilies$Sheet" "paragraphs" "LStyleFamilies$Rows;" ∈ lw_good := wg 129 (by decide +kernel) rfl
theorem w_130 : Cond.fieldLink "StyleFamilies" 62 "StyleFamilies$Sheet" "paragraphs" "LStyleFamilies$Rows;" ∈ lw_good := wg 130 (by decide +kernel) rfl
theorem w_131 : Cond.fieldLink "StyleFamilies$Looks" 22 "StyleFamilies$Sheet" "paragraphs" "LStyleFamilies$Rows;" ∈ lw_good := wg 131 (by decide +kernel) rfl
theorem w_132 : Cond.fieldLink "StyleFamilies$Book" 25 "StyleFamilies$Sheet" "paragraphs" "LStyleFamilies$Rows;" ∈ lw_good := wg 132 (by decide +kernel) rfl
theorem w_151 : Cond.fieldLink "StyleFamilies$History" 9 "StyleFamilies$History" "count" "I" ∈ lw_good := wg 151 (by decide +kernel) rfl
theorem w_152 : Cond.fieldLink "StyleFamilies" 111 "StyleFamilies$History" "count" "I" ∈ lw_good := wg 152 (by decide +kernel) rfl
theorem w_153 : Cond.fieldLink "StyleFamilies$History" 15 "StyleFamilies$History" "next" "I" ∈ lw_good := wg 153 (by decide +kernel) rfl
theorem w_154 : Cond.fieldLink "StyleFamilies$History" 20 "StyleFamilies$History" "before" "[LStyleFamilies$Sheet;" ∈ lw_good := wg 154 (by decide +kernel) rfl
theorem w_168 : Cond.fieldLink "StyleFamilies$Book" 9 "StyleFamilies$Book" "count" "I" ∈ lw_good := wg 168 (by decide +kernel) rfl
theorem w_169 : Cond.fieldLink "StyleFamilies" 106 "StyleFamilies$Book" "count" "I" ∈ lw_good := wg 169 (by decide +kernel) rfl
theorem w_170 : Cond.fieldLink "StyleFamilies$Book" 15 "StyleFamilies$Book" "paragraphs" "[I" ∈ lw_good := wg 170 (by decide +kernel) rfl
theorem w_171 : Cond.fieldLink "StyleFamilies$Book" 19 "StyleFamilies$Book" "properties" "[I" ∈ lw_good := wg 171 (by decide +kernel) rfl
theorem w_172 : Cond.fieldLink "StyleFamilies$Book" 22 "StyleFamilies$Book" "values" "[I" ∈ lw_good := wg 172 (by decide +kernel) rfl
theorem w_190 : Cond.fieldLink "StyleFamilies$Looks" 9 "StyleFamilies$Looks" "count" "I" ∈ lw_good := wg 190 (by decide +kernel) rfl
theorem w_191 : Cond.fieldLink "StyleFamilies$BestStyles" 25 "StyleFamilies$Looks" "count" "I" ∈ lw_good := wg 191 (by decide +kernel) rfl
theorem w_192 : Cond.fieldLink "StyleFamilies" 86 "StyleFamilies$Looks" "count" "I" ∈ lw_good := wg 192 (by decide +kernel) rfl
theorem w_193 : Cond.fieldLink "StyleFamilies$Forest" 39 "StyleFamilies$Looks" "count" "I" ∈ lw_good := wg 193 (by decide +kernel) rfl
theorem w_194 : Cond.fieldLink "StyleFamilies$Looks" 15 "StyleFamilies$Looks" "look" "[I" ∈ lw_good := wg 194 (by decide +kernel) rfl
theorem w_195 : Cond.fieldLink "StyleFamilies$BestStyles" 30 "StyleFamilies$Looks" "look" "[I" ∈ lw_good := wg 195 (by decide +kernel) rfl
theorem w_196 : Cond.fieldLink "StyleFamilies$Forest" 42 "StyleFamilies$Looks" "look" "[I" ∈ lw_good := wg 196 (by decide +kernel) rfl
theorem w_197 : Cond.fieldLink "StyleFamilies" 180 "StyleFamilies$Looks" "look" "[I" ∈ lw_good := wg 197 (by decide +kernel) rfl
theorem w_198 : Cond.fieldLink "StyleFamilies$Looks" 19 "StyleFamilies$Looks" "wearers" "[I" ∈ lw_good := wg 198 (by decide +kernel) rfl
theorem w_199 : Cond.fieldLink "StyleFamilies$BestStyles" 57 "StyleFamilies$Looks" "wearers" "[I" ∈ lw_good := wg 199 (by decide +kernel) rfl
theorem w_221 : Cond.fieldLink "StyleFamilies$Reach" 13 "StyleFamilies$Reach" "least" "[[I" ∈ lw_good := wg 221 (by decide +kernel) rfl
theorem w_222 : Cond.fieldLink "StyleFamilies$BestStyles" 60 "StyleFamilies$Reach" "least" "[[I" ∈ lw_good := wg 222 (by decide +kernel) rfl
theorem w_223 : Cond.fieldLink "StyleFamilies$Forest" 57 "StyleFamilies$Reach" "least" "[[I" ∈ lw_good := wg 223 (by decide +kernel) rfl
theorem w_227 : Cond.fieldLink "StyleFamilies$Forest" 9 "StyleFamilies$Forest" "count" "I" ∈ lw_good := wg 227 (by decide +kernel) rfl
theorem w_228 : Cond.fieldLink "StyleFamilies$Sheet" 123 "StyleFamilies$Forest" "count" "I" ∈ lw_good := wg 228 (by decide +kernel) rfl
theorem w_229 : Cond.fieldLink "StyleFamilies$Forest" 15 "StyleFamilies$Forest" "look" "[I" ∈ lw_good := wg 229 (by decide +kernel) rfl
theorem w_230 : Cond.fieldLink "StyleFamilies$Sheet" 117 "StyleFamilies$Forest" "look" "[I" ∈ lw_good := wg 230 (by decide +kernel) rfl
theorem w_231 : Cond.fieldLink "StyleFamilies$Forest" 19 "StyleFamilies$Forest" "parents" "[I" ∈ lw_good := wg 231 (by decide +kernel) rfl
theorem w_232 : Cond.fieldLink "StyleFamilies$Sheet" 112 "StyleFamilies$Forest" "parents" "[I" ∈ lw_good := wg 232 (by decide +kernel) rfl
theorem w_233 : Cond.fieldLink "StyleFamilies" 308 "StyleFamilies$Forest" "parents" "[I" ∈ lw_good := wg 233 (by decide +kernel) rfl
theorem w_234 : Cond.fieldLink "StyleFamilies$Forest" 22 "StyleFamilies$Forest" "groundLook" "I" ∈ lw_good := wg 234 (by decide +kernel) rfl
theorem w_235 : Cond.fieldLink "StyleFamilies$Forest" 28 "StyleFamilies$Forest" "reach" "LStyleFamilies$Reach;" ∈ lw_good := wg 235 (by decide +kernel) rfl
theorem w_236 : Cond.fieldLink "StyleFamilies$Forest" 32 "StyleFamilies$Forest" "sum" "[I" ∈ lw_good := wg 236 (by decide +kernel) rfl
theorem w_258 : Cond.fieldLink "StyleFamilies$BestStyles" 9 "StyleFamilies$BestStyles" "set" "I" ∈ lw_good := wg 258 (by decide +kernel) rfl
theorem w_259 : Cond.fieldLink "StyleFamilies" 97 "StyleFamilies$BestStyles" "set" "I" ∈ lw_good := wg 259 (by decide +kernel) rfl
theorem w_260 : Cond.fieldLink "StyleFamilies$BestStyles" 15 "StyleFamilies$BestStyles" "cost" "I" ∈ lw_good := wg 260 (by decide +kernel) rfl
theorem w_261 : Cond.fieldLink "StyleFamilies" 94 "StyleFamilies$BestStyles" "cost" "I" ∈ lw_good := wg 261 (by decide +kernel) rfl
theorem w_262 : Cond.fieldLink "StyleFamilies$BestStyles" 21 "StyleFamilies$BestStyles" "reach" "LStyleFamilies$Reach;" ∈ lw_good := wg 262 (by decide +kernel) rfl
theorem w_278 : Cond.fieldLink "StyleFamilies" 273 "StyleFamilies$Image" "filled" "Z" ∈ lw_good := wg 278 (by decide +kernel) rfl
theorem w_280 : Cond.fieldLink "StyleFamilies" 277 "StyleFamilies$Image" "random" "I" ∈ lw_good := wg 280 (by decide +kernel) rfl
theorem w_282 : Cond.fieldLink "StyleFamilies" 278 "StyleFamilies$Image" "sheet" "LStyleFamilies$Sheet;" ∈ lw_good := wg 282 (by decide +kernel) rfl
theorem w_290 : Cond.fieldLink "StyleFamilies" 12 "StyleFamilies" "now" "LStyleFamilies$Sheet;" ∈ lw_good := wg 290 (by decide +kernel) rfl
theorem w_291 : Cond.fieldLink "StyleFamilies" 19 "StyleFamilies" "history" "LStyleFamilies$History;" ∈ lw_good := wg 291 (by decide +kernel) rfl
theorem w_292 : Cond.fieldLink "StyleFamilies" 26 "StyleFamilies" "book" "LStyleFamilies$Book;" ∈ lw_good := wg 292 (by decide +kernel) rfl
theorem w_293 : Cond.fieldLink "StyleFamilies" 32 "StyleFamilies" "images" "[LStyleFamilies$Image;" ∈ lw_good := wg 293 (by decide +kernel) rfl
theorem w_294 : Cond.fieldLink "StyleFamilies" 39 "StyleFamilies" "looks" "LStyleFamilies$Looks;" ∈ lw_good := wg 294 (by decide +kernel) rfl
theorem w_295 : Cond.fieldLink "StyleFamilies" 46 "StyleFamilies" "forest" "LStyleFamilies$Forest;" ∈ lw_good := wg 295 (by decide +kernel) rfl
theorem w_296 : Cond.fieldLink "StyleFamilies" 53 "StyleFamilies" "bestStyles" "LStyleFamilies$BestStyles;" ∈ lw_good := wg 296 (by decide +kernel) rfl
theorem w_297 : Cond.fieldLink "StyleFamilies" 57 "StyleFamilies" "random" "I" ∈ lw_good := wg 297 (by decide +kernel) rfl
theorem w_316 : Cond.instanceMethod yX10_told ∈ lw_good := wg 316 (by decide +kernel) rfl
theorem w_317 : Cond.selects "StyleFamilies" yX10_told yX10_told ∈ lw_good := wg 317 (by decide +kernel) rfl
theorem w_318 : Cond.code yX10_told prog_1_method_2_code 2 (some .int) ∈ lw_good := wg 318 (by decide +kernel) rfl
theorem w_319 : Cond.methodLink "StyleFamilies" 74 yX8_costOfAll ∈ lw_good := wg 319 (by decide +kernel) rfl
theorem w_320 : Cond.instanceMethod yX8_costOfAll ∈ lw_good := wg 320 (by decide +kernel) rfl
theorem w_321 : Cond.selects "StyleFamilies$Sheet" yX8_costOfAll yX8_costOfAll ∈ lw_good := wg 321 (by decide +kernel) rfl
theorem w_322 : Cond.code yX8_costOfAll prog_10_method_12_code 3 (some .int) ∈ lw_good := wg 322 (by decide +kernel) rfl
theorem w_323 : Cond.methodLink "StyleFamilies$Sheet" 66 yX8_styleCost ∈ lw_good := wg 323 (by decide +kernel) rfl
theorem w_324 : Cond.instanceMethod yX8_styleCost ∈ lw_good := wg 324 (by decide +kernel) rfl
theorem w_325 : Cond.selects "StyleFamilies$Sheet" yX8_styleCost yX8_styleCost ∈ lw_good := wg 325 (by decide +kernel) rfl
theorem w_326 : Cond.code yX8_styleCost prog_10_method_10_code 2 (some .int) ∈ lw_good := wg 326 (by decide +kernel) rfl
theorem w_327 : Cond.methodLink "StyleFamilies$Sheet" 59 yX7_ownBits ∈ lw_good := wg 327 (by decide +kernel) rfl
theorem w_328 : Cond.instanceMethod yX7_ownBits ∈ lw_good := wg 328 (by decide +kernel) rfl
theorem w_329 : Cond.selects "StyleFamilies$Rows" yX7_ownBits yX7_ownBits ∈ lw_good := wg 329 (by decide +kernel) rfl
theorem w_330 : Cond.code yX7_ownBits prog_9_method_7_code 5 (some .int) ∈ lw_good := wg 330 (by decide +kernel) rfl
theorem w_331 : Cond.methodLink "StyleFamilies$Rows" 31 yX7_ownValue ∈ lw_good := wg 331 (by decide +kernel) rfl
theorem w_332 : Cond.instanceMethod yX7_ownValue ∈ lw_good := wg 332 (by decide +kernel) rfl
theorem w_333 : Cond.selects "StyleFamilies$Rows" yX7_ownValue yX7_ownValue ∈ lw_good := wg 333 (by decide +kernel) rfl
theorem w_334 : Cond.code yX7_ownValue prog_9_method_4_code 3 (some .int) ∈ lw_good := wg 334 (by decide +kernel) rfl
theorem w_335 : Cond.methodLink "StyleFamilies$Rows" 34 yX9_bits ∈ lw_good := wg 335 (by decide +kernel) rfl
theorem w_336 : Cond.static yX9_bits ∈ lw_good := wg 336 (by decide +kernel) rfl
theorem w_337 : Cond.code yX9_bits prog_11_method_4_code 2 (some .int) ∈ lw_good := wg 337 (by decide +kernel) rfl
theorem w_338 : Cond.methodLink "StyleFamilies$Sheet" 69 yX8_paragraphCost ∈ lw_good := wg 338 (by decide +kernel) rfl
theorem w_339 : Cond.instanceMethod yX8_paragraphCost ∈ lw_good := wg 339 (by decide +kernel) rfl
theorem w_340 : Cond.selects "StyleFamilies$Sheet" yX8_paragraphCost yX8_paragraphCost ∈ lw_good := wg 340 (by decide +kernel) rfl
theorem w_341 : Cond.code yX8_paragraphCost prog_10_method_11_code 2 (some .int) ∈ lw_good := wg 341 (by decide +kernel) rfl
theorem w_342 : Cond.methodLink "StyleFamilies" 78 yX8_countRedundant ∈ lw_good := wg 342 (by decide +kernel) rfl
theorem w_343 : Cond.instanceMethod yX8_countRedundant ∈ lw_good := wg 343 (by decide +kernel) rfl
theorem w_344 : Cond.selects "StyleFamilies$Sheet" yX8_countRedundant yX8_countRedundant ∈ lw_good := wg 344 (by decide +kernel) rfl
theorem w_345 : Cond.code yX8_countRedundant prog_10_method_14_code 2 (some .int) ∈ lw_good := wg 345 (by decide +kernel) rfl
theorem w_346 : Cond.methodLink "StyleFamilies$Sheet" 75 yX8_redundantIn ∈ lw_good := wg 346 (by decide +kernel) rfl
theorem w_348 : Cond.instanceMethod yX8_redundantIn ∈ lw_good := wg 348 (by decide +kernel) rfl
theorem w_349 : Cond.code yX8_redundantIn prog_10_method_15_code 7 (some .int) ∈ lw_good := wg 349 (by decide +kernel) rfl
theorem w_350 : Cond.methodLink "StyleFamilies$Sheet" 41 yX7_ownValue ∈ lw_good := wg 350 (by decide +kernel) rfl
theorem w_351 : Cond.methodLink "StyleFamilies$Sheet" 48 yX8_styleValue ∈ lw_good := wg 351 (by decide +kernel) rfl
theorem w_352 : Cond.instanceMethod yX8_styleValue ∈ lw_good := wg 352 (by decide +kernel) rfl
theorem w_353 : Cond.selects "StyleFamilies$Sheet" yX8_styleValue yX8_styleValue ∈ lw_good := wg 353 (by decide +kernel) rfl
theorem w_354 : Cond.code yX8_styleValue prog_10_method_4_code 6 (some .int) ∈ lw_good := wg 354 (by decide +kernel) rfl
theorem w_355 : Cond.methodLink "StyleFamilies$Sheet" 79 yX7_changeOwn ∈ lw_good := wg 355 (by decide +kernel) rfl
theorem w_356 : Cond.instanceMethod yX7_changeOwn ∈ lw_good := wg 356 (by decide +kernel) rfl
theorem w_357 : Cond.selects "StyleFamilies$Rows" yX7_changeOwn yX7_changeOwn ∈ lw_good := wg 357 (by decide +kernel) rfl
theorem w_358 : Cond.code yX7_changeOwn prog_9_method_5_code 5 (some .int) ∈ lw_good := wg 358 (by decide +kernel) rfl
theorem w_359 : Cond.methodLink "StyleFamilies" 82 yX10_gatheredLooks ∈ lw_good := wg 359 (by decide +kernel) rfl
theorem w_361 : Cond.instanceMethod yX10_gatheredLooks ∈ lw_good := wg 361 (by decide +kernel) rfl
theorem w_362 : Cond.code yX10_gatheredLooks prog_1_method_36_code 1 (some (.object "StyleFamilies$Looks")) ∈ lw_good := wg 362 (by decide +kernel) rfl
theorem w_363 : Cond.methodLink "StyleFamilies" 186 yX5_gather ∈ lw_good := wg 363 (by decide +kernel) rfl
theorem w_364 : Cond.instanceMethod yX5_gather ∈ lw_good := wg 364 (by decide +kernel) rfl
theorem w_365 : Cond.selects "StyleFamilies$Looks" yX5_gather yX5_gather ∈ lw_good := wg 365 (by decide +kernel) rfl
theorem w_366 : Cond.code yX5_gather prog_7_method_3_code 3 none ∈ lw_good := wg 366 (by decide +kernel) rfl
theorem w_367 : Cond.methodLink "StyleFamilies$Looks" 31 yX8_paragraphLook ∈ lw_good := wg 367 (by decide +kernel) rfl
theorem w_368 : Cond.instanceMethod yX8_paragraphLook ∈ lw_good := wg 368 (by decide +kernel) rfl
theorem w_369 : Cond.selects "StyleFamilies$Sheet" yX8_paragraphLook yX8_paragraphLook ∈ lw_good := wg 369 (by decide +kernel) rfl
theorem w_370 : Cond.code yX8_paragraphLook prog_10_method_7_code 4 (some .int) ∈ lw_good := wg 370 (by decide +kernel) rfl
theorem w_371 : Cond.methodLink "StyleFamilies$Sheet" 56 yX8_paragraphValue ∈ lw_good := wg 371 (by decide +kernel) rfl
theorem w_372 : Cond.instanceMethod yX8_paragraphValue ∈ lw_good := wg 372 (by decide +kernel) rfl
theorem w_373 : Cond.selects "StyleFamilies$Sheet" yX8_paragraphValue yX8_paragraphValue ∈ lw_good := wg 373 (by decide +kernel) rfl
theorem w_374 : Cond.code yX8_paragraphValue prog_10_method_5_code 4 (some .int) ∈ lw_good := wg 374 (by decide +kernel) rfl
theorem w_375 : Cond.methodLink "StyleFamilies$Sheet" 51 yX9_asPartOfLook ∈ lw_good := wg 375 (by decide +kernel) rfl
theorem w_376 : Cond.static yX9_asPartOfLook ∈ lw_good := wg 376 (by decide +kernel) rfl
theorem w_377 : Cond.code yX9_asPartOfLook prog_11_method_6_code 2 (some .int) ∈ lw_good := wg 377 (by decide +kernel) rfl
theorem w_378 : Cond.fieldLink "StyleFamilies$Values" 15 "StyleFamilies$Values" "SHIFT" "[I" ∈ lw_good := wg 378 (by decide +kernel) rfl
theorem w_380 : Cond.methodLink "StyleFamilies$Looks" 35 yX5_enter ∈ lw_good := wg 380 (by decide +kernel) rfl
theorem w_382 : Cond.instanceMethod yX5_enter ∈ lw_good := wg 382 (by decide +kernel) rfl
theorem w_383 : Cond.code yX5_enter prog_7_method_5_code 3 none ∈ lw_good := wg 383 (by decide +kernel) rfl
theorem w_384 : Cond.methodLink "StyleFamilies$Looks" 39 yX5_numberOf ∈ lw_good := wg 384 (by decide +kernel) rfl
theorem w_385 : Cond.instanceMethod yX5_numberOf ∈ lw_good := wg 385 (by decide +kernel) rfl
theorem w_386 : Cond.selects "StyleFamilies$Looks" yX5_numberOf yX5_numberOf ∈ lw_good := wg 386 (by decide +kernel) rfl
theorem w_387 : Cond.code yX5_numberOf prog_7_method_4_code 3 (some .int) ∈ lw_good := wg 387 (by decide +kernel) rfl
theorem w_388 : Cond.methodLink "StyleFamilies$Looks" 42 (⟨"java/lang/System", "arraycopy", "(Ljava/lang/Object;ILjava/lang/Object;II)V"⟩ : MethodName) ∈ lw_good := wg 388 (by decide +kernel) rfl
theorem w_389 : Cond.static (⟨"java/lang/System", "arraycopy", "(Ljava/lang/Object;ILjava/lang/Object;II)V"⟩ : MethodName) ∈ lw_good := wg 389 (by decide +kernel) rfl
theorem w_390 : Cond.native (⟨"java/lang/System", "arraycopy", "(Ljava/lang/Object;ILjava/lang/Object;II)V"⟩ : MethodName) ∈ lw_good := wg 390 (by decide +kernel) rfl
theorem w_391 : Cond.methodLink "StyleFamilies" 87 yX10_costWithBestParents ∈ lw_good := wg 391 (by decide +kernel) rfl
theorem w_393 : Cond.instanceMethod yX10_costWithBestParents ∈ lw_good := wg 393 (by decide +kernel) rfl
theorem w_394 : Cond.code yX10_costWithBestParents prog_1_method_39_code 1 (some .int) ∈ lw_good := wg 394 (by decide +kernel) rfl
theorem w_395 : Cond.methodLink "StyleFamilies" 241 yX10_layForestOfStyles ∈ lw_good := wg 395 (by decide +kernel) rfl
theorem w_397 : Cond.instanceMethod yX10_layForestOfStyles ∈ lw_good := wg 397 (by decide +kernel) rfl
theorem w_398 : Cond.code yX10_layForestOfStyles prog_1_method_38_code 2 none ∈ lw_good := wg 398 (by decide +kernel) rfl
theorem w_399 : Cond.methodLink "StyleFamilies" 190 yX8_styleLook ∈ lw_good := wg 399 (by decide +kernel) rfl
theorem w_400 : Cond.instanceMethod yX8_styleLook ∈ lw_good := wg 400 (by decide +kernel) rfl
theorem w_401 : Cond.selects "StyleFamilies$Sheet" yX8_styleLook yX8_styleLook ∈ lw_good := wg 401 (by decide +kernel) rfl
theorem w_402 : Cond.code yX8_styleLook prog_10_method_6_code 4 (some .int) ∈ lw_good := wg 402 (by decide +kernel) rfl
theorem w_403 : Cond.methodLink "StyleFamilies" 298 yX2_begin ∈ lw_good := wg 403 (by decide +kernel) rfl
theorem w_404 : Cond.instanceMethod yX2_begin ∈ lw_good := wg 404 (by decide +kernel) rfl
theorem w_405 : Cond.selects "StyleFamilies$Forest" yX2_begin yX2_begin ∈ lw_good := wg 405 (by decide +kernel) rfl
theorem w_406 : Cond.code yX2_begin prog_4_method_2_code 2 none ∈ lw_good := wg 406 (by decide +kernel) rfl
theorem w_407 : Cond.methodLink "StyleFamilies" 301 yX2_plant ∈ lw_good := wg 407 (by decide +kernel) rfl
theorem w_408 : Cond.instanceMethod yX2_plant ∈ lw_good := wg 408 (by decide +kernel) rfl
theorem w_409 : Cond.selects "StyleFamilies$Forest" yX2_plant yX2_plant ∈ lw_good := wg 409 (by decide +kernel) rfl
theorem w_410 : Cond.code yX2_plant prog_4_method_3_code 2 none ∈ lw_good := wg 410 (by decide +kernel) rfl
theorem w_411 : Cond.methodLink "StyleFamilies" 304 yX2_grow ∈ lw_good := wg 411 (by decide +kernel) rfl
theorem w_412 : Cond.instanceMethod yX2_grow ∈ lw_good := wg 412 (by decide +kernel) rfl
theorem w_413 : Cond.selects "StyleFamilies$Forest" yX2_grow yX2_grow ∈ lw_good := wg 413 (by decide +kernel) rfl
theorem w_414 : Cond.code yX2_grow prog_4_method_5_code 2 none ∈ lw_good := wg 414 (by decide +kernel) rfl
theorem w_415 : Cond.methodLink "StyleFamilies$Forest" 49 yX6_fill ∈ lw_good := wg 415 (by decide +kernel) rfl
theorem w_416 : Cond.instanceMethod yX6_fill ∈ lw_good := wg 416 (by decide +kernel) rfl
theorem w_417 : Cond.selects "StyleFamilies$Reach" yX6_fill yX6_fill ∈ lw_good := wg 417 (by decide +kernel) rfl
theorem w_418 : Cond.code yX6_fill prog_8_method_2_code 10 none ∈ lw_good := wg 418 (by decide +kernel) rfl
theorem w_419 : Cond.methodLink "StyleFamilies$Reach" 16 yX9_bitsApart ∈ lw_good := wg 419 (by decide +kernel) rfl
theorem w_420 : Cond.static yX9_bitsApart ∈ lw_good := wg 420 (by decide +kernel) rfl
theorem w_421 : Cond.code yX9_bitsApart prog_11_method_7_code 5 (some .int) ∈ lw_good := wg 421 (by decide +kernel) rfl
theorem w_422 : Cond.methodLink "StyleFamilies$Values" 21 yX9_inLook ∈ lw_good := wg 422 (by decide +kernel) rfl
theorem w_423 : Cond.static yX9_inLook ∈ lw_good := wg 423 (by decide +kernel) rfl
theorem w_424 : Cond.code yX9_inLook prog_11_method_5_code 2 (some .int) ∈ lw_good := wg 424 (by decide +kernel) rfl
theorem w_425 : Cond.fieldLink "StyleFamilies$Values" 18 "StyleFamilies$Values" "MASK" "[I" ∈ lw_good := wg 425 (by decide +kernel) rfl
theorem w_427 : Cond.methodLink "StyleFamilies$Values" 25 yX9_bits ∈ lw_good := wg 427 (by decide +kernel) rfl
theorem w_428 : Cond.methodLink "StyleFamilies$Reach" 22 yJ9_min_7cf53 ∈ lw_good := wg 428 (by decide +kernel) rfl
theorem w_429 : Cond.methodLink "StyleFamilies$Forest" 53 yX2_addUp ∈ lw_good := wg 429 (by decide +kernel) rfl
theorem w_431 : Cond.instanceMethod yX2_addUp ∈ lw_good := wg 431 (by decide +kernel) rfl
theorem w_432 : Cond.code yX2_addUp prog_4_method_6_code 5 none ∈ lw_good := wg 432 (by decide +kernel) rfl
theorem w_433 : Cond.constant "StyleFamilies$Forest" 56 (1000000000) ∈ lw_good := wg 433 (by decide +kernel) rfl
theorem w_434 : Cond.methodLink "StyleFamilies$Forest" 61 yJ9_min_7cf53 ∈ lw_good := wg 434 (by decide +kernel) rfl
theorem w_435 : Cond.methodLink "StyleFamilies" 307 yX2_costOfAll ∈ lw_good := wg 435 (by decide +kernel) rfl
theorem w_436 : Cond.instanceMethod yX2_costOfAll ∈ lw_good := wg 436 (by decide +kernel) rfl
theorem w_437 : Cond.selects "StyleFamilies$Forest" yX2_costOfAll yX2_costOfAll ∈ lw_good := wg 437 (by decide +kernel) rfl
theorem w_438 : Cond.code yX2_costOfAll prog_4_method_8_code 1 (some .int) ∈ lw_good := wg 438 (by decide +kernel) rfl
theorem w_439 : Cond.methodLink "StyleFamilies" 90 yX10_foundBestStyles ∈ lw_good := wg 439 (by decide +kernel) rfl
theorem w_441 : Cond.instanceMethod yX10_foundBestStyles ∈ lw_good := wg 441 (by decide +kernel) rfl
theorem w_442 : Cond.code yX10_foundBestStyles prog_1_method_37_code 2 (some (.object "StyleFamilies$BestStyles")) ∈ lw_good := wg 442 (by decide +kernel) rfl
theorem w_443 : Cond.methodLink "StyleFamilies" 251 yX2_layChosen ∈ lw_good := wg 443 (by decide +kernel) rfl
theorem w_444 : Cond.instanceMethod yX2_layChosen ∈ lw_good := wg 444 (by decide +kernel) rfl
theorem w_445 : Cond.selects "StyleFamilies$Forest" yX2_layChosen yX2_layChosen ∈ lw_good := wg 445 (by decide +kernel) rfl
theorem w_446 : Cond.code yX2_layChosen prog_4_method_4_code 5 none ∈ lw_good := wg 446 (by decide +kernel) rfl
theorem w_447 : Cond.methodLink "StyleFamilies$Forest" 35 yX2_begin ∈ lw_good := wg 447 (by decide +kernel) rfl
theorem w_448 : Cond.methodLink "StyleFamilies$Forest" 43 yX2_plant ∈ lw_good := wg 448 (by decide +kernel) rfl
theorem w_449 : Cond.methodLink "StyleFamilies$Forest" 46 yX2_grow ∈ lw_good := wg 449 (by decide +kernel) rfl
theorem w_450 : Cond.methodLink "StyleFamilies" 294 yX0_find ∈ lw_good := wg 450 (by decide +kernel) rfl
theorem w_451 : Cond.instanceMethod yX0_find ∈ lw_good := wg 451 (by decide +kernel) rfl
theorem w_452 : Cond.selects "StyleFamilies$BestStyles" yX0_find yX0_find ∈ lw_good := wg 452 (by decide +kernel) rfl
theorem w_453 : Cond.code yX0_find prog_2_method_2_code 7 none ∈ lw_good := wg 453 (by decide +kernel) rfl
theorem w_454 : Cond.methodLink "StyleFamilies$BestStyles" 34 yX6_fill ∈ lw_good := wg 454 (by decide +kernel) rfl
theorem w_455 : Cond.methodLink "StyleFamilies$BestStyles" 38 yX0_paragraphCosts ∈ lw_good := wg 455 (by decide +kernel) rfl
theorem w_457 : Cond.instanceMethod yX0_paragraphCosts ∈ lw_good := wg 457 (by decide +kernel) rfl
theorem w_458 : Cond.code yX0_paragraphCosts prog_2_method_4_code 5 (some .int) ∈ lw_good := wg 458 (by decide +kernel) rfl
theorem w_459 : Cond.methodLink "StyleFamilies$BestStyles" 42 yJ6_bitCount_0f7a4 ∈ lw_good := wg 459 (by decide +kernel) rfl
theorem w_460 : Cond.static yJ6_bitCount_0f7a4 ∈ lw_good := wg 460 (by decide +kernel) rfl
theorem w_461 : Cond.code yJ6_bitCount_0f7a4 prog_14_method_49_code 1 (some .int) ∈ lw_good := wg 461 (by decide +kernel) rfl
theorem w_462 : Cond.constant "java/lang/Integer" 265 (1431655765) ∈ lw_good := wg 462 (by decide +kernel) rfl
theorem w_463 : Cond.constant "java/lang/Integer" 266 (858993459) ∈ lw_good := wg 463 (by decide +kernel) rfl
theorem w_464 : Cond.constant "java/lang/Integer" 267 (252645135) ∈ lw_good := wg 464 (by decide +kernel) rfl
theorem w_465 : Cond.methodLink "StyleFamilies$BestStyles" 48 yX2_costOf ∈ lw_good := wg 465 (by decide +kernel) rfl
theorem w_466 : Cond.instanceMethod yX2_costOf ∈ lw_good := wg 466 (by decide +kernel) rfl
theorem w_467 : Cond.selects "StyleFamilies$Forest" yX2_costOf yX2_costOf ∈ lw_good := wg 467 (by decide +kernel) rfl
theorem w_468 : Cond.code yX2_costOf prog_4_method_7_code 2 (some .int) ∈ lw_good := wg 468 (by decide +kernel) rfl
theorem w_469 : Cond.methodLink "StyleFamilies$BestStyles" 53 yX0_compare ∈ lw_good := wg 469 (by decide +kernel) rfl
theorem w_471 : Cond.instanceMethod yX0_compare ∈ lw_good := wg 471 (by decide +kernel) rfl
theorem w_472 : Cond.code yX0_compare prog_2_method_3_code 4 none ∈ lw_good := wg 472 (by decide +kernel) rfl
theorem w_473 : Cond.methodLink "StyleFamilies" 100 yX8_unusedStyles ∈ lw_good := wg 473 (by decide +kernel) rfl
theorem w_474 : Cond.instanceMethod yX8_unusedStyles ∈ lw_good := wg 474 (by decide +kernel) rfl
theorem w_475 : Cond.selects "StyleFamilies$Sheet" yX8_unusedStyles yX8_unusedStyles ∈ lw_good := wg 475 (by decide +kernel) rfl
theorem w_476 : Cond.code yX8_unusedStyles prog_10_method_13_code 3 (some .int) ∈ lw_good := wg 476 (by decide +kernel) rfl
theorem w_477 : Cond.methodLink "StyleFamilies$Sheet" 72 yX7_withBase ∈ lw_good := wg 477 (by decide +kernel) rfl
theorem w_478 : Cond.instanceMethod yX7_withBase ∈ lw_good := wg 478 (by decide +kernel) rfl
theorem w_479 : Cond.selects "StyleFamilies$Rows" yX7_withBase yX7_withBase ∈ lw_good := wg 479 (by decide +kernel) rfl
theorem w_480 : Cond.code yX7_withBase prog_9_method_9_code 4 (some .int) ∈ lw_good := wg 480 (by decide +kernel) rfl
theorem w_481 : Cond.methodLink "StyleFamilies" 107 yX1_firstWrong ∈ lw_good := wg 481 (by decide +kernel) rfl
theorem w_482 : Cond.instanceMethod yX1_firstWrong ∈ lw_good := wg 482 (by decide +kernel) rfl
theorem w_483 : Cond.selects "StyleFamilies$Book" yX1_firstWrong yX1_firstWrong ∈ lw_good := wg 483 (by decide +kernel) rfl
theorem w_484 : Cond.code yX1_firstWrong prog_3_method_5_code 4 (some .int) ∈ lw_good := wg 484 (by decide +kernel) rfl
theorem w_485 : Cond.methodLink "StyleFamilies$Book" 30 yX7_holds ∈ lw_good := wg 485 (by decide +kernel) rfl
theorem w_486 : Cond.instanceMethod yX7_holds ∈ lw_good := wg 486 (by decide +kernel) rfl
theorem w_487 : Cond.selects "StyleFamilies$Rows" yX7_holds yX7_holds ∈ lw_good := wg 487 (by decide +kernel) rfl
theorem w_488 : Cond.code yX7_holds prog_9_method_2_code 2 (some .boolean) ∈ lw_good := wg 488 (by decide +kernel) rfl
theorem w_489 : Cond.methodLink "StyleFamilies$Book" 36 yX8_paragraphValue ∈ lw_good := wg 489 (by decide +kernel) rfl
theorem w_490 : Cond.constant "StyleFamilies" 112 (-1000000002) ∈ lw_good := wg 490 (by decide +kernel) rfl
theorem w_492 : Cond.instanceMethod yX10_has ∈ lw_good := wg 492 (by decide +kernel) rfl
theorem w_493 : Cond.selects "StyleFamilies" yX10_has yX10_has ∈ lw_good := wg 493 (by decide +kernel) rfl
theorem w_494 : Cond.code yX10_has prog_1_method_3_code 3 (some .int) ∈ lw_good := wg 494 (by decide +kernel) rfl
theorem w_495 : Cond.methodLink "StyleFamilies" 113 yX7_holds ∈ lw_good := wg 495 (by decide +kernel) rfl
theorem w_496 : Cond.methodLink "StyleFamilies" 117 yX9_isProperty ∈ lw_good := wg 496 (by decide +kernel) rfl
theorem w_497 : Cond.static yX9_isProperty ∈ lw_good := wg 497 (by decide +kernel) rfl
theorem w_498 : Cond.code yX9_isProperty prog_11_method_2_code 1 (some .boolean) ∈ lw_good := wg 498 (by decide +kernel) rfl
theorem w_499 : Cond.constant "StyleFamilies" 122 (-1000000001) ∈ lw_good := wg 499 (by decide +kernel) rfl
theorem w_500 : Cond.methodLink "StyleFamilies" 123 yX8_paragraphValue ∈ lw_good := wg 500 (by decide +kernel) rfl
theorem w_502 : Cond.instanceMethod yX10_from ∈ lw_good := wg 502 (by decide +kernel) rfl
theorem w_503 : Cond.selects "StyleFamilies" yX10_from yX10_from ∈ lw_good := wg 503 (by decide +kernel) rfl
theorem w_504 : Cond.code yX10_from prog_1_method_4_code 4 (some .int) ∈ lw_good := wg 504 (by decide +kernel) rfl
theorem w_505 : Cond.methodLink "StyleFamilies" 127 yX7_ownValue ∈ lw_good := wg 505 (by decide +kernel) rfl
theorem w_506 : Cond.methodLink "StyleFamilies" 134 yX8_setter ∈ lw_good := wg 506 (by decide +kernel) rfl
theorem w_507 : Cond.instanceMethod yX8_setter ∈ lw_good := wg 507 (by decide +kernel) rfl
theorem w_508 : Cond.selects "StyleFamilies$Sheet" yX8_setter yX8_setter ∈ lw_good := wg 508 (by decide +kernel) rfl
theorem w_509 : Cond.code yX8_setter prog_10_method_3_code 5 (some .int) ∈ lw_good := wg 509 (by decide +kernel) rfl
theorem w_511 : Cond.instanceMethod yX10_paragraphAt ∈ lw_good := wg 511 (by decide +kernel) rfl
theorem w_512 : Cond.selects "StyleFamilies" yX10_paragraphAt yX10_paragraphAt ∈ lw_good := wg 512 (by decide +kernel) rfl
theorem w_513 : Cond.code yX10_paragraphAt prog_1_method_5_code 3 (some .int) ∈ lw_good := wg 513 (by decide +kernel) rfl
theorem w_514 : Cond.methodLink "StyleFamilies" 137 yX8_paragraphCost ∈ lw_good := wg 514 (by decide +kernel) rfl
theorem w_515 : Cond.methodLink "StyleFamilies" 141 yX8_paragraphLook ∈ lw_good := wg 515 (by decide +kernel) rfl
theorem w_516 : Cond.methodLink "StyleFamilies" 144 yX8_nearestStyle ∈ lw_good := wg 516 (by decide +kernel) rfl
theorem w_517 : Cond.instanceMethod yX8_nearestStyle ∈ lw_good := wg 517 (by decide +kernel) rfl
theorem w_518 : Cond.selects "StyleFamilies$Sheet" yX8_nearestStyle yX8_nearestStyle ∈ lw_good := wg 518 (by decide +kernel) rfl
theorem w_519 : Cond.code yX8_nearestStyle prog_10_method_17_code 6 (some .int) ∈ lw_good := wg 519 (by decide +kernel) rfl
theorem w_520 : Cond.methodLink "StyleFamilies$Sheet" 89 yX8_costWithStyle ∈ lw_good := wg 520 (by decide +kernel) rfl
theorem w_521 : Cond.instanceMethod yX8_costWithStyle ∈ lw_good := wg 521 (by decide +kernel) rfl
theorem w_522 : Cond.selects "StyleFamilies$Sheet" yX8_costWithStyle yX8_costWithStyle ∈ lw_good := wg 522 (by decide +kernel) rfl
theorem w_523 : Cond.code yX8_costWithStyle prog_10_method_16_code 3 (some .int) ∈ lw_good := wg 523 (by decide +kernel) rfl
theorem w_524 : Cond.methodLink "StyleFamilies$Sheet" 83 yX8_styleLook ∈ lw_good := wg 524 (by decide +kernel) rfl
theorem w_525 : Cond.methodLink "StyleFamilies$Sheet" 86 yX9_bitsApart ∈ lw_good := wg 525 (by decide +kernel) rfl
theorem w_526 : Cond.methodLink "StyleFamilies" 147 yX10_costWithNearestStyle ∈ lw_good := wg 526 (by decide +kernel) rfl
theorem w_528 : Cond.instanceMethod yX10_costWithNearestStyle ∈ lw_good := wg 528 (by decide +kernel) rfl
theorem w_529 : Cond.code yX10_costWithNearestStyle prog_1_method_41_code 2 (some .int) ∈ lw_good := wg 529 (by decide +kernel) rfl
theorem w_530 : Cond.methodLink "StyleFamilies" 311 yX8_costWithStyle ∈ lw_good := wg 530 (by decide +kernel) rfl
theorem w_531 : Cond.methodLink "StyleFamilies" 150 yX5_numberOf ∈ lw_good := wg 531 (by decide +kernel) rfl
theorem w_532 : Cond.methodLink "StyleFamilies" 153 yX7_ownSet ∈ lw_good := wg 532 (by decide +kernel) rfl
theorem w_533 : Cond.instanceMethod yX7_ownSet ∈ lw_good := wg 533 (by decide +kernel) rfl
theorem w_534 : Cond.selects "StyleFamilies$Rows" yX7_ownSet yX7_ownSet ∈ lw_good := wg 534 (by decide +kernel) rfl
theorem w_535 : Cond.code yX7_ownSet prog_9_method_8_code 4 (some .int) ∈ lw_good := wg 535 (by decide +kernel) rfl
theorem w_537 : Cond.instanceMethod yX10_styleAt ∈ lw_good := wg 537 (by decide +kernel) rfl
theorem w_538 : Cond.selects "StyleFamilies" yX10_styleAt yX10_styleAt ∈ lw_good := wg 538 (by decide +kernel) rfl
theorem w_539 : Cond.code yX10_styleAt prog_1_method_6_code 3 (some .int) ∈ lw_good := wg 539 (by decide +kernel) rfl
theorem w_540 : Cond.methodLink "StyleFamilies" 156 yX8_styleCost ∈ lw_good := wg 540 (by decide +kernel) rfl
theorem w_541 : Cond.methodLink "StyleFamilies" 159 yX8_ancestors ∈ lw_good := wg 541 (by decide +kernel) rfl
theorem w_542 : Cond.instanceMethod yX8_ancestors ∈ lw_good := wg 542 (by decide +kernel) rfl
theorem w_543 : Cond.selects "StyleFamilies$Sheet" yX8_ancestors yX8_ancestors ∈ lw_good := wg 543 (by decide +kernel) rfl
theorem w_544 : Cond.code yX8_ancestors prog_10_method_8_code 5 (some .int) ∈ lw_good := wg 544 (by decide +kernel) rfl
theorem w_545 : Cond.methodLink "StyleFamilies" 162 yX7_withBase ∈ lw_good := wg 545 (by decide +kernel) rfl
theorem w_546 : Cond.methodLink "StyleFamilies" 165 yJ6_bitCount_0f7a4 ∈ lw_good := wg 546 (by decide +kernel) rfl
theorem w_547 : Cond.methodLink "StyleFamilies" 170 yX10_bestParentOf ∈ lw_good := wg 547 (by decide +kernel) rfl
theorem w_549 : Cond.instanceMethod yX10_bestParentOf ∈ lw_good := wg 549 (by decide +kernel) rfl
theorem w_550 : Cond.code yX10_bestParentOf prog_1_method_40_code 2 (some .int) ∈ lw_good := wg 550 (by decide +kernel) rfl
theorem w_551 : Cond.methodLink "StyleFamilies" 244 yX2_chooseParents ∈ lw_good := wg 551 (by decide +kernel) rfl
theorem w_552 : Cond.instanceMethod yX2_chooseParents ∈ lw_good := wg 552 (by decide +kernel) rfl
theorem w_553 : Cond.selects "StyleFamilies$Forest" yX2_chooseParents yX2_chooseParents ∈ lw_good := wg 553 (by decide +kernel) rfl
theorem w_554 : Cond.code yX2_chooseParents prog_4_method_10_code 3 none ∈ lw_good := wg 554 (by decide +kernel) rfl
theorem w_555 : Cond.methodLink "StyleFamilies$Forest" 67 yX2_costOfAll ∈ lw_good := wg 555 (by decide +kernel) rfl
theorem w_556 : Cond.methodLink "StyleFamilies$Forest" 71 yX2_firstParent ∈ lw_good := wg 556 (by decide +kernel) rfl
theorem w_558 : Cond.instanceMethod yX2_firstParent ∈ lw_good := wg 558 (by decide +kernel) rfl
theorem w_559 : Cond.code yX2_firstParent prog_4_method_11_code 4 (some .int) ∈ lw_good := wg 559 (by decide +kernel) rfl
theorem w_560 : Cond.methodLink "StyleFamilies$Forest" 74 yX2_costWithParent ∈ lw_good := wg 560 (by decide +kernel) rfl
theorem w_562 : Cond.instanceMethod yX2_costWithParent ∈ lw_good := wg 562 (by decide +kernel) rfl
theorem w_563 : Cond.code yX2_costWithParent prog_4_method_12_code 3 (some .int) ∈ lw_good := wg 563 (by decide +kernel) rfl
theorem w_564 : Cond.methodLink "StyleFamilies$Forest" 81 yX9_bitsApart ∈ lw_good := wg 564 (by decide +kernel) rfl
theorem w_565 : Cond.methodLink "StyleFamilies$Forest" 77 yX6_pin ∈ lw_good := wg 565 (by decide +kernel) rfl
theorem w_566 : Cond.instanceMethod yX6_pin ∈ lw_good := wg 566 (by decide +kernel) rfl
theorem w_567 : Cond.selects "StyleFamilies$Reach" yX6_pin yX6_pin ∈ lw_good := wg 567 (by decide +kernel) rfl
theorem w_568 : Cond.code yX6_pin prog_8_method_3_code 7 none ∈ lw_good := wg 568 (by decide +kernel) rfl
theorem w_569 : Cond.constant "StyleFamilies$Reach" 27 (1000000) ∈ lw_good := wg 569 (by decide +kernel) rfl
theorem w_571 : Cond.instanceMethod yX10_styleHas ∈ lw_good := wg 571 (by decide +kernel) rfl
theorem w_572 : Cond.selects "StyleFamilies" yX10_styleHas yX10_styleHas ∈ lw_good := wg 572 (by decide +kernel) rfl
theorem w_573 : Cond.code yX10_styleHas prog_1_method_7_code 3 (some .int) ∈ lw_good := wg 573 (by decide +kernel) rfl
theorem w_574 : Cond.methodLink "StyleFamilies" 173 yX10_isStyleOrNone ∈ lw_good := wg 574 (by decide +kernel) rfl
theorem w_576 : Cond.instanceMethod yX10_isStyleOrNone ∈ lw_good := wg 576 (by decide +kernel) rfl
theorem w_577 : Cond.code yX10_isStyleOrNone prog_1_method_33_code 2 (some .boolean) ∈ lw_good := wg 577 (by decide +kernel) rfl
theorem w_578 : Cond.methodLink "StyleFamilies" 176 yX8_styleValue ∈ lw_good := wg 578 (by decide +kernel) rfl
theorem w_580 : Cond.instanceMethod yX10_lookAt ∈ lw_good := wg 580 (by decide +kernel) rfl
theorem w_581 : Cond.selects "StyleFamilies" yX10_lookAt yX10_lookAt ∈ lw_good := wg 581 (by decide +kernel) rfl
theorem w_582 : Cond.code yX10_lookAt prog_1_method_8_code 3 (some .int) ∈ lw_good := wg 582 (by decide +kernel) rfl
theorem w_583 : Cond.methodLink "StyleFamilies" 179 yX5_holds ∈ lw_good := wg 583 (by decide +kernel) rfl
theorem w_584 : Cond.instanceMethod yX5_holds ∈ lw_good := wg 584 (by decide +kernel) rfl
theorem w_585 : Cond.selects "StyleFamilies$Looks" yX5_holds yX5_holds ∈ lw_good := wg 585 (by decide +kernel) rfl
theorem w_586 : Cond.code yX5_holds prog_7_method_2_code 2 (some .boolean) ∈ lw_good := wg 586 (by decide +kernel) rfl
theorem w_587 : Cond.methodLink "StyleFamilies" 183 yX9_inLook ∈ lw_good := wg 587 (by decide +kernel) rfl
theorem w_589 : Cond.instanceMethod yX10_apart ∈ lw_good := wg 589 (by decide +kernel) rfl
theorem w_590 : Cond.selects "StyleFamilies" yX10_apart yX10_apart ∈ lw_good := wg 590 (by decide +kernel) rfl
theorem w_591 : Cond.code yX10_apart prog_1_method_9_code 4 (some .int) ∈ lw_good := wg 591 (by decide +kernel) rfl
theorem w_592 : Cond.methodLink "StyleFamilies" 193 yX9_bitsApart ∈ lw_good := wg 592 (by decide +kernel) rfl
theorem w_594 : Cond.instanceMethod yX10_paragraph ∈ lw_good := wg 594 (by decide +kernel) rfl
theorem w_595 : Cond.selects "StyleFamilies" yX10_paragraph yX10_paragraph ∈ lw_good := wg 595 (by decide +kernel) rfl
theorem w_596 : Cond.code yX10_paragraph prog_1_method_10_code 1 (some .int) ∈ lw_good := wg 596 (by decide +kernel) rfl
theorem w_597 : Cond.methodLink "StyleFamilies" 196 yX7_hasRoom ∈ lw_good := wg 597 (by decide +kernel) rfl
theorem w_598 : Cond.instanceMethod yX7_hasRoom ∈ lw_good := wg 598 (by decide +kernel) rfl
theorem w_599 : Cond.selects "StyleFamilies$Rows" yX7_hasRoom yX7_hasRoom ∈ lw_good := wg 599 (by decide +kernel) rfl
theorem w_600 : Cond.code yX7_hasRoom prog_9_method_3_code 1 (some .boolean) ∈ lw_good := wg 600 (by decide +kernel) rfl
theorem w_601 : Cond.constant "StyleFamilies" 200 (-1000000004) ∈ lw_good := wg 601 (by decide +kernel) rfl
theorem w_602 : Cond.methodLink "StyleFamilies" 201 yX3_remember ∈ lw_good := wg 602 (by decide +kernel) rfl
theorem w_603 : Cond.instanceMethod yX3_remember ∈ lw_good := wg 603 (by decide +kernel) rfl
theorem w_604 : Cond.selects "StyleFamilies$History" yX3_remember yX3_remember ∈ lw_good := wg 604 (by decide +kernel) rfl
theorem w_605 : Cond.code yX3_remember prog_5_method_2_code 2 none ∈ lw_good := wg 605 (by decide +kernel) rfl
theorem w_606 : Cond.methodLink "StyleFamilies$History" 25 yX8_copyFrom ∈ lw_good := wg 606 (by decide +kernel) rfl
theorem w_607 : Cond.instanceMethod yX8_copyFrom ∈ lw_good := wg 607 (by decide +kernel) rfl
theorem w_608 : Cond.selects "StyleFamilies$Sheet" yX8_copyFrom yX8_copyFrom ∈ lw_good := wg 608 (by decide +kernel) rfl
theorem w_609 : Cond.code yX8_copyFrom prog_10_method_2_code 2 none ∈ lw_good := wg 609 (by decide +kernel) rfl
theorem w_610 : Cond.methodLink "StyleFamilies$Sheet" 31 (⟨"java/lang/System", "arraycopy", "(Ljava/lang/Object;ILjava/lang/Object;II)V"⟩ : MethodName) ∈ lw_good := wg 610 (by decide +kernel) rfl
theorem w_611 : Cond.methodLink "StyleFamilies$Sheet" 37 yX7_copyFrom ∈ lw_good := wg 611 (by decide +kernel) rfl
theorem w_612 : Cond.instanceMethod yX7_copyFrom ∈ lw_good := wg 612 (by decide +kernel) rfl
theorem w_613 : Cond.selects "StyleFamilies$Rows" yX7_copyFrom yX7_copyFrom ∈ lw_good := wg 613 (by decide +kernel) rfl
theorem w_614 : Cond.code yX7_copyFrom prog_9_method_15_code 2 none ∈ lw_good := wg 614 (by decide +kernel) rfl
theorem w_615 : Cond.methodLink "StyleFamilies$Rows" 43 (⟨"java/lang/System", "arraycopy", "(Ljava/lang/Object;ILjava/lang/Object;II)V"⟩ : MethodName) ∈ lw_good := wg 615 (by decide +kernel) rfl
theorem w_616 : Cond.methodLink "StyleFamilies$History" 29 yJ9_min_7cf53 ∈ lw_good := wg 616 (by decide +kernel) rfl
theorem w_617 : Cond.methodLink "StyleFamilies" 204 yX7_append ∈ lw_good := wg 617 (by decide +kernel) rfl
theorem w_618 : Cond.instanceMethod yX7_append ∈ lw_good := wg 618 (by decide +kernel) rfl
theorem w_619 : Cond.selects "StyleFamilies$Rows" yX7_append yX7_append ∈ lw_good := wg 619 (by decide +kernel) rfl
theorem w_620 : Cond.code yX7_append prog_9_method_10_code 3 (some .int) ∈ lw_good := wg 620 (by decide +kernel) rfl
theorem w_621 : Cond.methodLink "StyleFamilies$Rows" 39 yX7_changeOwn ∈ lw_good := wg 621 (by decide +kernel) rfl
theorem w_623 : Cond.instanceMethod yX10_style ∈ lw_good := wg 623 (by decide +kernel) rfl
theorem w_624 : Cond.selects "StyleFamilies" yX10_style yX10_style ∈ lw_good := wg 624 (by decide +kernel) rfl
theorem w_625 : Cond.code yX10_style prog_1_method_11_code 1 (some .int) ∈ lw_good := wg 625 (by decide +kernel) rfl
theorem w_627 : Cond.instanceMethod yX10_direct ∈ lw_good := wg 627 (by decide +kernel) rfl
theorem w_628 : Cond.selects "StyleFamilies" yX10_direct yX10_direct ∈ lw_good := wg 628 (by decide +kernel) rfl
theorem w_629 : Cond.code yX10_direct prog_1_method_12_code 4 (some .int) ∈ lw_good := wg 629 (by decide +kernel) rfl
theorem w_630 : Cond.methodLink "StyleFamilies" 207 yX10_give ∈ lw_good := wg 630 (by decide +kernel) rfl
theorem w_632 : Cond.instanceMethod yX10_give ∈ lw_good := wg 632 (by decide +kernel) rfl
theorem w_633 : Cond.code yX10_give prog_1_method_35_code 5 (some .int) ∈ lw_good := wg 633 (by decide +kernel) rfl
theorem w_634 : Cond.methodLink "StyleFamilies" 211 yX9_isValue ∈ lw_good := wg 634 (by decide +kernel) rfl
theorem w_635 : Cond.static yX9_isValue ∈ lw_good := wg 635 (by decide +kernel) rfl
theorem w_636 : Cond.code yX9_isValue prog_11_method_3_code 2 (some .boolean) ∈ lw_good := wg 636 (by decide +kernel) rfl
theorem w_637 : Cond.fieldLink "StyleFamilies$Values" 9 "StyleFamilies$Values" "TOP" "[I" ∈ lw_good := wg 637 (by decide +kernel) rfl
theorem w_639 : Cond.methodLink "StyleFamilies" 290 yX7_changeOwn ∈ lw_good := wg 639 (by decide +kernel) rfl
theorem w_641 : Cond.instanceMethod yX10_sets ∈ lw_good := wg 641 (by decide +kernel) rfl
theorem w_642 : Cond.selects "StyleFamilies" yX10_sets yX10_sets ∈ lw_good := wg 642 (by decide +kernel) rfl
theorem w_643 : Cond.code yX10_sets prog_1_method_13_code 4 (some .int) ∈ lw_good := wg 643 (by decide +kernel) rfl
theorem w_645 : Cond.instanceMethod yX10_ground ∈ lw_good := wg 645 (by decide +kernel) rfl
theorem w_646 : Cond.selects "StyleFamilies" yX10_ground yX10_ground ∈ lw_good := wg 646 (by decide +kernel) rfl
theorem w_647 : Cond.code yX10_ground prog_1_method_14_code 4 (some .int) ∈ lw_good := wg 647 (by decide +kernel) rfl
theorem w_649 : Cond.instanceMethod yX10_head ∈ lw_good := wg 649 (by decide +kernel) rfl
theorem w_650 : Cond.selects "StyleFamilies" yX10_head yX10_head ∈ lw_good := wg 650 (by decide +kernel) rfl
theorem w_651 : Cond.code yX10_head prog_1_method_15_code 3 (some .int) ∈ lw_good := wg 651 (by decide +kernel) rfl
theorem w_653 : Cond.instanceMethod yX10_apply ∈ lw_good := wg 653 (by decide +kernel) rfl
theorem w_654 : Cond.selects "StyleFamilies" yX10_apply yX10_apply ∈ lw_good := wg 654 (by decide +kernel) rfl
theorem w_655 : Cond.code yX10_apply prog_1_method_16_code 3 (some .int) ∈ lw_good := wg 655 (by decide +kernel) rfl
theorem w_656 : Cond.methodLink "StyleFamilies" 218 yX7_changeBase ∈ lw_good := wg 656 (by decide +kernel) rfl
theorem w_657 : Cond.instanceMethod yX7_changeBase ∈ lw_good := wg 657 (by decide +kernel) rfl
theorem w_658 : Cond.selects "StyleFamilies$Rows" yX7_changeBase yX7_changeBase ∈ lw_good := wg 658 (by decide +kernel) rfl
theorem w_659 : Cond.code yX7_changeBase prog_9_method_6_code 4 (some .int) ∈ lw_good := wg 659 (by decide +kernel) rfl
theorem w_661 : Cond.instanceMethod yX10_parent ∈ lw_good := wg 661 (by decide +kernel) rfl
theorem w_662 : Cond.selects "StyleFamilies" yX10_parent yX10_parent ∈ lw_good := wg 662 (by decide +kernel) rfl
theorem w_663 : Cond.code yX10_parent prog_1_method_17_code 4 (some .int) ∈ lw_good := wg 663 (by decide +kernel) rfl
theorem w_664 : Cond.methodLink "StyleFamilies" 221 yX10_errorOfParent ∈ lw_good := wg 664 (by decide +kernel) rfl
theorem w_666 : Cond.instanceMethod yX10_errorOfParent ∈ lw_good := wg 666 (by decide +kernel) rfl
theorem w_667 : Cond.code yX10_errorOfParent prog_1_method_34_code 3 (some .int) ∈ lw_good := wg 667 (by decide +kernel) rfl
theorem w_668 : Cond.methodLink "StyleFamilies" 287 yX8_descends ∈ lw_good := wg 668 (by decide +kernel) rfl
theorem w_669 : Cond.instanceMethod yX8_descends ∈ lw_good := wg 669 (by decide +kernel) rfl
theorem w_670 : Cond.selects "StyleFamilies$Sheet" yX8_descends yX8_descends ∈ lw_good := wg 670 (by decide +kernel) rfl
theorem w_671 : Cond.code yX8_descends prog_10_method_9_code 5 (some .boolean) ∈ lw_good := wg 671 (by decide +kernel) rfl
theorem w_672 : Cond.constant "StyleFamilies" 261 (-1000000003) ∈ lw_good := wg 672 (by decide +kernel) rfl
theorem w_674 : Cond.instanceMethod yX10_restyle ∈ lw_good := wg 674 (by decide +kernel) rfl
theorem w_675 : Cond.selects "StyleFamilies" yX10_restyle yX10_restyle ∈ lw_good := wg 675 (by decide +kernel) rfl
theorem w_676 : Cond.code yX10_restyle prog_1_method_18_code 3 (some .int) ∈ lw_good := wg 676 (by decide +kernel) rfl
theorem w_677 : Cond.methodLink "StyleFamilies" 224 yX8_rebaseParagraph ∈ lw_good := wg 677 (by decide +kernel) rfl
theorem w_678 : Cond.instanceMethod yX8_rebaseParagraph ∈ lw_good := wg 678 (by decide +kernel) rfl
theorem w_679 : Cond.selects "StyleFamilies$Sheet" yX8_rebaseParagraph yX8_rebaseParagraph ∈ lw_good := wg 679 (by decide +kernel) rfl
theorem w_680 : Cond.code yX8_rebaseParagraph prog_10_method_19_code 3 none ∈ lw_good := wg 680 (by decide +kernel) rfl
theorem w_681 : Cond.methodLink "StyleFamilies$Sheet" 96 yX8_paragraphLook ∈ lw_good := wg 681 (by decide +kernel) rfl
theorem w_682 : Cond.methodLink "StyleFamilies$Sheet" 92 yX7_rest ∈ lw_good := wg 682 (by decide +kernel) rfl
theorem w_683 : Cond.instanceMethod yX7_rest ∈ lw_good := wg 683 (by decide +kernel) rfl
theorem w_684 : Cond.selects "StyleFamilies$Rows" yX7_rest yX7_rest ∈ lw_good := wg 684 (by decide +kernel) rfl
theorem w_685 : Cond.code yX7_rest prog_9_method_14_code 7 none ∈ lw_good := wg 685 (by decide +kernel) rfl
theorem w_686 : Cond.methodLink "StyleFamilies$Rows" 52 yX9_inLook ∈ lw_good := wg 686 (by decide +kernel) rfl
theorem w_688 : Cond.instanceMethod yX10_reparent ∈ lw_good := wg 688 (by decide +kernel) rfl
theorem w_689 : Cond.selects "StyleFamilies" yX10_reparent yX10_reparent ∈ lw_good := wg 689 (by decide +kernel) rfl
theorem w_690 : Cond.code yX10_reparent prog_1_method_19_code 4 (some .int) ∈ lw_good := wg 690 (by decide +kernel) rfl
theorem w_691 : Cond.methodLink "StyleFamilies" 228 yX8_rebaseStyle ∈ lw_good := wg 691 (by decide +kernel) rfl
theorem w_692 : Cond.instanceMethod yX8_rebaseStyle ∈ lw_good := wg 692 (by decide +kernel) rfl
theorem w_693 : Cond.selects "StyleFamilies$Sheet" yX8_rebaseStyle yX8_rebaseStyle ∈ lw_good := wg 693 (by decide +kernel) rfl
theorem w_694 : Cond.code yX8_rebaseStyle prog_10_method_18_code 3 none ∈ lw_good := wg 694 (by decide +kernel) rfl
theorem w_696 : Cond.instanceMethod yX10_drop ∈ lw_good := wg 696 (by decide +kernel) rfl
theorem w_697 : Cond.selects "StyleFamilies" yX10_drop yX10_drop ∈ lw_good := wg 697 (by decide +kernel) rfl
theorem w_698 : Cond.code yX10_drop prog_1_method_20_code 2 (some .int) ∈ lw_good := wg 698 (by decide +kernel) rfl
theorem w_699 : Cond.methodLink "StyleFamilies" 231 yX8_removeStyle ∈ lw_good := wg 699 (by decide +kernel) rfl
theorem w_700 : Cond.instanceMethod yX8_removeStyle ∈ lw_good := wg 700 (by decide +kernel) rfl
theorem w_701 : Cond.selects "StyleFamilies$Sheet" yX8_removeStyle yX8_removeStyle ∈ lw_good := wg 701 (by decide +kernel) rfl
theorem w_702 : Cond.code yX8_removeStyle prog_10_method_20_code 4 none ∈ lw_good := wg 702 (by decide +kernel) rfl
theorem w_703 : Cond.methodLink "StyleFamilies$Sheet" 99 yX8_rebaseStyle ∈ lw_good := wg 703 (by decide +kernel) rfl
theorem w_704 : Cond.methodLink "StyleFamilies$Sheet" 103 yX8_rebaseParagraph ∈ lw_good := wg 704 (by decide +kernel) rfl
theorem w_705 : Cond.methodLink "StyleFamilies$Sheet" 106 yX7_remove ∈ lw_good := wg 705 (by decide +kernel) rfl
theorem w_706 : Cond.instanceMethod yX7_remove ∈ lw_good := wg 706 (by decide +kernel) rfl
theorem w_707 : Cond.selects "StyleFamilies$Rows" yX7_remove yX7_remove ∈ lw_good := wg 707 (by decide +kernel) rfl
theorem w_708 : Cond.code yX7_remove prog_9_method_11_code 3 none ∈ lw_good := wg 708 (by decide +kernel) rfl
theorem w_709 : Cond.methodLink "StyleFamilies$Sheet" 109 yX7_renumberBases ∈ lw_good := wg 709 (by decide +kernel) rfl
theorem w_710 : Cond.instanceMethod yX7_renumberBases ∈ lw_good := wg 710 (by decide +kernel) rfl
theorem w_711 : Cond.selects "StyleFamilies$Rows" yX7_renumberBases yX7_renumberBases ∈ lw_good := wg 711 (by decide +kernel) rfl
theorem w_712 : Cond.code yX7_renumberBases prog_9_method_13_code 3 none ∈ lw_good := wg 712 (by decide +kernel) rfl
theorem w_714 : Cond.instanceMethod yX10_take ∈ lw_good := wg 714 (by decide +kernel) rfl
theorem w_715 : Cond.selects "StyleFamilies" yX10_take yX10_take ∈ lw_good := wg 715 (by decide +kernel) rfl
theorem w_716 : Cond.code yX10_take prog_1_method_21_code 2 (some .int) ∈ lw_good := wg 716 (by decide +kernel) rfl
theorem w_717 : Cond.methodLink "StyleFamilies" 235 yX7_remove ∈ lw_good := wg 717 (by decide +kernel) rfl
theorem w_719 : Cond.instanceMethod yX10_swap ∈ lw_good := wg 719 (by decide +kernel) rfl
theorem w_720 : Cond.selects "StyleFamilies" yX10_swap yX10_swap ∈ lw_good := wg 720 (by decide +kernel) rfl
theorem w_721 : Cond.code yX10_swap prog_1_method_22_code 4 (some .int) ∈ lw_good := wg 721 (by decide +kernel) rfl
theorem w_722 : Cond.methodLink "StyleFamilies" 238 yX7_exchange ∈ lw_good := wg 722 (by decide +kernel) rfl
theorem w_723 : Cond.instanceMethod yX7_exchange ∈ lw_good := wg 723 (by decide +kernel) rfl
theorem w_724 : Cond.selects "StyleFamilies$Rows" yX7_exchange yX7_exchange ∈ lw_good := wg 724 (by decide +kernel) rfl
theorem w_725 : Cond.code yX7_exchange prog_9_method_12_code 5 none ∈ lw_good := wg 725 (by decide +kernel) rfl
theorem w_726 : Cond.methodLink "StyleFamilies$Rows" 49 yX7_changeBase ∈ lw_good := wg 726 (by decide +kernel) rfl
theorem w_728 : Cond.instanceMethod yX10_tidy ∈ lw_good := wg 728 (by decide +kernel) rfl
theorem w_729 : Cond.selects "StyleFamilies" yX10_tidy yX10_tidy ∈ lw_good := wg 729 (by decide +kernel) rfl
theorem w_730 : Cond.code yX10_tidy prog_1_method_23_code 1 (some .int) ∈ lw_good := wg 730 (by decide +kernel) rfl
theorem w_732 : Cond.instanceMethod yX10_knit ∈ lw_good := wg 732 (by decide +kernel) rfl
theorem w_733 : Cond.selects "StyleFamilies" yX10_knit yX10_knit ∈ lw_good := wg 733 (by decide +kernel) rfl
theorem w_734 : Cond.code yX10_knit prog_1_method_24_code 1 (some .int) ∈ lw_good := wg 734 (by decide +kernel) rfl
theorem w_735 : Cond.methodLink "StyleFamilies" 247 yX8_layStyles ∈ lw_good := wg 735 (by decide +kernel) rfl
theorem w_736 : Cond.instanceMethod yX8_layStyles ∈ lw_good := wg 736 (by decide +kernel) rfl
theorem w_737 : Cond.selects "StyleFamilies$Sheet" yX8_layStyles yX8_layStyles ∈ lw_good := wg 737 (by decide +kernel) rfl
theorem w_738 : Cond.code yX8_layStyles prog_10_method_21_code 3 none ∈ lw_good := wg 738 (by decide +kernel) rfl
theorem w_739 : Cond.methodLink "StyleFamilies$Sheet" 120 yX2_parentLook ∈ lw_good := wg 739 (by decide +kernel) rfl
theorem w_740 : Cond.instanceMethod yX2_parentLook ∈ lw_good := wg 740 (by decide +kernel) rfl
theorem w_741 : Cond.selects "StyleFamilies$Forest" yX2_parentLook yX2_parentLook ∈ lw_good := wg 741 (by decide +kernel) rfl
theorem w_742 : Cond.code yX2_parentLook prog_4_method_9_code 2 (some .int) ∈ lw_good := wg 742 (by decide +kernel) rfl
theorem w_744 : Cond.instanceMethod yX10_adopt ∈ lw_good := wg 744 (by decide +kernel) rfl
theorem w_745 : Cond.selects "StyleFamilies" yX10_adopt yX10_adopt ∈ lw_good := wg 745 (by decide +kernel) rfl
theorem w_746 : Cond.code yX10_adopt prog_1_method_25_code 1 (some .int) ∈ lw_good := wg 746 (by decide +kernel) rfl
theorem w_747 : Cond.methodLink "StyleFamilies" 255 yX8_replaceStyles ∈ lw_good := wg 747 (by decide +kernel) rfl
theorem w_748 : Cond.instanceMethod yX8_replaceStyles ∈ lw_good := wg 748 (by decide +kernel) rfl
theorem w_749 : Cond.selects "StyleFamilies$Sheet" yX8_replaceStyles yX8_replaceStyles ∈ lw_good := wg 749 (by decide +kernel) rfl
theorem w_750 : Cond.code yX8_replaceStyles prog_10_method_22_code 3 none ∈ lw_good := wg 750 (by decide +kernel) rfl
theorem w_751 : Cond.methodLink "StyleFamilies$Sheet" 124 yX7_hasRoom ∈ lw_good := wg 751 (by decide +kernel) rfl
theorem w_752 : Cond.methodLink "StyleFamilies$Sheet" 128 yX7_append ∈ lw_good := wg 752 (by decide +kernel) rfl
theorem w_753 : Cond.methodLink "StyleFamilies$Sheet" 132 yX8_layStyles ∈ lw_good := wg 753 (by decide +kernel) rfl
theorem w_754 : Cond.methodLink "StyleFamilies$Sheet" 136 yX8_nearestStyle ∈ lw_good := wg 754 (by decide +kernel) rfl
theorem w_756 : Cond.instanceMethod yX10_drift ∈ lw_good := wg 756 (by decide +kernel) rfl
theorem w_757 : Cond.selects "StyleFamilies" yX10_drift yX10_drift ∈ lw_good := wg 757 (by decide +kernel) rfl
theorem w_758 : Cond.code yX10_drift prog_1_method_26_code 3 (some .int) ∈ lw_good := wg 758 (by decide +kernel) rfl
theorem w_759 : Cond.methodLink "StyleFamilies" 258 yX10_giveAtRandom ∈ lw_good := wg 759 (by decide +kernel) rfl
theorem w_761 : Cond.instanceMethod yX10_giveAtRandom ∈ lw_good := wg 761 (by decide +kernel) rfl
theorem w_762 : Cond.code yX10_giveAtRandom prog_1_method_43_code 4 none ∈ lw_good := wg 762 (by decide +kernel) rfl
theorem w_763 : Cond.methodLink "StyleFamilies" 317 yX10_draw ∈ lw_good := wg 763 (by decide +kernel) rfl
theorem w_765 : Cond.instanceMethod yX10_draw ∈ lw_good := wg 765 (by decide +kernel) rfl
theorem w_766 : Cond.code yX10_draw prog_1_method_42_code 2 (some .int) ∈ lw_good := wg 766 (by decide +kernel) rfl
theorem w_767 : Cond.constant "StyleFamilies" 314 (1103515245) ∈ lw_good := wg 767 (by decide +kernel) rfl
theorem w_768 : Cond.constant "StyleFamilies" 315 (2147483647) ∈ lw_good := wg 768 (by decide +kernel) rfl
theorem w_769 : Cond.constant "StyleFamilies" 316 (65536) ∈ lw_good := wg 769 (by decide +kernel) rfl
theorem w_770 : Cond.fieldLink "StyleFamilies" 320 "StyleFamilies$Values" "RANDOM_STEP" "[I" ∈ lw_good := wg 770 (by decide +kernel) rfl
theorem w_773 : Cond.instanceMethod yX10_undo ∈ lw_good := wg 773 (by decide +kernel) rfl
theorem w_774 : Cond.selects "StyleFamilies" yX10_undo yX10_undo ∈ lw_good := wg 774 (by decide +kernel) rfl
theorem w_775 : Cond.code yX10_undo prog_1_method_27_code 2 (some .int) ∈ lw_good := wg 775 (by decide +kernel) rfl
theorem w_776 : Cond.methodLink "StyleFamilies" 262 yX3_restore ∈ lw_good := wg 776 (by decide +kernel) rfl
theorem w_777 : Cond.instanceMethod yX3_restore ∈ lw_good := wg 777 (by decide +kernel) rfl
theorem w_778 : Cond.selects "StyleFamilies$History" yX3_restore yX3_restore ∈ lw_good := wg 778 (by decide +kernel) rfl
theorem w_779 : Cond.code yX3_restore prog_5_method_3_code 3 none ∈ lw_good := wg 779 (by decide +kernel) rfl
theorem w_781 : Cond.instanceMethod yX10_write ∈ lw_good := wg 781 (by decide +kernel) rfl
theorem w_782 : Cond.selects "StyleFamilies" yX10_write yX10_write ∈ lw_good := wg 782 (by decide +kernel) rfl
theorem w_783 : Cond.code yX10_write prog_1_method_28_code 4 (some .int) ∈ lw_good := wg 783 (by decide +kernel) rfl
theorem w_784 : Cond.methodLink "StyleFamilies" 266 yX1_hasRoom ∈ lw_good := wg 784 (by decide +kernel) rfl
theorem w_785 : Cond.instanceMethod yX1_hasRoom ∈ lw_good := wg 785 (by decide +kernel) rfl
theorem w_786 : Cond.selects "StyleFamilies$Book" yX1_hasRoom yX1_hasRoom ∈ lw_good := wg 786 (by decide +kernel) rfl
theorem w_787 : Cond.code yX1_hasRoom prog_3_method_2_code 1 (some .boolean) ∈ lw_good := wg 787 (by decide +kernel) rfl
theorem w_788 : Cond.methodLink "StyleFamilies" 267 yX1_append ∈ lw_good := wg 788 (by decide +kernel) rfl
theorem w_789 : Cond.instanceMethod yX1_append ∈ lw_good := wg 789 (by decide +kernel) rfl
theorem w_790 : Cond.selects "StyleFamilies$Book" yX1_append yX1_append ∈ lw_good := wg 790 (by decide +kernel) rfl
theorem w_791 : Cond.code yX1_append prog_3_method_3_code 4 none ∈ lw_good := wg 791 (by decide +kernel) rfl
theorem w_793 : Cond.instanceMethod yX10_tear ∈ lw_good := wg 793 (by decide +kernel) rfl
theorem w_794 : Cond.selects "StyleFamilies" yX10_tear yX10_tear ∈ lw_good := wg 794 (by decide +kernel) rfl
theorem w_795 : Cond.code yX10_tear prog_1_method_29_code 1 (some .int) ∈ lw_good := wg 795 (by decide +kernel) rfl
theorem w_796 : Cond.methodLink "StyleFamilies" 270 yX1_clear ∈ lw_good := wg 796 (by decide +kernel) rfl
theorem w_797 : Cond.instanceMethod yX1_clear ∈ lw_good := wg 797 (by decide +kernel) rfl
theorem w_798 : Cond.selects "StyleFamilies$Book" yX1_clear yX1_clear ∈ lw_good := wg 798 (by decide +kernel) rfl
theorem w_799 : Cond.code yX1_clear prog_3_method_4_code 2 (some .int) ∈ lw_good := wg 799 (by decide +kernel) rfl
theorem w_801 : Cond.instanceMethod yX10_seed ∈ lw_good := wg 801 (by decide +kernel) rfl
theorem w_802 : Cond.selects "StyleFamilies" yX10_seed yX10_seed ∈ lw_good := wg 802 (by decide +kernel) rfl
theorem w_803 : Cond.code yX10_seed prog_1_method_30_code 3 (some .int) ∈ lw_good := wg 803 (by decide +kernel) rfl
theorem w_805 : Cond.instanceMethod yX10_keep ∈ lw_good := wg 805 (by decide +kernel) rfl
theorem w_806 : Cond.selects "StyleFamilies" yX10_keep yX10_keep ∈ lw_good := wg 806 (by decide +kernel) rfl
theorem w_807 : Cond.code yX10_keep prog_1_method_31_code 2 (some .int) ∈ lw_good := wg 807 (by decide +kernel) rfl
theorem w_808 : Cond.methodLink "StyleFamilies" 281 yX8_copyFrom ∈ lw_good := wg 808 (by decide +kernel) rfl
theorem w_809 : Cond.methodLink "StyleFamilies" 284 yX3_forget ∈ lw_good := wg 809 (by decide +kernel) rfl
theorem w_810 : Cond.instanceMethod yX3_forget ∈ lw_good := wg 810 (by decide +kernel) rfl
theorem w_811 : Cond.selects "StyleFamilies$History" yX3_forget yX3_forget ∈ lw_good := wg 811 (by decide +kernel) rfl
theorem w_812 : Cond.code yX3_forget prog_5_method_4_code 1 none ∈ lw_good := wg 812 (by decide +kernel) rfl
theorem w_814 : Cond.instanceMethod yX10_goBack ∈ lw_good := wg 814 (by decide +kernel) rfl
theorem w_815 : Cond.selects "StyleFamilies" yX10_goBack yX10_goBack ∈ lw_good := wg 815 (by decide +kernel) rfl
theorem w_816 : Cond.code yX10_goBack prog_1_method_32_code 2 (some .int) ∈ lw_good := wg 816 (by decide +kernel) rfl
theorem w_823 : Cond.fieldLink "StyleFamiliesModel" 7 "StyleFamiliesModel" "w" "[I" ∈ lw_good := wg 823 (by decide +kernel) rfl
theorem w_824 : Cond.fieldLink "StyleFamiliesModel" 166 "StyleFamiliesModel" "known" "I" ∈ lw_good := wg 824 (by decide +kernel) rfl
theorem w_825 : Cond.fieldLink "StyleFamiliesModel" 255 "StyleFamiliesModel" "kept" "I" ∈ lw_good := wg 825 (by decide +kernel) rfl
theorem w_826 : Cond.fieldLink "StyleFamiliesModel" 169 "StyleFamiliesModel" "seed" "I" ∈ lw_good := wg 826 (by decide +kernel) rfl
theorem w_827 : Cond.fieldLink "StyleFamiliesModel" 13 "StyleFamiliesModel" "keptSeed" "[I" ∈ lw_good := wg 827 (by decide +kernel) rfl
theorem w_828 : Cond.fieldLink "StyleFamiliesModel" 16 "StyleFamiliesModel" "bookOf" "[I" ∈ lw_good := wg 828 (by decide +kernel) rfl
theorem w_829 : Cond.fieldLink "StyleFamiliesModel" 19 "StyleFamiliesModel" "bookAt" "[I" ∈ lw_good := wg 829 (by decide +kernel) rfl
theorem w_830 : Cond.fieldLink "StyleFamiliesModel" 22 "StyleFamiliesModel" "bookIs" "[I" ∈ lw_good := wg 830 (by decide +kernel) rfl
theorem w_831 : Cond.fieldLink "StyleFamiliesModel" 134 "StyleFamiliesModel" "booked" "I" ∈ lw_good := wg 831 (by decide +kernel) rfl
theorem w_832 : Cond.fieldLink "StyleFamiliesModel" 25 "StyleFamiliesModel" "styleLook" "[I" ∈ lw_good := wg 832 (by decide +kernel) rfl
theorem w_833 : Cond.fieldLink "StyleFamiliesModel" 28 "StyleFamiliesModel" "look" "[I" ∈ lw_good := wg 833 (by decide +kernel) rfl
theorem w_834 : Cond.fieldLink "StyleFamiliesModel" 31 "StyleFamiliesModel" "unlike" "[I" ∈ lw_good := wg 834 (by decide +kernel) rfl
theorem w_835 : Cond.fieldLink "StyleFamiliesModel" 74 "StyleFamiliesModel" "unlikes" "I" ∈ lw_good := wg 835 (by decide +kernel) rfl
theorem w_836 : Cond.fieldLink "StyleFamiliesModel" 34 "StyleFamiliesModel" "link" "[I" ∈ lw_good := wg 836 (by decide +kernel) rfl
theorem w_837 : Cond.fieldLink "StyleFamiliesModel" 37 "StyleFamiliesModel" "best" "[I" ∈ lw_good := wg 837 (by decide +kernel) rfl
theorem w_838 : Cond.fieldLink "StyleFamiliesModel" 40 "StyleFamiliesModel" "parents" "[I" ∈ lw_good := wg 838 (by decide +kernel) rfl
theorem w_839 : Cond.fieldLink "StyleFamiliesModel" 119 "StyleFamiliesModel" "family" "I" ∈ lw_good := wg 839 (by decide +kernel) rfl
theorem w_840 : Cond.fieldLink "StyleFamiliesModel" 122 "StyleFamiliesModel" "familyCost" "I" ∈ lw_good := wg 840 (by decide +kernel) rfl
theorem w_879 : Cond.instanceMethod yX11_told ∈ lw_good := wg 879 (by decide +kernel) rfl
theorem w_880 : Cond.selects "StyleFamiliesModel" yX11_told yX11_told ∈ lw_good := wg 880 (by decide +kernel) rfl
theorem w_881 : Cond.code yX11_told prog_13_method_41_code 2 (some .int) ∈ lw_good := wg 881 (by decide +kernel) rfl
theorem w_882 : Cond.methodLink "StyleFamiliesModel" 143 yX11_cost ∈ lw_good := wg 882 (by decide +kernel) rfl
theorem w_884 : Cond.instanceMethod yX11_cost ∈ lw_good := wg 884 (by decide +kernel) rfl
theorem w_885 : Cond.code yX11_cost prog_13_method_25_code 3 (some .int) ∈ lw_good := wg 885 (by decide +kernel) rfl
theorem w_886 : Cond.methodLink "StyleFamiliesModel" 88 yX11_styleCost ∈ lw_good := wg 886 (by decide +kernel) rfl
theorem w_888 : Cond.instanceMethod yX11_styleCost ∈ lw_good := wg 888 (by decide +kernel) rfl
theorem w_889 : Cond.code yX11_styleCost prog_13_method_23_code 3 (some .int) ∈ lw_good := wg 889 (by decide +kernel) rfl
theorem w_890 : Cond.methodLink "StyleFamiliesModel" 51 yX11_styleOf ∈ lw_good := wg 890 (by decide +kernel) rfl
theorem w_891 : Cond.static yX11_styleOf ∈ lw_good := wg 891 (by decide +kernel) rfl
theorem w_892 : Cond.code yX11_styleOf prog_13_method_4_code 1 (some .int) ∈ lw_good := wg 892 (by decide +kernel) rfl
theorem w_893 : Cond.methodLink "StyleFamiliesModel" 85 yX11_bitsAt ∈ lw_good := wg 893 (by decide +kernel) rfl
theorem w_895 : Cond.instanceMethod yX11_bitsAt ∈ lw_good := wg 895 (by decide +kernel) rfl
theorem w_896 : Cond.code yX11_bitsAt prog_13_method_22_code 5 (some .int) ∈ lw_good := wg 896 (by decide +kernel) rfl
theorem w_897 : Cond.methodLink "StyleFamiliesModel" 82 yX11_bits ∈ lw_good := wg 897 (by decide +kernel) rfl
theorem w_898 : Cond.static yX11_bits ∈ lw_good := wg 898 (by decide +kernel) rfl
theorem w_899 : Cond.code yX11_bits prog_13_method_11_code 2 (some .int) ∈ lw_good := wg 899 (by decide +kernel) rfl
theorem w_900 : Cond.methodLink "StyleFamiliesModel" 91 yX11_paragraphCost ∈ lw_good := wg 900 (by decide +kernel) rfl
theorem w_902 : Cond.instanceMethod yX11_paragraphCost ∈ lw_good := wg 902 (by decide +kernel) rfl
theorem w_903 : Cond.code yX11_paragraphCost prog_13_method_24_code 3 (some .int) ∈ lw_good := wg 903 (by decide +kernel) rfl
theorem w_904 : Cond.methodLink "StyleFamiliesModel" 59 yX11_paragraphOf ∈ lw_good := wg 904 (by decide +kernel) rfl
theorem w_905 : Cond.static yX11_paragraphOf ∈ lw_good := wg 905 (by decide +kernel) rfl
theorem w_906 : Cond.code yX11_paragraphOf prog_13_method_5_code 1 (some .int) ∈ lw_good := wg 906 (by decide +kernel) rfl
theorem w_907 : Cond.methodLink "StyleFamiliesModel" 147 yX11_needless ∈ lw_good := wg 907 (by decide +kernel) rfl
theorem w_909 : Cond.instanceMethod yX11_needless ∈ lw_good := wg 909 (by decide +kernel) rfl
theorem w_910 : Cond.code yX11_needless prog_13_method_28_code 4 (some .int) ∈ lw_good := wg 910 (by decide +kernel) rfl
theorem w_911 : Cond.methodLink "StyleFamiliesModel" 94 yX11_isNeedlessOfStyle ∈ lw_good := wg 911 (by decide +kernel) rfl
theorem w_913 : Cond.instanceMethod yX11_isNeedlessOfStyle ∈ lw_good := wg 913 (by decide +kernel) rfl
theorem w_914 : Cond.code yX11_isNeedlessOfStyle prog_13_method_26_code 4 (some .boolean) ∈ lw_good := wg 914 (by decide +kernel) rfl
theorem w_915 : Cond.methodLink "StyleFamiliesModel" 62 yX11_ofStyle ∈ lw_good := wg 915 (by decide +kernel) rfl
theorem w_917 : Cond.instanceMethod yX11_ofStyle ∈ lw_good := wg 917 (by decide +kernel) rfl
theorem w_918 : Cond.code yX11_ofStyle prog_13_method_13_code 4 (some .int) ∈ lw_good := wg 918 (by decide +kernel) rfl
theorem w_919 : Cond.methodLink "StyleFamiliesModel" 55 yX11_setter ∈ lw_good := wg 919 (by decide +kernel) rfl
theorem w_921 : Cond.instanceMethod yX11_setter ∈ lw_good := wg 921 (by decide +kernel) rfl
theorem w_922 : Cond.code yX11_setter prog_13_method_12_code 4 (some .int) ∈ lw_good := wg 922 (by decide +kernel) rfl
theorem w_923 : Cond.methodLink "StyleFamiliesModel" 98 yX11_isNeedlessOfParagraph ∈ lw_good := wg 923 (by decide +kernel) rfl
theorem w_925 : Cond.instanceMethod yX11_isNeedlessOfParagraph ∈ lw_good := wg 925 (by decide +kernel) rfl
theorem w_926 : Cond.code yX11_isNeedlessOfParagraph prog_13_method_27_code 4 (some .boolean) ∈ lw_good := wg 926 (by decide +kernel) rfl
theorem w_927 : Cond.methodLink "StyleFamiliesModel" 150 yX11_looks ∈ lw_good := wg 927 (by decide +kernel) rfl
theorem w_929 : Cond.instanceMethod yX11_looks ∈ lw_good := wg 929 (by decide +kernel) rfl
theorem w_930 : Cond.code yX11_looks prog_13_method_39_code 1 (some .int) ∈ lw_good := wg 930 (by decide +kernel) rfl
theorem w_931 : Cond.methodLink "StyleFamiliesModel" 116 yX11_layLooks ∈ lw_good := wg 931 (by decide +kernel) rfl
theorem w_933 : Cond.instanceMethod yX11_layLooks ∈ lw_good := wg 933 (by decide +kernel) rfl
theorem w_934 : Cond.code yX11_layLooks prog_13_method_19_code 4 none ∈ lw_good := wg 934 (by decide +kernel) rfl
theorem w_935 : Cond.methodLink "StyleFamiliesModel" 71 yX11_layParagraphLooks ∈ lw_good := wg 935 (by decide +kernel) rfl
theorem w_937 : Cond.instanceMethod yX11_layParagraphLooks ∈ lw_good := wg 937 (by decide +kernel) rfl
theorem w_938 : Cond.code yX11_layParagraphLooks prog_13_method_16_code 3 none ∈ lw_good := wg 938 (by decide +kernel) rfl
theorem w_939 : Cond.methodLink "StyleFamiliesModel" 65 yX11_ofParagraph ∈ lw_good := wg 939 (by decide +kernel) rfl
theorem w_941 : Cond.instanceMethod yX11_ofParagraph ∈ lw_good := wg 941 (by decide +kernel) rfl
theorem w_942 : Cond.code yX11_ofParagraph prog_13_method_14_code 4 (some .int) ∈ lw_good := wg 942 (by decide +kernel) rfl
theorem w_943 : Cond.methodLink "StyleFamiliesModel" 78 yX11_compare ∈ lw_good := wg 943 (by decide +kernel) rfl
theorem w_944 : Cond.static yX11_compare ∈ lw_good := wg 944 (by decide +kernel) rfl
theorem w_945 : Cond.code yX11_compare prog_13_method_18_code 7 (some .int) ∈ lw_good := wg 945 (by decide +kernel) rfl
theorem w_946 : Cond.methodLink "StyleFamiliesModel" 153 yX11_knitCost ∈ lw_good := wg 946 (by decide +kernel) rfl
theorem w_948 : Cond.instanceMethod yX11_knitCost ∈ lw_good := wg 948 (by decide +kernel) rfl
theorem w_949 : Cond.code yX11_knitCost prog_13_method_33_code 1 (some .int) ∈ lw_good := wg 949 (by decide +kernel) rfl
theorem w_950 : Cond.methodLink "StyleFamiliesModel" 68 yX11_layStyleLooks ∈ lw_good := wg 950 (by decide +kernel) rfl
theorem w_952 : Cond.instanceMethod yX11_layStyleLooks ∈ lw_good := wg 952 (by decide +kernel) rfl
theorem w_953 : Cond.code yX11_layStyleLooks prog_13_method_15_code 3 none ∈ lw_good := wg 953 (by decide +kernel) rfl
theorem w_954 : Cond.methodLink "StyleFamiliesModel" 109 yX11_layLinks ∈ lw_good := wg 954 (by decide +kernel) rfl
theorem w_956 : Cond.instanceMethod yX11_layLinks ∈ lw_good := wg 956 (by decide +kernel) rfl
theorem w_957 : Cond.code yX11_layLinks prog_13_method_29_code 5 none ∈ lw_good := wg 957 (by decide +kernel) rfl
theorem w_958 : Cond.methodLink "StyleFamiliesModel" 101 yX11_bitsApart ∈ lw_good := wg 958 (by decide +kernel) rfl
theorem w_960 : Cond.instanceMethod yX11_bitsApart ∈ lw_good := wg 960 (by decide +kernel) rfl
theorem w_961 : Cond.code yX11_bitsApart prog_13_method_21_code 9 (some .int) ∈ lw_good := wg 961 (by decide +kernel) rfl
theorem w_962 : Cond.methodLink "StyleFamiliesModel" 113 yX11_grown ∈ lw_good := wg 962 (by decide +kernel) rfl
theorem w_964 : Cond.instanceMethod yX11_grown ∈ lw_good := wg 964 (by decide +kernel) rfl
theorem w_965 : Cond.code yX11_grown prog_13_method_31_code 8 (some .int) ∈ lw_good := wg 965 (by decide +kernel) rfl
theorem w_966 : Cond.constant "StyleFamiliesModel" 104 (1000000) ∈ lw_good := wg 966 (by decide +kernel) rfl
theorem w_967 : Cond.methodLink "StyleFamiliesModel" 105 yX11_putBehind ∈ lw_good := wg 967 (by decide +kernel) rfl
theorem w_969 : Cond.instanceMethod yX11_putBehind ∈ lw_good := wg 969 (by decide +kernel) rfl
theorem w_970 : Cond.code yX11_putBehind prog_13_method_30_code 8 (some .int) ∈ lw_good := wg 970 (by decide +kernel) rfl
theorem w_971 : Cond.methodLink "StyleFamiliesModel" 156 yX11_byFamily ∈ lw_good := wg 971 (by decide +kernel) rfl
theorem w_973 : Cond.instanceMethod yX11_byFamily ∈ lw_good := wg 973 (by decide +kernel) rfl
theorem w_974 : Cond.code yX11_byFamily prog_13_method_40_code 2 (some .int) ∈ lw_good := wg 974 (by decide +kernel) rfl
theorem w_975 : Cond.methodLink "StyleFamiliesModel" 140 yX11_layFamily ∈ lw_good := wg 975 (by decide +kernel) rfl
theorem w_977 : Cond.instanceMethod yX11_layFamily ∈ lw_good := wg 977 (by decide +kernel) rfl
theorem w_978 : Cond.code yX11_layFamily prog_13_method_36_code 4 none ∈ lw_good := wg 978 (by decide +kernel) rfl
theorem w_979 : Cond.methodLink "StyleFamiliesModel" 125 yX11_ones ∈ lw_good := wg 979 (by decide +kernel) rfl
theorem w_980 : Cond.static yX11_ones ∈ lw_good := wg 980 (by decide +kernel) rfl
theorem w_981 : Cond.code yX11_ones prog_13_method_34_code 3 (some .int) ∈ lw_good := wg 981 (by decide +kernel) rfl
theorem w_982 : Cond.methodLink "StyleFamiliesModel" 128 yX11_numberOf ∈ lw_good := wg 982 (by decide +kernel) rfl
theorem w_984 : Cond.instanceMethod yX11_numberOf ∈ lw_good := wg 984 (by decide +kernel) rfl
theorem w_985 : Cond.code yX11_numberOf prog_13_method_20_code 3 (some .int) ∈ lw_good := wg 985 (by decide +kernel) rfl
theorem w_986 : Cond.methodLink "StyleFamiliesModel" 131 yX11_cheapest ∈ lw_good := wg 986 (by decide +kernel) rfl
theorem w_988 : Cond.instanceMethod yX11_cheapest ∈ lw_good := wg 988 (by decide +kernel) rfl
theorem w_989 : Cond.code yX11_cheapest prog_13_method_35_code 6 (some .int) ∈ lw_good := wg 989 (by decide +kernel) rfl
theorem w_990 : Cond.methodLink "StyleFamiliesModel" 160 yX11_idle ∈ lw_good := wg 990 (by decide +kernel) rfl
theorem w_992 : Cond.instanceMethod yX11_idle ∈ lw_good := wg 992 (by decide +kernel) rfl
theorem w_993 : Cond.code yX11_idle prog_13_method_37_code 5 (some .int) ∈ lw_good := wg 993 (by decide +kernel) rfl
theorem w_994 : Cond.methodLink "StyleFamiliesModel" 163 yX11_wrongEntry ∈ lw_good := wg 994 (by decide +kernel) rfl
theorem w_996 : Cond.instanceMethod yX11_wrongEntry ∈ lw_good := wg 996 (by decide +kernel) rfl
theorem w_997 : Cond.code yX11_wrongEntry prog_13_method_38_code 2 (some .int) ∈ lw_good := wg 997 (by decide +kernel) rfl
theorem w_998 : Cond.methodLink "StyleFamiliesModel" 137 yX11_isParagraph ∈ lw_good := wg 998 (by decide +kernel) rfl
theorem w_1000 : Cond.instanceMethod yX11_isParagraph ∈ lw_good := wg 1000 (by decide +kernel) rfl
theorem w_1001 : Cond.code yX11_isParagraph prog_13_method_8_code 2 (some .boolean) ∈ lw_good := wg 1001 (by decide +kernel) rfl
theorem w_1002 : Cond.methodLink "StyleFamiliesModel" 43 yX11_in ∈ lw_good := wg 1002 (by decide +kernel) rfl
theorem w_1003 : Cond.static yX11_in ∈ lw_good := wg 1003 (by decide +kernel) rfl
theorem w_1004 : Cond.code yX11_in prog_13_method_2_code 3 (some .boolean) ∈ lw_good := wg 1004 (by decide +kernel) rfl
theorem w_1005 : Cond.constant "StyleFamiliesModel" 172 (-1000000002) ∈ lw_good := wg 1005 (by decide +kernel) rfl
theorem w_1007 : Cond.instanceMethod yX11_has ∈ lw_good := wg 1007 (by decide +kernel) rfl
theorem w_1008 : Cond.selects "StyleFamiliesModel" yX11_has yX11_has ∈ lw_good := wg 1008 (by decide +kernel) rfl
theorem w_1009 : Cond.code yX11_has prog_13_method_42_code 3 (some .int) ∈ lw_good := wg 1009 (by decide +kernel) rfl
theorem w_1010 : Cond.methodLink "StyleFamiliesModel" 173 yX11_isProperty ∈ lw_good := wg 1010 (by decide +kernel) rfl
theorem w_1011 : Cond.static yX11_isProperty ∈ lw_good := wg 1011 (by decide +kernel) rfl
theorem w_1012 : Cond.code yX11_isProperty prog_13_method_9_code 1 (some .boolean) ∈ lw_good := wg 1012 (by decide +kernel) rfl
theorem w_1013 : Cond.constant "StyleFamiliesModel" 176 (-1000000001) ∈ lw_good := wg 1013 (by decide +kernel) rfl
theorem w_1015 : Cond.instanceMethod yX11_from ∈ lw_good := wg 1015 (by decide +kernel) rfl
theorem w_1016 : Cond.selects "StyleFamiliesModel" yX11_from yX11_from ∈ lw_good := wg 1016 (by decide +kernel) rfl
theorem w_1017 : Cond.code yX11_from prog_13_method_43_code 4 (some .int) ∈ lw_good := wg 1017 (by decide +kernel) rfl
theorem w_1019 : Cond.instanceMethod yX11_paragraphAt ∈ lw_good := wg 1019 (by decide +kernel) rfl
theorem w_1020 : Cond.selects "StyleFamiliesModel" yX11_paragraphAt yX11_paragraphAt ∈ lw_good := wg 1020 (by decide +kernel) rfl
theorem w_1021 : Cond.code yX11_paragraphAt prog_13_method_48_code 3 (some .int) ∈ lw_good := wg 1021 (by decide +kernel) rfl
theorem w_1022 : Cond.methodLink "StyleFamiliesModel" 180 yX11_layAll ∈ lw_good := wg 1022 (by decide +kernel) rfl
theorem w_1024 : Cond.instanceMethod yX11_layAll ∈ lw_good := wg 1024 (by decide +kernel) rfl
theorem w_1025 : Cond.code yX11_layAll prog_13_method_17_code 1 none ∈ lw_good := wg 1025 (by decide +kernel) rfl
theorem w_1026 : Cond.methodLink "StyleFamiliesModel" 183 yX11_nearest ∈ lw_good := wg 1026 (by decide +kernel) rfl
theorem w_1028 : Cond.instanceMethod yX11_nearest ∈ lw_good := wg 1028 (by decide +kernel) rfl
theorem w_1029 : Cond.code yX11_nearest prog_13_method_45_code 4 (some .int) ∈ lw_good := wg 1029 (by decide +kernel) rfl
theorem w_1030 : Cond.methodLink "StyleFamiliesModel" 177 yX11_costBy ∈ lw_good := wg 1030 (by decide +kernel) rfl
theorem w_1032 : Cond.instanceMethod yX11_costBy ∈ lw_good := wg 1032 (by decide +kernel) rfl
theorem w_1033 : Cond.code yX11_costBy prog_13_method_44_code 3 (some .int) ∈ lw_good := wg 1033 (by decide +kernel) rfl
theorem w_1034 : Cond.methodLink "StyleFamiliesModel" 186 yX11_lookNumber ∈ lw_good := wg 1034 (by decide +kernel) rfl
theorem w_1036 : Cond.instanceMethod yX11_lookNumber ∈ lw_good := wg 1036 (by decide +kernel) rfl
theorem w_1037 : Cond.code yX11_lookNumber prog_13_method_47_code 2 (some .int) ∈ lw_good := wg 1037 (by decide +kernel) rfl
theorem w_1038 : Cond.methodLink "StyleFamiliesModel" 189 yX11_toldAt ∈ lw_good := wg 1038 (by decide +kernel) rfl
theorem w_1040 : Cond.instanceMethod yX11_toldAt ∈ lw_good := wg 1040 (by decide +kernel) rfl
theorem w_1041 : Cond.code yX11_toldAt prog_13_method_46_code 4 (some .int) ∈ lw_good := wg 1041 (by decide +kernel) rfl
theorem w_1043 : Cond.instanceMethod yX11_styleAt ∈ lw_good := wg 1043 (by decide +kernel) rfl
theorem w_1044 : Cond.selects "StyleFamiliesModel" yX11_styleAt yX11_styleAt ∈ lw_good := wg 1044 (by decide +kernel) rfl
theorem w_1045 : Cond.code yX11_styleAt prog_13_method_53_code 3 (some .int) ∈ lw_good := wg 1045 (by decide +kernel) rfl
theorem w_1046 : Cond.methodLink "StyleFamiliesModel" 47 yX11_isStyle ∈ lw_good := wg 1046 (by decide +kernel) rfl
theorem w_1048 : Cond.instanceMethod yX11_isStyle ∈ lw_good := wg 1048 (by decide +kernel) rfl
theorem w_1049 : Cond.code yX11_isStyle prog_13_method_6_code 2 (some .boolean) ∈ lw_good := wg 1049 (by decide +kernel) rfl
theorem w_1050 : Cond.methodLink "StyleFamiliesModel" 195 yX11_above ∈ lw_good := wg 1050 (by decide +kernel) rfl
theorem w_1052 : Cond.instanceMethod yX11_above ∈ lw_good := wg 1052 (by decide +kernel) rfl
theorem w_1053 : Cond.code yX11_above prog_13_method_49_code 4 (some .int) ∈ lw_good := wg 1053 (by decide +kernel) rfl
theorem w_1054 : Cond.methodLink "StyleFamiliesModel" 198 yX11_havers ∈ lw_good := wg 1054 (by decide +kernel) rfl
theorem w_1056 : Cond.instanceMethod yX11_havers ∈ lw_good := wg 1056 (by decide +kernel) rfl
theorem w_1057 : Cond.code yX11_havers prog_13_method_50_code 4 (some .int) ∈ lw_good := wg 1057 (by decide +kernel) rfl
theorem w_1058 : Cond.methodLink "StyleFamiliesModel" 201 yX11_children ∈ lw_good := wg 1058 (by decide +kernel) rfl
theorem w_1060 : Cond.instanceMethod yX11_children ∈ lw_good := wg 1060 (by decide +kernel) rfl
theorem w_1061 : Cond.code yX11_children prog_13_method_51_code 4 (some .int) ∈ lw_good := wg 1061 (by decide +kernel) rfl
theorem w_1062 : Cond.methodLink "StyleFamiliesModel" 204 yX11_knitParent ∈ lw_good := wg 1062 (by decide +kernel) rfl
theorem w_1064 : Cond.instanceMethod yX11_knitParent ∈ lw_good := wg 1064 (by decide +kernel) rfl
theorem w_1065 : Cond.code yX11_knitParent prog_13_method_52_code 2 (some .int) ∈ lw_good := wg 1065 (by decide +kernel) rfl
theorem w_1066 : Cond.methodLink "StyleFamiliesModel" 192 yX11_layKnit ∈ lw_good := wg 1066 (by decide +kernel) rfl
theorem w_1068 : Cond.instanceMethod yX11_layKnit ∈ lw_good := wg 1068 (by decide +kernel) rfl
theorem w_1069 : Cond.code yX11_layKnit prog_13_method_32_code 6 none ∈ lw_good := wg 1069 (by decide +kernel) rfl
theorem w_1071 : Cond.instanceMethod yX11_styleHas ∈ lw_good := wg 1071 (by decide +kernel) rfl
theorem w_1072 : Cond.selects "StyleFamiliesModel" yX11_styleHas yX11_styleHas ∈ lw_good := wg 1072 (by decide +kernel) rfl
theorem w_1073 : Cond.code yX11_styleHas prog_13_method_54_code 3 (some .int) ∈ lw_good := wg 1073 (by decide +kernel) rfl
theorem w_1074 : Cond.methodLink "StyleFamiliesModel" 207 yX11_isStyleOrNone ∈ lw_good := wg 1074 (by decide +kernel) rfl
theorem w_1076 : Cond.instanceMethod yX11_isStyleOrNone ∈ lw_good := wg 1076 (by decide +kernel) rfl
theorem w_1077 : Cond.code yX11_isStyleOrNone prog_13_method_7_code 2 (some .boolean) ∈ lw_good := wg 1077 (by decide +kernel) rfl
theorem w_1079 : Cond.instanceMethod yX11_lookAt ∈ lw_good := wg 1079 (by decide +kernel) rfl
theorem w_1080 : Cond.selects "StyleFamiliesModel" yX11_lookAt yX11_lookAt ∈ lw_good := wg 1080 (by decide +kernel) rfl
theorem w_1081 : Cond.code yX11_lookAt prog_13_method_55_code 3 (some .int) ∈ lw_good := wg 1081 (by decide +kernel) rfl
theorem w_1083 : Cond.instanceMethod yX11_apart ∈ lw_good := wg 1083 (by decide +kernel) rfl
theorem w_1084 : Cond.selects "StyleFamiliesModel" yX11_apart yX11_apart ∈ lw_good := wg 1084 (by decide +kernel) rfl
theorem w_1085 : Cond.code yX11_apart prog_13_method_56_code 5 (some .int) ∈ lw_good := wg 1085 (by decide +kernel) rfl
theorem w_1087 : Cond.instanceMethod yX11_paragraph ∈ lw_good := wg 1087 (by decide +kernel) rfl
theorem w_1088 : Cond.selects "StyleFamiliesModel" yX11_paragraph yX11_paragraph ∈ lw_good := wg 1088 (by decide +kernel) rfl
theorem w_1089 : Cond.code yX11_paragraph prog_13_method_59_code 1 (some .int) ∈ lw_good := wg 1089 (by decide +kernel) rfl
theorem w_1090 : Cond.constant "StyleFamiliesModel" 214 (-1000000004) ∈ lw_good := wg 1090 (by decide +kernel) rfl
theorem w_1091 : Cond.methodLink "StyleFamiliesModel" 215 yX11_remember ∈ lw_good := wg 1091 (by decide +kernel) rfl
theorem w_1093 : Cond.instanceMethod yX11_remember ∈ lw_good := wg 1093 (by decide +kernel) rfl
theorem w_1094 : Cond.code yX11_remember prog_13_method_57_code 2 none ∈ lw_good := wg 1094 (by decide +kernel) rfl
theorem w_1095 : Cond.methodLink "StyleFamiliesModel" 210 yX11_copyRow ∈ lw_good := wg 1095 (by decide +kernel) rfl
theorem w_1097 : Cond.instanceMethod yX11_copyRow ∈ lw_good := wg 1097 (by decide +kernel) rfl
theorem w_1098 : Cond.code yX11_copyRow prog_13_method_3_code 4 none ∈ lw_good := wg 1098 (by decide +kernel) rfl
theorem w_1099 : Cond.methodLink "StyleFamiliesModel" 218 yX11_clear ∈ lw_good := wg 1099 (by decide +kernel) rfl
theorem w_1101 : Cond.instanceMethod yX11_clear ∈ lw_good := wg 1101 (by decide +kernel) rfl
theorem w_1102 : Cond.code yX11_clear prog_13_method_58_code 3 none ∈ lw_good := wg 1102 (by decide +kernel) rfl
theorem w_1104 : Cond.instanceMethod yX11_style ∈ lw_good := wg 1104 (by decide +kernel) rfl
theorem w_1105 : Cond.selects "StyleFamiliesModel" yX11_style yX11_style ∈ lw_good := wg 1105 (by decide +kernel) rfl
theorem w_1106 : Cond.code yX11_style prog_13_method_60_code 1 (some .int) ∈ lw_good := wg 1106 (by decide +kernel) rfl
theorem w_1108 : Cond.instanceMethod yX11_direct ∈ lw_good := wg 1108 (by decide +kernel) rfl
theorem w_1109 : Cond.selects "StyleFamiliesModel" yX11_direct yX11_direct ∈ lw_good := wg 1109 (by decide +kernel) rfl
theorem w_1110 : Cond.code yX11_direct prog_13_method_62_code 4 (some .int) ∈ lw_good := wg 1110 (by decide +kernel) rfl
theorem w_1111 : Cond.methodLink "StyleFamiliesModel" 222 yX11_isValue ∈ lw_good := wg 1111 (by decide +kernel) rfl
theorem w_1112 : Cond.static yX11_isValue ∈ lw_good := wg 1112 (by decide +kernel) rfl
theorem w_1113 : Cond.code yX11_isValue prog_13_method_10_code 2 (some .boolean) ∈ lw_good := wg 1113 (by decide +kernel) rfl
theorem w_1114 : Cond.methodLink "StyleFamiliesModel" 225 yX11_lay ∈ lw_good := wg 1114 (by decide +kernel) rfl
theorem w_1116 : Cond.instanceMethod yX11_lay ∈ lw_good := wg 1116 (by decide +kernel) rfl
theorem w_1117 : Cond.code yX11_lay prog_13_method_61_code 4 (some .int) ∈ lw_good := wg 1117 (by decide +kernel) rfl
theorem w_1119 : Cond.instanceMethod yX11_sets ∈ lw_good := wg 1119 (by decide +kernel) rfl
theorem w_1120 : Cond.selects "StyleFamiliesModel" yX11_sets yX11_sets ∈ lw_good := wg 1120 (by decide +kernel) rfl
theorem w_1121 : Cond.code yX11_sets prog_13_method_63_code 4 (some .int) ∈ lw_good := wg 1121 (by decide +kernel) rfl
theorem w_1123 : Cond.instanceMethod yX11_ground ∈ lw_good := wg 1123 (by decide +kernel) rfl
theorem w_1124 : Cond.selects "StyleFamiliesModel" yX11_ground yX11_ground ∈ lw_good := wg 1124 (by decide +kernel) rfl
theorem w_1125 : Cond.code yX11_ground prog_13_method_64_code 3 (some .int) ∈ lw_good := wg 1125 (by decide +kernel) rfl
theorem w_1127 : Cond.instanceMethod yX11_head ∈ lw_good := wg 1127 (by decide +kernel) rfl
theorem w_1128 : Cond.selects "StyleFamiliesModel" yX11_head yX11_head ∈ lw_good := wg 1128 (by decide +kernel) rfl
theorem w_1129 : Cond.code yX11_head prog_13_method_65_code 2 (some .int) ∈ lw_good := wg 1129 (by decide +kernel) rfl
theorem w_1131 : Cond.instanceMethod yX11_apply ∈ lw_good := wg 1131 (by decide +kernel) rfl
theorem w_1132 : Cond.selects "StyleFamiliesModel" yX11_apply yX11_apply ∈ lw_good := wg 1132 (by decide +kernel) rfl
theorem w_1133 : Cond.code yX11_apply prog_13_method_66_code 3 (some .int) ∈ lw_good := wg 1133 (by decide +kernel) rfl
theorem w_1135 : Cond.instanceMethod yX11_parent ∈ lw_good := wg 1135 (by decide +kernel) rfl
theorem w_1136 : Cond.selects "StyleFamiliesModel" yX11_parent yX11_parent ∈ lw_good := wg 1136 (by decide +kernel) rfl
theorem w_1137 : Cond.code yX11_parent prog_13_method_68_code 3 (some .int) ∈ lw_good := wg 1137 (by decide +kernel) rfl
theorem w_1138 : Cond.methodLink "StyleFamiliesModel" 228 yX11_isRing ∈ lw_good := wg 1138 (by decide +kernel) rfl
theorem w_1140 : Cond.instanceMethod yX11_isRing ∈ lw_good := wg 1140 (by decide +kernel) rfl
theorem w_1141 : Cond.code yX11_isRing prog_13_method_67_code 5 (some .boolean) ∈ lw_good := wg 1141 (by decide +kernel) rfl
theorem w_1142 : Cond.constant "StyleFamiliesModel" 231 (-1000000003) ∈ lw_good := wg 1142 (by decide +kernel) rfl
theorem w_1144 : Cond.instanceMethod yX11_restyle ∈ lw_good := wg 1144 (by decide +kernel) rfl
theorem w_1145 : Cond.selects "StyleFamiliesModel" yX11_restyle yX11_restyle ∈ lw_good := wg 1145 (by decide +kernel) rfl
theorem w_1146 : Cond.code yX11_restyle prog_13_method_70_code 3 (some .int) ∈ lw_good := wg 1146 (by decide +kernel) rfl
theorem w_1147 : Cond.methodLink "StyleFamiliesModel" 232 yX11_tellAnew ∈ lw_good := wg 1147 (by decide +kernel) rfl
theorem w_1149 : Cond.instanceMethod yX11_tellAnew ∈ lw_good := wg 1149 (by decide +kernel) rfl
theorem w_1150 : Cond.code yX11_tellAnew prog_13_method_69_code 8 none ∈ lw_good := wg 1150 (by decide +kernel) rfl
theorem w_1152 : Cond.instanceMethod yX11_reparent ∈ lw_good := wg 1152 (by decide +kernel) rfl
theorem w_1153 : Cond.selects "StyleFamiliesModel" yX11_reparent yX11_reparent ∈ lw_good := wg 1153 (by decide +kernel) rfl
theorem w_1154 : Cond.code yX11_reparent prog_13_method_71_code 3 (some .int) ∈ lw_good := wg 1154 (by decide +kernel) rfl
theorem w_1156 : Cond.instanceMethod yX11_drop ∈ lw_good := wg 1156 (by decide +kernel) rfl
theorem w_1157 : Cond.selects "StyleFamiliesModel" yX11_drop yX11_drop ∈ lw_good := wg 1157 (by decide +kernel) rfl
theorem w_1158 : Cond.code yX11_drop prog_13_method_73_code 4 (some .int) ∈ lw_good := wg 1158 (by decide +kernel) rfl
theorem w_1159 : Cond.methodLink "StyleFamiliesModel" 236 yX11_lessAbove ∈ lw_good := wg 1159 (by decide +kernel) rfl
theorem w_1161 : Cond.instanceMethod yX11_lessAbove ∈ lw_good := wg 1161 (by decide +kernel) rfl
theorem w_1162 : Cond.code yX11_lessAbove prog_13_method_72_code 3 none ∈ lw_good := wg 1162 (by decide +kernel) rfl
theorem w_1164 : Cond.instanceMethod yX11_take ∈ lw_good := wg 1164 (by decide +kernel) rfl
theorem w_1165 : Cond.selects "StyleFamiliesModel" yX11_take yX11_take ∈ lw_good := wg 1165 (by decide +kernel) rfl
theorem w_1166 : Cond.code yX11_take prog_13_method_74_code 3 (some .int) ∈ lw_good := wg 1166 (by decide +kernel) rfl
theorem w_1168 : Cond.instanceMethod yX11_swap ∈ lw_good := wg 1168 (by decide +kernel) rfl
theorem w_1169 : Cond.selects "StyleFamiliesModel" yX11_swap yX11_swap ∈ lw_good := wg 1169 (by decide +kernel) rfl
theorem w_1170 : Cond.code yX11_swap prog_13_method_75_code 6 (some .int) ∈ lw_good := wg 1170 (by decide +kernel) rfl
theorem w_1172 : Cond.instanceMethod yX11_tidy ∈ lw_good := wg 1172 (by decide +kernel) rfl
theorem w_1173 : Cond.selects "StyleFamiliesModel" yX11_tidy yX11_tidy ∈ lw_good := wg 1173 (by decide +kernel) rfl
theorem w_1174 : Cond.code yX11_tidy prog_13_method_76_code 6 (some .int) ∈ lw_good := wg 1174 (by decide +kernel) rfl
theorem w_1176 : Cond.instanceMethod yX11_knit ∈ lw_good := wg 1176 (by decide +kernel) rfl
theorem w_1177 : Cond.selects "StyleFamiliesModel" yX11_knit yX11_knit ∈ lw_good := wg 1177 (by decide +kernel) rfl
theorem w_1178 : Cond.code yX11_knit prog_13_method_77_code 2 (some .int) ∈ lw_good := wg 1178 (by decide +kernel) rfl
theorem w_1180 : Cond.instanceMethod yX11_adopt ∈ lw_good := wg 1180 (by decide +kernel) rfl
theorem w_1181 : Cond.selects "StyleFamiliesModel" yX11_adopt yX11_adopt ∈ lw_good := wg 1181 (by decide +kernel) rfl
theorem w_1182 : Cond.code yX11_adopt prog_13_method_78_code 4 (some .int) ∈ lw_good := wg 1182 (by decide +kernel) rfl
theorem w_1184 : Cond.instanceMethod yX11_drift ∈ lw_good := wg 1184 (by decide +kernel) rfl
theorem w_1185 : Cond.selects "StyleFamiliesModel" yX11_drift yX11_drift ∈ lw_good := wg 1185 (by decide +kernel) rfl
theorem w_1186 : Cond.code yX11_drift prog_13_method_81_code 5 (some .int) ∈ lw_good := wg 1186 (by decide +kernel) rfl
theorem w_1187 : Cond.methodLink "StyleFamiliesModel" 249 yX11_paragraph ∈ lw_good := wg 1187 (by decide +kernel) rfl
theorem w_1188 : Cond.methodLink "StyleFamiliesModel" 246 yX11_draw ∈ lw_good := wg 1188 (by decide +kernel) rfl
theorem w_1190 : Cond.instanceMethod yX11_draw ∈ lw_good := wg 1190 (by decide +kernel) rfl
theorem w_1191 : Cond.code yX11_draw prog_13_method_79_code 4 (some .int) ∈ lw_good := wg 1191 (by decide +kernel) rfl
theorem w_1192 : Cond.constantLong "StyleFamiliesModel" 239 (1103515245) ∈ lw_good := wg 1192 (by decide +kernel) rfl
theorem w_1193 : Cond.constantLong "StyleFamiliesModel" 241 (12345) ∈ lw_good := wg 1193 (by decide +kernel) rfl
theorem w_1194 : Cond.constantLong "StyleFamiliesModel" 243 (2147483648) ∈ lw_good := wg 1194 (by decide +kernel) rfl
theorem w_1195 : Cond.constant "StyleFamiliesModel" 245 (65536) ∈ lw_good := wg 1195 (by decide +kernel) rfl
theorem w_1196 : Cond.methodLink "StyleFamiliesModel" 252 yX11_drawValue ∈ lw_good := wg 1196 (by decide +kernel) rfl
theorem w_1198 : Cond.instanceMethod yX11_drawValue ∈ lw_good := wg 1198 (by decide +kernel) rfl
theorem w_1199 : Cond.code yX11_drawValue prog_13_method_80_code 2 (some .int) ∈ lw_good := wg 1199 (by decide +kernel) rfl
theorem w_1201 : Cond.instanceMethod yX11_undo ∈ lw_good := wg 1201 (by decide +kernel) rfl
theorem w_1202 : Cond.selects "StyleFamiliesModel" yX11_undo yX11_undo ∈ lw_good := wg 1202 (by decide +kernel) rfl
theorem w_1203 : Cond.code yX11_undo prog_13_method_82_code 2 (some .int) ∈ lw_good := wg 1203 (by decide +kernel) rfl
theorem w_1205 : Cond.instanceMethod yX11_write ∈ lw_good := wg 1205 (by decide +kernel) rfl
theorem w_1206 : Cond.selects "StyleFamiliesModel" yX11_write yX11_write ∈ lw_good := wg 1206 (by decide +kernel) rfl
theorem w_1207 : Cond.code yX11_write prog_13_method_83_code 4 (some .int) ∈ lw_good := wg 1207 (by decide +kernel) rfl
theorem w_1209 : Cond.instanceMethod yX11_tear ∈ lw_good := wg 1209 (by decide +kernel) rfl
theorem w_1210 : Cond.selects "StyleFamiliesModel" yX11_tear yX11_tear ∈ lw_good := wg 1210 (by decide +kernel) rfl
theorem w_1211 : Cond.code yX11_tear prog_13_method_84_code 2 (some .int) ∈ lw_good := wg 1211 (by decide +kernel) rfl
theorem w_1213 : Cond.instanceMethod yX11_seed ∈ lw_good := wg 1213 (by decide +kernel) rfl
theorem w_1214 : Cond.selects "StyleFamiliesModel" yX11_seed yX11_seed ∈ lw_good := wg 1214 (by decide +kernel) rfl
theorem w_1215 : Cond.code yX11_seed prog_13_method_85_code 3 (some .int) ∈ lw_good := wg 1215 (by decide +kernel) rfl
theorem w_1217 : Cond.instanceMethod yX11_keep ∈ lw_good := wg 1217 (by decide +kernel) rfl
theorem w_1218 : Cond.selects "StyleFamiliesModel" yX11_keep yX11_keep ∈ lw_good := wg 1218 (by decide +kernel) rfl
theorem w_1219 : Cond.code yX11_keep prog_13_method_86_code 2 (some .int) ∈ lw_good := wg 1219 (by decide +kernel) rfl
theorem w_1221 : Cond.instanceMethod yX11_goBack ∈ lw_good := wg 1221 (by decide +kernel) rfl
theorem w_1222 : Cond.selects "StyleFamiliesModel" yX11_goBack yX11_goBack ∈ lw_good := wg 1222 (by decide +kernel) rfl
theorem w_1223 : Cond.code yX11_goBack prog_13_method_87_code 2 (some .int) ∈ lw_good := wg 1223 (by decide +kernel) rfl
theorem g_acp : Cond.native arraycopyName ∈ lw_good ∧ Cond.static arraycopyName ∈ lw_good ∧ Cond.initialized "java/lang/System" ∈ lw_good := ⟨w_390, w_389, w_79⟩
theorem g_min : Cond.static Lib.Math.min.name ∈ lw_good ∧ Cond.initialized "java/lang/Math" ∈ lw_good ∧ Cond.code Lib.Math.min.name Lib.Math.min.code 2 (some .int) ∈ lw_good := ⟨w_102, w_69, w_103⟩
end
section
/-! ===== Math.min ===== -/
def op_min (k : vD) : vD := fun L st G M => match st with
  | .int y :: .int x :: r => if r.length ≤ 4 then k L (.int (if y < x then y else x) :: r) G M else none
  | _ => none
theorem s_min {y : MethodName} {cc : ByteArray} {nL : Nat} {ret : Option FieldType} {lev mc ms : Nat} {g0 : vG} {pc pc' : Nat} {k : vD} {index : Nat} (hw : Cond.methodLink y.cls index Lib.Math.min.name ∈ lw_good) (hw2 : Cond.static Lib.Math.min.name ∈ lw_good ∧ Cond.initialized "java/lang/Math" ∈ lw_good ∧ Cond.code Lib.Math.min.name Lib.Math.min.code 2 (some .int) ∈ lw_good) (hlv : 1 ≤ lev) (hd : decode cc pc = .ok (.invokestatic index, 3)) (hp : pc + 3 = pc') (hk : Snd y cc nL ret lev mc ms g0 pc' k) : Snd y cc nL ret lev mc ms g0 pc (op_min k) := by
  subst hp
  intro p l e s m args below meth c D cx ad A F H locs ls L st G M hI hL out ho
  obtain ⟨hx, hb, hml, hown, hts, -⟩ := id F
  unfold op_min at ho
  split at ho
  · next b a r =>
    split at ho
    · next hr =>
      refine Rs.go (G2 := G) hk F ho (fun Q kk => va_mmin (rest := r.map (cvA ad)) hx hb (hml.trans hL.1.symm) hown (hts _ hw) (hts _ hw2.1) (hts _ hw2.2.1) (hts _ hw2.2.2) hlv ?_ ?_ ?_ hd (kk H locs ls hI hL))
      · have h1 := cat_sum (ad := ad) r
        show _ ≤ 36 * lev
        omega
      · have := hI.2.2.2.1
        show _ ≤ mc
        omega
      · have := hI.2.2.2.1
        show _ ≤ ms
        omega
    · cases ho
  · cases ho
end
section
/-! ===== fragments and contracts, by program (wip/whole/gen.py) ===== -/
def D_X9_asPartOfLook : vD := op_ild 1 (op_gst 0 (op_ild 0 (op_sal 0 (op_bin f_shl (op_ret)))))
set_option maxRecDepth 100000 in
theorem S_D_X9_asPartOfLook (g0 : vG) : Snd yX9_asPartOfLook cX9_asPartOfLook 2 (some .int) 0 0 0 g0 0 D_X9_asPartOfLook := s_ildn (j := 1) (pc' := 1) (by decide +kernel) rfl rfl (s_gst (t := 0) (pc' := 4) (by decide) w_378 (by decide +kernel) rfl (s_ildn (j := 0) (pc' := 5) (by decide +kernel) rfl rfl (s_sal (t := 0) (pc' := 6) (by decide) (by decide +kernel) rfl (s_shl (pc' := 7) (by decide +kernel) rfl (s_iret (by decide +kernel) rfl rfl rfl)))))
def F_X9_asPartOfLook : vF := runD D_X9_asPartOfLook 2
theorem C_X9_asPartOfLook : Ctr yX9_asPartOfLook cX9_asPartOfLook 2 (some .int) 0 0 0 F_X9_asPartOfLook := ctr_of (d := fun _ => D_X9_asPartOfLook) (by decide +kernel) S_D_X9_asPartOfLook
theorem A_X9_asPartOfLook : CaS yX9_asPartOfLook cX9_asPartOfLook 2 (some .int) 2 := ⟨w_376, w_78, w_377, by unfold Nm; decide +kernel⟩
def K_X9_bits_23 : vD := op_ret
set_option maxRecDepth 100000 in
theorem S_K_X9_bits_23 (g0 : vG) : Snd yX9_bits cX9_bits 2 (some .int) 0 0 0 g0 23 K_X9_bits_23 := s_iret (by decide +kernel) rfl rfl rfl
def D_X9_bits : vD := op_ild 0 (op_con 2 (op_icge (op_ild 0 (op_con 4 (op_icge (op_con 3 (op_ild 1 (op_con 2 (op_div f_div (op_bin f_add (op_ret)))))) (op_ild 1 (op_con 10 (op_seq 23 (op_icge (op_con 5 (op_kil [false, false] (op_jmp 23))) (op_con 4 (op_kil [false, false] (op_jmp 23)))) K_X9_bits_23)))))) (op_con 2 (op_ret))))
set_option maxRecDepth 100000 in
theorem S_D_X9_bits (g0 : vG) : Snd yX9_bits cX9_bits 2 (some .int) 0 0 0 g0 0 D_X9_bits := s_ildn (j := 0) (pc' := 1) (by decide +kernel) rfl rfl (s_con (n := 2) (pc' := 2) (by decide +kernel) (by decide +kernel) rfl (s_icge (off := 5) (pt := 7) (pc' := 5) (by decide +kernel) (by decide) rfl (s_ildn (j := 0) (pc' := 8) (by decide +kernel) rfl rfl (s_con (n := 4) (pc' := 9) (by decide +kernel) (by decide +kernel) rfl (s_icge (off := 15) (pt := 24) (pc' := 12) (by decide +kernel) (by decide) rfl (s_con (n := 3) (pc' := 25) (by decide +kernel) (by decide +kernel) rfl (s_ildn (j := 1) (pc' := 26) (by decide +kernel) rfl rfl (s_con (n := 2) (pc' := 27) (by decide +kernel) (by decide +kernel) rfl (s_div (pc' := 28) (by decide +kernel) rfl (s_add (pc' := 29) (by decide +kernel) rfl (s_iret (by decide +kernel) rfl rfl rfl)))))) (s_ildn (j := 1) (pc' := 13) (by decide +kernel) rfl rfl (s_bip (n := 10) (pc' := 15) (by decide +kernel) (by decide +kernel) rfl (s_seq (s_icge (off := 7) (pt := 22) (pc' := 18) (by decide +kernel) (by decide) rfl (s_con (n := 5) (pc' := 23) (by decide +kernel) (by decide +kernel) rfl (s_kil s_jmp)) (s_con (n := 4) (pc' := 19) (by decide +kernel) (by decide +kernel) rfl (s_goto (off := 4) (pt := 23) (by decide +kernel) (by decide) (s_kil s_jmp)))) (S_K_X9_bits_23 g0))))))) (s_con (n := 2) (pc' := 6) (by decide +kernel) (by decide +kernel) rfl (s_iret (by decide +kernel) rfl rfl rfl))))
def F_X9_bits : vF := runD D_X9_bits 2
theorem C_X9_bits : Ctr yX9_bits cX9_bits 2 (some .int) 0 0 0 F_X9_bits := ctr_of (d := fun _ => D_X9_bits) (by decide +kernel) S_D_X9_bits
theorem A_X9_bits : CaS yX9_bits cX9_bits 2 (some .int) 2 := ⟨w_336, w_78, w_337, by unfold Nm; decide +kernel⟩
def D_X9_inLook : vD := op_ild 0 (op_gst 0 (op_ild 1 (op_sal 0 (op_bin f_shr (op_gst 1 (op_ild 1 (op_sal 1 (op_bin f_and (op_ret)))))))))
set_option maxRecDepth 100000 in
theorem S_D_X9_inLook (g0 : vG) : Snd yX9_inLook cX9_inLook 2 (some .int) 0 0 0 g0 0 D_X9_inLook := s_ildn (j := 0) (pc' := 1) (by decide +kernel) rfl rfl (s_gst (t := 0) (pc' := 4) (by decide) w_378 (by decide +kernel) rfl (s_ildn (j := 1) (pc' := 5) (by decide +kernel) rfl rfl (s_sal (t := 0) (pc' := 6) (by decide) (by decide +kernel) rfl (s_shr (pc' := 7) (by decide +kernel) rfl (s_gst (t := 1) (pc' := 10) (by decide) w_425 (by decide +kernel) rfl (s_ildn (j := 1) (pc' := 11) (by decide +kernel) rfl rfl (s_sal (t := 1) (pc' := 12) (by decide) (by decide +kernel) rfl (s_and (pc' := 13) (by decide +kernel) rfl (s_iret (by decide +kernel) rfl rfl rfl)))))))))
def F_X9_inLook : vF := runD D_X9_inLook 2
theorem C_X9_inLook : Ctr yX9_inLook cX9_inLook 2 (some .int) 0 0 0 F_X9_inLook := ctr_of (d := fun _ => D_X9_inLook) (by decide +kernel) S_D_X9_inLook
theorem A_X9_inLook : CaS yX9_inLook cX9_inLook 2 (some .int) 2 := ⟨w_423, w_78, w_424, by unfold Nm; decide +kernel⟩
def K_X9_isProperty_14 : vD := op_con 0 (op_kil [false] (op_jmp 15))
set_option maxRecDepth 100000 in
theorem S_K_X9_isProperty_14 (g0 : vG) : Snd yX9_isProperty cX9_isProperty 1 (some .boolean) 0 0 0 g0 14 K_X9_isProperty_14 := s_con (n := 0) (pc' := 15) (by decide +kernel) (by decide +kernel) rfl (s_kil s_jmp)
def K_X9_isProperty_15 : vD := op_zret
set_option maxRecDepth 100000 in
theorem S_K_X9_isProperty_15 (g0 : vG) : Snd yX9_isProperty cX9_isProperty 1 (some .boolean) 0 0 0 g0 15 K_X9_isProperty_15 := s_zret (by decide +kernel) rfl nar_bool rfl rfl
def D_X9_isProperty : vD := op_ild 0 (op_seq 15 (op_seq 14 (op_iflt (op_kil [false] (op_jmp 14)) (op_ild 0 (op_con 6 (op_icge (op_kil [false] (op_jmp 14)) (op_con 1 (op_kil [false] (op_jmp 15))))))) K_X9_isProperty_14) K_X9_isProperty_15)
set_option maxRecDepth 100000 in
theorem S_D_X9_isProperty (g0 : vG) : Snd yX9_isProperty cX9_isProperty 1 (some .boolean) 0 0 0 g0 0 D_X9_isProperty := s_ildn (j := 0) (pc' := 1) (by decide +kernel) rfl rfl (s_seq (s_seq (s_iflt (off := 13) (pt := 14) (pc' := 4) (by decide +kernel) (by decide) rfl (s_kil s_jmp) (s_ildn (j := 0) (pc' := 5) (by decide +kernel) rfl rfl (s_bip (n := 6) (pc' := 7) (by decide +kernel) (by decide +kernel) rfl (s_icge (off := 7) (pt := 14) (pc' := 10) (by decide +kernel) (by decide) rfl (s_kil s_jmp) (s_con (n := 1) (pc' := 11) (by decide +kernel) (by decide +kernel) rfl (s_goto (off := 4) (pt := 15) (by decide +kernel) (by decide) (s_kil s_jmp))))))) (S_K_X9_isProperty_14 g0)) (S_K_X9_isProperty_15 g0))
def F_X9_isProperty : vF := runD D_X9_isProperty 1
theorem C_X9_isProperty : Ctr yX9_isProperty cX9_isProperty 1 (some .boolean) 0 0 0 F_X9_isProperty := ctr_of (d := fun _ => D_X9_isProperty) (by decide +kernel) S_D_X9_isProperty
theorem A_X9_isProperty : CaS yX9_isProperty cX9_isProperty 1 (some .boolean) 1 := ⟨w_497, w_78, w_498, by unfold Nm; decide +kernel⟩
def K_X9_isValue_17 : vD := op_con 0 (op_kil [false, false] (op_jmp 18))
set_option maxRecDepth 100000 in
theorem S_K_X9_isValue_17 (g0 : vG) : Snd yX9_isValue cX9_isValue 2 (some .boolean) 0 0 0 g0 17 K_X9_isValue_17 := s_con (n := 0) (pc' := 18) (by decide +kernel) (by decide +kernel) rfl (s_kil s_jmp)
def K_X9_isValue_18 : vD := op_zret
set_option maxRecDepth 100000 in
theorem S_K_X9_isValue_18 (g0 : vG) : Snd yX9_isValue cX9_isValue 2 (some .boolean) 0 0 0 g0 18 K_X9_isValue_18 := s_zret (by decide +kernel) rfl nar_bool rfl rfl
def D_X9_isValue : vD := op_ild 1 (op_seq 18 (op_seq 17 (op_iflt (op_kil [false, false] (op_jmp 17)) (op_ild 1 (op_gst 2 (op_ild 0 (op_sal 2 (op_icgt (op_kil [false, false] (op_jmp 17)) (op_con 1 (op_kil [false, false] (op_jmp 18))))))))) K_X9_isValue_17) K_X9_isValue_18)
set_option maxRecDepth 100000 in
theorem S_D_X9_isValue (g0 : vG) : Snd yX9_isValue cX9_isValue 2 (some .boolean) 0 0 0 g0 0 D_X9_isValue := s_ildn (j := 1) (pc' := 1) (by decide +kernel) rfl rfl (s_seq (s_seq (s_iflt (off := 16) (pt := 17) (pc' := 4) (by decide +kernel) (by decide) rfl (s_kil s_jmp) (s_ildn (j := 1) (pc' := 5) (by decide +kernel) rfl rfl (s_gst (t := 2) (pc' := 8) (by decide) w_637 (by decide +kernel) rfl (s_ildn (j := 0) (pc' := 9) (by decide +kernel) rfl rfl (s_sal (t := 2) (pc' := 10) (by decide) (by decide +kernel) rfl (s_icgt (off := 7) (pt := 17) (pc' := 13) (by decide +kernel) (by decide) rfl (s_kil s_jmp) (s_con (n := 1) (pc' := 14) (by decide +kernel) (by decide +kernel) rfl (s_goto (off := 4) (pt := 18) (by decide +kernel) (by decide) (s_kil s_jmp))))))))) (S_K_X9_isValue_17 g0)) (S_K_X9_isValue_18 g0))
def F_X9_isValue : vF := runD D_X9_isValue 2
theorem C_X9_isValue : Ctr yX9_isValue cX9_isValue 2 (some .boolean) 0 0 0 F_X9_isValue := ctr_of (d := fun _ => D_X9_isValue) (by decide +kernel) S_D_X9_isValue
theorem A_X9_isValue : CaS yX9_isValue cX9_isValue 2 (some .boolean) 2 := ⟨w_635, w_78, w_636, by unfold Nm; decide +kernel⟩
def D_J6_bitCount_0f7a4 : vD := op_ild 0 (op_ild 0 (op_con 1 (op_bin f_ushr (op_con 1431655765 (op_bin f_and (op_bin f_sub (op_ist 0 (op_ild 0 (op_con 858993459 (op_bin f_and (op_ild 0 (op_con 2 (op_bin f_ushr (op_con 858993459 (op_bin f_and (op_bin f_add (op_ist 0 (op_ild 0 (op_ild 0 (op_con 4 (op_bin f_ushr (op_bin f_add (op_con 252645135 (op_bin f_and (op_ist 0 (op_ild 0 (op_ild 0 (op_con 8 (op_bin f_ushr (op_bin f_add (op_ist 0 (op_ild 0 (op_ild 0 (op_con 16 (op_bin f_ushr (op_bin f_add (op_ist 0 (op_ild 0 (op_con 63 (op_bin f_and (op_ret)))))))))))))))))))))))))))))))))))))))))
set_option maxRecDepth 100000 in
theorem S_D_J6_bitCount_0f7a4 (g0 : vG) : Snd yJ6_bitCount_0f7a4 cJ6_bitCount_0f7a4 1 (some .int) 0 0 0 g0 0 D_J6_bitCount_0f7a4 := s_ildn (j := 0) (pc' := 1) (by decide +kernel) rfl rfl (s_ildn (j := 0) (pc' := 2) (by decide +kernel) rfl rfl (s_con (n := 1) (pc' := 3) (by decide +kernel) (by decide +kernel) rfl (s_ushr (pc' := 4) (by decide +kernel) rfl (s_ldw (pc' := 7) (by decide +kernel) w_462 rfl (s_and (pc' := 8) (by decide +kernel) rfl (s_sub (pc' := 9) (by decide +kernel) rfl (s_istn (j := 0) (pc' := 10) (by decide +kernel) rfl (by decide) rfl (s_ildn (j := 0) (pc' := 11) (by decide +kernel) rfl rfl (s_ldw (pc' := 14) (by decide +kernel) w_463 rfl (s_and (pc' := 15) (by decide +kernel) rfl (s_ildn (j := 0) (pc' := 16) (by decide +kernel) rfl rfl (s_con (n := 2) (pc' := 17) (by decide +kernel) (by decide +kernel) rfl (s_ushr (pc' := 18) (by decide +kernel) rfl (s_ldw (pc' := 21) (by decide +kernel) w_463 rfl (s_and (pc' := 22) (by decide +kernel) rfl (s_add (pc' := 23) (by decide +kernel) rfl (s_istn (j := 0) (pc' := 24) (by decide +kernel) rfl (by decide) rfl (s_ildn (j := 0) (pc' := 25) (by decide +kernel) rfl rfl (s_ildn (j := 0) (pc' := 26) (by decide +kernel) rfl rfl (s_con (n := 4) (pc' := 27) (by decide +kernel) (by decide +kernel) rfl (s_ushr (pc' := 28) (by decide +kernel) rfl (s_add (pc' := 29) (by decide +kernel) rfl (s_ldw (pc' := 32) (by decide +kernel) w_464 rfl (s_and (pc' := 33) (by decide +kernel) rfl (s_istn (j := 0) (pc' := 34) (by decide +kernel) rfl (by decide) rfl (s_ildn (j := 0) (pc' := 35) (by decide +kernel) rfl rfl (s_ildn (j := 0) (pc' := 36) (by decide +kernel) rfl rfl (s_bip (n := 8) (pc' := 38) (by decide +kernel) (by decide +kernel) rfl (s_ushr (pc' := 39) (by decide +kernel) rfl (s_add (pc' := 40) (by decide +kernel) rfl (s_istn (j := 0) (pc' := 41) (by decide +kernel) rfl (by decide) rfl (s_ildn (j := 0) (pc' := 42) (by decide +kernel) rfl rfl (s_ildn (j := 0) (pc' := 43) (by decide +kernel) rfl rfl (s_bip (n := 16) (pc' := 45) (by decide +kernel) (by decide +kernel) rfl (s_ushr (pc' := 46) (by decide +kernel) rfl (s_add (pc' := 47) (by decide +kernel) rfl (s_istn (j := 0) (pc' := 48) (by decide +kernel) rfl (by decide) rfl (s_ildn (j := 0) (pc' := 49) (by decide +kernel) rfl rfl (s_bip (n := 63) (pc' := 51) (by decide +kernel) (by decide +kernel) rfl (s_and (pc' := 52) (by decide +kernel) rfl (s_iret (by decide +kernel) rfl rfl rfl)))))))))))))))))))))))))))))))))))))))))
def F_J6_bitCount_0f7a4 : vF := runD D_J6_bitCount_0f7a4 1
theorem C_J6_bitCount_0f7a4 : Ctr yJ6_bitCount_0f7a4 cJ6_bitCount_0f7a4 1 (some .int) 0 0 0 F_J6_bitCount_0f7a4 := ctr_of (d := fun _ => D_J6_bitCount_0f7a4) (by decide +kernel) S_D_J6_bitCount_0f7a4
theorem A_J6_bitCount_0f7a4 : CaS yJ6_bitCount_0f7a4 cJ6_bitCount_0f7a4 1 (some .int) 1 := ⟨w_460, w_80, w_461, by unfold Nm; decide +kernel⟩
def K_X9_bitsApart_36 : vD := op_inc 3 1 (op_kil [true, true, true, true, false] (op_jmp 4))
set_option maxRecDepth 100000 in
theorem S_K_X9_bitsApart_36 (g0 : vG) : Snd yX9_bitsApart cX9_bitsApart 5 (some .int) 1 0 0 g0 36 K_X9_bitsApart_36 := s_inc (n := 1) (pc' := 39) (by decide +kernel) (by decide +kernel) (by decide) rfl (s_goto (off := (-35)) (pt := 4) (by decide +kernel) (by decide) (s_kil s_jmp))
def B_X9_bitsApart_4 : vD := op_ild 3 (op_con 6 (op_icge (op_kil [false, false, true, false, false] (op_jmp 42)) (op_ild 0 (op_ild 3 (op_cal 2 F_X9_inLook (op_ist 4 (op_ild 4 (op_ild 1 (op_ild 3 (op_cal 2 F_X9_inLook (op_seq 36 (op_iceq (op_kil [true, true, true, true, false] (op_jmp 36)) (op_ild 2 (op_ild 3 (op_ild 4 (op_cal 2 F_X9_bits (op_bin f_add (op_ist 2 (op_kil [true, true, true, true, false] (op_jmp 36))))))))) K_X9_bitsApart_36)))))))))))
set_option maxRecDepth 100000 in
theorem S_B_X9_bitsApart_4 (g0 : vG) : Snd yX9_bitsApart cX9_bitsApart 5 (some .int) 1 0 0 g0 4 B_X9_bitsApart_4 := s_ildn (j := 3) (pc' := 5) (by decide +kernel) rfl rfl (s_bip (n := 6) (pc' := 7) (by decide +kernel) (by decide +kernel) rfl (s_icge (off := 35) (pt := 42) (pc' := 10) (by decide +kernel) (by decide) rfl (s_kil s_jmp) (s_ildn (j := 0) (pc' := 11) (by decide +kernel) rfl rfl (s_ildn (j := 3) (pc' := 12) (by decide +kernel) rfl rfl (s_calS (pc' := 15) C_X9_inLook A_X9_inLook w_422 (by decide) (by decide +kernel) rfl (s_ist (pc' := 17) (by decide +kernel) (by decide) rfl (s_ild (pc' := 19) (by decide +kernel) rfl (s_ildn (j := 1) (pc' := 20) (by decide +kernel) rfl rfl (s_ildn (j := 3) (pc' := 21) (by decide +kernel) rfl rfl (s_calS (pc' := 24) C_X9_inLook A_X9_inLook w_422 (by decide) (by decide +kernel) rfl (s_seq (s_iceq (off := 12) (pt := 36) (pc' := 27) (by decide +kernel) (by decide) rfl (s_kil s_jmp) (s_ildn (j := 2) (pc' := 28) (by decide +kernel) rfl rfl (s_ildn (j := 3) (pc' := 29) (by decide +kernel) rfl rfl (s_ild (pc' := 31) (by decide +kernel) rfl (s_calS (pc' := 34) C_X9_bits A_X9_bits w_427 (by decide) (by decide +kernel) rfl (s_add (pc' := 35) (by decide +kernel) rfl (s_istn (j := 2) (pc' := 36) (by decide +kernel) rfl (by decide) rfl (s_kil s_jmp)))))))) (S_K_X9_bitsApart_36 g0))))))))))))
def K_X9_bitsApart_42 : vD := op_ild 2 (op_ret)
set_option maxRecDepth 100000 in
theorem S_K_X9_bitsApart_42 (g0 : vG) : Snd yX9_bitsApart cX9_bitsApart 5 (some .int) 1 0 0 g0 42 K_X9_bitsApart_42 := s_ildn (j := 2) (pc' := 43) (by decide +kernel) rfl rfl (s_iret (by decide +kernel) rfl rfl rfl)
def D_X9_bitsApart : vD := op_con 0 (op_ist 2 (op_con 0 (op_ist 3 (op_seq 42 (op_kil [true, true, true, true, false] (op_loop 4 B_X9_bitsApart_4 4000)) K_X9_bitsApart_42))))
set_option maxRecDepth 100000 in
theorem S_D_X9_bitsApart (g0 : vG) : Snd yX9_bitsApart cX9_bitsApart 5 (some .int) 1 0 0 g0 0 D_X9_bitsApart := s_con (n := 0) (pc' := 1) (by decide +kernel) (by decide +kernel) rfl (s_istn (j := 2) (pc' := 2) (by decide +kernel) rfl (by decide) rfl (s_con (n := 0) (pc' := 3) (by decide +kernel) (by decide +kernel) rfl (s_istn (j := 3) (pc' := 4) (by decide +kernel) rfl (by decide) rfl (s_seq (s_kil (s_loop (S_B_X9_bitsApart_4 g0) 4000)) (S_K_X9_bitsApart_42 g0)))))
def F_X9_bitsApart : vF := runD D_X9_bitsApart 5
theorem C_X9_bitsApart : Ctr yX9_bitsApart cX9_bitsApart 5 (some .int) 1 0 0 F_X9_bitsApart := ctr_of (d := fun _ => D_X9_bitsApart) (by decide +kernel) S_D_X9_bitsApart
theorem A_X9_bitsApart : CaS yX9_bitsApart cX9_bitsApart 5 (some .int) 2 := ⟨w_420, w_78, w_421, by unfold Nm; decide +kernel⟩
end
section
/-! ===== fragments and contracts, by program (wip/whole/gen.py) ===== -/
def K_X6_pin_25 : vD := op_con 1 (op_kil [true, true, true, true, true, true, false] (op_jmp 30))
set_option maxRecDepth 100000 in
theorem S_K_X6_pin_25 (g0 : vG) : Snd yX6_pin cX6_pin 7 none 0 0 0 g0 25 K_X6_pin_25 := s_con (n := 1) (pc' := 26) (by decide +kernel) (by decide +kernel) rfl (s_goto (off := 4) (pt := 30) (by decide +kernel) (by decide) (s_kil s_jmp))
def K_X6_pin_52 : vD := op_ias (op_inc 5 1 (op_kil [true, true, true, true, true, true, false] (op_jmp 3)))
set_option maxRecDepth 100000 in
theorem S_K_X6_pin_52 (g0 : vG) : Snd yX6_pin cX6_pin 7 none 0 0 0 g0 52 K_X6_pin_52 := s_ias (pc' := 53) (by decide +kernel) rfl (s_inc (n := 1) (pc' := 56) (by decide +kernel) (by decide +kernel) (by decide) rfl (s_goto (off := (-53)) (pt := 3) (by decide +kernel) (by decide) (s_kil s_jmp)))
def K_X6_pin_30 : vD := op_ist 6 (op_ald 0 (op_gfr 6 0 (op_ild 1 (op_aal 3 (op_ild 5 (op_ild 6 (op_seq 52 (op_ifeq (op_con 1000000 (op_kil [true, true, true, true, true, true, false] (op_jmp 52))) (op_ild 4 (op_kil [true, true, true, true, true, true, false] (op_jmp 52)))) K_X6_pin_52)))))))
set_option maxRecDepth 100000 in
theorem S_K_X6_pin_30 (g0 : vG) : Snd yX6_pin cX6_pin 7 none 0 0 0 g0 30 K_X6_pin_30 := s_ist (pc' := 32) (by decide +kernel) (by decide) rfl (s_aldn (j := 0) (pc' := 33) (by decide +kernel) rfl rfl (s_gfr (ci := 6) (j := 0) (pc' := 36) rfl g_ok6 (by decide) (by decide) (by decide) rfl w_221 (by decide +kernel) rfl (s_ildn (j := 1) (pc' := 37) (by decide +kernel) rfl rfl (s_aal (t := 3) (pc' := 38) (by decide) (fun _ => rfl) rfl (by decide +kernel) rfl (s_ild (pc' := 40) (by decide +kernel) rfl (s_ild (pc' := 42) (by decide +kernel) rfl (s_seq (s_ifeq (off := 8) (pt := 50) (pc' := 45) (by decide +kernel) (by decide) rfl (s_ldc (pc' := 52) (by decide +kernel) w_569 rfl (s_kil s_jmp)) (s_ild (pc' := 47) (by decide +kernel) rfl (s_goto (off := 5) (pt := 52) (by decide +kernel) (by decide) (s_kil s_jmp)))) (S_K_X6_pin_52 g0))))))))
def B_X6_pin_3 : vD := op_ild 5 (op_con 1 (op_ild 2 (op_bin f_shl (op_icge (op_kil [false, false, false, false, false, false, false] (op_jmp 59)) (op_ild 3 (op_con (-1) (op_seq 30 (op_seq 25 (op_iceq (op_kil [true, true, true, true, true, true, false] (op_jmp 25)) (op_ild 5 (op_ild 3 (op_bin f_shr (op_con 1 (op_bin f_and (op_ifeq (op_con 0 (op_kil [true, true, true, true, true, true, false] (op_jmp 30))) (op_kil [true, true, true, true, true, true, false] (op_jmp 25))))))))) K_X6_pin_25) K_X6_pin_30)))))))
set_option maxRecDepth 100000 in
theorem S_B_X6_pin_3 (g0 : vG) : Snd yX6_pin cX6_pin 7 none 0 0 0 g0 3 B_X6_pin_3 := s_ild (pc' := 5) (by decide +kernel) rfl (s_con (n := 1) (pc' := 6) (by decide +kernel) (by decide +kernel) rfl (s_ildn (j := 2) (pc' := 7) (by decide +kernel) rfl rfl (s_shl (pc' := 8) (by decide +kernel) rfl (s_icge (off := 51) (pt := 59) (pc' := 11) (by decide +kernel) (by decide) rfl (s_kil s_jmp) (s_ildn (j := 3) (pc' := 12) (by decide +kernel) rfl rfl (s_con (n := (-1)) (pc' := 13) (by decide +kernel) (by decide +kernel) rfl (s_seq (s_seq (s_iceq (off := 12) (pt := 25) (pc' := 16) (by decide +kernel) (by decide) rfl (s_kil s_jmp) (s_ild (pc' := 18) (by decide +kernel) rfl (s_ildn (j := 3) (pc' := 19) (by decide +kernel) rfl rfl (s_shr (pc' := 20) (by decide +kernel) rfl (s_con (n := 1) (pc' := 21) (by decide +kernel) (by decide +kernel) rfl (s_and (pc' := 22) (by decide +kernel) rfl (s_ifeq (off := 7) (pt := 29) (pc' := 25) (by decide +kernel) (by decide) rfl (s_con (n := 0) (pc' := 30) (by decide +kernel) (by decide +kernel) rfl (s_kil s_jmp)) (s_kil s_jmp)))))))) (S_K_X6_pin_25 g0)) (S_K_X6_pin_30 g0))))))))
def K_X6_pin_59 : vD := op_vret
set_option maxRecDepth 100000 in
theorem S_K_X6_pin_59 (g0 : vG) : Snd yX6_pin cX6_pin 7 none 0 0 0 g0 59 K_X6_pin_59 := s_vret (by decide +kernel) rfl rfl rfl
def D_X6_pin : vD := op_con 0 (op_ist 5 (op_seq 59 (op_kil [true, true, true, true, true, true, false] (op_loop 3 B_X6_pin_3 4000)) K_X6_pin_59))
set_option maxRecDepth 100000 in
theorem S_D_X6_pin (g0 : vG) : Snd yX6_pin cX6_pin 7 none 0 0 0 g0 0 D_X6_pin := s_con (n := 0) (pc' := 1) (by decide +kernel) (by decide +kernel) rfl (s_ist (pc' := 3) (by decide +kernel) (by decide) rfl (s_seq (s_kil (s_loop (S_B_X6_pin_3 g0) 4000)) (S_K_X6_pin_59 g0)))
def F_X6_pin : vF := runD D_X6_pin 7
theorem C_X6_pin : Ctr yX6_pin cX6_pin 7 none 0 0 0 F_X6_pin := ctr_of (d := fun _ => D_X6_pin) (by decide +kernel) S_D_X6_pin
theorem A_X6_pin : CaV yX6_pin cX6_pin 7 none 4 := ⟨w_566, w_567, w_74, w_568, by unfold Nm; decide +kernel⟩
def D_X7_changeBase : vD := op_ald 0 (op_gfr 7 2 (op_ild 1 (op_ial (op_ist 3 (op_ald 0 (op_gfr 7 2 (op_ild 1 (op_ild 2 (op_ias (op_ild 3 (op_ret)))))))))))
set_option maxRecDepth 100000 in
theorem S_D_X7_changeBase (g0 : vG) : Snd yX7_changeBase cX7_changeBase 4 (some .int) 0 0 0 g0 0 D_X7_changeBase := s_aldn (j := 0) (pc' := 1) (by decide +kernel) rfl rfl (s_gfr (ci := 7) (j := 2) (pc' := 4) rfl g_ok7 (by decide) (by decide) (by decide) rfl w_109 (by decide +kernel) rfl (s_ildn (j := 1) (pc' := 5) (by decide +kernel) rfl rfl (s_ial (pc' := 6) (by decide +kernel) rfl (s_istn (j := 3) (pc' := 7) (by decide +kernel) rfl (by decide) rfl (s_aldn (j := 0) (pc' := 8) (by decide +kernel) rfl rfl (s_gfr (ci := 7) (j := 2) (pc' := 11) rfl g_ok7 (by decide) (by decide) (by decide) rfl w_109 (by decide +kernel) rfl (s_ildn (j := 1) (pc' := 12) (by decide +kernel) rfl rfl (s_ildn (j := 2) (pc' := 13) (by decide +kernel) rfl rfl (s_ias (pc' := 14) (by decide +kernel) rfl (s_ildn (j := 3) (pc' := 15) (by decide +kernel) rfl rfl (s_iret (by decide +kernel) rfl rfl rfl)))))))))))
def F_X7_changeBase : vF := runD D_X7_changeBase 4
theorem C_X7_changeBase : Ctr yX7_changeBase cX7_changeBase 4 (some .int) 0 0 0 F_X7_changeBase := ctr_of (d := fun _ => D_X7_changeBase) (by decide +kernel) S_D_X7_changeBase
theorem A_X7_changeBase : CaV yX7_changeBase cX7_changeBase 4 (some .int) 2 := ⟨w_657, w_658, w_68, w_659, by unfold Nm; decide +kernel⟩
def D_X7_changeOwn : vD := op_ald 0 (op_gfr 7 3 (op_ild 1 (op_con 6 (op_bin f_mul (op_ild 2 (op_bin f_add (op_ial (op_ist 4 (op_ald 0 (op_gfr 7 3 (op_ild 1 (op_con 6 (op_bin f_mul (op_ild 2 (op_bin f_add (op_ild 3 (op_ias (op_ild 4 (op_ret)))))))))))))))))))
set_option maxRecDepth 100000 in
theorem S_D_X7_changeOwn (g0 : vG) : Snd yX7_changeOwn cX7_changeOwn 5 (some .int) 0 0 0 g0 0 D_X7_changeOwn := s_aldn (j := 0) (pc' := 1) (by decide +kernel) rfl rfl (s_gfr (ci := 7) (j := 3) (pc' := 4) rfl g_ok7 (by decide) (by decide) (by decide) rfl w_112 (by decide +kernel) rfl (s_ildn (j := 1) (pc' := 5) (by decide +kernel) rfl rfl (s_bip (n := 6) (pc' := 7) (by decide +kernel) (by decide +kernel) rfl (s_mul (pc' := 8) (by decide +kernel) rfl (s_ildn (j := 2) (pc' := 9) (by decide +kernel) rfl rfl (s_add (pc' := 10) (by decide +kernel) rfl (s_ial (pc' := 11) (by decide +kernel) rfl (s_ist (pc' := 13) (by decide +kernel) (by decide) rfl (s_aldn (j := 0) (pc' := 14) (by decide +kernel) rfl rfl (s_gfr (ci := 7) (j := 3) (pc' := 17) rfl g_ok7 (by decide) (by decide) (by decide) rfl w_112 (by decide +kernel) rfl (s_ildn (j := 1) (pc' := 18) (by decide +kernel) rfl rfl (s_bip (n := 6) (pc' := 20) (by decide +kernel) (by decide +kernel) rfl (s_mul (pc' := 21) (by decide +kernel) rfl (s_ildn (j := 2) (pc' := 22) (by decide +kernel) rfl rfl (s_add (pc' := 23) (by decide +kernel) rfl (s_ildn (j := 3) (pc' := 24) (by decide +kernel) rfl rfl (s_ias (pc' := 25) (by decide +kernel) rfl (s_ild (pc' := 27) (by decide +kernel) rfl (s_iret (by decide +kernel) rfl rfl rfl)))))))))))))))))))
def F_X7_changeOwn : vF := runD D_X7_changeOwn 5
theorem C_X7_changeOwn : Ctr yX7_changeOwn cX7_changeOwn 5 (some .int) 0 0 0 F_X7_changeOwn := ctr_of (d := fun _ => D_X7_changeOwn) (by decide +kernel) S_D_X7_changeOwn
theorem A_X7_changeOwn : CaV yX7_changeOwn cX7_changeOwn 5 (some .int) 3 := ⟨w_356, w_357, w_68, w_358, by unfold Nm; decide +kernel⟩
def K_X7_hasRoom_16 : vD := op_zret
set_option maxRecDepth 100000 in
theorem S_K_X7_hasRoom_16 (g0 : vG) : Snd yX7_hasRoom cX7_hasRoom 1 (some .boolean) 0 0 0 g0 16 K_X7_hasRoom_16 := s_zret (by decide +kernel) rfl nar_bool rfl rfl
def D_X7_hasRoom : vD := op_ald 0 (op_gfi 7 1 (op_ald 0 (op_gfi 7 0 (op_seq 16 (op_icge (op_con 0 (op_kil [false] (op_jmp 16))) (op_con 1 (op_kil [false] (op_jmp 16)))) K_X7_hasRoom_16))))
set_option maxRecDepth 100000 in
theorem S_D_X7_hasRoom (g0 : vG) : Snd yX7_hasRoom cX7_hasRoom 1 (some .boolean) 0 0 0 g0 0 D_X7_hasRoom := s_aldn (j := 0) (pc' := 1) (by decide +kernel) rfl rfl (s_gfi (ci := 7) (j := 1) (pc' := 4) rfl g_ok7 (by decide) (by decide) (by decide) rfl w_105 (by decide +kernel) rfl (s_aldn (j := 0) (pc' := 5) (by decide +kernel) rfl rfl (s_gfi (ci := 7) (j := 0) (pc' := 8) rfl g_ok7 (by decide) (by decide) (by decide) rfl w_104 (by decide +kernel) rfl (s_seq (s_icge (off := 7) (pt := 15) (pc' := 11) (by decide +kernel) (by decide) rfl (s_con (n := 0) (pc' := 16) (by decide +kernel) (by decide +kernel) rfl (s_kil s_jmp)) (s_con (n := 1) (pc' := 12) (by decide +kernel) (by decide +kernel) rfl (s_goto (off := 4) (pt := 16) (by decide +kernel) (by decide) (s_kil s_jmp)))) (S_K_X7_hasRoom_16 g0)))))
def F_X7_hasRoom : vF := runD D_X7_hasRoom 1
theorem C_X7_hasRoom : Ctr yX7_hasRoom cX7_hasRoom 1 (some .boolean) 0 0 0 F_X7_hasRoom := ctr_of (d := fun _ => D_X7_hasRoom) (by decide +kernel) S_D_X7_hasRoom
theorem A_X7_hasRoom : CaV yX7_hasRoom cX7_hasRoom 1 (some .boolean) 0 := ⟨w_598, w_599, w_68, w_600, by unfold Nm; decide +kernel⟩
def K_X7_holds_16 : vD := op_con 0 (op_kil [false, false] (op_jmp 17))
set_option maxRecDepth 100000 in
theorem S_K_X7_holds_16 (g0 : vG) : Snd yX7_holds cX7_holds 2 (some .boolean) 0 0 0 g0 16 K_X7_holds_16 := s_con (n := 0) (pc' := 17) (by decide +kernel) (by decide +kernel) rfl (s_kil s_jmp)
def K_X7_holds_17 : vD := op_zret
set_option maxRecDepth 100000 in
theorem S_K_X7_holds_17 (g0 : vG) : Snd yX7_holds cX7_holds 2 (some .boolean) 0 0 0 g0 17 K_X7_holds_17 := s_zret (by decide +kernel) rfl nar_bool rfl rfl
def D_X7_holds : vD := op_ild 1 (op_seq 17 (op_seq 16 (op_iflt (op_kil [false, false] (op_jmp 16)) (op_ild 1 (op_ald 0 (op_gfi 7 1 (op_icge (op_kil [false, false] (op_jmp 16)) (op_con 1 (op_kil [false, false] (op_jmp 17)))))))) K_X7_holds_16) K_X7_holds_17)
set_option maxRecDepth 100000 in
theorem S_D_X7_holds (g0 : vG) : Snd yX7_holds cX7_holds 2 (some .boolean) 0 0 0 g0 0 D_X7_holds := s_ildn (j := 1) (pc' := 1) (by decide +kernel) rfl rfl (s_seq (s_seq (s_iflt (off := 15) (pt := 16) (pc' := 4) (by decide +kernel) (by decide) rfl (s_kil s_jmp) (s_ildn (j := 1) (pc' := 5) (by decide +kernel) rfl rfl (s_aldn (j := 0) (pc' := 6) (by decide +kernel) rfl rfl (s_gfi (ci := 7) (j := 1) (pc' := 9) rfl g_ok7 (by decide) (by decide) (by decide) rfl w_105 (by decide +kernel) rfl (s_icge (off := 7) (pt := 16) (pc' := 12) (by decide +kernel) (by decide) rfl (s_kil s_jmp) (s_con (n := 1) (pc' := 13) (by decide +kernel) (by decide +kernel) rfl (s_goto (off := 4) (pt := 17) (by decide +kernel) (by decide) (s_kil s_jmp)))))))) (S_K_X7_holds_16 g0)) (S_K_X7_holds_17 g0))
def F_X7_holds : vF := runD D_X7_holds 2
theorem C_X7_holds : Ctr yX7_holds cX7_holds 2 (some .boolean) 0 0 0 F_X7_holds := ctr_of (d := fun _ => D_X7_holds) (by decide +kernel) S_D_X7_holds
theorem A_X7_holds : CaV yX7_holds cX7_holds 2 (some .boolean) 1 := ⟨w_486, w_487, w_68, w_488, by unfold Nm; decide +kernel⟩
def D_X7_ownValue : vD := op_ald 0 (op_gfr 7 3 (op_ild 1 (op_con 6 (op_bin f_mul (op_ild 2 (op_bin f_add (op_ial (op_ret))))))))
set_option maxRecDepth 100000 in
theorem S_D_X7_ownValue (g0 : vG) : Snd yX7_ownValue cX7_ownValue 3 (some .int) 0 0 0 g0 0 D_X7_ownValue := s_aldn (j := 0) (pc' := 1) (by decide +kernel) rfl rfl (s_gfr (ci := 7) (j := 3) (pc' := 4) rfl g_ok7 (by decide) (by decide) (by decide) rfl w_112 (by decide +kernel) rfl (s_ildn (j := 1) (pc' := 5) (by decide +kernel) rfl rfl (s_bip (n := 6) (pc' := 7) (by decide +kernel) (by decide +kernel) rfl (s_mul (pc' := 8) (by decide +kernel) rfl (s_ildn (j := 2) (pc' := 9) (by decide +kernel) rfl rfl (s_add (pc' := 10) (by decide +kernel) rfl (s_ial (pc' := 11) (by decide +kernel) rfl (s_iret (by decide +kernel) rfl rfl rfl))))))))
def F_X7_ownValue : vF := runD D_X7_ownValue 3
theorem C_X7_ownValue : Ctr yX7_ownValue cX7_ownValue 3 (some .int) 0 0 0 F_X7_ownValue := ctr_of (d := fun _ => D_X7_ownValue) (by decide +kernel) S_D_X7_ownValue
theorem A_X7_ownValue : CaV yX7_ownValue cX7_ownValue 3 (some .int) 2 := ⟨w_332, w_333, w_68, w_334, by unfold Nm; decide +kernel⟩
def K_X7_renumberBases_30 : vD := op_inc 2 1 (op_jmp 2)
set_option maxRecDepth 100000 in
theorem S_K_X7_renumberBases_30 (g0 : vG) : Snd yX7_renumberBases cX7_renumberBases 3 none 0 0 0 g0 30 K_X7_renumberBases_30 := s_inc (n := 1) (pc' := 33) (by decide +kernel) (by decide +kernel) (by decide) rfl (s_goto (off := (-31)) (pt := 2) (by decide +kernel) (by decide) (s_jmp))
def B_X7_renumberBases_2 : vD := op_ild 2 (op_ald 0 (op_gfi 7 1 (op_icge (op_kil [false, false, false] (op_jmp 36)) (op_ald 0 (op_gfr 7 2 (op_ild 2 (op_ial (op_ild 1 (op_seq 30 (op_icle (op_jmp 30) (op_ald 0 (op_gfr 7 2 (op_ild 2 (op_dup2 (op_ial (op_con 1 (op_bin f_sub (op_ias (op_jmp 30)))))))))) K_X7_renumberBases_30)))))))))
set_option maxRecDepth 100000 in
theorem S_B_X7_renumberBases_2 (g0 : vG) : Snd yX7_renumberBases cX7_renumberBases 3 none 0 0 0 g0 2 B_X7_renumberBases_2 := s_ildn (j := 2) (pc' := 3) (by decide +kernel) rfl rfl (s_aldn (j := 0) (pc' := 4) (by decide +kernel) rfl rfl (s_gfi (ci := 7) (j := 1) (pc' := 7) rfl g_ok7 (by decide) (by decide) (by decide) rfl w_105 (by decide +kernel) rfl (s_icge (off := 29) (pt := 36) (pc' := 10) (by decide +kernel) (by decide) rfl (s_kil s_jmp) (s_aldn (j := 0) (pc' := 11) (by decide +kernel) rfl rfl (s_gfr (ci := 7) (j := 2) (pc' := 14) rfl g_ok7 (by decide) (by decide) (by decide) rfl w_109 (by decide +kernel) rfl (s_ildn (j := 2) (pc' := 15) (by decide +kernel) rfl rfl (s_ial (pc' := 16) (by decide +kernel) rfl (s_ildn (j := 1) (pc' := 17) (by decide +kernel) rfl rfl (s_seq (s_icle (off := 13) (pt := 30) (pc' := 20) (by decide +kernel) (by decide) rfl (s_jmp) (s_aldn (j := 0) (pc' := 21) (by decide +kernel) rfl rfl (s_gfr (ci := 7) (j := 2) (pc' := 24) rfl g_ok7 (by decide) (by decide) (by decide) rfl w_109 (by decide +kernel) rfl (s_ildn (j := 2) (pc' := 25) (by decide +kernel) rfl rfl (s_dup2 (pc' := 26) (by decide +kernel) rfl (s_ial (pc' := 27) (by decide +kernel) rfl (s_con (n := 1) (pc' := 28) (by decide +kernel) (by decide +kernel) rfl (s_sub (pc' := 29) (by decide +kernel) rfl (s_ias (pc' := 30) (by decide +kernel) rfl (s_jmp)))))))))) (S_K_X7_renumberBases_30 g0))))))))))
def K_X7_renumberBases_36 : vD := op_vret
set_option maxRecDepth 100000 in
theorem S_K_X7_renumberBases_36 (g0 : vG) : Snd yX7_renumberBases cX7_renumberBases 3 none 0 0 0 g0 36 K_X7_renumberBases_36 := s_vret (by decide +kernel) rfl rfl rfl
def D_X7_renumberBases : vD := op_con 0 (op_ist 2 (op_seq 36 (op_loop 2 B_X7_renumberBases_2 4000) K_X7_renumberBases_36))
set_option maxRecDepth 100000 in
theorem S_D_X7_renumberBases (g0 : vG) : Snd yX7_renumberBases cX7_renumberBases 3 none 0 0 0 g0 0 D_X7_renumberBases := s_con (n := 0) (pc' := 1) (by decide +kernel) (by decide +kernel) rfl (s_istn (j := 2) (pc' := 2) (by decide +kernel) rfl (by decide) rfl (s_seq (s_loop (S_B_X7_renumberBases_2 g0) 4000) (S_K_X7_renumberBases_36 g0)))
def F_X7_renumberBases : vF := runD D_X7_renumberBases 3
theorem C_X7_renumberBases : Ctr yX7_renumberBases cX7_renumberBases 3 none 0 0 0 F_X7_renumberBases := ctr_of (d := fun _ => D_X7_renumberBases) (by decide +kernel) S_D_X7_renumberBases
theorem A_X7_renumberBases : CaV yX7_renumberBases cX7_renumberBases 3 none 1 := ⟨w_710, w_711, w_68, w_712, by unfold Nm; decide +kernel⟩
def K_X7_withBase_28 : vD := op_inc 3 1 (op_jmp 4)
set_option maxRecDepth 100000 in
theorem S_K_X7_withBase_28 (g0 : vG) : Snd yX7_withBase cX7_withBase 4 (some .int) 0 0 0 g0 28 K_X7_withBase_28 := s_inc (n := 1) (pc' := 31) (by decide +kernel) (by decide +kernel) (by decide) rfl (s_goto (off := (-27)) (pt := 4) (by decide +kernel) (by decide) (s_jmp))
def B_X7_withBase_4 : vD := op_ild 3 (op_ald 0 (op_gfi 7 1 (op_icge (op_kil [false, false, true, false] (op_jmp 34)) (op_ald 0 (op_gfr 7 2 (op_ild 3 (op_ial (op_ild 1 (op_seq 28 (op_icne (op_jmp 28) (op_ild 2 (op_con 1 (op_ild 3 (op_bin f_shl (op_bin f_or (op_ist 2 (op_jmp 28)))))))) K_X7_withBase_28)))))))))
set_option maxRecDepth 100000 in
theorem S_B_X7_withBase_4 (g0 : vG) : Snd yX7_withBase cX7_withBase 4 (some .int) 0 0 0 g0 4 B_X7_withBase_4 := s_ildn (j := 3) (pc' := 5) (by decide +kernel) rfl rfl (s_aldn (j := 0) (pc' := 6) (by decide +kernel) rfl rfl (s_gfi (ci := 7) (j := 1) (pc' := 9) rfl g_ok7 (by decide) (by decide) (by decide) rfl w_105 (by decide +kernel) rfl (s_icge (off := 25) (pt := 34) (pc' := 12) (by decide +kernel) (by decide) rfl (s_kil s_jmp) (s_aldn (j := 0) (pc' := 13) (by decide +kernel) rfl rfl (s_gfr (ci := 7) (j := 2) (pc' := 16) rfl g_ok7 (by decide) (by decide) (by decide) rfl w_109 (by decide +kernel) rfl (s_ildn (j := 3) (pc' := 17) (by decide +kernel) rfl rfl (s_ial (pc' := 18) (by decide +kernel) rfl (s_ildn (j := 1) (pc' := 19) (by decide +kernel) rfl rfl (s_seq (s_icne (off := 9) (pt := 28) (pc' := 22) (by decide +kernel) (by decide) rfl (s_jmp) (s_ildn (j := 2) (pc' := 23) (by decide +kernel) rfl rfl (s_con (n := 1) (pc' := 24) (by decide +kernel) (by decide +kernel) rfl (s_ildn (j := 3) (pc' := 25) (by decide +kernel) rfl rfl (s_shl (pc' := 26) (by decide +kernel) rfl (s_or (pc' := 27) (by decide +kernel) rfl (s_istn (j := 2) (pc' := 28) (by decide +kernel) rfl (by decide) rfl (s_jmp)))))))) (S_K_X7_withBase_28 g0))))))))))
def K_X7_withBase_34 : vD := op_ild 2 (op_ret)
set_option maxRecDepth 100000 in
theorem S_K_X7_withBase_34 (g0 : vG) : Snd yX7_withBase cX7_withBase 4 (some .int) 0 0 0 g0 34 K_X7_withBase_34 := s_ildn (j := 2) (pc' := 35) (by decide +kernel) rfl rfl (s_iret (by decide +kernel) rfl rfl rfl)
def D_X7_withBase : vD := op_con 0 (op_ist 2 (op_con 0 (op_ist 3 (op_seq 34 (op_loop 4 B_X7_withBase_4 4000) K_X7_withBase_34))))
set_option maxRecDepth 100000 in
theorem S_D_X7_withBase (g0 : vG) : Snd yX7_withBase cX7_withBase 4 (some .int) 0 0 0 g0 0 D_X7_withBase := s_con (n := 0) (pc' := 1) (by decide +kernel) (by decide +kernel) rfl (s_istn (j := 2) (pc' := 2) (by decide +kernel) rfl (by decide) rfl (s_con (n := 0) (pc' := 3) (by decide +kernel) (by decide +kernel) rfl (s_istn (j := 3) (pc' := 4) (by decide +kernel) rfl (by decide) rfl (s_seq (s_loop (S_B_X7_withBase_4 g0) 4000) (S_K_X7_withBase_34 g0)))))
def F_X7_withBase : vF := runD D_X7_withBase 4
theorem C_X7_withBase : Ctr yX7_withBase cX7_withBase 4 (some .int) 0 0 0 F_X7_withBase := ctr_of (d := fun _ => D_X7_withBase) (by decide +kernel) S_D_X7_withBase
theorem A_X7_withBase : CaV yX7_withBase cX7_withBase 4 (some .int) 1 := ⟨w_478, w_479, w_68, w_480, by unfold Nm; decide +kernel⟩
def B_X7_append_24 : vD := op_ild 2 (op_con 6 (op_icge (op_kil [false, true, false] (op_jmp 44)) (op_ald 0 (op_ild 1 (op_ild 2 (op_con (-1) (op_calV 7 3 F_X7_changeOwn (op_pop (op_inc 2 1 (op_jmp 24))))))))))
set_option maxRecDepth 100000 in
theorem S_B_X7_append_24 (g0 : vG) : Snd yX7_append cX7_append 3 (some .int) 1 0 0 g0 24 B_X7_append_24 := s_ildn (j := 2) (pc' := 25) (by decide +kernel) rfl rfl (s_bip (n := 6) (pc' := 27) (by decide +kernel) (by decide +kernel) rfl (s_icge (off := 17) (pt := 44) (pc' := 30) (by decide +kernel) (by decide) rfl (s_kil s_jmp) (s_aldn (j := 0) (pc' := 31) (by decide +kernel) rfl rfl (s_ildn (j := 1) (pc' := 32) (by decide +kernel) rfl rfl (s_ildn (j := 2) (pc' := 33) (by decide +kernel) rfl rfl (s_con (n := (-1)) (pc' := 34) (by decide +kernel) (by decide +kernel) rfl (s_calV (ci := 7) (pc' := 37) C_X7_changeOwn A_X7_changeOwn rfl (by decide) w_621 (by decide) (by decide +kernel) rfl (s_pop (pc' := 38) (by decide +kernel) rfl (s_inc (n := 1) (pc' := 41) (by decide +kernel) (by decide +kernel) (by decide) rfl (s_goto (off := (-17)) (pt := 24) (by decide +kernel) (by decide) (s_jmp)))))))))))
def K_X7_append_44 : vD := op_ild 1 (op_ret)
set_option maxRecDepth 100000 in
theorem S_K_X7_append_44 (g0 : vG) : Snd yX7_append cX7_append 3 (some .int) 1 0 0 g0 44 K_X7_append_44 := s_ildn (j := 1) (pc' := 45) (by decide +kernel) rfl rfl (s_iret (by decide +kernel) rfl rfl rfl)
def D_X7_append : vD := op_ald 0 (op_gfi 7 1 (op_ist 1 (op_ald 0 (op_dup (op_gfi 7 1 (op_con 1 (op_bin f_add (op_pfi 7 1 (op_ald 0 (op_gfr 7 2 (op_ild 1 (op_con (-1) (op_ias (op_con 0 (op_ist 2 (op_seq 44 (op_loop 24 B_X7_append_24 4000) K_X7_append_44))))))))))))))))
set_option maxRecDepth 100000 in
theorem S_D_X7_append (g0 : vG) : Snd yX7_append cX7_append 3 (some .int) 1 0 0 g0 0 D_X7_append := s_aldn (j := 0) (pc' := 1) (by decide +kernel) rfl rfl (s_gfi (ci := 7) (j := 1) (pc' := 4) rfl g_ok7 (by decide) (by decide) (by decide) rfl w_105 (by decide +kernel) rfl (s_istn (j := 1) (pc' := 5) (by decide +kernel) rfl (by decide) rfl (s_aldn (j := 0) (pc' := 6) (by decide +kernel) rfl rfl (s_dup (pc' := 7) (by decide +kernel) rfl (s_gfi (ci := 7) (j := 1) (pc' := 10) rfl g_ok7 (by decide) (by decide) (by decide) rfl w_105 (by decide +kernel) rfl (s_con (n := 1) (pc' := 11) (by decide +kernel) (by decide +kernel) rfl (s_add (pc' := 12) (by decide +kernel) rfl (s_pfi (ci := 7) (j := 1) (pc' := 15) rfl g_ok7 tyX7 tyX7_ok nmX7 (by decide) (by decide) (by decide) rfl rfl rfl w_105 (by decide +kernel) rfl (s_aldn (j := 0) (pc' := 16) (by decide +kernel) rfl rfl (s_gfr (ci := 7) (j := 2) (pc' := 19) rfl g_ok7 (by decide) (by decide) (by decide) rfl w_109 (by decide +kernel) rfl (s_ildn (j := 1) (pc' := 20) (by decide +kernel) rfl rfl (s_con (n := (-1)) (pc' := 21) (by decide +kernel) (by decide +kernel) rfl (s_ias (pc' := 22) (by decide +kernel) rfl (s_con (n := 0) (pc' := 23) (by decide +kernel) (by decide +kernel) rfl (s_istn (j := 2) (pc' := 24) (by decide +kernel) rfl (by decide) rfl (s_seq (s_loop (S_B_X7_append_24 g0) 4000) (S_K_X7_append_44 g0)))))))))))))))))
def F_X7_append : vF := runD D_X7_append 3
theorem C_X7_append : Ctr yX7_append cX7_append 3 (some .int) 1 0 0 F_X7_append := ctr_of (d := fun _ => D_X7_append) (by decide +kernel) S_D_X7_append
theorem A_X7_append : CaV yX7_append cX7_append 3 (some .int) 0 := ⟨w_618, w_619, w_68, w_620, by unfold Nm; decide +kernel⟩
def D_X7_copyFrom : vD := op_ald 0 (op_ald 1 (op_gfi 7 1 (op_pfi 7 1 (op_ald 1 (op_gfr 7 2 (op_con 0 (op_ald 0 (op_gfr 7 2 (op_con 0 (op_con 8 (op_acp (op_ald 1 (op_gfr 7 3 (op_con 0 (op_ald 0 (op_gfr 7 3 (op_con 0 (op_con 48 (op_acp (op_vret))))))))))))))))))))
set_option maxRecDepth 100000 in
theorem S_D_X7_copyFrom (g0 : vG) : Snd yX7_copyFrom cX7_copyFrom 2 none 1 0 0 g0 0 D_X7_copyFrom := s_aldn (j := 0) (pc' := 1) (by decide +kernel) rfl rfl (s_aldn (j := 1) (pc' := 2) (by decide +kernel) rfl rfl (s_gfi (ci := 7) (j := 1) (pc' := 5) rfl g_ok7 (by decide) (by decide) (by decide) rfl w_105 (by decide +kernel) rfl (s_pfi (ci := 7) (j := 1) (pc' := 8) rfl g_ok7 tyX7 tyX7_ok nmX7 (by decide) (by decide) (by decide) rfl rfl rfl w_105 (by decide +kernel) rfl (s_aldn (j := 1) (pc' := 9) (by decide +kernel) rfl rfl (s_gfr (ci := 7) (j := 2) (pc' := 12) rfl g_ok7 (by decide) (by decide) (by decide) rfl w_109 (by decide +kernel) rfl (s_con (n := 0) (pc' := 13) (by decide +kernel) (by decide +kernel) rfl (s_aldn (j := 0) (pc' := 14) (by decide +kernel) rfl rfl (s_gfr (ci := 7) (j := 2) (pc' := 17) rfl g_ok7 (by decide) (by decide) (by decide) rfl w_109 (by decide +kernel) rfl (s_con (n := 0) (pc' := 18) (by decide +kernel) (by decide +kernel) rfl (s_bip (n := 8) (pc' := 20) (by decide +kernel) (by decide +kernel) rfl (s_acp (pc' := 23) w_615 g_acp (by decide) (by decide +kernel) rfl (s_aldn (j := 1) (pc' := 24) (by decide +kernel) rfl rfl (s_gfr (ci := 7) (j := 3) (pc' := 27) rfl g_ok7 (by decide) (by decide) (by decide) rfl w_112 (by decide +kernel) rfl (s_con (n := 0) (pc' := 28) (by decide +kernel) (by decide +kernel) rfl (s_aldn (j := 0) (pc' := 29) (by decide +kernel) rfl rfl (s_gfr (ci := 7) (j := 3) (pc' := 32) rfl g_ok7 (by decide) (by decide) (by decide) rfl w_112 (by decide +kernel) rfl (s_con (n := 0) (pc' := 33) (by decide +kernel) (by decide +kernel) rfl (s_bip (n := 48) (pc' := 35) (by decide +kernel) (by decide +kernel) rfl (s_acp (pc' := 38) w_615 g_acp (by decide) (by decide +kernel) rfl (s_vret (by decide +kernel) rfl rfl rfl))))))))))))))))))))
def F_X7_copyFrom : vF := runD D_X7_copyFrom 2
theorem C_X7_copyFrom : Ctr yX7_copyFrom cX7_copyFrom 2 none 1 0 0 F_X7_copyFrom := ctr_of (d := fun _ => D_X7_copyFrom) (by decide +kernel) S_D_X7_copyFrom
theorem A_X7_copyFrom : CaV yX7_copyFrom cX7_copyFrom 2 none 1 := ⟨w_612, w_613, w_68, w_614, by unfold Nm; decide +kernel⟩
def B_X7_exchange_19 : vD := op_ild 3 (op_con 6 (op_icge (op_kil [false, false, false, false, false] (op_jmp 54)) (op_ald 0 (op_ild 1 (op_ild 3 (op_calV 7 2 F_X7_ownValue (op_ist 4 (op_ald 0 (op_ild 1 (op_ild 3 (op_ald 0 (op_ild 2 (op_ild 3 (op_ild 4 (op_calV 7 3 F_X7_changeOwn (op_calV 7 3 F_X7_changeOwn (op_pop (op_inc 3 1 (op_kil [true, true, true, true, false] (op_jmp 19))))))))))))))))))))
set_option maxRecDepth 100000 in
theorem S_B_X7_exchange_19 (g0 : vG) : Snd yX7_exchange cX7_exchange 5 none 1 0 0 g0 19 B_X7_exchange_19 := s_ildn (j := 3) (pc' := 20) (by decide +kernel) rfl rfl (s_bip (n := 6) (pc' := 22) (by decide +kernel) (by decide +kernel) rfl (s_icge (off := 32) (pt := 54) (pc' := 25) (by decide +kernel) (by decide) rfl (s_kil s_jmp) (s_aldn (j := 0) (pc' := 26) (by decide +kernel) rfl rfl (s_ildn (j := 1) (pc' := 27) (by decide +kernel) rfl rfl (s_ildn (j := 3) (pc' := 28) (by decide +kernel) rfl rfl (s_calV (ci := 7) (pc' := 31) C_X7_ownValue A_X7_ownValue rfl (by decide) w_331 (by decide) (by decide +kernel) rfl (s_ist (pc' := 33) (by decide +kernel) (by decide) rfl (s_aldn (j := 0) (pc' := 34) (by decide +kernel) rfl rfl (s_ildn (j := 1) (pc' := 35) (by decide +kernel) rfl rfl (s_ildn (j := 3) (pc' := 36) (by decide +kernel) rfl rfl (s_aldn (j := 0) (pc' := 37) (by decide +kernel) rfl rfl (s_ildn (j := 2) (pc' := 38) (by decide +kernel) rfl rfl (s_ildn (j := 3) (pc' := 39) (by decide +kernel) rfl rfl (s_ild (pc' := 41) (by decide +kernel) rfl (s_calV (ci := 7) (pc' := 44) C_X7_changeOwn A_X7_changeOwn rfl (by decide) w_621 (by decide) (by decide +kernel) rfl (s_calV (ci := 7) (pc' := 47) C_X7_changeOwn A_X7_changeOwn rfl (by decide) w_621 (by decide) (by decide +kernel) rfl (s_pop (pc' := 48) (by decide +kernel) rfl (s_inc (n := 1) (pc' := 51) (by decide +kernel) (by decide +kernel) (by decide) rfl (s_goto (off := (-32)) (pt := 19) (by decide +kernel) (by decide) (s_kil s_jmp))))))))))))))))))))
def K_X7_exchange_54 : vD := op_vret
set_option maxRecDepth 100000 in
theorem S_K_X7_exchange_54 (g0 : vG) : Snd yX7_exchange cX7_exchange 5 none 1 0 0 g0 54 K_X7_exchange_54 := s_vret (by decide +kernel) rfl rfl rfl
def D_X7_exchange : vD := op_ald 0 (op_gfr 7 2 (op_ild 1 (op_ald 0 (op_ild 2 (op_ald 0 (op_gfr 7 2 (op_ild 1 (op_ial (op_calV 7 2 F_X7_changeBase (op_ias (op_con 0 (op_ist 3 (op_seq 54 (op_kil [true, true, true, true, false] (op_loop 19 B_X7_exchange_19 4000)) K_X7_exchange_54)))))))))))))
set_option maxRecDepth 100000 in
theorem S_D_X7_exchange (g0 : vG) : Snd yX7_exchange cX7_exchange 5 none 1 0 0 g0 0 D_X7_exchange := s_aldn (j := 0) (pc' := 1) (by decide +kernel) rfl rfl (s_gfr (ci := 7) (j := 2) (pc' := 4) rfl g_ok7 (by decide) (by decide) (by decide) rfl w_109 (by decide +kernel) rfl (s_ildn (j := 1) (pc' := 5) (by decide +kernel) rfl rfl (s_aldn (j := 0) (pc' := 6) (by decide +kernel) rfl rfl (s_ildn (j := 2) (pc' := 7) (by decide +kernel) rfl rfl (s_aldn (j := 0) (pc' := 8) (by decide +kernel) rfl rfl (s_gfr (ci := 7) (j := 2) (pc' := 11) rfl g_ok7 (by decide) (by decide) (by decide) rfl w_109 (by decide +kernel) rfl (s_ildn (j := 1) (pc' := 12) (by decide +kernel) rfl rfl (s_ial (pc' := 13) (by decide +kernel) rfl (s_calV (ci := 7) (pc' := 16) C_X7_changeBase A_X7_changeBase rfl (by decide) w_726 (by decide) (by decide +kernel) rfl (s_ias (pc' := 17) (by decide +kernel) rfl (s_con (n := 0) (pc' := 18) (by decide +kernel) (by decide +kernel) rfl (s_istn (j := 3) (pc' := 19) (by decide +kernel) rfl (by decide) rfl (s_seq (s_kil (s_loop (S_B_X7_exchange_19 g0) 4000)) (S_K_X7_exchange_54 g0))))))))))))))
def F_X7_exchange : vF := runD D_X7_exchange 5
theorem C_X7_exchange : Ctr yX7_exchange cX7_exchange 5 none 1 0 0 F_X7_exchange := ctr_of (d := fun _ => D_X7_exchange) (by decide +kernel) S_D_X7_exchange
theorem A_X7_exchange : CaV yX7_exchange cX7_exchange 5 none 2 := ⟨w_723, w_724, w_68, w_725, by unfold Nm; decide +kernel⟩
def K_X7_ownBits_33 : vD := op_inc 3 1 (op_kil [true, true, true, true, false] (op_jmp 4))
set_option maxRecDepth 100000 in
theorem S_K_X7_ownBits_33 (g0 : vG) : Snd yX7_ownBits cX7_ownBits 5 (some .int) 1 0 0 g0 33 K_X7_ownBits_33 := s_inc (n := 1) (pc' := 36) (by decide +kernel) (by decide +kernel) (by decide) rfl (s_goto (off := (-32)) (pt := 4) (by decide +kernel) (by decide) (s_kil s_jmp))
def B_X7_ownBits_4 : vD := op_ild 3 (op_con 6 (op_icge (op_kil [false, false, true, false, false] (op_jmp 39)) (op_ald 0 (op_ild 1 (op_ild 3 (op_calV 7 2 F_X7_ownValue (op_ist 4 (op_ild 4 (op_con (-1) (op_seq 33 (op_iceq (op_kil [true, true, true, true, false] (op_jmp 33)) (op_ild 2 (op_ild 3 (op_ild 4 (op_cal 2 F_X9_bits (op_bin f_add (op_ist 2 (op_kil [true, true, true, true, false] (op_jmp 33))))))))) K_X7_ownBits_33))))))))))
set_option maxRecDepth 100000 in
theorem S_B_X7_ownBits_4 (g0 : vG) : Snd yX7_ownBits cX7_ownBits 5 (some .int) 1 0 0 g0 4 B_X7_ownBits_4 := s_ildn (j := 3) (pc' := 5) (by decide +kernel) rfl rfl (s_bip (n := 6) (pc' := 7) (by decide +kernel) (by decide +kernel) rfl (s_icge (off := 32) (pt := 39) (pc' := 10) (by decide +kernel) (by decide) rfl (s_kil s_jmp) (s_aldn (j := 0) (pc' := 11) (by decide +kernel) rfl rfl (s_ildn (j := 1) (pc' := 12) (by decide +kernel) rfl rfl (s_ildn (j := 3) (pc' := 13) (by decide +kernel) rfl rfl (s_calV (ci := 7) (pc' := 16) C_X7_ownValue A_X7_ownValue rfl (by decide) w_331 (by decide) (by decide +kernel) rfl (s_ist (pc' := 18) (by decide +kernel) (by decide) rfl (s_ild (pc' := 20) (by decide +kernel) rfl (s_con (n := (-1)) (pc' := 21) (by decide +kernel) (by decide +kernel) rfl (s_seq (s_iceq (off := 12) (pt := 33) (pc' := 24) (by decide +kernel) (by decide) rfl (s_kil s_jmp) (s_ildn (j := 2) (pc' := 25) (by decide +kernel) rfl rfl (s_ildn (j := 3) (pc' := 26) (by decide +kernel) rfl rfl (s_ild (pc' := 28) (by decide +kernel) rfl (s_calS (pc' := 31) C_X9_bits A_X9_bits w_335 (by decide) (by decide +kernel) rfl (s_add (pc' := 32) (by decide +kernel) rfl (s_istn (j := 2) (pc' := 33) (by decide +kernel) rfl (by decide) rfl (s_kil s_jmp)))))))) (S_K_X7_ownBits_33 g0)))))))))))
def K_X7_ownBits_39 : vD := op_ild 2 (op_ret)
set_option maxRecDepth 100000 in
theorem S_K_X7_ownBits_39 (g0 : vG) : Snd yX7_ownBits cX7_ownBits 5 (some .int) 1 0 0 g0 39 K_X7_ownBits_39 := s_ildn (j := 2) (pc' := 40) (by decide +kernel) rfl rfl (s_iret (by decide +kernel) rfl rfl rfl)
def D_X7_ownBits : vD := op_con 0 (op_ist 2 (op_con 0 (op_ist 3 (op_seq 39 (op_kil [true, true, true, true, false] (op_loop 4 B_X7_ownBits_4 4000)) K_X7_ownBits_39))))
set_option maxRecDepth 100000 in
theorem S_D_X7_ownBits (g0 : vG) : Snd yX7_ownBits cX7_ownBits 5 (some .int) 1 0 0 g0 0 D_X7_ownBits := s_con (n := 0) (pc' := 1) (by decide +kernel) (by decide +kernel) rfl (s_istn (j := 2) (pc' := 2) (by decide +kernel) rfl (by decide) rfl (s_con (n := 0) (pc' := 3) (by decide +kernel) (by decide +kernel) rfl (s_istn (j := 3) (pc' := 4) (by decide +kernel) rfl (by decide) rfl (s_seq (s_kil (s_loop (S_B_X7_ownBits_4 g0) 4000)) (S_K_X7_ownBits_39 g0)))))
def F_X7_ownBits : vF := runD D_X7_ownBits 5
theorem C_X7_ownBits : Ctr yX7_ownBits cX7_ownBits 5 (some .int) 1 0 0 F_X7_ownBits := ctr_of (d := fun _ => D_X7_ownBits) (by decide +kernel) S_D_X7_ownBits
theorem A_X7_ownBits : CaV yX7_ownBits cX7_ownBits 5 (some .int) 1 := ⟨w_328, w_329, w_68, w_330, by unfold Nm; decide +kernel⟩
def K_X7_ownSet_26 : vD := op_inc 3 1 (op_jmp 4)
set_option maxRecDepth 100000 in
theorem S_K_X7_ownSet_26 (g0 : vG) : Snd yX7_ownSet cX7_ownSet 4 (some .int) 1 0 0 g0 26 K_X7_ownSet_26 := s_inc (n := 1) (pc' := 29) (by decide +kernel) (by decide +kernel) (by decide) rfl (s_goto (off := (-25)) (pt := 4) (by decide +kernel) (by decide) (s_jmp))
def B_X7_ownSet_4 : vD := op_ild 3 (op_con 6 (op_icge (op_kil [false, false, true, false] (op_jmp 32)) (op_ald 0 (op_ild 1 (op_ild 3 (op_calV 7 2 F_X7_ownValue (op_con (-1) (op_seq 26 (op_iceq (op_jmp 26) (op_ild 2 (op_con 1 (op_ild 3 (op_bin f_shl (op_bin f_or (op_ist 2 (op_jmp 26)))))))) K_X7_ownSet_26))))))))
set_option maxRecDepth 100000 in
theorem S_B_X7_ownSet_4 (g0 : vG) : Snd yX7_ownSet cX7_ownSet 4 (some .int) 1 0 0 g0 4 B_X7_ownSet_4 := s_ildn (j := 3) (pc' := 5) (by decide +kernel) rfl rfl (s_bip (n := 6) (pc' := 7) (by decide +kernel) (by decide +kernel) rfl (s_icge (off := 25) (pt := 32) (pc' := 10) (by decide +kernel) (by decide) rfl (s_kil s_jmp) (s_aldn (j := 0) (pc' := 11) (by decide +kernel) rfl rfl (s_ildn (j := 1) (pc' := 12) (by decide +kernel) rfl rfl (s_ildn (j := 3) (pc' := 13) (by decide +kernel) rfl rfl (s_calV (ci := 7) (pc' := 16) C_X7_ownValue A_X7_ownValue rfl (by decide) w_331 (by decide) (by decide +kernel) rfl (s_con (n := (-1)) (pc' := 17) (by decide +kernel) (by decide +kernel) rfl (s_seq (s_iceq (off := 9) (pt := 26) (pc' := 20) (by decide +kernel) (by decide) rfl (s_jmp) (s_ildn (j := 2) (pc' := 21) (by decide +kernel) rfl rfl (s_con (n := 1) (pc' := 22) (by decide +kernel) (by decide +kernel) rfl (s_ildn (j := 3) (pc' := 23) (by decide +kernel) rfl rfl (s_shl (pc' := 24) (by decide +kernel) rfl (s_or (pc' := 25) (by decide +kernel) rfl (s_istn (j := 2) (pc' := 26) (by decide +kernel) rfl (by decide) rfl (s_jmp)))))))) (S_K_X7_ownSet_26 g0)))))))))
def K_X7_ownSet_32 : vD := op_ild 2 (op_ret)
set_option maxRecDepth 100000 in
theorem S_K_X7_ownSet_32 (g0 : vG) : Snd yX7_ownSet cX7_ownSet 4 (some .int) 1 0 0 g0 32 K_X7_ownSet_32 := s_ildn (j := 2) (pc' := 33) (by decide +kernel) rfl rfl (s_iret (by decide +kernel) rfl rfl rfl)
def D_X7_ownSet : vD := op_con 0 (op_ist 2 (op_con 0 (op_ist 3 (op_seq 32 (op_loop 4 B_X7_ownSet_4 4000) K_X7_ownSet_32))))
set_option maxRecDepth 100000 in
theorem S_D_X7_ownSet (g0 : vG) : Snd yX7_ownSet cX7_ownSet 4 (some .int) 1 0 0 g0 0 D_X7_ownSet := s_con (n := 0) (pc' := 1) (by decide +kernel) (by decide +kernel) rfl (s_istn (j := 2) (pc' := 2) (by decide +kernel) rfl (by decide) rfl (s_con (n := 0) (pc' := 3) (by decide +kernel) (by decide +kernel) rfl (s_istn (j := 3) (pc' := 4) (by decide +kernel) rfl (by decide) rfl (s_seq (s_loop (S_B_X7_ownSet_4 g0) 4000) (S_K_X7_ownSet_32 g0)))))
def F_X7_ownSet : vF := runD D_X7_ownSet 4
theorem C_X7_ownSet : Ctr yX7_ownSet cX7_ownSet 4 (some .int) 1 0 0 F_X7_ownSet := ctr_of (d := fun _ => D_X7_ownSet) (by decide +kernel) S_D_X7_ownSet
theorem A_X7_ownSet : CaV yX7_ownSet cX7_ownSet 4 (some .int) 1 := ⟨w_533, w_534, w_68, w_535, by unfold Nm; decide +kernel⟩
def D_X7_remove : vD := op_ald 0 (op_gfi 7 1 (op_ild 1 (op_bin f_sub (op_con 1 (op_bin f_sub (op_ist 2 (op_ald 0 (op_gfr 7 2 (op_ild 1 (op_con 1 (op_bin f_add (op_ald 0 (op_gfr 7 2 (op_ild 1 (op_ild 2 (op_acp (op_ald 0 (op_gfr 7 3 (op_ild 1 (op_con 1 (op_bin f_add (op_con 6 (op_bin f_mul (op_ald 0 (op_gfr 7 3 (op_ild 1 (op_con 6 (op_bin f_mul (op_ild 2 (op_con 6 (op_bin f_mul (op_acp (op_ald 0 (op_dup (op_gfi 7 1 (op_con 1 (op_bin f_sub (op_pfi 7 1 (op_vret)))))))))))))))))))))))))))))))))))))))
set_option maxRecDepth 100000 in
theorem S_D_X7_remove (g0 : vG) : Snd yX7_remove cX7_remove 3 none 1 0 0 g0 0 D_X7_remove := s_aldn (j := 0) (pc' := 1) (by decide +kernel) rfl rfl (s_gfi (ci := 7) (j := 1) (pc' := 4) rfl g_ok7 (by decide) (by decide) (by decide) rfl w_105 (by decide +kernel) rfl (s_ildn (j := 1) (pc' := 5) (by decide +kernel) rfl rfl (s_sub (pc' := 6) (by decide +kernel) rfl (s_con (n := 1) (pc' := 7) (by decide +kernel) (by decide +kernel) rfl (s_sub (pc' := 8) (by decide +kernel) rfl (s_istn (j := 2) (pc' := 9) (by decide +kernel) rfl (by decide) rfl (s_aldn (j := 0) (pc' := 10) (by decide +kernel) rfl rfl (s_gfr (ci := 7) (j := 2) (pc' := 13) rfl g_ok7 (by decide) (by decide) (by decide) rfl w_109 (by decide +kernel) rfl (s_ildn (j := 1) (pc' := 14) (by decide +kernel) rfl rfl (s_con (n := 1) (pc' := 15) (by decide +kernel) (by decide +kernel) rfl (s_add (pc' := 16) (by decide +kernel) rfl (s_aldn (j := 0) (pc' := 17) (by decide +kernel) rfl rfl (s_gfr (ci := 7) (j := 2) (pc' := 20) rfl g_ok7 (by decide) (by decide) (by decide) rfl w_109 (by decide +kernel) rfl (s_ildn (j := 1) (pc' := 21) (by decide +kernel) rfl rfl (s_ildn (j := 2) (pc' := 22) (by decide +kernel) rfl rfl (s_acp (pc' := 25) w_615 g_acp (by decide) (by decide +kernel) rfl (s_aldn (j := 0) (pc' := 26) (by decide +kernel) rfl rfl (s_gfr (ci := 7) (j := 3) (pc' := 29) rfl g_ok7 (by decide) (by decide) (by decide) rfl w_112 (by decide +kernel) rfl (s_ildn (j := 1) (pc' := 30) (by decide +kernel) rfl rfl (s_con (n := 1) (pc' := 31) (by decide +kernel) (by decide +kernel) rfl (s_add (pc' := 32) (by decide +kernel) rfl (s_bip (n := 6) (pc' := 34) (by decide +kernel) (by decide +kernel) rfl (s_mul (pc' := 35) (by decide +kernel) rfl (s_aldn (j := 0) (pc' := 36) (by decide +kernel) rfl rfl (s_gfr (ci := 7) (j := 3) (pc' := 39) rfl g_ok7 (by decide) (by decide) (by decide) rfl w_112 (by decide +kernel) rfl (s_ildn (j := 1) (pc' := 40) (by decide +kernel) rfl rfl (s_bip (n := 6) (pc' := 42) (by decide +kernel) (by decide +kernel) rfl (s_mul (pc' := 43) (by decide +kernel) rfl (s_ildn (j := 2) (pc' := 44) (by decide +kernel) rfl rfl (s_bip (n := 6) (pc' := 46) (by decide +kernel) (by decide +kernel) rfl (s_mul (pc' := 47) (by decide +kernel) rfl (s_acp (pc' := 50) w_615 g_acp (by decide) (by decide +kernel) rfl (s_aldn (j := 0) (pc' := 51) (by decide +kernel) rfl rfl (s_dup (pc' := 52) (by decide +kernel) rfl (s_gfi (ci := 7) (j := 1) (pc' := 55) rfl g_ok7 (by decide) (by decide) (by decide) rfl w_105 (by decide +kernel) rfl (s_con (n := 1) (pc' := 56) (by decide +kernel) (by decide +kernel) rfl (s_sub (pc' := 57) (by decide +kernel) rfl (s_pfi (ci := 7) (j := 1) (pc' := 60) rfl g_ok7 tyX7 tyX7_ok nmX7 (by decide) (by decide) (by decide) rfl rfl rfl w_105 (by decide +kernel) rfl (s_vret (by decide +kernel) rfl rfl rfl)))))))))))))))))))))))))))))))))))))))
def F_X7_remove : vF := runD D_X7_remove 3
theorem C_X7_remove : Ctr yX7_remove cX7_remove 3 none 1 0 0 F_X7_remove := ctr_of (d := fun _ => D_X7_remove) (by decide +kernel) S_D_X7_remove
theorem A_X7_remove : CaV yX7_remove cX7_remove 3 none 1 := ⟨w_706, w_707, w_68, w_708, by unfold Nm; decide +kernel⟩
def K_X7_rest_47 : vD := op_calV 7 3 F_X7_changeOwn (op_pop (op_inc 5 1 (op_kil [true, true, false, true, true, true, false] (op_jmp 10))))
set_option maxRecDepth 100000 in
theorem S_K_X7_rest_47 (g0 : vG) : Snd yX7_rest cX7_rest 7 none 1 0 0 g0 47 K_X7_rest_47 := s_calV (ci := 7) (pc' := 50) C_X7_changeOwn A_X7_changeOwn rfl (by decide) w_621 (by decide) (by decide +kernel) rfl (s_pop (pc' := 51) (by decide +kernel) rfl (s_inc (n := 1) (pc' := 54) (by decide +kernel) (by decide +kernel) (by decide) rfl (s_goto (off := (-44)) (pt := 10) (by decide +kernel) (by decide) (s_kil s_jmp))))
def B_X7_rest_10 : vD := op_ild 5 (op_con 6 (op_icge (op_kil [false, false, false, false, false, false, false] (op_jmp 57)) (op_ild 3 (op_ild 5 (op_cal 2 F_X9_inLook (op_ist 6 (op_ald 0 (op_ild 1 (op_ild 5 (op_ild 6 (op_ild 4 (op_ild 5 (op_cal 2 F_X9_inLook (op_seq 47 (op_icne (op_ild 6 (op_kil [true, true, false, true, true, true, false] (op_jmp 47))) (op_con (-1) (op_kil [true, true, false, true, true, true, false] (op_jmp 47)))) K_X7_rest_47))))))))))))))
set_option maxRecDepth 100000 in
theorem S_B_X7_rest_10 (g0 : vG) : Snd yX7_rest cX7_rest 7 none 1 0 0 g0 10 B_X7_rest_10 := s_ild (pc' := 12) (by decide +kernel) rfl (s_bip (n := 6) (pc' := 14) (by decide +kernel) (by decide +kernel) rfl (s_icge (off := 43) (pt := 57) (pc' := 17) (by decide +kernel) (by decide) rfl (s_kil s_jmp) (s_ildn (j := 3) (pc' := 18) (by decide +kernel) rfl rfl (s_ild (pc' := 20) (by decide +kernel) rfl (s_calS (pc' := 23) C_X9_inLook A_X9_inLook w_686 (by decide) (by decide +kernel) rfl (s_ist (pc' := 25) (by decide +kernel) (by decide) rfl (s_aldn (j := 0) (pc' := 26) (by decide +kernel) rfl rfl (s_ildn (j := 1) (pc' := 27) (by decide +kernel) rfl rfl (s_ild (pc' := 29) (by decide +kernel) rfl (s_ild (pc' := 31) (by decide +kernel) rfl (s_ild (pc' := 33) (by decide +kernel) rfl (s_ild (pc' := 35) (by decide +kernel) rfl (s_calS (pc' := 38) C_X9_inLook A_X9_inLook w_686 (by decide) (by decide +kernel) rfl (s_seq (s_icne (off := 7) (pt := 45) (pc' := 41) (by decide +kernel) (by decide) rfl (s_ild (pc' := 47) (by decide +kernel) rfl (s_kil s_jmp)) (s_con (n := (-1)) (pc' := 42) (by decide +kernel) (by decide +kernel) rfl (s_goto (off := 5) (pt := 47) (by decide +kernel) (by decide) (s_kil s_jmp)))) (S_K_X7_rest_47 g0)))))))))))))))
def K_X7_rest_57 : vD := op_vret
set_option maxRecDepth 100000 in
theorem S_K_X7_rest_57 (g0 : vG) : Snd yX7_rest cX7_rest 7 none 1 0 0 g0 57 K_X7_rest_57 := s_vret (by decide +kernel) rfl rfl rfl
def D_X7_rest : vD := op_ald 0 (op_gfr 7 2 (op_ild 1 (op_ild 2 (op_ias (op_con 0 (op_ist 5 (op_seq 57 (op_kil [true, true, false, true, true, true, false] (op_loop 10 B_X7_rest_10 4000)) K_X7_rest_57)))))))
set_option maxRecDepth 100000 in
theorem S_D_X7_rest (g0 : vG) : Snd yX7_rest cX7_rest 7 none 1 0 0 g0 0 D_X7_rest := s_aldn (j := 0) (pc' := 1) (by decide +kernel) rfl rfl (s_gfr (ci := 7) (j := 2) (pc' := 4) rfl g_ok7 (by decide) (by decide) (by decide) rfl w_109 (by decide +kernel) rfl (s_ildn (j := 1) (pc' := 5) (by decide +kernel) rfl rfl (s_ildn (j := 2) (pc' := 6) (by decide +kernel) rfl rfl (s_ias (pc' := 7) (by decide +kernel) rfl (s_con (n := 0) (pc' := 8) (by decide +kernel) (by decide +kernel) rfl (s_ist (pc' := 10) (by decide +kernel) (by decide) rfl (s_seq (s_kil (s_loop (S_B_X7_rest_10 g0) 4000)) (S_K_X7_rest_57 g0))))))))
def F_X7_rest : vF := runD D_X7_rest 7
theorem C_X7_rest : Ctr yX7_rest cX7_rest 7 none 1 0 0 F_X7_rest := ctr_of (d := fun _ => D_X7_rest) (by decide +kernel) S_D_X7_rest
theorem A_X7_rest : CaV yX7_rest cX7_rest 7 none 4 := ⟨w_683, w_684, w_68, w_685, by unfold Nm; decide +kernel⟩
def B_X6_fill_49 : vD := op_ild 9 (op_ild 8 (op_icge (op_kil [true, true, true, true, false, true, true, false, false, false] (op_jmp 88)) (op_ald 0 (op_gfr 6 0 (op_ild 1 (op_aal 3 (op_ild 8 (op_ild 9 (op_bin f_or (op_ald 0 (op_gfr 6 0 (op_ild 1 (op_aal 3 (op_ild 9 (op_ial (op_ild 7 (op_min (op_ias (op_inc 9 1 (op_kil [true, true, true, true, false, true, true, true, true, true] (op_jmp 49)))))))))))))))))))))
set_option maxRecDepth 100000 in
theorem S_B_X6_fill_49 (g0 : vG) : Snd yX6_fill cX6_fill 10 none 2 0 0 g0 49 B_X6_fill_49 := s_ild (pc' := 51) (by decide +kernel) rfl (s_ild (pc' := 53) (by decide +kernel) rfl (s_icge (off := 35) (pt := 88) (pc' := 56) (by decide +kernel) (by decide) rfl (s_kil s_jmp) (s_aldn (j := 0) (pc' := 57) (by decide +kernel) rfl rfl (s_gfr (ci := 6) (j := 0) (pc' := 60) rfl g_ok6 (by decide) (by decide) (by decide) rfl w_221 (by decide +kernel) rfl (s_ildn (j := 1) (pc' := 61) (by decide +kernel) rfl rfl (s_aal (t := 3) (pc' := 62) (by decide) (fun _ => rfl) rfl (by decide +kernel) rfl (s_ild (pc' := 64) (by decide +kernel) rfl (s_ild (pc' := 66) (by decide +kernel) rfl (s_or (pc' := 67) (by decide +kernel) rfl (s_aldn (j := 0) (pc' := 68) (by decide +kernel) rfl rfl (s_gfr (ci := 6) (j := 0) (pc' := 71) rfl g_ok6 (by decide) (by decide) (by decide) rfl w_221 (by decide +kernel) rfl (s_ildn (j := 1) (pc' := 72) (by decide +kernel) rfl rfl (s_aal (t := 3) (pc' := 73) (by decide) (fun _ => rfl) rfl (by decide +kernel) rfl (s_ild (pc' := 75) (by decide +kernel) rfl (s_ial (pc' := 76) (by decide +kernel) rfl (s_ild (pc' := 78) (by decide +kernel) rfl (s_min (pc' := 81) w_428 g_min (by decide) (by decide +kernel) rfl (s_ias (pc' := 82) (by decide +kernel) rfl (s_inc (n := 1) (pc' := 85) (by decide +kernel) (by decide +kernel) (by decide) rfl (s_goto (off := (-36)) (pt := 49) (by decide +kernel) (by decide) (s_kil s_jmp)))))))))))))))))))))
def K_X6_fill_88 : vD := op_inc 6 1 (op_kil [true, true, true, true, false, true, true, false, false, false] (op_jmp 19))
set_option maxRecDepth 100000 in
theorem S_K_X6_fill_88 (g0 : vG) : Snd yX6_fill cX6_fill 10 none 2 0 0 g0 88 K_X6_fill_88 := s_inc (n := 1) (pc' := 91) (by decide +kernel) (by decide +kernel) (by decide) rfl (s_goto (off := (-72)) (pt := 19) (by decide +kernel) (by decide) (s_kil s_jmp))
def B_X6_fill_19 : vD := op_ild 6 (op_ild 3 (op_icge (op_kil [false, false, false, false, false, false, false, false, false, false] (op_jmp 94)) (op_ild 5 (op_ald 2 (op_ild 1 (op_ial (op_ald 2 (op_ild 6 (op_ial (op_cal 2 F_X9_bitsApart (op_bin f_add (op_ist 7 (op_con 1 (op_ild 6 (op_bin f_shl (op_ist 8 (op_con 0 (op_ist 9 (op_seq 88 (op_kil [true, true, true, true, false, true, true, true, true, true] (op_loop 49 B_X6_fill_49 4000)) K_X6_fill_88)))))))))))))))))))
set_option maxRecDepth 100000 in
theorem S_B_X6_fill_19 (g0 : vG) : Snd yX6_fill cX6_fill 10 none 2 0 0 g0 19 B_X6_fill_19 := s_ild (pc' := 21) (by decide +kernel) rfl (s_ildn (j := 3) (pc' := 22) (by decide +kernel) rfl rfl (s_icge (off := 72) (pt := 94) (pc' := 25) (by decide +kernel) (by decide) rfl (s_kil s_jmp) (s_ild (pc' := 27) (by decide +kernel) rfl (s_aldn (j := 2) (pc' := 28) (by decide +kernel) rfl rfl (s_ildn (j := 1) (pc' := 29) (by decide +kernel) rfl rfl (s_ial (pc' := 30) (by decide +kernel) rfl (s_aldn (j := 2) (pc' := 31) (by decide +kernel) rfl rfl (s_ild (pc' := 33) (by decide +kernel) rfl (s_ial (pc' := 34) (by decide +kernel) rfl (s_calS (pc' := 37) C_X9_bitsApart A_X9_bitsApart w_419 (by decide) (by decide +kernel) rfl (s_add (pc' := 38) (by decide +kernel) rfl (s_ist (pc' := 40) (by decide +kernel) (by decide) rfl (s_con (n := 1) (pc' := 41) (by decide +kernel) (by decide +kernel) rfl (s_ild (pc' := 43) (by decide +kernel) rfl (s_shl (pc' := 44) (by decide +kernel) rfl (s_ist (pc' := 46) (by decide +kernel) (by decide) rfl (s_con (n := 0) (pc' := 47) (by decide +kernel) (by decide +kernel) rfl (s_ist (pc' := 49) (by decide +kernel) (by decide) rfl (s_seq (s_kil (s_loop (S_B_X6_fill_49 g0) 4000)) (S_K_X6_fill_88 g0))))))))))))))))))))
def K_X6_fill_94 : vD := op_vret
set_option maxRecDepth 100000 in
theorem S_K_X6_fill_94 (g0 : vG) : Snd yX6_fill cX6_fill 10 none 2 0 0 g0 94 K_X6_fill_94 := s_vret (by decide +kernel) rfl rfl rfl
def D_X6_fill : vD := op_ald 0 (op_gfr 6 0 (op_ild 1 (op_aal 3 (op_con 0 (op_ald 2 (op_ild 1 (op_ial (op_ild 4 (op_cal 2 F_X9_bitsApart (op_ias (op_con 0 (op_ist 6 (op_seq 94 (op_kil [true, true, true, true, false, true, true, false, false, false] (op_loop 19 B_X6_fill_19 4000)) K_X6_fill_94)))))))))))))
set_option maxRecDepth 100000 in
theorem S_D_X6_fill (g0 : vG) : Snd yX6_fill cX6_fill 10 none 2 0 0 g0 0 D_X6_fill := s_aldn (j := 0) (pc' := 1) (by decide +kernel) rfl rfl (s_gfr (ci := 6) (j := 0) (pc' := 4) rfl g_ok6 (by decide) (by decide) (by decide) rfl w_221 (by decide +kernel) rfl (s_ildn (j := 1) (pc' := 5) (by decide +kernel) rfl rfl (s_aal (t := 3) (pc' := 6) (by decide) (fun _ => rfl) rfl (by decide +kernel) rfl (s_con (n := 0) (pc' := 7) (by decide +kernel) (by decide +kernel) rfl (s_aldn (j := 2) (pc' := 8) (by decide +kernel) rfl rfl (s_ildn (j := 1) (pc' := 9) (by decide +kernel) rfl rfl (s_ial (pc' := 10) (by decide +kernel) rfl (s_ild (pc' := 12) (by decide +kernel) rfl (s_calS (pc' := 15) C_X9_bitsApart A_X9_bitsApart w_419 (by decide) (by decide +kernel) rfl (s_ias (pc' := 16) (by decide +kernel) rfl (s_con (n := 0) (pc' := 17) (by decide +kernel) (by decide +kernel) rfl (s_ist (pc' := 19) (by decide +kernel) (by decide) rfl (s_seq (s_kil (s_loop (S_B_X6_fill_19 g0) 4000)) (S_K_X6_fill_94 g0))))))))))))))
def F_X6_fill : vF := runD D_X6_fill 10
theorem C_X6_fill : Ctr yX6_fill cX6_fill 10 none 2 0 0 F_X6_fill := ctr_of (d := fun _ => D_X6_fill) (by decide +kernel) S_D_X6_fill
theorem A_X6_fill : CaV yX6_fill cX6_fill 10 none 5 := ⟨w_416, w_417, w_74, w_418, by unfold Nm; decide +kernel⟩
end
section
/-! ===== fragments and contracts, by program (wip/whole/gen.py) ===== -/
def D_X2_begin : vD := op_ald 0 (op_con 0 (op_pfi 2 0 (op_ald 0 (op_ild 1 (op_pfi 2 3 (op_vret))))))
set_option maxRecDepth 100000 in
theorem S_D_X2_begin (g0 : vG) : Snd yX2_begin cX2_begin 2 none 0 0 0 g0 0 D_X2_begin := s_aldn (j := 0) (pc' := 1) (by decide +kernel) rfl rfl (s_con (n := 0) (pc' := 2) (by decide +kernel) (by decide +kernel) rfl (s_pfi (ci := 2) (j := 0) (pc' := 5) rfl g_ok2 tyX2 tyX2_ok nmX2 (by decide) (by decide) (by decide) rfl rfl rfl w_227 (by decide +kernel) rfl (s_aldn (j := 0) (pc' := 6) (by decide +kernel) rfl rfl (s_ildn (j := 1) (pc' := 7) (by decide +kernel) rfl rfl (s_pfi (ci := 2) (j := 3) (pc' := 10) rfl g_ok2 tyX2 tyX2_ok nmX2 (by decide) (by decide) (by decide) rfl rfl rfl w_234 (by decide +kernel) rfl (s_vret (by decide +kernel) rfl rfl rfl))))))
def F_X2_begin : vF := runD D_X2_begin 2
theorem C_X2_begin : Ctr yX2_begin cX2_begin 2 none 0 0 0 F_X2_begin := ctr_of (d := fun _ => D_X2_begin) (by decide +kernel) S_D_X2_begin
theorem A_X2_begin : CaV yX2_begin cX2_begin 2 none 1 := ⟨w_404, w_405, w_73, w_406, by unfold Nm; decide +kernel⟩
def D_X2_costOf : vD := op_ald 0 (op_gfr 2 5 (op_ild 1 (op_ial (op_ret))))
set_option maxRecDepth 100000 in
theorem S_D_X2_costOf (g0 : vG) : Snd yX2_costOf cX2_costOf 2 (some .int) 0 0 0 g0 0 D_X2_costOf := s_aldn (j := 0) (pc' := 1) (by decide +kernel) rfl rfl (s_gfr (ci := 2) (j := 5) (pc' := 4) rfl g_ok2 (by decide) (by decide) (by decide) rfl w_236 (by decide +kernel) rfl (s_ildn (j := 1) (pc' := 5) (by decide +kernel) rfl rfl (s_ial (pc' := 6) (by decide +kernel) rfl (s_iret (by decide +kernel) rfl rfl rfl))))
def F_X2_costOf : vF := runD D_X2_costOf 2
theorem C_X2_costOf : Ctr yX2_costOf cX2_costOf 2 (some .int) 0 0 0 F_X2_costOf := ctr_of (d := fun _ => D_X2_costOf) (by decide +kernel) S_D_X2_costOf
theorem A_X2_costOf : CaV yX2_costOf cX2_costOf 2 (some .int) 1 := ⟨w_466, w_467, w_73, w_468, by unfold Nm; decide +kernel⟩
def D_X2_costOfAll : vD := op_ald 0 (op_gfr 2 5 (op_con 1 (op_ald 0 (op_gfi 2 0 (op_bin f_shl (op_con 1 (op_bin f_sub (op_ial (op_ret)))))))))
set_option maxRecDepth 100000 in
theorem S_D_X2_costOfAll (g0 : vG) : Snd yX2_costOfAll cX2_costOfAll 1 (some .int) 0 0 0 g0 0 D_X2_costOfAll := s_aldn (j := 0) (pc' := 1) (by decide +kernel) rfl rfl (s_gfr (ci := 2) (j := 5) (pc' := 4) rfl g_ok2 (by decide) (by decide) (by decide) rfl w_236 (by decide +kernel) rfl (s_con (n := 1) (pc' := 5) (by decide +kernel) (by decide +kernel) rfl (s_aldn (j := 0) (pc' := 6) (by decide +kernel) rfl rfl (s_gfi (ci := 2) (j := 0) (pc' := 9) rfl g_ok2 (by decide) (by decide) (by decide) rfl w_227 (by decide +kernel) rfl (s_shl (pc' := 10) (by decide +kernel) rfl (s_con (n := 1) (pc' := 11) (by decide +kernel) (by decide +kernel) rfl (s_sub (pc' := 12) (by decide +kernel) rfl (s_ial (pc' := 13) (by decide +kernel) rfl (s_iret (by decide +kernel) rfl rfl rfl)))))))))
def F_X2_costOfAll : vF := runD D_X2_costOfAll 1
theorem C_X2_costOfAll : Ctr yX2_costOfAll cX2_costOfAll 1 (some .int) 0 0 0 F_X2_costOfAll := ctr_of (d := fun _ => D_X2_costOfAll) (by decide +kernel) S_D_X2_costOfAll
theorem A_X2_costOfAll : CaV yX2_costOfAll cX2_costOfAll 1 (some .int) 0 := ⟨w_436, w_437, w_73, w_438, by unfold Nm; decide +kernel⟩
def K_X2_parentLook_28 : vD := op_ret
set_option maxRecDepth 100000 in
theorem S_K_X2_parentLook_28 (g0 : vG) : Snd yX2_parentLook cX2_parentLook 2 (some .int) 0 0 0 g0 28 K_X2_parentLook_28 := s_iret (by decide +kernel) rfl rfl rfl
def D_X2_parentLook : vD := op_ald 0 (op_gfr 2 2 (op_ild 1 (op_ial (op_con (-1) (op_seq 28 (op_icne (op_ald 0 (op_gfr 2 1 (op_ald 0 (op_gfr 2 2 (op_ild 1 (op_ial (op_ial (op_kil [false, false] (op_jmp 28))))))))) (op_ald 0 (op_gfi 2 3 (op_kil [false, false] (op_jmp 28))))) K_X2_parentLook_28)))))
set_option maxRecDepth 100000 in
theorem S_D_X2_parentLook (g0 : vG) : Snd yX2_parentLook cX2_parentLook 2 (some .int) 0 0 0 g0 0 D_X2_parentLook := s_aldn (j := 0) (pc' := 1) (by decide +kernel) rfl rfl (s_gfr (ci := 2) (j := 2) (pc' := 4) rfl g_ok2 (by decide) (by decide) (by decide) rfl w_231 (by decide +kernel) rfl (s_ildn (j := 1) (pc' := 5) (by decide +kernel) rfl rfl (s_ial (pc' := 6) (by decide +kernel) rfl (s_con (n := (-1)) (pc' := 7) (by decide +kernel) (by decide +kernel) rfl (s_seq (s_icne (off := 10) (pt := 17) (pc' := 10) (by decide +kernel) (by decide) rfl (s_aldn (j := 0) (pc' := 18) (by decide +kernel) rfl rfl (s_gfr (ci := 2) (j := 1) (pc' := 21) rfl g_ok2 (by decide) (by decide) (by decide) rfl w_229 (by decide +kernel) rfl (s_aldn (j := 0) (pc' := 22) (by decide +kernel) rfl rfl (s_gfr (ci := 2) (j := 2) (pc' := 25) rfl g_ok2 (by decide) (by decide) (by decide) rfl w_231 (by decide +kernel) rfl (s_ildn (j := 1) (pc' := 26) (by decide +kernel) rfl rfl (s_ial (pc' := 27) (by decide +kernel) rfl (s_ial (pc' := 28) (by decide +kernel) rfl (s_kil s_jmp)))))))) (s_aldn (j := 0) (pc' := 11) (by decide +kernel) rfl rfl (s_gfi (ci := 2) (j := 3) (pc' := 14) rfl g_ok2 (by decide) (by decide) (by decide) rfl w_234 (by decide +kernel) rfl (s_goto (off := 14) (pt := 28) (by decide +kernel) (by decide) (s_kil s_jmp))))) (S_K_X2_parentLook_28 g0))))))
def F_X2_parentLook : vF := runD D_X2_parentLook 2
theorem C_X2_parentLook : Ctr yX2_parentLook cX2_parentLook 2 (some .int) 0 0 0 F_X2_parentLook := ctr_of (d := fun _ => D_X2_parentLook) (by decide +kernel) S_D_X2_parentLook
theorem A_X2_parentLook : CaV yX2_parentLook cX2_parentLook 2 (some .int) 1 := ⟨w_740, w_741, w_73, w_742, by unfold Nm; decide +kernel⟩
def K_X2_plant_29 : vD := op_vret
set_option maxRecDepth 100000 in
theorem S_K_X2_plant_29 (g0 : vG) : Snd yX2_plant cX2_plant 2 none 0 0 0 g0 29 K_X2_plant_29 := s_vret (by decide +kernel) rfl rfl rfl
def D_X2_plant : vD := op_ald 0 (op_gfi 2 0 (op_con 8 (op_seq 29 (op_icge (op_kil [false, false] (op_jmp 29)) (op_ald 0 (op_gfr 2 1 (op_ald 0 (op_gfi 2 0 (op_ild 1 (op_ias (op_ald 0 (op_dup (op_gfi 2 0 (op_con 1 (op_bin f_add (op_pfi 2 0 (op_kil [false, false] (op_jmp 29))))))))))))))) K_X2_plant_29)))
set_option maxRecDepth 100000 in
theorem S_D_X2_plant (g0 : vG) : Snd yX2_plant cX2_plant 2 none 0 0 0 g0 0 D_X2_plant := s_aldn (j := 0) (pc' := 1) (by decide +kernel) rfl rfl (s_gfi (ci := 2) (j := 0) (pc' := 4) rfl g_ok2 (by decide) (by decide) (by decide) rfl w_227 (by decide +kernel) rfl (s_bip (n := 8) (pc' := 6) (by decide +kernel) (by decide +kernel) rfl (s_seq (s_icge (off := 23) (pt := 29) (pc' := 9) (by decide +kernel) (by decide) rfl (s_kil s_jmp) (s_aldn (j := 0) (pc' := 10) (by decide +kernel) rfl rfl (s_gfr (ci := 2) (j := 1) (pc' := 13) rfl g_ok2 (by decide) (by decide) (by decide) rfl w_229 (by decide +kernel) rfl (s_aldn (j := 0) (pc' := 14) (by decide +kernel) rfl rfl (s_gfi (ci := 2) (j := 0) (pc' := 17) rfl g_ok2 (by decide) (by decide) (by decide) rfl w_227 (by decide +kernel) rfl (s_ildn (j := 1) (pc' := 18) (by decide +kernel) rfl rfl (s_ias (pc' := 19) (by decide +kernel) rfl (s_aldn (j := 0) (pc' := 20) (by decide +kernel) rfl rfl (s_dup (pc' := 21) (by decide +kernel) rfl (s_gfi (ci := 2) (j := 0) (pc' := 24) rfl g_ok2 (by decide) (by decide) (by decide) rfl w_227 (by decide +kernel) rfl (s_con (n := 1) (pc' := 25) (by decide +kernel) (by decide +kernel) rfl (s_add (pc' := 26) (by decide +kernel) rfl (s_pfi (ci := 2) (j := 0) (pc' := 29) rfl g_ok2 tyX2 tyX2_ok nmX2 (by decide) (by decide) (by decide) rfl rfl rfl w_227 (by decide +kernel) rfl (s_kil s_jmp)))))))))))))) (S_K_X2_plant_29 g0))))
def F_X2_plant : vF := runD D_X2_plant 2
theorem C_X2_plant : Ctr yX2_plant cX2_plant 2 none 0 0 0 F_X2_plant := ctr_of (d := fun _ => D_X2_plant) (by decide +kernel) S_D_X2_plant
theorem A_X2_plant : CaV yX2_plant cX2_plant 2 none 1 := ⟨w_408, w_409, w_73, w_410, by unfold Nm; decide +kernel⟩
def K_X2_addUp_72 : vD := op_inc 3 1 (op_kil [true, true, true, true, false] (op_jmp 24))
set_option maxRecDepth 100000 in
theorem S_K_X2_addUp_72 (g0 : vG) : Snd yX2_addUp cX2_addUp 5 none 1 0 0 g0 72 K_X2_addUp_72 := s_inc (n := 1) (pc' := 75) (by decide +kernel) (by decide +kernel) (by decide) rfl (s_goto (off := (-51)) (pt := 24) (by decide +kernel) (by decide) (s_kil s_jmp))
def B_X2_addUp_24 : vD := op_ild 3 (op_ald 0 (op_gfi 2 0 (op_icge (op_kil [true, true, true, false, false] (op_jmp 78)) (op_ild 1 (op_ild 3 (op_bin f_shr (op_con 1 (op_bin f_and (op_seq 72 (op_ifeq (op_kil [true, true, true, true, false] (op_jmp 72)) (op_ild 1 (op_con 1 (op_ild 3 (op_bin f_shl (op_bin f_xor (op_ist 4 (op_ild 2 (op_ald 0 (op_gfr 2 5 (op_ild 4 (op_ial (op_ald 0 (op_gfr 2 4 (op_gfr 6 0 (op_ild 3 (op_aal 3 (op_ild 4 (op_ial (op_bin f_add (op_min (op_ist 2 (op_kil [true, true, true, true, false] (op_jmp 72)))))))))))))))))))))))) K_X2_addUp_72)))))))))
set_option maxRecDepth 100000 in
theorem S_B_X2_addUp_24 (g0 : vG) : Snd yX2_addUp cX2_addUp 5 none 1 0 0 g0 24 B_X2_addUp_24 := s_ildn (j := 3) (pc' := 25) (by decide +kernel) rfl rfl (s_aldn (j := 0) (pc' := 26) (by decide +kernel) rfl rfl (s_gfi (ci := 2) (j := 0) (pc' := 29) rfl g_ok2 (by decide) (by decide) (by decide) rfl w_227 (by decide +kernel) rfl (s_icge (off := 49) (pt := 78) (pc' := 32) (by decide +kernel) (by decide) rfl (s_kil s_jmp) (s_ildn (j := 1) (pc' := 33) (by decide +kernel) rfl rfl (s_ildn (j := 3) (pc' := 34) (by decide +kernel) rfl rfl (s_shr (pc' := 35) (by decide +kernel) rfl (s_con (n := 1) (pc' := 36) (by decide +kernel) (by decide +kernel) rfl (s_and (pc' := 37) (by decide +kernel) rfl (s_seq (s_ifeq (off := 35) (pt := 72) (pc' := 40) (by decide +kernel) (by decide) rfl (s_kil s_jmp) (s_ildn (j := 1) (pc' := 41) (by decide +kernel) rfl rfl (s_con (n := 1) (pc' := 42) (by decide +kernel) (by decide +kernel) rfl (s_ildn (j := 3) (pc' := 43) (by decide +kernel) rfl rfl (s_shl (pc' := 44) (by decide +kernel) rfl (s_xor (pc' := 45) (by decide +kernel) rfl (s_ist (pc' := 47) (by decide +kernel) (by decide) rfl (s_ildn (j := 2) (pc' := 48) (by decide +kernel) rfl rfl (s_aldn (j := 0) (pc' := 49) (by decide +kernel) rfl rfl (s_gfr (ci := 2) (j := 5) (pc' := 52) rfl g_ok2 (by decide) (by decide) (by decide) rfl w_236 (by decide +kernel) rfl (s_ild (pc' := 54) (by decide +kernel) rfl (s_ial (pc' := 55) (by decide +kernel) rfl (s_aldn (j := 0) (pc' := 56) (by decide +kernel) rfl rfl (s_gfr (ci := 2) (j := 4) (pc' := 59) rfl g_ok2 (by decide) (by decide) (by decide) rfl w_235 (by decide +kernel) rfl (s_gfr (ci := 6) (j := 0) (pc' := 62) rfl g_ok6 (by decide) (by decide) (by decide) rfl w_223 (by decide +kernel) rfl (s_ildn (j := 3) (pc' := 63) (by decide +kernel) rfl rfl (s_aal (t := 3) (pc' := 64) (by decide) (fun _ => rfl) rfl (by decide +kernel) rfl (s_ild (pc' := 66) (by decide +kernel) rfl (s_ial (pc' := 67) (by decide +kernel) rfl (s_add (pc' := 68) (by decide +kernel) rfl (s_min (pc' := 71) w_434 g_min (by decide) (by decide +kernel) rfl (s_istn (j := 2) (pc' := 72) (by decide +kernel) rfl (by decide) rfl (s_kil s_jmp))))))))))))))))))))))) (S_K_X2_addUp_72 g0))))))))))
def K_X2_addUp_78 : vD := op_ald 0 (op_gfr 2 5 (op_ild 1 (op_ild 2 (op_ias (op_inc 1 1 (op_kil [true, true, false, false, false] (op_jmp 9)))))))
set_option maxRecDepth 100000 in
theorem S_K_X2_addUp_78 (g0 : vG) : Snd yX2_addUp cX2_addUp 5 none 1 0 0 g0 78 K_X2_addUp_78 := s_aldn (j := 0) (pc' := 79) (by decide +kernel) rfl rfl (s_gfr (ci := 2) (j := 5) (pc' := 82) rfl g_ok2 (by decide) (by decide) (by decide) rfl w_236 (by decide +kernel) rfl (s_ildn (j := 1) (pc' := 83) (by decide +kernel) rfl rfl (s_ildn (j := 2) (pc' := 84) (by decide +kernel) rfl rfl (s_ias (pc' := 85) (by decide +kernel) rfl (s_inc (n := 1) (pc' := 88) (by decide +kernel) (by decide +kernel) (by decide) rfl (s_goto (off := (-79)) (pt := 9) (by decide +kernel) (by decide) (s_kil s_jmp)))))))
def B_X2_addUp_9 : vD := op_ild 1 (op_con 1 (op_ald 0 (op_gfi 2 0 (op_bin f_shl (op_icge (op_kil [false, false, false, false, false] (op_jmp 91)) (op_con 1000000000 (op_ist 2 (op_con 0 (op_ist 3 (op_seq 78 (op_kil [true, true, true, true, false] (op_loop 24 B_X2_addUp_24 4000)) K_X2_addUp_78))))))))))
set_option maxRecDepth 100000 in
theorem S_B_X2_addUp_9 (g0 : vG) : Snd yX2_addUp cX2_addUp 5 none 1 0 0 g0 9 B_X2_addUp_9 := s_ildn (j := 1) (pc' := 10) (by decide +kernel) rfl rfl (s_con (n := 1) (pc' := 11) (by decide +kernel) (by decide +kernel) rfl (s_aldn (j := 0) (pc' := 12) (by decide +kernel) rfl rfl (s_gfi (ci := 2) (j := 0) (pc' := 15) rfl g_ok2 (by decide) (by decide) (by decide) rfl w_227 (by decide +kernel) rfl (s_shl (pc' := 16) (by decide +kernel) rfl (s_icge (off := 75) (pt := 91) (pc' := 19) (by decide +kernel) (by decide) rfl (s_kil s_jmp) (s_ldc (pc' := 21) (by decide +kernel) w_433 rfl (s_istn (j := 2) (pc' := 22) (by decide +kernel) rfl (by decide) rfl (s_con (n := 0) (pc' := 23) (by decide +kernel) (by decide +kernel) rfl (s_istn (j := 3) (pc' := 24) (by decide +kernel) rfl (by decide) rfl (s_seq (s_kil (s_loop (S_B_X2_addUp_24 g0) 4000)) (S_K_X2_addUp_78 g0)))))))))))
def K_X2_addUp_91 : vD := op_vret
set_option maxRecDepth 100000 in
theorem S_K_X2_addUp_91 (g0 : vG) : Snd yX2_addUp cX2_addUp 5 none 1 0 0 g0 91 K_X2_addUp_91 := s_vret (by decide +kernel) rfl rfl rfl
def D_X2_addUp : vD := op_ald 0 (op_gfr 2 5 (op_con 0 (op_con 0 (op_ias (op_con 1 (op_ist 1 (op_seq 91 (op_kil [true, true, false, false, false] (op_loop 9 B_X2_addUp_9 4000)) K_X2_addUp_91)))))))
set_option maxRecDepth 100000 in
theorem S_D_X2_addUp (g0 : vG) : Snd yX2_addUp cX2_addUp 5 none 1 0 0 g0 0 D_X2_addUp := s_aldn (j := 0) (pc' := 1) (by decide +kernel) rfl rfl (s_gfr (ci := 2) (j := 5) (pc' := 4) rfl g_ok2 (by decide) (by decide) (by decide) rfl w_236 (by decide +kernel) rfl (s_con (n := 0) (pc' := 5) (by decide +kernel) (by decide +kernel) rfl (s_con (n := 0) (pc' := 6) (by decide +kernel) (by decide +kernel) rfl (s_ias (pc' := 7) (by decide +kernel) rfl (s_con (n := 1) (pc' := 8) (by decide +kernel) (by decide +kernel) rfl (s_istn (j := 1) (pc' := 9) (by decide +kernel) rfl (by decide) rfl (s_seq (s_kil (s_loop (S_B_X2_addUp_9 g0) 4000)) (S_K_X2_addUp_91 g0))))))))
def F_X2_addUp : vF := runD D_X2_addUp 5
theorem C_X2_addUp : Ctr yX2_addUp cX2_addUp 5 none 1 0 0 F_X2_addUp := ctr_of (d := fun _ => D_X2_addUp) (by decide +kernel) S_D_X2_addUp
theorem A_X2_addUp : CaV yX2_addUp cX2_addUp 5 none 0 := ⟨w_431, w_5, w_73, w_432, by unfold Nm; decide +kernel⟩
def K_X2_costWithParent_38 : vD := op_ret
set_option maxRecDepth 100000 in
theorem S_K_X2_costWithParent_38 (g0 : vG) : Snd yX2_costWithParent cX2_costWithParent 3 (some .int) 2 0 0 g0 38 K_X2_costWithParent_38 := s_iret (by decide +kernel) rfl rfl rfl
def D_X2_costWithParent : vD := op_ild 2 (op_con (-1) (op_seq 38 (op_icne (op_con 2 (op_ald 0 (op_gfr 2 1 (op_ild 1 (op_ial (op_ald 0 (op_gfr 2 1 (op_ild 2 (op_ial (op_cal 2 F_X9_bitsApart (op_bin f_add (op_kil [false, false, false] (op_jmp 38))))))))))))) (op_ald 0 (op_gfr 2 1 (op_ild 1 (op_ial (op_ald 0 (op_gfi 2 3 (op_cal 2 F_X9_bitsApart (op_kil [false, false, false] (op_jmp 38)))))))))) K_X2_costWithParent_38))
set_option maxRecDepth 100000 in
theorem S_D_X2_costWithParent (g0 : vG) : Snd yX2_costWithParent cX2_costWithParent 3 (some .int) 2 0 0 g0 0 D_X2_costWithParent := s_ildn (j := 2) (pc' := 1) (by decide +kernel) rfl rfl (s_con (n := (-1)) (pc' := 2) (by decide +kernel) (by decide +kernel) rfl (s_seq (s_icne (off := 19) (pt := 21) (pc' := 5) (by decide +kernel) (by decide) rfl (s_con (n := 2) (pc' := 22) (by decide +kernel) (by decide +kernel) rfl (s_aldn (j := 0) (pc' := 23) (by decide +kernel) rfl rfl (s_gfr (ci := 2) (j := 1) (pc' := 26) rfl g_ok2 (by decide) (by decide) (by decide) rfl w_229 (by decide +kernel) rfl (s_ildn (j := 1) (pc' := 27) (by decide +kernel) rfl rfl (s_ial (pc' := 28) (by decide +kernel) rfl (s_aldn (j := 0) (pc' := 29) (by decide +kernel) rfl rfl (s_gfr (ci := 2) (j := 1) (pc' := 32) rfl g_ok2 (by decide) (by decide) (by decide) rfl w_229 (by decide +kernel) rfl (s_ildn (j := 2) (pc' := 33) (by decide +kernel) rfl rfl (s_ial (pc' := 34) (by decide +kernel) rfl (s_calS (pc' := 37) C_X9_bitsApart A_X9_bitsApart w_564 (by decide) (by decide +kernel) rfl (s_add (pc' := 38) (by decide +kernel) rfl (s_kil s_jmp)))))))))))) (s_aldn (j := 0) (pc' := 6) (by decide +kernel) rfl rfl (s_gfr (ci := 2) (j := 1) (pc' := 9) rfl g_ok2 (by decide) (by decide) (by decide) rfl w_229 (by decide +kernel) rfl (s_ildn (j := 1) (pc' := 10) (by decide +kernel) rfl rfl (s_ial (pc' := 11) (by decide +kernel) rfl (s_aldn (j := 0) (pc' := 12) (by decide +kernel) rfl rfl (s_gfi (ci := 2) (j := 3) (pc' := 15) rfl g_ok2 (by decide) (by decide) (by decide) rfl w_234 (by decide +kernel) rfl (s_calS (pc' := 18) C_X9_bitsApart A_X9_bitsApart w_564 (by decide) (by decide +kernel) rfl (s_goto (off := 20) (pt := 38) (by decide +kernel) (by decide) (s_kil s_jmp)))))))))) (S_K_X2_costWithParent_38 g0)))
def F_X2_costWithParent : vF := runD D_X2_costWithParent 3
theorem C_X2_costWithParent : Ctr yX2_costWithParent cX2_costWithParent 3 (some .int) 2 0 0 F_X2_costWithParent := ctr_of (d := fun _ => D_X2_costWithParent) (by decide +kernel) S_D_X2_costWithParent
theorem A_X2_costWithParent : CaV yX2_costWithParent cX2_costWithParent 3 (some .int) 2 := ⟨w_562, w_12, w_73, w_563, by unfold Nm; decide +kernel⟩
def K_X2_firstParent_48 : vD := op_inc 3 1 (op_jmp 2)
set_option maxRecDepth 100000 in
theorem S_K_X2_firstParent_48 (g0 : vG) : Snd yX2_firstParent cX2_firstParent 4 (some .int) 3 0 0 g0 48 K_X2_firstParent_48 := s_inc (n := 1) (pc' := 51) (by decide +kernel) (by decide +kernel) (by decide) rfl (s_goto (off := (-49)) (pt := 2) (by decide +kernel) (by decide) (s_jmp))
def B_X2_firstParent_2 : vD := op_ild 3 (op_ald 0 (op_gfi 2 0 (op_icge (op_kil [false, false, false, false] (op_jmp 54)) (op_ild 3 (op_ild 1 (op_seq 48 (op_iceq (op_jmp 48) (op_ald 0 (op_gfr 2 4 (op_ild 1 (op_ald 0 (op_gfi 2 0 (op_ild 3 (op_ald 0 (op_ild 1 (op_ild 3 (op_calV 2 2 F_X2_costWithParent (op_calV 6 4 F_X6_pin (op_ald 0 (op_calV 2 0 F_X2_addUp (op_ald 0 (op_calV 2 0 F_X2_costOfAll (op_ild 2 (op_icne (op_jmp 48) (op_ild 3 (op_ret)))))))))))))))))))) K_X2_firstParent_48))))))
set_option maxRecDepth 100000 in
theorem S_B_X2_firstParent_2 (g0 : vG) : Snd yX2_firstParent cX2_firstParent 4 (some .int) 3 0 0 g0 2 B_X2_firstParent_2 := s_ildn (j := 3) (pc' := 3) (by decide +kernel) rfl rfl (s_aldn (j := 0) (pc' := 4) (by decide +kernel) rfl rfl (s_gfi (ci := 2) (j := 0) (pc' := 7) rfl g_ok2 (by decide) (by decide) (by decide) rfl w_227 (by decide +kernel) rfl (s_icge (off := 47) (pt := 54) (pc' := 10) (by decide +kernel) (by decide) rfl (s_kil s_jmp) (s_ildn (j := 3) (pc' := 11) (by decide +kernel) rfl rfl (s_ildn (j := 1) (pc' := 12) (by decide +kernel) rfl rfl (s_seq (s_iceq (off := 36) (pt := 48) (pc' := 15) (by decide +kernel) (by decide) rfl (s_jmp) (s_aldn (j := 0) (pc' := 16) (by decide +kernel) rfl rfl (s_gfr (ci := 2) (j := 4) (pc' := 19) rfl g_ok2 (by decide) (by decide) (by decide) rfl w_235 (by decide +kernel) rfl (s_ildn (j := 1) (pc' := 20) (by decide +kernel) rfl rfl (s_aldn (j := 0) (pc' := 21) (by decide +kernel) rfl rfl (s_gfi (ci := 2) (j := 0) (pc' := 24) rfl g_ok2 (by decide) (by decide) (by decide) rfl w_227 (by decide +kernel) rfl (s_ildn (j := 3) (pc' := 25) (by decide +kernel) rfl rfl (s_aldn (j := 0) (pc' := 26) (by decide +kernel) rfl rfl (s_ildn (j := 1) (pc' := 27) (by decide +kernel) rfl rfl (s_ildn (j := 3) (pc' := 28) (by decide +kernel) rfl rfl (s_calV (ci := 2) (pc' := 31) C_X2_costWithParent A_X2_costWithParent rfl (by decide) w_560 (by decide) (by decide +kernel) rfl (s_calV (ci := 6) (pc' := 34) C_X6_pin A_X6_pin rfl (by decide) w_565 (by decide) (by decide +kernel) rfl (s_aldn (j := 0) (pc' := 35) (by decide +kernel) rfl rfl (s_calV (ci := 2) (pc' := 38) C_X2_addUp A_X2_addUp rfl (by decide) w_429 (by decide) (by decide +kernel) rfl (s_aldn (j := 0) (pc' := 39) (by decide +kernel) rfl rfl (s_calV (ci := 2) (pc' := 42) C_X2_costOfAll A_X2_costOfAll rfl (by decide) w_555 (by decide) (by decide +kernel) rfl (s_ildn (j := 2) (pc' := 43) (by decide +kernel) rfl rfl (s_icne (off := 5) (pt := 48) (pc' := 46) (by decide +kernel) (by decide) rfl (s_jmp) (s_ildn (j := 3) (pc' := 47) (by decide +kernel) rfl rfl (s_iret (by decide +kernel) rfl rfl rfl)))))))))))))))))))) (S_K_X2_firstParent_48 g0)))))))
def K_X2_firstParent_54 : vD := op_con (-1) (op_ret)
set_option maxRecDepth 100000 in
theorem S_K_X2_firstParent_54 (g0 : vG) : Snd yX2_firstParent cX2_firstParent 4 (some .int) 3 0 0 g0 54 K_X2_firstParent_54 := s_con (n := (-1)) (pc' := 55) (by decide +kernel) (by decide +kernel) rfl (s_iret (by decide +kernel) rfl rfl rfl)
def D_X2_firstParent : vD := op_con (-1) (op_ist 3 (op_seq 54 (op_loop 2 B_X2_firstParent_2 4000) K_X2_firstParent_54))
set_option maxRecDepth 100000 in
theorem S_D_X2_firstParent (g0 : vG) : Snd yX2_firstParent cX2_firstParent 4 (some .int) 3 0 0 g0 0 D_X2_firstParent := s_con (n := (-1)) (pc' := 1) (by decide +kernel) (by decide +kernel) rfl (s_istn (j := 3) (pc' := 2) (by decide +kernel) rfl (by decide) rfl (s_seq (s_loop (S_B_X2_firstParent_2 g0) 4000) (S_K_X2_firstParent_54 g0)))
def F_X2_firstParent : vF := runD D_X2_firstParent 4
theorem C_X2_firstParent : Ctr yX2_firstParent cX2_firstParent 4 (some .int) 3 0 0 F_X2_firstParent := ctr_of (d := fun _ => D_X2_firstParent) (by decide +kernel) S_D_X2_firstParent
theorem A_X2_firstParent : CaV yX2_firstParent cX2_firstParent 4 (some .int) 2 := ⟨w_558, w_11, w_73, w_559, by unfold Nm; decide +kernel⟩
def B_X2_grow_2 : vD := op_ild 1 (op_ald 0 (op_gfi 2 0 (op_icge (op_kil [true, false] (op_jmp 37)) (op_ald 0 (op_gfr 2 4 (op_ild 1 (op_ald 0 (op_gfr 2 1 (op_ald 0 (op_gfi 2 0 (op_ald 0 (op_gfi 2 3 (op_con 2 (op_calV 6 5 F_X6_fill (op_inc 1 1 (op_jmp 2))))))))))))))))
set_option maxRecDepth 100000 in
theorem S_B_X2_grow_2 (g0 : vG) : Snd yX2_grow cX2_grow 2 none 3 0 0 g0 2 B_X2_grow_2 := s_ildn (j := 1) (pc' := 3) (by decide +kernel) rfl rfl (s_aldn (j := 0) (pc' := 4) (by decide +kernel) rfl rfl (s_gfi (ci := 2) (j := 0) (pc' := 7) rfl g_ok2 (by decide) (by decide) (by decide) rfl w_227 (by decide +kernel) rfl (s_icge (off := 30) (pt := 37) (pc' := 10) (by decide +kernel) (by decide) rfl (s_kil s_jmp) (s_aldn (j := 0) (pc' := 11) (by decide +kernel) rfl rfl (s_gfr (ci := 2) (j := 4) (pc' := 14) rfl g_ok2 (by decide) (by decide) (by decide) rfl w_235 (by decide +kernel) rfl (s_ildn (j := 1) (pc' := 15) (by decide +kernel) rfl rfl (s_aldn (j := 0) (pc' := 16) (by decide +kernel) rfl rfl (s_gfr (ci := 2) (j := 1) (pc' := 19) rfl g_ok2 (by decide) (by decide) (by decide) rfl w_229 (by decide +kernel) rfl (s_aldn (j := 0) (pc' := 20) (by decide +kernel) rfl rfl (s_gfi (ci := 2) (j := 0) (pc' := 23) rfl g_ok2 (by decide) (by decide) (by decide) rfl w_227 (by decide +kernel) rfl (s_aldn (j := 0) (pc' := 24) (by decide +kernel) rfl rfl (s_gfi (ci := 2) (j := 3) (pc' := 27) rfl g_ok2 (by decide) (by decide) (by decide) rfl w_234 (by decide +kernel) rfl (s_con (n := 2) (pc' := 28) (by decide +kernel) (by decide +kernel) rfl (s_calV (ci := 6) (pc' := 31) C_X6_fill A_X6_fill rfl (by decide) w_415 (by decide) (by decide +kernel) rfl (s_inc (n := 1) (pc' := 34) (by decide +kernel) (by decide +kernel) (by decide) rfl (s_goto (off := (-32)) (pt := 2) (by decide +kernel) (by decide) (s_jmp)))))))))))))))))
def K_X2_grow_37 : vD := op_ald 0 (op_calV 2 0 F_X2_addUp (op_vret))
set_option maxRecDepth 100000 in
theorem S_K_X2_grow_37 (g0 : vG) : Snd yX2_grow cX2_grow 2 none 3 0 0 g0 37 K_X2_grow_37 := s_aldn (j := 0) (pc' := 38) (by decide +kernel) rfl rfl (s_calV (ci := 2) (pc' := 41) C_X2_addUp A_X2_addUp rfl (by decide) w_429 (by decide) (by decide +kernel) rfl (s_vret (by decide +kernel) rfl rfl rfl))
def D_X2_grow : vD := op_con 0 (op_ist 1 (op_seq 37 (op_loop 2 B_X2_grow_2 4000) K_X2_grow_37))
set_option maxRecDepth 100000 in
theorem S_D_X2_grow (g0 : vG) : Snd yX2_grow cX2_grow 2 none 3 0 0 g0 0 D_X2_grow := s_con (n := 0) (pc' := 1) (by decide +kernel) (by decide +kernel) rfl (s_istn (j := 1) (pc' := 2) (by decide +kernel) rfl (by decide) rfl (s_seq (s_loop (S_B_X2_grow_2 g0) 4000) (S_K_X2_grow_37 g0)))
def F_X2_grow : vF := runD D_X2_grow 2
theorem C_X2_grow : Ctr yX2_grow cX2_grow 2 none 3 0 0 F_X2_grow := ctr_of (d := fun _ => D_X2_grow) (by decide +kernel) S_D_X2_grow
theorem A_X2_grow : CaV yX2_grow cX2_grow 2 none 0 := ⟨w_412, w_413, w_73, w_414, by unfold Nm; decide +kernel⟩
def B_X2_chooseParents_7 : vD := op_ild 2 (op_ald 0 (op_gfi 2 0 (op_icge (op_kil [false, false, false] (op_jmp 33)) (op_ald 0 (op_gfr 2 2 (op_ild 2 (op_ald 0 (op_ild 2 (op_ild 1 (op_calV 2 2 F_X2_firstParent (op_ias (op_inc 2 1 (op_jmp 7)))))))))))))
set_option maxRecDepth 100000 in
theorem S_B_X2_chooseParents_7 (g0 : vG) : Snd yX2_chooseParents cX2_chooseParents 3 none 4 0 0 g0 7 B_X2_chooseParents_7 := s_ildn (j := 2) (pc' := 8) (by decide +kernel) rfl rfl (s_aldn (j := 0) (pc' := 9) (by decide +kernel) rfl rfl (s_gfi (ci := 2) (j := 0) (pc' := 12) rfl g_ok2 (by decide) (by decide) (by decide) rfl w_227 (by decide +kernel) rfl (s_icge (off := 21) (pt := 33) (pc' := 15) (by decide +kernel) (by decide) rfl (s_kil s_jmp) (s_aldn (j := 0) (pc' := 16) (by decide +kernel) rfl rfl (s_gfr (ci := 2) (j := 2) (pc' := 19) rfl g_ok2 (by decide) (by decide) (by decide) rfl w_231 (by decide +kernel) rfl (s_ildn (j := 2) (pc' := 20) (by decide +kernel) rfl rfl (s_aldn (j := 0) (pc' := 21) (by decide +kernel) rfl rfl (s_ildn (j := 2) (pc' := 22) (by decide +kernel) rfl rfl (s_ildn (j := 1) (pc' := 23) (by decide +kernel) rfl rfl (s_calV (ci := 2) (pc' := 26) C_X2_firstParent A_X2_firstParent rfl (by decide) w_556 (by decide) (by decide +kernel) rfl (s_ias (pc' := 27) (by decide +kernel) rfl (s_inc (n := 1) (pc' := 30) (by decide +kernel) (by decide +kernel) (by decide) rfl (s_goto (off := (-23)) (pt := 7) (by decide +kernel) (by decide) (s_jmp))))))))))))))
def K_X2_chooseParents_33 : vD := op_vret
set_option maxRecDepth 100000 in
theorem S_K_X2_chooseParents_33 (g0 : vG) : Snd yX2_chooseParents cX2_chooseParents 3 none 4 0 0 g0 33 K_X2_chooseParents_33 := s_vret (by decide +kernel) rfl rfl rfl
def D_X2_chooseParents : vD := op_ald 0 (op_calV 2 0 F_X2_costOfAll (op_ist 1 (op_con 0 (op_ist 2 (op_seq 33 (op_loop 7 B_X2_chooseParents_7 4000) K_X2_chooseParents_33)))))
set_option maxRecDepth 100000 in
theorem S_D_X2_chooseParents (g0 : vG) : Snd yX2_chooseParents cX2_chooseParents 3 none 4 0 0 g0 0 D_X2_chooseParents := s_aldn (j := 0) (pc' := 1) (by decide +kernel) rfl rfl (s_calV (ci := 2) (pc' := 4) C_X2_costOfAll A_X2_costOfAll rfl (by decide) w_555 (by decide) (by decide +kernel) rfl (s_istn (j := 1) (pc' := 5) (by decide +kernel) rfl (by decide) rfl (s_con (n := 0) (pc' := 6) (by decide +kernel) (by decide +kernel) rfl (s_istn (j := 2) (pc' := 7) (by decide +kernel) rfl (by decide) rfl (s_seq (s_loop (S_B_X2_chooseParents_7 g0) 4000) (S_K_X2_chooseParents_33 g0))))))
def F_X2_chooseParents : vF := runD D_X2_chooseParents 3
theorem C_X2_chooseParents : Ctr yX2_chooseParents cX2_chooseParents 3 none 4 0 0 F_X2_chooseParents := ctr_of (d := fun _ => D_X2_chooseParents) (by decide +kernel) S_D_X2_chooseParents
theorem A_X2_chooseParents : CaV yX2_chooseParents cX2_chooseParents 3 none 0 := ⟨w_552, w_553, w_73, w_554, by unfold Nm; decide +kernel⟩
def K_X2_layChosen_37 : vD := op_inc 4 1 (op_kil [true, true, true, false, true] (op_jmp 8))
set_option maxRecDepth 100000 in
theorem S_K_X2_layChosen_37 (g0 : vG) : Snd yX2_layChosen cX2_layChosen 5 none 4 0 0 g0 37 K_X2_layChosen_37 := s_inc (n := 1) (pc' := 40) (by decide +kernel) (by decide +kernel) (by decide) rfl (s_goto (off := (-32)) (pt := 8) (by decide +kernel) (by decide) (s_kil s_jmp))
def B_X2_layChosen_8 : vD := op_ild 4 (op_ald 1 (op_gfi 5 0 (op_icge (op_kil [true, false, false, false, false] (op_jmp 43)) (op_ild 2 (op_ild 4 (op_bin f_shr (op_con 1 (op_bin f_and (op_seq 37 (op_ifeq (op_kil [true, true, true, false, true] (op_jmp 37)) (op_ald 0 (op_ald 1 (op_gfr 5 1 (op_ild 4 (op_ial (op_calV 2 1 F_X2_plant (op_kil [true, true, true, false, true] (op_jmp 37))))))))) K_X2_layChosen_37)))))))))
set_option maxRecDepth 100000 in
theorem S_B_X2_layChosen_8 (g0 : vG) : Snd yX2_layChosen cX2_layChosen 5 none 4 0 0 g0 8 B_X2_layChosen_8 := s_ild (pc' := 10) (by decide +kernel) rfl (s_aldn (j := 1) (pc' := 11) (by decide +kernel) rfl rfl (s_gfi (ci := 5) (j := 0) (pc' := 14) rfl g_ok5 (by decide) (by decide) (by decide) rfl w_193 (by decide +kernel) rfl (s_icge (off := 29) (pt := 43) (pc' := 17) (by decide +kernel) (by decide) rfl (s_kil s_jmp) (s_ildn (j := 2) (pc' := 18) (by decide +kernel) rfl rfl (s_ild (pc' := 20) (by decide +kernel) rfl (s_shr (pc' := 21) (by decide +kernel) rfl (s_con (n := 1) (pc' := 22) (by decide +kernel) (by decide +kernel) rfl (s_and (pc' := 23) (by decide +kernel) rfl (s_seq (s_ifeq (off := 14) (pt := 37) (pc' := 26) (by decide +kernel) (by decide) rfl (s_kil s_jmp) (s_aldn (j := 0) (pc' := 27) (by decide +kernel) rfl rfl (s_aldn (j := 1) (pc' := 28) (by decide +kernel) rfl rfl (s_gfr (ci := 5) (j := 1) (pc' := 31) rfl g_ok5 (by decide) (by decide) (by decide) rfl w_196 (by decide +kernel) rfl (s_ild (pc' := 33) (by decide +kernel) rfl (s_ial (pc' := 34) (by decide +kernel) rfl (s_calV (ci := 2) (pc' := 37) C_X2_plant A_X2_plant rfl (by decide) w_448 (by decide) (by decide +kernel) rfl (s_kil s_jmp)))))))) (S_K_X2_layChosen_37 g0))))))))))
def K_X2_layChosen_43 : vD := op_ald 0 (op_calV 2 0 F_X2_grow (op_vret))
set_option maxRecDepth 100000 in
theorem S_K_X2_layChosen_43 (g0 : vG) : Snd yX2_layChosen cX2_layChosen 5 none 4 0 0 g0 43 K_X2_layChosen_43 := s_aldn (j := 0) (pc' := 44) (by decide +kernel) rfl rfl (s_calV (ci := 2) (pc' := 47) C_X2_grow A_X2_grow rfl (by decide) w_449 (by decide) (by decide +kernel) rfl (s_vret (by decide +kernel) rfl rfl rfl))
def D_X2_layChosen : vD := op_ald 0 (op_ild 3 (op_calV 2 1 F_X2_begin (op_con 0 (op_ist 4 (op_seq 43 (op_kil [true, true, true, false, true] (op_loop 8 B_X2_layChosen_8 4000)) K_X2_layChosen_43)))))
set_option maxRecDepth 100000 in
theorem S_D_X2_layChosen (g0 : vG) : Snd yX2_layChosen cX2_layChosen 5 none 4 0 0 g0 0 D_X2_layChosen := s_aldn (j := 0) (pc' := 1) (by decide +kernel) rfl rfl (s_ildn (j := 3) (pc' := 2) (by decide +kernel) rfl rfl (s_calV (ci := 2) (pc' := 5) C_X2_begin A_X2_begin rfl (by decide) w_447 (by decide) (by decide +kernel) rfl (s_con (n := 0) (pc' := 6) (by decide +kernel) (by decide +kernel) rfl (s_ist (pc' := 8) (by decide +kernel) (by decide) rfl (s_seq (s_kil (s_loop (S_B_X2_layChosen_8 g0) 4000)) (S_K_X2_layChosen_43 g0))))))
def F_X2_layChosen : vF := runD D_X2_layChosen 5
theorem C_X2_layChosen : Ctr yX2_layChosen cX2_layChosen 5 none 4 0 0 F_X2_layChosen := ctr_of (d := fun _ => D_X2_layChosen) (by decide +kernel) S_D_X2_layChosen
theorem A_X2_layChosen : CaV yX2_layChosen cX2_layChosen 5 none 3 := ⟨w_444, w_445, w_73, w_446, by unfold Nm; decide +kernel⟩
end
section
/-! ===== fragments and contracts, by program (wip/whole/gen.py) ===== -/
def B_X8_ancestors_15 : vD := op_ild 4 (op_con 6 (op_icge (op_kil [false, false, true, false, false] (op_jmp 46)) (op_ild 3 (op_con (-1) (op_iceq (op_kil [false, false, true, false, false] (op_jmp 46)) (op_inc 2 1 (op_ald 0 (op_gfr 8 2 (op_gfr 7 2 (op_ild 3 (op_ial (op_ist 3 (op_inc 4 1 (op_kil [true, false, true, true, true] (op_jmp 15)))))))))))))))
set_option maxRecDepth 100000 in
theorem S_B_X8_ancestors_15 (g0 : vG) : Snd yX8_ancestors cX8_ancestors 5 (some .int) 0 0 0 g0 15 B_X8_ancestors_15 := s_ild (pc' := 17) (by decide +kernel) rfl (s_bip (n := 6) (pc' := 19) (by decide +kernel) (by decide +kernel) rfl (s_icge (off := 27) (pt := 46) (pc' := 22) (by decide +kernel) (by decide) rfl (s_kil s_jmp) (s_ildn (j := 3) (pc' := 23) (by decide +kernel) rfl rfl (s_con (n := (-1)) (pc' := 24) (by decide +kernel) (by decide +kernel) rfl (s_iceq (off := 22) (pt := 46) (pc' := 27) (by decide +kernel) (by decide) rfl (s_kil s_jmp) (s_inc (n := 1) (pc' := 30) (by decide +kernel) (by decide +kernel) (by decide) rfl (s_aldn (j := 0) (pc' := 31) (by decide +kernel) rfl rfl (s_gfr (ci := 8) (j := 2) (pc' := 34) rfl g_ok8 (by decide) (by decide) (by decide) rfl w_127 (by decide +kernel) rfl (s_gfr (ci := 7) (j := 2) (pc' := 37) rfl g_ok7 (by decide) (by decide) (by decide) rfl w_110 (by decide +kernel) rfl (s_ildn (j := 3) (pc' := 38) (by decide +kernel) rfl rfl (s_ial (pc' := 39) (by decide +kernel) rfl (s_istn (j := 3) (pc' := 40) (by decide +kernel) rfl (by decide) rfl (s_inc (n := 1) (pc' := 43) (by decide +kernel) (by decide +kernel) (by decide) rfl (s_goto (off := (-28)) (pt := 15) (by decide +kernel) (by decide) (s_kil s_jmp)))))))))))))))
def K_X8_ancestors_46 : vD := op_ild 2 (op_ret)
set_option maxRecDepth 100000 in
theorem S_K_X8_ancestors_46 (g0 : vG) : Snd yX8_ancestors cX8_ancestors 5 (some .int) 0 0 0 g0 46 K_X8_ancestors_46 := s_ildn (j := 2) (pc' := 47) (by decide +kernel) rfl rfl (s_iret (by decide +kernel) rfl rfl rfl)
def D_X8_ancestors : vD := op_con 0 (op_ist 2 (op_ald 0 (op_gfr 8 2 (op_gfr 7 2 (op_ild 1 (op_ial (op_ist 3 (op_con 0 (op_ist 4 (op_seq 46 (op_kil [true, false, true, true, true] (op_loop 15 B_X8_ancestors_15 4000)) K_X8_ancestors_46))))))))))
set_option maxRecDepth 100000 in
theorem S_D_X8_ancestors (g0 : vG) : Snd yX8_ancestors cX8_ancestors 5 (some .int) 0 0 0 g0 0 D_X8_ancestors := s_con (n := 0) (pc' := 1) (by decide +kernel) (by decide +kernel) rfl (s_istn (j := 2) (pc' := 2) (by decide +kernel) rfl (by decide) rfl (s_aldn (j := 0) (pc' := 3) (by decide +kernel) rfl rfl (s_gfr (ci := 8) (j := 2) (pc' := 6) rfl g_ok8 (by decide) (by decide) (by decide) rfl w_127 (by decide +kernel) rfl (s_gfr (ci := 7) (j := 2) (pc' := 9) rfl g_ok7 (by decide) (by decide) (by decide) rfl w_110 (by decide +kernel) rfl (s_ildn (j := 1) (pc' := 10) (by decide +kernel) rfl rfl (s_ial (pc' := 11) (by decide +kernel) rfl (s_istn (j := 3) (pc' := 12) (by decide +kernel) rfl (by decide) rfl (s_con (n := 0) (pc' := 13) (by decide +kernel) (by decide +kernel) rfl (s_ist (pc' := 15) (by decide +kernel) (by decide) rfl (s_seq (s_kil (s_loop (S_B_X8_ancestors_15 g0) 4000)) (S_K_X8_ancestors_46 g0)))))))))))
def F_X8_ancestors : vF := runD D_X8_ancestors 5
theorem C_X8_ancestors : Ctr yX8_ancestors cX8_ancestors 5 (some .int) 0 0 0 F_X8_ancestors := ctr_of (d := fun _ => D_X8_ancestors) (by decide +kernel) S_D_X8_ancestors
theorem A_X8_ancestors : CaV yX8_ancestors cX8_ancestors 5 (some .int) 1 := ⟨w_542, w_543, w_67, w_544, by unfold Nm; decide +kernel⟩
def B_X8_descends_5 : vD := op_ild 4 (op_con 6 (op_icge (op_kil [false, false, false, false, false] (op_jmp 40)) (op_ild 3 (op_con (-1) (op_iceq (op_kil [false, false, false, false, false] (op_jmp 40)) (op_ild 3 (op_ild 2 (op_icne (op_ald 0 (op_gfr 8 2 (op_gfr 7 2 (op_ild 3 (op_ial (op_ist 3 (op_inc 4 1 (op_kil [true, false, true, true, true] (op_jmp 5))))))))) (op_con 1 (op_zret))))))))))
set_option maxRecDepth 100000 in
theorem S_B_X8_descends_5 (g0 : vG) : Snd yX8_descends cX8_descends 5 (some .boolean) 0 0 0 g0 5 B_X8_descends_5 := s_ild (pc' := 7) (by decide +kernel) rfl (s_bip (n := 6) (pc' := 9) (by decide +kernel) (by decide +kernel) rfl (s_icge (off := 31) (pt := 40) (pc' := 12) (by decide +kernel) (by decide) rfl (s_kil s_jmp) (s_ildn (j := 3) (pc' := 13) (by decide +kernel) rfl rfl (s_con (n := (-1)) (pc' := 14) (by decide +kernel) (by decide +kernel) rfl (s_iceq (off := 26) (pt := 40) (pc' := 17) (by decide +kernel) (by decide) rfl (s_kil s_jmp) (s_ildn (j := 3) (pc' := 18) (by decide +kernel) rfl rfl (s_ildn (j := 2) (pc' := 19) (by decide +kernel) rfl rfl (s_icne (off := 5) (pt := 24) (pc' := 22) (by decide +kernel) (by decide) rfl (s_aldn (j := 0) (pc' := 25) (by decide +kernel) rfl rfl (s_gfr (ci := 8) (j := 2) (pc' := 28) rfl g_ok8 (by decide) (by decide) (by decide) rfl w_127 (by decide +kernel) rfl (s_gfr (ci := 7) (j := 2) (pc' := 31) rfl g_ok7 (by decide) (by decide) (by decide) rfl w_110 (by decide +kernel) rfl (s_ildn (j := 3) (pc' := 32) (by decide +kernel) rfl rfl (s_ial (pc' := 33) (by decide +kernel) rfl (s_istn (j := 3) (pc' := 34) (by decide +kernel) rfl (by decide) rfl (s_inc (n := 1) (pc' := 37) (by decide +kernel) (by decide +kernel) (by decide) rfl (s_goto (off := (-32)) (pt := 5) (by decide +kernel) (by decide) (s_kil s_jmp))))))))) (s_con (n := 1) (pc' := 23) (by decide +kernel) (by decide +kernel) rfl (s_zret (by decide +kernel) rfl nar_bool rfl rfl))))))))))
def K_X8_descends_40 : vD := op_con 0 (op_zret)
set_option maxRecDepth 100000 in
theorem S_K_X8_descends_40 (g0 : vG) : Snd yX8_descends cX8_descends 5 (some .boolean) 0 0 0 g0 40 K_X8_descends_40 := s_con (n := 0) (pc' := 41) (by decide +kernel) (by decide +kernel) rfl (s_zret (by decide +kernel) rfl nar_bool rfl rfl)
def D_X8_descends : vD := op_ild 1 (op_ist 3 (op_con 0 (op_ist 4 (op_seq 40 (op_kil [true, false, true, true, true] (op_loop 5 B_X8_descends_5 4000)) K_X8_descends_40))))
set_option maxRecDepth 100000 in
theorem S_D_X8_descends (g0 : vG) : Snd yX8_descends cX8_descends 5 (some .boolean) 0 0 0 g0 0 D_X8_descends := s_ildn (j := 1) (pc' := 1) (by decide +kernel) rfl rfl (s_istn (j := 3) (pc' := 2) (by decide +kernel) rfl (by decide) rfl (s_con (n := 0) (pc' := 3) (by decide +kernel) (by decide +kernel) rfl (s_ist (pc' := 5) (by decide +kernel) (by decide) rfl (s_seq (s_kil (s_loop (S_B_X8_descends_5 g0) 4000)) (S_K_X8_descends_40 g0)))))
def F_X8_descends : vF := runD D_X8_descends 5
theorem C_X8_descends : Ctr yX8_descends cX8_descends 5 (some .boolean) 0 0 0 F_X8_descends := ctr_of (d := fun _ => D_X8_descends) (by decide +kernel) S_D_X8_descends
theorem A_X8_descends : CaV yX8_descends cX8_descends 5 (some .boolean) 2 := ⟨w_669, w_670, w_67, w_671, by unfold Nm; decide +kernel⟩
def B_X8_setter_5 : vD := op_ild 4 (op_con 6 (op_icge (op_kil [false, false, false, false, false] (op_jmp 48)) (op_ild 3 (op_con (-1) (op_iceq (op_kil [false, false, false, false, false] (op_jmp 48)) (op_ald 0 (op_gfr 8 2 (op_ild 3 (op_ild 2 (op_calV 7 2 F_X7_ownValue (op_con (-1) (op_iceq (op_ald 0 (op_gfr 8 2 (op_gfr 7 2 (op_ild 3 (op_ial (op_ist 3 (op_inc 4 1 (op_kil [true, false, true, true, true] (op_jmp 5))))))))) (op_ild 3 (op_ret))))))))))))))
set_option maxRecDepth 100000 in
theorem S_B_X8_setter_5 (g0 : vG) : Snd yX8_setter cX8_setter 5 (some .int) 1 0 0 g0 5 B_X8_setter_5 := s_ild (pc' := 7) (by decide +kernel) rfl (s_bip (n := 6) (pc' := 9) (by decide +kernel) (by decide +kernel) rfl (s_icge (off := 39) (pt := 48) (pc' := 12) (by decide +kernel) (by decide) rfl (s_kil s_jmp) (s_ildn (j := 3) (pc' := 13) (by decide +kernel) rfl rfl (s_con (n := (-1)) (pc' := 14) (by decide +kernel) (by decide +kernel) rfl (s_iceq (off := 34) (pt := 48) (pc' := 17) (by decide +kernel) (by decide) rfl (s_kil s_jmp) (s_aldn (j := 0) (pc' := 18) (by decide +kernel) rfl rfl (s_gfr (ci := 8) (j := 2) (pc' := 21) rfl g_ok8 (by decide) (by decide) (by decide) rfl w_127 (by decide +kernel) rfl (s_ildn (j := 3) (pc' := 22) (by decide +kernel) rfl rfl (s_ildn (j := 2) (pc' := 23) (by decide +kernel) rfl rfl (s_calV (ci := 7) (pc' := 26) C_X7_ownValue A_X7_ownValue rfl (by decide) w_350 (by decide) (by decide +kernel) rfl (s_con (n := (-1)) (pc' := 27) (by decide +kernel) (by decide +kernel) rfl (s_iceq (off := 5) (pt := 32) (pc' := 30) (by decide +kernel) (by decide) rfl (s_aldn (j := 0) (pc' := 33) (by decide +kernel) rfl rfl (s_gfr (ci := 8) (j := 2) (pc' := 36) rfl g_ok8 (by decide) (by decide) (by decide) rfl w_127 (by decide +kernel) rfl (s_gfr (ci := 7) (j := 2) (pc' := 39) rfl g_ok7 (by decide) (by decide) (by decide) rfl w_110 (by decide +kernel) rfl (s_ildn (j := 3) (pc' := 40) (by decide +kernel) rfl rfl (s_ial (pc' := 41) (by decide +kernel) rfl (s_istn (j := 3) (pc' := 42) (by decide +kernel) rfl (by decide) rfl (s_inc (n := 1) (pc' := 45) (by decide +kernel) (by decide +kernel) (by decide) rfl (s_goto (off := (-40)) (pt := 5) (by decide +kernel) (by decide) (s_kil s_jmp))))))))) (s_ildn (j := 3) (pc' := 31) (by decide +kernel) rfl rfl (s_iret (by decide +kernel) rfl rfl rfl))))))))))))))
def K_X8_setter_48 : vD := op_con (-1) (op_ret)
set_option maxRecDepth 100000 in
theorem S_K_X8_setter_48 (g0 : vG) : Snd yX8_setter cX8_setter 5 (some .int) 1 0 0 g0 48 K_X8_setter_48 := s_con (n := (-1)) (pc' := 49) (by decide +kernel) (by decide +kernel) rfl (s_iret (by decide +kernel) rfl rfl rfl)
def D_X8_setter : vD := op_ild 1 (op_ist 3 (op_con 0 (op_ist 4 (op_seq 48 (op_kil [true, false, true, true, true] (op_loop 5 B_X8_setter_5 4000)) K_X8_setter_48))))
set_option maxRecDepth 100000 in
theorem S_D_X8_setter (g0 : vG) : Snd yX8_setter cX8_setter 5 (some .int) 1 0 0 g0 0 D_X8_setter := s_ildn (j := 1) (pc' := 1) (by decide +kernel) rfl rfl (s_istn (j := 3) (pc' := 2) (by decide +kernel) rfl (by decide) rfl (s_con (n := 0) (pc' := 3) (by decide +kernel) (by decide +kernel) rfl (s_ist (pc' := 5) (by decide +kernel) (by decide) rfl (s_seq (s_kil (s_loop (S_B_X8_setter_5 g0) 4000)) (S_K_X8_setter_48 g0)))))
def F_X8_setter : vF := runD D_X8_setter 5
theorem C_X8_setter : Ctr yX8_setter cX8_setter 5 (some .int) 1 0 0 F_X8_setter := ctr_of (d := fun _ => D_X8_setter) (by decide +kernel) S_D_X8_setter
theorem A_X8_setter : CaV yX8_setter cX8_setter 5 (some .int) 2 := ⟨w_507, w_508, w_67, w_509, by unfold Nm; decide +kernel⟩
def B_X8_styleValue_5 : vD := op_ild 4 (op_con 6 (op_icge (op_kil [true, false, true, false, false, false] (op_jmp 53)) (op_ild 3 (op_con (-1) (op_iceq (op_kil [true, false, true, false, false, false] (op_jmp 53)) (op_ald 0 (op_gfr 8 2 (op_ild 3 (op_ild 2 (op_calV 7 2 F_X7_ownValue (op_ist 5 (op_ild 5 (op_con (-1) (op_iceq (op_ald 0 (op_gfr 8 2 (op_gfr 7 2 (op_ild 3 (op_ial (op_ist 3 (op_inc 4 1 (op_kil [true, false, true, true, true, false] (op_jmp 5))))))))) (op_ild 5 (op_ret))))))))))))))))
set_option maxRecDepth 100000 in
theorem S_B_X8_styleValue_5 (g0 : vG) : Snd yX8_styleValue cX8_styleValue 6 (some .int) 1 0 0 g0 5 B_X8_styleValue_5 := s_ild (pc' := 7) (by decide +kernel) rfl (s_bip (n := 6) (pc' := 9) (by decide +kernel) (by decide +kernel) rfl (s_icge (off := 44) (pt := 53) (pc' := 12) (by decide +kernel) (by decide) rfl (s_kil s_jmp) (s_ildn (j := 3) (pc' := 13) (by decide +kernel) rfl rfl (s_con (n := (-1)) (pc' := 14) (by decide +kernel) (by decide +kernel) rfl (s_iceq (off := 39) (pt := 53) (pc' := 17) (by decide +kernel) (by decide) rfl (s_kil s_jmp) (s_aldn (j := 0) (pc' := 18) (by decide +kernel) rfl rfl (s_gfr (ci := 8) (j := 2) (pc' := 21) rfl g_ok8 (by decide) (by decide) (by decide) rfl w_127 (by decide +kernel) rfl (s_ildn (j := 3) (pc' := 22) (by decide +kernel) rfl rfl (s_ildn (j := 2) (pc' := 23) (by decide +kernel) rfl rfl (s_calV (ci := 7) (pc' := 26) C_X7_ownValue A_X7_ownValue rfl (by decide) w_350 (by decide) (by decide +kernel) rfl (s_ist (pc' := 28) (by decide +kernel) (by decide) rfl (s_ild (pc' := 30) (by decide +kernel) rfl (s_con (n := (-1)) (pc' := 31) (by decide +kernel) (by decide +kernel) rfl (s_iceq (off := 6) (pt := 37) (pc' := 34) (by decide +kernel) (by decide) rfl (s_aldn (j := 0) (pc' := 38) (by decide +kernel) rfl rfl (s_gfr (ci := 8) (j := 2) (pc' := 41) rfl g_ok8 (by decide) (by decide) (by decide) rfl w_127 (by decide +kernel) rfl (s_gfr (ci := 7) (j := 2) (pc' := 44) rfl g_ok7 (by decide) (by decide) (by decide) rfl w_110 (by decide +kernel) rfl (s_ildn (j := 3) (pc' := 45) (by decide +kernel) rfl rfl (s_ial (pc' := 46) (by decide +kernel) rfl (s_istn (j := 3) (pc' := 47) (by decide +kernel) rfl (by decide) rfl (s_inc (n := 1) (pc' := 50) (by decide +kernel) (by decide +kernel) (by decide) rfl (s_goto (off := (-45)) (pt := 5) (by decide +kernel) (by decide) (s_kil s_jmp))))))))) (s_ild (pc' := 36) (by decide +kernel) rfl (s_iret (by decide +kernel) rfl rfl rfl))))))))))))))))
def K_X8_styleValue_53 : vD := op_ald 0 (op_gfr 8 1 (op_ild 2 (op_ial (op_ret))))
set_option maxRecDepth 100000 in
theorem S_K_X8_styleValue_53 (g0 : vG) : Snd yX8_styleValue cX8_styleValue 6 (some .int) 1 0 0 g0 53 K_X8_styleValue_53 := s_aldn (j := 0) (pc' := 54) (by decide +kernel) rfl rfl (s_gfr (ci := 8) (j := 1) (pc' := 57) rfl g_ok8 (by decide) (by decide) (by decide) rfl w_125 (by decide +kernel) rfl (s_ildn (j := 2) (pc' := 58) (by decide +kernel) rfl rfl (s_ial (pc' := 59) (by decide +kernel) rfl (s_iret (by decide +kernel) rfl rfl rfl))))
def D_X8_styleValue : vD := op_ild 1 (op_ist 3 (op_con 0 (op_ist 4 (op_seq 53 (op_kil [true, false, true, true, true, false] (op_loop 5 B_X8_styleValue_5 4000)) K_X8_styleValue_53))))
set_option maxRecDepth 100000 in
theorem S_D_X8_styleValue (g0 : vG) : Snd yX8_styleValue cX8_styleValue 6 (some .int) 1 0 0 g0 0 D_X8_styleValue := s_ildn (j := 1) (pc' := 1) (by decide +kernel) rfl rfl (s_istn (j := 3) (pc' := 2) (by decide +kernel) rfl (by decide) rfl (s_con (n := 0) (pc' := 3) (by decide +kernel) (by decide +kernel) rfl (s_ist (pc' := 5) (by decide +kernel) (by decide) rfl (s_seq (s_kil (s_loop (S_B_X8_styleValue_5 g0) 4000)) (S_K_X8_styleValue_53 g0)))))
def F_X8_styleValue : vF := runD D_X8_styleValue 6
theorem C_X8_styleValue : Ctr yX8_styleValue cX8_styleValue 6 (some .int) 1 0 0 F_X8_styleValue := ctr_of (d := fun _ => D_X8_styleValue) (by decide +kernel) S_D_X8_styleValue
theorem A_X8_styleValue : CaV yX8_styleValue cX8_styleValue 6 (some .int) 2 := ⟨w_352, w_353, w_67, w_354, by unfold Nm; decide +kernel⟩
def K_X8_unusedStyles_43 : vD := op_inc 2 1 (op_jmp 4)
set_option maxRecDepth 100000 in
theorem S_K_X8_unusedStyles_43 (g0 : vG) : Snd yX8_unusedStyles cX8_unusedStyles 3 (some .int) 1 0 0 g0 43 K_X8_unusedStyles_43 := s_inc (n := 1) (pc' := 46) (by decide +kernel) (by decide +kernel) (by decide) rfl (s_goto (off := (-42)) (pt := 4) (by decide +kernel) (by decide) (s_jmp))
def B_X8_unusedStyles_4 : vD := op_ild 2 (op_ald 0 (op_gfr 8 2 (op_gfi 7 1 (op_icge (op_kil [false, true, false] (op_jmp 49)) (op_ald 0 (op_gfr 8 2 (op_ild 2 (op_calV 7 1 F_X7_withBase (op_seq 43 (op_ifne (op_jmp 43) (op_ald 0 (op_gfr 8 3 (op_ild 2 (op_calV 7 1 F_X7_withBase (op_ifne (op_jmp 43) (op_ild 1 (op_con 1 (op_ild 2 (op_bin f_shl (op_bin f_or (op_ist 1 (op_jmp 43))))))))))))) K_X8_unusedStyles_43)))))))))
set_option maxRecDepth 100000 in
theorem S_B_X8_unusedStyles_4 (g0 : vG) : Snd yX8_unusedStyles cX8_unusedStyles 3 (some .int) 1 0 0 g0 4 B_X8_unusedStyles_4 := s_ildn (j := 2) (pc' := 5) (by decide +kernel) rfl rfl (s_aldn (j := 0) (pc' := 6) (by decide +kernel) rfl rfl (s_gfr (ci := 8) (j := 2) (pc' := 9) rfl g_ok8 (by decide) (by decide) (by decide) rfl w_127 (by decide +kernel) rfl (s_gfi (ci := 7) (j := 1) (pc' := 12) rfl g_ok7 (by decide) (by decide) (by decide) rfl w_108 (by decide +kernel) rfl (s_icge (off := 37) (pt := 49) (pc' := 15) (by decide +kernel) (by decide) rfl (s_kil s_jmp) (s_aldn (j := 0) (pc' := 16) (by decide +kernel) rfl rfl (s_gfr (ci := 8) (j := 2) (pc' := 19) rfl g_ok8 (by decide) (by decide) (by decide) rfl w_127 (by decide +kernel) rfl (s_ildn (j := 2) (pc' := 20) (by decide +kernel) rfl rfl (s_calV (ci := 7) (pc' := 23) C_X7_withBase A_X7_withBase rfl (by decide) w_477 (by decide) (by decide +kernel) rfl (s_seq (s_ifne (off := 20) (pt := 43) (pc' := 26) (by decide +kernel) (by decide) rfl (s_jmp) (s_aldn (j := 0) (pc' := 27) (by decide +kernel) rfl rfl (s_gfr (ci := 8) (j := 3) (pc' := 30) rfl g_ok8 (by decide) (by decide) (by decide) rfl w_129 (by decide +kernel) rfl (s_ildn (j := 2) (pc' := 31) (by decide +kernel) rfl rfl (s_calV (ci := 7) (pc' := 34) C_X7_withBase A_X7_withBase rfl (by decide) w_477 (by decide) (by decide +kernel) rfl (s_ifne (off := 9) (pt := 43) (pc' := 37) (by decide +kernel) (by decide) rfl (s_jmp) (s_ildn (j := 1) (pc' := 38) (by decide +kernel) rfl rfl (s_con (n := 1) (pc' := 39) (by decide +kernel) (by decide +kernel) rfl (s_ildn (j := 2) (pc' := 40) (by decide +kernel) rfl rfl (s_shl (pc' := 41) (by decide +kernel) rfl (s_or (pc' := 42) (by decide +kernel) rfl (s_istn (j := 1) (pc' := 43) (by decide +kernel) rfl (by decide) rfl (s_jmp))))))))))))) (S_K_X8_unusedStyles_43 g0))))))))))
def K_X8_unusedStyles_49 : vD := op_ild 1 (op_ret)
set_option maxRecDepth 100000 in
theorem S_K_X8_unusedStyles_49 (g0 : vG) : Snd yX8_unusedStyles cX8_unusedStyles 3 (some .int) 1 0 0 g0 49 K_X8_unusedStyles_49 := s_ildn (j := 1) (pc' := 50) (by decide +kernel) rfl rfl (s_iret (by decide +kernel) rfl rfl rfl)
def D_X8_unusedStyles : vD := op_con 0 (op_ist 1 (op_con 0 (op_ist 2 (op_seq 49 (op_loop 4 B_X8_unusedStyles_4 4000) K_X8_unusedStyles_49))))
set_option maxRecDepth 100000 in
theorem S_D_X8_unusedStyles (g0 : vG) : Snd yX8_unusedStyles cX8_unusedStyles 3 (some .int) 1 0 0 g0 0 D_X8_unusedStyles := s_con (n := 0) (pc' := 1) (by decide +kernel) (by decide +kernel) rfl (s_istn (j := 1) (pc' := 2) (by decide +kernel) rfl (by decide) rfl (s_con (n := 0) (pc' := 3) (by decide +kernel) (by decide +kernel) rfl (s_istn (j := 2) (pc' := 4) (by decide +kernel) rfl (by decide) rfl (s_seq (s_loop (S_B_X8_unusedStyles_4 g0) 4000) (S_K_X8_unusedStyles_49 g0)))))
def F_X8_unusedStyles : vF := runD D_X8_unusedStyles 3
theorem C_X8_unusedStyles : Ctr yX8_unusedStyles cX8_unusedStyles 3 (some .int) 1 0 0 F_X8_unusedStyles := ctr_of (d := fun _ => D_X8_unusedStyles) (by decide +kernel) S_D_X8_unusedStyles
theorem A_X8_unusedStyles : CaV yX8_unusedStyles cX8_unusedStyles 3 (some .int) 0 := ⟨w_474, w_475, w_67, w_476, by unfold Nm; decide +kernel⟩
def D_X8_copyFrom : vD := op_ald 0 (op_ald 1 (op_gfi 8 0 (op_pfi 8 0 (op_ald 1 (op_gfr 8 1 (op_con 0 (op_ald 0 (op_gfr 8 1 (op_con 0 (op_con 6 (op_acp (op_ald 0 (op_gfr 8 2 (op_ald 1 (op_gfr 8 2 (op_calV 7 1 F_X7_copyFrom (op_ald 0 (op_gfr 8 3 (op_ald 1 (op_gfr 8 3 (op_calV 7 1 F_X7_copyFrom (op_vret))))))))))))))))))))))
set_option maxRecDepth 100000 in
theorem S_D_X8_copyFrom (g0 : vG) : Snd yX8_copyFrom cX8_copyFrom 2 none 2 0 0 g0 0 D_X8_copyFrom := s_aldn (j := 0) (pc' := 1) (by decide +kernel) rfl rfl (s_aldn (j := 1) (pc' := 2) (by decide +kernel) rfl rfl (s_gfi (ci := 8) (j := 0) (pc' := 5) rfl g_ok8 (by decide) (by decide) (by decide) rfl w_123 (by decide +kernel) rfl (s_pfi (ci := 8) (j := 0) (pc' := 8) rfl g_ok8 tyX8 tyX8_ok nmX8 (by decide) (by decide) (by decide) rfl rfl rfl w_123 (by decide +kernel) rfl (s_aldn (j := 1) (pc' := 9) (by decide +kernel) rfl rfl (s_gfr (ci := 8) (j := 1) (pc' := 12) rfl g_ok8 (by decide) (by decide) (by decide) rfl w_125 (by decide +kernel) rfl (s_con (n := 0) (pc' := 13) (by decide +kernel) (by decide +kernel) rfl (s_aldn (j := 0) (pc' := 14) (by decide +kernel) rfl rfl (s_gfr (ci := 8) (j := 1) (pc' := 17) rfl g_ok8 (by decide) (by decide) (by decide) rfl w_125 (by decide +kernel) rfl (s_con (n := 0) (pc' := 18) (by decide +kernel) (by decide +kernel) rfl (s_bip (n := 6) (pc' := 20) (by decide +kernel) (by decide +kernel) rfl (s_acp (pc' := 23) w_610 g_acp (by decide) (by decide +kernel) rfl (s_aldn (j := 0) (pc' := 24) (by decide +kernel) rfl rfl (s_gfr (ci := 8) (j := 2) (pc' := 27) rfl g_ok8 (by decide) (by decide) (by decide) rfl w_127 (by decide +kernel) rfl (s_aldn (j := 1) (pc' := 28) (by decide +kernel) rfl rfl (s_gfr (ci := 8) (j := 2) (pc' := 31) rfl g_ok8 (by decide) (by decide) (by decide) rfl w_127 (by decide +kernel) rfl (s_calV (ci := 7) (pc' := 34) C_X7_copyFrom A_X7_copyFrom rfl (by decide) w_611 (by decide) (by decide +kernel) rfl (s_aldn (j := 0) (pc' := 35) (by decide +kernel) rfl rfl (s_gfr (ci := 8) (j := 3) (pc' := 38) rfl g_ok8 (by decide) (by decide) (by decide) rfl w_129 (by decide +kernel) rfl (s_aldn (j := 1) (pc' := 39) (by decide +kernel) rfl rfl (s_gfr (ci := 8) (j := 3) (pc' := 42) rfl g_ok8 (by decide) (by decide) (by decide) rfl w_129 (by decide +kernel) rfl (s_calV (ci := 7) (pc' := 45) C_X7_copyFrom A_X7_copyFrom rfl (by decide) w_611 (by decide) (by decide +kernel) rfl (s_vret (by decide +kernel) rfl rfl rfl))))))))))))))))))))))
def F_X8_copyFrom : vF := runD D_X8_copyFrom 2
theorem C_X8_copyFrom : Ctr yX8_copyFrom cX8_copyFrom 2 none 2 0 0 F_X8_copyFrom := ctr_of (d := fun _ => D_X8_copyFrom) (by decide +kernel) S_D_X8_copyFrom
theorem A_X8_copyFrom : CaV yX8_copyFrom cX8_copyFrom 2 none 1 := ⟨w_607, w_608, w_67, w_609, by unfold Nm; decide +kernel⟩
def B_X8_layStyles_2 : vD := op_ild 2 (op_ald 0 (op_gfr 8 2 (op_gfi 7 1 (op_icge (op_kil [false, false, false] (op_jmp 44)) (op_ald 0 (op_gfr 8 2 (op_ild 2 (op_ald 1 (op_gfr 2 2 (op_ild 2 (op_ial (op_ald 1 (op_gfr 2 1 (op_ild 2 (op_ial (op_ald 1 (op_ild 2 (op_calV 2 1 F_X2_parentLook (op_calV 7 4 F_X7_rest (op_inc 2 1 (op_jmp 2)))))))))))))))))))))
set_option maxRecDepth 100000 in
theorem S_B_X8_layStyles_2 (g0 : vG) : Snd yX8_layStyles cX8_layStyles 3 none 2 0 0 g0 2 B_X8_layStyles_2 := s_ildn (j := 2) (pc' := 3) (by decide +kernel) rfl rfl (s_aldn (j := 0) (pc' := 4) (by decide +kernel) rfl rfl (s_gfr (ci := 8) (j := 2) (pc' := 7) rfl g_ok8 (by decide) (by decide) (by decide) rfl w_127 (by decide +kernel) rfl (s_gfi (ci := 7) (j := 1) (pc' := 10) rfl g_ok7 (by decide) (by decide) (by decide) rfl w_108 (by decide +kernel) rfl (s_icge (off := 34) (pt := 44) (pc' := 13) (by decide +kernel) (by decide) rfl (s_kil s_jmp) (s_aldn (j := 0) (pc' := 14) (by decide +kernel) rfl rfl (s_gfr (ci := 8) (j := 2) (pc' := 17) rfl g_ok8 (by decide) (by decide) (by decide) rfl w_127 (by decide +kernel) rfl (s_ildn (j := 2) (pc' := 18) (by decide +kernel) rfl rfl (s_aldn (j := 1) (pc' := 19) (by decide +kernel) rfl rfl (s_gfr (ci := 2) (j := 2) (pc' := 22) rfl g_ok2 (by decide) (by decide) (by decide) rfl w_232 (by decide +kernel) rfl (s_ildn (j := 2) (pc' := 23) (by decide +kernel) rfl rfl (s_ial (pc' := 24) (by decide +kernel) rfl (s_aldn (j := 1) (pc' := 25) (by decide +kernel) rfl rfl (s_gfr (ci := 2) (j := 1) (pc' := 28) rfl g_ok2 (by decide) (by decide) (by decide) rfl w_230 (by decide +kernel) rfl (s_ildn (j := 2) (pc' := 29) (by decide +kernel) rfl rfl (s_ial (pc' := 30) (by decide +kernel) rfl (s_aldn (j := 1) (pc' := 31) (by decide +kernel) rfl rfl (s_ildn (j := 2) (pc' := 32) (by decide +kernel) rfl rfl (s_calV (ci := 2) (pc' := 35) C_X2_parentLook A_X2_parentLook rfl (by decide) w_739 (by decide) (by decide +kernel) rfl (s_calV (ci := 7) (pc' := 38) C_X7_rest A_X7_rest rfl (by decide) w_682 (by decide) (by decide +kernel) rfl (s_inc (n := 1) (pc' := 41) (by decide +kernel) (by decide +kernel) (by decide) rfl (s_goto (off := (-39)) (pt := 2) (by decide +kernel) (by decide) (s_jmp))))))))))))))))))))))
def K_X8_layStyles_44 : vD := op_vret
set_option maxRecDepth 100000 in
theorem S_K_X8_layStyles_44 (g0 : vG) : Snd yX8_layStyles cX8_layStyles 3 none 2 0 0 g0 44 K_X8_layStyles_44 := s_vret (by decide +kernel) rfl rfl rfl
def D_X8_layStyles : vD := op_con 0 (op_ist 2 (op_seq 44 (op_loop 2 B_X8_layStyles_2 4000) K_X8_layStyles_44))
set_option maxRecDepth 100000 in
theorem S_D_X8_layStyles (g0 : vG) : Snd yX8_layStyles cX8_layStyles 3 none 2 0 0 g0 0 D_X8_layStyles := s_con (n := 0) (pc' := 1) (by decide +kernel) (by decide +kernel) rfl (s_istn (j := 2) (pc' := 2) (by decide +kernel) rfl (by decide) rfl (s_seq (s_loop (S_B_X8_layStyles_2 g0) 4000) (S_K_X8_layStyles_44 g0)))
def F_X8_layStyles : vF := runD D_X8_layStyles 3
theorem C_X8_layStyles : Ctr yX8_layStyles cX8_layStyles 3 none 2 0 0 F_X8_layStyles := ctr_of (d := fun _ => D_X8_layStyles) (by decide +kernel) S_D_X8_layStyles
theorem A_X8_layStyles : CaV yX8_layStyles cX8_layStyles 3 none 1 := ⟨w_736, w_737, w_67, w_738, by unfold Nm; decide +kernel⟩
def K_X8_paragraphCost_18 : vD := op_ald 0 (op_gfr 8 3 (op_ild 1 (op_calV 7 1 F_X7_ownBits (op_bin f_add (op_ret)))))
set_option maxRecDepth 100000 in
theorem S_K_X8_paragraphCost_18 (g0 : vG) : Snd yX8_paragraphCost cX8_paragraphCost 2 (some .int) 2 0 0 g0 18 K_X8_paragraphCost_18 := s_aldn (j := 0) (pc' := 19) (by decide +kernel) rfl rfl (s_gfr (ci := 8) (j := 3) (pc' := 22) rfl g_ok8 (by decide) (by decide) (by decide) rfl w_129 (by decide +kernel) rfl (s_ildn (j := 1) (pc' := 23) (by decide +kernel) rfl rfl (s_calV (ci := 7) (pc' := 26) C_X7_ownBits A_X7_ownBits rfl (by decide) w_327 (by decide) (by decide +kernel) rfl (s_add (pc' := 27) (by decide +kernel) rfl (s_iret (by decide +kernel) rfl rfl rfl)))))
def D_X8_paragraphCost : vD := op_ald 0 (op_gfr 8 3 (op_gfr 7 2 (op_ild 1 (op_ial (op_con (-1) (op_seq 18 (op_icne (op_con 1 (op_jmp 18)) (op_con 0 (op_jmp 18))) K_X8_paragraphCost_18))))))
set_option maxRecDepth 100000 in
theorem S_D_X8_paragraphCost (g0 : vG) : Snd yX8_paragraphCost cX8_paragraphCost 2 (some .int) 2 0 0 g0 0 D_X8_paragraphCost := s_aldn (j := 0) (pc' := 1) (by decide +kernel) rfl rfl (s_gfr (ci := 8) (j := 3) (pc' := 4) rfl g_ok8 (by decide) (by decide) (by decide) rfl w_129 (by decide +kernel) rfl (s_gfr (ci := 7) (j := 2) (pc' := 7) rfl g_ok7 (by decide) (by decide) (by decide) rfl w_110 (by decide +kernel) rfl (s_ildn (j := 1) (pc' := 8) (by decide +kernel) rfl rfl (s_ial (pc' := 9) (by decide +kernel) rfl (s_con (n := (-1)) (pc' := 10) (by decide +kernel) (by decide +kernel) rfl (s_seq (s_icne (off := 7) (pt := 17) (pc' := 13) (by decide +kernel) (by decide) rfl (s_con (n := 1) (pc' := 18) (by decide +kernel) (by decide +kernel) rfl (s_jmp)) (s_con (n := 0) (pc' := 14) (by decide +kernel) (by decide +kernel) rfl (s_goto (off := 4) (pt := 18) (by decide +kernel) (by decide) (s_jmp)))) (S_K_X8_paragraphCost_18 g0)))))))
def F_X8_paragraphCost : vF := runD D_X8_paragraphCost 2
theorem C_X8_paragraphCost : Ctr yX8_paragraphCost cX8_paragraphCost 2 (some .int) 2 0 0 F_X8_paragraphCost := ctr_of (d := fun _ => D_X8_paragraphCost) (by decide +kernel) S_D_X8_paragraphCost
theorem A_X8_paragraphCost : CaV yX8_paragraphCost cX8_paragraphCost 2 (some .int) 1 := ⟨w_339, w_340, w_67, w_341, by unfold Nm; decide +kernel⟩
def K_X8_paragraphValue_33 : vD := op_ret
set_option maxRecDepth 100000 in
theorem S_K_X8_paragraphValue_33 (g0 : vG) : Snd yX8_paragraphValue cX8_paragraphValue 4 (some .int) 2 0 0 g0 33 K_X8_paragraphValue_33 := s_iret (by decide +kernel) rfl rfl rfl
def D_X8_paragraphValue : vD := op_ald 0 (op_gfr 8 3 (op_ild 1 (op_ild 2 (op_calV 7 2 F_X7_ownValue (op_ist 3 (op_ild 3 (op_con (-1) (op_seq 33 (op_iceq (op_ald 0 (op_ald 0 (op_gfr 8 3 (op_gfr 7 2 (op_ild 1 (op_ial (op_ild 2 (op_calV 8 2 F_X8_styleValue (op_kil [false, false, false, false] (op_jmp 33)))))))))) (op_ild 3 (op_kil [false, false, false, false] (op_jmp 33)))) K_X8_paragraphValue_33))))))))
set_option maxRecDepth 100000 in
theorem S_D_X8_paragraphValue (g0 : vG) : Snd yX8_paragraphValue cX8_paragraphValue 4 (some .int) 2 0 0 g0 0 D_X8_paragraphValue := s_aldn (j := 0) (pc' := 1) (by decide +kernel) rfl rfl (s_gfr (ci := 8) (j := 3) (pc' := 4) rfl g_ok8 (by decide) (by decide) (by decide) rfl w_129 (by decide +kernel) rfl (s_ildn (j := 1) (pc' := 5) (by decide +kernel) rfl rfl (s_ildn (j := 2) (pc' := 6) (by decide +kernel) rfl rfl (s_calV (ci := 7) (pc' := 9) C_X7_ownValue A_X7_ownValue rfl (by decide) w_350 (by decide) (by decide +kernel) rfl (s_istn (j := 3) (pc' := 10) (by decide +kernel) rfl (by decide) rfl (s_ildn (j := 3) (pc' := 11) (by decide +kernel) rfl rfl (s_con (n := (-1)) (pc' := 12) (by decide +kernel) (by decide +kernel) rfl (s_seq (s_iceq (off := 7) (pt := 19) (pc' := 15) (by decide +kernel) (by decide) rfl (s_aldn (j := 0) (pc' := 20) (by decide +kernel) rfl rfl (s_aldn (j := 0) (pc' := 21) (by decide +kernel) rfl rfl (s_gfr (ci := 8) (j := 3) (pc' := 24) rfl g_ok8 (by decide) (by decide) (by decide) rfl w_129 (by decide +kernel) rfl (s_gfr (ci := 7) (j := 2) (pc' := 27) rfl g_ok7 (by decide) (by decide) (by decide) rfl w_110 (by decide +kernel) rfl (s_ildn (j := 1) (pc' := 28) (by decide +kernel) rfl rfl (s_ial (pc' := 29) (by decide +kernel) rfl (s_ildn (j := 2) (pc' := 30) (by decide +kernel) rfl rfl (s_calV (ci := 8) (pc' := 33) C_X8_styleValue A_X8_styleValue rfl (by decide) w_351 (by decide) (by decide +kernel) rfl (s_kil s_jmp))))))))) (s_ildn (j := 3) (pc' := 16) (by decide +kernel) rfl rfl (s_goto (off := 17) (pt := 33) (by decide +kernel) (by decide) (s_kil s_jmp)))) (S_K_X8_paragraphValue_33 g0)))))))))
def F_X8_paragraphValue : vF := runD D_X8_paragraphValue 4
theorem C_X8_paragraphValue : Ctr yX8_paragraphValue cX8_paragraphValue 4 (some .int) 2 0 0 F_X8_paragraphValue := ctr_of (d := fun _ => D_X8_paragraphValue) (by decide +kernel) S_D_X8_paragraphValue
theorem A_X8_paragraphValue : CaV yX8_paragraphValue cX8_paragraphValue 4 (some .int) 2 := ⟨w_372, w_373, w_67, w_374, by unfold Nm; decide +kernel⟩
def K_X8_redundantIn_76 : vD := op_calV 7 3 F_X7_changeOwn (op_pop (op_kil [true, true, true, true, true, true, false] (op_jmp 80)))
set_option maxRecDepth 100000 in
theorem S_K_X8_redundantIn_76 (g0 : vG) : Snd yX8_redundantIn cX8_redundantIn 7 (some .int) 2 0 0 g0 76 K_X8_redundantIn_76 := s_calV (ci := 7) (pc' := 79) C_X7_changeOwn A_X7_changeOwn rfl (by decide) w_355 (by decide) (by decide +kernel) rfl (s_pop (pc' := 80) (by decide +kernel) rfl (s_kil s_jmp))
def K_X8_redundantIn_80 : vD := op_inc 5 1 (op_kil [true, true, true, true, true, true, false] (op_jmp 17))
set_option maxRecDepth 100000 in
theorem S_K_X8_redundantIn_80 (g0 : vG) : Snd yX8_redundantIn cX8_redundantIn 7 (some .int) 2 0 0 g0 80 K_X8_redundantIn_80 := s_inc (n := 1) (pc' := 83) (by decide +kernel) (by decide +kernel) (by decide) rfl (s_goto (off := (-66)) (pt := 17) (by decide +kernel) (by decide) (s_kil s_jmp))
def B_X8_redundantIn_17 : vD := op_ild 5 (op_con 6 (op_icge (op_kil [true, true, true, true, true, false, false] (op_jmp 86)) (op_ald 1 (op_ild 4 (op_ild 5 (op_calV 7 2 F_X7_ownValue (op_ist 6 (op_ild 6 (op_con (-1) (op_seq 80 (op_iceq (op_kil [true, true, true, true, true, true, false] (op_jmp 80)) (op_ild 6 (op_ald 0 (op_ald 1 (op_gfr 7 2 (op_ild 4 (op_ial (op_ild 5 (op_calV 8 2 F_X8_styleValue (op_icne (op_kil [true, true, true, true, true, true, false] (op_jmp 80)) (op_inc 3 1 (op_ald 1 (op_ild 4 (op_ild 5 (op_ild 2 (op_seq 76 (op_ifeq (op_ild 6 (op_kil [true, true, true, true, true, true, false] (op_jmp 76))) (op_con (-1) (op_kil [true, true, true, true, true, true, false] (op_jmp 76)))) K_X8_redundantIn_76)))))))))))))))) K_X8_redundantIn_80))))))))))
set_option maxRecDepth 100000 in
theorem S_B_X8_redundantIn_17 (g0 : vG) : Snd yX8_redundantIn cX8_redundantIn 7 (some .int) 2 0 0 g0 17 B_X8_redundantIn_17 := s_ild (pc' := 19) (by decide +kernel) rfl (s_bip (n := 6) (pc' := 21) (by decide +kernel) (by decide +kernel) rfl (s_icge (off := 65) (pt := 86) (pc' := 24) (by decide +kernel) (by decide) rfl (s_kil s_jmp) (s_aldn (j := 1) (pc' := 25) (by decide +kernel) rfl rfl (s_ild (pc' := 27) (by decide +kernel) rfl (s_ild (pc' := 29) (by decide +kernel) rfl (s_calV (ci := 7) (pc' := 32) C_X7_ownValue A_X7_ownValue rfl (by decide) w_350 (by decide) (by decide +kernel) rfl (s_ist (pc' := 34) (by decide +kernel) (by decide) rfl (s_ild (pc' := 36) (by decide +kernel) rfl (s_con (n := (-1)) (pc' := 37) (by decide +kernel) (by decide +kernel) rfl (s_seq (s_iceq (off := 43) (pt := 80) (pc' := 40) (by decide +kernel) (by decide) rfl (s_kil s_jmp) (s_ild (pc' := 42) (by decide +kernel) rfl (s_aldn (j := 0) (pc' := 43) (by decide +kernel) rfl rfl (s_aldn (j := 1) (pc' := 44) (by decide +kernel) rfl rfl (s_gfr (ci := 7) (j := 2) (pc' := 47) rfl g_ok7 (by decide) (by decide) (by decide) rfl w_110 (by decide +kernel) rfl (s_ild (pc' := 49) (by decide +kernel) rfl (s_ial (pc' := 50) (by decide +kernel) rfl (s_ild (pc' := 52) (by decide +kernel) rfl (s_calV (ci := 8) (pc' := 55) C_X8_styleValue A_X8_styleValue rfl (by decide) w_351 (by decide) (by decide +kernel) rfl (s_icne (off := 25) (pt := 80) (pc' := 58) (by decide +kernel) (by decide) rfl (s_kil s_jmp) (s_inc (n := 1) (pc' := 61) (by decide +kernel) (by decide +kernel) (by decide) rfl (s_aldn (j := 1) (pc' := 62) (by decide +kernel) rfl rfl (s_ild (pc' := 64) (by decide +kernel) rfl (s_ild (pc' := 66) (by decide +kernel) rfl (s_ildn (j := 2) (pc' := 67) (by decide +kernel) rfl rfl (s_seq (s_ifeq (off := 7) (pt := 74) (pc' := 70) (by decide +kernel) (by decide) rfl (s_ild (pc' := 76) (by decide +kernel) rfl (s_kil s_jmp)) (s_con (n := (-1)) (pc' := 71) (by decide +kernel) (by decide +kernel) rfl (s_goto (off := 5) (pt := 76) (by decide +kernel) (by decide) (s_kil s_jmp)))) (S_K_X8_redundantIn_76 g0))))))))))))))))) (S_K_X8_redundantIn_80 g0)))))))))))
def K_X8_redundantIn_86 : vD := op_inc 4 1 (op_kil [true, true, true, true, true, false, false] (op_jmp 5))
set_option maxRecDepth 100000 in
theorem S_K_X8_redundantIn_86 (g0 : vG) : Snd yX8_redundantIn cX8_redundantIn 7 (some .int) 2 0 0 g0 86 K_X8_redundantIn_86 := s_inc (n := 1) (pc' := 89) (by decide +kernel) (by decide +kernel) (by decide) rfl (s_goto (off := (-84)) (pt := 5) (by decide +kernel) (by decide) (s_kil s_jmp))
def B_X8_redundantIn_5 : vD := op_ild 4 (op_ald 1 (op_gfi 7 1 (op_icge (op_kil [false, false, false, true, false, false, false] (op_jmp 92)) (op_con 0 (op_ist 5 (op_seq 86 (op_kil [true, true, true, true, true, true, false] (op_loop 17 B_X8_redundantIn_17 4000)) K_X8_redundantIn_86))))))
set_option maxRecDepth 100000 in
theorem S_B_X8_redundantIn_5 (g0 : vG) : Snd yX8_redundantIn cX8_redundantIn 7 (some .int) 2 0 0 g0 5 B_X8_redundantIn_5 := s_ild (pc' := 7) (by decide +kernel) rfl (s_aldn (j := 1) (pc' := 8) (by decide +kernel) rfl rfl (s_gfi (ci := 7) (j := 1) (pc' := 11) rfl g_ok7 (by decide) (by decide) (by decide) rfl w_108 (by decide +kernel) rfl (s_icge (off := 81) (pt := 92) (pc' := 14) (by decide +kernel) (by decide) rfl (s_kil s_jmp) (s_con (n := 0) (pc' := 15) (by decide +kernel) (by decide +kernel) rfl (s_ist (pc' := 17) (by decide +kernel) (by decide) rfl (s_seq (s_kil (s_loop (S_B_X8_redundantIn_17 g0) 4000)) (S_K_X8_redundantIn_86 g0)))))))
def K_X8_redundantIn_92 : vD := op_ild 3 (op_ret)
set_option maxRecDepth 100000 in
theorem S_K_X8_redundantIn_92 (g0 : vG) : Snd yX8_redundantIn cX8_redundantIn 7 (some .int) 2 0 0 g0 92 K_X8_redundantIn_92 := s_ildn (j := 3) (pc' := 93) (by decide +kernel) rfl rfl (s_iret (by decide +kernel) rfl rfl rfl)
def D_X8_redundantIn : vD := op_con 0 (op_ist 3 (op_con 0 (op_ist 4 (op_seq 92 (op_kil [true, true, true, true, true, false, false] (op_loop 5 B_X8_redundantIn_5 4000)) K_X8_redundantIn_92))))
set_option maxRecDepth 100000 in
theorem S_D_X8_redundantIn (g0 : vG) : Snd yX8_redundantIn cX8_redundantIn 7 (some .int) 2 0 0 g0 0 D_X8_redundantIn := s_con (n := 0) (pc' := 1) (by decide +kernel) (by decide +kernel) rfl (s_istn (j := 3) (pc' := 2) (by decide +kernel) rfl (by decide) rfl (s_con (n := 0) (pc' := 3) (by decide +kernel) (by decide +kernel) rfl (s_ist (pc' := 5) (by decide +kernel) (by decide) rfl (s_seq (s_kil (s_loop (S_B_X8_redundantIn_5 g0) 4000)) (S_K_X8_redundantIn_92 g0)))))
def F_X8_redundantIn : vF := runD D_X8_redundantIn 7
theorem C_X8_redundantIn : Ctr yX8_redundantIn cX8_redundantIn 7 (some .int) 2 0 0 F_X8_redundantIn := ctr_of (d := fun _ => D_X8_redundantIn) (by decide +kernel) S_D_X8_redundantIn
theorem A_X8_redundantIn : CaV yX8_redundantIn cX8_redundantIn 7 (some .int) 2 := ⟨w_348, w_0, w_67, w_349, by unfold Nm; decide +kernel⟩
def K_X8_styleCost_22 : vD := op_bin f_add (op_ald 0 (op_gfr 8 2 (op_ild 1 (op_calV 7 1 F_X7_ownBits (op_bin f_add (op_ret))))))
set_option maxRecDepth 100000 in
theorem S_K_X8_styleCost_22 (g0 : vG) : Snd yX8_styleCost cX8_styleCost 2 (some .int) 2 0 0 g0 22 K_X8_styleCost_22 := s_add (pc' := 23) (by decide +kernel) rfl (s_aldn (j := 0) (pc' := 24) (by decide +kernel) rfl rfl (s_gfr (ci := 8) (j := 2) (pc' := 27) rfl g_ok8 (by decide) (by decide) (by decide) rfl w_127 (by decide +kernel) rfl (s_ildn (j := 1) (pc' := 28) (by decide +kernel) rfl rfl (s_calV (ci := 7) (pc' := 31) C_X7_ownBits A_X7_ownBits rfl (by decide) w_327 (by decide) (by decide +kernel) rfl (s_add (pc' := 32) (by decide +kernel) rfl (s_iret (by decide +kernel) rfl rfl rfl))))))
def D_X8_styleCost : vD := op_ald 0 (op_gfi 8 0 (op_ald 0 (op_gfr 8 2 (op_gfr 7 2 (op_ild 1 (op_ial (op_con (-1) (op_seq 22 (op_icne (op_con 2 (op_jmp 22)) (op_con 0 (op_jmp 22))) K_X8_styleCost_22))))))))
set_option maxRecDepth 100000 in
theorem S_D_X8_styleCost (g0 : vG) : Snd yX8_styleCost cX8_styleCost 2 (some .int) 2 0 0 g0 0 D_X8_styleCost := s_aldn (j := 0) (pc' := 1) (by decide +kernel) rfl rfl (s_gfi (ci := 8) (j := 0) (pc' := 4) rfl g_ok8 (by decide) (by decide) (by decide) rfl w_123 (by decide +kernel) rfl (s_aldn (j := 0) (pc' := 5) (by decide +kernel) rfl rfl (s_gfr (ci := 8) (j := 2) (pc' := 8) rfl g_ok8 (by decide) (by decide) (by decide) rfl w_127 (by decide +kernel) rfl (s_gfr (ci := 7) (j := 2) (pc' := 11) rfl g_ok7 (by decide) (by decide) (by decide) rfl w_110 (by decide +kernel) rfl (s_ildn (j := 1) (pc' := 12) (by decide +kernel) rfl rfl (s_ial (pc' := 13) (by decide +kernel) rfl (s_con (n := (-1)) (pc' := 14) (by decide +kernel) (by decide +kernel) rfl (s_seq (s_icne (off := 7) (pt := 21) (pc' := 17) (by decide +kernel) (by decide) rfl (s_con (n := 2) (pc' := 22) (by decide +kernel) (by decide +kernel) rfl (s_jmp)) (s_con (n := 0) (pc' := 18) (by decide +kernel) (by decide +kernel) rfl (s_goto (off := 4) (pt := 22) (by decide +kernel) (by decide) (s_jmp)))) (S_K_X8_styleCost_22 g0)))))))))
def F_X8_styleCost : vF := runD D_X8_styleCost 2
theorem C_X8_styleCost : Ctr yX8_styleCost cX8_styleCost 2 (some .int) 2 0 0 F_X8_styleCost := ctr_of (d := fun _ => D_X8_styleCost) (by decide +kernel) S_D_X8_styleCost
theorem A_X8_styleCost : CaV yX8_styleCost cX8_styleCost 2 (some .int) 1 := ⟨w_324, w_325, w_67, w_326, by unfold Nm; decide +kernel⟩
def B_X8_styleLook_4 : vD := op_ild 3 (op_con 6 (op_icge (op_kil [false, false, true, false] (op_jmp 29)) (op_ild 2 (op_ild 3 (op_ald 0 (op_ild 1 (op_ild 3 (op_calV 8 2 F_X8_styleValue (op_cal 2 F_X9_asPartOfLook (op_bin f_or (op_ist 2 (op_inc 3 1 (op_jmp 4)))))))))))))
set_option maxRecDepth 100000 in
theorem S_B_X8_styleLook_4 (g0 : vG) : Snd yX8_styleLook cX8_styleLook 4 (some .int) 2 0 0 g0 4 B_X8_styleLook_4 := s_ildn (j := 3) (pc' := 5) (by decide +kernel) rfl rfl (s_bip (n := 6) (pc' := 7) (by decide +kernel) (by decide +kernel) rfl (s_icge (off := 22) (pt := 29) (pc' := 10) (by decide +kernel) (by decide) rfl (s_kil s_jmp) (s_ildn (j := 2) (pc' := 11) (by decide +kernel) rfl rfl (s_ildn (j := 3) (pc' := 12) (by decide +kernel) rfl rfl (s_aldn (j := 0) (pc' := 13) (by decide +kernel) rfl rfl (s_ildn (j := 1) (pc' := 14) (by decide +kernel) rfl rfl (s_ildn (j := 3) (pc' := 15) (by decide +kernel) rfl rfl (s_calV (ci := 8) (pc' := 18) C_X8_styleValue A_X8_styleValue rfl (by decide) w_351 (by decide) (by decide +kernel) rfl (s_calS (pc' := 21) C_X9_asPartOfLook A_X9_asPartOfLook w_375 (by decide) (by decide +kernel) rfl (s_or (pc' := 22) (by decide +kernel) rfl (s_istn (j := 2) (pc' := 23) (by decide +kernel) rfl (by decide) rfl (s_inc (n := 1) (pc' := 26) (by decide +kernel) (by decide +kernel) (by decide) rfl (s_goto (off := (-22)) (pt := 4) (by decide +kernel) (by decide) (s_jmp))))))))))))))
def K_X8_styleLook_29 : vD := op_ild 2 (op_ret)
set_option maxRecDepth 100000 in
theorem S_K_X8_styleLook_29 (g0 : vG) : Snd yX8_styleLook cX8_styleLook 4 (some .int) 2 0 0 g0 29 K_X8_styleLook_29 := s_ildn (j := 2) (pc' := 30) (by decide +kernel) rfl rfl (s_iret (by decide +kernel) rfl rfl rfl)
def D_X8_styleLook : vD := op_con 0 (op_ist 2 (op_con 0 (op_ist 3 (op_seq 29 (op_loop 4 B_X8_styleLook_4 4000) K_X8_styleLook_29))))
set_option maxRecDepth 100000 in
theorem S_D_X8_styleLook (g0 : vG) : Snd yX8_styleLook cX8_styleLook 4 (some .int) 2 0 0 g0 0 D_X8_styleLook := s_con (n := 0) (pc' := 1) (by decide +kernel) (by decide +kernel) rfl (s_istn (j := 2) (pc' := 2) (by decide +kernel) rfl (by decide) rfl (s_con (n := 0) (pc' := 3) (by decide +kernel) (by decide +kernel) rfl (s_istn (j := 3) (pc' := 4) (by decide +kernel) rfl (by decide) rfl (s_seq (s_loop (S_B_X8_styleLook_4 g0) 4000) (S_K_X8_styleLook_29 g0)))))
def F_X8_styleLook : vF := runD D_X8_styleLook 4
theorem C_X8_styleLook : Ctr yX8_styleLook cX8_styleLook 4 (some .int) 2 0 0 F_X8_styleLook := ctr_of (d := fun _ => D_X8_styleLook) (by decide +kernel) S_D_X8_styleLook
theorem A_X8_styleLook : CaV yX8_styleLook cX8_styleLook 4 (some .int) 1 := ⟨w_400, w_401, w_67, w_402, by unfold Nm; decide +kernel⟩
def B_X8_costOfAll_4 : vD := op_ild 2 (op_ald 0 (op_gfr 8 2 (op_gfi 7 1 (op_icge (op_kil [true, true, false] (op_jmp 29)) (op_ild 1 (op_ald 0 (op_ild 2 (op_calV 8 1 F_X8_styleCost (op_bin f_add (op_ist 1 (op_inc 2 1 (op_jmp 4))))))))))))
set_option maxRecDepth 100000 in
theorem S_B_X8_costOfAll_4 (g0 : vG) : Snd yX8_costOfAll cX8_costOfAll 3 (some .int) 3 0 0 g0 4 B_X8_costOfAll_4 := s_ildn (j := 2) (pc' := 5) (by decide +kernel) rfl rfl (s_aldn (j := 0) (pc' := 6) (by decide +kernel) rfl rfl (s_gfr (ci := 8) (j := 2) (pc' := 9) rfl g_ok8 (by decide) (by decide) (by decide) rfl w_127 (by decide +kernel) rfl (s_gfi (ci := 7) (j := 1) (pc' := 12) rfl g_ok7 (by decide) (by decide) (by decide) rfl w_108 (by decide +kernel) rfl (s_icge (off := 17) (pt := 29) (pc' := 15) (by decide +kernel) (by decide) rfl (s_kil s_jmp) (s_ildn (j := 1) (pc' := 16) (by decide +kernel) rfl rfl (s_aldn (j := 0) (pc' := 17) (by decide +kernel) rfl rfl (s_ildn (j := 2) (pc' := 18) (by decide +kernel) rfl rfl (s_calV (ci := 8) (pc' := 21) C_X8_styleCost A_X8_styleCost rfl (by decide) w_323 (by decide) (by decide +kernel) rfl (s_add (pc' := 22) (by decide +kernel) rfl (s_istn (j := 1) (pc' := 23) (by decide +kernel) rfl (by decide) rfl (s_inc (n := 1) (pc' := 26) (by decide +kernel) (by decide +kernel) (by decide) rfl (s_goto (off := (-22)) (pt := 4) (by decide +kernel) (by decide) (s_jmp)))))))))))))
def B_X8_costOfAll_31 : vD := op_ild 2 (op_ald 0 (op_gfr 8 3 (op_gfi 7 1 (op_icge (op_kil [false, true, false] (op_jmp 56)) (op_ild 1 (op_ald 0 (op_ild 2 (op_calV 8 1 F_X8_paragraphCost (op_bin f_add (op_ist 1 (op_inc 2 1 (op_jmp 31))))))))))))
set_option maxRecDepth 100000 in
theorem S_B_X8_costOfAll_31 (g0 : vG) : Snd yX8_costOfAll cX8_costOfAll 3 (some .int) 3 0 0 g0 31 B_X8_costOfAll_31 := s_ildn (j := 2) (pc' := 32) (by decide +kernel) rfl rfl (s_aldn (j := 0) (pc' := 33) (by decide +kernel) rfl rfl (s_gfr (ci := 8) (j := 3) (pc' := 36) rfl g_ok8 (by decide) (by decide) (by decide) rfl w_129 (by decide +kernel) rfl (s_gfi (ci := 7) (j := 1) (pc' := 39) rfl g_ok7 (by decide) (by decide) (by decide) rfl w_108 (by decide +kernel) rfl (s_icge (off := 17) (pt := 56) (pc' := 42) (by decide +kernel) (by decide) rfl (s_kil s_jmp) (s_ildn (j := 1) (pc' := 43) (by decide +kernel) rfl rfl (s_aldn (j := 0) (pc' := 44) (by decide +kernel) rfl rfl (s_ildn (j := 2) (pc' := 45) (by decide +kernel) rfl rfl (s_calV (ci := 8) (pc' := 48) C_X8_paragraphCost A_X8_paragraphCost rfl (by decide) w_338 (by decide) (by decide +kernel) rfl (s_add (pc' := 49) (by decide +kernel) rfl (s_istn (j := 1) (pc' := 50) (by decide +kernel) rfl (by decide) rfl (s_inc (n := 1) (pc' := 53) (by decide +kernel) (by decide +kernel) (by decide) rfl (s_goto (off := (-22)) (pt := 31) (by decide +kernel) (by decide) (s_jmp)))))))))))))
def K_X8_costOfAll_56 : vD := op_ild 1 (op_ret)
set_option maxRecDepth 100000 in
theorem S_K_X8_costOfAll_56 (g0 : vG) : Snd yX8_costOfAll cX8_costOfAll 3 (some .int) 3 0 0 g0 56 K_X8_costOfAll_56 := s_ildn (j := 1) (pc' := 57) (by decide +kernel) rfl rfl (s_iret (by decide +kernel) rfl rfl rfl)
def K_X8_costOfAll_29 : vD := op_con 0 (op_ist 2 (op_seq 56 (op_loop 31 B_X8_costOfAll_31 4000) K_X8_costOfAll_56))
set_option maxRecDepth 100000 in
theorem S_K_X8_costOfAll_29 (g0 : vG) : Snd yX8_costOfAll cX8_costOfAll 3 (some .int) 3 0 0 g0 29 K_X8_costOfAll_29 := s_con (n := 0) (pc' := 30) (by decide +kernel) (by decide +kernel) rfl (s_istn (j := 2) (pc' := 31) (by decide +kernel) rfl (by decide) rfl (s_seq (s_loop (S_B_X8_costOfAll_31 g0) 4000) (S_K_X8_costOfAll_56 g0)))
def D_X8_costOfAll : vD := op_con 0 (op_ist 1 (op_con 0 (op_ist 2 (op_seq 29 (op_loop 4 B_X8_costOfAll_4 4000) K_X8_costOfAll_29))))
set_option maxRecDepth 100000 in
theorem S_D_X8_costOfAll (g0 : vG) : Snd yX8_costOfAll cX8_costOfAll 3 (some .int) 3 0 0 g0 0 D_X8_costOfAll := s_con (n := 0) (pc' := 1) (by decide +kernel) (by decide +kernel) rfl (s_istn (j := 1) (pc' := 2) (by decide +kernel) rfl (by decide) rfl (s_con (n := 0) (pc' := 3) (by decide +kernel) (by decide +kernel) rfl (s_istn (j := 2) (pc' := 4) (by decide +kernel) rfl (by decide) rfl (s_seq (s_loop (S_B_X8_costOfAll_4 g0) 4000) (S_K_X8_costOfAll_29 g0)))))
def F_X8_costOfAll : vF := runD D_X8_costOfAll 3
theorem C_X8_costOfAll : Ctr yX8_costOfAll cX8_costOfAll 3 (some .int) 3 0 0 F_X8_costOfAll := ctr_of (d := fun _ => D_X8_costOfAll) (by decide +kernel) S_D_X8_costOfAll
theorem A_X8_costOfAll : CaV yX8_costOfAll cX8_costOfAll 3 (some .int) 0 := ⟨w_320, w_321, w_67, w_322, by unfold Nm; decide +kernel⟩
def K_X8_costWithStyle_10 : vD := op_ild 1 (op_ald 0 (op_ild 2 (op_calV 8 1 F_X8_styleLook (op_cal 2 F_X9_bitsApart (op_bin f_add (op_ret))))))
set_option maxRecDepth 100000 in
theorem S_K_X8_costWithStyle_10 (g0 : vG) : Snd yX8_costWithStyle cX8_costWithStyle 3 (some .int) 3 0 0 g0 10 K_X8_costWithStyle_10 := s_ildn (j := 1) (pc' := 11) (by decide +kernel) rfl rfl (s_aldn (j := 0) (pc' := 12) (by decide +kernel) rfl rfl (s_ildn (j := 2) (pc' := 13) (by decide +kernel) rfl rfl (s_calV (ci := 8) (pc' := 16) C_X8_styleLook A_X8_styleLook rfl (by decide) w_524 (by decide) (by decide +kernel) rfl (s_calS (pc' := 19) C_X9_bitsApart A_X9_bitsApart w_525 (by decide) (by decide +kernel) rfl (s_add (pc' := 20) (by decide +kernel) rfl (s_iret (by decide +kernel) rfl rfl rfl))))))
def D_X8_costWithStyle : vD := op_ild 2 (op_con (-1) (op_seq 10 (op_icne (op_con 1 (op_jmp 10)) (op_con 0 (op_jmp 10))) K_X8_costWithStyle_10))
set_option maxRecDepth 100000 in
theorem S_D_X8_costWithStyle (g0 : vG) : Snd yX8_costWithStyle cX8_costWithStyle 3 (some .int) 3 0 0 g0 0 D_X8_costWithStyle := s_ildn (j := 2) (pc' := 1) (by decide +kernel) rfl rfl (s_con (n := (-1)) (pc' := 2) (by decide +kernel) (by decide +kernel) rfl (s_seq (s_icne (off := 7) (pt := 9) (pc' := 5) (by decide +kernel) (by decide) rfl (s_con (n := 1) (pc' := 10) (by decide +kernel) (by decide +kernel) rfl (s_jmp)) (s_con (n := 0) (pc' := 6) (by decide +kernel) (by decide +kernel) rfl (s_goto (off := 4) (pt := 10) (by decide +kernel) (by decide) (s_jmp)))) (S_K_X8_costWithStyle_10 g0)))
def F_X8_costWithStyle : vF := runD D_X8_costWithStyle 3
theorem C_X8_costWithStyle : Ctr yX8_costWithStyle cX8_costWithStyle 3 (some .int) 3 0 0 F_X8_costWithStyle := ctr_of (d := fun _ => D_X8_costWithStyle) (by decide +kernel) S_D_X8_costWithStyle
theorem A_X8_costWithStyle : CaV yX8_costWithStyle cX8_costWithStyle 3 (some .int) 2 := ⟨w_521, w_522, w_67, w_523, by unfold Nm; decide +kernel⟩
def D_X8_countRedundant : vD := op_ald 0 (op_ald 0 (op_gfr 8 2 (op_ild 1 (op_calV 8 2 F_X8_redundantIn (op_ald 0 (op_ald 0 (op_gfr 8 3 (op_ild 1 (op_calV 8 2 F_X8_redundantIn (op_bin f_add (op_ret)))))))))))
set_option maxRecDepth 100000 in
theorem S_D_X8_countRedundant (g0 : vG) : Snd yX8_countRedundant cX8_countRedundant 2 (some .int) 3 0 0 g0 0 D_X8_countRedundant := s_aldn (j := 0) (pc' := 1) (by decide +kernel) rfl rfl (s_aldn (j := 0) (pc' := 2) (by decide +kernel) rfl rfl (s_gfr (ci := 8) (j := 2) (pc' := 5) rfl g_ok8 (by decide) (by decide) (by decide) rfl w_127 (by decide +kernel) rfl (s_ildn (j := 1) (pc' := 6) (by decide +kernel) rfl rfl (s_calV (ci := 8) (pc' := 9) C_X8_redundantIn A_X8_redundantIn rfl (by decide) w_346 (by decide) (by decide +kernel) rfl (s_aldn (j := 0) (pc' := 10) (by decide +kernel) rfl rfl (s_aldn (j := 0) (pc' := 11) (by decide +kernel) rfl rfl (s_gfr (ci := 8) (j := 3) (pc' := 14) rfl g_ok8 (by decide) (by decide) (by decide) rfl w_129 (by decide +kernel) rfl (s_ildn (j := 1) (pc' := 15) (by decide +kernel) rfl rfl (s_calV (ci := 8) (pc' := 18) C_X8_redundantIn A_X8_redundantIn rfl (by decide) w_346 (by decide) (by decide +kernel) rfl (s_add (pc' := 19) (by decide +kernel) rfl (s_iret (by decide +kernel) rfl rfl rfl)))))))))))
def F_X8_countRedundant : vF := runD D_X8_countRedundant 2
theorem C_X8_countRedundant : Ctr yX8_countRedundant cX8_countRedundant 2 (some .int) 3 0 0 F_X8_countRedundant := ctr_of (d := fun _ => D_X8_countRedundant) (by decide +kernel) S_D_X8_countRedundant
theorem A_X8_countRedundant : CaV yX8_countRedundant cX8_countRedundant 2 (some .int) 1 := ⟨w_343, w_344, w_67, w_345, by unfold Nm; decide +kernel⟩
def B_X8_paragraphLook_4 : vD := op_ild 3 (op_con 6 (op_icge (op_kil [false, false, true, false] (op_jmp 29)) (op_ild 2 (op_ild 3 (op_ald 0 (op_ild 1 (op_ild 3 (op_calV 8 2 F_X8_paragraphValue (op_cal 2 F_X9_asPartOfLook (op_bin f_or (op_ist 2 (op_inc 3 1 (op_jmp 4)))))))))))))
set_option maxRecDepth 100000 in
theorem S_B_X8_paragraphLook_4 (g0 : vG) : Snd yX8_paragraphLook cX8_paragraphLook 4 (some .int) 3 0 0 g0 4 B_X8_paragraphLook_4 := s_ildn (j := 3) (pc' := 5) (by decide +kernel) rfl rfl (s_bip (n := 6) (pc' := 7) (by decide +kernel) (by decide +kernel) rfl (s_icge (off := 22) (pt := 29) (pc' := 10) (by decide +kernel) (by decide) rfl (s_kil s_jmp) (s_ildn (j := 2) (pc' := 11) (by decide +kernel) rfl rfl (s_ildn (j := 3) (pc' := 12) (by decide +kernel) rfl rfl (s_aldn (j := 0) (pc' := 13) (by decide +kernel) rfl rfl (s_ildn (j := 1) (pc' := 14) (by decide +kernel) rfl rfl (s_ildn (j := 3) (pc' := 15) (by decide +kernel) rfl rfl (s_calV (ci := 8) (pc' := 18) C_X8_paragraphValue A_X8_paragraphValue rfl (by decide) w_371 (by decide) (by decide +kernel) rfl (s_calS (pc' := 21) C_X9_asPartOfLook A_X9_asPartOfLook w_375 (by decide) (by decide +kernel) rfl (s_or (pc' := 22) (by decide +kernel) rfl (s_istn (j := 2) (pc' := 23) (by decide +kernel) rfl (by decide) rfl (s_inc (n := 1) (pc' := 26) (by decide +kernel) (by decide +kernel) (by decide) rfl (s_goto (off := (-22)) (pt := 4) (by decide +kernel) (by decide) (s_jmp))))))))))))))
def K_X8_paragraphLook_29 : vD := op_ild 2 (op_ret)
set_option maxRecDepth 100000 in
theorem S_K_X8_paragraphLook_29 (g0 : vG) : Snd yX8_paragraphLook cX8_paragraphLook 4 (some .int) 3 0 0 g0 29 K_X8_paragraphLook_29 := s_ildn (j := 2) (pc' := 30) (by decide +kernel) rfl rfl (s_iret (by decide +kernel) rfl rfl rfl)
def D_X8_paragraphLook : vD := op_con 0 (op_ist 2 (op_con 0 (op_ist 3 (op_seq 29 (op_loop 4 B_X8_paragraphLook_4 4000) K_X8_paragraphLook_29))))
set_option maxRecDepth 100000 in
theorem S_D_X8_paragraphLook (g0 : vG) : Snd yX8_paragraphLook cX8_paragraphLook 4 (some .int) 3 0 0 g0 0 D_X8_paragraphLook := s_con (n := 0) (pc' := 1) (by decide +kernel) (by decide +kernel) rfl (s_istn (j := 2) (pc' := 2) (by decide +kernel) rfl (by decide) rfl (s_con (n := 0) (pc' := 3) (by decide +kernel) (by decide +kernel) rfl (s_istn (j := 3) (pc' := 4) (by decide +kernel) rfl (by decide) rfl (s_seq (s_loop (S_B_X8_paragraphLook_4 g0) 4000) (S_K_X8_paragraphLook_29 g0)))))
def F_X8_paragraphLook : vF := runD D_X8_paragraphLook 4
theorem C_X8_paragraphLook : Ctr yX8_paragraphLook cX8_paragraphLook 4 (some .int) 3 0 0 F_X8_paragraphLook := ctr_of (d := fun _ => D_X8_paragraphLook) (by decide +kernel) S_D_X8_paragraphLook
theorem A_X8_paragraphLook : CaV yX8_paragraphLook cX8_paragraphLook 4 (some .int) 1 := ⟨w_368, w_369, w_67, w_370, by unfold Nm; decide +kernel⟩
def D_X8_rebaseStyle : vD := op_ald 0 (op_gfr 8 2 (op_ild 1 (op_ild 2 (op_ald 0 (op_ild 1 (op_calV 8 1 F_X8_styleLook (op_ald 0 (op_ild 2 (op_calV 8 1 F_X8_styleLook (op_calV 7 4 F_X7_rest (op_vret)))))))))))
set_option maxRecDepth 100000 in
theorem S_D_X8_rebaseStyle (g0 : vG) : Snd yX8_rebaseStyle cX8_rebaseStyle 3 none 3 0 0 g0 0 D_X8_rebaseStyle := s_aldn (j := 0) (pc' := 1) (by decide +kernel) rfl rfl (s_gfr (ci := 8) (j := 2) (pc' := 4) rfl g_ok8 (by decide) (by decide) (by decide) rfl w_127 (by decide +kernel) rfl (s_ildn (j := 1) (pc' := 5) (by decide +kernel) rfl rfl (s_ildn (j := 2) (pc' := 6) (by decide +kernel) rfl rfl (s_aldn (j := 0) (pc' := 7) (by decide +kernel) rfl rfl (s_ildn (j := 1) (pc' := 8) (by decide +kernel) rfl rfl (s_calV (ci := 8) (pc' := 11) C_X8_styleLook A_X8_styleLook rfl (by decide) w_524 (by decide) (by decide +kernel) rfl (s_aldn (j := 0) (pc' := 12) (by decide +kernel) rfl rfl (s_ildn (j := 2) (pc' := 13) (by decide +kernel) rfl rfl (s_calV (ci := 8) (pc' := 16) C_X8_styleLook A_X8_styleLook rfl (by decide) w_524 (by decide) (by decide +kernel) rfl (s_calV (ci := 7) (pc' := 19) C_X7_rest A_X7_rest rfl (by decide) w_682 (by decide) (by decide +kernel) rfl (s_vret (by decide +kernel) rfl rfl rfl)))))))))))
def F_X8_rebaseStyle : vF := runD D_X8_rebaseStyle 3
theorem C_X8_rebaseStyle : Ctr yX8_rebaseStyle cX8_rebaseStyle 3 none 3 0 0 F_X8_rebaseStyle := ctr_of (d := fun _ => D_X8_rebaseStyle) (by decide +kernel) S_D_X8_rebaseStyle
theorem A_X8_rebaseStyle : CaV yX8_rebaseStyle cX8_rebaseStyle 3 none 2 := ⟨w_692, w_693, w_67, w_694, by unfold Nm; decide +kernel⟩
def K_X8_nearestStyle_45 : vD := op_inc 4 1 (op_kil [true, true, true, true, true, false] (op_jmp 12))
set_option maxRecDepth 100000 in
theorem S_K_X8_nearestStyle_45 (g0 : vG) : Snd yX8_nearestStyle cX8_nearestStyle 6 (some .int) 4 0 0 g0 45 K_X8_nearestStyle_45 := s_inc (n := 1) (pc' := 48) (by decide +kernel) (by decide +kernel) (by decide) rfl (s_goto (off := (-36)) (pt := 12) (by decide +kernel) (by decide) (s_kil s_jmp))
def B_X8_nearestStyle_12 : vD := op_ild 4 (op_ald 0 (op_gfr 8 2 (op_gfi 7 1 (op_icge (op_kil [false, false, true, false, false, false] (op_jmp 51)) (op_ald 0 (op_ild 1 (op_ild 4 (op_calV 8 2 F_X8_costWithStyle (op_ist 5 (op_ild 5 (op_ild 3 (op_seq 45 (op_icge (op_kil [true, true, true, true, true, false] (op_jmp 45)) (op_ild 5 (op_ist 3 (op_ild 4 (op_ist 2 (op_kil [true, true, true, true, true, false] (op_jmp 45))))))) K_X8_nearestStyle_45))))))))))))
set_option maxRecDepth 100000 in
theorem S_B_X8_nearestStyle_12 (g0 : vG) : Snd yX8_nearestStyle cX8_nearestStyle 6 (some .int) 4 0 0 g0 12 B_X8_nearestStyle_12 := s_ild (pc' := 14) (by decide +kernel) rfl (s_aldn (j := 0) (pc' := 15) (by decide +kernel) rfl rfl (s_gfr (ci := 8) (j := 2) (pc' := 18) rfl g_ok8 (by decide) (by decide) (by decide) rfl w_127 (by decide +kernel) rfl (s_gfi (ci := 7) (j := 1) (pc' := 21) rfl g_ok7 (by decide) (by decide) (by decide) rfl w_108 (by decide +kernel) rfl (s_icge (off := 30) (pt := 51) (pc' := 24) (by decide +kernel) (by decide) rfl (s_kil s_jmp) (s_aldn (j := 0) (pc' := 25) (by decide +kernel) rfl rfl (s_ildn (j := 1) (pc' := 26) (by decide +kernel) rfl rfl (s_ild (pc' := 28) (by decide +kernel) rfl (s_calV (ci := 8) (pc' := 31) C_X8_costWithStyle A_X8_costWithStyle rfl (by decide) w_520 (by decide) (by decide +kernel) rfl (s_ist (pc' := 33) (by decide +kernel) (by decide) rfl (s_ild (pc' := 35) (by decide +kernel) rfl (s_ildn (j := 3) (pc' := 36) (by decide +kernel) rfl rfl (s_seq (s_icge (off := 9) (pt := 45) (pc' := 39) (by decide +kernel) (by decide) rfl (s_kil s_jmp) (s_ild (pc' := 41) (by decide +kernel) rfl (s_istn (j := 3) (pc' := 42) (by decide +kernel) rfl (by decide) rfl (s_ild (pc' := 44) (by decide +kernel) rfl (s_istn (j := 2) (pc' := 45) (by decide +kernel) rfl (by decide) rfl (s_kil s_jmp)))))) (S_K_X8_nearestStyle_45 g0)))))))))))))
def K_X8_nearestStyle_51 : vD := op_ild 2 (op_ret)
set_option maxRecDepth 100000 in
theorem S_K_X8_nearestStyle_51 (g0 : vG) : Snd yX8_nearestStyle cX8_nearestStyle 6 (some .int) 4 0 0 g0 51 K_X8_nearestStyle_51 := s_ildn (j := 2) (pc' := 52) (by decide +kernel) rfl rfl (s_iret (by decide +kernel) rfl rfl rfl)
def D_X8_nearestStyle : vD := op_con (-1) (op_ist 2 (op_ald 0 (op_ild 1 (op_con (-1) (op_calV 8 2 F_X8_costWithStyle (op_ist 3 (op_con 0 (op_ist 4 (op_seq 51 (op_kil [true, true, true, true, true, false] (op_loop 12 B_X8_nearestStyle_12 4000)) K_X8_nearestStyle_51)))))))))
set_option maxRecDepth 100000 in
theorem S_D_X8_nearestStyle (g0 : vG) : Snd yX8_nearestStyle cX8_nearestStyle 6 (some .int) 4 0 0 g0 0 D_X8_nearestStyle := s_con (n := (-1)) (pc' := 1) (by decide +kernel) (by decide +kernel) rfl (s_istn (j := 2) (pc' := 2) (by decide +kernel) rfl (by decide) rfl (s_aldn (j := 0) (pc' := 3) (by decide +kernel) rfl rfl (s_ildn (j := 1) (pc' := 4) (by decide +kernel) rfl rfl (s_con (n := (-1)) (pc' := 5) (by decide +kernel) (by decide +kernel) rfl (s_calV (ci := 8) (pc' := 8) C_X8_costWithStyle A_X8_costWithStyle rfl (by decide) w_520 (by decide) (by decide +kernel) rfl (s_istn (j := 3) (pc' := 9) (by decide +kernel) rfl (by decide) rfl (s_con (n := 0) (pc' := 10) (by decide +kernel) (by decide +kernel) rfl (s_ist (pc' := 12) (by decide +kernel) (by decide) rfl (s_seq (s_kil (s_loop (S_B_X8_nearestStyle_12 g0) 4000)) (S_K_X8_nearestStyle_51 g0))))))))))
def F_X8_nearestStyle : vF := runD D_X8_nearestStyle 6
theorem C_X8_nearestStyle : Ctr yX8_nearestStyle cX8_nearestStyle 6 (some .int) 4 0 0 F_X8_nearestStyle := ctr_of (d := fun _ => D_X8_nearestStyle) (by decide +kernel) S_D_X8_nearestStyle
theorem A_X8_nearestStyle : CaV yX8_nearestStyle cX8_nearestStyle 6 (some .int) 1 := ⟨w_517, w_518, w_67, w_519, by unfold Nm; decide +kernel⟩
def D_X8_rebaseParagraph : vD := op_ald 0 (op_gfr 8 3 (op_ild 1 (op_ild 2 (op_ald 0 (op_ild 1 (op_calV 8 1 F_X8_paragraphLook (op_ald 0 (op_ild 2 (op_calV 8 1 F_X8_styleLook (op_calV 7 4 F_X7_rest (op_vret)))))))))))
set_option maxRecDepth 100000 in
theorem S_D_X8_rebaseParagraph (g0 : vG) : Snd yX8_rebaseParagraph cX8_rebaseParagraph 3 none 4 0 0 g0 0 D_X8_rebaseParagraph := s_aldn (j := 0) (pc' := 1) (by decide +kernel) rfl rfl (s_gfr (ci := 8) (j := 3) (pc' := 4) rfl g_ok8 (by decide) (by decide) (by decide) rfl w_129 (by decide +kernel) rfl (s_ildn (j := 1) (pc' := 5) (by decide +kernel) rfl rfl (s_ildn (j := 2) (pc' := 6) (by decide +kernel) rfl rfl (s_aldn (j := 0) (pc' := 7) (by decide +kernel) rfl rfl (s_ildn (j := 1) (pc' := 8) (by decide +kernel) rfl rfl (s_calV (ci := 8) (pc' := 11) C_X8_paragraphLook A_X8_paragraphLook rfl (by decide) w_681 (by decide) (by decide +kernel) rfl (s_aldn (j := 0) (pc' := 12) (by decide +kernel) rfl rfl (s_ildn (j := 2) (pc' := 13) (by decide +kernel) rfl rfl (s_calV (ci := 8) (pc' := 16) C_X8_styleLook A_X8_styleLook rfl (by decide) w_524 (by decide) (by decide +kernel) rfl (s_calV (ci := 7) (pc' := 19) C_X7_rest A_X7_rest rfl (by decide) w_682 (by decide) (by decide +kernel) rfl (s_vret (by decide +kernel) rfl rfl rfl)))))))))))
def F_X8_rebaseParagraph : vF := runD D_X8_rebaseParagraph 3
theorem C_X8_rebaseParagraph : Ctr yX8_rebaseParagraph cX8_rebaseParagraph 3 none 4 0 0 F_X8_rebaseParagraph := ctr_of (d := fun _ => D_X8_rebaseParagraph) (by decide +kernel) S_D_X8_rebaseParagraph
theorem A_X8_rebaseParagraph : CaV yX8_rebaseParagraph cX8_rebaseParagraph 3 none 2 := ⟨w_678, w_679, w_67, w_680, by unfold Nm; decide +kernel⟩
def K_X8_removeStyle_42 : vD := op_inc 3 1 (op_jmp 12)
set_option maxRecDepth 100000 in
theorem S_K_X8_removeStyle_42 (g0 : vG) : Snd yX8_removeStyle cX8_removeStyle 4 none 5 0 0 g0 42 K_X8_removeStyle_42 := s_inc (n := 1) (pc' := 45) (by decide +kernel) (by decide +kernel) (by decide) rfl (s_goto (off := (-33)) (pt := 12) (by decide +kernel) (by decide) (s_jmp))
def B_X8_removeStyle_12 : vD := op_ild 3 (op_ald 0 (op_gfr 8 2 (op_gfi 7 1 (op_icge (op_kil [true, true, true, false] (op_jmp 48)) (op_ald 0 (op_gfr 8 2 (op_gfr 7 2 (op_ild 3 (op_ial (op_ild 1 (op_seq 42 (op_icne (op_jmp 42) (op_ald 0 (op_ild 3 (op_ild 2 (op_calV 8 2 F_X8_rebaseStyle (op_jmp 42)))))) K_X8_removeStyle_42)))))))))))
set_option maxRecDepth 100000 in
theorem S_B_X8_removeStyle_12 (g0 : vG) : Snd yX8_removeStyle cX8_removeStyle 4 none 5 0 0 g0 12 B_X8_removeStyle_12 := s_ildn (j := 3) (pc' := 13) (by decide +kernel) rfl rfl (s_aldn (j := 0) (pc' := 14) (by decide +kernel) rfl rfl (s_gfr (ci := 8) (j := 2) (pc' := 17) rfl g_ok8 (by decide) (by decide) (by decide) rfl w_127 (by decide +kernel) rfl (s_gfi (ci := 7) (j := 1) (pc' := 20) rfl g_ok7 (by decide) (by decide) (by decide) rfl w_108 (by decide +kernel) rfl (s_icge (off := 28) (pt := 48) (pc' := 23) (by decide +kernel) (by decide) rfl (s_kil s_jmp) (s_aldn (j := 0) (pc' := 24) (by decide +kernel) rfl rfl (s_gfr (ci := 8) (j := 2) (pc' := 27) rfl g_ok8 (by decide) (by decide) (by decide) rfl w_127 (by decide +kernel) rfl (s_gfr (ci := 7) (j := 2) (pc' := 30) rfl g_ok7 (by decide) (by decide) (by decide) rfl w_110 (by decide +kernel) rfl (s_ildn (j := 3) (pc' := 31) (by decide +kernel) rfl rfl (s_ial (pc' := 32) (by decide +kernel) rfl (s_ildn (j := 1) (pc' := 33) (by decide +kernel) rfl rfl (s_seq (s_icne (off := 9) (pt := 42) (pc' := 36) (by decide +kernel) (by decide) rfl (s_jmp) (s_aldn (j := 0) (pc' := 37) (by decide +kernel) rfl rfl (s_ildn (j := 3) (pc' := 38) (by decide +kernel) rfl rfl (s_ildn (j := 2) (pc' := 39) (by decide +kernel) rfl rfl (s_calV (ci := 8) (pc' := 42) C_X8_rebaseStyle A_X8_rebaseStyle rfl (by decide) w_703 (by decide) (by decide +kernel) rfl (s_jmp)))))) (S_K_X8_removeStyle_42 g0))))))))))))
def K_X8_removeStyle_80 : vD := op_inc 3 1 (op_jmp 50)
set_option maxRecDepth 100000 in
theorem S_K_X8_removeStyle_80 (g0 : vG) : Snd yX8_removeStyle cX8_removeStyle 4 none 5 0 0 g0 80 K_X8_removeStyle_80 := s_inc (n := 1) (pc' := 83) (by decide +kernel) (by decide +kernel) (by decide) rfl (s_goto (off := (-33)) (pt := 50) (by decide +kernel) (by decide) (s_jmp))
def B_X8_removeStyle_50 : vD := op_ild 3 (op_ald 0 (op_gfr 8 3 (op_gfi 7 1 (op_icge (op_kil [true, true, false, false] (op_jmp 86)) (op_ald 0 (op_gfr 8 3 (op_gfr 7 2 (op_ild 3 (op_ial (op_ild 1 (op_seq 80 (op_icne (op_jmp 80) (op_ald 0 (op_ild 3 (op_ild 2 (op_calV 8 2 F_X8_rebaseParagraph (op_jmp 80)))))) K_X8_removeStyle_80)))))))))))
set_option maxRecDepth 100000 in
theorem S_B_X8_removeStyle_50 (g0 : vG) : Snd yX8_removeStyle cX8_removeStyle 4 none 5 0 0 g0 50 B_X8_removeStyle_50 := s_ildn (j := 3) (pc' := 51) (by decide +kernel) rfl rfl (s_aldn (j := 0) (pc' := 52) (by decide +kernel) rfl rfl (s_gfr (ci := 8) (j := 3) (pc' := 55) rfl g_ok8 (by decide) (by decide) (by decide) rfl w_129 (by decide +kernel) rfl (s_gfi (ci := 7) (j := 1) (pc' := 58) rfl g_ok7 (by decide) (by decide) (by decide) rfl w_108 (by decide +kernel) rfl (s_icge (off := 28) (pt := 86) (pc' := 61) (by decide +kernel) (by decide) rfl (s_kil s_jmp) (s_aldn (j := 0) (pc' := 62) (by decide +kernel) rfl rfl (s_gfr (ci := 8) (j := 3) (pc' := 65) rfl g_ok8 (by decide) (by decide) (by decide) rfl w_129 (by decide +kernel) rfl (s_gfr (ci := 7) (j := 2) (pc' := 68) rfl g_ok7 (by decide) (by decide) (by decide) rfl w_110 (by decide +kernel) rfl (s_ildn (j := 3) (pc' := 69) (by decide +kernel) rfl rfl (s_ial (pc' := 70) (by decide +kernel) rfl (s_ildn (j := 1) (pc' := 71) (by decide +kernel) rfl rfl (s_seq (s_icne (off := 9) (pt := 80) (pc' := 74) (by decide +kernel) (by decide) rfl (s_jmp) (s_aldn (j := 0) (pc' := 75) (by decide +kernel) rfl rfl (s_ildn (j := 3) (pc' := 76) (by decide +kernel) rfl rfl (s_ildn (j := 2) (pc' := 77) (by decide +kernel) rfl rfl (s_calV (ci := 8) (pc' := 80) C_X8_rebaseParagraph A_X8_rebaseParagraph rfl (by decide) w_704 (by decide) (by decide +kernel) rfl (s_jmp)))))) (S_K_X8_removeStyle_80 g0))))))))))))
def K_X8_removeStyle_86 : vD := op_ald 0 (op_gfr 8 2 (op_ild 1 (op_calV 7 1 F_X7_remove (op_ald 0 (op_gfr 8 2 (op_ild 1 (op_calV 7 1 F_X7_renumberBases (op_ald 0 (op_gfr 8 3 (op_ild 1 (op_calV 7 1 F_X7_renumberBases (op_vret))))))))))))
set_option maxRecDepth 100000 in
theorem S_K_X8_removeStyle_86 (g0 : vG) : Snd yX8_removeStyle cX8_removeStyle 4 none 5 0 0 g0 86 K_X8_removeStyle_86 := s_aldn (j := 0) (pc' := 87) (by decide +kernel) rfl rfl (s_gfr (ci := 8) (j := 2) (pc' := 90) rfl g_ok8 (by decide) (by decide) (by decide) rfl w_127 (by decide +kernel) rfl (s_ildn (j := 1) (pc' := 91) (by decide +kernel) rfl rfl (s_calV (ci := 7) (pc' := 94) C_X7_remove A_X7_remove rfl (by decide) w_705 (by decide) (by decide +kernel) rfl (s_aldn (j := 0) (pc' := 95) (by decide +kernel) rfl rfl (s_gfr (ci := 8) (j := 2) (pc' := 98) rfl g_ok8 (by decide) (by decide) (by decide) rfl w_127 (by decide +kernel) rfl (s_ildn (j := 1) (pc' := 99) (by decide +kernel) rfl rfl (s_calV (ci := 7) (pc' := 102) C_X7_renumberBases A_X7_renumberBases rfl (by decide) w_709 (by decide) (by decide +kernel) rfl (s_aldn (j := 0) (pc' := 103) (by decide +kernel) rfl rfl (s_gfr (ci := 8) (j := 3) (pc' := 106) rfl g_ok8 (by decide) (by decide) (by decide) rfl w_129 (by decide +kernel) rfl (s_ildn (j := 1) (pc' := 107) (by decide +kernel) rfl rfl (s_calV (ci := 7) (pc' := 110) C_X7_renumberBases A_X7_renumberBases rfl (by decide) w_709 (by decide) (by decide +kernel) rfl (s_vret (by decide +kernel) rfl rfl rfl))))))))))))
def K_X8_removeStyle_48 : vD := op_con 0 (op_ist 3 (op_seq 86 (op_loop 50 B_X8_removeStyle_50 4000) K_X8_removeStyle_86))
set_option maxRecDepth 100000 in
theorem S_K_X8_removeStyle_48 (g0 : vG) : Snd yX8_removeStyle cX8_removeStyle 4 none 5 0 0 g0 48 K_X8_removeStyle_48 := s_con (n := 0) (pc' := 49) (by decide +kernel) (by decide +kernel) rfl (s_istn (j := 3) (pc' := 50) (by decide +kernel) rfl (by decide) rfl (s_seq (s_loop (S_B_X8_removeStyle_50 g0) 4000) (S_K_X8_removeStyle_86 g0)))
def D_X8_removeStyle : vD := op_ald 0 (op_gfr 8 2 (op_gfr 7 2 (op_ild 1 (op_ial (op_ist 2 (op_con 0 (op_ist 3 (op_seq 48 (op_loop 12 B_X8_removeStyle_12 4000) K_X8_removeStyle_48))))))))
set_option maxRecDepth 100000 in
theorem S_D_X8_removeStyle (g0 : vG) : Snd yX8_removeStyle cX8_removeStyle 4 none 5 0 0 g0 0 D_X8_removeStyle := s_aldn (j := 0) (pc' := 1) (by decide +kernel) rfl rfl (s_gfr (ci := 8) (j := 2) (pc' := 4) rfl g_ok8 (by decide) (by decide) (by decide) rfl w_127 (by decide +kernel) rfl (s_gfr (ci := 7) (j := 2) (pc' := 7) rfl g_ok7 (by decide) (by decide) (by decide) rfl w_110 (by decide +kernel) rfl (s_ildn (j := 1) (pc' := 8) (by decide +kernel) rfl rfl (s_ial (pc' := 9) (by decide +kernel) rfl (s_istn (j := 2) (pc' := 10) (by decide +kernel) rfl (by decide) rfl (s_con (n := 0) (pc' := 11) (by decide +kernel) (by decide +kernel) rfl (s_istn (j := 3) (pc' := 12) (by decide +kernel) rfl (by decide) rfl (s_seq (s_loop (S_B_X8_removeStyle_12 g0) 4000) (S_K_X8_removeStyle_48 g0)))))))))
def F_X8_removeStyle : vF := runD D_X8_removeStyle 4
theorem C_X8_removeStyle : Ctr yX8_removeStyle cX8_removeStyle 4 none 5 0 0 F_X8_removeStyle := ctr_of (d := fun _ => D_X8_removeStyle) (by decide +kernel) S_D_X8_removeStyle
theorem A_X8_removeStyle : CaV yX8_removeStyle cX8_removeStyle 4 none 1 := ⟨w_700, w_701, w_67, w_702, by unfold Nm; decide +kernel⟩
def B_X8_replaceStyles_2 : vD := op_ild 2 (op_ald 0 (op_gfr 8 3 (op_gfi 7 1 (op_icge (op_kil [true, true, false] (op_jmp 25)) (op_ald 0 (op_ild 2 (op_con (-1) (op_calV 8 2 F_X8_rebaseParagraph (op_inc 2 1 (op_jmp 2))))))))))
set_option maxRecDepth 100000 in
theorem S_B_X8_replaceStyles_2 (g0 : vG) : Snd yX8_replaceStyles cX8_replaceStyles 3 none 5 0 0 g0 2 B_X8_replaceStyles_2 := s_ildn (j := 2) (pc' := 3) (by decide +kernel) rfl rfl (s_aldn (j := 0) (pc' := 4) (by decide +kernel) rfl rfl (s_gfr (ci := 8) (j := 3) (pc' := 7) rfl g_ok8 (by decide) (by decide) (by decide) rfl w_129 (by decide +kernel) rfl (s_gfi (ci := 7) (j := 1) (pc' := 10) rfl g_ok7 (by decide) (by decide) (by decide) rfl w_108 (by decide +kernel) rfl (s_icge (off := 15) (pt := 25) (pc' := 13) (by decide +kernel) (by decide) rfl (s_kil s_jmp) (s_aldn (j := 0) (pc' := 14) (by decide +kernel) rfl rfl (s_ildn (j := 2) (pc' := 15) (by decide +kernel) rfl rfl (s_con (n := (-1)) (pc' := 16) (by decide +kernel) (by decide +kernel) rfl (s_calV (ci := 8) (pc' := 19) C_X8_rebaseParagraph A_X8_rebaseParagraph rfl (by decide) w_704 (by decide) (by decide +kernel) rfl (s_inc (n := 1) (pc' := 22) (by decide +kernel) (by decide +kernel) (by decide) rfl (s_goto (off := (-20)) (pt := 2) (by decide +kernel) (by decide) (s_jmp)))))))))))
def B_X8_replaceStyles_35 : vD := op_ild 2 (op_ald 1 (op_gfi 2 0 (op_icge (op_kil [true, true, false] (op_jmp 67)) (op_ald 0 (op_gfr 8 2 (op_calV 7 0 F_X7_hasRoom (op_ifeq (op_kil [true, true, false] (op_jmp 67)) (op_ald 0 (op_gfr 8 2 (op_calV 7 0 F_X7_append (op_pop (op_inc 2 1 (op_jmp 35)))))))))))))
set_option maxRecDepth 100000 in
theorem S_B_X8_replaceStyles_35 (g0 : vG) : Snd yX8_replaceStyles cX8_replaceStyles 3 none 5 0 0 g0 35 B_X8_replaceStyles_35 := s_ildn (j := 2) (pc' := 36) (by decide +kernel) rfl rfl (s_aldn (j := 1) (pc' := 37) (by decide +kernel) rfl rfl (s_gfi (ci := 2) (j := 0) (pc' := 40) rfl g_ok2 (by decide) (by decide) (by decide) rfl w_228 (by decide +kernel) rfl (s_icge (off := 27) (pt := 67) (pc' := 43) (by decide +kernel) (by decide) rfl (s_kil s_jmp) (s_aldn (j := 0) (pc' := 44) (by decide +kernel) rfl rfl (s_gfr (ci := 8) (j := 2) (pc' := 47) rfl g_ok8 (by decide) (by decide) (by decide) rfl w_127 (by decide +kernel) rfl (s_calV (ci := 7) (pc' := 50) C_X7_hasRoom A_X7_hasRoom rfl (by decide) w_751 (by decide) (by decide +kernel) rfl (s_ifeq (off := 17) (pt := 67) (pc' := 53) (by decide +kernel) (by decide) rfl (s_kil s_jmp) (s_aldn (j := 0) (pc' := 54) (by decide +kernel) rfl rfl (s_gfr (ci := 8) (j := 2) (pc' := 57) rfl g_ok8 (by decide) (by decide) (by decide) rfl w_127 (by decide +kernel) rfl (s_calV (ci := 7) (pc' := 60) C_X7_append A_X7_append rfl (by decide) w_752 (by decide) (by decide +kernel) rfl (s_pop (pc' := 61) (by decide +kernel) rfl (s_inc (n := 1) (pc' := 64) (by decide +kernel) (by decide +kernel) (by decide) rfl (s_goto (off := (-29)) (pt := 35) (by decide +kernel) (by decide) (s_jmp))))))))))))))
def B_X8_replaceStyles_74 : vD := op_ild 2 (op_ald 0 (op_gfr 8 3 (op_gfi 7 1 (op_icge (op_kil [false, false, false] (op_jmp 105)) (op_ald 0 (op_ild 2 (op_ald 0 (op_ald 0 (op_ild 2 (op_calV 8 1 F_X8_paragraphLook (op_calV 8 1 F_X8_nearestStyle (op_calV 8 2 F_X8_rebaseParagraph (op_inc 2 1 (op_kil [true, false, true] (op_jmp 74)))))))))))))))
set_option maxRecDepth 100000 in
theorem S_B_X8_replaceStyles_74 (g0 : vG) : Snd yX8_replaceStyles cX8_replaceStyles 3 none 5 0 0 g0 74 B_X8_replaceStyles_74 := s_ildn (j := 2) (pc' := 75) (by decide +kernel) rfl rfl (s_aldn (j := 0) (pc' := 76) (by decide +kernel) rfl rfl (s_gfr (ci := 8) (j := 3) (pc' := 79) rfl g_ok8 (by decide) (by decide) (by decide) rfl w_129 (by decide +kernel) rfl (s_gfi (ci := 7) (j := 1) (pc' := 82) rfl g_ok7 (by decide) (by decide) (by decide) rfl w_108 (by decide +kernel) rfl (s_icge (off := 23) (pt := 105) (pc' := 85) (by decide +kernel) (by decide) rfl (s_kil s_jmp) (s_aldn (j := 0) (pc' := 86) (by decide +kernel) rfl rfl (s_ildn (j := 2) (pc' := 87) (by decide +kernel) rfl rfl (s_aldn (j := 0) (pc' := 88) (by decide +kernel) rfl rfl (s_aldn (j := 0) (pc' := 89) (by decide +kernel) rfl rfl (s_ildn (j := 2) (pc' := 90) (by decide +kernel) rfl rfl (s_calV (ci := 8) (pc' := 93) C_X8_paragraphLook A_X8_paragraphLook rfl (by decide) w_681 (by decide) (by decide +kernel) rfl (s_calV (ci := 8) (pc' := 96) C_X8_nearestStyle A_X8_nearestStyle rfl (by decide) w_754 (by decide) (by decide +kernel) rfl (s_calV (ci := 8) (pc' := 99) C_X8_rebaseParagraph A_X8_rebaseParagraph rfl (by decide) w_704 (by decide) (by decide +kernel) rfl (s_inc (n := 1) (pc' := 102) (by decide +kernel) (by decide +kernel) (by decide) rfl (s_goto (off := (-28)) (pt := 74) (by decide +kernel) (by decide) (s_kil s_jmp)))))))))))))))
def K_X8_replaceStyles_105 : vD := op_vret
set_option maxRecDepth 100000 in
theorem S_K_X8_replaceStyles_105 (g0 : vG) : Snd yX8_replaceStyles cX8_replaceStyles 3 none 5 0 0 g0 105 K_X8_replaceStyles_105 := s_vret (by decide +kernel) rfl rfl rfl
def K_X8_replaceStyles_67 : vD := op_ald 0 (op_ald 1 (op_calV 8 1 F_X8_layStyles (op_con 0 (op_ist 2 (op_seq 105 (op_kil [true, false, true] (op_loop 74 B_X8_replaceStyles_74 4000)) K_X8_replaceStyles_105)))))
set_option maxRecDepth 100000 in
theorem S_K_X8_replaceStyles_67 (g0 : vG) : Snd yX8_replaceStyles cX8_replaceStyles 3 none 5 0 0 g0 67 K_X8_replaceStyles_67 := s_aldn (j := 0) (pc' := 68) (by decide +kernel) rfl rfl (s_aldn (j := 1) (pc' := 69) (by decide +kernel) rfl rfl (s_calV (ci := 8) (pc' := 72) C_X8_layStyles A_X8_layStyles rfl (by decide) w_753 (by decide) (by decide +kernel) rfl (s_con (n := 0) (pc' := 73) (by decide +kernel) (by decide +kernel) rfl (s_istn (j := 2) (pc' := 74) (by decide +kernel) rfl (by decide) rfl (s_seq (s_kil (s_loop (S_B_X8_replaceStyles_74 g0) 4000)) (S_K_X8_replaceStyles_105 g0))))))
def K_X8_replaceStyles_25 : vD := op_ald 0 (op_gfr 8 2 (op_con 0 (op_pfi 7 1 (op_con 0 (op_ist 2 (op_seq 67 (op_loop 35 B_X8_replaceStyles_35 4000) K_X8_replaceStyles_67))))))
set_option maxRecDepth 100000 in
theorem S_K_X8_replaceStyles_25 (g0 : vG) : Snd yX8_replaceStyles cX8_replaceStyles 3 none 5 0 0 g0 25 K_X8_replaceStyles_25 := s_aldn (j := 0) (pc' := 26) (by decide +kernel) rfl rfl (s_gfr (ci := 8) (j := 2) (pc' := 29) rfl g_ok8 (by decide) (by decide) (by decide) rfl w_127 (by decide +kernel) rfl (s_con (n := 0) (pc' := 30) (by decide +kernel) (by decide +kernel) rfl (s_pfi (ci := 7) (j := 1) (pc' := 33) rfl g_ok7 tyX7 tyX7_ok nmX7 (by decide) (by decide) (by decide) rfl rfl rfl w_108 (by decide +kernel) rfl (s_con (n := 0) (pc' := 34) (by decide +kernel) (by decide +kernel) rfl (s_istn (j := 2) (pc' := 35) (by decide +kernel) rfl (by decide) rfl (s_seq (s_loop (S_B_X8_replaceStyles_35 g0) 4000) (S_K_X8_replaceStyles_67 g0)))))))
def D_X8_replaceStyles : vD := op_con 0 (op_ist 2 (op_seq 25 (op_loop 2 B_X8_replaceStyles_2 4000) K_X8_replaceStyles_25))
set_option maxRecDepth 100000 in
theorem S_D_X8_replaceStyles (g0 : vG) : Snd yX8_replaceStyles cX8_replaceStyles 3 none 5 0 0 g0 0 D_X8_replaceStyles := s_con (n := 0) (pc' := 1) (by decide +kernel) (by decide +kernel) rfl (s_istn (j := 2) (pc' := 2) (by decide +kernel) rfl (by decide) rfl (s_seq (s_loop (S_B_X8_replaceStyles_2 g0) 4000) (S_K_X8_replaceStyles_25 g0)))
def F_X8_replaceStyles : vF := runD D_X8_replaceStyles 3
theorem C_X8_replaceStyles : Ctr yX8_replaceStyles cX8_replaceStyles 3 none 5 0 0 F_X8_replaceStyles := ctr_of (d := fun _ => D_X8_replaceStyles) (by decide +kernel) S_D_X8_replaceStyles
theorem A_X8_replaceStyles : CaV yX8_replaceStyles cX8_replaceStyles 3 none 1 := ⟨w_748, w_749, w_67, w_750, by unfold Nm; decide +kernel⟩
end
section
/-! ===== fragments and contracts, by program (wip/whole/gen.py) ===== -/
def B_X0_paragraphCosts_5 : vD := op_ild 4 (op_ald 1 (op_gfi 5 0 (op_icge (op_kil [false, false, false, true, false] (op_jmp 43)) (op_ild 3 (op_ald 1 (op_gfr 5 2 (op_ild 4 (op_ial (op_ald 0 (op_gfr 0 2 (op_gfr 6 0 (op_ild 4 (op_aal 3 (op_ild 2 (op_ial (op_bin f_mul (op_bin f_add (op_ist 3 (op_inc 4 1 (op_jmp 5))))))))))))))))))))
set_option maxRecDepth 100000 in
theorem S_B_X0_paragraphCosts_5 (g0 : vG) : Snd yX0_paragraphCosts cX0_paragraphCosts 5 (some .int) 0 0 0 g0 5 B_X0_paragraphCosts_5 := s_ild (pc' := 7) (by decide +kernel) rfl (s_aldn (j := 1) (pc' := 8) (by decide +kernel) rfl rfl (s_gfi (ci := 5) (j := 0) (pc' := 11) rfl g_ok5 (by decide) (by decide) (by decide) rfl w_191 (by decide +kernel) rfl (s_icge (off := 32) (pt := 43) (pc' := 14) (by decide +kernel) (by decide) rfl (s_kil s_jmp) (s_ildn (j := 3) (pc' := 15) (by decide +kernel) rfl rfl (s_aldn (j := 1) (pc' := 16) (by decide +kernel) rfl rfl (s_gfr (ci := 5) (j := 2) (pc' := 19) rfl g_ok5 (by decide) (by decide) (by decide) rfl w_199 (by decide +kernel) rfl (s_ild (pc' := 21) (by decide +kernel) rfl (s_ial (pc' := 22) (by decide +kernel) rfl (s_aldn (j := 0) (pc' := 23) (by decide +kernel) rfl rfl (s_gfr (ci := 0) (j := 2) (pc' := 26) rfl g_ok0 (by decide) (by decide) (by decide) rfl w_262 (by decide +kernel) rfl (s_gfr (ci := 6) (j := 0) (pc' := 29) rfl g_ok6 (by decide) (by decide) (by decide) rfl w_222 (by decide +kernel) rfl (s_ild (pc' := 31) (by decide +kernel) rfl (s_aal (t := 3) (pc' := 32) (by decide) (fun _ => rfl) rfl (by decide +kernel) rfl (s_ildn (j := 2) (pc' := 33) (by decide +kernel) rfl rfl (s_ial (pc' := 34) (by decide +kernel) rfl (s_mul (pc' := 35) (by decide +kernel) rfl (s_add (pc' := 36) (by decide +kernel) rfl (s_istn (j := 3) (pc' := 37) (by decide +kernel) rfl (by decide) rfl (s_inc (n := 1) (pc' := 40) (by decide +kernel) (by decide +kernel) (by decide) rfl (s_goto (off := (-35)) (pt := 5) (by decide +kernel) (by decide) (s_jmp)))))))))))))))))))))
def K_X0_paragraphCosts_43 : vD := op_ild 3 (op_ret)
set_option maxRecDepth 100000 in
theorem S_K_X0_paragraphCosts_43 (g0 : vG) : Snd yX0_paragraphCosts cX0_paragraphCosts 5 (some .int) 0 0 0 g0 43 K_X0_paragraphCosts_43 := s_ildn (j := 3) (pc' := 44) (by decide +kernel) rfl rfl (s_iret (by decide +kernel) rfl rfl rfl)
def D_X0_paragraphCosts : vD := op_con 0 (op_ist 3 (op_con 0 (op_ist 4 (op_seq 43 (op_loop 5 B_X0_paragraphCosts_5 4000) K_X0_paragraphCosts_43))))
set_option maxRecDepth 100000 in
theorem S_D_X0_paragraphCosts (g0 : vG) : Snd yX0_paragraphCosts cX0_paragraphCosts 5 (some .int) 0 0 0 g0 0 D_X0_paragraphCosts := s_con (n := 0) (pc' := 1) (by decide +kernel) (by decide +kernel) rfl (s_istn (j := 3) (pc' := 2) (by decide +kernel) rfl (by decide) rfl (s_con (n := 0) (pc' := 3) (by decide +kernel) (by decide +kernel) rfl (s_ist (pc' := 5) (by decide +kernel) (by decide) rfl (s_seq (s_loop (S_B_X0_paragraphCosts_5 g0) 4000) (S_K_X0_paragraphCosts_43 g0)))))
def F_X0_paragraphCosts : vF := runD D_X0_paragraphCosts 5
theorem C_X0_paragraphCosts : Ctr yX0_paragraphCosts cX0_paragraphCosts 5 (some .int) 0 0 0 F_X0_paragraphCosts := ctr_of (d := fun _ => D_X0_paragraphCosts) (by decide +kernel) S_D_X0_paragraphCosts
theorem A_X0_paragraphCosts : CaV yX0_paragraphCosts cX0_paragraphCosts 5 (some .int) 2 := ⟨w_457, w_7, w_75, w_458, by unfold Nm; decide +kernel⟩
def D_X1_append : vD := op_ald 0 (op_gfr 1 1 (op_ald 0 (op_gfi 1 0 (op_ild 1 (op_ias (op_ald 0 (op_gfr 1 2 (op_ald 0 (op_gfi 1 0 (op_ild 2 (op_ias (op_ald 0 (op_gfr 1 3 (op_ald 0 (op_gfi 1 0 (op_ild 3 (op_ias (op_ald 0 (op_dup (op_gfi 1 0 (op_con 1 (op_bin f_add (op_pfi 1 0 (op_vret))))))))))))))))))))))))
set_option maxRecDepth 100000 in
theorem S_D_X1_append (g0 : vG) : Snd yX1_append cX1_append 4 none 0 0 0 g0 0 D_X1_append := s_aldn (j := 0) (pc' := 1) (by decide +kernel) rfl rfl (s_gfr (ci := 1) (j := 1) (pc' := 4) rfl g_ok1 (by decide) (by decide) (by decide) rfl w_170 (by decide +kernel) rfl (s_aldn (j := 0) (pc' := 5) (by decide +kernel) rfl rfl (s_gfi (ci := 1) (j := 0) (pc' := 8) rfl g_ok1 (by decide) (by decide) (by decide) rfl w_168 (by decide +kernel) rfl (s_ildn (j := 1) (pc' := 9) (by decide +kernel) rfl rfl (s_ias (pc' := 10) (by decide +kernel) rfl (s_aldn (j := 0) (pc' := 11) (by decide +kernel) rfl rfl (s_gfr (ci := 1) (j := 2) (pc' := 14) rfl g_ok1 (by decide) (by decide) (by decide) rfl w_171 (by decide +kernel) rfl (s_aldn (j := 0) (pc' := 15) (by decide +kernel) rfl rfl (s_gfi (ci := 1) (j := 0) (pc' := 18) rfl g_ok1 (by decide) (by decide) (by decide) rfl w_168 (by decide +kernel) rfl (s_ildn (j := 2) (pc' := 19) (by decide +kernel) rfl rfl (s_ias (pc' := 20) (by decide +kernel) rfl (s_aldn (j := 0) (pc' := 21) (by decide +kernel) rfl rfl (s_gfr (ci := 1) (j := 3) (pc' := 24) rfl g_ok1 (by decide) (by decide) (by decide) rfl w_172 (by decide +kernel) rfl (s_aldn (j := 0) (pc' := 25) (by decide +kernel) rfl rfl (s_gfi (ci := 1) (j := 0) (pc' := 28) rfl g_ok1 (by decide) (by decide) (by decide) rfl w_168 (by decide +kernel) rfl (s_ildn (j := 3) (pc' := 29) (by decide +kernel) rfl rfl (s_ias (pc' := 30) (by decide +kernel) rfl (s_aldn (j := 0) (pc' := 31) (by decide +kernel) rfl rfl (s_dup (pc' := 32) (by decide +kernel) rfl (s_gfi (ci := 1) (j := 0) (pc' := 35) rfl g_ok1 (by decide) (by decide) (by decide) rfl w_168 (by decide +kernel) rfl (s_con (n := 1) (pc' := 36) (by decide +kernel) (by decide +kernel) rfl (s_add (pc' := 37) (by decide +kernel) rfl (s_pfi (ci := 1) (j := 0) (pc' := 40) rfl g_ok1 tyX1 tyX1_ok nmX1 (by decide) (by decide) (by decide) rfl rfl rfl w_168 (by decide +kernel) rfl (s_vret (by decide +kernel) rfl rfl rfl))))))))))))))))))))))))
def F_X1_append : vF := runD D_X1_append 4
theorem C_X1_append : Ctr yX1_append cX1_append 4 none 0 0 0 F_X1_append := ctr_of (d := fun _ => D_X1_append) (by decide +kernel) S_D_X1_append
theorem A_X1_append : CaV yX1_append cX1_append 4 none 3 := ⟨w_789, w_790, w_71, w_791, by unfold Nm; decide +kernel⟩
def D_X1_clear : vD := op_ald 0 (op_gfi 1 0 (op_ist 1 (op_ald 0 (op_con 0 (op_pfi 1 0 (op_ild 1 (op_ret)))))))
set_option maxRecDepth 100000 in
theorem S_D_X1_clear (g0 : vG) : Snd yX1_clear cX1_clear 2 (some .int) 0 0 0 g0 0 D_X1_clear := s_aldn (j := 0) (pc' := 1) (by decide +kernel) rfl rfl (s_gfi (ci := 1) (j := 0) (pc' := 4) rfl g_ok1 (by decide) (by decide) (by decide) rfl w_168 (by decide +kernel) rfl (s_istn (j := 1) (pc' := 5) (by decide +kernel) rfl (by decide) rfl (s_aldn (j := 0) (pc' := 6) (by decide +kernel) rfl rfl (s_con (n := 0) (pc' := 7) (by decide +kernel) (by decide +kernel) rfl (s_pfi (ci := 1) (j := 0) (pc' := 10) rfl g_ok1 tyX1 tyX1_ok nmX1 (by decide) (by decide) (by decide) rfl rfl rfl w_168 (by decide +kernel) rfl (s_ildn (j := 1) (pc' := 11) (by decide +kernel) rfl rfl (s_iret (by decide +kernel) rfl rfl rfl)))))))
def F_X1_clear : vF := runD D_X1_clear 2
theorem C_X1_clear : Ctr yX1_clear cX1_clear 2 (some .int) 0 0 0 F_X1_clear := ctr_of (d := fun _ => D_X1_clear) (by decide +kernel) S_D_X1_clear
theorem A_X1_clear : CaV yX1_clear cX1_clear 2 (some .int) 0 := ⟨w_797, w_798, w_71, w_799, by unfold Nm; decide +kernel⟩
def K_X1_hasRoom_14 : vD := op_zret
set_option maxRecDepth 100000 in
theorem S_K_X1_hasRoom_14 (g0 : vG) : Snd yX1_hasRoom cX1_hasRoom 1 (some .boolean) 0 0 0 g0 14 K_X1_hasRoom_14 := s_zret (by decide +kernel) rfl nar_bool rfl rfl
def D_X1_hasRoom : vD := op_ald 0 (op_gfi 1 0 (op_con 20 (op_seq 14 (op_icge (op_con 0 (op_kil [false] (op_jmp 14))) (op_con 1 (op_kil [false] (op_jmp 14)))) K_X1_hasRoom_14)))
set_option maxRecDepth 100000 in
theorem S_D_X1_hasRoom (g0 : vG) : Snd yX1_hasRoom cX1_hasRoom 1 (some .boolean) 0 0 0 g0 0 D_X1_hasRoom := s_aldn (j := 0) (pc' := 1) (by decide +kernel) rfl rfl (s_gfi (ci := 1) (j := 0) (pc' := 4) rfl g_ok1 (by decide) (by decide) (by decide) rfl w_168 (by decide +kernel) rfl (s_bip (n := 20) (pc' := 6) (by decide +kernel) (by decide +kernel) rfl (s_seq (s_icge (off := 7) (pt := 13) (pc' := 9) (by decide +kernel) (by decide) rfl (s_con (n := 0) (pc' := 14) (by decide +kernel) (by decide +kernel) rfl (s_kil s_jmp)) (s_con (n := 1) (pc' := 10) (by decide +kernel) (by decide +kernel) rfl (s_goto (off := 4) (pt := 14) (by decide +kernel) (by decide) (s_kil s_jmp)))) (S_K_X1_hasRoom_14 g0))))
def F_X1_hasRoom : vF := runD D_X1_hasRoom 1
theorem C_X1_hasRoom : Ctr yX1_hasRoom cX1_hasRoom 1 (some .boolean) 0 0 0 F_X1_hasRoom := ctr_of (d := fun _ => D_X1_hasRoom) (by decide +kernel) S_D_X1_hasRoom
theorem A_X1_hasRoom : CaV yX1_hasRoom cX1_hasRoom 1 (some .boolean) 0 := ⟨w_785, w_786, w_71, w_787, by unfold Nm; decide +kernel⟩
def D_X3_forget : vD := op_ald 0 (op_con 0 (op_pfi 3 0 (op_vret)))
set_option maxRecDepth 100000 in
theorem S_D_X3_forget (g0 : vG) : Snd yX3_forget cX3_forget 1 none 0 0 0 g0 0 D_X3_forget := s_aldn (j := 0) (pc' := 1) (by decide +kernel) rfl rfl (s_con (n := 0) (pc' := 2) (by decide +kernel) (by decide +kernel) rfl (s_pfi (ci := 3) (j := 0) (pc' := 5) rfl g_ok3 tyX3 tyX3_ok nmX3 (by decide) (by decide) (by decide) rfl rfl rfl w_151 (by decide +kernel) rfl (s_vret (by decide +kernel) rfl rfl rfl)))
def F_X3_forget : vF := runD D_X3_forget 1
theorem C_X3_forget : Ctr yX3_forget cX3_forget 1 none 0 0 0 F_X3_forget := ctr_of (d := fun _ => D_X3_forget) (by decide +kernel) S_D_X3_forget
theorem A_X3_forget : CaV yX3_forget cX3_forget 1 none 0 := ⟨w_810, w_811, w_70, w_812, by unfold Nm; decide +kernel⟩
def K_X5_holds_16 : vD := op_con 0 (op_kil [false, false] (op_jmp 17))
set_option maxRecDepth 100000 in
theorem S_K_X5_holds_16 (g0 : vG) : Snd yX5_holds cX5_holds 2 (some .boolean) 0 0 0 g0 16 K_X5_holds_16 := s_con (n := 0) (pc' := 17) (by decide +kernel) (by decide +kernel) rfl (s_kil s_jmp)
def K_X5_holds_17 : vD := op_zret
set_option maxRecDepth 100000 in
theorem S_K_X5_holds_17 (g0 : vG) : Snd yX5_holds cX5_holds 2 (some .boolean) 0 0 0 g0 17 K_X5_holds_17 := s_zret (by decide +kernel) rfl nar_bool rfl rfl
def D_X5_holds : vD := op_ild 1 (op_seq 17 (op_seq 16 (op_iflt (op_kil [false, false] (op_jmp 16)) (op_ild 1 (op_ald 0 (op_gfi 5 0 (op_icge (op_kil [false, false] (op_jmp 16)) (op_con 1 (op_kil [false, false] (op_jmp 17)))))))) K_X5_holds_16) K_X5_holds_17)
set_option maxRecDepth 100000 in
theorem S_D_X5_holds (g0 : vG) : Snd yX5_holds cX5_holds 2 (some .boolean) 0 0 0 g0 0 D_X5_holds := s_ildn (j := 1) (pc' := 1) (by decide +kernel) rfl rfl (s_seq (s_seq (s_iflt (off := 15) (pt := 16) (pc' := 4) (by decide +kernel) (by decide) rfl (s_kil s_jmp) (s_ildn (j := 1) (pc' := 5) (by decide +kernel) rfl rfl (s_aldn (j := 0) (pc' := 6) (by decide +kernel) rfl rfl (s_gfi (ci := 5) (j := 0) (pc' := 9) rfl g_ok5 (by decide) (by decide) (by decide) rfl w_190 (by decide +kernel) rfl (s_icge (off := 7) (pt := 16) (pc' := 12) (by decide +kernel) (by decide) rfl (s_kil s_jmp) (s_con (n := 1) (pc' := 13) (by decide +kernel) (by decide +kernel) rfl (s_goto (off := 4) (pt := 17) (by decide +kernel) (by decide) (s_kil s_jmp)))))))) (S_K_X5_holds_16 g0)) (S_K_X5_holds_17 g0))
def F_X5_holds : vF := runD D_X5_holds 2
theorem C_X5_holds : Ctr yX5_holds cX5_holds 2 (some .boolean) 0 0 0 F_X5_holds := ctr_of (d := fun _ => D_X5_holds) (by decide +kernel) S_D_X5_holds
theorem A_X5_holds : CaV yX5_holds cX5_holds 2 (some .boolean) 1 := ⟨w_584, w_585, w_72, w_586, by unfold Nm; decide +kernel⟩
def B_X5_numberOf_2 : vD := op_ild 2 (op_ald 0 (op_gfi 5 0 (op_icge (op_kil [false, false, true] (op_jmp 26)) (op_ald 0 (op_gfr 5 1 (op_ild 2 (op_ial (op_ild 1 (op_icge (op_kil [false, false, true] (op_jmp 26)) (op_inc 2 1 (op_jmp 2)))))))))))
set_option maxRecDepth 100000 in
theorem S_B_X5_numberOf_2 (g0 : vG) : Snd yX5_numberOf cX5_numberOf 3 (some .int) 0 0 0 g0 2 B_X5_numberOf_2 := s_ildn (j := 2) (pc' := 3) (by decide +kernel) rfl rfl (s_aldn (j := 0) (pc' := 4) (by decide +kernel) rfl rfl (s_gfi (ci := 5) (j := 0) (pc' := 7) rfl g_ok5 (by decide) (by decide) (by decide) rfl w_190 (by decide +kernel) rfl (s_icge (off := 19) (pt := 26) (pc' := 10) (by decide +kernel) (by decide) rfl (s_kil s_jmp) (s_aldn (j := 0) (pc' := 11) (by decide +kernel) rfl rfl (s_gfr (ci := 5) (j := 1) (pc' := 14) rfl g_ok5 (by decide) (by decide) (by decide) rfl w_194 (by decide +kernel) rfl (s_ildn (j := 2) (pc' := 15) (by decide +kernel) rfl rfl (s_ial (pc' := 16) (by decide +kernel) rfl (s_ildn (j := 1) (pc' := 17) (by decide +kernel) rfl rfl (s_icge (off := 9) (pt := 26) (pc' := 20) (by decide +kernel) (by decide) rfl (s_kil s_jmp) (s_inc (n := 1) (pc' := 23) (by decide +kernel) (by decide +kernel) (by decide) rfl (s_goto (off := (-21)) (pt := 2) (by decide +kernel) (by decide) (s_jmp))))))))))))
def K_X5_numberOf_26 : vD := op_ild 2 (op_ret)
set_option maxRecDepth 100000 in
theorem S_K_X5_numberOf_26 (g0 : vG) : Snd yX5_numberOf cX5_numberOf 3 (some .int) 0 0 0 g0 26 K_X5_numberOf_26 := s_ildn (j := 2) (pc' := 27) (by decide +kernel) rfl rfl (s_iret (by decide +kernel) rfl rfl rfl)
def D_X5_numberOf : vD := op_con 0 (op_ist 2 (op_seq 26 (op_loop 2 B_X5_numberOf_2 4000) K_X5_numberOf_26))
set_option maxRecDepth 100000 in
theorem S_D_X5_numberOf (g0 : vG) : Snd yX5_numberOf cX5_numberOf 3 (some .int) 0 0 0 g0 0 D_X5_numberOf := s_con (n := 0) (pc' := 1) (by decide +kernel) (by decide +kernel) rfl (s_istn (j := 2) (pc' := 2) (by decide +kernel) rfl (by decide) rfl (s_seq (s_loop (S_B_X5_numberOf_2 g0) 4000) (S_K_X5_numberOf_26 g0)))
def F_X5_numberOf : vF := runD D_X5_numberOf 3
theorem C_X5_numberOf : Ctr yX5_numberOf cX5_numberOf 3 (some .int) 0 0 0 F_X5_numberOf := ctr_of (d := fun _ => D_X5_numberOf) (by decide +kernel) S_D_X5_numberOf
theorem A_X5_numberOf : CaV yX5_numberOf cX5_numberOf 3 (some .int) 1 := ⟨w_385, w_386, w_72, w_387, by unfold Nm; decide +kernel⟩
def K_X0_compare_40 : vD := op_ald 0 (op_ild 1 (op_pfi 0 0 (op_ald 0 (op_ild 2 (op_pfi 0 1 (op_kil [false, false, false, false] (op_jmp 50)))))))
set_option maxRecDepth 100000 in
theorem S_K_X0_compare_40 (g0 : vG) : Snd yX0_compare cX0_compare 4 none 1 0 0 g0 40 K_X0_compare_40 := s_aldn (j := 0) (pc' := 41) (by decide +kernel) rfl rfl (s_ildn (j := 1) (pc' := 42) (by decide +kernel) rfl rfl (s_pfi (ci := 0) (j := 0) (pc' := 45) rfl g_ok0 tyX0 tyX0_ok nmX0 (by decide) (by decide) (by decide) rfl rfl rfl w_258 (by decide +kernel) rfl (s_aldn (j := 0) (pc' := 46) (by decide +kernel) rfl rfl (s_ildn (j := 2) (pc' := 47) (by decide +kernel) rfl rfl (s_pfi (ci := 0) (j := 1) (pc' := 50) rfl g_ok0 tyX0 tyX0_ok nmX0 (by decide) (by decide) (by decide) rfl rfl rfl w_260 (by decide +kernel) rfl (s_kil s_jmp))))))
def K_X0_compare_50 : vD := op_vret
set_option maxRecDepth 100000 in
theorem S_K_X0_compare_50 (g0 : vG) : Snd yX0_compare cX0_compare 4 none 1 0 0 g0 50 K_X0_compare_50 := s_vret (by decide +kernel) rfl rfl rfl
def K_X0_compare_19 : vD := op_ist 3 (op_ild 2 (op_ald 0 (op_gfi 0 1 (op_seq 50 (op_seq 40 (op_iclt (op_kil [true, true, true, false] (op_jmp 40)) (op_ild 2 (op_ald 0 (op_gfi 0 1 (op_icne (op_kil [false, false, false, false] (op_jmp 50)) (op_ild 3 (op_ifeq (op_kil [false, false, false, false] (op_jmp 50)) (op_kil [true, true, true, false] (op_jmp 40))))))))) K_X0_compare_40) K_X0_compare_50))))
set_option maxRecDepth 100000 in
theorem S_K_X0_compare_19 (g0 : vG) : Snd yX0_compare cX0_compare 4 none 1 0 0 g0 19 K_X0_compare_19 := s_istn (j := 3) (pc' := 20) (by decide +kernel) rfl (by decide) rfl (s_ildn (j := 2) (pc' := 21) (by decide +kernel) rfl rfl (s_aldn (j := 0) (pc' := 22) (by decide +kernel) rfl rfl (s_gfi (ci := 0) (j := 1) (pc' := 25) rfl g_ok0 (by decide) (by decide) (by decide) rfl w_260 (by decide +kernel) rfl (s_seq (s_seq (s_iclt (off := 15) (pt := 40) (pc' := 28) (by decide +kernel) (by decide) rfl (s_kil s_jmp) (s_ildn (j := 2) (pc' := 29) (by decide +kernel) rfl rfl (s_aldn (j := 0) (pc' := 30) (by decide +kernel) rfl rfl (s_gfi (ci := 0) (j := 1) (pc' := 33) rfl g_ok0 (by decide) (by decide) (by decide) rfl w_260 (by decide +kernel) rfl (s_icne (off := 17) (pt := 50) (pc' := 36) (by decide +kernel) (by decide) rfl (s_kil s_jmp) (s_ildn (j := 3) (pc' := 37) (by decide +kernel) rfl rfl (s_ifeq (off := 13) (pt := 50) (pc' := 40) (by decide +kernel) (by decide) rfl (s_kil s_jmp) (s_kil s_jmp)))))))) (S_K_X0_compare_40 g0)) (S_K_X0_compare_50 g0)))))
def D_X0_compare : vD := op_ild 1 (op_cal 1 F_J6_bitCount_0f7a4 (op_ald 0 (op_gfi 0 0 (op_cal 1 F_J6_bitCount_0f7a4 (op_seq 19 (op_icge (op_con 0 (op_jmp 19)) (op_con 1 (op_jmp 19))) K_X0_compare_19)))))
set_option maxRecDepth 100000 in
theorem S_D_X0_compare (g0 : vG) : Snd yX0_compare cX0_compare 4 none 1 0 0 g0 0 D_X0_compare := s_ildn (j := 1) (pc' := 1) (by decide +kernel) rfl rfl (s_calS (pc' := 4) C_J6_bitCount_0f7a4 A_J6_bitCount_0f7a4 w_459 (by decide) (by decide +kernel) rfl (s_aldn (j := 0) (pc' := 5) (by decide +kernel) rfl rfl (s_gfi (ci := 0) (j := 0) (pc' := 8) rfl g_ok0 (by decide) (by decide) (by decide) rfl w_258 (by decide +kernel) rfl (s_calS (pc' := 11) C_J6_bitCount_0f7a4 A_J6_bitCount_0f7a4 w_459 (by decide) (by decide +kernel) rfl (s_seq (s_icge (off := 7) (pt := 18) (pc' := 14) (by decide +kernel) (by decide) rfl (s_con (n := 0) (pc' := 19) (by decide +kernel) (by decide +kernel) rfl (s_jmp)) (s_con (n := 1) (pc' := 15) (by decide +kernel) (by decide +kernel) rfl (s_goto (off := 4) (pt := 19) (by decide +kernel) (by decide) (s_jmp)))) (S_K_X0_compare_19 g0))))))
def F_X0_compare : vF := runD D_X0_compare 4
theorem C_X0_compare : Ctr yX0_compare cX0_compare 4 none 1 0 0 F_X0_compare := ctr_of (d := fun _ => D_X0_compare) (by decide +kernel) S_D_X0_compare
theorem A_X0_compare : CaV yX0_compare cX0_compare 4 none 2 := ⟨w_471, w_8, w_75, w_472, by unfold Nm; decide +kernel⟩
def K_X5_enter_24 : vD := op_ald 0 (op_gfr 5 1 (op_ild 2 (op_ald 0 (op_gfr 5 1 (op_ild 2 (op_con 1 (op_bin f_add (op_ald 0 (op_gfi 5 0 (op_ild 2 (op_bin f_sub (op_acp (op_ald 0 (op_gfr 5 2 (op_ild 2 (op_ald 0 (op_gfr 5 2 (op_ild 2 (op_con 1 (op_bin f_add (op_ald 0 (op_gfi 5 0 (op_ild 2 (op_bin f_sub (op_acp (op_ald 0 (op_gfr 5 1 (op_ild 2 (op_ild 1 (op_ias (op_ald 0 (op_gfr 5 2 (op_ild 2 (op_con 0 (op_ias (op_ald 0 (op_dup (op_gfi 5 0 (op_con 1 (op_bin f_add (op_pfi 5 0 (op_kil [true, false, true] (op_jmp 90)))))))))))))))))))))))))))))))))))))))))))
set_option maxRecDepth 100000 in
theorem S_K_X5_enter_24 (g0 : vG) : Snd yX5_enter cX5_enter 3 none 1 0 0 g0 24 K_X5_enter_24 := s_aldn (j := 0) (pc' := 25) (by decide +kernel) rfl rfl (s_gfr (ci := 5) (j := 1) (pc' := 28) rfl g_ok5 (by decide) (by decide) (by decide) rfl w_194 (by decide +kernel) rfl (s_ildn (j := 2) (pc' := 29) (by decide +kernel) rfl rfl (s_aldn (j := 0) (pc' := 30) (by decide +kernel) rfl rfl (s_gfr (ci := 5) (j := 1) (pc' := 33) rfl g_ok5 (by decide) (by decide) (by decide) rfl w_194 (by decide +kernel) rfl (s_ildn (j := 2) (pc' := 34) (by decide +kernel) rfl rfl (s_con (n := 1) (pc' := 35) (by decide +kernel) (by decide +kernel) rfl (s_add (pc' := 36) (by decide +kernel) rfl (s_aldn (j := 0) (pc' := 37) (by decide +kernel) rfl rfl (s_gfi (ci := 5) (j := 0) (pc' := 40) rfl g_ok5 (by decide) (by decide) (by decide) rfl w_190 (by decide +kernel) rfl (s_ildn (j := 2) (pc' := 41) (by decide +kernel) rfl rfl (s_sub (pc' := 42) (by decide +kernel) rfl (s_acp (pc' := 45) w_388 g_acp (by decide) (by decide +kernel) rfl (s_aldn (j := 0) (pc' := 46) (by decide +kernel) rfl rfl (s_gfr (ci := 5) (j := 2) (pc' := 49) rfl g_ok5 (by decide) (by decide) (by decide) rfl w_198 (by decide +kernel) rfl (s_ildn (j := 2) (pc' := 50) (by decide +kernel) rfl rfl (s_aldn (j := 0) (pc' := 51) (by decide +kernel) rfl rfl (s_gfr (ci := 5) (j := 2) (pc' := 54) rfl g_ok5 (by decide) (by decide) (by decide) rfl w_198 (by decide +kernel) rfl (s_ildn (j := 2) (pc' := 55) (by decide +kernel) rfl rfl (s_con (n := 1) (pc' := 56) (by decide +kernel) (by decide +kernel) rfl (s_add (pc' := 57) (by decide +kernel) rfl (s_aldn (j := 0) (pc' := 58) (by decide +kernel) rfl rfl (s_gfi (ci := 5) (j := 0) (pc' := 61) rfl g_ok5 (by decide) (by decide) (by decide) rfl w_190 (by decide +kernel) rfl (s_ildn (j := 2) (pc' := 62) (by decide +kernel) rfl rfl (s_sub (pc' := 63) (by decide +kernel) rfl (s_acp (pc' := 66) w_388 g_acp (by decide) (by decide +kernel) rfl (s_aldn (j := 0) (pc' := 67) (by decide +kernel) rfl rfl (s_gfr (ci := 5) (j := 1) (pc' := 70) rfl g_ok5 (by decide) (by decide) (by decide) rfl w_194 (by decide +kernel) rfl (s_ildn (j := 2) (pc' := 71) (by decide +kernel) rfl rfl (s_ildn (j := 1) (pc' := 72) (by decide +kernel) rfl rfl (s_ias (pc' := 73) (by decide +kernel) rfl (s_aldn (j := 0) (pc' := 74) (by decide +kernel) rfl rfl (s_gfr (ci := 5) (j := 2) (pc' := 77) rfl g_ok5 (by decide) (by decide) (by decide) rfl w_198 (by decide +kernel) rfl (s_ildn (j := 2) (pc' := 78) (by decide +kernel) rfl rfl (s_con (n := 0) (pc' := 79) (by decide +kernel) (by decide +kernel) rfl (s_ias (pc' := 80) (by decide +kernel) rfl (s_aldn (j := 0) (pc' := 81) (by decide +kernel) rfl rfl (s_dup (pc' := 82) (by decide +kernel) rfl (s_gfi (ci := 5) (j := 0) (pc' := 85) rfl g_ok5 (by decide) (by decide) (by decide) rfl w_190 (by decide +kernel) rfl (s_con (n := 1) (pc' := 86) (by decide +kernel) (by decide +kernel) rfl (s_add (pc' := 87) (by decide +kernel) rfl (s_pfi (ci := 5) (j := 0) (pc' := 90) rfl g_ok5 tyX5 tyX5_ok nmX5 (by decide) (by decide) (by decide) rfl rfl rfl w_190 (by decide +kernel) rfl (s_kil s_jmp))))))))))))))))))))))))))))))))))))))))))
def K_X5_enter_90 : vD := op_ald 0 (op_gfr 5 2 (op_ild 2 (op_dup2 (op_ial (op_con 1 (op_bin f_add (op_ias (op_vret))))))))
set_option maxRecDepth 100000 in
theorem S_K_X5_enter_90 (g0 : vG) : Snd yX5_enter cX5_enter 3 none 1 0 0 g0 90 K_X5_enter_90 := s_aldn (j := 0) (pc' := 91) (by decide +kernel) rfl rfl (s_gfr (ci := 5) (j := 2) (pc' := 94) rfl g_ok5 (by decide) (by decide) (by decide) rfl w_198 (by decide +kernel) rfl (s_ildn (j := 2) (pc' := 95) (by decide +kernel) rfl rfl (s_dup2 (pc' := 96) (by decide +kernel) rfl (s_ial (pc' := 97) (by decide +kernel) rfl (s_con (n := 1) (pc' := 98) (by decide +kernel) (by decide +kernel) rfl (s_add (pc' := 99) (by decide +kernel) rfl (s_ias (pc' := 100) (by decide +kernel) rfl (s_vret (by decide +kernel) rfl rfl rfl))))))))
def D_X5_enter : vD := op_ald 0 (op_ild 1 (op_calV 5 1 F_X5_numberOf (op_ist 2 (op_ild 2 (op_ald 0 (op_gfi 5 0 (op_seq 90 (op_seq 24 (op_iceq (op_jmp 24) (op_ald 0 (op_gfr 5 1 (op_ild 2 (op_ial (op_ild 1 (op_iceq (op_kil [true, false, true] (op_jmp 90)) (op_jmp 24)))))))) K_X5_enter_24) K_X5_enter_90)))))))
set_option maxRecDepth 100000 in
theorem S_D_X5_enter (g0 : vG) : Snd yX5_enter cX5_enter 3 none 1 0 0 g0 0 D_X5_enter := s_aldn (j := 0) (pc' := 1) (by decide +kernel) rfl rfl (s_ildn (j := 1) (pc' := 2) (by decide +kernel) rfl rfl (s_calV (ci := 5) (pc' := 5) C_X5_numberOf A_X5_numberOf rfl (by decide) w_384 (by decide) (by decide +kernel) rfl (s_istn (j := 2) (pc' := 6) (by decide +kernel) rfl (by decide) rfl (s_ildn (j := 2) (pc' := 7) (by decide +kernel) rfl rfl (s_aldn (j := 0) (pc' := 8) (by decide +kernel) rfl rfl (s_gfi (ci := 5) (j := 0) (pc' := 11) rfl g_ok5 (by decide) (by decide) (by decide) rfl w_190 (by decide +kernel) rfl (s_seq (s_seq (s_iceq (off := 13) (pt := 24) (pc' := 14) (by decide +kernel) (by decide) rfl (s_jmp) (s_aldn (j := 0) (pc' := 15) (by decide +kernel) rfl rfl (s_gfr (ci := 5) (j := 1) (pc' := 18) rfl g_ok5 (by decide) (by decide) (by decide) rfl w_194 (by decide +kernel) rfl (s_ildn (j := 2) (pc' := 19) (by decide +kernel) rfl rfl (s_ial (pc' := 20) (by decide +kernel) rfl (s_ildn (j := 1) (pc' := 21) (by decide +kernel) rfl rfl (s_iceq (off := 69) (pt := 90) (pc' := 24) (by decide +kernel) (by decide) rfl (s_kil s_jmp) (s_jmp)))))))) (S_K_X5_enter_24 g0)) (S_K_X5_enter_90 g0))))))))
def F_X5_enter : vF := runD D_X5_enter 3
theorem C_X5_enter : Ctr yX5_enter cX5_enter 3 none 1 0 0 F_X5_enter := ctr_of (d := fun _ => D_X5_enter) (by decide +kernel) S_D_X5_enter
theorem A_X5_enter : CaV yX5_enter cX5_enter 3 none 1 := ⟨w_382, w_2, w_72, w_383, by unfold Nm; decide +kernel⟩
def B_X0_find_3 : vD := op_ild 5 (op_ald 1 (op_gfi 5 0 (op_icge (op_kil [true, true, true, false, true, false, false] (op_jmp 37)) (op_ald 0 (op_gfr 0 2 (op_ild 5 (op_ald 1 (op_gfr 5 1 (op_ald 1 (op_gfi 5 0 (op_ild 3 (op_con 1 (op_calV 6 5 F_X6_fill (op_inc 5 1 (op_jmp 3)))))))))))))))
set_option maxRecDepth 100000 in
theorem S_B_X0_find_3 (g0 : vG) : Snd yX0_find cX0_find 7 none 3 0 0 g0 3 B_X0_find_3 := s_ild (pc' := 5) (by decide +kernel) rfl (s_aldn (j := 1) (pc' := 6) (by decide +kernel) rfl rfl (s_gfi (ci := 5) (j := 0) (pc' := 9) rfl g_ok5 (by decide) (by decide) (by decide) rfl w_191 (by decide +kernel) rfl (s_icge (off := 28) (pt := 37) (pc' := 12) (by decide +kernel) (by decide) rfl (s_kil s_jmp) (s_aldn (j := 0) (pc' := 13) (by decide +kernel) rfl rfl (s_gfr (ci := 0) (j := 2) (pc' := 16) rfl g_ok0 (by decide) (by decide) (by decide) rfl w_262 (by decide +kernel) rfl (s_ild (pc' := 18) (by decide +kernel) rfl (s_aldn (j := 1) (pc' := 19) (by decide +kernel) rfl rfl (s_gfr (ci := 5) (j := 1) (pc' := 22) rfl g_ok5 (by decide) (by decide) (by decide) rfl w_195 (by decide +kernel) rfl (s_aldn (j := 1) (pc' := 23) (by decide +kernel) rfl rfl (s_gfi (ci := 5) (j := 0) (pc' := 26) rfl g_ok5 (by decide) (by decide) (by decide) rfl w_191 (by decide +kernel) rfl (s_ildn (j := 3) (pc' := 27) (by decide +kernel) rfl rfl (s_con (n := 1) (pc' := 28) (by decide +kernel) (by decide +kernel) rfl (s_calV (ci := 6) (pc' := 31) C_X6_fill A_X6_fill rfl (by decide) w_454 (by decide) (by decide +kernel) rfl (s_inc (n := 1) (pc' := 34) (by decide +kernel) (by decide +kernel) (by decide) rfl (s_goto (off := (-31)) (pt := 3) (by decide +kernel) (by decide) (s_jmp))))))))))))))))
def K_X0_find_106 : vD := op_inc 5 1 (op_kil [true, true, true, false, true, true, false] (op_jmp 55))
set_option maxRecDepth 100000 in
theorem S_K_X0_find_106 (g0 : vG) : Snd yX0_find cX0_find 7 none 3 0 0 g0 106 K_X0_find_106 := s_inc (n := 1) (pc' := 109) (by decide +kernel) (by decide +kernel) (by decide) rfl (s_goto (off := (-54)) (pt := 55) (by decide +kernel) (by decide) (s_kil s_jmp))
def B_X0_find_55 : vD := op_ild 5 (op_con 1 (op_ald 1 (op_gfi 5 0 (op_bin f_shl (op_icge (op_kil [false, false, false, false, false, false, false] (op_jmp 112)) (op_ild 5 (op_cal 1 F_J6_bitCount_0f7a4 (op_ist 6 (op_ild 6 (op_con 6 (op_seq 106 (op_icgt (op_kil [true, true, true, false, true, true, false] (op_jmp 106)) (op_ald 0 (op_ild 5 (op_ild 6 (op_ild 4 (op_bin f_mul (op_ald 2 (op_ild 5 (op_calV 2 1 F_X2_costOf (op_bin f_add (op_ald 0 (op_ald 1 (op_ild 5 (op_calV 0 2 F_X0_paragraphCosts (op_bin f_add (op_calV 0 2 F_X0_compare (op_kil [true, true, true, false, true, true, false] (op_jmp 106)))))))))))))))))) K_X0_find_106)))))))))))
set_option maxRecDepth 100000 in
theorem S_B_X0_find_55 (g0 : vG) : Snd yX0_find cX0_find 7 none 3 0 0 g0 55 B_X0_find_55 := s_ild (pc' := 57) (by decide +kernel) rfl (s_con (n := 1) (pc' := 58) (by decide +kernel) (by decide +kernel) rfl (s_aldn (j := 1) (pc' := 59) (by decide +kernel) rfl rfl (s_gfi (ci := 5) (j := 0) (pc' := 62) rfl g_ok5 (by decide) (by decide) (by decide) rfl w_191 (by decide +kernel) rfl (s_shl (pc' := 63) (by decide +kernel) rfl (s_icge (off := 49) (pt := 112) (pc' := 66) (by decide +kernel) (by decide) rfl (s_kil s_jmp) (s_ild (pc' := 68) (by decide +kernel) rfl (s_calS (pc' := 71) C_J6_bitCount_0f7a4 A_J6_bitCount_0f7a4 w_459 (by decide) (by decide +kernel) rfl (s_ist (pc' := 73) (by decide +kernel) (by decide) rfl (s_ild (pc' := 75) (by decide +kernel) rfl (s_bip (n := 6) (pc' := 77) (by decide +kernel) (by decide +kernel) rfl (s_seq (s_icgt (off := 29) (pt := 106) (pc' := 80) (by decide +kernel) (by decide) rfl (s_kil s_jmp) (s_aldn (j := 0) (pc' := 81) (by decide +kernel) rfl rfl (s_ild (pc' := 83) (by decide +kernel) rfl (s_ild (pc' := 85) (by decide +kernel) rfl (s_ild (pc' := 87) (by decide +kernel) rfl (s_mul (pc' := 88) (by decide +kernel) rfl (s_aldn (j := 2) (pc' := 89) (by decide +kernel) rfl rfl (s_ild (pc' := 91) (by decide +kernel) rfl (s_calV (ci := 2) (pc' := 94) C_X2_costOf A_X2_costOf rfl (by decide) w_465 (by decide) (by decide +kernel) rfl (s_add (pc' := 95) (by decide +kernel) rfl (s_aldn (j := 0) (pc' := 96) (by decide +kernel) rfl rfl (s_aldn (j := 1) (pc' := 97) (by decide +kernel) rfl rfl (s_ild (pc' := 99) (by decide +kernel) rfl (s_calV (ci := 0) (pc' := 102) C_X0_paragraphCosts A_X0_paragraphCosts rfl (by decide) w_455 (by decide) (by decide +kernel) rfl (s_add (pc' := 103) (by decide +kernel) rfl (s_calV (ci := 0) (pc' := 106) C_X0_compare A_X0_compare rfl (by decide) w_469 (by decide) (by decide +kernel) rfl (s_kil s_jmp))))))))))))))))) (S_K_X0_find_106 g0))))))))))))
def K_X0_find_112 : vD := op_vret
set_option maxRecDepth 100000 in
theorem S_K_X0_find_112 (g0 : vG) : Snd yX0_find cX0_find 7 none 3 0 0 g0 112 K_X0_find_112 := s_vret (by decide +kernel) rfl rfl rfl
def K_X0_find_37 : vD := op_ald 0 (op_con 0 (op_pfi 0 0 (op_ald 0 (op_ald 0 (op_ald 1 (op_con 0 (op_calV 0 2 F_X0_paragraphCosts (op_pfi 0 1 (op_con 1 (op_ist 5 (op_seq 112 (op_kil [true, true, true, false, true, true, false] (op_loop 55 B_X0_find_55 4000)) K_X0_find_112)))))))))))
set_option maxRecDepth 100000 in
theorem S_K_X0_find_37 (g0 : vG) : Snd yX0_find cX0_find 7 none 3 0 0 g0 37 K_X0_find_37 := s_aldn (j := 0) (pc' := 38) (by decide +kernel) rfl rfl (s_con (n := 0) (pc' := 39) (by decide +kernel) (by decide +kernel) rfl (s_pfi (ci := 0) (j := 0) (pc' := 42) rfl g_ok0 tyX0 tyX0_ok nmX0 (by decide) (by decide) (by decide) rfl rfl rfl w_258 (by decide +kernel) rfl (s_aldn (j := 0) (pc' := 43) (by decide +kernel) rfl rfl (s_aldn (j := 0) (pc' := 44) (by decide +kernel) rfl rfl (s_aldn (j := 1) (pc' := 45) (by decide +kernel) rfl rfl (s_con (n := 0) (pc' := 46) (by decide +kernel) (by decide +kernel) rfl (s_calV (ci := 0) (pc' := 49) C_X0_paragraphCosts A_X0_paragraphCosts rfl (by decide) w_455 (by decide) (by decide +kernel) rfl (s_pfi (ci := 0) (j := 1) (pc' := 52) rfl g_ok0 tyX0 tyX0_ok nmX0 (by decide) (by decide) (by decide) rfl rfl rfl w_260 (by decide +kernel) rfl (s_con (n := 1) (pc' := 53) (by decide +kernel) (by decide +kernel) rfl (s_ist (pc' := 55) (by decide +kernel) (by decide) rfl (s_seq (s_kil (s_loop (S_B_X0_find_55 g0) 4000)) (S_K_X0_find_112 g0))))))))))))
def D_X0_find : vD := op_con 0 (op_ist 5 (op_seq 37 (op_loop 3 B_X0_find_3 4000) K_X0_find_37))
set_option maxRecDepth 100000 in
theorem S_D_X0_find (g0 : vG) : Snd yX0_find cX0_find 7 none 3 0 0 g0 0 D_X0_find := s_con (n := 0) (pc' := 1) (by decide +kernel) (by decide +kernel) rfl (s_ist (pc' := 3) (by decide +kernel) (by decide) rfl (s_seq (s_loop (S_B_X0_find_3 g0) 4000) (S_K_X0_find_37 g0)))
def F_X0_find : vF := runD D_X0_find 7
theorem C_X0_find : Ctr yX0_find cX0_find 7 none 3 0 0 F_X0_find := ctr_of (d := fun _ => D_X0_find) (by decide +kernel) S_D_X0_find
theorem A_X0_find : CaV yX0_find cX0_find 7 none 4 := ⟨w_451, w_452, w_75, w_453, by unfold Nm; decide +kernel⟩
def B_X1_firstWrong_2 : vD := op_ild 2 (op_ald 0 (op_gfi 1 0 (op_icge (op_kil [false, false, false, false] (op_jmp 56)) (op_ald 0 (op_gfr 1 1 (op_ild 2 (op_ial (op_ist 3 (op_ald 1 (op_gfr 8 3 (op_ild 3 (op_calV 7 1 F_X7_holds (op_ifeq (op_kil [false, false, true, false] (op_jmp 48)) (op_ald 1 (op_ild 3 (op_ald 0 (op_gfr 1 2 (op_ild 2 (op_ial (op_calV 8 2 F_X8_paragraphValue (op_ald 0 (op_gfr 1 3 (op_ild 2 (op_ial (op_iceq (op_inc 2 1 (op_kil [true, true, true, false] (op_jmp 2))) (op_kil [false, false, true, false] (op_jmp 48)))))))))))))))))))))))))))
set_option maxRecDepth 100000 in
theorem S_B_X1_firstWrong_2 (g0 : vG) : Snd yX1_firstWrong cX1_firstWrong 4 (some .int) 3 0 0 g0 2 B_X1_firstWrong_2 := s_ildn (j := 2) (pc' := 3) (by decide +kernel) rfl rfl (s_aldn (j := 0) (pc' := 4) (by decide +kernel) rfl rfl (s_gfi (ci := 1) (j := 0) (pc' := 7) rfl g_ok1 (by decide) (by decide) (by decide) rfl w_168 (by decide +kernel) rfl (s_icge (off := 49) (pt := 56) (pc' := 10) (by decide +kernel) (by decide) rfl (s_kil s_jmp) (s_aldn (j := 0) (pc' := 11) (by decide +kernel) rfl rfl (s_gfr (ci := 1) (j := 1) (pc' := 14) rfl g_ok1 (by decide) (by decide) (by decide) rfl w_170 (by decide +kernel) rfl (s_ildn (j := 2) (pc' := 15) (by decide +kernel) rfl rfl (s_ial (pc' := 16) (by decide +kernel) rfl (s_istn (j := 3) (pc' := 17) (by decide +kernel) rfl (by decide) rfl (s_aldn (j := 1) (pc' := 18) (by decide +kernel) rfl rfl (s_gfr (ci := 8) (j := 3) (pc' := 21) rfl g_ok8 (by decide) (by decide) (by decide) rfl w_132 (by decide +kernel) rfl (s_ildn (j := 3) (pc' := 22) (by decide +kernel) rfl rfl (s_calV (ci := 7) (pc' := 25) C_X7_holds A_X7_holds rfl (by decide) w_485 (by decide) (by decide +kernel) rfl (s_ifeq (off := 23) (pt := 48) (pc' := 28) (by decide +kernel) (by decide) rfl (s_kil s_jmp) (s_aldn (j := 1) (pc' := 29) (by decide +kernel) rfl rfl (s_ildn (j := 3) (pc' := 30) (by decide +kernel) rfl rfl (s_aldn (j := 0) (pc' := 31) (by decide +kernel) rfl rfl (s_gfr (ci := 1) (j := 2) (pc' := 34) rfl g_ok1 (by decide) (by decide) (by decide) rfl w_171 (by decide +kernel) rfl (s_ildn (j := 2) (pc' := 35) (by decide +kernel) rfl rfl (s_ial (pc' := 36) (by decide +kernel) rfl (s_calV (ci := 8) (pc' := 39) C_X8_paragraphValue A_X8_paragraphValue rfl (by decide) w_489 (by decide) (by decide +kernel) rfl (s_aldn (j := 0) (pc' := 40) (by decide +kernel) rfl rfl (s_gfr (ci := 1) (j := 3) (pc' := 43) rfl g_ok1 (by decide) (by decide) (by decide) rfl w_172 (by decide +kernel) rfl (s_ildn (j := 2) (pc' := 44) (by decide +kernel) rfl rfl (s_ial (pc' := 45) (by decide +kernel) rfl (s_iceq (off := 5) (pt := 50) (pc' := 48) (by decide +kernel) (by decide) rfl (s_inc (n := 1) (pc' := 53) (by decide +kernel) (by decide +kernel) (by decide) rfl (s_goto (off := (-51)) (pt := 2) (by decide +kernel) (by decide) (s_kil s_jmp))) (s_kil s_jmp))))))))))))))))))))))))))
def K_X1_firstWrong_48 : vD := op_ild 2 (op_ret)
set_option maxRecDepth 100000 in
theorem S_K_X1_firstWrong_48 (g0 : vG) : Snd yX1_firstWrong cX1_firstWrong 4 (some .int) 3 0 0 g0 48 K_X1_firstWrong_48 := s_ildn (j := 2) (pc' := 49) (by decide +kernel) rfl rfl (s_iret (by decide +kernel) rfl rfl rfl)
def K_X1_firstWrong_56 : vD := op_con (-1) (op_ret)
set_option maxRecDepth 100000 in
theorem S_K_X1_firstWrong_56 (g0 : vG) : Snd yX1_firstWrong cX1_firstWrong 4 (some .int) 3 0 0 g0 56 K_X1_firstWrong_56 := s_con (n := (-1)) (pc' := 57) (by decide +kernel) (by decide +kernel) rfl (s_iret (by decide +kernel) rfl rfl rfl)
def D_X1_firstWrong : vD := op_con 0 (op_ist 2 (op_seq 56 (op_seq 48 (op_kil [true, true, true, false] (op_loop 2 B_X1_firstWrong_2 4000)) K_X1_firstWrong_48) K_X1_firstWrong_56))
set_option maxRecDepth 100000 in
theorem S_D_X1_firstWrong (g0 : vG) : Snd yX1_firstWrong cX1_firstWrong 4 (some .int) 3 0 0 g0 0 D_X1_firstWrong := s_con (n := 0) (pc' := 1) (by decide +kernel) (by decide +kernel) rfl (s_istn (j := 2) (pc' := 2) (by decide +kernel) rfl (by decide) rfl (s_seq (s_seq (s_kil (s_loop (S_B_X1_firstWrong_2 g0) 4000)) (S_K_X1_firstWrong_48 g0)) (S_K_X1_firstWrong_56 g0)))
def F_X1_firstWrong : vF := runD D_X1_firstWrong 4
theorem C_X1_firstWrong : Ctr yX1_firstWrong cX1_firstWrong 4 (some .int) 3 0 0 F_X1_firstWrong := ctr_of (d := fun _ => D_X1_firstWrong) (by decide +kernel) S_D_X1_firstWrong
theorem A_X1_firstWrong : CaV yX1_firstWrong cX1_firstWrong 4 (some .int) 1 := ⟨w_482, w_483, w_71, w_484, by unfold Nm; decide +kernel⟩
def D_X3_remember : vD := op_ald 0 (op_gfr 3 2 (op_ald 0 (op_gfi 3 1 (op_aal 1 (op_ald 1 (op_calV 8 1 F_X8_copyFrom (op_ald 0 (op_ald 0 (op_gfi 3 1 (op_con 1 (op_bin f_add (op_con 16 (op_div f_rem (op_pfi 3 1 (op_ald 0 (op_ald 0 (op_gfi 3 0 (op_con 1 (op_bin f_add (op_con 16 (op_min (op_pfi 3 0 (op_vret)))))))))))))))))))))))
set_option maxRecDepth 100000 in
theorem S_D_X3_remember (g0 : vG) : Snd yX3_remember cX3_remember 2 none 3 0 0 g0 0 D_X3_remember := s_aldn (j := 0) (pc' := 1) (by decide +kernel) rfl rfl (s_gfr (ci := 3) (j := 2) (pc' := 4) rfl g_ok3 (by decide) (by decide) (by decide) rfl w_154 (by decide +kernel) rfl (s_aldn (j := 0) (pc' := 5) (by decide +kernel) rfl rfl (s_gfi (ci := 3) (j := 1) (pc' := 8) rfl g_ok3 (by decide) (by decide) (by decide) rfl w_153 (by decide +kernel) rfl (s_aal (t := 1) (pc' := 9) (by decide) (fun _ => rfl) rfl (by decide +kernel) rfl (s_aldn (j := 1) (pc' := 10) (by decide +kernel) rfl rfl (s_calV (ci := 8) (pc' := 13) C_X8_copyFrom A_X8_copyFrom rfl (by decide) w_606 (by decide) (by decide +kernel) rfl (s_aldn (j := 0) (pc' := 14) (by decide +kernel) rfl rfl (s_aldn (j := 0) (pc' := 15) (by decide +kernel) rfl rfl (s_gfi (ci := 3) (j := 1) (pc' := 18) rfl g_ok3 (by decide) (by decide) (by decide) rfl w_153 (by decide +kernel) rfl (s_con (n := 1) (pc' := 19) (by decide +kernel) (by decide +kernel) rfl (s_add (pc' := 20) (by decide +kernel) rfl (s_bip (n := 16) (pc' := 22) (by decide +kernel) (by decide +kernel) rfl (s_rem (pc' := 23) (by decide +kernel) rfl (s_pfi (ci := 3) (j := 1) (pc' := 26) rfl g_ok3 tyX3 tyX3_ok nmX3 (by decide) (by decide) (by decide) rfl rfl rfl w_153 (by decide +kernel) rfl (s_aldn (j := 0) (pc' := 27) (by decide +kernel) rfl rfl (s_aldn (j := 0) (pc' := 28) (by decide +kernel) rfl rfl (s_gfi (ci := 3) (j := 0) (pc' := 31) rfl g_ok3 (by decide) (by decide) (by decide) rfl w_151 (by decide +kernel) rfl (s_con (n := 1) (pc' := 32) (by decide +kernel) (by decide +kernel) rfl (s_add (pc' := 33) (by decide +kernel) rfl (s_bip (n := 16) (pc' := 35) (by decide +kernel) (by decide +kernel) rfl (s_min (pc' := 38) w_616 g_min (by decide) (by decide +kernel) rfl (s_pfi (ci := 3) (j := 0) (pc' := 41) rfl g_ok3 tyX3 tyX3_ok nmX3 (by decide) (by decide) (by decide) rfl rfl rfl w_151 (by decide +kernel) rfl (s_vret (by decide +kernel) rfl rfl rfl)))))))))))))))))))))))
def F_X3_remember : vF := runD D_X3_remember 2
theorem C_X3_remember : Ctr yX3_remember cX3_remember 2 none 3 0 0 F_X3_remember := ctr_of (d := fun _ => D_X3_remember) (by decide +kernel) S_D_X3_remember
theorem A_X3_remember : CaV yX3_remember cX3_remember 2 none 1 := ⟨w_603, w_604, w_70, w_605, by unfold Nm; decide +kernel⟩
def D_X3_restore : vD := op_ald 0 (op_ald 0 (op_gfi 3 1 (op_con 16 (op_bin f_add (op_ild 2 (op_bin f_sub (op_con 16 (op_div f_rem (op_pfi 3 1 (op_ald 0 (op_dup (op_gfi 3 0 (op_ild 2 (op_bin f_sub (op_pfi 3 0 (op_ald 1 (op_ald 0 (op_gfr 3 2 (op_ald 0 (op_gfi 3 1 (op_aal 1 (op_calV 8 1 F_X8_copyFrom (op_vret)))))))))))))))))))))))
set_option maxRecDepth 100000 in
theorem S_D_X3_restore (g0 : vG) : Snd yX3_restore cX3_restore 3 none 3 0 0 g0 0 D_X3_restore := s_aldn (j := 0) (pc' := 1) (by decide +kernel) rfl rfl (s_aldn (j := 0) (pc' := 2) (by decide +kernel) rfl rfl (s_gfi (ci := 3) (j := 1) (pc' := 5) rfl g_ok3 (by decide) (by decide) (by decide) rfl w_153 (by decide +kernel) rfl (s_bip (n := 16) (pc' := 7) (by decide +kernel) (by decide +kernel) rfl (s_add (pc' := 8) (by decide +kernel) rfl (s_ildn (j := 2) (pc' := 9) (by decide +kernel) rfl rfl (s_sub (pc' := 10) (by decide +kernel) rfl (s_bip (n := 16) (pc' := 12) (by decide +kernel) (by decide +kernel) rfl (s_rem (pc' := 13) (by decide +kernel) rfl (s_pfi (ci := 3) (j := 1) (pc' := 16) rfl g_ok3 tyX3 tyX3_ok nmX3 (by decide) (by decide) (by decide) rfl rfl rfl w_153 (by decide +kernel) rfl (s_aldn (j := 0) (pc' := 17) (by decide +kernel) rfl rfl (s_dup (pc' := 18) (by decide +kernel) rfl (s_gfi (ci := 3) (j := 0) (pc' := 21) rfl g_ok3 (by decide) (by decide) (by decide) rfl w_151 (by decide +kernel) rfl (s_ildn (j := 2) (pc' := 22) (by decide +kernel) rfl rfl (s_sub (pc' := 23) (by decide +kernel) rfl (s_pfi (ci := 3) (j := 0) (pc' := 26) rfl g_ok3 tyX3 tyX3_ok nmX3 (by decide) (by decide) (by decide) rfl rfl rfl w_151 (by decide +kernel) rfl (s_aldn (j := 1) (pc' := 27) (by decide +kernel) rfl rfl (s_aldn (j := 0) (pc' := 28) (by decide +kernel) rfl rfl (s_gfr (ci := 3) (j := 2) (pc' := 31) rfl g_ok3 (by decide) (by decide) (by decide) rfl w_154 (by decide +kernel) rfl (s_aldn (j := 0) (pc' := 32) (by decide +kernel) rfl rfl (s_gfi (ci := 3) (j := 1) (pc' := 35) rfl g_ok3 (by decide) (by decide) (by decide) rfl w_153 (by decide +kernel) rfl (s_aal (t := 1) (pc' := 36) (by decide) (fun _ => rfl) rfl (by decide +kernel) rfl (s_calV (ci := 8) (pc' := 39) C_X8_copyFrom A_X8_copyFrom rfl (by decide) w_606 (by decide) (by decide +kernel) rfl (s_vret (by decide +kernel) rfl rfl rfl)))))))))))))))))))))))
def F_X3_restore : vF := runD D_X3_restore 3
theorem C_X3_restore : Ctr yX3_restore cX3_restore 3 none 3 0 0 F_X3_restore := ctr_of (d := fun _ => D_X3_restore) (by decide +kernel) S_D_X3_restore
theorem A_X3_restore : CaV yX3_restore cX3_restore 3 none 2 := ⟨w_777, w_778, w_70, w_779, by unfold Nm; decide +kernel⟩
def B_X5_gather_7 : vD := op_ild 2 (op_ald 1 (op_gfr 8 3 (op_gfi 7 1 (op_icge (op_kil [false, false, false] (op_jmp 33)) (op_ald 0 (op_ald 1 (op_ild 2 (op_calV 8 1 F_X8_paragraphLook (op_calV 5 1 F_X5_enter (op_inc 2 1 (op_jmp 7)))))))))))
set_option maxRecDepth 100000 in
theorem S_B_X5_gather_7 (g0 : vG) : Snd yX5_gather cX5_gather 3 none 4 0 0 g0 7 B_X5_gather_7 := s_ildn (j := 2) (pc' := 8) (by decide +kernel) rfl rfl (s_aldn (j := 1) (pc' := 9) (by decide +kernel) rfl rfl (s_gfr (ci := 8) (j := 3) (pc' := 12) rfl g_ok8 (by decide) (by decide) (by decide) rfl w_131 (by decide +kernel) rfl (s_gfi (ci := 7) (j := 1) (pc' := 15) rfl g_ok7 (by decide) (by decide) (by decide) rfl w_107 (by decide +kernel) rfl (s_icge (off := 18) (pt := 33) (pc' := 18) (by decide +kernel) (by decide) rfl (s_kil s_jmp) (s_aldn (j := 0) (pc' := 19) (by decide +kernel) rfl rfl (s_aldn (j := 1) (pc' := 20) (by decide +kernel) rfl rfl (s_ildn (j := 2) (pc' := 21) (by decide +kernel) rfl rfl (s_calV (ci := 8) (pc' := 24) C_X8_paragraphLook A_X8_paragraphLook rfl (by decide) w_367 (by decide) (by decide +kernel) rfl (s_calV (ci := 5) (pc' := 27) C_X5_enter A_X5_enter rfl (by decide) w_380 (by decide) (by decide +kernel) rfl (s_inc (n := 1) (pc' := 30) (by decide +kernel) (by decide +kernel) (by decide) rfl (s_goto (off := (-23)) (pt := 7) (by decide +kernel) (by decide) (s_jmp))))))))))))
def K_X5_gather_33 : vD := op_vret
set_option maxRecDepth 100000 in
theorem S_K_X5_gather_33 (g0 : vG) : Snd yX5_gather cX5_gather 3 none 4 0 0 g0 33 K_X5_gather_33 := s_vret (by decide +kernel) rfl rfl rfl
def D_X5_gather : vD := op_ald 0 (op_con 0 (op_pfi 5 0 (op_con 0 (op_ist 2 (op_seq 33 (op_loop 7 B_X5_gather_7 4000) K_X5_gather_33)))))
set_option maxRecDepth 100000 in
theorem S_D_X5_gather (g0 : vG) : Snd yX5_gather cX5_gather 3 none 4 0 0 g0 0 D_X5_gather := s_aldn (j := 0) (pc' := 1) (by decide +kernel) rfl rfl (s_con (n := 0) (pc' := 2) (by decide +kernel) (by decide +kernel) rfl (s_pfi (ci := 5) (j := 0) (pc' := 5) rfl g_ok5 tyX5 tyX5_ok nmX5 (by decide) (by decide) (by decide) rfl rfl rfl w_190 (by decide +kernel) rfl (s_con (n := 0) (pc' := 6) (by decide +kernel) (by decide +kernel) rfl (s_istn (j := 2) (pc' := 7) (by decide +kernel) rfl (by decide) rfl (s_seq (s_loop (S_B_X5_gather_7 g0) 4000) (S_K_X5_gather_33 g0))))))
def F_X5_gather : vF := runD D_X5_gather 3
theorem C_X5_gather : Ctr yX5_gather cX5_gather 3 none 4 0 0 F_X5_gather := ctr_of (d := fun _ => D_X5_gather) (by decide +kernel) S_D_X5_gather
theorem A_X5_gather : CaV yX5_gather cX5_gather 3 none 1 := ⟨w_364, w_365, w_72, w_366, by unfold Nm; decide +kernel⟩
end
section
/-! ===== fragments and contracts, by program (wip/whole/gen.py) ===== -/
def K_X10_draw_38 : vD := op_ret
set_option maxRecDepth 100000 in
theorem S_K_X10_draw_38 (g0 : vG) : Snd yX10_draw cX10_draw 2 (some .int) 0 0 0 g0 38 K_X10_draw_38 := s_iret (by decide +kernel) rfl rfl rfl
def D_X10_draw : vD := op_ald 0 (op_ald 0 (op_gfi 9 7 (op_con 1103515245 (op_bin f_mul (op_con 12345 (op_bin f_add (op_con 2147483647 (op_bin f_and (op_pfi 9 7 (op_ild 1 (op_seq 38 (op_ifle (op_con 0 (op_kil [false, false] (op_jmp 38))) (op_ald 0 (op_gfi 9 7 (op_con 65536 (op_div f_div (op_ild 1 (op_div f_rem (op_kil [false, false] (op_jmp 38))))))))) K_X10_draw_38)))))))))))
set_option maxRecDepth 100000 in
theorem S_D_X10_draw (g0 : vG) : Snd yX10_draw cX10_draw 2 (some .int) 0 0 0 g0 0 D_X10_draw := s_aldn (j := 0) (pc' := 1) (by decide +kernel) rfl rfl (s_aldn (j := 0) (pc' := 2) (by decide +kernel) rfl rfl (s_gfi (ci := 9) (j := 7) (pc' := 5) rfl g_ok10 (by decide) (by decide) (by decide) rfl w_297 (by decide +kernel) rfl (s_ldw (pc' := 8) (by decide +kernel) w_767 rfl (s_mul (pc' := 9) (by decide +kernel) rfl (s_sip (n := 12345) (pc' := 12) (by decide +kernel) (by decide +kernel) rfl (s_add (pc' := 13) (by decide +kernel) rfl (s_ldw (pc' := 16) (by decide +kernel) w_768 rfl (s_and (pc' := 17) (by decide +kernel) rfl (s_pfi (ci := 9) (j := 7) (pc' := 20) rfl g_ok10 tyX10 tyX10_ok nmX10 (by decide) (by decide) (by decide) rfl rfl rfl w_297 (by decide +kernel) rfl (s_ildn (j := 1) (pc' := 21) (by decide +kernel) rfl rfl (s_seq (s_ifle (off := 16) (pt := 37) (pc' := 24) (by decide +kernel) (by decide) rfl (s_con (n := 0) (pc' := 38) (by decide +kernel) (by decide +kernel) rfl (s_kil s_jmp)) (s_aldn (j := 0) (pc' := 25) (by decide +kernel) rfl rfl (s_gfi (ci := 9) (j := 7) (pc' := 28) rfl g_ok10 (by decide) (by decide) (by decide) rfl w_297 (by decide +kernel) rfl (s_ldw (pc' := 31) (by decide +kernel) w_769 rfl (s_div (pc' := 32) (by decide +kernel) rfl (s_ildn (j := 1) (pc' := 33) (by decide +kernel) rfl rfl (s_rem (pc' := 34) (by decide +kernel) rfl (s_goto (off := 4) (pt := 38) (by decide +kernel) (by decide) (s_kil s_jmp))))))))) (S_K_X10_draw_38 g0))))))))))))
def F_X10_draw : vF := runD D_X10_draw 2
theorem C_X10_draw : Ctr yX10_draw cX10_draw 2 (some .int) 0 0 0 F_X10_draw := ctr_of (d := fun _ => D_X10_draw) (by decide +kernel) S_D_X10_draw
theorem A_X10_draw : CaV yX10_draw cX10_draw 2 (some .int) 1 := ⟨w_765, w_17, w_66, w_766, by unfold Nm; decide +kernel⟩
def D_X10_seed : vD := op_ild 1 (op_ifge (op_ald 0 (op_gfi 9 7 (op_ist 2 (op_ald 0 (op_ild 1 (op_pfi 9 7 (op_ild 2 (op_ret)))))))) (op_con (-1000000002) (op_ret)))
set_option maxRecDepth 100000 in
theorem S_D_X10_seed (g0 : vG) : Snd yX10_seed cX10_seed 3 (some .int) 0 0 0 g0 0 D_X10_seed := s_ildn (j := 1) (pc' := 1) (by decide +kernel) rfl rfl (s_ifge (off := 6) (pt := 7) (pc' := 4) (by decide +kernel) (by decide) rfl (s_aldn (j := 0) (pc' := 8) (by decide +kernel) rfl rfl (s_gfi (ci := 9) (j := 7) (pc' := 11) rfl g_ok10 (by decide) (by decide) (by decide) rfl w_297 (by decide +kernel) rfl (s_istn (j := 2) (pc' := 12) (by decide +kernel) rfl (by decide) rfl (s_aldn (j := 0) (pc' := 13) (by decide +kernel) rfl rfl (s_ildn (j := 1) (pc' := 14) (by decide +kernel) rfl rfl (s_pfi (ci := 9) (j := 7) (pc' := 17) rfl g_ok10 tyX10 tyX10_ok nmX10 (by decide) (by decide) (by decide) rfl rfl rfl w_297 (by decide +kernel) rfl (s_ildn (j := 2) (pc' := 18) (by decide +kernel) rfl rfl (s_iret (by decide +kernel) rfl rfl rfl)))))))) (s_ldc (pc' := 6) (by decide +kernel) w_490 rfl (s_iret (by decide +kernel) rfl rfl rfl)))
def F_X10_seed : vF := runD D_X10_seed 3
theorem C_X10_seed : Ctr yX10_seed cX10_seed 3 (some .int) 0 0 0 F_X10_seed := ctr_of (d := fun _ => D_X10_seed) (by decide +kernel) S_D_X10_seed
theorem A_X10_seed : CaV yX10_seed cX10_seed 3 (some .int) 1 := ⟨w_801, w_802, w_66, w_803, by unfold Nm; decide +kernel⟩
def K_X10_giveAtRandom_27 : vD := op_calV 9 1 F_X10_draw (op_ist 3 (op_ald 0 (op_gfr 9 0 (op_gfr 8 3 (op_ild 1 (op_ild 2 (op_ild 3 (op_gst 3 (op_ild 2 (op_sal 3 (op_bin f_mul (op_calV 7 3 F_X7_changeOwn (op_pop (op_kil [true, true, true, false] (op_jmp 51)))))))))))))))
set_option maxRecDepth 100000 in
theorem S_K_X10_giveAtRandom_27 (g0 : vG) : Snd yX10_giveAtRandom cX10_giveAtRandom 4 none 1 0 0 g0 27 K_X10_giveAtRandom_27 := s_calV (ci := 9) (pc' := 30) C_X10_draw A_X10_draw rfl (by decide) w_763 (by decide) (by decide +kernel) rfl (s_istn (j := 3) (pc' := 31) (by decide +kernel) rfl (by decide) rfl (s_aldn (j := 0) (pc' := 32) (by decide +kernel) rfl rfl (s_gfr (ci := 9) (j := 0) (pc' := 35) rfl g_ok10 (by decide) (by decide) (by decide) rfl w_290 (by decide +kernel) rfl (s_gfr (ci := 8) (j := 3) (pc' := 38) rfl g_ok8 (by decide) (by decide) (by decide) rfl w_130 (by decide +kernel) rfl (s_ildn (j := 1) (pc' := 39) (by decide +kernel) rfl rfl (s_ildn (j := 2) (pc' := 40) (by decide +kernel) rfl rfl (s_ildn (j := 3) (pc' := 41) (by decide +kernel) rfl rfl (s_gst (t := 3) (pc' := 44) (by decide) w_770 (by decide +kernel) rfl (s_ildn (j := 2) (pc' := 45) (by decide +kernel) rfl rfl (s_sal (t := 3) (pc' := 46) (by decide) (by decide +kernel) rfl (s_mul (pc' := 47) (by decide +kernel) rfl (s_calV (ci := 7) (pc' := 50) C_X7_changeOwn A_X7_changeOwn rfl (by decide) w_639 (by decide) (by decide +kernel) rfl (s_pop (pc' := 51) (by decide +kernel) rfl (s_kil s_jmp))))))))))))))
def K_X10_giveAtRandom_51 : vD := op_inc 2 1 (op_kil [true, true, true, false] (op_jmp 2))
set_option maxRecDepth 100000 in
theorem S_K_X10_giveAtRandom_51 (g0 : vG) : Snd yX10_giveAtRandom cX10_giveAtRandom 4 none 1 0 0 g0 51 K_X10_giveAtRandom_51 := s_inc (n := 1) (pc' := 54) (by decide +kernel) (by decide +kernel) (by decide) rfl (s_goto (off := (-52)) (pt := 2) (by decide +kernel) (by decide) (s_kil s_jmp))
def B_X10_giveAtRandom_2 : vD := op_ild 2 (op_con 6 (op_icge (op_kil [false, false, false, false] (op_jmp 57)) (op_ald 0 (op_con 3 (op_calV 9 1 F_X10_draw (op_seq 51 (op_ifeq (op_kil [true, true, true, false] (op_jmp 51)) (op_ald 0 (op_ild 2 (op_con 2 (op_seq 27 (op_icge (op_con 3 (op_kil [true, true, true, false] (op_jmp 27))) (op_con 2 (op_kil [true, true, true, false] (op_jmp 27)))) K_X10_giveAtRandom_27))))) K_X10_giveAtRandom_51))))))
set_option maxRecDepth 100000 in
theorem S_B_X10_giveAtRandom_2 (g0 : vG) : Snd yX10_giveAtRandom cX10_giveAtRandom 4 none 1 0 0 g0 2 B_X10_giveAtRandom_2 := s_ildn (j := 2) (pc' := 3) (by decide +kernel) rfl rfl (s_bip (n := 6) (pc' := 5) (by decide +kernel) (by decide +kernel) rfl (s_icge (off := 52) (pt := 57) (pc' := 8) (by decide +kernel) (by decide) rfl (s_kil s_jmp) (s_aldn (j := 0) (pc' := 9) (by decide +kernel) rfl rfl (s_con (n := 3) (pc' := 10) (by decide +kernel) (by decide +kernel) rfl (s_calV (ci := 9) (pc' := 13) C_X10_draw A_X10_draw rfl (by decide) w_763 (by decide) (by decide +kernel) rfl (s_seq (s_ifeq (off := 38) (pt := 51) (pc' := 16) (by decide +kernel) (by decide) rfl (s_kil s_jmp) (s_aldn (j := 0) (pc' := 17) (by decide +kernel) rfl rfl (s_ildn (j := 2) (pc' := 18) (by decide +kernel) rfl rfl (s_con (n := 2) (pc' := 19) (by decide +kernel) (by decide +kernel) rfl (s_seq (s_icge (off := 7) (pt := 26) (pc' := 22) (by decide +kernel) (by decide) rfl (s_con (n := 3) (pc' := 27) (by decide +kernel) (by decide +kernel) rfl (s_kil s_jmp)) (s_con (n := 2) (pc' := 23) (by decide +kernel) (by decide +kernel) rfl (s_goto (off := 4) (pt := 27) (by decide +kernel) (by decide) (s_kil s_jmp)))) (S_K_X10_giveAtRandom_27 g0)))))) (S_K_X10_giveAtRandom_51 g0)))))))
def K_X10_giveAtRandom_57 : vD := op_vret
set_option maxRecDepth 100000 in
theorem S_K_X10_giveAtRandom_57 (g0 : vG) : Snd yX10_giveAtRandom cX10_giveAtRandom 4 none 1 0 0 g0 57 K_X10_giveAtRandom_57 := s_vret (by decide +kernel) rfl rfl rfl
def D_X10_giveAtRandom : vD := op_con 0 (op_ist 2 (op_seq 57 (op_kil [true, true, true, false] (op_loop 2 B_X10_giveAtRandom_2 4000)) K_X10_giveAtRandom_57))
set_option maxRecDepth 100000 in
theorem S_D_X10_giveAtRandom (g0 : vG) : Snd yX10_giveAtRandom cX10_giveAtRandom 4 none 1 0 0 g0 0 D_X10_giveAtRandom := s_con (n := 0) (pc' := 1) (by decide +kernel) (by decide +kernel) rfl (s_istn (j := 2) (pc' := 2) (by decide +kernel) rfl (by decide) rfl (s_seq (s_kil (s_loop (S_B_X10_giveAtRandom_2 g0) 4000)) (S_K_X10_giveAtRandom_57 g0)))
def F_X10_giveAtRandom : vF := runD D_X10_giveAtRandom 4
theorem C_X10_giveAtRandom : Ctr yX10_giveAtRandom cX10_giveAtRandom 4 none 1 0 0 F_X10_giveAtRandom := ctr_of (d := fun _ => D_X10_giveAtRandom) (by decide +kernel) S_D_X10_giveAtRandom
theorem A_X10_giveAtRandom : CaV yX10_giveAtRandom cX10_giveAtRandom 4 none 1 := ⟨w_761, w_16, w_66, w_762, by unfold Nm; decide +kernel⟩
def K_X10_isStyleOrNone_19 : vD := op_con 1 (op_kil [false, false] (op_jmp 24))
set_option maxRecDepth 100000 in
theorem S_K_X10_isStyleOrNone_19 (g0 : vG) : Snd yX10_isStyleOrNone cX10_isStyleOrNone 2 (some .boolean) 1 0 0 g0 19 K_X10_isStyleOrNone_19 := s_con (n := 1) (pc' := 20) (by decide +kernel) (by decide +kernel) rfl (s_goto (off := 4) (pt := 24) (by decide +kernel) (by decide) (s_kil s_jmp))
def K_X10_isStyleOrNone_24 : vD := op_zret
set_option maxRecDepth 100000 in
theorem S_K_X10_isStyleOrNone_24 (g0 : vG) : Snd yX10_isStyleOrNone cX10_isStyleOrNone 2 (some .boolean) 1 0 0 g0 24 K_X10_isStyleOrNone_24 := s_zret (by decide +kernel) rfl nar_bool rfl rfl
def D_X10_isStyleOrNone : vD := op_ild 1 (op_con (-1) (op_seq 24 (op_seq 19 (op_iceq (op_kil [false, false] (op_jmp 19)) (op_ald 0 (op_gfr 9 0 (op_gfr 8 2 (op_ild 1 (op_calV 7 1 F_X7_holds (op_ifeq (op_con 0 (op_kil [false, false] (op_jmp 24))) (op_kil [false, false] (op_jmp 19))))))))) K_X10_isStyleOrNone_19) K_X10_isStyleOrNone_24))
set_option maxRecDepth 100000 in
theorem S_D_X10_isStyleOrNone (g0 : vG) : Snd yX10_isStyleOrNone cX10_isStyleOrNone 2 (some .boolean) 1 0 0 g0 0 D_X10_isStyleOrNone := s_ildn (j := 1) (pc' := 1) (by decide +kernel) rfl rfl (s_con (n := (-1)) (pc' := 2) (by decide +kernel) (by decide +kernel) rfl (s_seq (s_seq (s_iceq (off := 17) (pt := 19) (pc' := 5) (by decide +kernel) (by decide) rfl (s_kil s_jmp) (s_aldn (j := 0) (pc' := 6) (by decide +kernel) rfl rfl (s_gfr (ci := 9) (j := 0) (pc' := 9) rfl g_ok10 (by decide) (by decide) (by decide) rfl w_290 (by decide +kernel) rfl (s_gfr (ci := 8) (j := 2) (pc' := 12) rfl g_ok8 (by decide) (by decide) (by decide) rfl w_128 (by decide +kernel) rfl (s_ildn (j := 1) (pc' := 13) (by decide +kernel) rfl rfl (s_calV (ci := 7) (pc' := 16) C_X7_holds A_X7_holds rfl (by decide) w_495 (by decide) (by decide +kernel) rfl (s_ifeq (off := 7) (pt := 23) (pc' := 19) (by decide +kernel) (by decide) rfl (s_con (n := 0) (pc' := 24) (by decide +kernel) (by decide +kernel) rfl (s_kil s_jmp)) (s_kil s_jmp)))))))) (S_K_X10_isStyleOrNone_19 g0)) (S_K_X10_isStyleOrNone_24 g0)))
def F_X10_isStyleOrNone : vF := runD D_X10_isStyleOrNone 2
theorem C_X10_isStyleOrNone : Ctr yX10_isStyleOrNone cX10_isStyleOrNone 2 (some .boolean) 1 0 0 F_X10_isStyleOrNone := ctr_of (d := fun _ => D_X10_isStyleOrNone) (by decide +kernel) S_D_X10_isStyleOrNone
theorem A_X10_isStyleOrNone : CaV yX10_isStyleOrNone cX10_isStyleOrNone 2 (some .boolean) 1 := ⟨w_576, w_13, w_66, w_577, by unfold Nm; decide +kernel⟩
def D_X10_tear : vD := op_ald 0 (op_gfr 9 2 (op_calV 1 0 F_X1_clear (op_ret)))
set_option maxRecDepth 100000 in
theorem S_D_X10_tear (g0 : vG) : Snd yX10_tear cX10_tear 1 (some .int) 1 0 0 g0 0 D_X10_tear := s_aldn (j := 0) (pc' := 1) (by decide +kernel) rfl rfl (s_gfr (ci := 9) (j := 2) (pc' := 4) rfl g_ok10 (by decide) (by decide) (by decide) rfl w_292 (by decide +kernel) rfl (s_calV (ci := 1) (pc' := 7) C_X1_clear A_X1_clear rfl (by decide) w_796 (by decide) (by decide +kernel) rfl (s_iret (by decide +kernel) rfl rfl rfl)))
def F_X10_tear : vF := runD D_X10_tear 1
theorem C_X10_tear : Ctr yX10_tear cX10_tear 1 (some .int) 1 0 0 F_X10_tear := ctr_of (d := fun _ => D_X10_tear) (by decide +kernel) S_D_X10_tear
theorem A_X10_tear : CaV yX10_tear cX10_tear 1 (some .int) 0 := ⟨w_793, w_794, w_66, w_795, by unfold Nm; decide +kernel⟩
def K_X10_write_21 : vD := op_con (-1000000001) (op_ret)
set_option maxRecDepth 100000 in
theorem S_K_X10_write_21 (g0 : vG) : Snd yX10_write cX10_write 4 (some .int) 1 0 0 g0 21 K_X10_write_21 := s_ldc (pc' := 23) (by decide +kernel) w_499 rfl (s_iret (by decide +kernel) rfl rfl rfl)
def D_X10_write : vD := op_ald 0 (op_gfr 9 0 (op_gfr 8 3 (op_ild 1 (op_calV 7 1 F_X7_holds (op_seq 21 (op_ifeq (op_kil [false, false, false, false] (op_jmp 21)) (op_ild 2 (op_cal 1 F_X9_isProperty (op_ifne (op_ald 0 (op_gfr 9 2 (op_calV 1 0 F_X1_hasRoom (op_ifne (op_ald 0 (op_gfr 9 2 (op_ild 1 (op_ild 2 (op_ild 3 (op_calV 1 3 F_X1_append (op_ald 0 (op_gfr 9 2 (op_gfi 1 0 (op_ret)))))))))) (op_con (-1000000004) (op_ret)))))) (op_kil [false, false, false, false] (op_jmp 21)))))) K_X10_write_21)))))
set_option maxRecDepth 100000 in
theorem S_D_X10_write (g0 : vG) : Snd yX10_write cX10_write 4 (some .int) 1 0 0 g0 0 D_X10_write := s_aldn (j := 0) (pc' := 1) (by decide +kernel) rfl rfl (s_gfr (ci := 9) (j := 0) (pc' := 4) rfl g_ok10 (by decide) (by decide) (by decide) rfl w_290 (by decide +kernel) rfl (s_gfr (ci := 8) (j := 3) (pc' := 7) rfl g_ok8 (by decide) (by decide) (by decide) rfl w_130 (by decide +kernel) rfl (s_ildn (j := 1) (pc' := 8) (by decide +kernel) rfl rfl (s_calV (ci := 7) (pc' := 11) C_X7_holds A_X7_holds rfl (by decide) w_495 (by decide) (by decide +kernel) rfl (s_seq (s_ifeq (off := 10) (pt := 21) (pc' := 14) (by decide +kernel) (by decide) rfl (s_kil s_jmp) (s_ildn (j := 2) (pc' := 15) (by decide +kernel) rfl rfl (s_calS (pc' := 18) C_X9_isProperty A_X9_isProperty w_496 (by decide) (by decide +kernel) rfl (s_ifne (off := 6) (pt := 24) (pc' := 21) (by decide +kernel) (by decide) rfl (s_aldn (j := 0) (pc' := 25) (by decide +kernel) rfl rfl (s_gfr (ci := 9) (j := 2) (pc' := 28) rfl g_ok10 (by decide) (by decide) (by decide) rfl w_292 (by decide +kernel) rfl (s_calV (ci := 1) (pc' := 31) C_X1_hasRoom A_X1_hasRoom rfl (by decide) w_784 (by decide) (by decide +kernel) rfl (s_ifne (off := 6) (pt := 37) (pc' := 34) (by decide +kernel) (by decide) rfl (s_aldn (j := 0) (pc' := 38) (by decide +kernel) rfl rfl (s_gfr (ci := 9) (j := 2) (pc' := 41) rfl g_ok10 (by decide) (by decide) (by decide) rfl w_292 (by decide +kernel) rfl (s_ildn (j := 1) (pc' := 42) (by decide +kernel) rfl rfl (s_ildn (j := 2) (pc' := 43) (by decide +kernel) rfl rfl (s_ildn (j := 3) (pc' := 44) (by decide +kernel) rfl rfl (s_calV (ci := 1) (pc' := 47) C_X1_append A_X1_append rfl (by decide) w_788 (by decide) (by decide +kernel) rfl (s_aldn (j := 0) (pc' := 48) (by decide +kernel) rfl rfl (s_gfr (ci := 9) (j := 2) (pc' := 51) rfl g_ok10 (by decide) (by decide) (by decide) rfl w_292 (by decide +kernel) rfl (s_gfi (ci := 1) (j := 0) (pc' := 54) rfl g_ok1 (by decide) (by decide) (by decide) rfl w_169 (by decide +kernel) rfl (s_iret (by decide +kernel) rfl rfl rfl)))))))))) (s_ldc (pc' := 36) (by decide +kernel) w_601 rfl (s_iret (by decide +kernel) rfl rfl rfl)))))) (s_kil s_jmp))))) (S_K_X10_write_21 g0))))))
def F_X10_write : vF := runD D_X10_write 4
theorem C_X10_write : Ctr yX10_write cX10_write 4 (some .int) 1 0 0 F_X10_write := ctr_of (d := fun _ => D_X10_write) (by decide +kernel) S_D_X10_write
theorem A_X10_write : CaV yX10_write cX10_write 4 (some .int) 3 := ⟨w_781, w_782, w_66, w_783, by unfold Nm; decide +kernel⟩
def K_X10_errorOfParent_44 : vD := op_ret
set_option maxRecDepth 100000 in
theorem S_K_X10_errorOfParent_44 (g0 : vG) : Snd yX10_errorOfParent cX10_errorOfParent 3 (some .int) 2 0 0 g0 44 K_X10_errorOfParent_44 := s_iret (by decide +kernel) rfl rfl rfl
def K_X10_errorOfParent_22 : vD := op_con (-1000000001) (op_ret)
set_option maxRecDepth 100000 in
theorem S_K_X10_errorOfParent_22 (g0 : vG) : Snd yX10_errorOfParent cX10_errorOfParent 3 (some .int) 2 0 0 g0 22 K_X10_errorOfParent_22 := s_ldc (pc' := 24) (by decide +kernel) w_499 rfl (s_iret (by decide +kernel) rfl rfl rfl)
def D_X10_errorOfParent : vD := op_ald 0 (op_gfr 9 0 (op_gfr 8 2 (op_ild 1 (op_calV 7 1 F_X7_holds (op_seq 22 (op_ifeq (op_kil [false, false, false] (op_jmp 22)) (op_ald 0 (op_ild 2 (op_calV 9 1 F_X10_isStyleOrNone (op_ifne (op_ald 0 (op_gfr 9 0 (op_ild 2 (op_ild 1 (op_calV 8 2 F_X8_descends (op_seq 44 (op_ifeq (op_con 0 (op_kil [false, false, false] (op_jmp 44))) (op_con (-1000000003) (op_kil [false, false, false] (op_jmp 44)))) K_X10_errorOfParent_44)))))) (op_kil [false, false, false] (op_jmp 22))))))) K_X10_errorOfParent_22)))))
set_option maxRecDepth 100000 in
theorem S_D_X10_errorOfParent (g0 : vG) : Snd yX10_errorOfParent cX10_errorOfParent 3 (some .int) 2 0 0 g0 0 D_X10_errorOfParent := s_aldn (j := 0) (pc' := 1) (by decide +kernel) rfl rfl (s_gfr (ci := 9) (j := 0) (pc' := 4) rfl g_ok10 (by decide) (by decide) (by decide) rfl w_290 (by decide +kernel) rfl (s_gfr (ci := 8) (j := 2) (pc' := 7) rfl g_ok8 (by decide) (by decide) (by decide) rfl w_128 (by decide +kernel) rfl (s_ildn (j := 1) (pc' := 8) (by decide +kernel) rfl rfl (s_calV (ci := 7) (pc' := 11) C_X7_holds A_X7_holds rfl (by decide) w_495 (by decide) (by decide +kernel) rfl (s_seq (s_ifeq (off := 11) (pt := 22) (pc' := 14) (by decide +kernel) (by decide) rfl (s_kil s_jmp) (s_aldn (j := 0) (pc' := 15) (by decide +kernel) rfl rfl (s_ildn (j := 2) (pc' := 16) (by decide +kernel) rfl rfl (s_calV (ci := 9) (pc' := 19) C_X10_isStyleOrNone A_X10_isStyleOrNone rfl (by decide) w_574 (by decide) (by decide +kernel) rfl (s_ifne (off := 6) (pt := 25) (pc' := 22) (by decide +kernel) (by decide) rfl (s_aldn (j := 0) (pc' := 26) (by decide +kernel) rfl rfl (s_gfr (ci := 9) (j := 0) (pc' := 29) rfl g_ok10 (by decide) (by decide) (by decide) rfl w_290 (by decide +kernel) rfl (s_ildn (j := 2) (pc' := 30) (by decide +kernel) rfl rfl (s_ildn (j := 1) (pc' := 31) (by decide +kernel) rfl rfl (s_calV (ci := 8) (pc' := 34) C_X8_descends A_X8_descends rfl (by decide) w_668 (by decide) (by decide +kernel) rfl (s_seq (s_ifeq (off := 9) (pt := 43) (pc' := 37) (by decide +kernel) (by decide) rfl (s_con (n := 0) (pc' := 44) (by decide +kernel) (by decide +kernel) rfl (s_kil s_jmp)) (s_ldw (pc' := 40) (by decide +kernel) w_672 rfl (s_goto (off := 4) (pt := 44) (by decide +kernel) (by decide) (s_kil s_jmp)))) (S_K_X10_errorOfParent_44 g0))))))) (s_kil s_jmp)))))) (S_K_X10_errorOfParent_22 g0))))))
def F_X10_errorOfParent : vF := runD D_X10_errorOfParent 3
theorem C_X10_errorOfParent : Ctr yX10_errorOfParent cX10_errorOfParent 3 (some .int) 2 0 0 F_X10_errorOfParent := ctr_of (d := fun _ => D_X10_errorOfParent) (by decide +kernel) S_D_X10_errorOfParent
theorem A_X10_errorOfParent : CaV yX10_errorOfParent cX10_errorOfParent 3 (some .int) 2 := ⟨w_666, w_15, w_66, w_667, by unfold Nm; decide +kernel⟩
def K_X10_from_76 : vD := op_ret
set_option maxRecDepth 100000 in
theorem S_K_X10_from_76 (g0 : vG) : Snd yX10_from cX10_from 4 (some .int) 2 0 0 g0 76 K_X10_from_76 := s_iret (by decide +kernel) rfl rfl rfl
def K_X10_from_21 : vD := op_con (-1000000001) (op_ret)
set_option maxRecDepth 100000 in
theorem S_K_X10_from_21 (g0 : vG) : Snd yX10_from cX10_from 4 (some .int) 2 0 0 g0 21 K_X10_from_21 := s_ldc (pc' := 23) (by decide +kernel) w_499 rfl (s_iret (by decide +kernel) rfl rfl rfl)
def D_X10_from : vD := op_ald 0 (op_gfr 9 0 (op_gfr 8 3 (op_ild 1 (op_calV 7 1 F_X7_holds (op_seq 21 (op_ifeq (op_kil [false, false, false, false] (op_jmp 21)) (op_ild 2 (op_cal 1 F_X9_isProperty (op_ifne (op_ald 0 (op_gfr 9 0 (op_gfr 8 3 (op_ild 1 (op_ild 2 (op_calV 7 2 F_X7_ownValue (op_con (-1) (op_iceq (op_ald 0 (op_gfr 9 0 (op_ald 0 (op_gfr 9 0 (op_gfr 8 3 (op_gfr 7 2 (op_ild 1 (op_ial (op_ild 2 (op_calV 8 2 F_X8_setter (op_ist 3 (op_ild 3 (op_con (-1) (op_seq 76 (op_icne (op_con 10 (op_ild 3 (op_bin f_add (op_kil [false, false, false, false] (op_jmp 76))))) (op_con 0 (op_kil [false, false, false, false] (op_jmp 76)))) K_X10_from_76)))))))))))))) (op_con 1 (op_ret)))))))))) (op_kil [false, false, false, false] (op_jmp 21)))))) K_X10_from_21)))))
set_option maxRecDepth 100000 in
theorem S_D_X10_from (g0 : vG) : Snd yX10_from cX10_from 4 (some .int) 2 0 0 g0 0 D_X10_from := s_aldn (j := 0) (pc' := 1) (by decide +kernel) rfl rfl (s_gfr (ci := 9) (j := 0) (pc' := 4) rfl g_ok10 (by decide) (by decide) (by decide) rfl w_290 (by decide +kernel) rfl (s_gfr (ci := 8) (j := 3) (pc' := 7) rfl g_ok8 (by decide) (by decide) (by decide) rfl w_130 (by decide +kernel) rfl (s_ildn (j := 1) (pc' := 8) (by decide +kernel) rfl rfl (s_calV (ci := 7) (pc' := 11) C_X7_holds A_X7_holds rfl (by decide) w_495 (by decide) (by decide +kernel) rfl (s_seq (s_ifeq (off := 10) (pt := 21) (pc' := 14) (by decide +kernel) (by decide) rfl (s_kil s_jmp) (s_ildn (j := 2) (pc' := 15) (by decide +kernel) rfl rfl (s_calS (pc' := 18) C_X9_isProperty A_X9_isProperty w_496 (by decide) (by decide +kernel) rfl (s_ifne (off := 6) (pt := 24) (pc' := 21) (by decide +kernel) (by decide) rfl (s_aldn (j := 0) (pc' := 25) (by decide +kernel) rfl rfl (s_gfr (ci := 9) (j := 0) (pc' := 28) rfl g_ok10 (by decide) (by decide) (by decide) rfl w_290 (by decide +kernel) rfl (s_gfr (ci := 8) (j := 3) (pc' := 31) rfl g_ok8 (by decide) (by decide) (by decide) rfl w_130 (by decide +kernel) rfl (s_ildn (j := 1) (pc' := 32) (by decide +kernel) rfl rfl (s_ildn (j := 2) (pc' := 33) (by decide +kernel) rfl rfl (s_calV (ci := 7) (pc' := 36) C_X7_ownValue A_X7_ownValue rfl (by decide) w_505 (by decide) (by decide +kernel) rfl (s_con (n := (-1)) (pc' := 37) (by decide +kernel) (by decide +kernel) rfl (s_iceq (off := 5) (pt := 42) (pc' := 40) (by decide +kernel) (by decide) rfl (s_aldn (j := 0) (pc' := 43) (by decide +kernel) rfl rfl (s_gfr (ci := 9) (j := 0) (pc' := 46) rfl g_ok10 (by decide) (by decide) (by decide) rfl w_290 (by decide +kernel) rfl (s_aldn (j := 0) (pc' := 47) (by decide +kernel) rfl rfl (s_gfr (ci := 9) (j := 0) (pc' := 50) rfl g_ok10 (by decide) (by decide) (by decide) rfl w_290 (by decide +kernel) rfl (s_gfr (ci := 8) (j := 3) (pc' := 53) rfl g_ok8 (by decide) (by decide) (by decide) rfl w_130 (by decide +kernel) rfl (s_gfr (ci := 7) (j := 2) (pc' := 56) rfl g_ok7 (by decide) (by decide) (by decide) rfl w_111 (by decide +kernel) rfl (s_ildn (j := 1) (pc' := 57) (by decide +kernel) rfl rfl (s_ial (pc' := 58) (by decide +kernel) rfl (s_ildn (j := 2) (pc' := 59) (by decide +kernel) rfl rfl (s_calV (ci := 8) (pc' := 62) C_X8_setter A_X8_setter rfl (by decide) w_506 (by decide) (by decide +kernel) rfl (s_istn (j := 3) (pc' := 63) (by decide +kernel) rfl (by decide) rfl (s_ildn (j := 3) (pc' := 64) (by decide +kernel) rfl rfl (s_con (n := (-1)) (pc' := 65) (by decide +kernel) (by decide +kernel) rfl (s_seq (s_icne (off := 7) (pt := 72) (pc' := 68) (by decide +kernel) (by decide) rfl (s_bip (n := 10) (pc' := 74) (by decide +kernel) (by decide +kernel) rfl (s_ildn (j := 3) (pc' := 75) (by decide +kernel) rfl rfl (s_add (pc' := 76) (by decide +kernel) rfl (s_kil s_jmp)))) (s_con (n := 0) (pc' := 69) (by decide +kernel) (by decide +kernel) rfl (s_goto (off := 7) (pt := 76) (by decide +kernel) (by decide) (s_kil s_jmp)))) (S_K_X10_from_76 g0))))))))))))))) (s_con (n := 1) (pc' := 41) (by decide +kernel) (by decide +kernel) rfl (s_iret (by decide +kernel) rfl rfl rfl)))))))))) (s_kil s_jmp))))) (S_K_X10_from_21 g0))))))
def F_X10_from : vF := runD D_X10_from 4
theorem C_X10_from : Ctr yX10_from cX10_from 4 (some .int) 2 0 0 F_X10_from := ctr_of (d := fun _ => D_X10_from) (by decide +kernel) S_D_X10_from
theorem A_X10_from : CaV yX10_from cX10_from 4 (some .int) 2 := ⟨w_502, w_503, w_66, w_504, by unfold Nm; decide +kernel⟩
def K_X10_styleHas_15 : vD := op_con (-1000000001) (op_ret)
set_option maxRecDepth 100000 in
theorem S_K_X10_styleHas_15 (g0 : vG) : Snd yX10_styleHas cX10_styleHas 3 (some .int) 2 0 0 g0 15 K_X10_styleHas_15 := s_ldc (pc' := 17) (by decide +kernel) w_499 rfl (s_iret (by decide +kernel) rfl rfl rfl)
def D_X10_styleHas : vD := op_ald 0 (op_ild 1 (op_calV 9 1 F_X10_isStyleOrNone (op_seq 15 (op_ifeq (op_kil [false, false, false] (op_jmp 15)) (op_ild 2 (op_cal 1 F_X9_isProperty (op_ifne (op_ald 0 (op_gfr 9 0 (op_ild 1 (op_ild 2 (op_calV 8 2 F_X8_styleValue (op_ret)))))) (op_kil [false, false, false] (op_jmp 15)))))) K_X10_styleHas_15)))
set_option maxRecDepth 100000 in
theorem S_D_X10_styleHas (g0 : vG) : Snd yX10_styleHas cX10_styleHas 3 (some .int) 2 0 0 g0 0 D_X10_styleHas := s_aldn (j := 0) (pc' := 1) (by decide +kernel) rfl rfl (s_ildn (j := 1) (pc' := 2) (by decide +kernel) rfl rfl (s_calV (ci := 9) (pc' := 5) C_X10_isStyleOrNone A_X10_isStyleOrNone rfl (by decide) w_574 (by decide) (by decide +kernel) rfl (s_seq (s_ifeq (off := 10) (pt := 15) (pc' := 8) (by decide +kernel) (by decide) rfl (s_kil s_jmp) (s_ildn (j := 2) (pc' := 9) (by decide +kernel) rfl rfl (s_calS (pc' := 12) C_X9_isProperty A_X9_isProperty w_496 (by decide) (by decide +kernel) rfl (s_ifne (off := 6) (pt := 18) (pc' := 15) (by decide +kernel) (by decide) rfl (s_aldn (j := 0) (pc' := 19) (by decide +kernel) rfl rfl (s_gfr (ci := 9) (j := 0) (pc' := 22) rfl g_ok10 (by decide) (by decide) (by decide) rfl w_290 (by decide +kernel) rfl (s_ildn (j := 1) (pc' := 23) (by decide +kernel) rfl rfl (s_ildn (j := 2) (pc' := 24) (by decide +kernel) rfl rfl (s_calV (ci := 8) (pc' := 27) C_X8_styleValue A_X8_styleValue rfl (by decide) w_578 (by decide) (by decide +kernel) rfl (s_iret (by decide +kernel) rfl rfl rfl)))))) (s_kil s_jmp))))) (S_K_X10_styleHas_15 g0))))
def F_X10_styleHas : vF := runD D_X10_styleHas 3
theorem C_X10_styleHas : Ctr yX10_styleHas cX10_styleHas 3 (some .int) 2 0 0 F_X10_styleHas := ctr_of (d := fun _ => D_X10_styleHas) (by decide +kernel) S_D_X10_styleHas
theorem A_X10_styleHas : CaV yX10_styleHas cX10_styleHas 3 (some .int) 2 := ⟨w_571, w_572, w_66, w_573, by unfold Nm; decide +kernel⟩
def K_X10_goBack_9 : vD := op_con (-1000000001) (op_ret)
set_option maxRecDepth 100000 in
theorem S_K_X10_goBack_9 (g0 : vG) : Snd yX10_goBack cX10_goBack 2 (some .int) 3 0 0 g0 9 K_X10_goBack_9 := s_ldc (pc' := 11) (by decide +kernel) w_499 rfl (s_iret (by decide +kernel) rfl rfl rfl)
def D_X10_goBack : vD := op_ild 1 (op_seq 9 (op_iflt (op_kil [false, false] (op_jmp 9)) (op_ild 1 (op_con 2 (op_iclt (op_ald 0 (op_gfr 9 3 (op_ild 1 (op_aal 2 (op_gfi 4 0 (op_ifne (op_ald 0 (op_ald 0 (op_gfr 9 3 (op_ild 1 (op_aal 2 (op_gfi 4 1 (op_pfi 9 7 (op_ald 0 (op_gfr 9 0 (op_ald 0 (op_gfr 9 3 (op_ild 1 (op_aal 2 (op_gfr 4 2 (op_calV 8 1 F_X8_copyFrom (op_ald 0 (op_gfr 9 1 (op_calV 3 0 F_X3_forget (op_con 1 (op_ret)))))))))))))))))))) (op_con (-1000000003) (op_ret)))))))) (op_kil [false, false] (op_jmp 9)))))) K_X10_goBack_9)
set_option maxRecDepth 100000 in
theorem S_D_X10_goBack (g0 : vG) : Snd yX10_goBack cX10_goBack 2 (some .int) 3 0 0 g0 0 D_X10_goBack := s_ildn (j := 1) (pc' := 1) (by decide +kernel) rfl rfl (s_seq (s_iflt (off := 8) (pt := 9) (pc' := 4) (by decide +kernel) (by decide) rfl (s_kil s_jmp) (s_ildn (j := 1) (pc' := 5) (by decide +kernel) rfl rfl (s_con (n := 2) (pc' := 6) (by decide +kernel) (by decide +kernel) rfl (s_iclt (off := 6) (pt := 12) (pc' := 9) (by decide +kernel) (by decide) rfl (s_aldn (j := 0) (pc' := 13) (by decide +kernel) rfl rfl (s_gfr (ci := 9) (j := 3) (pc' := 16) rfl g_ok10 (by decide) (by decide) (by decide) rfl w_293 (by decide +kernel) rfl (s_ildn (j := 1) (pc' := 17) (by decide +kernel) rfl rfl (s_aal (t := 2) (pc' := 18) (by decide) (fun _ => rfl) rfl (by decide +kernel) rfl (s_gfi (ci := 4) (j := 0) (pc' := 21) rfl g_ok4 (by decide) (by decide) (by decide) rfl w_278 (by decide +kernel) rfl (s_ifne (off := 7) (pt := 28) (pc' := 24) (by decide +kernel) (by decide) rfl (s_aldn (j := 0) (pc' := 29) (by decide +kernel) rfl rfl (s_aldn (j := 0) (pc' := 30) (by decide +kernel) rfl rfl (s_gfr (ci := 9) (j := 3) (pc' := 33) rfl g_ok10 (by decide) (by decide) (by decide) rfl w_293 (by decide +kernel) rfl (s_ildn (j := 1) (pc' := 34) (by decide +kernel) rfl rfl (s_aal (t := 2) (pc' := 35) (by decide) (fun _ => rfl) rfl (by decide +kernel) rfl (s_gfi (ci := 4) (j := 1) (pc' := 38) rfl g_ok4 (by decide) (by decide) (by decide) rfl w_280 (by decide +kernel) rfl (s_pfi (ci := 9) (j := 7) (pc' := 41) rfl g_ok10 tyX10 tyX10_ok nmX10 (by decide) (by decide) (by decide) rfl rfl rfl w_297 (by decide +kernel) rfl (s_aldn (j := 0) (pc' := 42) (by decide +kernel) rfl rfl (s_gfr (ci := 9) (j := 0) (pc' := 45) rfl g_ok10 (by decide) (by decide) (by decide) rfl w_290 (by decide +kernel) rfl (s_aldn (j := 0) (pc' := 46) (by decide +kernel) rfl rfl (s_gfr (ci := 9) (j := 3) (pc' := 49) rfl g_ok10 (by decide) (by decide) (by decide) rfl w_293 (by decide +kernel) rfl (s_ildn (j := 1) (pc' := 50) (by decide +kernel) rfl rfl (s_aal (t := 2) (pc' := 51) (by decide) (fun _ => rfl) rfl (by decide +kernel) rfl (s_gfr (ci := 4) (j := 2) (pc' := 54) rfl g_ok4 (by decide) (by decide) (by decide) rfl w_282 (by decide +kernel) rfl (s_calV (ci := 8) (pc' := 57) C_X8_copyFrom A_X8_copyFrom rfl (by decide) w_808 (by decide) (by decide +kernel) rfl (s_aldn (j := 0) (pc' := 58) (by decide +kernel) rfl rfl (s_gfr (ci := 9) (j := 1) (pc' := 61) rfl g_ok10 (by decide) (by decide) (by decide) rfl w_291 (by decide +kernel) rfl (s_calV (ci := 3) (pc' := 64) C_X3_forget A_X3_forget rfl (by decide) w_809 (by decide) (by decide +kernel) rfl (s_con (n := 1) (pc' := 65) (by decide +kernel) (by decide +kernel) rfl (s_iret (by decide +kernel) rfl rfl rfl)))))))))))))))))))) (s_ldw (pc' := 27) (by decide +kernel) w_672 rfl (s_iret (by decide +kernel) rfl rfl rfl)))))))) (s_kil s_jmp))))) (S_K_X10_goBack_9 g0))
def F_X10_goBack : vF := runD D_X10_goBack 2
theorem C_X10_goBack : Ctr yX10_goBack cX10_goBack 2 (some .int) 3 0 0 F_X10_goBack := ctr_of (d := fun _ => D_X10_goBack) (by decide +kernel) S_D_X10_goBack
theorem A_X10_goBack : CaV yX10_goBack cX10_goBack 2 (some .int) 1 := ⟨w_814, w_815, w_66, w_816, by unfold Nm; decide +kernel⟩
def K_X10_has_21 : vD := op_con (-1000000001) (op_ret)
set_option maxRecDepth 100000 in
theorem S_K_X10_has_21 (g0 : vG) : Snd yX10_has cX10_has 3 (some .int) 3 0 0 g0 21 K_X10_has_21 := s_ldc (pc' := 23) (by decide +kernel) w_499 rfl (s_iret (by decide +kernel) rfl rfl rfl)
def D_X10_has : vD := op_ald 0 (op_gfr 9 0 (op_gfr 8 3 (op_ild 1 (op_calV 7 1 F_X7_holds (op_seq 21 (op_ifeq (op_kil [false, false, false] (op_jmp 21)) (op_ild 2 (op_cal 1 F_X9_isProperty (op_ifne (op_ald 0 (op_gfr 9 0 (op_ild 1 (op_ild 2 (op_calV 8 2 F_X8_paragraphValue (op_ret)))))) (op_kil [false, false, false] (op_jmp 21)))))) K_X10_has_21)))))
set_option maxRecDepth 100000 in
theorem S_D_X10_has (g0 : vG) : Snd yX10_has cX10_has 3 (some .int) 3 0 0 g0 0 D_X10_has := s_aldn (j := 0) (pc' := 1) (by decide +kernel) rfl rfl (s_gfr (ci := 9) (j := 0) (pc' := 4) rfl g_ok10 (by decide) (by decide) (by decide) rfl w_290 (by decide +kernel) rfl (s_gfr (ci := 8) (j := 3) (pc' := 7) rfl g_ok8 (by decide) (by decide) (by decide) rfl w_130 (by decide +kernel) rfl (s_ildn (j := 1) (pc' := 8) (by decide +kernel) rfl rfl (s_calV (ci := 7) (pc' := 11) C_X7_holds A_X7_holds rfl (by decide) w_495 (by decide) (by decide +kernel) rfl (s_seq (s_ifeq (off := 10) (pt := 21) (pc' := 14) (by decide +kernel) (by decide) rfl (s_kil s_jmp) (s_ildn (j := 2) (pc' := 15) (by decide +kernel) rfl rfl (s_calS (pc' := 18) C_X9_isProperty A_X9_isProperty w_496 (by decide) (by decide +kernel) rfl (s_ifne (off := 6) (pt := 24) (pc' := 21) (by decide +kernel) (by decide) rfl (s_aldn (j := 0) (pc' := 25) (by decide +kernel) rfl rfl (s_gfr (ci := 9) (j := 0) (pc' := 28) rfl g_ok10 (by decide) (by decide) (by decide) rfl w_290 (by decide +kernel) rfl (s_ildn (j := 1) (pc' := 29) (by decide +kernel) rfl rfl (s_ildn (j := 2) (pc' := 30) (by decide +kernel) rfl rfl (s_calV (ci := 8) (pc' := 33) C_X8_paragraphValue A_X8_paragraphValue rfl (by decide) w_500 (by decide) (by decide +kernel) rfl (s_iret (by decide +kernel) rfl rfl rfl)))))) (s_kil s_jmp))))) (S_K_X10_has_21 g0))))))
def F_X10_has : vF := runD D_X10_has 3
theorem C_X10_has : Ctr yX10_has cX10_has 3 (some .int) 3 0 0 F_X10_has := ctr_of (d := fun _ => D_X10_has) (by decide +kernel) S_D_X10_has
theorem A_X10_has : CaV yX10_has cX10_has 3 (some .int) 2 := ⟨w_492, w_493, w_66, w_494, by unfold Nm; decide +kernel⟩
def K_X10_keep_9 : vD := op_con (-1000000001) (op_ret)
set_option maxRecDepth 100000 in
theorem S_K_X10_keep_9 (g0 : vG) : Snd yX10_keep cX10_keep 2 (some .int) 3 0 0 g0 9 K_X10_keep_9 := s_ldc (pc' := 11) (by decide +kernel) w_499 rfl (s_iret (by decide +kernel) rfl rfl rfl)
def D_X10_keep : vD := op_ild 1 (op_seq 9 (op_iflt (op_kil [false, false] (op_jmp 9)) (op_ild 1 (op_con 2 (op_iclt (op_ald 0 (op_gfr 9 3 (op_ild 1 (op_aal 2 (op_con 1 (op_pfz 4 0 (op_ald 0 (op_gfr 9 3 (op_ild 1 (op_aal 2 (op_ald 0 (op_gfi 9 7 (op_pfi 4 1 (op_ald 0 (op_gfr 9 3 (op_ild 1 (op_aal 2 (op_gfr 4 2 (op_ald 0 (op_gfr 9 0 (op_calV 8 1 F_X8_copyFrom (op_ald 0 (op_gfr 9 1 (op_calV 3 0 F_X3_forget (op_con 1 (op_ret)))))))))))))))))))))))))) (op_kil [false, false] (op_jmp 9)))))) K_X10_keep_9)
set_option maxRecDepth 100000 in
theorem S_D_X10_keep (g0 : vG) : Snd yX10_keep cX10_keep 2 (some .int) 3 0 0 g0 0 D_X10_keep := s_ildn (j := 1) (pc' := 1) (by decide +kernel) rfl rfl (s_seq (s_iflt (off := 8) (pt := 9) (pc' := 4) (by decide +kernel) (by decide) rfl (s_kil s_jmp) (s_ildn (j := 1) (pc' := 5) (by decide +kernel) rfl rfl (s_con (n := 2) (pc' := 6) (by decide +kernel) (by decide +kernel) rfl (s_iclt (off := 6) (pt := 12) (pc' := 9) (by decide +kernel) (by decide) rfl (s_aldn (j := 0) (pc' := 13) (by decide +kernel) rfl rfl (s_gfr (ci := 9) (j := 3) (pc' := 16) rfl g_ok10 (by decide) (by decide) (by decide) rfl w_293 (by decide +kernel) rfl (s_ildn (j := 1) (pc' := 17) (by decide +kernel) rfl rfl (s_aal (t := 2) (pc' := 18) (by decide) (fun _ => rfl) rfl (by decide +kernel) rfl (s_con (n := 1) (pc' := 19) (by decide +kernel) (by decide +kernel) rfl (s_pfz (ci := 4) (j := 0) (pc' := 22) rfl g_ok4 tyX4 tyX4_ok nmX4 (by decide) (by decide) (by decide) rfl rfl rfl w_278 (by decide +kernel) rfl (s_aldn (j := 0) (pc' := 23) (by decide +kernel) rfl rfl (s_gfr (ci := 9) (j := 3) (pc' := 26) rfl g_ok10 (by decide) (by decide) (by decide) rfl w_293 (by decide +kernel) rfl (s_ildn (j := 1) (pc' := 27) (by decide +kernel) rfl rfl (s_aal (t := 2) (pc' := 28) (by decide) (fun _ => rfl) rfl (by decide +kernel) rfl (s_aldn (j := 0) (pc' := 29) (by decide +kernel) rfl rfl (s_gfi (ci := 9) (j := 7) (pc' := 32) rfl g_ok10 (by decide) (by decide) (by decide) rfl w_297 (by decide +kernel) rfl (s_pfi (ci := 4) (j := 1) (pc' := 35) rfl g_ok4 tyX4 tyX4_ok nmX4 (by decide) (by decide) (by decide) rfl rfl rfl w_280 (by decide +kernel) rfl (s_aldn (j := 0) (pc' := 36) (by decide +kernel) rfl rfl (s_gfr (ci := 9) (j := 3) (pc' := 39) rfl g_ok10 (by decide) (by decide) (by decide) rfl w_293 (by decide +kernel) rfl (s_ildn (j := 1) (pc' := 40) (by decide +kernel) rfl rfl (s_aal (t := 2) (pc' := 41) (by decide) (fun _ => rfl) rfl (by decide +kernel) rfl (s_gfr (ci := 4) (j := 2) (pc' := 44) rfl g_ok4 (by decide) (by decide) (by decide) rfl w_282 (by decide +kernel) rfl (s_aldn (j := 0) (pc' := 45) (by decide +kernel) rfl rfl (s_gfr (ci := 9) (j := 0) (pc' := 48) rfl g_ok10 (by decide) (by decide) (by decide) rfl w_290 (by decide +kernel) rfl (s_calV (ci := 8) (pc' := 51) C_X8_copyFrom A_X8_copyFrom rfl (by decide) w_808 (by decide) (by decide +kernel) rfl (s_aldn (j := 0) (pc' := 52) (by decide +kernel) rfl rfl (s_gfr (ci := 9) (j := 1) (pc' := 55) rfl g_ok10 (by decide) (by decide) (by decide) rfl w_291 (by decide +kernel) rfl (s_calV (ci := 3) (pc' := 58) C_X3_forget A_X3_forget rfl (by decide) w_809 (by decide) (by decide +kernel) rfl (s_con (n := 1) (pc' := 59) (by decide +kernel) (by decide +kernel) rfl (s_iret (by decide +kernel) rfl rfl rfl)))))))))))))))))))))))))) (s_kil s_jmp))))) (S_K_X10_keep_9 g0))
def F_X10_keep : vF := runD D_X10_keep 2
theorem C_X10_keep : Ctr yX10_keep cX10_keep 2 (some .int) 3 0 0 F_X10_keep := ctr_of (d := fun _ => D_X10_keep) (by decide +kernel) S_D_X10_keep
theorem A_X10_keep : CaV yX10_keep cX10_keep 2 (some .int) 1 := ⟨w_805, w_806, w_66, w_807, by unfold Nm; decide +kernel⟩
def K_X10_apply_22 : vD := op_con (-1000000001) (op_ret)
set_option maxRecDepth 100000 in
theorem S_K_X10_apply_22 (g0 : vG) : Snd yX10_apply cX10_apply 3 (some .int) 4 0 0 g0 22 K_X10_apply_22 := s_ldc (pc' := 24) (by decide +kernel) w_499 rfl (s_iret (by decide +kernel) rfl rfl rfl)
def D_X10_apply : vD := op_ald 0 (op_gfr 9 0 (op_gfr 8 3 (op_ild 1 (op_calV 7 1 F_X7_holds (op_seq 22 (op_ifeq (op_kil [false, false, false] (op_jmp 22)) (op_ald 0 (op_ild 2 (op_calV 9 1 F_X10_isStyleOrNone (op_ifne (op_ald 0 (op_gfr 9 1 (op_ald 0 (op_gfr 9 0 (op_calV 3 1 F_X3_remember (op_ald 0 (op_gfr 9 0 (op_gfr 8 3 (op_ild 1 (op_ild 2 (op_calV 7 2 F_X7_changeBase (op_ret)))))))))))) (op_kil [false, false, false] (op_jmp 22))))))) K_X10_apply_22)))))
set_option maxRecDepth 100000 in
theorem S_D_X10_apply (g0 : vG) : Snd yX10_apply cX10_apply 3 (some .int) 4 0 0 g0 0 D_X10_apply := s_aldn (j := 0) (pc' := 1) (by decide +kernel) rfl rfl (s_gfr (ci := 9) (j := 0) (pc' := 4) rfl g_ok10 (by decide) (by decide) (by decide) rfl w_290 (by decide +kernel) rfl (s_gfr (ci := 8) (j := 3) (pc' := 7) rfl g_ok8 (by decide) (by decide) (by decide) rfl w_130 (by decide +kernel) rfl (s_ildn (j := 1) (pc' := 8) (by decide +kernel) rfl rfl (s_calV (ci := 7) (pc' := 11) C_X7_holds A_X7_holds rfl (by decide) w_495 (by decide) (by decide +kernel) rfl (s_seq (s_ifeq (off := 11) (pt := 22) (pc' := 14) (by decide +kernel) (by decide) rfl (s_kil s_jmp) (s_aldn (j := 0) (pc' := 15) (by decide +kernel) rfl rfl (s_ildn (j := 2) (pc' := 16) (by decide +kernel) rfl rfl (s_calV (ci := 9) (pc' := 19) C_X10_isStyleOrNone A_X10_isStyleOrNone rfl (by decide) w_574 (by decide) (by decide +kernel) rfl (s_ifne (off := 6) (pt := 25) (pc' := 22) (by decide +kernel) (by decide) rfl (s_aldn (j := 0) (pc' := 26) (by decide +kernel) rfl rfl (s_gfr (ci := 9) (j := 1) (pc' := 29) rfl g_ok10 (by decide) (by decide) (by decide) rfl w_291 (by decide +kernel) rfl (s_aldn (j := 0) (pc' := 30) (by decide +kernel) rfl rfl (s_gfr (ci := 9) (j := 0) (pc' := 33) rfl g_ok10 (by decide) (by decide) (by decide) rfl w_290 (by decide +kernel) rfl (s_calV (ci := 3) (pc' := 36) C_X3_remember A_X3_remember rfl (by decide) w_602 (by decide) (by decide +kernel) rfl (s_aldn (j := 0) (pc' := 37) (by decide +kernel) rfl rfl (s_gfr (ci := 9) (j := 0) (pc' := 40) rfl g_ok10 (by decide) (by decide) (by decide) rfl w_290 (by decide +kernel) rfl (s_gfr (ci := 8) (j := 3) (pc' := 43) rfl g_ok8 (by decide) (by decide) (by decide) rfl w_130 (by decide +kernel) rfl (s_ildn (j := 1) (pc' := 44) (by decide +kernel) rfl rfl (s_ildn (j := 2) (pc' := 45) (by decide +kernel) rfl rfl (s_calV (ci := 7) (pc' := 48) C_X7_changeBase A_X7_changeBase rfl (by decide) w_656 (by decide) (by decide +kernel) rfl (s_iret (by decide +kernel) rfl rfl rfl)))))))))))) (s_kil s_jmp)))))) (S_K_X10_apply_22 g0))))))
def F_X10_apply : vF := runD D_X10_apply 3
theorem C_X10_apply : Ctr yX10_apply cX10_apply 3 (some .int) 4 0 0 F_X10_apply := ctr_of (d := fun _ => D_X10_apply) (by decide +kernel) S_D_X10_apply
theorem A_X10_apply : CaV yX10_apply cX10_apply 3 (some .int) 2 := ⟨w_653, w_654, w_66, w_655, by unfold Nm; decide +kernel⟩
def B_X10_drift_16 : vD := op_ild 2 (op_ild 1 (op_icge (op_kil [true, false, false] (op_jmp 65)) (op_ald 0 (op_gfr 9 0 (op_gfr 8 3 (op_calV 7 0 F_X7_hasRoom (op_ifeq (op_kil [true, false, false] (op_jmp 65)) (op_ald 0 (op_gfr 9 1 (op_ald 0 (op_gfr 9 0 (op_calV 3 1 F_X3_remember (op_ald 0 (op_ald 0 (op_gfr 9 0 (op_gfr 8 3 (op_calV 7 0 F_X7_append (op_calV 9 1 F_X10_giveAtRandom (op_inc 2 1 (op_jmp 16))))))))))))))))))))
set_option maxRecDepth 100000 in
theorem S_B_X10_drift_16 (g0 : vG) : Snd yX10_drift cX10_drift 3 (some .int) 4 0 0 g0 16 B_X10_drift_16 := s_ildn (j := 2) (pc' := 17) (by decide +kernel) rfl rfl (s_ildn (j := 1) (pc' := 18) (by decide +kernel) rfl rfl (s_icge (off := 47) (pt := 65) (pc' := 21) (by decide +kernel) (by decide) rfl (s_kil s_jmp) (s_aldn (j := 0) (pc' := 22) (by decide +kernel) rfl rfl (s_gfr (ci := 9) (j := 0) (pc' := 25) rfl g_ok10 (by decide) (by decide) (by decide) rfl w_290 (by decide +kernel) rfl (s_gfr (ci := 8) (j := 3) (pc' := 28) rfl g_ok8 (by decide) (by decide) (by decide) rfl w_130 (by decide +kernel) rfl (s_calV (ci := 7) (pc' := 31) C_X7_hasRoom A_X7_hasRoom rfl (by decide) w_597 (by decide) (by decide +kernel) rfl (s_ifeq (off := 34) (pt := 65) (pc' := 34) (by decide +kernel) (by decide) rfl (s_kil s_jmp) (s_aldn (j := 0) (pc' := 35) (by decide +kernel) rfl rfl (s_gfr (ci := 9) (j := 1) (pc' := 38) rfl g_ok10 (by decide) (by decide) (by decide) rfl w_291 (by decide +kernel) rfl (s_aldn (j := 0) (pc' := 39) (by decide +kernel) rfl rfl (s_gfr (ci := 9) (j := 0) (pc' := 42) rfl g_ok10 (by decide) (by decide) (by decide) rfl w_290 (by decide +kernel) rfl (s_calV (ci := 3) (pc' := 45) C_X3_remember A_X3_remember rfl (by decide) w_602 (by decide) (by decide +kernel) rfl (s_aldn (j := 0) (pc' := 46) (by decide +kernel) rfl rfl (s_aldn (j := 0) (pc' := 47) (by decide +kernel) rfl rfl (s_gfr (ci := 9) (j := 0) (pc' := 50) rfl g_ok10 (by decide) (by decide) (by decide) rfl w_290 (by decide +kernel) rfl (s_gfr (ci := 8) (j := 3) (pc' := 53) rfl g_ok8 (by decide) (by decide) (by decide) rfl w_130 (by decide +kernel) rfl (s_calV (ci := 7) (pc' := 56) C_X7_append A_X7_append rfl (by decide) w_617 (by decide) (by decide +kernel) rfl (s_calV (ci := 9) (pc' := 59) C_X10_giveAtRandom A_X10_giveAtRandom rfl (by decide) w_759 (by decide) (by decide +kernel) rfl (s_inc (n := 1) (pc' := 62) (by decide +kernel) (by decide +kernel) (by decide) rfl (s_goto (off := (-46)) (pt := 16) (by decide +kernel) (by decide) (s_jmp)))))))))))))))))))))
def K_X10_drift_65 : vD := op_ald 0 (op_gfr 9 0 (op_gfr 8 3 (op_gfi 7 1 (op_ret))))
set_option maxRecDepth 100000 in
theorem S_K_X10_drift_65 (g0 : vG) : Snd yX10_drift cX10_drift 3 (some .int) 4 0 0 g0 65 K_X10_drift_65 := s_aldn (j := 0) (pc' := 66) (by decide +kernel) rfl rfl (s_gfr (ci := 9) (j := 0) (pc' := 69) rfl g_ok10 (by decide) (by decide) (by decide) rfl w_290 (by decide +kernel) rfl (s_gfr (ci := 8) (j := 3) (pc' := 72) rfl g_ok8 (by decide) (by decide) (by decide) rfl w_130 (by decide +kernel) rfl (s_gfi (ci := 7) (j := 1) (pc' := 75) rfl g_ok7 (by decide) (by decide) (by decide) rfl w_106 (by decide +kernel) rfl (s_iret (by decide +kernel) rfl rfl rfl))))
def K_X10_drift_11 : vD := op_con (-1000000002) (op_ret)
set_option maxRecDepth 100000 in
theorem S_K_X10_drift_11 (g0 : vG) : Snd yX10_drift cX10_drift 3 (some .int) 4 0 0 g0 11 K_X10_drift_11 := s_ldc (pc' := 13) (by decide +kernel) w_490 rfl (s_iret (by decide +kernel) rfl rfl rfl)
def D_X10_drift : vD := op_ild 1 (op_con 1 (op_seq 11 (op_iclt (op_kil [false, false, false] (op_jmp 11)) (op_ild 1 (op_con 8 (op_icle (op_con 0 (op_ist 2 (op_seq 65 (op_loop 16 B_X10_drift_16 4000) K_X10_drift_65))) (op_kil [false, false, false] (op_jmp 11)))))) K_X10_drift_11))
set_option maxRecDepth 100000 in
theorem S_D_X10_drift (g0 : vG) : Snd yX10_drift cX10_drift 3 (some .int) 4 0 0 g0 0 D_X10_drift := s_ildn (j := 1) (pc' := 1) (by decide +kernel) rfl rfl (s_con (n := 1) (pc' := 2) (by decide +kernel) (by decide +kernel) rfl (s_seq (s_iclt (off := 9) (pt := 11) (pc' := 5) (by decide +kernel) (by decide) rfl (s_kil s_jmp) (s_ildn (j := 1) (pc' := 6) (by decide +kernel) rfl rfl (s_bip (n := 8) (pc' := 8) (by decide +kernel) (by decide +kernel) rfl (s_icle (off := 6) (pt := 14) (pc' := 11) (by decide +kernel) (by decide) rfl (s_con (n := 0) (pc' := 15) (by decide +kernel) (by decide +kernel) rfl (s_istn (j := 2) (pc' := 16) (by decide +kernel) rfl (by decide) rfl (s_seq (s_loop (S_B_X10_drift_16 g0) 4000) (S_K_X10_drift_65 g0)))) (s_kil s_jmp))))) (S_K_X10_drift_11 g0)))
def F_X10_drift : vF := runD D_X10_drift 3
theorem C_X10_drift : Ctr yX10_drift cX10_drift 3 (some .int) 4 0 0 F_X10_drift := ctr_of (d := fun _ => D_X10_drift) (by decide +kernel) S_D_X10_drift
theorem A_X10_drift : CaV yX10_drift cX10_drift 3 (some .int) 1 := ⟨w_756, w_757, w_66, w_758, by unfold Nm; decide +kernel⟩
def K_X10_give_36 : vD := op_ald 0 (op_gfr 9 1 (op_ald 0 (op_gfr 9 0 (op_calV 3 1 F_X3_remember (op_ald 1 (op_ild 2 (op_ild 3 (op_ild 4 (op_calV 7 3 F_X7_changeOwn (op_ret))))))))))
set_option maxRecDepth 100000 in
theorem S_K_X10_give_36 (g0 : vG) : Snd yX10_give cX10_give 5 (some .int) 4 0 0 g0 36 K_X10_give_36 := s_aldn (j := 0) (pc' := 37) (by decide +kernel) rfl rfl (s_gfr (ci := 9) (j := 1) (pc' := 40) rfl g_ok10 (by decide) (by decide) (by decide) rfl w_291 (by decide +kernel) rfl (s_aldn (j := 0) (pc' := 41) (by decide +kernel) rfl rfl (s_gfr (ci := 9) (j := 0) (pc' := 44) rfl g_ok10 (by decide) (by decide) (by decide) rfl w_290 (by decide +kernel) rfl (s_calV (ci := 3) (pc' := 47) C_X3_remember A_X3_remember rfl (by decide) w_602 (by decide) (by decide +kernel) rfl (s_aldn (j := 1) (pc' := 48) (by decide +kernel) rfl rfl (s_ildn (j := 2) (pc' := 49) (by decide +kernel) rfl rfl (s_ildn (j := 3) (pc' := 50) (by decide +kernel) rfl rfl (s_ild (pc' := 52) (by decide +kernel) rfl (s_calV (ci := 7) (pc' := 55) C_X7_changeOwn A_X7_changeOwn rfl (by decide) w_639 (by decide) (by decide +kernel) rfl (s_iret (by decide +kernel) rfl rfl rfl))))))))))
def K_X10_give_15 : vD := op_con (-1000000001) (op_ret)
set_option maxRecDepth 100000 in
theorem S_K_X10_give_15 (g0 : vG) : Snd yX10_give cX10_give 5 (some .int) 4 0 0 g0 15 K_X10_give_15 := s_ldc (pc' := 17) (by decide +kernel) w_499 rfl (s_iret (by decide +kernel) rfl rfl rfl)
def D_X10_give : vD := op_ald 1 (op_ild 2 (op_calV 7 1 F_X7_holds (op_seq 15 (op_ifeq (op_kil [false, false, false, false, false] (op_jmp 15)) (op_ild 3 (op_cal 1 F_X9_isProperty (op_ifne (op_ild 4 (op_con (-1) (op_seq 36 (op_iceq (op_jmp 36) (op_ild 3 (op_ild 4 (op_cal 2 F_X9_isValue (op_ifne (op_jmp 36) (op_con (-1000000002) (op_ret))))))) K_X10_give_36))) (op_kil [false, false, false, false, false] (op_jmp 15)))))) K_X10_give_15)))
set_option maxRecDepth 100000 in
theorem S_D_X10_give (g0 : vG) : Snd yX10_give cX10_give 5 (some .int) 4 0 0 g0 0 D_X10_give := s_aldn (j := 1) (pc' := 1) (by decide +kernel) rfl rfl (s_ildn (j := 2) (pc' := 2) (by decide +kernel) rfl rfl (s_calV (ci := 7) (pc' := 5) C_X7_holds A_X7_holds rfl (by decide) w_495 (by decide) (by decide +kernel) rfl (s_seq (s_ifeq (off := 10) (pt := 15) (pc' := 8) (by decide +kernel) (by decide) rfl (s_kil s_jmp) (s_ildn (j := 3) (pc' := 9) (by decide +kernel) rfl rfl (s_calS (pc' := 12) C_X9_isProperty A_X9_isProperty w_496 (by decide) (by decide +kernel) rfl (s_ifne (off := 6) (pt := 18) (pc' := 15) (by decide +kernel) (by decide) rfl (s_ild (pc' := 20) (by decide +kernel) rfl (s_con (n := (-1)) (pc' := 21) (by decide +kernel) (by decide +kernel) rfl (s_seq (s_iceq (off := 15) (pt := 36) (pc' := 24) (by decide +kernel) (by decide) rfl (s_jmp) (s_ildn (j := 3) (pc' := 25) (by decide +kernel) rfl rfl (s_ild (pc' := 27) (by decide +kernel) rfl (s_calS (pc' := 30) C_X9_isValue A_X9_isValue w_634 (by decide) (by decide +kernel) rfl (s_ifne (off := 6) (pt := 36) (pc' := 33) (by decide +kernel) (by decide) rfl (s_jmp) (s_ldc (pc' := 35) (by decide +kernel) w_490 rfl (s_iret (by decide +kernel) rfl rfl rfl))))))) (S_K_X10_give_36 g0)))) (s_kil s_jmp))))) (S_K_X10_give_15 g0))))
def F_X10_give : vF := runD D_X10_give 5
theorem C_X10_give : Ctr yX10_give cX10_give 5 (some .int) 4 0 0 F_X10_give := ctr_of (d := fun _ => D_X10_give) (by decide +kernel) S_D_X10_give
theorem A_X10_give : CaV yX10_give cX10_give 5 (some .int) 4 := ⟨w_632, w_14, w_66, w_633, by unfold Nm; decide +kernel⟩
def D_X10_ground : vD := op_ild 1 (op_cal 1 F_X9_isProperty (op_ifne (op_ild 1 (op_ild 2 (op_cal 2 F_X9_isValue (op_ifne (op_ald 0 (op_gfr 9 1 (op_ald 0 (op_gfr 9 0 (op_calV 3 1 F_X3_remember (op_ald 0 (op_gfr 9 0 (op_gfr 8 1 (op_ild 1 (op_ial (op_ist 3 (op_ald 0 (op_gfr 9 0 (op_gfr 8 1 (op_ild 1 (op_ild 2 (op_ias (op_ild 3 (op_ret))))))))))))))))))) (op_con (-1000000002) (op_ret)))))) (op_con (-1000000001) (op_ret))))
set_option maxRecDepth 100000 in
theorem S_D_X10_ground (g0 : vG) : Snd yX10_ground cX10_ground 4 (some .int) 4 0 0 g0 0 D_X10_ground := s_ildn (j := 1) (pc' := 1) (by decide +kernel) rfl rfl (s_calS (pc' := 4) C_X9_isProperty A_X9_isProperty w_496 (by decide) (by decide +kernel) rfl (s_ifne (off := 6) (pt := 10) (pc' := 7) (by decide +kernel) (by decide) rfl (s_ildn (j := 1) (pc' := 11) (by decide +kernel) rfl rfl (s_ildn (j := 2) (pc' := 12) (by decide +kernel) rfl rfl (s_calS (pc' := 15) C_X9_isValue A_X9_isValue w_634 (by decide) (by decide +kernel) rfl (s_ifne (off := 6) (pt := 21) (pc' := 18) (by decide +kernel) (by decide) rfl (s_aldn (j := 0) (pc' := 22) (by decide +kernel) rfl rfl (s_gfr (ci := 9) (j := 1) (pc' := 25) rfl g_ok10 (by decide) (by decide) (by decide) rfl w_291 (by decide +kernel) rfl (s_aldn (j := 0) (pc' := 26) (by decide +kernel) rfl rfl (s_gfr (ci := 9) (j := 0) (pc' := 29) rfl g_ok10 (by decide) (by decide) (by decide) rfl w_290 (by decide +kernel) rfl (s_calV (ci := 3) (pc' := 32) C_X3_remember A_X3_remember rfl (by decide) w_602 (by decide) (by decide +kernel) rfl (s_aldn (j := 0) (pc' := 33) (by decide +kernel) rfl rfl (s_gfr (ci := 9) (j := 0) (pc' := 36) rfl g_ok10 (by decide) (by decide) (by decide) rfl w_290 (by decide +kernel) rfl (s_gfr (ci := 8) (j := 1) (pc' := 39) rfl g_ok8 (by decide) (by decide) (by decide) rfl w_126 (by decide +kernel) rfl (s_ildn (j := 1) (pc' := 40) (by decide +kernel) rfl rfl (s_ial (pc' := 41) (by decide +kernel) rfl (s_istn (j := 3) (pc' := 42) (by decide +kernel) rfl (by decide) rfl (s_aldn (j := 0) (pc' := 43) (by decide +kernel) rfl rfl (s_gfr (ci := 9) (j := 0) (pc' := 46) rfl g_ok10 (by decide) (by decide) (by decide) rfl w_290 (by decide +kernel) rfl (s_gfr (ci := 8) (j := 1) (pc' := 49) rfl g_ok8 (by decide) (by decide) (by decide) rfl w_126 (by decide +kernel) rfl (s_ildn (j := 1) (pc' := 50) (by decide +kernel) rfl rfl (s_ildn (j := 2) (pc' := 51) (by decide +kernel) rfl rfl (s_ias (pc' := 52) (by decide +kernel) rfl (s_ildn (j := 3) (pc' := 53) (by decide +kernel) rfl rfl (s_iret (by decide +kernel) rfl rfl rfl))))))))))))))))))) (s_ldc (pc' := 20) (by decide +kernel) w_490 rfl (s_iret (by decide +kernel) rfl rfl rfl)))))) (s_ldc (pc' := 9) (by decide +kernel) w_499 rfl (s_iret (by decide +kernel) rfl rfl rfl))))
def F_X10_ground : vF := runD D_X10_ground 4
theorem C_X10_ground : Ctr yX10_ground cX10_ground 4 (some .int) 4 0 0 F_X10_ground := ctr_of (d := fun _ => D_X10_ground) (by decide +kernel) S_D_X10_ground
theorem A_X10_ground : CaV yX10_ground cX10_ground 4 (some .int) 2 := ⟨w_645, w_646, w_66, w_647, by unfold Nm; decide +kernel⟩
def K_X10_head_11 : vD := op_con (-1000000002) (op_ret)
set_option maxRecDepth 100000 in
theorem S_K_X10_head_11 (g0 : vG) : Snd yX10_head cX10_head 3 (some .int) 4 0 0 g0 11 K_X10_head_11 := s_ldc (pc' := 13) (by decide +kernel) w_490 rfl (s_iret (by decide +kernel) rfl rfl rfl)
def D_X10_head : vD := op_ild 1 (op_con 1 (op_seq 11 (op_iclt (op_kil [false, false, false] (op_jmp 11)) (op_ild 1 (op_con 20 (op_icle (op_ald 0 (op_gfr 9 1 (op_ald 0 (op_gfr 9 0 (op_calV 3 1 F_X3_remember (op_ald 0 (op_gfr 9 0 (op_gfi 8 0 (op_ist 2 (op_ald 0 (op_gfr 9 0 (op_ild 1 (op_pfi 8 0 (op_ild 2 (op_ret))))))))))))))) (op_kil [false, false, false] (op_jmp 11)))))) K_X10_head_11))
set_option maxRecDepth 100000 in
theorem S_D_X10_head (g0 : vG) : Snd yX10_head cX10_head 3 (some .int) 4 0 0 g0 0 D_X10_head := s_ildn (j := 1) (pc' := 1) (by decide +kernel) rfl rfl (s_con (n := 1) (pc' := 2) (by decide +kernel) (by decide +kernel) rfl (s_seq (s_iclt (off := 9) (pt := 11) (pc' := 5) (by decide +kernel) (by decide) rfl (s_kil s_jmp) (s_ildn (j := 1) (pc' := 6) (by decide +kernel) rfl rfl (s_bip (n := 20) (pc' := 8) (by decide +kernel) (by decide +kernel) rfl (s_icle (off := 6) (pt := 14) (pc' := 11) (by decide +kernel) (by decide) rfl (s_aldn (j := 0) (pc' := 15) (by decide +kernel) rfl rfl (s_gfr (ci := 9) (j := 1) (pc' := 18) rfl g_ok10 (by decide) (by decide) (by decide) rfl w_291 (by decide +kernel) rfl (s_aldn (j := 0) (pc' := 19) (by decide +kernel) rfl rfl (s_gfr (ci := 9) (j := 0) (pc' := 22) rfl g_ok10 (by decide) (by decide) (by decide) rfl w_290 (by decide +kernel) rfl (s_calV (ci := 3) (pc' := 25) C_X3_remember A_X3_remember rfl (by decide) w_602 (by decide) (by decide +kernel) rfl (s_aldn (j := 0) (pc' := 26) (by decide +kernel) rfl rfl (s_gfr (ci := 9) (j := 0) (pc' := 29) rfl g_ok10 (by decide) (by decide) (by decide) rfl w_290 (by decide +kernel) rfl (s_gfi (ci := 8) (j := 0) (pc' := 32) rfl g_ok8 (by decide) (by decide) (by decide) rfl w_124 (by decide +kernel) rfl (s_istn (j := 2) (pc' := 33) (by decide +kernel) rfl (by decide) rfl (s_aldn (j := 0) (pc' := 34) (by decide +kernel) rfl rfl (s_gfr (ci := 9) (j := 0) (pc' := 37) rfl g_ok10 (by decide) (by decide) (by decide) rfl w_290 (by decide +kernel) rfl (s_ildn (j := 1) (pc' := 38) (by decide +kernel) rfl rfl (s_pfi (ci := 8) (j := 0) (pc' := 41) rfl g_ok8 tyX8 tyX8_ok nmX8 (by decide) (by decide) (by decide) rfl rfl rfl w_124 (by decide +kernel) rfl (s_ildn (j := 2) (pc' := 42) (by decide +kernel) rfl rfl (s_iret (by decide +kernel) rfl rfl rfl))))))))))))))) (s_kil s_jmp))))) (S_K_X10_head_11 g0)))
def F_X10_head : vF := runD D_X10_head 3
theorem C_X10_head : Ctr yX10_head cX10_head 3 (some .int) 4 0 0 F_X10_head := ctr_of (d := fun _ => D_X10_head) (by decide +kernel) S_D_X10_head
theorem A_X10_head : CaV yX10_head cX10_head 3 (some .int) 1 := ⟨w_649, w_650, w_66, w_651, by unfold Nm; decide +kernel⟩
def B_X10_layForestOfStyles_17 : vD := op_ild 1 (op_ald 0 (op_gfr 9 0 (op_gfr 8 2 (op_gfi 7 1 (op_icge (op_kil [true, false] (op_jmp 52)) (op_ald 0 (op_gfr 9 5 (op_ald 0 (op_gfr 9 0 (op_ild 1 (op_calV 8 1 F_X8_styleLook (op_calV 2 1 F_X2_plant (op_inc 1 1 (op_jmp 17))))))))))))))
set_option maxRecDepth 100000 in
theorem S_B_X10_layForestOfStyles_17 (g0 : vG) : Snd yX10_layForestOfStyles cX10_layForestOfStyles 2 none 4 0 0 g0 17 B_X10_layForestOfStyles_17 := s_ildn (j := 1) (pc' := 18) (by decide +kernel) rfl rfl (s_aldn (j := 0) (pc' := 19) (by decide +kernel) rfl rfl (s_gfr (ci := 9) (j := 0) (pc' := 22) rfl g_ok10 (by decide) (by decide) (by decide) rfl w_290 (by decide +kernel) rfl (s_gfr (ci := 8) (j := 2) (pc' := 25) rfl g_ok8 (by decide) (by decide) (by decide) rfl w_128 (by decide +kernel) rfl (s_gfi (ci := 7) (j := 1) (pc' := 28) rfl g_ok7 (by decide) (by decide) (by decide) rfl w_106 (by decide +kernel) rfl (s_icge (off := 24) (pt := 52) (pc' := 31) (by decide +kernel) (by decide) rfl (s_kil s_jmp) (s_aldn (j := 0) (pc' := 32) (by decide +kernel) rfl rfl (s_gfr (ci := 9) (j := 5) (pc' := 35) rfl g_ok10 (by decide) (by decide) (by decide) rfl w_295 (by decide +kernel) rfl (s_aldn (j := 0) (pc' := 36) (by decide +kernel) rfl rfl (s_gfr (ci := 9) (j := 0) (pc' := 39) rfl g_ok10 (by decide) (by decide) (by decide) rfl w_290 (by decide +kernel) rfl (s_ildn (j := 1) (pc' := 40) (by decide +kernel) rfl rfl (s_calV (ci := 8) (pc' := 43) C_X8_styleLook A_X8_styleLook rfl (by decide) w_399 (by decide) (by decide +kernel) rfl (s_calV (ci := 2) (pc' := 46) C_X2_plant A_X2_plant rfl (by decide) w_407 (by decide) (by decide +kernel) rfl (s_inc (n := 1) (pc' := 49) (by decide +kernel) (by decide +kernel) (by decide) rfl (s_goto (off := (-32)) (pt := 17) (by decide +kernel) (by decide) (s_jmp)))))))))))))))
def K_X10_layForestOfStyles_52 : vD := op_ald 0 (op_gfr 9 5 (op_calV 2 0 F_X2_grow (op_vret)))
set_option maxRecDepth 100000 in
theorem S_K_X10_layForestOfStyles_52 (g0 : vG) : Snd yX10_layForestOfStyles cX10_layForestOfStyles 2 none 4 0 0 g0 52 K_X10_layForestOfStyles_52 := s_aldn (j := 0) (pc' := 53) (by decide +kernel) rfl rfl (s_gfr (ci := 9) (j := 5) (pc' := 56) rfl g_ok10 (by decide) (by decide) (by decide) rfl w_295 (by decide +kernel) rfl (s_calV (ci := 2) (pc' := 59) C_X2_grow A_X2_grow rfl (by decide) w_411 (by decide) (by decide +kernel) rfl (s_vret (by decide +kernel) rfl rfl rfl)))
def D_X10_layForestOfStyles : vD := op_ald 0 (op_gfr 9 5 (op_ald 0 (op_gfr 9 0 (op_con (-1) (op_calV 8 1 F_X8_styleLook (op_calV 2 1 F_X2_begin (op_con 0 (op_ist 1 (op_seq 52 (op_loop 17 B_X10_layForestOfStyles_17 4000) K_X10_layForestOfStyles_52)))))))))
set_option maxRecDepth 100000 in
theorem S_D_X10_layForestOfStyles (g0 : vG) : Snd yX10_layForestOfStyles cX10_layForestOfStyles 2 none 4 0 0 g0 0 D_X10_layForestOfStyles := s_aldn (j := 0) (pc' := 1) (by decide +kernel) rfl rfl (s_gfr (ci := 9) (j := 5) (pc' := 4) rfl g_ok10 (by decide) (by decide) (by decide) rfl w_295 (by decide +kernel) rfl (s_aldn (j := 0) (pc' := 5) (by decide +kernel) rfl rfl (s_gfr (ci := 9) (j := 0) (pc' := 8) rfl g_ok10 (by decide) (by decide) (by decide) rfl w_290 (by decide +kernel) rfl (s_con (n := (-1)) (pc' := 9) (by decide +kernel) (by decide +kernel) rfl (s_calV (ci := 8) (pc' := 12) C_X8_styleLook A_X8_styleLook rfl (by decide) w_399 (by decide) (by decide +kernel) rfl (s_calV (ci := 2) (pc' := 15) C_X2_begin A_X2_begin rfl (by decide) w_403 (by decide) (by decide +kernel) rfl (s_con (n := 0) (pc' := 16) (by decide +kernel) (by decide +kernel) rfl (s_istn (j := 1) (pc' := 17) (by decide +kernel) rfl (by decide) rfl (s_seq (s_loop (S_B_X10_layForestOfStyles_17 g0) 4000) (S_K_X10_layForestOfStyles_52 g0))))))))))
def F_X10_layForestOfStyles : vF := runD D_X10_layForestOfStyles 2
theorem C_X10_layForestOfStyles : Ctr yX10_layForestOfStyles cX10_layForestOfStyles 2 none 4 0 0 F_X10_layForestOfStyles := ctr_of (d := fun _ => D_X10_layForestOfStyles) (by decide +kernel) S_D_X10_layForestOfStyles
theorem A_X10_layForestOfStyles : CaV yX10_layForestOfStyles cX10_layForestOfStyles 2 none 0 := ⟨w_397, w_4, w_66, w_398, by unfold Nm; decide +kernel⟩
def D_X10_paragraph : vD := op_ald 0 (op_gfr 9 0 (op_gfr 8 3 (op_calV 7 0 F_X7_hasRoom (op_ifne (op_ald 0 (op_gfr 9 1 (op_ald 0 (op_gfr 9 0 (op_calV 3 1 F_X3_remember (op_ald 0 (op_gfr 9 0 (op_gfr 8 3 (op_calV 7 0 F_X7_append (op_ret)))))))))) (op_con (-1000000004) (op_ret))))))
set_option maxRecDepth 100000 in
theorem S_D_X10_paragraph (g0 : vG) : Snd yX10_paragraph cX10_paragraph 1 (some .int) 4 0 0 g0 0 D_X10_paragraph := s_aldn (j := 0) (pc' := 1) (by decide +kernel) rfl rfl (s_gfr (ci := 9) (j := 0) (pc' := 4) rfl g_ok10 (by decide) (by decide) (by decide) rfl w_290 (by decide +kernel) rfl (s_gfr (ci := 8) (j := 3) (pc' := 7) rfl g_ok8 (by decide) (by decide) (by decide) rfl w_130 (by decide +kernel) rfl (s_calV (ci := 7) (pc' := 10) C_X7_hasRoom A_X7_hasRoom rfl (by decide) w_597 (by decide) (by decide +kernel) rfl (s_ifne (off := 6) (pt := 16) (pc' := 13) (by decide +kernel) (by decide) rfl (s_aldn (j := 0) (pc' := 17) (by decide +kernel) rfl rfl (s_gfr (ci := 9) (j := 1) (pc' := 20) rfl g_ok10 (by decide) (by decide) (by decide) rfl w_291 (by decide +kernel) rfl (s_aldn (j := 0) (pc' := 21) (by decide +kernel) rfl rfl (s_gfr (ci := 9) (j := 0) (pc' := 24) rfl g_ok10 (by decide) (by decide) (by decide) rfl w_290 (by decide +kernel) rfl (s_calV (ci := 3) (pc' := 27) C_X3_remember A_X3_remember rfl (by decide) w_602 (by decide) (by decide +kernel) rfl (s_aldn (j := 0) (pc' := 28) (by decide +kernel) rfl rfl (s_gfr (ci := 9) (j := 0) (pc' := 31) rfl g_ok10 (by decide) (by decide) (by decide) rfl w_290 (by decide +kernel) rfl (s_gfr (ci := 8) (j := 3) (pc' := 34) rfl g_ok8 (by decide) (by decide) (by decide) rfl w_130 (by decide +kernel) rfl (s_calV (ci := 7) (pc' := 37) C_X7_append A_X7_append rfl (by decide) w_617 (by decide) (by decide +kernel) rfl (s_iret (by decide +kernel) rfl rfl rfl)))))))))) (s_ldc (pc' := 15) (by decide +kernel) w_601 rfl (s_iret (by decide +kernel) rfl rfl rfl))))))
def F_X10_paragraph : vF := runD D_X10_paragraph 1
theorem C_X10_paragraph : Ctr yX10_paragraph cX10_paragraph 1 (some .int) 4 0 0 F_X10_paragraph := ctr_of (d := fun _ => D_X10_paragraph) (by decide +kernel) S_D_X10_paragraph
theorem A_X10_paragraph : CaV yX10_paragraph cX10_paragraph 1 (some .int) 0 := ⟨w_594, w_595, w_66, w_596, by unfold Nm; decide +kernel⟩
def D_X10_parent : vD := op_ald 0 (op_ild 1 (op_ild 2 (op_calV 9 2 F_X10_errorOfParent (op_ist 3 (op_ild 3 (op_ifeq (op_ald 0 (op_gfr 9 1 (op_ald 0 (op_gfr 9 0 (op_calV 3 1 F_X3_remember (op_ald 0 (op_gfr 9 0 (op_gfr 8 2 (op_ild 1 (op_ild 2 (op_calV 7 2 F_X7_changeBase (op_ret)))))))))))) (op_ild 3 (op_ret))))))))
set_option maxRecDepth 100000 in
theorem S_D_X10_parent (g0 : vG) : Snd yX10_parent cX10_parent 4 (some .int) 4 0 0 g0 0 D_X10_parent := s_aldn (j := 0) (pc' := 1) (by decide +kernel) rfl rfl (s_ildn (j := 1) (pc' := 2) (by decide +kernel) rfl rfl (s_ildn (j := 2) (pc' := 3) (by decide +kernel) rfl rfl (s_calV (ci := 9) (pc' := 6) C_X10_errorOfParent A_X10_errorOfParent rfl (by decide) w_664 (by decide) (by decide +kernel) rfl (s_istn (j := 3) (pc' := 7) (by decide +kernel) rfl (by decide) rfl (s_ildn (j := 3) (pc' := 8) (by decide +kernel) rfl rfl (s_ifeq (off := 5) (pt := 13) (pc' := 11) (by decide +kernel) (by decide) rfl (s_aldn (j := 0) (pc' := 14) (by decide +kernel) rfl rfl (s_gfr (ci := 9) (j := 1) (pc' := 17) rfl g_ok10 (by decide) (by decide) (by decide) rfl w_291 (by decide +kernel) rfl (s_aldn (j := 0) (pc' := 18) (by decide +kernel) rfl rfl (s_gfr (ci := 9) (j := 0) (pc' := 21) rfl g_ok10 (by decide) (by decide) (by decide) rfl w_290 (by decide +kernel) rfl (s_calV (ci := 3) (pc' := 24) C_X3_remember A_X3_remember rfl (by decide) w_602 (by decide) (by decide +kernel) rfl (s_aldn (j := 0) (pc' := 25) (by decide +kernel) rfl rfl (s_gfr (ci := 9) (j := 0) (pc' := 28) rfl g_ok10 (by decide) (by decide) (by decide) rfl w_290 (by decide +kernel) rfl (s_gfr (ci := 8) (j := 2) (pc' := 31) rfl g_ok8 (by decide) (by decide) (by decide) rfl w_128 (by decide +kernel) rfl (s_ildn (j := 1) (pc' := 32) (by decide +kernel) rfl rfl (s_ildn (j := 2) (pc' := 33) (by decide +kernel) rfl rfl (s_calV (ci := 7) (pc' := 36) C_X7_changeBase A_X7_changeBase rfl (by decide) w_656 (by decide) (by decide +kernel) rfl (s_iret (by decide +kernel) rfl rfl rfl)))))))))))) (s_ildn (j := 3) (pc' := 12) (by decide +kernel) rfl rfl (s_iret (by decide +kernel) rfl rfl rfl))))))))
def F_X10_parent : vF := runD D_X10_parent 4
theorem C_X10_parent : Ctr yX10_parent cX10_parent 4 (some .int) 4 0 0 F_X10_parent := ctr_of (d := fun _ => D_X10_parent) (by decide +kernel) S_D_X10_parent
theorem A_X10_parent : CaV yX10_parent cX10_parent 4 (some .int) 2 := ⟨w_661, w_662, w_66, w_663, by unfold Nm; decide +kernel⟩
def D_X10_reparent : vD := op_ald 0 (op_ild 1 (op_ild 2 (op_calV 9 2 F_X10_errorOfParent (op_ist 3 (op_ild 3 (op_ifeq (op_ald 0 (op_gfr 9 1 (op_ald 0 (op_gfr 9 0 (op_calV 3 1 F_X3_remember (op_ald 0 (op_gfr 9 0 (op_ild 1 (op_ild 2 (op_calV 8 2 F_X8_rebaseStyle (op_ald 0 (op_gfr 9 0 (op_ild 1 (op_calV 8 1 F_X8_styleCost (op_ret))))))))))))))) (op_ild 3 (op_ret))))))))
set_option maxRecDepth 100000 in
theorem S_D_X10_reparent (g0 : vG) : Snd yX10_reparent cX10_reparent 4 (some .int) 4 0 0 g0 0 D_X10_reparent := s_aldn (j := 0) (pc' := 1) (by decide +kernel) rfl rfl (s_ildn (j := 1) (pc' := 2) (by decide +kernel) rfl rfl (s_ildn (j := 2) (pc' := 3) (by decide +kernel) rfl rfl (s_calV (ci := 9) (pc' := 6) C_X10_errorOfParent A_X10_errorOfParent rfl (by decide) w_664 (by decide) (by decide +kernel) rfl (s_istn (j := 3) (pc' := 7) (by decide +kernel) rfl (by decide) rfl (s_ildn (j := 3) (pc' := 8) (by decide +kernel) rfl rfl (s_ifeq (off := 5) (pt := 13) (pc' := 11) (by decide +kernel) (by decide) rfl (s_aldn (j := 0) (pc' := 14) (by decide +kernel) rfl rfl (s_gfr (ci := 9) (j := 1) (pc' := 17) rfl g_ok10 (by decide) (by decide) (by decide) rfl w_291 (by decide +kernel) rfl (s_aldn (j := 0) (pc' := 18) (by decide +kernel) rfl rfl (s_gfr (ci := 9) (j := 0) (pc' := 21) rfl g_ok10 (by decide) (by decide) (by decide) rfl w_290 (by decide +kernel) rfl (s_calV (ci := 3) (pc' := 24) C_X3_remember A_X3_remember rfl (by decide) w_602 (by decide) (by decide +kernel) rfl (s_aldn (j := 0) (pc' := 25) (by decide +kernel) rfl rfl (s_gfr (ci := 9) (j := 0) (pc' := 28) rfl g_ok10 (by decide) (by decide) (by decide) rfl w_290 (by decide +kernel) rfl (s_ildn (j := 1) (pc' := 29) (by decide +kernel) rfl rfl (s_ildn (j := 2) (pc' := 30) (by decide +kernel) rfl rfl (s_calV (ci := 8) (pc' := 33) C_X8_rebaseStyle A_X8_rebaseStyle rfl (by decide) w_691 (by decide) (by decide +kernel) rfl (s_aldn (j := 0) (pc' := 34) (by decide +kernel) rfl rfl (s_gfr (ci := 9) (j := 0) (pc' := 37) rfl g_ok10 (by decide) (by decide) (by decide) rfl w_290 (by decide +kernel) rfl (s_ildn (j := 1) (pc' := 38) (by decide +kernel) rfl rfl (s_calV (ci := 8) (pc' := 41) C_X8_styleCost A_X8_styleCost rfl (by decide) w_540 (by decide) (by decide +kernel) rfl (s_iret (by decide +kernel) rfl rfl rfl))))))))))))))) (s_ildn (j := 3) (pc' := 12) (by decide +kernel) rfl rfl (s_iret (by decide +kernel) rfl rfl rfl))))))))
def F_X10_reparent : vF := runD D_X10_reparent 4
theorem C_X10_reparent : Ctr yX10_reparent cX10_reparent 4 (some .int) 4 0 0 F_X10_reparent := ctr_of (d := fun _ => D_X10_reparent) (by decide +kernel) S_D_X10_reparent
theorem A_X10_reparent : CaV yX10_reparent cX10_reparent 4 (some .int) 2 := ⟨w_688, w_689, w_66, w_690, by unfold Nm; decide +kernel⟩
def D_X10_style : vD := op_ald 0 (op_gfr 9 0 (op_gfr 8 2 (op_calV 7 0 F_X7_hasRoom (op_ifne (op_ald 0 (op_gfr 9 1 (op_ald 0 (op_gfr 9 0 (op_calV 3 1 F_X3_remember (op_ald 0 (op_gfr 9 0 (op_gfr 8 2 (op_calV 7 0 F_X7_append (op_ret)))))))))) (op_con (-1000000004) (op_ret))))))
set_option maxRecDepth 100000 in
theorem S_D_X10_style (g0 : vG) : Snd yX10_style cX10_style 1 (some .int) 4 0 0 g0 0 D_X10_style := s_aldn (j := 0) (pc' := 1) (by decide +kernel) rfl rfl (s_gfr (ci := 9) (j := 0) (pc' := 4) rfl g_ok10 (by decide) (by decide) (by decide) rfl w_290 (by decide +kernel) rfl (s_gfr (ci := 8) (j := 2) (pc' := 7) rfl g_ok8 (by decide) (by decide) (by decide) rfl w_128 (by decide +kernel) rfl (s_calV (ci := 7) (pc' := 10) C_X7_hasRoom A_X7_hasRoom rfl (by decide) w_597 (by decide) (by decide +kernel) rfl (s_ifne (off := 6) (pt := 16) (pc' := 13) (by decide +kernel) (by decide) rfl (s_aldn (j := 0) (pc' := 17) (by decide +kernel) rfl rfl (s_gfr (ci := 9) (j := 1) (pc' := 20) rfl g_ok10 (by decide) (by decide) (by decide) rfl w_291 (by decide +kernel) rfl (s_aldn (j := 0) (pc' := 21) (by decide +kernel) rfl rfl (s_gfr (ci := 9) (j := 0) (pc' := 24) rfl g_ok10 (by decide) (by decide) (by decide) rfl w_290 (by decide +kernel) rfl (s_calV (ci := 3) (pc' := 27) C_X3_remember A_X3_remember rfl (by decide) w_602 (by decide) (by decide +kernel) rfl (s_aldn (j := 0) (pc' := 28) (by decide +kernel) rfl rfl (s_gfr (ci := 9) (j := 0) (pc' := 31) rfl g_ok10 (by decide) (by decide) (by decide) rfl w_290 (by decide +kernel) rfl (s_gfr (ci := 8) (j := 2) (pc' := 34) rfl g_ok8 (by decide) (by decide) (by decide) rfl w_128 (by decide +kernel) rfl (s_calV (ci := 7) (pc' := 37) C_X7_append A_X7_append rfl (by decide) w_617 (by decide) (by decide +kernel) rfl (s_iret (by decide +kernel) rfl rfl rfl)))))))))) (s_ldc (pc' := 15) (by decide +kernel) w_601 rfl (s_iret (by decide +kernel) rfl rfl rfl))))))
def F_X10_style : vF := runD D_X10_style 1
theorem C_X10_style : Ctr yX10_style cX10_style 1 (some .int) 4 0 0 F_X10_style := ctr_of (d := fun _ => D_X10_style) (by decide +kernel) S_D_X10_style
theorem A_X10_style : CaV yX10_style cX10_style 1 (some .int) 0 := ⟨w_623, w_624, w_66, w_625, by unfold Nm; decide +kernel⟩
def K_X10_swap_66 : vD := op_ist 3 (op_ald 0 (op_gfr 9 0 (op_gfr 8 3 (op_ild 1 (op_ild 2 (op_calV 7 2 F_X7_exchange (op_ild 3 (op_ret))))))))
set_option maxRecDepth 100000 in
theorem S_K_X10_swap_66 (g0 : vG) : Snd yX10_swap cX10_swap 4 (some .int) 4 0 0 g0 66 K_X10_swap_66 := s_istn (j := 3) (pc' := 67) (by decide +kernel) rfl (by decide) rfl (s_aldn (j := 0) (pc' := 68) (by decide +kernel) rfl rfl (s_gfr (ci := 9) (j := 0) (pc' := 71) rfl g_ok10 (by decide) (by decide) (by decide) rfl w_290 (by decide +kernel) rfl (s_gfr (ci := 8) (j := 3) (pc' := 74) rfl g_ok8 (by decide) (by decide) (by decide) rfl w_130 (by decide +kernel) rfl (s_ildn (j := 1) (pc' := 75) (by decide +kernel) rfl rfl (s_ildn (j := 2) (pc' := 76) (by decide +kernel) rfl rfl (s_calV (ci := 7) (pc' := 79) C_X7_exchange A_X7_exchange rfl (by decide) w_722 (by decide) (by decide +kernel) rfl (s_ildn (j := 3) (pc' := 80) (by decide +kernel) rfl rfl (s_iret (by decide +kernel) rfl rfl rfl))))))))
def K_X10_swap_28 : vD := op_con (-1000000001) (op_ret)
set_option maxRecDepth 100000 in
theorem S_K_X10_swap_28 (g0 : vG) : Snd yX10_swap cX10_swap 4 (some .int) 4 0 0 g0 28 K_X10_swap_28 := s_ldc (pc' := 30) (by decide +kernel) w_499 rfl (s_iret (by decide +kernel) rfl rfl rfl)
def D_X10_swap : vD := op_ald 0 (op_gfr 9 0 (op_gfr 8 3 (op_ild 1 (op_calV 7 1 F_X7_holds (op_seq 28 (op_ifeq (op_kil [false, false, false, false] (op_jmp 28)) (op_ald 0 (op_gfr 9 0 (op_gfr 8 3 (op_ild 2 (op_calV 7 1 F_X7_holds (op_ifne (op_ald 0 (op_gfr 9 1 (op_ald 0 (op_gfr 9 0 (op_calV 3 1 F_X3_remember (op_ald 0 (op_gfr 9 0 (op_ild 1 (op_calV 8 1 F_X8_paragraphLook (op_ald 0 (op_gfr 9 0 (op_ild 2 (op_calV 8 1 F_X8_paragraphLook (op_seq 66 (op_icne (op_con 1 (op_jmp 66)) (op_con 0 (op_jmp 66))) K_X10_swap_66)))))))))))))) (op_kil [false, false, false, false] (op_jmp 28))))))))) K_X10_swap_28)))))
set_option maxRecDepth 100000 in
theorem S_D_X10_swap (g0 : vG) : Snd yX10_swap cX10_swap 4 (some .int) 4 0 0 g0 0 D_X10_swap := s_aldn (j := 0) (pc' := 1) (by decide +kernel) rfl rfl (s_gfr (ci := 9) (j := 0) (pc' := 4) rfl g_ok10 (by decide) (by decide) (by decide) rfl w_290 (by decide +kernel) rfl (s_gfr (ci := 8) (j := 3) (pc' := 7) rfl g_ok8 (by decide) (by decide) (by decide) rfl w_130 (by decide +kernel) rfl (s_ildn (j := 1) (pc' := 8) (by decide +kernel) rfl rfl (s_calV (ci := 7) (pc' := 11) C_X7_holds A_X7_holds rfl (by decide) w_495 (by decide) (by decide +kernel) rfl (s_seq (s_ifeq (off := 17) (pt := 28) (pc' := 14) (by decide +kernel) (by decide) rfl (s_kil s_jmp) (s_aldn (j := 0) (pc' := 15) (by decide +kernel) rfl rfl (s_gfr (ci := 9) (j := 0) (pc' := 18) rfl g_ok10 (by decide) (by decide) (by decide) rfl w_290 (by decide +kernel) rfl (s_gfr (ci := 8) (j := 3) (pc' := 21) rfl g_ok8 (by decide) (by decide) (by decide) rfl w_130 (by decide +kernel) rfl (s_ildn (j := 2) (pc' := 22) (by decide +kernel) rfl rfl (s_calV (ci := 7) (pc' := 25) C_X7_holds A_X7_holds rfl (by decide) w_495 (by decide) (by decide +kernel) rfl (s_ifne (off := 6) (pt := 31) (pc' := 28) (by decide +kernel) (by decide) rfl (s_aldn (j := 0) (pc' := 32) (by decide +kernel) rfl rfl (s_gfr (ci := 9) (j := 1) (pc' := 35) rfl g_ok10 (by decide) (by decide) (by decide) rfl w_291 (by decide +kernel) rfl (s_aldn (j := 0) (pc' := 36) (by decide +kernel) rfl rfl (s_gfr (ci := 9) (j := 0) (pc' := 39) rfl g_ok10 (by decide) (by decide) (by decide) rfl w_290 (by decide +kernel) rfl (s_calV (ci := 3) (pc' := 42) C_X3_remember A_X3_remember rfl (by decide) w_602 (by decide) (by decide +kernel) rfl (s_aldn (j := 0) (pc' := 43) (by decide +kernel) rfl rfl (s_gfr (ci := 9) (j := 0) (pc' := 46) rfl g_ok10 (by decide) (by decide) (by decide) rfl w_290 (by decide +kernel) rfl (s_ildn (j := 1) (pc' := 47) (by decide +kernel) rfl rfl (s_calV (ci := 8) (pc' := 50) C_X8_paragraphLook A_X8_paragraphLook rfl (by decide) w_515 (by decide) (by decide +kernel) rfl (s_aldn (j := 0) (pc' := 51) (by decide +kernel) rfl rfl (s_gfr (ci := 9) (j := 0) (pc' := 54) rfl g_ok10 (by decide) (by decide) (by decide) rfl w_290 (by decide +kernel) rfl (s_ildn (j := 2) (pc' := 55) (by decide +kernel) rfl rfl (s_calV (ci := 8) (pc' := 58) C_X8_paragraphLook A_X8_paragraphLook rfl (by decide) w_515 (by decide) (by decide +kernel) rfl (s_seq (s_icne (off := 7) (pt := 65) (pc' := 61) (by decide +kernel) (by decide) rfl (s_con (n := 1) (pc' := 66) (by decide +kernel) (by decide +kernel) rfl (s_jmp)) (s_con (n := 0) (pc' := 62) (by decide +kernel) (by decide +kernel) rfl (s_goto (off := 4) (pt := 66) (by decide +kernel) (by decide) (s_jmp)))) (S_K_X10_swap_66 g0))))))))))))))) (s_kil s_jmp)))))))) (S_K_X10_swap_28 g0))))))
def F_X10_swap : vF := runD D_X10_swap 4
theorem C_X10_swap : Ctr yX10_swap cX10_swap 4 (some .int) 4 0 0 F_X10_swap := ctr_of (d := fun _ => D_X10_swap) (by decide +kernel) S_D_X10_swap
theorem A_X10_swap : CaV yX10_swap cX10_swap 4 (some .int) 2 := ⟨w_719, w_720, w_66, w_721, by unfold Nm; decide +kernel⟩
def D_X10_take : vD := op_ald 0 (op_gfr 9 0 (op_gfr 8 3 (op_ild 1 (op_calV 7 1 F_X7_holds (op_ifne (op_ald 0 (op_gfr 9 1 (op_ald 0 (op_gfr 9 0 (op_calV 3 1 F_X3_remember (op_ald 0 (op_gfr 9 0 (op_gfr 8 3 (op_ild 1 (op_calV 7 1 F_X7_remove (op_ald 0 (op_gfr 9 0 (op_gfr 8 3 (op_gfi 7 1 (op_ret))))))))))))))) (op_con (-1000000001) (op_ret)))))))
set_option maxRecDepth 100000 in
theorem S_D_X10_take (g0 : vG) : Snd yX10_take cX10_take 2 (some .int) 4 0 0 g0 0 D_X10_take := s_aldn (j := 0) (pc' := 1) (by decide +kernel) rfl rfl (s_gfr (ci := 9) (j := 0) (pc' := 4) rfl g_ok10 (by decide) (by decide) (by decide) rfl w_290 (by decide +kernel) rfl (s_gfr (ci := 8) (j := 3) (pc' := 7) rfl g_ok8 (by decide) (by decide) (by decide) rfl w_130 (by decide +kernel) rfl (s_ildn (j := 1) (pc' := 8) (by decide +kernel) rfl rfl (s_calV (ci := 7) (pc' := 11) C_X7_holds A_X7_holds rfl (by decide) w_495 (by decide) (by decide +kernel) rfl (s_ifne (off := 6) (pt := 17) (pc' := 14) (by decide +kernel) (by decide) rfl (s_aldn (j := 0) (pc' := 18) (by decide +kernel) rfl rfl (s_gfr (ci := 9) (j := 1) (pc' := 21) rfl g_ok10 (by decide) (by decide) (by decide) rfl w_291 (by decide +kernel) rfl (s_aldn (j := 0) (pc' := 22) (by decide +kernel) rfl rfl (s_gfr (ci := 9) (j := 0) (pc' := 25) rfl g_ok10 (by decide) (by decide) (by decide) rfl w_290 (by decide +kernel) rfl (s_calV (ci := 3) (pc' := 28) C_X3_remember A_X3_remember rfl (by decide) w_602 (by decide) (by decide +kernel) rfl (s_aldn (j := 0) (pc' := 29) (by decide +kernel) rfl rfl (s_gfr (ci := 9) (j := 0) (pc' := 32) rfl g_ok10 (by decide) (by decide) (by decide) rfl w_290 (by decide +kernel) rfl (s_gfr (ci := 8) (j := 3) (pc' := 35) rfl g_ok8 (by decide) (by decide) (by decide) rfl w_130 (by decide +kernel) rfl (s_ildn (j := 1) (pc' := 36) (by decide +kernel) rfl rfl (s_calV (ci := 7) (pc' := 39) C_X7_remove A_X7_remove rfl (by decide) w_717 (by decide) (by decide +kernel) rfl (s_aldn (j := 0) (pc' := 40) (by decide +kernel) rfl rfl (s_gfr (ci := 9) (j := 0) (pc' := 43) rfl g_ok10 (by decide) (by decide) (by decide) rfl w_290 (by decide +kernel) rfl (s_gfr (ci := 8) (j := 3) (pc' := 46) rfl g_ok8 (by decide) (by decide) (by decide) rfl w_130 (by decide +kernel) rfl (s_gfi (ci := 7) (j := 1) (pc' := 49) rfl g_ok7 (by decide) (by decide) (by decide) rfl w_106 (by decide +kernel) rfl (s_iret (by decide +kernel) rfl rfl rfl))))))))))))))) (s_ldc (pc' := 16) (by decide +kernel) w_499 rfl (s_iret (by decide +kernel) rfl rfl rfl)))))))
def F_X10_take : vF := runD D_X10_take 2
theorem C_X10_take : Ctr yX10_take cX10_take 2 (some .int) 4 0 0 F_X10_take := ctr_of (d := fun _ => D_X10_take) (by decide +kernel) S_D_X10_take
theorem A_X10_take : CaV yX10_take cX10_take 2 (some .int) 1 := ⟨w_714, w_715, w_66, w_716, by unfold Nm; decide +kernel⟩
def D_X10_tidy : vD := op_ald 0 (op_gfr 9 1 (op_ald 0 (op_gfr 9 0 (op_calV 3 1 F_X3_remember (op_ald 0 (op_gfr 9 0 (op_con 1 (op_calV 8 1 F_X8_countRedundant (op_ret)))))))))
set_option maxRecDepth 100000 in
theorem S_D_X10_tidy (g0 : vG) : Snd yX10_tidy cX10_tidy 1 (some .int) 4 0 0 g0 0 D_X10_tidy := s_aldn (j := 0) (pc' := 1) (by decide +kernel) rfl rfl (s_gfr (ci := 9) (j := 1) (pc' := 4) rfl g_ok10 (by decide) (by decide) (by decide) rfl w_291 (by decide +kernel) rfl (s_aldn (j := 0) (pc' := 5) (by decide +kernel) rfl rfl (s_gfr (ci := 9) (j := 0) (pc' := 8) rfl g_ok10 (by decide) (by decide) (by decide) rfl w_290 (by decide +kernel) rfl (s_calV (ci := 3) (pc' := 11) C_X3_remember A_X3_remember rfl (by decide) w_602 (by decide) (by decide +kernel) rfl (s_aldn (j := 0) (pc' := 12) (by decide +kernel) rfl rfl (s_gfr (ci := 9) (j := 0) (pc' := 15) rfl g_ok10 (by decide) (by decide) (by decide) rfl w_290 (by decide +kernel) rfl (s_con (n := 1) (pc' := 16) (by decide +kernel) (by decide +kernel) rfl (s_calV (ci := 8) (pc' := 19) C_X8_countRedundant A_X8_countRedundant rfl (by decide) w_342 (by decide) (by decide +kernel) rfl (s_iret (by decide +kernel) rfl rfl rfl)))))))))
def F_X10_tidy : vF := runD D_X10_tidy 1
theorem C_X10_tidy : Ctr yX10_tidy cX10_tidy 1 (some .int) 4 0 0 F_X10_tidy := ctr_of (d := fun _ => D_X10_tidy) (by decide +kernel) S_D_X10_tidy
theorem A_X10_tidy : CaV yX10_tidy cX10_tidy 1 (some .int) 0 := ⟨w_728, w_729, w_66, w_730, by unfold Nm; decide +kernel⟩
def K_X10_undo_11 : vD := op_con (-1000000002) (op_ret)
set_option maxRecDepth 100000 in
theorem S_K_X10_undo_11 (g0 : vG) : Snd yX10_undo cX10_undo 2 (some .int) 4 0 0 g0 11 K_X10_undo_11 := s_ldc (pc' := 13) (by decide +kernel) w_490 rfl (s_iret (by decide +kernel) rfl rfl rfl)
def D_X10_undo : vD := op_ild 1 (op_con 1 (op_seq 11 (op_iclt (op_kil [false, false] (op_jmp 11)) (op_ild 1 (op_con 16 (op_icle (op_ild 1 (op_ald 0 (op_gfr 9 1 (op_gfi 3 0 (op_icle (op_ald 0 (op_gfr 9 1 (op_ald 0 (op_gfr 9 0 (op_ild 1 (op_calV 3 2 F_X3_restore (op_ald 0 (op_gfr 9 1 (op_gfi 3 0 (op_ret)))))))))) (op_con (-1000000003) (op_ret))))))) (op_kil [false, false] (op_jmp 11)))))) K_X10_undo_11))
set_option maxRecDepth 100000 in
theorem S_D_X10_undo (g0 : vG) : Snd yX10_undo cX10_undo 2 (some .int) 4 0 0 g0 0 D_X10_undo := s_ildn (j := 1) (pc' := 1) (by decide +kernel) rfl rfl (s_con (n := 1) (pc' := 2) (by decide +kernel) (by decide +kernel) rfl (s_seq (s_iclt (off := 9) (pt := 11) (pc' := 5) (by decide +kernel) (by decide) rfl (s_kil s_jmp) (s_ildn (j := 1) (pc' := 6) (by decide +kernel) rfl rfl (s_bip (n := 16) (pc' := 8) (by decide +kernel) (by decide +kernel) rfl (s_icle (off := 6) (pt := 14) (pc' := 11) (by decide +kernel) (by decide) rfl (s_ildn (j := 1) (pc' := 15) (by decide +kernel) rfl rfl (s_aldn (j := 0) (pc' := 16) (by decide +kernel) rfl rfl (s_gfr (ci := 9) (j := 1) (pc' := 19) rfl g_ok10 (by decide) (by decide) (by decide) rfl w_291 (by decide +kernel) rfl (s_gfi (ci := 3) (j := 0) (pc' := 22) rfl g_ok3 (by decide) (by decide) (by decide) rfl w_152 (by decide +kernel) rfl (s_icle (off := 7) (pt := 29) (pc' := 25) (by decide +kernel) (by decide) rfl (s_aldn (j := 0) (pc' := 30) (by decide +kernel) rfl rfl (s_gfr (ci := 9) (j := 1) (pc' := 33) rfl g_ok10 (by decide) (by decide) (by decide) rfl w_291 (by decide +kernel) rfl (s_aldn (j := 0) (pc' := 34) (by decide +kernel) rfl rfl (s_gfr (ci := 9) (j := 0) (pc' := 37) rfl g_ok10 (by decide) (by decide) (by decide) rfl w_290 (by decide +kernel) rfl (s_ildn (j := 1) (pc' := 38) (by decide +kernel) rfl rfl (s_calV (ci := 3) (pc' := 41) C_X3_restore A_X3_restore rfl (by decide) w_776 (by decide) (by decide +kernel) rfl (s_aldn (j := 0) (pc' := 42) (by decide +kernel) rfl rfl (s_gfr (ci := 9) (j := 1) (pc' := 45) rfl g_ok10 (by decide) (by decide) (by decide) rfl w_291 (by decide +kernel) rfl (s_gfi (ci := 3) (j := 0) (pc' := 48) rfl g_ok3 (by decide) (by decide) (by decide) rfl w_152 (by decide +kernel) rfl (s_iret (by decide +kernel) rfl rfl rfl)))))))))) (s_ldw (pc' := 28) (by decide +kernel) w_672 rfl (s_iret (by decide +kernel) rfl rfl rfl))))))) (s_kil s_jmp))))) (S_K_X10_undo_11 g0)))
def F_X10_undo : vF := runD D_X10_undo 2
theorem C_X10_undo : Ctr yX10_undo cX10_undo 2 (some .int) 4 0 0 F_X10_undo := ctr_of (d := fun _ => D_X10_undo) (by decide +kernel) S_D_X10_undo
theorem A_X10_undo : CaV yX10_undo cX10_undo 2 (some .int) 1 := ⟨w_773, w_774, w_66, w_775, by unfold Nm; decide +kernel⟩
def K_X10_apart_66 : vD := op_ist 3 (op_ald 0 (op_gfr 9 4 (op_gfr 5 1 (op_ild 1 (op_ial (op_ild 3 (op_cal 2 F_X9_bitsApart (op_ret))))))))
set_option maxRecDepth 100000 in
theorem S_K_X10_apart_66 (g0 : vG) : Snd yX10_apart cX10_apart 4 (some .int) 5 0 0 g0 66 K_X10_apart_66 := s_istn (j := 3) (pc' := 67) (by decide +kernel) rfl (by decide) rfl (s_aldn (j := 0) (pc' := 68) (by decide +kernel) rfl rfl (s_gfr (ci := 9) (j := 4) (pc' := 71) rfl g_ok10 (by decide) (by decide) (by decide) rfl w_294 (by decide +kernel) rfl (s_gfr (ci := 5) (j := 1) (pc' := 74) rfl g_ok5 (by decide) (by decide) (by decide) rfl w_197 (by decide +kernel) rfl (s_ildn (j := 1) (pc' := 75) (by decide +kernel) rfl rfl (s_ial (pc' := 76) (by decide +kernel) rfl (s_ildn (j := 3) (pc' := 77) (by decide +kernel) rfl rfl (s_calS (pc' := 80) C_X9_bitsApart A_X9_bitsApart w_592 (by decide) (by decide +kernel) rfl (s_iret (by decide +kernel) rfl rfl rfl))))))))
def K_X10_apart_41 : vD := op_ild 2 (op_con (-1) (op_seq 66 (op_icne (op_ald 0 (op_gfr 9 4 (op_gfr 5 1 (op_ild 2 (op_ial (op_kil [true, true, false, false] (op_jmp 66))))))) (op_ald 0 (op_gfr 9 0 (op_con (-1) (op_calV 8 1 F_X8_styleLook (op_kil [true, true, false, false] (op_jmp 66))))))) K_X10_apart_66))
set_option maxRecDepth 100000 in
theorem S_K_X10_apart_41 (g0 : vG) : Snd yX10_apart cX10_apart 4 (some .int) 5 0 0 g0 41 K_X10_apart_41 := s_ildn (j := 2) (pc' := 42) (by decide +kernel) rfl rfl (s_con (n := (-1)) (pc' := 43) (by decide +kernel) (by decide +kernel) rfl (s_seq (s_icne (off := 14) (pt := 57) (pc' := 46) (by decide +kernel) (by decide) rfl (s_aldn (j := 0) (pc' := 58) (by decide +kernel) rfl rfl (s_gfr (ci := 9) (j := 4) (pc' := 61) rfl g_ok10 (by decide) (by decide) (by decide) rfl w_294 (by decide +kernel) rfl (s_gfr (ci := 5) (j := 1) (pc' := 64) rfl g_ok5 (by decide) (by decide) (by decide) rfl w_197 (by decide +kernel) rfl (s_ildn (j := 2) (pc' := 65) (by decide +kernel) rfl rfl (s_ial (pc' := 66) (by decide +kernel) rfl (s_kil s_jmp)))))) (s_aldn (j := 0) (pc' := 47) (by decide +kernel) rfl rfl (s_gfr (ci := 9) (j := 0) (pc' := 50) rfl g_ok10 (by decide) (by decide) (by decide) rfl w_290 (by decide +kernel) rfl (s_con (n := (-1)) (pc' := 51) (by decide +kernel) (by decide +kernel) rfl (s_calV (ci := 8) (pc' := 54) C_X8_styleLook A_X8_styleLook rfl (by decide) w_399 (by decide) (by decide +kernel) rfl (s_goto (off := 12) (pt := 66) (by decide +kernel) (by decide) (s_kil s_jmp))))))) (S_K_X10_apart_66 g0)))
def K_X10_apart_38 : vD := op_con (-1000000001) (op_ret)
set_option maxRecDepth 100000 in
theorem S_K_X10_apart_38 (g0 : vG) : Snd yX10_apart cX10_apart 4 (some .int) 5 0 0 g0 38 K_X10_apart_38 := s_ldc (pc' := 40) (by decide +kernel) w_499 rfl (s_iret (by decide +kernel) rfl rfl rfl)
def D_X10_apart : vD := op_ald 0 (op_gfr 9 4 (op_ald 0 (op_gfr 9 0 (op_calV 5 1 F_X5_gather (op_ald 0 (op_gfr 9 4 (op_ild 1 (op_calV 5 1 F_X5_holds (op_seq 38 (op_ifeq (op_kil [false, false, false, false] (op_jmp 38)) (op_ild 2 (op_con (-1) (op_seq 41 (op_iceq (op_jmp 41) (op_ald 0 (op_gfr 9 4 (op_ild 2 (op_calV 5 1 F_X5_holds (op_ifne (op_jmp 41) (op_kil [false, false, false, false] (op_jmp 38)))))))) K_X10_apart_41)))) K_X10_apart_38)))))))))
set_option maxRecDepth 100000 in
theorem S_D_X10_apart (g0 : vG) : Snd yX10_apart cX10_apart 4 (some .int) 5 0 0 g0 0 D_X10_apart := s_aldn (j := 0) (pc' := 1) (by decide +kernel) rfl rfl (s_gfr (ci := 9) (j := 4) (pc' := 4) rfl g_ok10 (by decide) (by decide) (by decide) rfl w_294 (by decide +kernel) rfl (s_aldn (j := 0) (pc' := 5) (by decide +kernel) rfl rfl (s_gfr (ci := 9) (j := 0) (pc' := 8) rfl g_ok10 (by decide) (by decide) (by decide) rfl w_290 (by decide +kernel) rfl (s_calV (ci := 5) (pc' := 11) C_X5_gather A_X5_gather rfl (by decide) w_363 (by decide) (by decide +kernel) rfl (s_aldn (j := 0) (pc' := 12) (by decide +kernel) rfl rfl (s_gfr (ci := 9) (j := 4) (pc' := 15) rfl g_ok10 (by decide) (by decide) (by decide) rfl w_294 (by decide +kernel) rfl (s_ildn (j := 1) (pc' := 16) (by decide +kernel) rfl rfl (s_calV (ci := 5) (pc' := 19) C_X5_holds A_X5_holds rfl (by decide) w_583 (by decide) (by decide +kernel) rfl (s_seq (s_ifeq (off := 19) (pt := 38) (pc' := 22) (by decide +kernel) (by decide) rfl (s_kil s_jmp) (s_ildn (j := 2) (pc' := 23) (by decide +kernel) rfl rfl (s_con (n := (-1)) (pc' := 24) (by decide +kernel) (by decide +kernel) rfl (s_seq (s_iceq (off := 17) (pt := 41) (pc' := 27) (by decide +kernel) (by decide) rfl (s_jmp) (s_aldn (j := 0) (pc' := 28) (by decide +kernel) rfl rfl (s_gfr (ci := 9) (j := 4) (pc' := 31) rfl g_ok10 (by decide) (by decide) (by decide) rfl w_294 (by decide +kernel) rfl (s_ildn (j := 2) (pc' := 32) (by decide +kernel) rfl rfl (s_calV (ci := 5) (pc' := 35) C_X5_holds A_X5_holds rfl (by decide) w_583 (by decide) (by decide +kernel) rfl (s_ifne (off := 6) (pt := 41) (pc' := 38) (by decide +kernel) (by decide) rfl (s_jmp) (s_kil s_jmp))))))) (S_K_X10_apart_41 g0))))) (S_K_X10_apart_38 g0))))))))))
def F_X10_apart : vF := runD D_X10_apart 4
theorem C_X10_apart : Ctr yX10_apart cX10_apart 4 (some .int) 5 0 0 F_X10_apart := ctr_of (d := fun _ => D_X10_apart) (by decide +kernel) S_D_X10_apart
theorem A_X10_apart : CaV yX10_apart cX10_apart 4 (some .int) 2 := ⟨w_589, w_590, w_66, w_591, by unfold Nm; decide +kernel⟩
def D_X10_bestParentOf : vD := op_ald 0 (op_calV 9 0 F_X10_layForestOfStyles (op_ald 0 (op_gfr 9 5 (op_calV 2 0 F_X2_chooseParents (op_ald 0 (op_gfr 9 5 (op_gfr 2 2 (op_ild 1 (op_ial (op_ret))))))))))
set_option maxRecDepth 100000 in
theorem S_D_X10_bestParentOf (g0 : vG) : Snd yX10_bestParentOf cX10_bestParentOf 2 (some .int) 5 0 0 g0 0 D_X10_bestParentOf := s_aldn (j := 0) (pc' := 1) (by decide +kernel) rfl rfl (s_calV (ci := 9) (pc' := 4) C_X10_layForestOfStyles A_X10_layForestOfStyles rfl (by decide) w_395 (by decide) (by decide +kernel) rfl (s_aldn (j := 0) (pc' := 5) (by decide +kernel) rfl rfl (s_gfr (ci := 9) (j := 5) (pc' := 8) rfl g_ok10 (by decide) (by decide) (by decide) rfl w_295 (by decide +kernel) rfl (s_calV (ci := 2) (pc' := 11) C_X2_chooseParents A_X2_chooseParents rfl (by decide) w_551 (by decide) (by decide +kernel) rfl (s_aldn (j := 0) (pc' := 12) (by decide +kernel) rfl rfl (s_gfr (ci := 9) (j := 5) (pc' := 15) rfl g_ok10 (by decide) (by decide) (by decide) rfl w_295 (by decide +kernel) rfl (s_gfr (ci := 2) (j := 2) (pc' := 18) rfl g_ok2 (by decide) (by decide) (by decide) rfl w_233 (by decide +kernel) rfl (s_ildn (j := 1) (pc' := 19) (by decide +kernel) rfl rfl (s_ial (pc' := 20) (by decide +kernel) rfl (s_iret (by decide +kernel) rfl rfl rfl))))))))))
def F_X10_bestParentOf : vF := runD D_X10_bestParentOf 2
theorem C_X10_bestParentOf : Ctr yX10_bestParentOf cX10_bestParentOf 2 (some .int) 5 0 0 F_X10_bestParentOf := ctr_of (d := fun _ => D_X10_bestParentOf) (by decide +kernel) S_D_X10_bestParentOf
theorem A_X10_bestParentOf : CaV yX10_bestParentOf cX10_bestParentOf 2 (some .int) 1 := ⟨w_549, w_10, w_66, w_550, by unfold Nm; decide +kernel⟩
def D_X10_costWithBestParents : vD := op_ald 0 (op_calV 9 0 F_X10_layForestOfStyles (op_ald 0 (op_gfr 9 0 (op_gfi 8 0 (op_ald 0 (op_gfr 9 0 (op_gfr 8 2 (op_gfi 7 1 (op_bin f_mul (op_ald 0 (op_gfr 9 5 (op_calV 2 0 F_X2_costOfAll (op_bin f_add (op_ret))))))))))))))
set_option maxRecDepth 100000 in
theorem S_D_X10_costWithBestParents (g0 : vG) : Snd yX10_costWithBestParents cX10_costWithBestParents 1 (some .int) 5 0 0 g0 0 D_X10_costWithBestParents := s_aldn (j := 0) (pc' := 1) (by decide +kernel) rfl rfl (s_calV (ci := 9) (pc' := 4) C_X10_layForestOfStyles A_X10_layForestOfStyles rfl (by decide) w_395 (by decide) (by decide +kernel) rfl (s_aldn (j := 0) (pc' := 5) (by decide +kernel) rfl rfl (s_gfr (ci := 9) (j := 0) (pc' := 8) rfl g_ok10 (by decide) (by decide) (by decide) rfl w_290 (by decide +kernel) rfl (s_gfi (ci := 8) (j := 0) (pc' := 11) rfl g_ok8 (by decide) (by decide) (by decide) rfl w_124 (by decide +kernel) rfl (s_aldn (j := 0) (pc' := 12) (by decide +kernel) rfl rfl (s_gfr (ci := 9) (j := 0) (pc' := 15) rfl g_ok10 (by decide) (by decide) (by decide) rfl w_290 (by decide +kernel) rfl (s_gfr (ci := 8) (j := 2) (pc' := 18) rfl g_ok8 (by decide) (by decide) (by decide) rfl w_128 (by decide +kernel) rfl (s_gfi (ci := 7) (j := 1) (pc' := 21) rfl g_ok7 (by decide) (by decide) (by decide) rfl w_106 (by decide +kernel) rfl (s_mul (pc' := 22) (by decide +kernel) rfl (s_aldn (j := 0) (pc' := 23) (by decide +kernel) rfl rfl (s_gfr (ci := 9) (j := 5) (pc' := 26) rfl g_ok10 (by decide) (by decide) (by decide) rfl w_295 (by decide +kernel) rfl (s_calV (ci := 2) (pc' := 29) C_X2_costOfAll A_X2_costOfAll rfl (by decide) w_435 (by decide) (by decide +kernel) rfl (s_add (pc' := 30) (by decide +kernel) rfl (s_iret (by decide +kernel) rfl rfl rfl))))))))))))))
def F_X10_costWithBestParents : vF := runD D_X10_costWithBestParents 1
theorem C_X10_costWithBestParents : Ctr yX10_costWithBestParents cX10_costWithBestParents 1 (some .int) 5 0 0 F_X10_costWithBestParents := ctr_of (d := fun _ => D_X10_costWithBestParents) (by decide +kernel) S_D_X10_costWithBestParents
theorem A_X10_costWithBestParents : CaV yX10_costWithBestParents cX10_costWithBestParents 1 (some .int) 0 := ⟨w_393, w_3, w_66, w_394, by unfold Nm; decide +kernel⟩
def D_X10_costWithNearestStyle : vD := op_ald 0 (op_gfr 9 0 (op_ild 1 (op_ald 0 (op_gfr 9 0 (op_ild 1 (op_calV 8 1 F_X8_nearestStyle (op_calV 8 2 F_X8_costWithStyle (op_ret))))))))
set_option maxRecDepth 100000 in
theorem S_D_X10_costWithNearestStyle (g0 : vG) : Snd yX10_costWithNearestStyle cX10_costWithNearestStyle 2 (some .int) 5 0 0 g0 0 D_X10_costWithNearestStyle := s_aldn (j := 0) (pc' := 1) (by decide +kernel) rfl rfl (s_gfr (ci := 9) (j := 0) (pc' := 4) rfl g_ok10 (by decide) (by decide) (by decide) rfl w_290 (by decide +kernel) rfl (s_ildn (j := 1) (pc' := 5) (by decide +kernel) rfl rfl (s_aldn (j := 0) (pc' := 6) (by decide +kernel) rfl rfl (s_gfr (ci := 9) (j := 0) (pc' := 9) rfl g_ok10 (by decide) (by decide) (by decide) rfl w_290 (by decide +kernel) rfl (s_ildn (j := 1) (pc' := 10) (by decide +kernel) rfl rfl (s_calV (ci := 8) (pc' := 13) C_X8_nearestStyle A_X8_nearestStyle rfl (by decide) w_516 (by decide) (by decide +kernel) rfl (s_calV (ci := 8) (pc' := 16) C_X8_costWithStyle A_X8_costWithStyle rfl (by decide) w_530 (by decide) (by decide +kernel) rfl (s_iret (by decide +kernel) rfl rfl rfl))))))))
def F_X10_costWithNearestStyle : vF := runD D_X10_costWithNearestStyle 2
theorem C_X10_costWithNearestStyle : Ctr yX10_costWithNearestStyle cX10_costWithNearestStyle 2 (some .int) 5 0 0 F_X10_costWithNearestStyle := ctr_of (d := fun _ => D_X10_costWithNearestStyle) (by decide +kernel) S_D_X10_costWithNearestStyle
theorem A_X10_costWithNearestStyle : CaV yX10_costWithNearestStyle cX10_costWithNearestStyle 2 (some .int) 1 := ⟨w_528, w_9, w_66, w_529, by unfold Nm; decide +kernel⟩
def D_X10_direct : vD := op_ald 0 (op_ald 0 (op_gfr 9 0 (op_gfr 8 3 (op_ild 1 (op_ild 2 (op_ild 3 (op_calV 9 4 F_X10_give (op_ret))))))))
set_option maxRecDepth 100000 in
theorem S_D_X10_direct (g0 : vG) : Snd yX10_direct cX10_direct 4 (some .int) 5 0 0 g0 0 D_X10_direct := s_aldn (j := 0) (pc' := 1) (by decide +kernel) rfl rfl (s_aldn (j := 0) (pc' := 2) (by decide +kernel) rfl rfl (s_gfr (ci := 9) (j := 0) (pc' := 5) rfl g_ok10 (by decide) (by decide) (by decide) rfl w_290 (by decide +kernel) rfl (s_gfr (ci := 8) (j := 3) (pc' := 8) rfl g_ok8 (by decide) (by decide) (by decide) rfl w_130 (by decide +kernel) rfl (s_ildn (j := 1) (pc' := 9) (by decide +kernel) rfl rfl (s_ildn (j := 2) (pc' := 10) (by decide +kernel) rfl rfl (s_ildn (j := 3) (pc' := 11) (by decide +kernel) rfl rfl (s_calV (ci := 9) (pc' := 14) C_X10_give A_X10_give rfl (by decide) w_630 (by decide) (by decide +kernel) rfl (s_iret (by decide +kernel) rfl rfl rfl))))))))
def F_X10_direct : vF := runD D_X10_direct 4
theorem C_X10_direct : Ctr yX10_direct cX10_direct 4 (some .int) 5 0 0 F_X10_direct := ctr_of (d := fun _ => D_X10_direct) (by decide +kernel) S_D_X10_direct
theorem A_X10_direct : CaV yX10_direct cX10_direct 4 (some .int) 3 := ⟨w_627, w_628, w_66, w_629, by unfold Nm; decide +kernel⟩
def D_X10_foundBestStyles : vD := op_ald 0 (op_gfr 9 0 (op_con (-1) (op_calV 8 1 F_X8_styleLook (op_ist 1 (op_ald 0 (op_gfr 9 4 (op_ald 0 (op_gfr 9 0 (op_calV 5 1 F_X5_gather (op_ald 0 (op_gfr 9 5 (op_ald 0 (op_gfr 9 4 (op_con 1 (op_ald 0 (op_gfr 9 4 (op_gfi 5 0 (op_bin f_shl (op_con 1 (op_bin f_sub (op_ild 1 (op_calV 2 3 F_X2_layChosen (op_ald 0 (op_gfr 9 6 (op_ald 0 (op_gfr 9 4 (op_ald 0 (op_gfr 9 5 (op_ild 1 (op_ald 0 (op_gfr 9 0 (op_gfi 8 0 (op_calV 0 4 F_X0_find (op_ald 0 (op_gfr 9 6 (op_aret))))))))))))))))))))))))))))))))))))
set_option maxRecDepth 100000 in
theorem S_D_X10_foundBestStyles (g0 : vG) : Snd yX10_foundBestStyles cX10_foundBestStyles 2 (some (.object "StyleFamilies$BestStyles")) 5 0 0 g0 0 D_X10_foundBestStyles := s_aldn (j := 0) (pc' := 1) (by decide +kernel) rfl rfl (s_gfr (ci := 9) (j := 0) (pc' := 4) rfl g_ok10 (by decide) (by decide) (by decide) rfl w_290 (by decide +kernel) rfl (s_con (n := (-1)) (pc' := 5) (by decide +kernel) (by decide +kernel) rfl (s_calV (ci := 8) (pc' := 8) C_X8_styleLook A_X8_styleLook rfl (by decide) w_399 (by decide) (by decide +kernel) rfl (s_istn (j := 1) (pc' := 9) (by decide +kernel) rfl (by decide) rfl (s_aldn (j := 0) (pc' := 10) (by decide +kernel) rfl rfl (s_gfr (ci := 9) (j := 4) (pc' := 13) rfl g_ok10 (by decide) (by decide) (by decide) rfl w_294 (by decide +kernel) rfl (s_aldn (j := 0) (pc' := 14) (by decide +kernel) rfl rfl (s_gfr (ci := 9) (j := 0) (pc' := 17) rfl g_ok10 (by decide) (by decide) (by decide) rfl w_290 (by decide +kernel) rfl (s_calV (ci := 5) (pc' := 20) C_X5_gather A_X5_gather rfl (by decide) w_363 (by decide) (by decide +kernel) rfl (s_aldn (j := 0) (pc' := 21) (by decide +kernel) rfl rfl (s_gfr (ci := 9) (j := 5) (pc' := 24) rfl g_ok10 (by decide) (by decide) (by decide) rfl w_295 (by decide +kernel) rfl (s_aldn (j := 0) (pc' := 25) (by decide +kernel) rfl rfl (s_gfr (ci := 9) (j := 4) (pc' := 28) rfl g_ok10 (by decide) (by decide) (by decide) rfl w_294 (by decide +kernel) rfl (s_con (n := 1) (pc' := 29) (by decide +kernel) (by decide +kernel) rfl (s_aldn (j := 0) (pc' := 30) (by decide +kernel) rfl rfl (s_gfr (ci := 9) (j := 4) (pc' := 33) rfl g_ok10 (by decide) (by decide) (by decide) rfl w_294 (by decide +kernel) rfl (s_gfi (ci := 5) (j := 0) (pc' := 36) rfl g_ok5 (by decide) (by decide) (by decide) rfl w_192 (by decide +kernel) rfl (s_shl (pc' := 37) (by decide +kernel) rfl (s_con (n := 1) (pc' := 38) (by decide +kernel) (by decide +kernel) rfl (s_sub (pc' := 39) (by decide +kernel) rfl (s_ildn (j := 1) (pc' := 40) (by decide +kernel) rfl rfl (s_calV (ci := 2) (pc' := 43) C_X2_layChosen A_X2_layChosen rfl (by decide) w_443 (by decide) (by decide +kernel) rfl (s_aldn (j := 0) (pc' := 44) (by decide +kernel) rfl rfl (s_gfr (ci := 9) (j := 6) (pc' := 47) rfl g_ok10 (by decide) (by decide) (by decide) rfl w_296 (by decide +kernel) rfl (s_aldn (j := 0) (pc' := 48) (by decide +kernel) rfl rfl (s_gfr (ci := 9) (j := 4) (pc' := 51) rfl g_ok10 (by decide) (by decide) (by decide) rfl w_294 (by decide +kernel) rfl (s_aldn (j := 0) (pc' := 52) (by decide +kernel) rfl rfl (s_gfr (ci := 9) (j := 5) (pc' := 55) rfl g_ok10 (by decide) (by decide) (by decide) rfl w_295 (by decide +kernel) rfl (s_ildn (j := 1) (pc' := 56) (by decide +kernel) rfl rfl (s_aldn (j := 0) (pc' := 57) (by decide +kernel) rfl rfl (s_gfr (ci := 9) (j := 0) (pc' := 60) rfl g_ok10 (by decide) (by decide) (by decide) rfl w_290 (by decide +kernel) rfl (s_gfi (ci := 8) (j := 0) (pc' := 63) rfl g_ok8 (by decide) (by decide) (by decide) rfl w_124 (by decide +kernel) rfl (s_calV (ci := 0) (pc' := 66) C_X0_find A_X0_find rfl (by decide) w_450 (by decide) (by decide +kernel) rfl (s_aldn (j := 0) (pc' := 67) (by decide +kernel) rfl rfl (s_gfr (ci := 9) (j := 6) (pc' := 70) rfl g_ok10 (by decide) (by decide) (by decide) rfl w_296 (by decide +kernel) rfl (s_aret (by decide +kernel) rfl rfl rfl))))))))))))))))))))))))))))))))))))
def F_X10_foundBestStyles : vF := runD D_X10_foundBestStyles 2
theorem C_X10_foundBestStyles : Ctr yX10_foundBestStyles cX10_foundBestStyles 2 (some (.object "StyleFamilies$BestStyles")) 5 0 0 F_X10_foundBestStyles := ctr_of (d := fun _ => D_X10_foundBestStyles) (by decide +kernel) S_D_X10_foundBestStyles
theorem A_X10_foundBestStyles : CaV yX10_foundBestStyles cX10_foundBestStyles 2 (some (.object "StyleFamilies$BestStyles")) 0 := ⟨w_441, w_6, w_66, w_442, by unfold Nm; decide +kernel⟩
def D_X10_gatheredLooks : vD := op_ald 0 (op_gfr 9 4 (op_ald 0 (op_gfr 9 0 (op_calV 5 1 F_X5_gather (op_ald 0 (op_gfr 9 4 (op_aret)))))))
set_option maxRecDepth 100000 in
theorem S_D_X10_gatheredLooks (g0 : vG) : Snd yX10_gatheredLooks cX10_gatheredLooks 1 (some (.object "StyleFamilies$Looks")) 5 0 0 g0 0 D_X10_gatheredLooks := s_aldn (j := 0) (pc' := 1) (by decide +kernel) rfl rfl (s_gfr (ci := 9) (j := 4) (pc' := 4) rfl g_ok10 (by decide) (by decide) (by decide) rfl w_294 (by decide +kernel) rfl (s_aldn (j := 0) (pc' := 5) (by decide +kernel) rfl rfl (s_gfr (ci := 9) (j := 0) (pc' := 8) rfl g_ok10 (by decide) (by decide) (by decide) rfl w_290 (by decide +kernel) rfl (s_calV (ci := 5) (pc' := 11) C_X5_gather A_X5_gather rfl (by decide) w_363 (by decide) (by decide +kernel) rfl (s_aldn (j := 0) (pc' := 12) (by decide +kernel) rfl rfl (s_gfr (ci := 9) (j := 4) (pc' := 15) rfl g_ok10 (by decide) (by decide) (by decide) rfl w_294 (by decide +kernel) rfl (s_aret (by decide +kernel) rfl rfl rfl)))))))
def F_X10_gatheredLooks : vF := runD D_X10_gatheredLooks 1
theorem C_X10_gatheredLooks : Ctr yX10_gatheredLooks cX10_gatheredLooks 1 (some (.object "StyleFamilies$Looks")) 5 0 0 F_X10_gatheredLooks := ctr_of (d := fun _ => D_X10_gatheredLooks) (by decide +kernel) S_D_X10_gatheredLooks
theorem A_X10_gatheredLooks : CaV yX10_gatheredLooks cX10_gatheredLooks 1 (some (.object "StyleFamilies$Looks")) 0 := ⟨w_361, w_1, w_66, w_362, by unfold Nm; decide +kernel⟩
def D_X10_knit : vD := op_ald 0 (op_gfr 9 1 (op_ald 0 (op_gfr 9 0 (op_calV 3 1 F_X3_remember (op_ald 0 (op_calV 9 0 F_X10_layForestOfStyles (op_ald 0 (op_gfr 9 5 (op_calV 2 0 F_X2_chooseParents (op_ald 0 (op_gfr 9 0 (op_ald 0 (op_gfr 9 5 (op_calV 8 1 F_X8_layStyles (op_ald 0 (op_gfr 9 0 (op_calV 8 0 F_X8_costOfAll (op_ret))))))))))))))))))
set_option maxRecDepth 100000 in
theorem S_D_X10_knit (g0 : vG) : Snd yX10_knit cX10_knit 1 (some .int) 5 0 0 g0 0 D_X10_knit := s_aldn (j := 0) (pc' := 1) (by decide +kernel) rfl rfl (s_gfr (ci := 9) (j := 1) (pc' := 4) rfl g_ok10 (by decide) (by decide) (by decide) rfl w_291 (by decide +kernel) rfl (s_aldn (j := 0) (pc' := 5) (by decide +kernel) rfl rfl (s_gfr (ci := 9) (j := 0) (pc' := 8) rfl g_ok10 (by decide) (by decide) (by decide) rfl w_290 (by decide +kernel) rfl (s_calV (ci := 3) (pc' := 11) C_X3_remember A_X3_remember rfl (by decide) w_602 (by decide) (by decide +kernel) rfl (s_aldn (j := 0) (pc' := 12) (by decide +kernel) rfl rfl (s_calV (ci := 9) (pc' := 15) C_X10_layForestOfStyles A_X10_layForestOfStyles rfl (by decide) w_395 (by decide) (by decide +kernel) rfl (s_aldn (j := 0) (pc' := 16) (by decide +kernel) rfl rfl (s_gfr (ci := 9) (j := 5) (pc' := 19) rfl g_ok10 (by decide) (by decide) (by decide) rfl w_295 (by decide +kernel) rfl (s_calV (ci := 2) (pc' := 22) C_X2_chooseParents A_X2_chooseParents rfl (by decide) w_551 (by decide) (by decide +kernel) rfl (s_aldn (j := 0) (pc' := 23) (by decide +kernel) rfl rfl (s_gfr (ci := 9) (j := 0) (pc' := 26) rfl g_ok10 (by decide) (by decide) (by decide) rfl w_290 (by decide +kernel) rfl (s_aldn (j := 0) (pc' := 27) (by decide +kernel) rfl rfl (s_gfr (ci := 9) (j := 5) (pc' := 30) rfl g_ok10 (by decide) (by decide) (by decide) rfl w_295 (by decide +kernel) rfl (s_calV (ci := 8) (pc' := 33) C_X8_layStyles A_X8_layStyles rfl (by decide) w_735 (by decide) (by decide +kernel) rfl (s_aldn (j := 0) (pc' := 34) (by decide +kernel) rfl rfl (s_gfr (ci := 9) (j := 0) (pc' := 37) rfl g_ok10 (by decide) (by decide) (by decide) rfl w_290 (by decide +kernel) rfl (s_calV (ci := 8) (pc' := 40) C_X8_costOfAll A_X8_costOfAll rfl (by decide) w_319 (by decide) (by decide +kernel) rfl (s_iret (by decide +kernel) rfl rfl rfl))))))))))))))))))
def F_X10_knit : vF := runD D_X10_knit 1
theorem C_X10_knit : Ctr yX10_knit cX10_knit 1 (some .int) 5 0 0 F_X10_knit := ctr_of (d := fun _ => D_X10_knit) (by decide +kernel) S_D_X10_knit
theorem A_X10_knit : CaV yX10_knit cX10_knit 1 (some .int) 0 := ⟨w_732, w_733, w_66, w_734, by unfold Nm; decide +kernel⟩
def K_X10_restyle_22 : vD := op_con (-1000000001) (op_ret)
set_option maxRecDepth 100000 in
theorem S_K_X10_restyle_22 (g0 : vG) : Snd yX10_restyle cX10_restyle 3 (some .int) 5 0 0 g0 22 K_X10_restyle_22 := s_ldc (pc' := 24) (by decide +kernel) w_499 rfl (s_iret (by decide +kernel) rfl rfl rfl)
def D_X10_restyle : vD := op_ald 0 (op_gfr 9 0 (op_gfr 8 3 (op_ild 1 (op_calV 7 1 F_X7_holds (op_seq 22 (op_ifeq (op_kil [false, false, false] (op_jmp 22)) (op_ald 0 (op_ild 2 (op_calV 9 1 F_X10_isStyleOrNone (op_ifne (op_ald 0 (op_gfr 9 1 (op_ald 0 (op_gfr 9 0 (op_calV 3 1 F_X3_remember (op_ald 0 (op_gfr 9 0 (op_ild 1 (op_ild 2 (op_calV 8 2 F_X8_rebaseParagraph (op_ald 0 (op_gfr 9 0 (op_ild 1 (op_calV 8 1 F_X8_paragraphCost (op_ret))))))))))))))) (op_kil [false, false, false] (op_jmp 22))))))) K_X10_restyle_22)))))
set_option maxRecDepth 100000 in
theorem S_D_X10_restyle (g0 : vG) : Snd yX10_restyle cX10_restyle 3 (some .int) 5 0 0 g0 0 D_X10_restyle := s_aldn (j := 0) (pc' := 1) (by decide +kernel) rfl rfl (s_gfr (ci := 9) (j := 0) (pc' := 4) rfl g_ok10 (by decide) (by decide) (by decide) rfl w_290 (by decide +kernel) rfl (s_gfr (ci := 8) (j := 3) (pc' := 7) rfl g_ok8 (by decide) (by decide) (by decide) rfl w_130 (by decide +kernel) rfl (s_ildn (j := 1) (pc' := 8) (by decide +kernel) rfl rfl (s_calV (ci := 7) (pc' := 11) C_X7_holds A_X7_holds rfl (by decide) w_495 (by decide) (by decide +kernel) rfl (s_seq (s_ifeq (off := 11) (pt := 22) (pc' := 14) (by decide +kernel) (by decide) rfl (s_kil s_jmp) (s_aldn (j := 0) (pc' := 15) (by decide +kernel) rfl rfl (s_ildn (j := 2) (pc' := 16) (by decide +kernel) rfl rfl (s_calV (ci := 9) (pc' := 19) C_X10_isStyleOrNone A_X10_isStyleOrNone rfl (by decide) w_574 (by decide) (by decide +kernel) rfl (s_ifne (off := 6) (pt := 25) (pc' := 22) (by decide +kernel) (by decide) rfl (s_aldn (j := 0) (pc' := 26) (by decide +kernel) rfl rfl (s_gfr (ci := 9) (j := 1) (pc' := 29) rfl g_ok10 (by decide) (by decide) (by decide) rfl w_291 (by decide +kernel) rfl (s_aldn (j := 0) (pc' := 30) (by decide +kernel) rfl rfl (s_gfr (ci := 9) (j := 0) (pc' := 33) rfl g_ok10 (by decide) (by decide) (by decide) rfl w_290 (by decide +kernel) rfl (s_calV (ci := 3) (pc' := 36) C_X3_remember A_X3_remember rfl (by decide) w_602 (by decide) (by decide +kernel) rfl (s_aldn (j := 0) (pc' := 37) (by decide +kernel) rfl rfl (s_gfr (ci := 9) (j := 0) (pc' := 40) rfl g_ok10 (by decide) (by decide) (by decide) rfl w_290 (by decide +kernel) rfl (s_ildn (j := 1) (pc' := 41) (by decide +kernel) rfl rfl (s_ildn (j := 2) (pc' := 42) (by decide +kernel) rfl rfl (s_calV (ci := 8) (pc' := 45) C_X8_rebaseParagraph A_X8_rebaseParagraph rfl (by decide) w_677 (by decide) (by decide +kernel) rfl (s_aldn (j := 0) (pc' := 46) (by decide +kernel) rfl rfl (s_gfr (ci := 9) (j := 0) (pc' := 49) rfl g_ok10 (by decide) (by decide) (by decide) rfl w_290 (by decide +kernel) rfl (s_ildn (j := 1) (pc' := 50) (by decide +kernel) rfl rfl (s_calV (ci := 8) (pc' := 53) C_X8_paragraphCost A_X8_paragraphCost rfl (by decide) w_514 (by decide) (by decide +kernel) rfl (s_iret (by decide +kernel) rfl rfl rfl))))))))))))))) (s_kil s_jmp)))))) (S_K_X10_restyle_22 g0))))))
def F_X10_restyle : vF := runD D_X10_restyle 3
theorem C_X10_restyle : Ctr yX10_restyle cX10_restyle 3 (some .int) 5 0 0 F_X10_restyle := ctr_of (d := fun _ => D_X10_restyle) (by decide +kernel) S_D_X10_restyle
theorem A_X10_restyle : CaV yX10_restyle cX10_restyle 3 (some .int) 2 := ⟨w_674, w_675, w_66, w_676, by unfold Nm; decide +kernel⟩
def D_X10_sets : vD := op_ald 0 (op_ald 0 (op_gfr 9 0 (op_gfr 8 2 (op_ild 1 (op_ild 2 (op_ild 3 (op_calV 9 4 F_X10_give (op_ret))))))))
set_option maxRecDepth 100000 in
theorem S_D_X10_sets (g0 : vG) : Snd yX10_sets cX10_sets 4 (some .int) 5 0 0 g0 0 D_X10_sets := s_aldn (j := 0) (pc' := 1) (by decide +kernel) rfl rfl (s_aldn (j := 0) (pc' := 2) (by decide +kernel) rfl rfl (s_gfr (ci := 9) (j := 0) (pc' := 5) rfl g_ok10 (by decide) (by decide) (by decide) rfl w_290 (by decide +kernel) rfl (s_gfr (ci := 8) (j := 2) (pc' := 8) rfl g_ok8 (by decide) (by decide) (by decide) rfl w_128 (by decide +kernel) rfl (s_ildn (j := 1) (pc' := 9) (by decide +kernel) rfl rfl (s_ildn (j := 2) (pc' := 10) (by decide +kernel) rfl rfl (s_ildn (j := 3) (pc' := 11) (by decide +kernel) rfl rfl (s_calV (ci := 9) (pc' := 14) C_X10_give A_X10_give rfl (by decide) w_630 (by decide) (by decide +kernel) rfl (s_iret (by decide +kernel) rfl rfl rfl))))))))
def F_X10_sets : vF := runD D_X10_sets 4
theorem C_X10_sets : Ctr yX10_sets cX10_sets 4 (some .int) 5 0 0 F_X10_sets := ctr_of (d := fun _ => D_X10_sets) (by decide +kernel) S_D_X10_sets
theorem A_X10_sets : CaV yX10_sets cX10_sets 4 (some .int) 3 := ⟨w_641, w_642, w_66, w_643, by unfold Nm; decide +kernel⟩
def D_X10_adopt : vD := op_ald 0 (op_gfr 9 1 (op_ald 0 (op_gfr 9 0 (op_calV 3 1 F_X3_remember (op_ald 0 (op_calV 9 0 F_X10_foundBestStyles (op_pop (op_ald 0 (op_gfr 9 5 (op_ald 0 (op_gfr 9 4 (op_ald 0 (op_gfr 9 6 (op_gfi 0 0 (op_ald 0 (op_gfr 9 0 (op_con (-1) (op_calV 8 1 F_X8_styleLook (op_calV 2 3 F_X2_layChosen (op_ald 0 (op_gfr 9 5 (op_calV 2 0 F_X2_chooseParents (op_ald 0 (op_gfr 9 0 (op_ald 0 (op_gfr 9 5 (op_calV 8 1 F_X8_replaceStyles (op_ald 0 (op_gfr 9 0 (op_calV 8 0 F_X8_costOfAll (op_ret)))))))))))))))))))))))))))))))
set_option maxRecDepth 100000 in
theorem S_D_X10_adopt (g0 : vG) : Snd yX10_adopt cX10_adopt 1 (some .int) 6 0 0 g0 0 D_X10_adopt := s_aldn (j := 0) (pc' := 1) (by decide +kernel) rfl rfl (s_gfr (ci := 9) (j := 1) (pc' := 4) rfl g_ok10 (by decide) (by decide) (by decide) rfl w_291 (by decide +kernel) rfl (s_aldn (j := 0) (pc' := 5) (by decide +kernel) rfl rfl (s_gfr (ci := 9) (j := 0) (pc' := 8) rfl g_ok10 (by decide) (by decide) (by decide) rfl w_290 (by decide +kernel) rfl (s_calV (ci := 3) (pc' := 11) C_X3_remember A_X3_remember rfl (by decide) w_602 (by decide) (by decide +kernel) rfl (s_aldn (j := 0) (pc' := 12) (by decide +kernel) rfl rfl (s_calV (ci := 9) (pc' := 15) C_X10_foundBestStyles A_X10_foundBestStyles rfl (by decide) w_439 (by decide) (by decide +kernel) rfl (s_pop (pc' := 16) (by decide +kernel) rfl (s_aldn (j := 0) (pc' := 17) (by decide +kernel) rfl rfl (s_gfr (ci := 9) (j := 5) (pc' := 20) rfl g_ok10 (by decide) (by decide) (by decide) rfl w_295 (by decide +kernel) rfl (s_aldn (j := 0) (pc' := 21) (by decide +kernel) rfl rfl (s_gfr (ci := 9) (j := 4) (pc' := 24) rfl g_ok10 (by decide) (by decide) (by decide) rfl w_294 (by decide +kernel) rfl (s_aldn (j := 0) (pc' := 25) (by decide +kernel) rfl rfl (s_gfr (ci := 9) (j := 6) (pc' := 28) rfl g_ok10 (by decide) (by decide) (by decide) rfl w_296 (by decide +kernel) rfl (s_gfi (ci := 0) (j := 0) (pc' := 31) rfl g_ok0 (by decide) (by decide) (by decide) rfl w_259 (by decide +kernel) rfl (s_aldn (j := 0) (pc' := 32) (by decide +kernel) rfl rfl (s_gfr (ci := 9) (j := 0) (pc' := 35) rfl g_ok10 (by decide) (by decide) (by decide) rfl w_290 (by decide +kernel) rfl (s_con (n := (-1)) (pc' := 36) (by decide +kernel) (by decide +kernel) rfl (s_calV (ci := 8) (pc' := 39) C_X8_styleLook A_X8_styleLook rfl (by decide) w_399 (by decide) (by decide +kernel) rfl (s_calV (ci := 2) (pc' := 42) C_X2_layChosen A_X2_layChosen rfl (by decide) w_443 (by decide) (by decide +kernel) rfl (s_aldn (j := 0) (pc' := 43) (by decide +kernel) rfl rfl (s_gfr (ci := 9) (j := 5) (pc' := 46) rfl g_ok10 (by decide) (by decide) (by decide) rfl w_295 (by decide +kernel) rfl (s_calV (ci := 2) (pc' := 49) C_X2_chooseParents A_X2_chooseParents rfl (by decide) w_551 (by decide) (by decide +kernel) rfl (s_aldn (j := 0) (pc' := 50) (by decide +kernel) rfl rfl (s_gfr (ci := 9) (j := 0) (pc' := 53) rfl g_ok10 (by decide) (by decide) (by decide) rfl w_290 (by decide +kernel) rfl (s_aldn (j := 0) (pc' := 54) (by decide +kernel) rfl rfl (s_gfr (ci := 9) (j := 5) (pc' := 57) rfl g_ok10 (by decide) (by decide) (by decide) rfl w_295 (by decide +kernel) rfl (s_calV (ci := 8) (pc' := 60) C_X8_replaceStyles A_X8_replaceStyles rfl (by decide) w_747 (by decide) (by decide +kernel) rfl (s_aldn (j := 0) (pc' := 61) (by decide +kernel) rfl rfl (s_gfr (ci := 9) (j := 0) (pc' := 64) rfl g_ok10 (by decide) (by decide) (by decide) rfl w_290 (by decide +kernel) rfl (s_calV (ci := 8) (pc' := 67) C_X8_costOfAll A_X8_costOfAll rfl (by decide) w_319 (by decide) (by decide +kernel) rfl (s_iret (by decide +kernel) rfl rfl rfl)))))))))))))))))))))))))))))))
def F_X10_adopt : vF := runD D_X10_adopt 1
theorem C_X10_adopt : Ctr yX10_adopt cX10_adopt 1 (some .int) 6 0 0 F_X10_adopt := ctr_of (d := fun _ => D_X10_adopt) (by decide +kernel) S_D_X10_adopt
theorem A_X10_adopt : CaV yX10_adopt cX10_adopt 1 (some .int) 0 := ⟨w_744, w_745, w_66, w_746, by unfold Nm; decide +kernel⟩
def D_X10_drop : vD := op_ald 0 (op_gfr 9 0 (op_gfr 8 2 (op_ild 1 (op_calV 7 1 F_X7_holds (op_ifne (op_ald 0 (op_gfr 9 1 (op_ald 0 (op_gfr 9 0 (op_calV 3 1 F_X3_remember (op_ald 0 (op_gfr 9 0 (op_ild 1 (op_calV 8 1 F_X8_removeStyle (op_ald 0 (op_gfr 9 0 (op_gfr 8 2 (op_gfi 7 1 (op_ret)))))))))))))) (op_con (-1000000001) (op_ret)))))))
set_option maxRecDepth 100000 in
theorem S_D_X10_drop (g0 : vG) : Snd yX10_drop cX10_drop 2 (some .int) 6 0 0 g0 0 D_X10_drop := s_aldn (j := 0) (pc' := 1) (by decide +kernel) rfl rfl (s_gfr (ci := 9) (j := 0) (pc' := 4) rfl g_ok10 (by decide) (by decide) (by decide) rfl w_290 (by decide +kernel) rfl (s_gfr (ci := 8) (j := 2) (pc' := 7) rfl g_ok8 (by decide) (by decide) (by decide) rfl w_128 (by decide +kernel) rfl (s_ildn (j := 1) (pc' := 8) (by decide +kernel) rfl rfl (s_calV (ci := 7) (pc' := 11) C_X7_holds A_X7_holds rfl (by decide) w_495 (by decide) (by decide +kernel) rfl (s_ifne (off := 6) (pt := 17) (pc' := 14) (by decide +kernel) (by decide) rfl (s_aldn (j := 0) (pc' := 18) (by decide +kernel) rfl rfl (s_gfr (ci := 9) (j := 1) (pc' := 21) rfl g_ok10 (by decide) (by decide) (by decide) rfl w_291 (by decide +kernel) rfl (s_aldn (j := 0) (pc' := 22) (by decide +kernel) rfl rfl (s_gfr (ci := 9) (j := 0) (pc' := 25) rfl g_ok10 (by decide) (by decide) (by decide) rfl w_290 (by decide +kernel) rfl (s_calV (ci := 3) (pc' := 28) C_X3_remember A_X3_remember rfl (by decide) w_602 (by decide) (by decide +kernel) rfl (s_aldn (j := 0) (pc' := 29) (by decide +kernel) rfl rfl (s_gfr (ci := 9) (j := 0) (pc' := 32) rfl g_ok10 (by decide) (by decide) (by decide) rfl w_290 (by decide +kernel) rfl (s_ildn (j := 1) (pc' := 33) (by decide +kernel) rfl rfl (s_calV (ci := 8) (pc' := 36) C_X8_removeStyle A_X8_removeStyle rfl (by decide) w_699 (by decide) (by decide +kernel) rfl (s_aldn (j := 0) (pc' := 37) (by decide +kernel) rfl rfl (s_gfr (ci := 9) (j := 0) (pc' := 40) rfl g_ok10 (by decide) (by decide) (by decide) rfl w_290 (by decide +kernel) rfl (s_gfr (ci := 8) (j := 2) (pc' := 43) rfl g_ok8 (by decide) (by decide) (by decide) rfl w_128 (by decide +kernel) rfl (s_gfi (ci := 7) (j := 1) (pc' := 46) rfl g_ok7 (by decide) (by decide) (by decide) rfl w_106 (by decide +kernel) rfl (s_iret (by decide +kernel) rfl rfl rfl)))))))))))))) (s_ldc (pc' := 16) (by decide +kernel) w_499 rfl (s_iret (by decide +kernel) rfl rfl rfl)))))))
def F_X10_drop : vF := runD D_X10_drop 2
theorem C_X10_drop : Ctr yX10_drop cX10_drop 2 (some .int) 6 0 0 F_X10_drop := ctr_of (d := fun _ => D_X10_drop) (by decide +kernel) S_D_X10_drop
theorem A_X10_drop : CaV yX10_drop cX10_drop 2 (some .int) 1 := ⟨w_696, w_697, w_66, w_698, by unfold Nm; decide +kernel⟩
def K_X10_lookAt_18 : vD := op_con (-1000000001) (op_ret)
set_option maxRecDepth 100000 in
theorem S_K_X10_lookAt_18 (g0 : vG) : Snd yX10_lookAt cX10_lookAt 3 (some .int) 6 0 0 g0 18 K_X10_lookAt_18 := s_ldc (pc' := 20) (by decide +kernel) w_499 rfl (s_iret (by decide +kernel) rfl rfl rfl)
def D_X10_lookAt : vD := op_ald 0 (op_calV 9 0 F_X10_gatheredLooks (op_ild 1 (op_calV 5 1 F_X5_holds (op_seq 18 (op_ifeq (op_kil [false, false, false] (op_jmp 18)) (op_ild 2 (op_cal 1 F_X9_isProperty (op_ifne (op_ald 0 (op_gfr 9 4 (op_gfr 5 1 (op_ild 1 (op_ial (op_ild 2 (op_cal 2 F_X9_inLook (op_ret)))))))) (op_kil [false, false, false] (op_jmp 18)))))) K_X10_lookAt_18))))
set_option maxRecDepth 100000 in
theorem S_D_X10_lookAt (g0 : vG) : Snd yX10_lookAt cX10_lookAt 3 (some .int) 6 0 0 g0 0 D_X10_lookAt := s_aldn (j := 0) (pc' := 1) (by decide +kernel) rfl rfl (s_calV (ci := 9) (pc' := 4) C_X10_gatheredLooks A_X10_gatheredLooks rfl (by decide) w_359 (by decide) (by decide +kernel) rfl (s_ildn (j := 1) (pc' := 5) (by decide +kernel) rfl rfl (s_calV (ci := 5) (pc' := 8) C_X5_holds A_X5_holds rfl (by decide) w_583 (by decide) (by decide +kernel) rfl (s_seq (s_ifeq (off := 10) (pt := 18) (pc' := 11) (by decide +kernel) (by decide) rfl (s_kil s_jmp) (s_ildn (j := 2) (pc' := 12) (by decide +kernel) rfl rfl (s_calS (pc' := 15) C_X9_isProperty A_X9_isProperty w_496 (by decide) (by decide +kernel) rfl (s_ifne (off := 6) (pt := 21) (pc' := 18) (by decide +kernel) (by decide) rfl (s_aldn (j := 0) (pc' := 22) (by decide +kernel) rfl rfl (s_gfr (ci := 9) (j := 4) (pc' := 25) rfl g_ok10 (by decide) (by decide) (by decide) rfl w_294 (by decide +kernel) rfl (s_gfr (ci := 5) (j := 1) (pc' := 28) rfl g_ok5 (by decide) (by decide) (by decide) rfl w_197 (by decide +kernel) rfl (s_ildn (j := 1) (pc' := 29) (by decide +kernel) rfl rfl (s_ial (pc' := 30) (by decide +kernel) rfl (s_ildn (j := 2) (pc' := 31) (by decide +kernel) rfl rfl (s_calS (pc' := 34) C_X9_inLook A_X9_inLook w_587 (by decide) (by decide +kernel) rfl (s_iret (by decide +kernel) rfl rfl rfl)))))))) (s_kil s_jmp))))) (S_K_X10_lookAt_18 g0)))))
def F_X10_lookAt : vF := runD D_X10_lookAt 3
theorem C_X10_lookAt : Ctr yX10_lookAt cX10_lookAt 3 (some .int) 6 0 0 F_X10_lookAt := ctr_of (d := fun _ => D_X10_lookAt) (by decide +kernel) S_D_X10_lookAt
theorem A_X10_lookAt : CaV yX10_lookAt cX10_lookAt 3 (some .int) 2 := ⟨w_580, w_581, w_66, w_582, by unfold Nm; decide +kernel⟩
def D_X10_paragraphAt : vD := op_ald 0 (op_gfr 9 0 (op_gfr 8 3 (op_ild 1 (op_calV 7 1 F_X7_holds (op_ifne (op_ild 2 (op_tsw [op_ald 0 (op_gfr 9 0 (op_gfr 8 3 (op_gfr 7 2 (op_ild 1 (op_ial (op_ret)))))), op_ald 0 (op_gfr 9 0 (op_ild 1 (op_calV 8 1 F_X8_paragraphCost (op_ret)))), op_ald 0 (op_gfr 9 0 (op_ald 0 (op_gfr 9 0 (op_ild 1 (op_calV 8 1 F_X8_paragraphLook (op_calV 8 1 F_X8_nearestStyle (op_ret))))))), op_ald 0 (op_ald 0 (op_gfr 9 0 (op_ild 1 (op_calV 8 1 F_X8_paragraphLook (op_calV 9 1 F_X10_costWithNearestStyle (op_ret)))))), op_ald 0 (op_calV 9 0 F_X10_gatheredLooks (op_ald 0 (op_gfr 9 0 (op_ild 1 (op_calV 8 1 F_X8_paragraphLook (op_calV 5 1 F_X5_numberOf (op_ret))))))), op_ald 0 (op_gfr 9 0 (op_gfr 8 3 (op_ild 1 (op_calV 7 1 F_X7_ownSet (op_ret)))))] (op_con (-1000000002) (op_ret)))) (op_con (-1000000001) (op_ret)))))))
set_option maxRecDepth 100000 in
theorem S_D_X10_paragraphAt (g0 : vG) : Snd yX10_paragraphAt cX10_paragraphAt 3 (some .int) 6 0 0 g0 0 D_X10_paragraphAt := s_aldn (j := 0) (pc' := 1) (by decide +kernel) rfl rfl (s_gfr (ci := 9) (j := 0) (pc' := 4) rfl g_ok10 (by decide) (by decide) (by decide) rfl w_290 (by decide +kernel) rfl (s_gfr (ci := 8) (j := 3) (pc' := 7) rfl g_ok8 (by decide) (by decide) (by decide) rfl w_130 (by decide +kernel) rfl (s_ildn (j := 1) (pc' := 8) (by decide +kernel) rfl rfl (s_calV (ci := 7) (pc' := 11) C_X7_holds A_X7_holds rfl (by decide) w_495 (by decide) (by decide +kernel) rfl (s_ifne (off := 6) (pt := 17) (pc' := 14) (by decide +kernel) (by decide) rfl (s_ildn (j := 2) (pc' := 18) (by decide +kernel) rfl rfl (s_tsw (ts := [56, 69, 78, 94, 107, 123]) (td := 135) (dflt := 117) (hi := 5) (offs := #[38, 51, 60, 76, 89, 105]) (len := 38) (by decide +kernel) (by decide) (by decide +kernel) (by decide) ⟨(s_aldn (j := 0) (pc' := 57) (by decide +kernel) rfl rfl (s_gfr (ci := 9) (j := 0) (pc' := 60) rfl g_ok10 (by decide) (by decide) (by decide) rfl w_290 (by decide +kernel) rfl (s_gfr (ci := 8) (j := 3) (pc' := 63) rfl g_ok8 (by decide) (by decide) (by decide) rfl w_130 (by decide +kernel) rfl (s_gfr (ci := 7) (j := 2) (pc' := 66) rfl g_ok7 (by decide) (by decide) (by decide) rfl w_111 (by decide +kernel) rfl (s_ildn (j := 1) (pc' := 67) (by decide +kernel) rfl rfl (s_ial (pc' := 68) (by decide +kernel) rfl (s_iret (by decide +kernel) rfl rfl rfl))))))), (s_aldn (j := 0) (pc' := 70) (by decide +kernel) rfl rfl (s_gfr (ci := 9) (j := 0) (pc' := 73) rfl g_ok10 (by decide) (by decide) (by decide) rfl w_290 (by decide +kernel) rfl (s_ildn (j := 1) (pc' := 74) (by decide +kernel) rfl rfl (s_calV (ci := 8) (pc' := 77) C_X8_paragraphCost A_X8_paragraphCost rfl (by decide) w_514 (by decide) (by decide +kernel) rfl (s_iret (by decide +kernel) rfl rfl rfl))))), (s_aldn (j := 0) (pc' := 79) (by decide +kernel) rfl rfl (s_gfr (ci := 9) (j := 0) (pc' := 82) rfl g_ok10 (by decide) (by decide) (by decide) rfl w_290 (by decide +kernel) rfl (s_aldn (j := 0) (pc' := 83) (by decide +kernel) rfl rfl (s_gfr (ci := 9) (j := 0) (pc' := 86) rfl g_ok10 (by decide) (by decide) (by decide) rfl w_290 (by decide +kernel) rfl (s_ildn (j := 1) (pc' := 87) (by decide +kernel) rfl rfl (s_calV (ci := 8) (pc' := 90) C_X8_paragraphLook A_X8_paragraphLook rfl (by decide) w_515 (by decide) (by decide +kernel) rfl (s_calV (ci := 8) (pc' := 93) C_X8_nearestStyle A_X8_nearestStyle rfl (by decide) w_516 (by decide) (by decide +kernel) rfl (s_iret (by decide +kernel) rfl rfl rfl)))))))), (s_aldn (j := 0) (pc' := 95) (by decide +kernel) rfl rfl (s_aldn (j := 0) (pc' := 96) (by decide +kernel) rfl rfl (s_gfr (ci := 9) (j := 0) (pc' := 99) rfl g_ok10 (by decide) (by decide) (by decide) rfl w_290 (by decide +kernel) rfl (s_ildn (j := 1) (pc' := 100) (by decide +kernel) rfl rfl (s_calV (ci := 8) (pc' := 103) C_X8_paragraphLook A_X8_paragraphLook rfl (by decide) w_515 (by decide) (by decide +kernel) rfl (s_calV (ci := 9) (pc' := 106) C_X10_costWithNearestStyle A_X10_costWithNearestStyle rfl (by decide) w_526 (by decide) (by decide +kernel) rfl (s_iret (by decide +kernel) rfl rfl rfl))))))), (s_aldn (j := 0) (pc' := 108) (by decide +kernel) rfl rfl (s_calV (ci := 9) (pc' := 111) C_X10_gatheredLooks A_X10_gatheredLooks rfl (by decide) w_359 (by decide) (by decide +kernel) rfl (s_aldn (j := 0) (pc' := 112) (by decide +kernel) rfl rfl (s_gfr (ci := 9) (j := 0) (pc' := 115) rfl g_ok10 (by decide) (by decide) (by decide) rfl w_290 (by decide +kernel) rfl (s_ildn (j := 1) (pc' := 116) (by decide +kernel) rfl rfl (s_calV (ci := 8) (pc' := 119) C_X8_paragraphLook A_X8_paragraphLook rfl (by decide) w_515 (by decide) (by decide +kernel) rfl (s_calV (ci := 5) (pc' := 122) C_X5_numberOf A_X5_numberOf rfl (by decide) w_531 (by decide) (by decide +kernel) rfl (s_iret (by decide +kernel) rfl rfl rfl)))))))), (s_aldn (j := 0) (pc' := 124) (by decide +kernel) rfl rfl (s_gfr (ci := 9) (j := 0) (pc' := 127) rfl g_ok10 (by decide) (by decide) (by decide) rfl w_290 (by decide +kernel) rfl (s_gfr (ci := 8) (j := 3) (pc' := 130) rfl g_ok8 (by decide) (by decide) (by decide) rfl w_130 (by decide +kernel) rfl (s_ildn (j := 1) (pc' := 131) (by decide +kernel) rfl rfl (s_calV (ci := 7) (pc' := 134) C_X7_ownSet A_X7_ownSet rfl (by decide) w_532 (by decide) (by decide +kernel) rfl (s_iret (by decide +kernel) rfl rfl rfl)))))), trivial⟩ (s_ldc (pc' := 137) (by decide +kernel) w_490 rfl (s_iret (by decide +kernel) rfl rfl rfl)))) (s_ldc (pc' := 16) (by decide +kernel) w_499 rfl (s_iret (by decide +kernel) rfl rfl rfl)))))))
def F_X10_paragraphAt : vF := runD D_X10_paragraphAt 3
theorem C_X10_paragraphAt : Ctr yX10_paragraphAt cX10_paragraphAt 3 (some .int) 6 0 0 F_X10_paragraphAt := ctr_of (d := fun _ => D_X10_paragraphAt) (by decide +kernel) S_D_X10_paragraphAt
theorem A_X10_paragraphAt : CaV yX10_paragraphAt cX10_paragraphAt 3 (some .int) 2 := ⟨w_511, w_512, w_66, w_513, by unfold Nm; decide +kernel⟩
def D_X10_styleAt : vD := op_ald 0 (op_gfr 9 0 (op_gfr 8 2 (op_ild 1 (op_calV 7 1 F_X7_holds (op_ifne (op_ild 2 (op_tsw [op_ald 0 (op_gfr 9 0 (op_gfr 8 2 (op_gfr 7 2 (op_ild 1 (op_ial (op_ret)))))), op_ald 0 (op_gfr 9 0 (op_ild 1 (op_calV 8 1 F_X8_styleCost (op_ret)))), op_ald 0 (op_gfr 9 0 (op_ild 1 (op_calV 8 1 F_X8_ancestors (op_ret)))), op_ald 0 (op_gfr 9 0 (op_gfr 8 3 (op_ild 1 (op_calV 7 1 F_X7_withBase (op_cal 1 F_J6_bitCount_0f7a4 (op_ret)))))), op_ald 0 (op_gfr 9 0 (op_gfr 8 2 (op_ild 1 (op_calV 7 1 F_X7_withBase (op_ret))))), op_ald 0 (op_gfr 9 0 (op_gfr 8 2 (op_ild 1 (op_calV 7 1 F_X7_ownSet (op_ret))))), op_ald 0 (op_ild 1 (op_calV 9 1 F_X10_bestParentOf (op_ret)))] (op_con (-1000000002) (op_ret)))) (op_con (-1000000001) (op_ret)))))))
set_option maxRecDepth 100000 in
theorem S_D_X10_styleAt (g0 : vG) : Snd yX10_styleAt cX10_styleAt 3 (some .int) 6 0 0 g0 0 D_X10_styleAt := s_aldn (j := 0) (pc' := 1) (by decide +kernel) rfl rfl (s_gfr (ci := 9) (j := 0) (pc' := 4) rfl g_ok10 (by decide) (by decide) (by decide) rfl w_290 (by decide +kernel) rfl (s_gfr (ci := 8) (j := 2) (pc' := 7) rfl g_ok8 (by decide) (by decide) (by decide) rfl w_128 (by decide +kernel) rfl (s_ildn (j := 1) (pc' := 8) (by decide +kernel) rfl rfl (s_calV (ci := 7) (pc' := 11) C_X7_holds A_X7_holds rfl (by decide) w_495 (by decide) (by decide +kernel) rfl (s_ifne (off := 6) (pt := 17) (pc' := 14) (by decide +kernel) (by decide) rfl (s_ildn (j := 2) (pc' := 18) (by decide +kernel) rfl rfl (s_tsw (ts := [60, 73, 82, 91, 106, 118, 130]) (td := 136) (dflt := 118) (hi := 6) (offs := #[42, 55, 64, 73, 88, 100, 112]) (len := 42) (by decide +kernel) (by decide) (by decide +kernel) (by decide) ⟨(s_aldn (j := 0) (pc' := 61) (by decide +kernel) rfl rfl (s_gfr (ci := 9) (j := 0) (pc' := 64) rfl g_ok10 (by decide) (by decide) (by decide) rfl w_290 (by decide +kernel) rfl (s_gfr (ci := 8) (j := 2) (pc' := 67) rfl g_ok8 (by decide) (by decide) (by decide) rfl w_128 (by decide +kernel) rfl (s_gfr (ci := 7) (j := 2) (pc' := 70) rfl g_ok7 (by decide) (by decide) (by decide) rfl w_111 (by decide +kernel) rfl (s_ildn (j := 1) (pc' := 71) (by decide +kernel) rfl rfl (s_ial (pc' := 72) (by decide +kernel) rfl (s_iret (by decide +kernel) rfl rfl rfl))))))), (s_aldn (j := 0) (pc' := 74) (by decide +kernel) rfl rfl (s_gfr (ci := 9) (j := 0) (pc' := 77) rfl g_ok10 (by decide) (by decide) (by decide) rfl w_290 (by decide +kernel) rfl (s_ildn (j := 1) (pc' := 78) (by decide +kernel) rfl rfl (s_calV (ci := 8) (pc' := 81) C_X8_styleCost A_X8_styleCost rfl (by decide) w_540 (by decide) (by decide +kernel) rfl (s_iret (by decide +kernel) rfl rfl rfl))))), (s_aldn (j := 0) (pc' := 83) (by decide +kernel) rfl rfl (s_gfr (ci := 9) (j := 0) (pc' := 86) rfl g_ok10 (by decide) (by decide) (by decide) rfl w_290 (by decide +kernel) rfl (s_ildn (j := 1) (pc' := 87) (by decide +kernel) rfl rfl (s_calV (ci := 8) (pc' := 90) C_X8_ancestors A_X8_ancestors rfl (by decide) w_541 (by decide) (by decide +kernel) rfl (s_iret (by decide +kernel) rfl rfl rfl))))), (s_aldn (j := 0) (pc' := 92) (by decide +kernel) rfl rfl (s_gfr (ci := 9) (j := 0) (pc' := 95) rfl g_ok10 (by decide) (by decide) (by decide) rfl w_290 (by decide +kernel) rfl (s_gfr (ci := 8) (j := 3) (pc' := 98) rfl g_ok8 (by decide) (by decide) (by decide) rfl w_130 (by decide +kernel) rfl (s_ildn (j := 1) (pc' := 99) (by decide +kernel) rfl rfl (s_calV (ci := 7) (pc' := 102) C_X7_withBase A_X7_withBase rfl (by decide) w_545 (by decide) (by decide +kernel) rfl (s_calS (pc' := 105) C_J6_bitCount_0f7a4 A_J6_bitCount_0f7a4 w_546 (by decide) (by decide +kernel) rfl (s_iret (by decide +kernel) rfl rfl rfl))))))), (s_aldn (j := 0) (pc' := 107) (by decide +kernel) rfl rfl (s_gfr (ci := 9) (j := 0) (pc' := 110) rfl g_ok10 (by decide) (by decide) (by decide) rfl w_290 (by decide +kernel) rfl (s_gfr (ci := 8) (j := 2) (pc' := 113) rfl g_ok8 (by decide) (by decide) (by decide) rfl w_128 (by decide +kernel) rfl (s_ildn (j := 1) (pc' := 114) (by decide +kernel) rfl rfl (s_calV (ci := 7) (pc' := 117) C_X7_withBase A_X7_withBase rfl (by decide) w_545 (by decide) (by decide +kernel) rfl (s_iret (by decide +kernel) rfl rfl rfl)))))), (s_aldn (j := 0) (pc' := 119) (by decide +kernel) rfl rfl (s_gfr (ci := 9) (j := 0) (pc' := 122) rfl g_ok10 (by decide) (by decide) (by decide) rfl w_290 (by decide +kernel) rfl (s_gfr (ci := 8) (j := 2) (pc' := 125) rfl g_ok8 (by decide) (by decide) (by decide) rfl w_128 (by decide +kernel) rfl (s_ildn (j := 1) (pc' := 126) (by decide +kernel) rfl rfl (s_calV (ci := 7) (pc' := 129) C_X7_ownSet A_X7_ownSet rfl (by decide) w_532 (by decide) (by decide +kernel) rfl (s_iret (by decide +kernel) rfl rfl rfl)))))), (s_aldn (j := 0) (pc' := 131) (by decide +kernel) rfl rfl (s_ildn (j := 1) (pc' := 132) (by decide +kernel) rfl rfl (s_calV (ci := 9) (pc' := 135) C_X10_bestParentOf A_X10_bestParentOf rfl (by decide) w_547 (by decide) (by decide +kernel) rfl (s_iret (by decide +kernel) rfl rfl rfl)))), trivial⟩ (s_ldc (pc' := 138) (by decide +kernel) w_490 rfl (s_iret (by decide +kernel) rfl rfl rfl)))) (s_ldc (pc' := 16) (by decide +kernel) w_499 rfl (s_iret (by decide +kernel) rfl rfl rfl)))))))
def F_X10_styleAt : vF := runD D_X10_styleAt 3
theorem C_X10_styleAt : Ctr yX10_styleAt cX10_styleAt 3 (some .int) 6 0 0 F_X10_styleAt := ctr_of (d := fun _ => D_X10_styleAt) (by decide +kernel) S_D_X10_styleAt
theorem A_X10_styleAt : CaV yX10_styleAt cX10_styleAt 3 (some .int) 2 := ⟨w_537, w_538, w_66, w_539, by unfold Nm; decide +kernel⟩
def D_X10_told : vD := op_ild 1 (op_tsw [op_ald 0 (op_gfr 9 0 (op_gfr 8 3 (op_gfi 7 1 (op_ret)))), op_ald 0 (op_gfr 9 0 (op_gfr 8 2 (op_gfi 7 1 (op_ret)))), op_ald 0 (op_gfr 9 0 (op_calV 8 0 F_X8_costOfAll (op_ret))), op_ald 0 (op_gfr 9 0 (op_con 0 (op_calV 8 1 F_X8_countRedundant (op_ret)))), op_ald 0 (op_calV 9 0 F_X10_gatheredLooks (op_gfi 5 0 (op_ret))), op_ald 0 (op_calV 9 0 F_X10_costWithBestParents (op_ret)), op_ald 0 (op_calV 9 0 F_X10_foundBestStyles (op_gfi 0 1 (op_ret))), op_ald 0 (op_calV 9 0 F_X10_foundBestStyles (op_gfi 0 0 (op_ret))), op_ald 0 (op_gfr 9 0 (op_calV 8 0 F_X8_unusedStyles (op_ret))), op_ald 0 (op_gfr 9 0 (op_gfi 8 0 (op_ret))), op_ald 0 (op_gfr 9 2 (op_gfi 1 0 (op_ret))), op_ald 0 (op_gfr 9 2 (op_ald 0 (op_gfr 9 0 (op_calV 1 1 F_X1_firstWrong (op_ret))))), op_ald 0 (op_gfr 9 1 (op_gfi 3 0 (op_ret))), op_ald 0 (op_gfi 9 7 (op_ret))] (op_con (-1000000002) (op_ret)))
set_option maxRecDepth 100000 in
theorem S_D_X10_told (g0 : vG) : Snd yX10_told cX10_told 2 (some .int) 6 0 0 g0 0 D_X10_told := s_ildn (j := 1) (pc' := 1) (by decide +kernel) rfl rfl (s_tsw (ts := [72, 83, 94, 102, 111, 119, 124, 132, 140, 148, 156, 164, 176, 184]) (td := 189) (dflt := 188) (hi := 13) (offs := #[71, 82, 93, 101, 110, 118, 123, 131, 139, 147, 155, 163, 175, 183]) (len := 71) (by decide +kernel) (by decide) (by decide +kernel) (by decide) ⟨(s_aldn (j := 0) (pc' := 73) (by decide +kernel) rfl rfl (s_gfr (ci := 9) (j := 0) (pc' := 76) rfl g_ok10 (by decide) (by decide) (by decide) rfl w_290 (by decide +kernel) rfl (s_gfr (ci := 8) (j := 3) (pc' := 79) rfl g_ok8 (by decide) (by decide) (by decide) rfl w_130 (by decide +kernel) rfl (s_gfi (ci := 7) (j := 1) (pc' := 82) rfl g_ok7 (by decide) (by decide) (by decide) rfl w_106 (by decide +kernel) rfl (s_iret (by decide +kernel) rfl rfl rfl))))), (s_aldn (j := 0) (pc' := 84) (by decide +kernel) rfl rfl (s_gfr (ci := 9) (j := 0) (pc' := 87) rfl g_ok10 (by decide) (by decide) (by decide) rfl w_290 (by decide +kernel) rfl (s_gfr (ci := 8) (j := 2) (pc' := 90) rfl g_ok8 (by decide) (by decide) (by decide) rfl w_128 (by decide +kernel) rfl (s_gfi (ci := 7) (j := 1) (pc' := 93) rfl g_ok7 (by decide) (by decide) (by decide) rfl w_106 (by decide +kernel) rfl (s_iret (by decide +kernel) rfl rfl rfl))))), (s_aldn (j := 0) (pc' := 95) (by decide +kernel) rfl rfl (s_gfr (ci := 9) (j := 0) (pc' := 98) rfl g_ok10 (by decide) (by decide) (by decide) rfl w_290 (by decide +kernel) rfl (s_calV (ci := 8) (pc' := 101) C_X8_costOfAll A_X8_costOfAll rfl (by decide) w_319 (by decide) (by decide +kernel) rfl (s_iret (by decide +kernel) rfl rfl rfl)))), (s_aldn (j := 0) (pc' := 103) (by decide +kernel) rfl rfl (s_gfr (ci := 9) (j := 0) (pc' := 106) rfl g_ok10 (by decide) (by decide) (by decide) rfl w_290 (by decide +kernel) rfl (s_con (n := 0) (pc' := 107) (by decide +kernel) (by decide +kernel) rfl (s_calV (ci := 8) (pc' := 110) C_X8_countRedundant A_X8_countRedundant rfl (by decide) w_342 (by decide) (by decide +kernel) rfl (s_iret (by decide +kernel) rfl rfl rfl))))), (s_aldn (j := 0) (pc' := 112) (by decide +kernel) rfl rfl (s_calV (ci := 9) (pc' := 115) C_X10_gatheredLooks A_X10_gatheredLooks rfl (by decide) w_359 (by decide) (by decide +kernel) rfl (s_gfi (ci := 5) (j := 0) (pc' := 118) rfl g_ok5 (by decide) (by decide) (by decide) rfl w_192 (by decide +kernel) rfl (s_iret (by decide +kernel) rfl rfl rfl)))), (s_aldn (j := 0) (pc' := 120) (by decide +kernel) rfl rfl (s_calV (ci := 9) (pc' := 123) C_X10_costWithBestParents A_X10_costWithBestParents rfl (by decide) w_391 (by decide) (by decide +kernel) rfl (s_iret (by decide +kernel) rfl rfl rfl))), (s_aldn (j := 0) (pc' := 125) (by decide +kernel) rfl rfl (s_calV (ci := 9) (pc' := 128) C_X10_foundBestStyles A_X10_foundBestStyles rfl (by decide) w_439 (by decide) (by decide +kernel) rfl (s_gfi (ci := 0) (j := 1) (pc' := 131) rfl g_ok0 (by decide) (by decide) (by decide) rfl w_261 (by decide +kernel) rfl (s_iret (by decide +kernel) rfl rfl rfl)))), (s_aldn (j := 0) (pc' := 133) (by decide +kernel) rfl rfl (s_calV (ci := 9) (pc' := 136) C_X10_foundBestStyles A_X10_foundBestStyles rfl (by decide) w_439 (by decide) (by decide +kernel) rfl (s_gfi (ci := 0) (j := 0) (pc' := 139) rfl g_ok0 (by decide) (by decide) (by decide) rfl w_259 (by decide +kernel) rfl (s_iret (by decide +kernel) rfl rfl rfl)))), (s_aldn (j := 0) (pc' := 141) (by decide +kernel) rfl rfl (s_gfr (ci := 9) (j := 0) (pc' := 144) rfl g_ok10 (by decide) (by decide) (by decide) rfl w_290 (by decide +kernel) rfl (s_calV (ci := 8) (pc' := 147) C_X8_unusedStyles A_X8_unusedStyles rfl (by decide) w_473 (by decide) (by decide +kernel) rfl (s_iret (by decide +kernel) rfl rfl rfl)))), (s_aldn (j := 0) (pc' := 149) (by decide +kernel) rfl rfl (s_gfr (ci := 9) (j := 0) (pc' := 152) rfl g_ok10 (by decide) (by decide) (by decide) rfl w_290 (by decide +kernel) rfl (s_gfi (ci := 8) (j := 0) (pc' := 155) rfl g_ok8 (by decide) (by decide) (by decide) rfl w_124 (by decide +kernel) rfl (s_iret (by decide +kernel) rfl rfl rfl)))), (s_aldn (j := 0) (pc' := 157) (by decide +kernel) rfl rfl (s_gfr (ci := 9) (j := 2) (pc' := 160) rfl g_ok10 (by decide) (by decide) (by decide) rfl w_292 (by decide +kernel) rfl (s_gfi (ci := 1) (j := 0) (pc' := 163) rfl g_ok1 (by decide) (by decide) (by decide) rfl w_169 (by decide +kernel) rfl (s_iret (by decide +kernel) rfl rfl rfl)))), (s_aldn (j := 0) (pc' := 165) (by decide +kernel) rfl rfl (s_gfr (ci := 9) (j := 2) (pc' := 168) rfl g_ok10 (by decide) (by decide) (by decide) rfl w_292 (by decide +kernel) rfl (s_aldn (j := 0) (pc' := 169) (by decide +kernel) rfl rfl (s_gfr (ci := 9) (j := 0) (pc' := 172) rfl g_ok10 (by decide) (by decide) (by decide) rfl w_290 (by decide +kernel) rfl (s_calV (ci := 1) (pc' := 175) C_X1_firstWrong A_X1_firstWrong rfl (by decide) w_481 (by decide) (by decide +kernel) rfl (s_iret (by decide +kernel) rfl rfl rfl)))))), (s_aldn (j := 0) (pc' := 177) (by decide +kernel) rfl rfl (s_gfr (ci := 9) (j := 1) (pc' := 180) rfl g_ok10 (by decide) (by decide) (by decide) rfl w_291 (by decide +kernel) rfl (s_gfi (ci := 3) (j := 0) (pc' := 183) rfl g_ok3 (by decide) (by decide) (by decide) rfl w_152 (by decide +kernel) rfl (s_iret (by decide +kernel) rfl rfl rfl)))), (s_aldn (j := 0) (pc' := 185) (by decide +kernel) rfl rfl (s_gfi (ci := 9) (j := 7) (pc' := 188) rfl g_ok10 (by decide) (by decide) (by decide) rfl w_297 (by decide +kernel) rfl (s_iret (by decide +kernel) rfl rfl rfl))), trivial⟩ (s_ldc (pc' := 191) (by decide +kernel) w_490 rfl (s_iret (by decide +kernel) rfl rfl rfl)))
def F_X10_told : vF := runD D_X10_told 2
theorem C_X10_told : Ctr yX10_told cX10_told 2 (some .int) 6 0 0 F_X10_told := ctr_of (d := fun _ => D_X10_told) (by decide +kernel) S_D_X10_told
theorem A_X10_told : CaV yX10_told cX10_told 2 (some .int) 1 := ⟨w_316, w_317, w_66, w_318, by unfold Nm; decide +kernel⟩
end
section
/-! ===== fragments and contracts, by program (wip/whole/gen.py) ===== -/
def K_X11_bits_31 : vD := op_ret
set_option maxRecDepth 100000 in
theorem S_K_X11_bits_31 (g0 : vG) : Snd yX11_bits cX11_bits 2 (some .int) 0 0 0 g0 31 K_X11_bits_31 := s_iret (by decide +kernel) rfl rfl rfl
def D_X11_bits : vD := op_ild 0 (op_con 2 (op_icge (op_ild 0 (op_con 4 (op_seq 31 (op_icge (op_con 3 (op_ild 1 (op_con 2 (op_div f_div (op_bin f_add (op_kil [false, false] (op_jmp 31))))))) (op_ild 1 (op_con 10 (op_icge (op_con 5 (op_kil [false, false] (op_jmp 31))) (op_con 4 (op_kil [false, false] (op_jmp 31))))))) K_X11_bits_31))) (op_con 2 (op_ret))))
set_option maxRecDepth 100000 in
theorem S_D_X11_bits (g0 : vG) : Snd yX11_bits cX11_bits 2 (some .int) 0 0 0 g0 0 D_X11_bits := s_ildn (j := 0) (pc' := 1) (by decide +kernel) rfl rfl (s_con (n := 2) (pc' := 2) (by decide +kernel) (by decide +kernel) rfl (s_icge (off := 5) (pt := 7) (pc' := 5) (by decide +kernel) (by decide) rfl (s_ildn (j := 0) (pc' := 8) (by decide +kernel) rfl rfl (s_con (n := 4) (pc' := 9) (by decide +kernel) (by decide +kernel) rfl (s_seq (s_icge (off := 17) (pt := 26) (pc' := 12) (by decide +kernel) (by decide) rfl (s_con (n := 3) (pc' := 27) (by decide +kernel) (by decide +kernel) rfl (s_ildn (j := 1) (pc' := 28) (by decide +kernel) rfl rfl (s_con (n := 2) (pc' := 29) (by decide +kernel) (by decide +kernel) rfl (s_div (pc' := 30) (by decide +kernel) rfl (s_add (pc' := 31) (by decide +kernel) rfl (s_kil s_jmp)))))) (s_ildn (j := 1) (pc' := 13) (by decide +kernel) rfl rfl (s_bip (n := 10) (pc' := 15) (by decide +kernel) (by decide +kernel) rfl (s_icge (off := 7) (pt := 22) (pc' := 18) (by decide +kernel) (by decide) rfl (s_con (n := 5) (pc' := 23) (by decide +kernel) (by decide +kernel) rfl (s_goto (off := 8) (pt := 31) (by decide +kernel) (by decide) (s_kil s_jmp))) (s_con (n := 4) (pc' := 19) (by decide +kernel) (by decide +kernel) rfl (s_goto (off := 12) (pt := 31) (by decide +kernel) (by decide) (s_kil s_jmp))))))) (S_K_X11_bits_31 g0)))) (s_con (n := 2) (pc' := 6) (by decide +kernel) (by decide +kernel) rfl (s_iret (by decide +kernel) rfl rfl rfl))))
def F_X11_bits : vF := runD D_X11_bits 2
theorem C_X11_bits : Ctr yX11_bits cX11_bits 2 (some .int) 0 0 0 F_X11_bits := ctr_of (d := fun _ => D_X11_bits) (by decide +kernel) S_D_X11_bits
theorem A_X11_bits : CaS yX11_bits cX11_bits 2 (some .int) 2 := ⟨w_898, w_77, w_899, by unfold Nm; decide +kernel⟩
def K_X11_cheapest_61 : vD := op_ild 3 (op_kil [true, true, true, false, true, false] (op_jmp 62))
set_option maxRecDepth 100000 in
theorem S_K_X11_cheapest_61 (g0 : vG) : Snd yX11_cheapest cX11_cheapest 6 (some .int) 0 0 0 g0 61 K_X11_cheapest_61 := s_ildn (j := 3) (pc' := 62) (by decide +kernel) rfl rfl (s_kil s_jmp)
def K_X11_cheapest_62 : vD := op_ist 3 (op_inc 4 1 (op_kil [true, true, true, true, true, false] (op_jmp 13)))
set_option maxRecDepth 100000 in
theorem S_K_X11_cheapest_62 (g0 : vG) : Snd yX11_cheapest cX11_cheapest 6 (some .int) 0 0 0 g0 62 K_X11_cheapest_62 := s_istn (j := 3) (pc' := 63) (by decide +kernel) rfl (by decide) rfl (s_inc (n := 1) (pc' := 66) (by decide +kernel) (by decide +kernel) (by decide) rfl (s_goto (off := (-53)) (pt := 13) (by decide +kernel) (by decide) (s_kil s_jmp)))
def B_X11_cheapest_13 : vD := op_ild 4 (op_ald 0 (op_gfi 10 12 (op_icge (op_kil [false, false, false, true, false, false] (op_jmp 69)) (op_ald 0 (op_gfr 10 13 (op_con 9 (op_ild 1 (op_bin f_mul (op_ild 4 (op_bin f_add (op_con 1 (op_bin f_add (op_ial (op_con 1 (op_bin f_sub (op_ist 5 (op_ild 2 (op_ild 4 (op_bin f_shr (op_con 1 (op_bin f_and (op_con 1 (op_seq 62 (op_seq 61 (op_icne (op_kil [true, true, true, true, true, false] (op_jmp 61)) (op_ild 5 (op_ild 3 (op_icge (op_kil [true, true, true, true, true, false] (op_jmp 61)) (op_ild 5 (op_kil [true, true, true, false, true, false] (op_jmp 62))))))) K_X11_cheapest_61) K_X11_cheapest_62)))))))))))))))))))))))
set_option maxRecDepth 100000 in
theorem S_B_X11_cheapest_13 (g0 : vG) : Snd yX11_cheapest cX11_cheapest 6 (some .int) 0 0 0 g0 13 B_X11_cheapest_13 := s_ild (pc' := 15) (by decide +kernel) rfl (s_aldn (j := 0) (pc' := 16) (by decide +kernel) rfl rfl (s_gfi (ci := 10) (j := 12) (pc' := 19) rfl g_ok11 (by decide) (by decide) (by decide) rfl w_835 (by decide +kernel) rfl (s_icge (off := 50) (pt := 69) (pc' := 22) (by decide +kernel) (by decide) rfl (s_kil s_jmp) (s_aldn (j := 0) (pc' := 23) (by decide +kernel) rfl rfl (s_gfr (ci := 10) (j := 13) (pc' := 26) rfl g_ok11 (by decide) (by decide) (by decide) rfl w_836 (by decide +kernel) rfl (s_bip (n := 9) (pc' := 28) (by decide +kernel) (by decide +kernel) rfl (s_ildn (j := 1) (pc' := 29) (by decide +kernel) rfl rfl (s_mul (pc' := 30) (by decide +kernel) rfl (s_ild (pc' := 32) (by decide +kernel) rfl (s_add (pc' := 33) (by decide +kernel) rfl (s_con (n := 1) (pc' := 34) (by decide +kernel) (by decide +kernel) rfl (s_add (pc' := 35) (by decide +kernel) rfl (s_ial (pc' := 36) (by decide +kernel) rfl (s_con (n := 1) (pc' := 37) (by decide +kernel) (by decide +kernel) rfl (s_sub (pc' := 38) (by decide +kernel) rfl (s_ist (pc' := 40) (by decide +kernel) (by decide) rfl (s_ildn (j := 2) (pc' := 41) (by decide +kernel) rfl rfl (s_ild (pc' := 43) (by decide +kernel) rfl (s_shr (pc' := 44) (by decide +kernel) rfl (s_con (n := 1) (pc' := 45) (by decide +kernel) (by decide +kernel) rfl (s_and (pc' := 46) (by decide +kernel) rfl (s_con (n := 1) (pc' := 47) (by decide +kernel) (by decide +kernel) rfl (s_seq (s_seq (s_icne (off := 14) (pt := 61) (pc' := 50) (by decide +kernel) (by decide) rfl (s_kil s_jmp) (s_ild (pc' := 52) (by decide +kernel) rfl (s_ildn (j := 3) (pc' := 53) (by decide +kernel) rfl rfl (s_icge (off := 8) (pt := 61) (pc' := 56) (by decide +kernel) (by decide) rfl (s_kil s_jmp) (s_ild (pc' := 58) (by decide +kernel) rfl (s_goto (off := 4) (pt := 62) (by decide +kernel) (by decide) (s_kil s_jmp))))))) (S_K_X11_cheapest_61 g0)) (S_K_X11_cheapest_62 g0))))))))))))))))))))))))
def K_X11_cheapest_69 : vD := op_ild 3 (op_ret)
set_option maxRecDepth 100000 in
theorem S_K_X11_cheapest_69 (g0 : vG) : Snd yX11_cheapest cX11_cheapest 6 (some .int) 0 0 0 g0 69 K_X11_cheapest_69 := s_ildn (j := 3) (pc' := 70) (by decide +kernel) rfl rfl (s_iret (by decide +kernel) rfl rfl rfl)
def D_X11_cheapest : vD := op_ald 0 (op_gfr 10 13 (op_con 9 (op_ild 1 (op_bin f_mul (op_ial (op_ist 3 (op_con 0 (op_ist 4 (op_seq 69 (op_kil [true, true, true, true, true, false] (op_loop 13 B_X11_cheapest_13 4000)) K_X11_cheapest_69)))))))))
set_option maxRecDepth 100000 in
theorem S_D_X11_cheapest (g0 : vG) : Snd yX11_cheapest cX11_cheapest 6 (some .int) 0 0 0 g0 0 D_X11_cheapest := s_aldn (j := 0) (pc' := 1) (by decide +kernel) rfl rfl (s_gfr (ci := 10) (j := 13) (pc' := 4) rfl g_ok11 (by decide) (by decide) (by decide) rfl w_836 (by decide +kernel) rfl (s_bip (n := 9) (pc' := 6) (by decide +kernel) (by decide +kernel) rfl (s_ildn (j := 1) (pc' := 7) (by decide +kernel) rfl rfl (s_mul (pc' := 8) (by decide +kernel) rfl (s_ial (pc' := 9) (by decide +kernel) rfl (s_istn (j := 3) (pc' := 10) (by decide +kernel) rfl (by decide) rfl (s_con (n := 0) (pc' := 11) (by decide +kernel) (by decide +kernel) rfl (s_ist (pc' := 13) (by decide +kernel) (by decide) rfl (s_seq (s_kil (s_loop (S_B_X11_cheapest_13 g0) 4000)) (S_K_X11_cheapest_69 g0))))))))))
def F_X11_cheapest : vF := runD D_X11_cheapest 6
theorem C_X11_cheapest : Ctr yX11_cheapest cX11_cheapest 6 (some .int) 0 0 0 F_X11_cheapest := ctr_of (d := fun _ => D_X11_cheapest) (by decide +kernel) S_D_X11_cheapest
theorem A_X11_cheapest : CaV yX11_cheapest cX11_cheapest 6 (some .int) 2 := ⟨w_988, w_40, w_77, w_989, by unfold Nm; decide +kernel⟩
def B_X11_clear_2 : vD := op_ild 2 (op_con 7 (op_icge (op_kil [false, false, false] (op_jmp 23)) (op_ald 0 (op_gfr 10 0 (op_ild 1 (op_ild 2 (op_bin f_add (op_con (-1) (op_ias (op_inc 2 1 (op_jmp 2)))))))))))
set_option maxRecDepth 100000 in
theorem S_B_X11_clear_2 (g0 : vG) : Snd yX11_clear cX11_clear 3 none 0 0 0 g0 2 B_X11_clear_2 := s_ildn (j := 2) (pc' := 3) (by decide +kernel) rfl rfl (s_bip (n := 7) (pc' := 5) (by decide +kernel) (by decide +kernel) rfl (s_icge (off := 18) (pt := 23) (pc' := 8) (by decide +kernel) (by decide) rfl (s_kil s_jmp) (s_aldn (j := 0) (pc' := 9) (by decide +kernel) rfl rfl (s_gfr (ci := 10) (j := 0) (pc' := 12) rfl g_ok11 (by decide) (by decide) (by decide) rfl w_823 (by decide +kernel) rfl (s_ildn (j := 1) (pc' := 13) (by decide +kernel) rfl rfl (s_ildn (j := 2) (pc' := 14) (by decide +kernel) rfl rfl (s_add (pc' := 15) (by decide +kernel) rfl (s_con (n := (-1)) (pc' := 16) (by decide +kernel) (by decide +kernel) rfl (s_ias (pc' := 17) (by decide +kernel) rfl (s_inc (n := 1) (pc' := 20) (by decide +kernel) (by decide +kernel) (by decide) rfl (s_goto (off := (-18)) (pt := 2) (by decide +kernel) (by decide) (s_jmp))))))))))))
def K_X11_clear_23 : vD := op_vret
set_option maxRecDepth 100000 in
theorem S_K_X11_clear_23 (g0 : vG) : Snd yX11_clear cX11_clear 3 none 0 0 0 g0 23 K_X11_clear_23 := s_vret (by decide +kernel) rfl rfl rfl
def D_X11_clear : vD := op_con 0 (op_ist 2 (op_seq 23 (op_loop 2 B_X11_clear_2 4000) K_X11_clear_23))
set_option maxRecDepth 100000 in
theorem S_D_X11_clear (g0 : vG) : Snd yX11_clear cX11_clear 3 none 0 0 0 g0 0 D_X11_clear := s_con (n := 0) (pc' := 1) (by decide +kernel) (by decide +kernel) rfl (s_istn (j := 2) (pc' := 2) (by decide +kernel) rfl (by decide) rfl (s_seq (s_loop (S_B_X11_clear_2 g0) 4000) (S_K_X11_clear_23 g0)))
def F_X11_clear : vF := runD D_X11_clear 3
theorem C_X11_clear : Ctr yX11_clear cX11_clear 3 none 0 0 0 F_X11_clear := ctr_of (d := fun _ => D_X11_clear) (by decide +kernel) S_D_X11_clear
theorem A_X11_clear : CaV yX11_clear cX11_clear 3 none 1 := ⟨w_1101, w_58, w_77, w_1102, by unfold Nm; decide +kernel⟩
def K_X11_compare_51 : vD := op_ret
set_option maxRecDepth 100000 in
theorem S_K_X11_compare_51 (g0 : vG) : Snd yX11_compare cX11_compare 7 (some .int) 0 0 0 g0 51 K_X11_compare_51 := s_iret (by decide +kernel) rfl rfl rfl
def B_X11_compare_3 : vD := op_ild 4 (op_con 6 (op_icge (op_kil [false, false, false, false, false, false, false] (op_jmp 58)) (op_ald 0 (op_con 6 (op_ild 1 (op_bin f_mul (op_ild 4 (op_bin f_add (op_ial (op_ist 5 (op_ald 2 (op_con 6 (op_ild 3 (op_bin f_mul (op_ild 4 (op_bin f_add (op_ial (op_ist 6 (op_ild 5 (op_ild 6 (op_iceq (op_inc 4 1 (op_kil [true, true, true, true, true, false, false] (op_jmp 3))) (op_ild 5 (op_ild 6 (op_seq 51 (op_icge (op_con 1 (op_kil [false, false, false, false, false, false, false] (op_jmp 51))) (op_con (-1) (op_kil [false, false, false, false, false, false, false] (op_jmp 51)))) K_X11_compare_51))))))))))))))))))))))))
set_option maxRecDepth 100000 in
theorem S_B_X11_compare_3 (g0 : vG) : Snd yX11_compare cX11_compare 7 (some .int) 0 0 0 g0 3 B_X11_compare_3 := s_ild (pc' := 5) (by decide +kernel) rfl (s_bip (n := 6) (pc' := 7) (by decide +kernel) (by decide +kernel) rfl (s_icge (off := 51) (pt := 58) (pc' := 10) (by decide +kernel) (by decide) rfl (s_kil s_jmp) (s_aldn (j := 0) (pc' := 11) (by decide +kernel) rfl rfl (s_bip (n := 6) (pc' := 13) (by decide +kernel) (by decide +kernel) rfl (s_ildn (j := 1) (pc' := 14) (by decide +kernel) rfl rfl (s_mul (pc' := 15) (by decide +kernel) rfl (s_ild (pc' := 17) (by decide +kernel) rfl (s_add (pc' := 18) (by decide +kernel) rfl (s_ial (pc' := 19) (by decide +kernel) rfl (s_ist (pc' := 21) (by decide +kernel) (by decide) rfl (s_aldn (j := 2) (pc' := 22) (by decide +kernel) rfl rfl (s_bip (n := 6) (pc' := 24) (by decide +kernel) (by decide +kernel) rfl (s_ildn (j := 3) (pc' := 25) (by decide +kernel) rfl rfl (s_mul (pc' := 26) (by decide +kernel) rfl (s_ild (pc' := 28) (by decide +kernel) rfl (s_add (pc' := 29) (by decide +kernel) rfl (s_ial (pc' := 30) (by decide +kernel) rfl (s_ist (pc' := 32) (by decide +kernel) (by decide) rfl (s_ild (pc' := 34) (by decide +kernel) rfl (s_ild (pc' := 36) (by decide +kernel) rfl (s_iceq (off := 16) (pt := 52) (pc' := 39) (by decide +kernel) (by decide) rfl (s_inc (n := 1) (pc' := 55) (by decide +kernel) (by decide +kernel) (by decide) rfl (s_goto (off := (-52)) (pt := 3) (by decide +kernel) (by decide) (s_kil s_jmp))) (s_ild (pc' := 41) (by decide +kernel) rfl (s_ild (pc' := 43) (by decide +kernel) rfl (s_seq (s_icge (off := 7) (pt := 50) (pc' := 46) (by decide +kernel) (by decide) rfl (s_con (n := 1) (pc' := 51) (by decide +kernel) (by decide +kernel) rfl (s_kil s_jmp)) (s_con (n := (-1)) (pc' := 47) (by decide +kernel) (by decide +kernel) rfl (s_goto (off := 4) (pt := 51) (by decide +kernel) (by decide) (s_kil s_jmp)))) (S_K_X11_compare_51 g0)))))))))))))))))))))))))
def K_X11_compare_58 : vD := op_con 0 (op_ret)
set_option maxRecDepth 100000 in
theorem S_K_X11_compare_58 (g0 : vG) : Snd yX11_compare cX11_compare 7 (some .int) 0 0 0 g0 58 K_X11_compare_58 := s_con (n := 0) (pc' := 59) (by decide +kernel) (by decide +kernel) rfl (s_iret (by decide +kernel) rfl rfl rfl)
def D_X11_compare : vD := op_con 0 (op_ist 4 (op_seq 58 (op_kil [true, true, true, true, true, false, false] (op_loop 3 B_X11_compare_3 4000)) K_X11_compare_58))
set_option maxRecDepth 100000 in
theorem S_D_X11_compare (g0 : vG) : Snd yX11_compare cX11_compare 7 (some .int) 0 0 0 g0 0 D_X11_compare := s_con (n := 0) (pc' := 1) (by decide +kernel) (by decide +kernel) rfl (s_ist (pc' := 3) (by decide +kernel) (by decide) rfl (s_seq (s_kil (s_loop (S_B_X11_compare_3 g0) 4000)) (S_K_X11_compare_58 g0)))
def F_X11_compare : vF := runD D_X11_compare 7
theorem C_X11_compare : Ctr yX11_compare cX11_compare 7 (some .int) 0 0 0 F_X11_compare := ctr_of (d := fun _ => D_X11_compare) (by decide +kernel) S_D_X11_compare
theorem A_X11_compare : CaS yX11_compare cX11_compare 7 (some .int) 4 := ⟨w_944, w_77, w_945, by unfold Nm; decide +kernel⟩
def B_X11_copyRow_2 : vD := op_ild 3 (op_con 110 (op_icge (op_kil [false, false, false, false] (op_jmp 30)) (op_ald 0 (op_gfr 10 0 (op_ild 2 (op_ild 3 (op_bin f_add (op_ald 0 (op_gfr 10 0 (op_ild 1 (op_ild 3 (op_bin f_add (op_ial (op_ias (op_inc 3 1 (op_jmp 2))))))))))))))))
set_option maxRecDepth 100000 in
theorem S_B_X11_copyRow_2 (g0 : vG) : Snd yX11_copyRow cX11_copyRow 4 none 0 0 0 g0 2 B_X11_copyRow_2 := s_ildn (j := 3) (pc' := 3) (by decide +kernel) rfl rfl (s_bip (n := 110) (pc' := 5) (by decide +kernel) (by decide +kernel) rfl (s_icge (off := 25) (pt := 30) (pc' := 8) (by decide +kernel) (by decide) rfl (s_kil s_jmp) (s_aldn (j := 0) (pc' := 9) (by decide +kernel) rfl rfl (s_gfr (ci := 10) (j := 0) (pc' := 12) rfl g_ok11 (by decide) (by decide) (by decide) rfl w_823 (by decide +kernel) rfl (s_ildn (j := 2) (pc' := 13) (by decide +kernel) rfl rfl (s_ildn (j := 3) (pc' := 14) (by decide +kernel) rfl rfl (s_add (pc' := 15) (by decide +kernel) rfl (s_aldn (j := 0) (pc' := 16) (by decide +kernel) rfl rfl (s_gfr (ci := 10) (j := 0) (pc' := 19) rfl g_ok11 (by decide) (by decide) (by decide) rfl w_823 (by decide +kernel) rfl (s_ildn (j := 1) (pc' := 20) (by decide +kernel) rfl rfl (s_ildn (j := 3) (pc' := 21) (by decide +kernel) rfl rfl (s_add (pc' := 22) (by decide +kernel) rfl (s_ial (pc' := 23) (by decide +kernel) rfl (s_ias (pc' := 24) (by decide +kernel) rfl (s_inc (n := 1) (pc' := 27) (by decide +kernel) (by decide +kernel) (by decide) rfl (s_goto (off := (-25)) (pt := 2) (by decide +kernel) (by decide) (s_jmp)))))))))))))))))
def K_X11_copyRow_30 : vD := op_vret
set_option maxRecDepth 100000 in
theorem S_K_X11_copyRow_30 (g0 : vG) : Snd yX11_copyRow cX11_copyRow 4 none 0 0 0 g0 30 K_X11_copyRow_30 := s_vret (by decide +kernel) rfl rfl rfl
def D_X11_copyRow : vD := op_con 0 (op_ist 3 (op_seq 30 (op_loop 2 B_X11_copyRow_2 4000) K_X11_copyRow_30))
set_option maxRecDepth 100000 in
theorem S_D_X11_copyRow (g0 : vG) : Snd yX11_copyRow cX11_copyRow 4 none 0 0 0 g0 0 D_X11_copyRow := s_con (n := 0) (pc' := 1) (by decide +kernel) (by decide +kernel) rfl (s_istn (j := 3) (pc' := 2) (by decide +kernel) rfl (by decide) rfl (s_seq (s_loop (S_B_X11_copyRow_2 g0) 4000) (S_K_X11_copyRow_30 g0)))
def F_X11_copyRow : vF := runD D_X11_copyRow 4
theorem C_X11_copyRow : Ctr yX11_copyRow cX11_copyRow 4 none 0 0 0 F_X11_copyRow := ctr_of (d := fun _ => D_X11_copyRow) (by decide +kernel) S_D_X11_copyRow
theorem A_X11_copyRow : CaV yX11_copyRow cX11_copyRow 4 none 2 := ⟨w_1097, w_57, w_77, w_1098, by unfold Nm; decide +kernel⟩
def D_X11_draw : vD := op_ald 0 (op_gfi 10 3 (op_i2l (op_lcon 1103515245 (op_lbin f_lmul (op_lcon 12345 (op_lbin f_ladd (op_lcon 2147483648 (op_ldiv f_lrem (op_lst 2 (op_ald 0 (op_lld 2 (op_l2i (op_pfi 10 3 (op_ald 0 (op_gfi 10 3 (op_con 65536 (op_div f_div (op_ild 1 (op_div f_rem (op_ret))))))))))))))))))))
set_option maxRecDepth 100000 in
theorem S_D_X11_draw (g0 : vG) : Snd yX11_draw cX11_draw 4 (some .int) 0 0 0 g0 0 D_X11_draw := s_aldn (j := 0) (pc' := 1) (by decide +kernel) rfl rfl (s_gfi (ci := 10) (j := 3) (pc' := 4) rfl g_ok11 (by decide) (by decide) (by decide) rfl w_826 (by decide +kernel) rfl (s_i2l (pc' := 5) (by decide +kernel) rfl (s_lcon (pc' := 8) (by decide +kernel) w_1192 rfl (s_lmul (pc' := 9) (by decide +kernel) rfl (s_lcon (pc' := 12) (by decide +kernel) w_1193 rfl (s_ladd (pc' := 13) (by decide +kernel) rfl (s_lcon (pc' := 16) (by decide +kernel) w_1194 rfl (s_lrem (pc' := 17) (by decide +kernel) rfl (s_lstn (j := 2) (pc' := 18) (by decide +kernel) rfl (by decide) rfl (s_aldn (j := 0) (pc' := 19) (by decide +kernel) rfl rfl (s_lldn (j := 2) (pc' := 20) (by decide +kernel) rfl rfl (s_l2i (pc' := 21) (by decide +kernel) rfl (s_pfi (ci := 10) (j := 3) (pc' := 24) rfl g_ok11 tyX11 tyX11_ok nmX11 (by decide) (by decide) (by decide) rfl rfl rfl w_826 (by decide +kernel) rfl (s_aldn (j := 0) (pc' := 25) (by decide +kernel) rfl rfl (s_gfi (ci := 10) (j := 3) (pc' := 28) rfl g_ok11 (by decide) (by decide) (by decide) rfl w_826 (by decide +kernel) rfl (s_ldc (pc' := 30) (by decide +kernel) w_1195 rfl (s_div (pc' := 31) (by decide +kernel) rfl (s_ildn (j := 1) (pc' := 32) (by decide +kernel) rfl rfl (s_rem (pc' := 33) (by decide +kernel) rfl (s_iret (by decide +kernel) rfl rfl rfl))))))))))))))))))))
def F_X11_draw : vF := runD D_X11_draw 4
theorem C_X11_draw : Ctr yX11_draw cX11_draw 4 (some .int) 0 0 0 F_X11_draw := ctr_of (d := fun _ => D_X11_draw) (by decide +kernel) S_D_X11_draw
theorem A_X11_draw : CaV yX11_draw cX11_draw 4 (some .int) 1 := ⟨w_1190, w_63, w_77, w_1191, by unfold Nm; decide +kernel⟩
def K_X11_in_14 : vD := op_con 0 (op_kil [false, false, false] (op_jmp 15))
set_option maxRecDepth 100000 in
theorem S_K_X11_in_14 (g0 : vG) : Snd yX11_in cX11_in 3 (some .boolean) 0 0 0 g0 14 K_X11_in_14 := s_con (n := 0) (pc' := 15) (by decide +kernel) (by decide +kernel) rfl (s_kil s_jmp)
def K_X11_in_15 : vD := op_zret
set_option maxRecDepth 100000 in
theorem S_K_X11_in_15 (g0 : vG) : Snd yX11_in cX11_in 3 (some .boolean) 0 0 0 g0 15 K_X11_in_15 := s_zret (by decide +kernel) rfl nar_bool rfl rfl
def D_X11_in : vD := op_ild 0 (op_ild 1 (op_seq 15 (op_seq 14 (op_iclt (op_kil [false, false, false] (op_jmp 14)) (op_ild 0 (op_ild 2 (op_icgt (op_kil [false, false, false] (op_jmp 14)) (op_con 1 (op_kil [false, false, false] (op_jmp 15))))))) K_X11_in_14) K_X11_in_15))
set_option maxRecDepth 100000 in
theorem S_D_X11_in (g0 : vG) : Snd yX11_in cX11_in 3 (some .boolean) 0 0 0 g0 0 D_X11_in := s_ildn (j := 0) (pc' := 1) (by decide +kernel) rfl rfl (s_ildn (j := 1) (pc' := 2) (by decide +kernel) rfl rfl (s_seq (s_seq (s_iclt (off := 12) (pt := 14) (pc' := 5) (by decide +kernel) (by decide) rfl (s_kil s_jmp) (s_ildn (j := 0) (pc' := 6) (by decide +kernel) rfl rfl (s_ildn (j := 2) (pc' := 7) (by decide +kernel) rfl rfl (s_icgt (off := 7) (pt := 14) (pc' := 10) (by decide +kernel) (by decide) rfl (s_kil s_jmp) (s_con (n := 1) (pc' := 11) (by decide +kernel) (by decide +kernel) rfl (s_goto (off := 4) (pt := 15) (by decide +kernel) (by decide) (s_kil s_jmp))))))) (S_K_X11_in_14 g0)) (S_K_X11_in_15 g0)))
def F_X11_in : vF := runD D_X11_in 3
theorem C_X11_in : Ctr yX11_in cX11_in 3 (some .boolean) 0 0 0 F_X11_in := ctr_of (d := fun _ => D_X11_in) (by decide +kernel) S_D_X11_in
theorem A_X11_in : CaS yX11_in cX11_in 3 (some .boolean) 3 := ⟨w_1003, w_77, w_1004, by unfold Nm; decide +kernel⟩
def K_X11_lessAbove_22 : vD := op_bin f_sub (op_ias (op_vret))
set_option maxRecDepth 100000 in
theorem S_K_X11_lessAbove_22 (g0 : vG) : Snd yX11_lessAbove cX11_lessAbove 3 none 0 0 0 g0 22 K_X11_lessAbove_22 := s_sub (pc' := 23) (by decide +kernel) rfl (s_ias (pc' := 24) (by decide +kernel) rfl (s_vret (by decide +kernel) rfl rfl rfl))
def D_X11_lessAbove : vD := op_ald 0 (op_gfr 10 0 (op_ild 1 (op_dup2 (op_ial (op_ald 0 (op_gfr 10 0 (op_ild 1 (op_ial (op_ild 2 (op_seq 22 (op_icle (op_con 0 (op_kil [false, false, false] (op_jmp 22))) (op_con 1 (op_kil [false, false, false] (op_jmp 22)))) K_X11_lessAbove_22))))))))))
set_option maxRecDepth 100000 in
theorem S_D_X11_lessAbove (g0 : vG) : Snd yX11_lessAbove cX11_lessAbove 3 none 0 0 0 g0 0 D_X11_lessAbove := s_aldn (j := 0) (pc' := 1) (by decide +kernel) rfl rfl (s_gfr (ci := 10) (j := 0) (pc' := 4) rfl g_ok11 (by decide) (by decide) (by decide) rfl w_823 (by decide +kernel) rfl (s_ildn (j := 1) (pc' := 5) (by decide +kernel) rfl rfl (s_dup2 (pc' := 6) (by decide +kernel) rfl (s_ial (pc' := 7) (by decide +kernel) rfl (s_aldn (j := 0) (pc' := 8) (by decide +kernel) rfl rfl (s_gfr (ci := 10) (j := 0) (pc' := 11) rfl g_ok11 (by decide) (by decide) (by decide) rfl w_823 (by decide +kernel) rfl (s_ildn (j := 1) (pc' := 12) (by decide +kernel) rfl rfl (s_ial (pc' := 13) (by decide +kernel) rfl (s_ildn (j := 2) (pc' := 14) (by decide +kernel) rfl rfl (s_seq (s_icle (off := 7) (pt := 21) (pc' := 17) (by decide +kernel) (by decide) rfl (s_con (n := 0) (pc' := 22) (by decide +kernel) (by decide +kernel) rfl (s_kil s_jmp)) (s_con (n := 1) (pc' := 18) (by decide +kernel) (by decide +kernel) rfl (s_goto (off := 4) (pt := 22) (by decide +kernel) (by decide) (s_kil s_jmp)))) (S_K_X11_lessAbove_22 g0)))))))))))
def F_X11_lessAbove : vF := runD D_X11_lessAbove 3
theorem C_X11_lessAbove : Ctr yX11_lessAbove cX11_lessAbove 3 none 0 0 0 F_X11_lessAbove := ctr_of (d := fun _ => D_X11_lessAbove) (by decide +kernel) S_D_X11_lessAbove
theorem A_X11_lessAbove : CaV yX11_lessAbove cX11_lessAbove 3 none 2 := ⟨w_1161, w_62, w_77, w_1162, by unfold Nm; decide +kernel⟩
def B_X11_ones_4 : vD := op_ild 2 (op_ifle (op_kil [false, true, false] (op_jmp 21)) (op_ild 1 (op_ild 2 (op_con 2 (op_div f_rem (op_bin f_add (op_ist 1 (op_ild 2 (op_con 2 (op_div f_div (op_ist 2 (op_kil [false, true, true] (op_jmp 4)))))))))))))
set_option maxRecDepth 100000 in
theorem S_B_X11_ones_4 (g0 : vG) : Snd yX11_ones cX11_ones 3 (some .int) 0 0 0 g0 4 B_X11_ones_4 := s_ildn (j := 2) (pc' := 5) (by decide +kernel) rfl rfl (s_ifle (off := 16) (pt := 21) (pc' := 8) (by decide +kernel) (by decide) rfl (s_kil s_jmp) (s_ildn (j := 1) (pc' := 9) (by decide +kernel) rfl rfl (s_ildn (j := 2) (pc' := 10) (by decide +kernel) rfl rfl (s_con (n := 2) (pc' := 11) (by decide +kernel) (by decide +kernel) rfl (s_rem (pc' := 12) (by decide +kernel) rfl (s_add (pc' := 13) (by decide +kernel) rfl (s_istn (j := 1) (pc' := 14) (by decide +kernel) rfl (by decide) rfl (s_ildn (j := 2) (pc' := 15) (by decide +kernel) rfl rfl (s_con (n := 2) (pc' := 16) (by decide +kernel) (by decide +kernel) rfl (s_div (pc' := 17) (by decide +kernel) rfl (s_istn (j := 2) (pc' := 18) (by decide +kernel) rfl (by decide) rfl (s_goto (off := (-14)) (pt := 4) (by decide +kernel) (by decide) (s_kil s_jmp)))))))))))))
def K_X11_ones_21 : vD := op_ild 1 (op_ret)
set_option maxRecDepth 100000 in
theorem S_K_X11_ones_21 (g0 : vG) : Snd yX11_ones cX11_ones 3 (some .int) 0 0 0 g0 21 K_X11_ones_21 := s_ildn (j := 1) (pc' := 22) (by decide +kernel) rfl rfl (s_iret (by decide +kernel) rfl rfl rfl)
def D_X11_ones : vD := op_con 0 (op_ist 1 (op_ild 0 (op_ist 2 (op_seq 21 (op_kil [false, true, true] (op_loop 4 B_X11_ones_4 4000)) K_X11_ones_21))))
set_option maxRecDepth 100000 in
theorem S_D_X11_ones (g0 : vG) : Snd yX11_ones cX11_ones 3 (some .int) 0 0 0 g0 0 D_X11_ones := s_con (n := 0) (pc' := 1) (by decide +kernel) (by decide +kernel) rfl (s_istn (j := 1) (pc' := 2) (by decide +kernel) rfl (by decide) rfl (s_ildn (j := 0) (pc' := 3) (by decide +kernel) rfl rfl (s_istn (j := 2) (pc' := 4) (by decide +kernel) rfl (by decide) rfl (s_seq (s_kil (s_loop (S_B_X11_ones_4 g0) 4000)) (S_K_X11_ones_21 g0)))))
def F_X11_ones : vF := runD D_X11_ones 3
theorem C_X11_ones : Ctr yX11_ones cX11_ones 3 (some .int) 0 0 0 F_X11_ones := ctr_of (d := fun _ => D_X11_ones) (by decide +kernel) S_D_X11_ones
theorem A_X11_ones : CaS yX11_ones cX11_ones 3 (some .int) 1 := ⟨w_980, w_77, w_981, by unfold Nm; decide +kernel⟩
def D_X11_paragraphOf : vD := op_con 52 (op_con 7 (op_ild 0 (op_bin f_mul (op_bin f_add (op_ret)))))
set_option maxRecDepth 100000 in
theorem S_D_X11_paragraphOf (g0 : vG) : Snd yX11_paragraphOf cX11_paragraphOf 1 (some .int) 0 0 0 g0 0 D_X11_paragraphOf := s_bip (n := 52) (pc' := 2) (by decide +kernel) (by decide +kernel) rfl (s_bip (n := 7) (pc' := 4) (by decide +kernel) (by decide +kernel) rfl (s_ildn (j := 0) (pc' := 5) (by decide +kernel) rfl rfl (s_mul (pc' := 6) (by decide +kernel) rfl (s_add (pc' := 7) (by decide +kernel) rfl (s_iret (by decide +kernel) rfl rfl rfl)))))
def F_X11_paragraphOf : vF := runD D_X11_paragraphOf 1
theorem C_X11_paragraphOf : Ctr yX11_paragraphOf cX11_paragraphOf 1 (some .int) 0 0 0 F_X11_paragraphOf := ctr_of (d := fun _ => D_X11_paragraphOf) (by decide +kernel) S_D_X11_paragraphOf
theorem A_X11_paragraphOf : CaS yX11_paragraphOf cX11_paragraphOf 1 (some .int) 1 := ⟨w_905, w_77, w_906, by unfold Nm; decide +kernel⟩
def K_X11_putBehind_21 : vD := op_ald 0 (op_gfr 10 13 (op_con 9 (op_ild 1 (op_bin f_mul (op_ial (op_jmp 35))))))
set_option maxRecDepth 100000 in
theorem S_K_X11_putBehind_21 (g0 : vG) : Snd yX11_putBehind cX11_putBehind 8 (some .int) 0 0 0 g0 21 K_X11_putBehind_21 := s_aldn (j := 0) (pc' := 22) (by decide +kernel) rfl rfl (s_gfr (ci := 10) (j := 13) (pc' := 25) rfl g_ok11 (by decide) (by decide) (by decide) rfl w_836 (by decide +kernel) rfl (s_bip (n := 9) (pc' := 27) (by decide +kernel) (by decide +kernel) rfl (s_ildn (j := 1) (pc' := 28) (by decide +kernel) rfl rfl (s_mul (pc' := 29) (by decide +kernel) rfl (s_ial (pc' := 30) (by decide +kernel) rfl (s_goto (off := 5) (pt := 35) (by decide +kernel) (by decide) (s_jmp)))))))
def K_X11_putBehind_78 : vD := op_con 1 (op_kil [true, true, true, true, true, true, false, false] (op_jmp 83))
set_option maxRecDepth 100000 in
theorem S_K_X11_putBehind_78 (g0 : vG) : Snd yX11_putBehind cX11_putBehind 8 (some .int) 0 0 0 g0 78 K_X11_putBehind_78 := s_con (n := 1) (pc' := 79) (by decide +kernel) (by decide +kernel) rfl (s_goto (off := 4) (pt := 83) (by decide +kernel) (by decide) (s_kil s_jmp))
def K_X11_putBehind_82 : vD := op_con 0 (op_kil [true, true, true, true, true, true, false, false] (op_jmp 83))
set_option maxRecDepth 100000 in
theorem S_K_X11_putBehind_82 (g0 : vG) : Snd yX11_putBehind cX11_putBehind 8 (some .int) 0 0 0 g0 82 K_X11_putBehind_82 := s_con (n := 0) (pc' := 83) (by decide +kernel) (by decide +kernel) rfl (s_kil s_jmp)
def K_X11_putBehind_118 : vD := op_ild 4 (op_kil [true, true, true, true, false, true, false, false] (op_jmp 120))
set_option maxRecDepth 100000 in
theorem S_K_X11_putBehind_118 (g0 : vG) : Snd yX11_putBehind cX11_putBehind 8 (some .int) 0 0 0 g0 118 K_X11_putBehind_118 := s_ild (pc' := 120) (by decide +kernel) rfl (s_kil s_jmp)
def K_X11_putBehind_120 : vD := op_ist 4 (op_inc 5 1 (op_kil [true, true, true, true, true, true, false, false] (op_jmp 40)))
set_option maxRecDepth 100000 in
theorem S_K_X11_putBehind_120 (g0 : vG) : Snd yX11_putBehind cX11_putBehind 8 (some .int) 0 0 0 g0 120 K_X11_putBehind_120 := s_ist (pc' := 122) (by decide +kernel) (by decide) rfl (s_inc (n := 1) (pc' := 125) (by decide +kernel) (by decide +kernel) (by decide) rfl (s_goto (off := (-85)) (pt := 40) (by decide +kernel) (by decide) (s_kil s_jmp)))
def K_X11_putBehind_83 : vD := op_ist 6 (op_ald 0 (op_gfr 10 13 (op_con 9 (op_ild 1 (op_bin f_mul (op_ild 5 (op_bin f_add (op_con 1 (op_bin f_add (op_ial (op_ist 7 (op_ild 6 (op_seq 120 (op_seq 118 (op_ifeq (op_kil [true, true, true, true, true, true, false, false] (op_jmp 118)) (op_ild 7 (op_ild 4 (op_icge (op_kil [true, true, true, true, true, true, false, false] (op_jmp 118)) (op_ild 7 (op_kil [true, true, true, true, false, true, false, false] (op_jmp 120))))))) K_X11_putBehind_118) K_X11_putBehind_120)))))))))))))
set_option maxRecDepth 100000 in
theorem S_K_X11_putBehind_83 (g0 : vG) : Snd yX11_putBehind cX11_putBehind 8 (some .int) 0 0 0 g0 83 K_X11_putBehind_83 := s_ist (pc' := 85) (by decide +kernel) (by decide) rfl (s_aldn (j := 0) (pc' := 86) (by decide +kernel) rfl rfl (s_gfr (ci := 10) (j := 13) (pc' := 89) rfl g_ok11 (by decide) (by decide) (by decide) rfl w_836 (by decide +kernel) rfl (s_bip (n := 9) (pc' := 91) (by decide +kernel) (by decide +kernel) rfl (s_ildn (j := 1) (pc' := 92) (by decide +kernel) rfl rfl (s_mul (pc' := 93) (by decide +kernel) rfl (s_ild (pc' := 95) (by decide +kernel) rfl (s_add (pc' := 96) (by decide +kernel) rfl (s_con (n := 1) (pc' := 97) (by decide +kernel) (by decide +kernel) rfl (s_add (pc' := 98) (by decide +kernel) rfl (s_ial (pc' := 99) (by decide +kernel) rfl (s_ist (pc' := 101) (by decide +kernel) (by decide) rfl (s_ild (pc' := 103) (by decide +kernel) rfl (s_seq (s_seq (s_ifeq (off := 15) (pt := 118) (pc' := 106) (by decide +kernel) (by decide) rfl (s_kil s_jmp) (s_ild (pc' := 108) (by decide +kernel) rfl (s_ild (pc' := 110) (by decide +kernel) rfl (s_icge (off := 8) (pt := 118) (pc' := 113) (by decide +kernel) (by decide) rfl (s_kil s_jmp) (s_ild (pc' := 115) (by decide +kernel) rfl (s_goto (off := 5) (pt := 120) (by decide +kernel) (by decide) (s_kil s_jmp))))))) (S_K_X11_putBehind_118 g0)) (S_K_X11_putBehind_120 g0))))))))))))))
def B_X11_putBehind_40 : vD := op_ild 5 (op_ild 3 (op_icge (op_kil [false, false, false, false, true, false, false, false] (op_jmp 128)) (op_ild 2 (op_ild 5 (op_bin f_shr (op_con 1 (op_bin f_and (op_con 1 (op_seq 83 (op_seq 82 (op_icne (op_kil [true, true, true, true, true, true, false, false] (op_jmp 82)) (op_ald 0 (op_gfr 10 15 (op_ild 1 (op_ial (op_con (-2) (op_seq 78 (op_iceq (op_kil [true, true, true, true, true, true, false, false] (op_jmp 78)) (op_ald 0 (op_gfr 10 15 (op_ild 1 (op_ial (op_ild 5 (op_icne (op_kil [true, true, true, true, true, true, false, false] (op_jmp 82)) (op_kil [true, true, true, true, true, true, false, false] (op_jmp 78))))))))) K_X11_putBehind_78))))))) K_X11_putBehind_82) K_X11_putBehind_83)))))))))
set_option maxRecDepth 100000 in
theorem S_B_X11_putBehind_40 (g0 : vG) : Snd yX11_putBehind cX11_putBehind 8 (some .int) 0 0 0 g0 40 B_X11_putBehind_40 := s_ild (pc' := 42) (by decide +kernel) rfl (s_ildn (j := 3) (pc' := 43) (by decide +kernel) rfl rfl (s_icge (off := 85) (pt := 128) (pc' := 46) (by decide +kernel) (by decide) rfl (s_kil s_jmp) (s_ildn (j := 2) (pc' := 47) (by decide +kernel) rfl rfl (s_ild (pc' := 49) (by decide +kernel) rfl (s_shr (pc' := 50) (by decide +kernel) rfl (s_con (n := 1) (pc' := 51) (by decide +kernel) (by decide +kernel) rfl (s_and (pc' := 52) (by decide +kernel) rfl (s_con (n := 1) (pc' := 53) (by decide +kernel) (by decide +kernel) rfl (s_seq (s_seq (s_icne (off := 29) (pt := 82) (pc' := 56) (by decide +kernel) (by decide) rfl (s_kil s_jmp) (s_aldn (j := 0) (pc' := 57) (by decide +kernel) rfl rfl (s_gfr (ci := 10) (j := 15) (pc' := 60) rfl g_ok11 (by decide) (by decide) (by decide) rfl w_838 (by decide +kernel) rfl (s_ildn (j := 1) (pc' := 61) (by decide +kernel) rfl rfl (s_ial (pc' := 62) (by decide +kernel) rfl (s_bip (n := (-2)) (pc' := 64) (by decide +kernel) (by decide +kernel) rfl (s_seq (s_iceq (off := 14) (pt := 78) (pc' := 67) (by decide +kernel) (by decide) rfl (s_kil s_jmp) (s_aldn (j := 0) (pc' := 68) (by decide +kernel) rfl rfl (s_gfr (ci := 10) (j := 15) (pc' := 71) rfl g_ok11 (by decide) (by decide) (by decide) rfl w_838 (by decide +kernel) rfl (s_ildn (j := 1) (pc' := 72) (by decide +kernel) rfl rfl (s_ial (pc' := 73) (by decide +kernel) rfl (s_ild (pc' := 75) (by decide +kernel) rfl (s_icne (off := 7) (pt := 82) (pc' := 78) (by decide +kernel) (by decide) rfl (s_kil s_jmp) (s_kil s_jmp)))))))) (S_K_X11_putBehind_78 g0)))))))) (S_K_X11_putBehind_82 g0)) (S_K_X11_putBehind_83 g0))))))))))
def K_X11_putBehind_128 : vD := op_ild 4 (op_ret)
set_option maxRecDepth 100000 in
theorem S_K_X11_putBehind_128 (g0 : vG) : Snd yX11_putBehind cX11_putBehind 8 (some .int) 0 0 0 g0 128 K_X11_putBehind_128 := s_ild (pc' := 130) (by decide +kernel) rfl (s_iret (by decide +kernel) rfl rfl rfl)
def K_X11_putBehind_35 : vD := op_ist 4 (op_con 0 (op_ist 5 (op_seq 128 (op_kil [true, true, true, true, true, true, false, false] (op_loop 40 B_X11_putBehind_40 4000)) K_X11_putBehind_128)))
set_option maxRecDepth 100000 in
theorem S_K_X11_putBehind_35 (g0 : vG) : Snd yX11_putBehind cX11_putBehind 8 (some .int) 0 0 0 g0 35 K_X11_putBehind_35 := s_ist (pc' := 37) (by decide +kernel) (by decide) rfl (s_con (n := 0) (pc' := 38) (by decide +kernel) (by decide +kernel) rfl (s_ist (pc' := 40) (by decide +kernel) (by decide) rfl (s_seq (s_kil (s_loop (S_B_X11_putBehind_40 g0) 4000)) (S_K_X11_putBehind_128 g0))))
def D_X11_putBehind : vD := op_ald 0 (op_gfr 10 15 (op_ild 1 (op_ial (op_con (-2) (op_seq 35 (op_seq 21 (op_iceq (op_jmp 21) (op_ald 0 (op_gfr 10 15 (op_ild 1 (op_ial (op_con (-1) (op_icne (op_con 1000000 (op_jmp 35)) (op_jmp 21)))))))) K_X11_putBehind_21) K_X11_putBehind_35)))))
set_option maxRecDepth 100000 in
theorem S_D_X11_putBehind (g0 : vG) : Snd yX11_putBehind cX11_putBehind 8 (some .int) 0 0 0 g0 0 D_X11_putBehind := s_aldn (j := 0) (pc' := 1) (by decide +kernel) rfl rfl (s_gfr (ci := 10) (j := 15) (pc' := 4) rfl g_ok11 (by decide) (by decide) (by decide) rfl w_838 (by decide +kernel) rfl (s_ildn (j := 1) (pc' := 5) (by decide +kernel) rfl rfl (s_ial (pc' := 6) (by decide +kernel) rfl (s_bip (n := (-2)) (pc' := 8) (by decide +kernel) (by decide +kernel) rfl (s_seq (s_seq (s_iceq (off := 13) (pt := 21) (pc' := 11) (by decide +kernel) (by decide) rfl (s_jmp) (s_aldn (j := 0) (pc' := 12) (by decide +kernel) rfl rfl (s_gfr (ci := 10) (j := 15) (pc' := 15) rfl g_ok11 (by decide) (by decide) (by decide) rfl w_838 (by decide +kernel) rfl (s_ildn (j := 1) (pc' := 16) (by decide +kernel) rfl rfl (s_ial (pc' := 17) (by decide +kernel) rfl (s_con (n := (-1)) (pc' := 18) (by decide +kernel) (by decide +kernel) rfl (s_icne (off := 15) (pt := 33) (pc' := 21) (by decide +kernel) (by decide) rfl (s_ldc (pc' := 35) (by decide +kernel) w_966 rfl (s_jmp)) (s_jmp)))))))) (S_K_X11_putBehind_21 g0)) (S_K_X11_putBehind_35 g0))))))
def F_X11_putBehind : vF := runD D_X11_putBehind 8
theorem C_X11_putBehind : Ctr yX11_putBehind cX11_putBehind 8 (some .int) 0 0 0 F_X11_putBehind := ctr_of (d := fun _ => D_X11_putBehind) (by decide +kernel) S_D_X11_putBehind
theorem A_X11_putBehind : CaV yX11_putBehind cX11_putBehind 8 (some .int) 3 := ⟨w_969, w_36, w_77, w_970, by unfold Nm; decide +kernel⟩
def D_X11_seed : vD := op_ild 1 (op_ifge (op_ald 0 (op_gfi 10 3 (op_ist 2 (op_ald 0 (op_ild 1 (op_pfi 10 3 (op_ild 2 (op_ret)))))))) (op_con (-1000000002) (op_ret)))
set_option maxRecDepth 100000 in
theorem S_D_X11_seed (g0 : vG) : Snd yX11_seed cX11_seed 3 (some .int) 0 0 0 g0 0 D_X11_seed := s_ildn (j := 1) (pc' := 1) (by decide +kernel) rfl rfl (s_ifge (off := 6) (pt := 7) (pc' := 4) (by decide +kernel) (by decide) rfl (s_aldn (j := 0) (pc' := 8) (by decide +kernel) rfl rfl (s_gfi (ci := 10) (j := 3) (pc' := 11) rfl g_ok11 (by decide) (by decide) (by decide) rfl w_826 (by decide +kernel) rfl (s_istn (j := 2) (pc' := 12) (by decide +kernel) rfl (by decide) rfl (s_aldn (j := 0) (pc' := 13) (by decide +kernel) rfl rfl (s_ildn (j := 1) (pc' := 14) (by decide +kernel) rfl rfl (s_pfi (ci := 10) (j := 3) (pc' := 17) rfl g_ok11 tyX11 tyX11_ok nmX11 (by decide) (by decide) (by decide) rfl rfl rfl w_826 (by decide +kernel) rfl (s_ildn (j := 2) (pc' := 18) (by decide +kernel) rfl rfl (s_iret (by decide +kernel) rfl rfl rfl)))))))) (s_ldc (pc' := 6) (by decide +kernel) w_1005 rfl (s_iret (by decide +kernel) rfl rfl rfl)))
def F_X11_seed : vF := runD D_X11_seed 3
theorem C_X11_seed : Ctr yX11_seed cX11_seed 3 (some .int) 0 0 0 F_X11_seed := ctr_of (d := fun _ => D_X11_seed) (by decide +kernel) S_D_X11_seed
theorem A_X11_seed : CaV yX11_seed cX11_seed 3 (some .int) 1 := ⟨w_1213, w_1214, w_77, w_1215, by unfold Nm; decide +kernel⟩
def D_X11_styleOf : vD := op_con 10 (op_con 7 (op_ild 0 (op_bin f_mul (op_bin f_add (op_ret)))))
set_option maxRecDepth 100000 in
theorem S_D_X11_styleOf (g0 : vG) : Snd yX11_styleOf cX11_styleOf 1 (some .int) 0 0 0 g0 0 D_X11_styleOf := s_bip (n := 10) (pc' := 2) (by decide +kernel) (by decide +kernel) rfl (s_bip (n := 7) (pc' := 4) (by decide +kernel) (by decide +kernel) rfl (s_ildn (j := 0) (pc' := 5) (by decide +kernel) rfl rfl (s_mul (pc' := 6) (by decide +kernel) rfl (s_add (pc' := 7) (by decide +kernel) rfl (s_iret (by decide +kernel) rfl rfl rfl)))))
def F_X11_styleOf : vF := runD D_X11_styleOf 1
theorem C_X11_styleOf : Ctr yX11_styleOf cX11_styleOf 1 (some .int) 0 0 0 F_X11_styleOf := ctr_of (d := fun _ => D_X11_styleOf) (by decide +kernel) S_D_X11_styleOf
theorem A_X11_styleOf : CaS yX11_styleOf cX11_styleOf 1 (some .int) 1 := ⟨w_891, w_77, w_892, by unfold Nm; decide +kernel⟩
def D_X11_tear : vD := op_ald 0 (op_gfi 10 8 (op_ist 1 (op_ald 0 (op_con 0 (op_pfi 10 8 (op_ild 1 (op_ret)))))))
set_option maxRecDepth 100000 in
theorem S_D_X11_tear (g0 : vG) : Snd yX11_tear cX11_tear 2 (some .int) 0 0 0 g0 0 D_X11_tear := s_aldn (j := 0) (pc' := 1) (by decide +kernel) rfl rfl (s_gfi (ci := 10) (j := 8) (pc' := 4) rfl g_ok11 (by decide) (by decide) (by decide) rfl w_831 (by decide +kernel) rfl (s_istn (j := 1) (pc' := 5) (by decide +kernel) rfl (by decide) rfl (s_aldn (j := 0) (pc' := 6) (by decide +kernel) rfl rfl (s_con (n := 0) (pc' := 7) (by decide +kernel) (by decide +kernel) rfl (s_pfi (ci := 10) (j := 8) (pc' := 10) rfl g_ok11 tyX11 tyX11_ok nmX11 (by decide) (by decide) (by decide) rfl rfl rfl w_831 (by decide +kernel) rfl (s_ildn (j := 1) (pc' := 11) (by decide +kernel) rfl rfl (s_iret (by decide +kernel) rfl rfl rfl)))))))
def F_X11_tear : vF := runD D_X11_tear 2
theorem C_X11_tear : Ctr yX11_tear cX11_tear 2 (some .int) 0 0 0 F_X11_tear := ctr_of (d := fun _ => D_X11_tear) (by decide +kernel) S_D_X11_tear
theorem A_X11_tear : CaV yX11_tear cX11_tear 2 (some .int) 0 := ⟨w_1209, w_1210, w_77, w_1211, by unfold Nm; decide +kernel⟩
def K_X11_tellAnew_83 : vD := op_ias (op_inc 5 1 (op_kil [true, true, true, true, true, true, false, false] (op_jmp 10)))
set_option maxRecDepth 100000 in
theorem S_K_X11_tellAnew_83 (g0 : vG) : Snd yX11_tellAnew cX11_tellAnew 8 none 0 0 0 g0 83 K_X11_tellAnew_83 := s_ias (pc' := 84) (by decide +kernel) rfl (s_inc (n := 1) (pc' := 87) (by decide +kernel) (by decide +kernel) (by decide) rfl (s_goto (off := (-77)) (pt := 10) (by decide +kernel) (by decide) (s_kil s_jmp)))
def K_X11_tellAnew_58 : vD := op_ist 7 (op_ald 0 (op_gfr 10 0 (op_ild 1 (op_con 1 (op_bin f_add (op_ild 5 (op_bin f_add (op_ild 6 (op_ild 7 (op_seq 83 (op_icne (op_ild 6 (op_kil [true, true, true, true, true, true, false, false] (op_jmp 83))) (op_con (-1) (op_kil [true, true, true, true, true, true, false, false] (op_jmp 83)))) K_X11_tellAnew_83))))))))))
set_option maxRecDepth 100000 in
theorem S_K_X11_tellAnew_58 (g0 : vG) : Snd yX11_tellAnew cX11_tellAnew 8 none 0 0 0 g0 58 K_X11_tellAnew_58 := s_ist (pc' := 60) (by decide +kernel) (by decide) rfl (s_aldn (j := 0) (pc' := 61) (by decide +kernel) rfl rfl (s_gfr (ci := 10) (j := 0) (pc' := 64) rfl g_ok11 (by decide) (by decide) (by decide) rfl w_823 (by decide +kernel) rfl (s_ildn (j := 1) (pc' := 65) (by decide +kernel) rfl rfl (s_con (n := 1) (pc' := 66) (by decide +kernel) (by decide +kernel) rfl (s_add (pc' := 67) (by decide +kernel) rfl (s_ild (pc' := 69) (by decide +kernel) rfl (s_add (pc' := 70) (by decide +kernel) rfl (s_ild (pc' := 72) (by decide +kernel) rfl (s_ild (pc' := 74) (by decide +kernel) rfl (s_seq (s_icne (off := 7) (pt := 81) (pc' := 77) (by decide +kernel) (by decide) rfl (s_ild (pc' := 83) (by decide +kernel) rfl (s_kil s_jmp)) (s_con (n := (-1)) (pc' := 78) (by decide +kernel) (by decide +kernel) rfl (s_goto (off := 5) (pt := 83) (by decide +kernel) (by decide) (s_kil s_jmp)))) (S_K_X11_tellAnew_83 g0)))))))))))
def B_X11_tellAnew_10 : vD := op_ild 5 (op_con 6 (op_icge (op_kil [false, false, false, false, false, false, false, false] (op_jmp 90)) (op_ald 3 (op_con 6 (op_ild 4 (op_bin f_mul (op_ild 5 (op_bin f_add (op_ial (op_ist 6 (op_ild 2 (op_con (-1) (op_seq 58 (op_icne (op_ald 0 (op_gfr 10 9 (op_con 6 (op_ild 2 (op_bin f_mul (op_ild 5 (op_bin f_add (op_ial (op_kil [true, true, true, true, true, true, true, false] (op_jmp 58)))))))))) (op_ald 0 (op_gfr 10 0 (op_con 3 (op_ild 5 (op_bin f_add (op_ial (op_kil [true, true, true, true, true, true, true, false] (op_jmp 58))))))))) K_X11_tellAnew_58)))))))))))))
set_option maxRecDepth 100000 in
theorem S_B_X11_tellAnew_10 (g0 : vG) : Snd yX11_tellAnew cX11_tellAnew 8 none 0 0 0 g0 10 B_X11_tellAnew_10 := s_ild (pc' := 12) (by decide +kernel) rfl (s_bip (n := 6) (pc' := 14) (by decide +kernel) (by decide +kernel) rfl (s_icge (off := 76) (pt := 90) (pc' := 17) (by decide +kernel) (by decide) rfl (s_kil s_jmp) (s_aldn (j := 3) (pc' := 18) (by decide +kernel) rfl rfl (s_bip (n := 6) (pc' := 20) (by decide +kernel) (by decide +kernel) rfl (s_ild (pc' := 22) (by decide +kernel) rfl (s_mul (pc' := 23) (by decide +kernel) rfl (s_ild (pc' := 25) (by decide +kernel) rfl (s_add (pc' := 26) (by decide +kernel) rfl (s_ial (pc' := 27) (by decide +kernel) rfl (s_ist (pc' := 29) (by decide +kernel) (by decide) rfl (s_ildn (j := 2) (pc' := 30) (by decide +kernel) rfl rfl (s_con (n := (-1)) (pc' := 31) (by decide +kernel) (by decide +kernel) rfl (s_seq (s_icne (off := 15) (pt := 46) (pc' := 34) (by decide +kernel) (by decide) rfl (s_aldn (j := 0) (pc' := 47) (by decide +kernel) rfl rfl (s_gfr (ci := 10) (j := 9) (pc' := 50) rfl g_ok11 (by decide) (by decide) (by decide) rfl w_832 (by decide +kernel) rfl (s_bip (n := 6) (pc' := 52) (by decide +kernel) (by decide +kernel) rfl (s_ildn (j := 2) (pc' := 53) (by decide +kernel) rfl rfl (s_mul (pc' := 54) (by decide +kernel) rfl (s_ild (pc' := 56) (by decide +kernel) rfl (s_add (pc' := 57) (by decide +kernel) rfl (s_ial (pc' := 58) (by decide +kernel) rfl (s_kil s_jmp))))))))) (s_aldn (j := 0) (pc' := 35) (by decide +kernel) rfl rfl (s_gfr (ci := 10) (j := 0) (pc' := 38) rfl g_ok11 (by decide) (by decide) (by decide) rfl w_823 (by decide +kernel) rfl (s_con (n := 3) (pc' := 39) (by decide +kernel) (by decide +kernel) rfl (s_ild (pc' := 41) (by decide +kernel) rfl (s_add (pc' := 42) (by decide +kernel) rfl (s_ial (pc' := 43) (by decide +kernel) rfl (s_goto (off := 15) (pt := 58) (by decide +kernel) (by decide) (s_kil s_jmp))))))))) (S_K_X11_tellAnew_58 g0))))))))))))))
def K_X11_tellAnew_90 : vD := op_vret
set_option maxRecDepth 100000 in
theorem S_K_X11_tellAnew_90 (g0 : vG) : Snd yX11_tellAnew cX11_tellAnew 8 none 0 0 0 g0 90 K_X11_tellAnew_90 := s_vret (by decide +kernel) rfl rfl rfl
def D_X11_tellAnew : vD := op_ald 0 (op_gfr 10 0 (op_ild 1 (op_ild 2 (op_ias (op_con 0 (op_ist 5 (op_seq 90 (op_kil [true, true, true, true, true, true, false, false] (op_loop 10 B_X11_tellAnew_10 4000)) K_X11_tellAnew_90)))))))
set_option maxRecDepth 100000 in
theorem S_D_X11_tellAnew (g0 : vG) : Snd yX11_tellAnew cX11_tellAnew 8 none 0 0 0 g0 0 D_X11_tellAnew := s_aldn (j := 0) (pc' := 1) (by decide +kernel) rfl rfl (s_gfr (ci := 10) (j := 0) (pc' := 4) rfl g_ok11 (by decide) (by decide) (by decide) rfl w_823 (by decide +kernel) rfl (s_ildn (j := 1) (pc' := 5) (by decide +kernel) rfl rfl (s_ildn (j := 2) (pc' := 6) (by decide +kernel) rfl rfl (s_ias (pc' := 7) (by decide +kernel) rfl (s_con (n := 0) (pc' := 8) (by decide +kernel) (by decide +kernel) rfl (s_ist (pc' := 10) (by decide +kernel) (by decide) rfl (s_seq (s_kil (s_loop (S_B_X11_tellAnew_10 g0) 4000)) (S_K_X11_tellAnew_90 g0))))))))
def F_X11_tellAnew : vF := runD D_X11_tellAnew 8
theorem C_X11_tellAnew : Ctr yX11_tellAnew cX11_tellAnew 8 none 0 0 0 F_X11_tellAnew := ctr_of (d := fun _ => D_X11_tellAnew) (by decide +kernel) S_D_X11_tellAnew
theorem A_X11_tellAnew : CaV yX11_tellAnew cX11_tellAnew 8 none 4 := ⟨w_1149, w_61, w_77, w_1150, by unfold Nm; decide +kernel⟩
def K_X11_toldAt_32 : vD := op_bin f_or (op_ist 2 (op_inc 3 1 (op_jmp 4)))
set_option maxRecDepth 100000 in
theorem S_K_X11_toldAt_32 (g0 : vG) : Snd yX11_toldAt cX11_toldAt 4 (some .int) 0 0 0 g0 32 K_X11_toldAt_32 := s_or (pc' := 33) (by decide +kernel) rfl (s_istn (j := 2) (pc' := 34) (by decide +kernel) rfl (by decide) rfl (s_inc (n := 1) (pc' := 37) (by decide +kernel) (by decide +kernel) (by decide) rfl (s_goto (off := (-33)) (pt := 4) (by decide +kernel) (by decide) (s_jmp))))
def B_X11_toldAt_4 : vD := op_ild 3 (op_con 6 (op_icge (op_kil [false, false, true, false] (op_jmp 40)) (op_ild 2 (op_ald 0 (op_gfr 10 0 (op_ild 1 (op_con 1 (op_bin f_add (op_ild 3 (op_bin f_add (op_ial (op_con (-1) (op_seq 32 (op_iceq (op_con 0 (op_kil [true, true, false, true] (op_jmp 32))) (op_con 1 (op_ild 3 (op_bin f_shl (op_kil [true, true, false, true] (op_jmp 32)))))) K_X11_toldAt_32)))))))))))))
set_option maxRecDepth 100000 in
theorem S_B_X11_toldAt_4 (g0 : vG) : Snd yX11_toldAt cX11_toldAt 4 (some .int) 0 0 0 g0 4 B_X11_toldAt_4 := s_ildn (j := 3) (pc' := 5) (by decide +kernel) rfl rfl (s_bip (n := 6) (pc' := 7) (by decide +kernel) (by decide +kernel) rfl (s_icge (off := 33) (pt := 40) (pc' := 10) (by decide +kernel) (by decide) rfl (s_kil s_jmp) (s_ildn (j := 2) (pc' := 11) (by decide +kernel) rfl rfl (s_aldn (j := 0) (pc' := 12) (by decide +kernel) rfl rfl (s_gfr (ci := 10) (j := 0) (pc' := 15) rfl g_ok11 (by decide) (by decide) (by decide) rfl w_823 (by decide +kernel) rfl (s_ildn (j := 1) (pc' := 16) (by decide +kernel) rfl rfl (s_con (n := 1) (pc' := 17) (by decide +kernel) (by decide +kernel) rfl (s_add (pc' := 18) (by decide +kernel) rfl (s_ildn (j := 3) (pc' := 19) (by decide +kernel) rfl rfl (s_add (pc' := 20) (by decide +kernel) rfl (s_ial (pc' := 21) (by decide +kernel) rfl (s_con (n := (-1)) (pc' := 22) (by decide +kernel) (by decide +kernel) rfl (s_seq (s_iceq (off := 9) (pt := 31) (pc' := 25) (by decide +kernel) (by decide) rfl (s_con (n := 0) (pc' := 32) (by decide +kernel) (by decide +kernel) rfl (s_kil s_jmp)) (s_con (n := 1) (pc' := 26) (by decide +kernel) (by decide +kernel) rfl (s_ildn (j := 3) (pc' := 27) (by decide +kernel) rfl rfl (s_shl (pc' := 28) (by decide +kernel) rfl (s_goto (off := 4) (pt := 32) (by decide +kernel) (by decide) (s_kil s_jmp)))))) (S_K_X11_toldAt_32 g0))))))))))))))
def K_X11_toldAt_40 : vD := op_ild 2 (op_ret)
set_option maxRecDepth 100000 in
theorem S_K_X11_toldAt_40 (g0 : vG) : Snd yX11_toldAt cX11_toldAt 4 (some .int) 0 0 0 g0 40 K_X11_toldAt_40 := s_ildn (j := 2) (pc' := 41) (by decide +kernel) rfl rfl (s_iret (by decide +kernel) rfl rfl rfl)
def D_X11_toldAt : vD := op_con 0 (op_ist 2 (op_con 0 (op_ist 3 (op_seq 40 (op_loop 4 B_X11_toldAt_4 4000) K_X11_toldAt_40))))
set_option maxRecDepth 100000 in
theorem S_D_X11_toldAt (g0 : vG) : Snd yX11_toldAt cX11_toldAt 4 (some .int) 0 0 0 g0 0 D_X11_toldAt := s_con (n := 0) (pc' := 1) (by decide +kernel) (by decide +kernel) rfl (s_istn (j := 2) (pc' := 2) (by decide +kernel) rfl (by decide) rfl (s_con (n := 0) (pc' := 3) (by decide +kernel) (by decide +kernel) rfl (s_istn (j := 3) (pc' := 4) (by decide +kernel) rfl (by decide) rfl (s_seq (s_loop (S_B_X11_toldAt_4 g0) 4000) (S_K_X11_toldAt_40 g0)))))
def F_X11_toldAt : vF := runD D_X11_toldAt 4
theorem C_X11_toldAt : Ctr yX11_toldAt cX11_toldAt 4 (some .int) 0 0 0 F_X11_toldAt := ctr_of (d := fun _ => D_X11_toldAt) (by decide +kernel) S_D_X11_toldAt
theorem A_X11_toldAt : CaV yX11_toldAt cX11_toldAt 4 (some .int) 1 := ⟨w_1040, w_48, w_77, w_1041, by unfold Nm; decide +kernel⟩
def B_X11_above_12 : vD := op_ild 3 (op_con (-1) (op_iceq (op_kil [false, false, true, false] (op_jmp 33)) (op_inc 2 1 (op_ald 0 (op_gfr 10 0 (op_ild 3 (op_cal 1 F_X11_styleOf (op_ial (op_ist 3 (op_kil [true, false, true, true] (op_jmp 12)))))))))))
set_option maxRecDepth 100000 in
theorem S_B_X11_above_12 (g0 : vG) : Snd yX11_above cX11_above 4 (some .int) 1 0 0 g0 12 B_X11_above_12 := s_ildn (j := 3) (pc' := 13) (by decide +kernel) rfl rfl (s_con (n := (-1)) (pc' := 14) (by decide +kernel) (by decide +kernel) rfl (s_iceq (off := 19) (pt := 33) (pc' := 17) (by decide +kernel) (by decide) rfl (s_kil s_jmp) (s_inc (n := 1) (pc' := 20) (by decide +kernel) (by decide +kernel) (by decide) rfl (s_aldn (j := 0) (pc' := 21) (by decide +kernel) rfl rfl (s_gfr (ci := 10) (j := 0) (pc' := 24) rfl g_ok11 (by decide) (by decide) (by decide) rfl w_823 (by decide +kernel) rfl (s_ildn (j := 3) (pc' := 25) (by decide +kernel) rfl rfl (s_calS (pc' := 28) C_X11_styleOf A_X11_styleOf w_890 (by decide) (by decide +kernel) rfl (s_ial (pc' := 29) (by decide +kernel) rfl (s_istn (j := 3) (pc' := 30) (by decide +kernel) rfl (by decide) rfl (s_goto (off := (-18)) (pt := 12) (by decide +kernel) (by decide) (s_kil s_jmp)))))))))))
def K_X11_above_33 : vD := op_ild 2 (op_ret)
set_option maxRecDepth 100000 in
theorem S_K_X11_above_33 (g0 : vG) : Snd yX11_above cX11_above 4 (some .int) 1 0 0 g0 33 K_X11_above_33 := s_ildn (j := 2) (pc' := 34) (by decide +kernel) rfl rfl (s_iret (by decide +kernel) rfl rfl rfl)
def D_X11_above : vD := op_con 0 (op_ist 2 (op_ald 0 (op_gfr 10 0 (op_ild 1 (op_cal 1 F_X11_styleOf (op_ial (op_ist 3 (op_seq 33 (op_kil [true, false, true, true] (op_loop 12 B_X11_above_12 4000)) K_X11_above_33))))))))
set_option maxRecDepth 100000 in
theorem S_D_X11_above (g0 : vG) : Snd yX11_above cX11_above 4 (some .int) 1 0 0 g0 0 D_X11_above := s_con (n := 0) (pc' := 1) (by decide +kernel) (by decide +kernel) rfl (s_istn (j := 2) (pc' := 2) (by decide +kernel) rfl (by decide) rfl (s_aldn (j := 0) (pc' := 3) (by decide +kernel) rfl rfl (s_gfr (ci := 10) (j := 0) (pc' := 6) rfl g_ok11 (by decide) (by decide) (by decide) rfl w_823 (by decide +kernel) rfl (s_ildn (j := 1) (pc' := 7) (by decide +kernel) rfl rfl (s_calS (pc' := 10) C_X11_styleOf A_X11_styleOf w_890 (by decide) (by decide +kernel) rfl (s_ial (pc' := 11) (by decide +kernel) rfl (s_istn (j := 3) (pc' := 12) (by decide +kernel) rfl (by decide) rfl (s_seq (s_kil (s_loop (S_B_X11_above_12 g0) 4000)) (S_K_X11_above_33 g0)))))))))
def F_X11_above : vF := runD D_X11_above 4
theorem C_X11_above : Ctr yX11_above cX11_above 4 (some .int) 1 0 0 F_X11_above := ctr_of (d := fun _ => D_X11_above) (by decide +kernel) S_D_X11_above
theorem A_X11_above : CaV yX11_above cX11_above 4 (some .int) 1 := ⟨w_1052, w_50, w_77, w_1053, by unfold Nm; decide +kernel⟩
def K_X11_bitsApart_74 : vD := op_bin f_add (op_ist 5 (op_inc 6 1 (op_kil [true, true, true, true, true, true, true, false, false] (op_jmp 6))))
set_option maxRecDepth 100000 in
theorem S_K_X11_bitsApart_74 (g0 : vG) : Snd yX11_bitsApart cX11_bitsApart 9 (some .int) 1 0 0 g0 74 K_X11_bitsApart_74 := s_add (pc' := 75) (by decide +kernel) rfl (s_ist (pc' := 77) (by decide +kernel) (by decide) rfl (s_inc (n := 1) (pc' := 80) (by decide +kernel) (by decide +kernel) (by decide) rfl (s_goto (off := (-74)) (pt := 6) (by decide +kernel) (by decide) (s_kil s_jmp))))
def K_X11_bitsApart_52 : vD := op_ist 8 (op_ild 5 (op_ild 7 (op_ild 8 (op_seq 74 (op_iceq (op_con 0 (op_kil [true, true, true, true, true, false, true, false, false] (op_jmp 74))) (op_ild 6 (op_ild 7 (op_cal 2 F_X11_bits (op_kil [true, true, true, true, true, false, true, false, false] (op_jmp 74)))))) K_X11_bitsApart_74))))
set_option maxRecDepth 100000 in
theorem S_K_X11_bitsApart_52 (g0 : vG) : Snd yX11_bitsApart cX11_bitsApart 9 (some .int) 1 0 0 g0 52 K_X11_bitsApart_52 := s_ist (pc' := 54) (by decide +kernel) (by decide) rfl (s_ild (pc' := 56) (by decide +kernel) rfl (s_ild (pc' := 58) (by decide +kernel) rfl (s_ild (pc' := 60) (by decide +kernel) rfl (s_seq (s_iceq (off := 13) (pt := 73) (pc' := 63) (by decide +kernel) (by decide) rfl (s_con (n := 0) (pc' := 74) (by decide +kernel) (by decide +kernel) rfl (s_kil s_jmp)) (s_ild (pc' := 65) (by decide +kernel) rfl (s_ild (pc' := 67) (by decide +kernel) rfl (s_calS (pc' := 70) C_X11_bits A_X11_bits w_897 (by decide) (by decide +kernel) rfl (s_goto (off := 4) (pt := 74) (by decide +kernel) (by decide) (s_kil s_jmp)))))) (S_K_X11_bitsApart_74 g0)))))
def B_X11_bitsApart_6 : vD := op_ild 6 (op_con 6 (op_icge (op_kil [false, false, false, false, false, true, false, false, false] (op_jmp 83)) (op_ald 1 (op_con 6 (op_ild 2 (op_bin f_mul (op_ild 6 (op_bin f_add (op_ial (op_ist 7 (op_ild 4 (op_con (-1) (op_seq 52 (op_icne (op_ald 3 (op_con 6 (op_ild 4 (op_bin f_mul (op_ild 6 (op_bin f_add (op_ial (op_kil [true, true, true, true, true, true, true, true, false] (op_jmp 52))))))))) (op_ald 0 (op_gfr 10 0 (op_con 3 (op_ild 6 (op_bin f_add (op_ial (op_kil [true, true, true, true, true, true, true, true, false] (op_jmp 52))))))))) K_X11_bitsApart_52)))))))))))))
set_option maxRecDepth 100000 in
theorem S_B_X11_bitsApart_6 (g0 : vG) : Snd yX11_bitsApart cX11_bitsApart 9 (some .int) 1 0 0 g0 6 B_X11_bitsApart_6 := s_ild (pc' := 8) (by decide +kernel) rfl (s_bip (n := 6) (pc' := 10) (by decide +kernel) (by decide +kernel) rfl (s_icge (off := 73) (pt := 83) (pc' := 13) (by decide +kernel) (by decide) rfl (s_kil s_jmp) (s_aldn (j := 1) (pc' := 14) (by decide +kernel) rfl rfl (s_bip (n := 6) (pc' := 16) (by decide +kernel) (by decide +kernel) rfl (s_ildn (j := 2) (pc' := 17) (by decide +kernel) rfl rfl (s_mul (pc' := 18) (by decide +kernel) rfl (s_ild (pc' := 20) (by decide +kernel) rfl (s_add (pc' := 21) (by decide +kernel) rfl (s_ial (pc' := 22) (by decide +kernel) rfl (s_ist (pc' := 24) (by decide +kernel) (by decide) rfl (s_ild (pc' := 26) (by decide +kernel) rfl (s_con (n := (-1)) (pc' := 27) (by decide +kernel) (by decide +kernel) rfl (s_seq (s_icne (off := 15) (pt := 42) (pc' := 30) (by decide +kernel) (by decide) rfl (s_aldn (j := 3) (pc' := 43) (by decide +kernel) rfl rfl (s_bip (n := 6) (pc' := 45) (by decide +kernel) (by decide +kernel) rfl (s_ild (pc' := 47) (by decide +kernel) rfl (s_mul (pc' := 48) (by decide +kernel) rfl (s_ild (pc' := 50) (by decide +kernel) rfl (s_add (pc' := 51) (by decide +kernel) rfl (s_ial (pc' := 52) (by decide +kernel) rfl (s_kil s_jmp)))))))) (s_aldn (j := 0) (pc' := 31) (by decide +kernel) rfl rfl (s_gfr (ci := 10) (j := 0) (pc' := 34) rfl g_ok11 (by decide) (by decide) (by decide) rfl w_823 (by decide +kernel) rfl (s_con (n := 3) (pc' := 35) (by decide +kernel) (by decide +kernel) rfl (s_ild (pc' := 37) (by decide +kernel) rfl (s_add (pc' := 38) (by decide +kernel) rfl (s_ial (pc' := 39) (by decide +kernel) rfl (s_goto (off := 13) (pt := 52) (by decide +kernel) (by decide) (s_kil s_jmp))))))))) (S_K_X11_bitsApart_52 g0))))))))))))))
def K_X11_bitsApart_83 : vD := op_ild 5 (op_ret)
set_option maxRecDepth 100000 in
theorem S_K_X11_bitsApart_83 (g0 : vG) : Snd yX11_bitsApart cX11_bitsApart 9 (some .int) 1 0 0 g0 83 K_X11_bitsApart_83 := s_ild (pc' := 85) (by decide +kernel) rfl (s_iret (by decide +kernel) rfl rfl rfl)
def D_X11_bitsApart : vD := op_con 0 (op_ist 5 (op_con 0 (op_ist 6 (op_seq 83 (op_kil [true, true, true, true, true, true, true, false, false] (op_loop 6 B_X11_bitsApart_6 4000)) K_X11_bitsApart_83))))
set_option maxRecDepth 100000 in
theorem S_D_X11_bitsApart (g0 : vG) : Snd yX11_bitsApart cX11_bitsApart 9 (some .int) 1 0 0 g0 0 D_X11_bitsApart := s_con (n := 0) (pc' := 1) (by decide +kernel) (by decide +kernel) rfl (s_ist (pc' := 3) (by decide +kernel) (by decide) rfl (s_con (n := 0) (pc' := 4) (by decide +kernel) (by decide +kernel) rfl (s_ist (pc' := 6) (by decide +kernel) (by decide) rfl (s_seq (s_kil (s_loop (S_B_X11_bitsApart_6 g0) 4000)) (S_K_X11_bitsApart_83 g0)))))
def F_X11_bitsApart : vF := runD D_X11_bitsApart 9
theorem C_X11_bitsApart : Ctr yX11_bitsApart cX11_bitsApart 9 (some .int) 1 0 0 F_X11_bitsApart := ctr_of (d := fun _ => D_X11_bitsApart) (by decide +kernel) S_D_X11_bitsApart
theorem A_X11_bitsApart : CaV yX11_bitsApart cX11_bitsApart 9 (some .int) 4 := ⟨w_960, w_34, w_77, w_961, by unfold Nm; decide +kernel⟩
def K_X11_bitsAt_39 : vD := op_bin f_add (op_ist 2 (op_inc 3 1 (op_kil [true, true, true, true, false] (op_jmp 4))))
set_option maxRecDepth 100000 in
theorem S_K_X11_bitsAt_39 (g0 : vG) : Snd yX11_bitsAt cX11_bitsAt 5 (some .int) 1 0 0 g0 39 K_X11_bitsAt_39 := s_add (pc' := 40) (by decide +kernel) rfl (s_istn (j := 2) (pc' := 41) (by decide +kernel) rfl (by decide) rfl (s_inc (n := 1) (pc' := 44) (by decide +kernel) (by decide +kernel) (by decide) rfl (s_goto (off := (-40)) (pt := 4) (by decide +kernel) (by decide) (s_kil s_jmp))))
def B_X11_bitsAt_4 : vD := op_ild 3 (op_con 6 (op_icge (op_kil [false, false, true, false, false] (op_jmp 47)) (op_ald 0 (op_gfr 10 0 (op_ild 1 (op_con 1 (op_bin f_add (op_ild 3 (op_bin f_add (op_ial (op_ist 4 (op_ild 2 (op_ild 4 (op_con (-1) (op_seq 39 (op_icne (op_ild 3 (op_ild 4 (op_cal 2 F_X11_bits (op_kil [true, true, false, true, false] (op_jmp 39))))) (op_con 0 (op_kil [true, true, false, true, false] (op_jmp 39)))) K_X11_bitsAt_39)))))))))))))))
set_option maxRecDepth 100000 in
theorem S_B_X11_bitsAt_4 (g0 : vG) : Snd yX11_bitsAt cX11_bitsAt 5 (some .int) 1 0 0 g0 4 B_X11_bitsAt_4 := s_ildn (j := 3) (pc' := 5) (by decide +kernel) rfl rfl (s_bip (n := 6) (pc' := 7) (by decide +kernel) (by decide +kernel) rfl (s_icge (off := 40) (pt := 47) (pc' := 10) (by decide +kernel) (by decide) rfl (s_kil s_jmp) (s_aldn (j := 0) (pc' := 11) (by decide +kernel) rfl rfl (s_gfr (ci := 10) (j := 0) (pc' := 14) rfl g_ok11 (by decide) (by decide) (by decide) rfl w_823 (by decide +kernel) rfl (s_ildn (j := 1) (pc' := 15) (by decide +kernel) rfl rfl (s_con (n := 1) (pc' := 16) (by decide +kernel) (by decide +kernel) rfl (s_add (pc' := 17) (by decide +kernel) rfl (s_ildn (j := 3) (pc' := 18) (by decide +kernel) rfl rfl (s_add (pc' := 19) (by decide +kernel) rfl (s_ial (pc' := 20) (by decide +kernel) rfl (s_ist (pc' := 22) (by decide +kernel) (by decide) rfl (s_ildn (j := 2) (pc' := 23) (by decide +kernel) rfl rfl (s_ild (pc' := 25) (by decide +kernel) rfl (s_con (n := (-1)) (pc' := 26) (by decide +kernel) (by decide +kernel) rfl (s_seq (s_icne (off := 7) (pt := 33) (pc' := 29) (by decide +kernel) (by decide) rfl (s_ildn (j := 3) (pc' := 34) (by decide +kernel) rfl rfl (s_ild (pc' := 36) (by decide +kernel) rfl (s_calS (pc' := 39) C_X11_bits A_X11_bits w_897 (by decide) (by decide +kernel) rfl (s_kil s_jmp)))) (s_con (n := 0) (pc' := 30) (by decide +kernel) (by decide +kernel) rfl (s_goto (off := 9) (pt := 39) (by decide +kernel) (by decide) (s_kil s_jmp)))) (S_K_X11_bitsAt_39 g0))))))))))))))))
def K_X11_bitsAt_47 : vD := op_ild 2 (op_ret)
set_option maxRecDepth 100000 in
theorem S_K_X11_bitsAt_47 (g0 : vG) : Snd yX11_bitsAt cX11_bitsAt 5 (some .int) 1 0 0 g0 47 K_X11_bitsAt_47 := s_ildn (j := 2) (pc' := 48) (by decide +kernel) rfl rfl (s_iret (by decide +kernel) rfl rfl rfl)
def D_X11_bitsAt : vD := op_con 0 (op_ist 2 (op_con 0 (op_ist 3 (op_seq 47 (op_kil [true, true, true, true, false] (op_loop 4 B_X11_bitsAt_4 4000)) K_X11_bitsAt_47))))
set_option maxRecDepth 100000 in
theorem S_D_X11_bitsAt (g0 : vG) : Snd yX11_bitsAt cX11_bitsAt 5 (some .int) 1 0 0 g0 0 D_X11_bitsAt := s_con (n := 0) (pc' := 1) (by decide +kernel) (by decide +kernel) rfl (s_istn (j := 2) (pc' := 2) (by decide +kernel) rfl (by decide) rfl (s_con (n := 0) (pc' := 3) (by decide +kernel) (by decide +kernel) rfl (s_istn (j := 3) (pc' := 4) (by decide +kernel) rfl (by decide) rfl (s_seq (s_kil (s_loop (S_B_X11_bitsAt_4 g0) 4000)) (S_K_X11_bitsAt_47 g0)))))
def F_X11_bitsAt : vF := runD D_X11_bitsAt 5
theorem C_X11_bitsAt : Ctr yX11_bitsAt cX11_bitsAt 5 (some .int) 1 0 0 F_X11_bitsAt := ctr_of (d := fun _ => D_X11_bitsAt) (by decide +kernel) S_D_X11_bitsAt
theorem A_X11_bitsAt : CaV yX11_bitsAt cX11_bitsAt 5 (some .int) 1 := ⟨w_895, w_20, w_77, w_896, by unfold Nm; decide +kernel⟩
def K_X11_children_35 : vD := op_bin f_or (op_ist 2 (op_inc 3 1 (op_jmp 4)))
set_option maxRecDepth 100000 in
theorem S_K_X11_children_35 (g0 : vG) : Snd yX11_children cX11_children 4 (some .int) 1 0 0 g0 35 K_X11_children_35 := s_or (pc' := 36) (by decide +kernel) rfl (s_istn (j := 2) (pc' := 37) (by decide +kernel) rfl (by decide) rfl (s_inc (n := 1) (pc' := 40) (by decide +kernel) (by decide +kernel) (by decide) rfl (s_goto (off := (-36)) (pt := 4) (by decide +kernel) (by decide) (s_jmp))))
def B_X11_children_4 : vD := op_ild 3 (op_ald 0 (op_gfr 10 0 (op_con 1 (op_ial (op_icge (op_kil [false, false, true, false] (op_jmp 43)) (op_ild 2 (op_ald 0 (op_gfr 10 0 (op_ild 3 (op_cal 1 F_X11_styleOf (op_ial (op_ild 1 (op_seq 35 (op_icne (op_con 0 (op_kil [true, true, false, true] (op_jmp 35))) (op_con 1 (op_ild 3 (op_bin f_shl (op_kil [true, true, false, true] (op_jmp 35)))))) K_X11_children_35)))))))))))))
set_option maxRecDepth 100000 in
theorem S_B_X11_children_4 (g0 : vG) : Snd yX11_children cX11_children 4 (some .int) 1 0 0 g0 4 B_X11_children_4 := s_ildn (j := 3) (pc' := 5) (by decide +kernel) rfl rfl (s_aldn (j := 0) (pc' := 6) (by decide +kernel) rfl rfl (s_gfr (ci := 10) (j := 0) (pc' := 9) rfl g_ok11 (by decide) (by decide) (by decide) rfl w_823 (by decide +kernel) rfl (s_con (n := 1) (pc' := 10) (by decide +kernel) (by decide +kernel) rfl (s_ial (pc' := 11) (by decide +kernel) rfl (s_icge (off := 32) (pt := 43) (pc' := 14) (by decide +kernel) (by decide) rfl (s_kil s_jmp) (s_ildn (j := 2) (pc' := 15) (by decide +kernel) rfl rfl (s_aldn (j := 0) (pc' := 16) (by decide +kernel) rfl rfl (s_gfr (ci := 10) (j := 0) (pc' := 19) rfl g_ok11 (by decide) (by decide) (by decide) rfl w_823 (by decide +kernel) rfl (s_ildn (j := 3) (pc' := 20) (by decide +kernel) rfl rfl (s_calS (pc' := 23) C_X11_styleOf A_X11_styleOf w_890 (by decide) (by decide +kernel) rfl (s_ial (pc' := 24) (by decide +kernel) rfl (s_ildn (j := 1) (pc' := 25) (by decide +kernel) rfl rfl (s_seq (s_icne (off := 9) (pt := 34) (pc' := 28) (by decide +kernel) (by decide) rfl (s_con (n := 0) (pc' := 35) (by decide +kernel) (by decide +kernel) rfl (s_kil s_jmp)) (s_con (n := 1) (pc' := 29) (by decide +kernel) (by decide +kernel) rfl (s_ildn (j := 3) (pc' := 30) (by decide +kernel) rfl rfl (s_shl (pc' := 31) (by decide +kernel) rfl (s_goto (off := 4) (pt := 35) (by decide +kernel) (by decide) (s_kil s_jmp)))))) (S_K_X11_children_35 g0))))))))))))))
def K_X11_children_43 : vD := op_ild 2 (op_ret)
set_option maxRecDepth 100000 in
theorem S_K_X11_children_43 (g0 : vG) : Snd yX11_children cX11_children 4 (some .int) 1 0 0 g0 43 K_X11_children_43 := s_ildn (j := 2) (pc' := 44) (by decide +kernel) rfl rfl (s_iret (by decide +kernel) rfl rfl rfl)
def D_X11_children : vD := op_con 0 (op_ist 2 (op_con 0 (op_ist 3 (op_seq 43 (op_loop 4 B_X11_children_4 4000) K_X11_children_43))))
set_option maxRecDepth 100000 in
theorem S_D_X11_children (g0 : vG) : Snd yX11_children cX11_children 4 (some .int) 1 0 0 g0 0 D_X11_children := s_con (n := 0) (pc' := 1) (by decide +kernel) (by decide +kernel) rfl (s_istn (j := 2) (pc' := 2) (by decide +kernel) rfl (by decide) rfl (s_con (n := 0) (pc' := 3) (by decide +kernel) (by decide +kernel) rfl (s_istn (j := 3) (pc' := 4) (by decide +kernel) rfl (by decide) rfl (s_seq (s_loop (S_B_X11_children_4 g0) 4000) (S_K_X11_children_43 g0)))))
def F_X11_children : vF := runD D_X11_children 4
theorem C_X11_children : Ctr yX11_children cX11_children 4 (some .int) 1 0 0 F_X11_children := ctr_of (d := fun _ => D_X11_children) (by decide +kernel) S_D_X11_children
theorem A_X11_children : CaV yX11_children cX11_children 4 (some .int) 1 := ⟨w_1060, w_52, w_77, w_1061, by unfold Nm; decide +kernel⟩
def K_X11_drawValue_35 : vD := op_ret
set_option maxRecDepth 100000 in
theorem S_K_X11_drawValue_35 (g0 : vG) : Snd yX11_drawValue cX11_drawValue 2 (some .int) 1 0 0 g0 35 K_X11_drawValue_35 := s_iret (by decide +kernel) rfl rfl rfl
def D_X11_drawValue : vD := op_ild 1 (op_con 2 (op_seq 35 (op_icge (op_ild 1 (op_con 4 (op_icge (op_con 2 (op_ald 0 (op_con 3 (op_calV 10 1 F_X11_draw (op_bin f_mul (op_kil [false, false] (op_jmp 35))))))) (op_con 5 (op_ald 0 (op_con 3 (op_calV 10 1 F_X11_draw (op_bin f_mul (op_kil [false, false] (op_jmp 35)))))))))) (op_ald 0 (op_con 2 (op_calV 10 1 F_X11_draw (op_kil [false, false] (op_jmp 35)))))) K_X11_drawValue_35))
set_option maxRecDepth 100000 in
theorem S_D_X11_drawValue (g0 : vG) : Snd yX11_drawValue cX11_drawValue 2 (some .int) 1 0 0 g0 0 D_X11_drawValue := s_ildn (j := 1) (pc' := 1) (by decide +kernel) rfl rfl (s_con (n := 2) (pc' := 2) (by decide +kernel) (by decide +kernel) rfl (s_seq (s_icge (off := 11) (pt := 13) (pc' := 5) (by decide +kernel) (by decide) rfl (s_ildn (j := 1) (pc' := 14) (by decide +kernel) rfl rfl (s_con (n := 4) (pc' := 15) (by decide +kernel) (by decide +kernel) rfl (s_icge (off := 13) (pt := 28) (pc' := 18) (by decide +kernel) (by decide) rfl (s_con (n := 2) (pc' := 29) (by decide +kernel) (by decide +kernel) rfl (s_aldn (j := 0) (pc' := 30) (by decide +kernel) rfl rfl (s_con (n := 3) (pc' := 31) (by decide +kernel) (by decide +kernel) rfl (s_calV (ci := 10) (pc' := 34) C_X11_draw A_X11_draw rfl (by decide) w_1188 (by decide) (by decide +kernel) rfl (s_mul (pc' := 35) (by decide +kernel) rfl (s_kil s_jmp)))))) (s_con (n := 5) (pc' := 19) (by decide +kernel) (by decide +kernel) rfl (s_aldn (j := 0) (pc' := 20) (by decide +kernel) rfl rfl (s_con (n := 3) (pc' := 21) (by decide +kernel) (by decide +kernel) rfl (s_calV (ci := 10) (pc' := 24) C_X11_draw A_X11_draw rfl (by decide) w_1188 (by decide) (by decide +kernel) rfl (s_mul (pc' := 25) (by decide +kernel) rfl (s_goto (off := 10) (pt := 35) (by decide +kernel) (by decide) (s_kil s_jmp)))))))))) (s_aldn (j := 0) (pc' := 6) (by decide +kernel) rfl rfl (s_con (n := 2) (pc' := 7) (by decide +kernel) (by decide +kernel) rfl (s_calV (ci := 10) (pc' := 10) C_X11_draw A_X11_draw rfl (by decide) w_1188 (by decide) (by decide +kernel) rfl (s_goto (off := 25) (pt := 35) (by decide +kernel) (by decide) (s_kil s_jmp)))))) (S_K_X11_drawValue_35 g0)))
def F_X11_drawValue : vF := runD D_X11_drawValue 2
theorem C_X11_drawValue : Ctr yX11_drawValue cX11_drawValue 2 (some .int) 1 0 0 F_X11_drawValue := ctr_of (d := fun _ => D_X11_drawValue) (by decide +kernel) S_D_X11_drawValue
theorem A_X11_drawValue : CaV yX11_drawValue cX11_drawValue 2 (some .int) 1 := ⟨w_1198, w_64, w_77, w_1199, by unfold Nm; decide +kernel⟩
def D_X11_goBack : vD := op_ild 1 (op_con 0 (op_con 1 (op_cal 3 F_X11_in (op_ifne (op_ald 0 (op_gfi 10 2 (op_ild 1 (op_bin f_shr (op_con 1 (op_bin f_and (op_ifne (op_ald 0 (op_con 1870 (op_con 110 (op_ild 1 (op_bin f_mul (op_bin f_add (op_con 0 (op_calV 10 2 F_X11_copyRow (op_ald 0 (op_ald 0 (op_gfr 10 4 (op_ild 1 (op_ial (op_pfi 10 3 (op_ald 0 (op_con 0 (op_pfi 10 1 (op_con 1 (op_ret))))))))))))))))))) (op_con (-1000000003) (op_ret))))))))) (op_con (-1000000001) (op_ret))))))
set_option maxRecDepth 100000 in
theorem S_D_X11_goBack (g0 : vG) : Snd yX11_goBack cX11_goBack 2 (some .int) 1 0 0 g0 0 D_X11_goBack := s_ildn (j := 1) (pc' := 1) (by decide +kernel) rfl rfl (s_con (n := 0) (pc' := 2) (by decide +kernel) (by decide +kernel) rfl (s_con (n := 1) (pc' := 3) (by decide +kernel) (by decide +kernel) rfl (s_calS (pc' := 6) C_X11_in A_X11_in w_1002 (by decide) (by decide +kernel) rfl (s_ifne (off := 6) (pt := 12) (pc' := 9) (by decide +kernel) (by decide) rfl (s_aldn (j := 0) (pc' := 13) (by decide +kernel) rfl rfl (s_gfi (ci := 10) (j := 2) (pc' := 16) rfl g_ok11 (by decide) (by decide) (by decide) rfl w_825 (by decide +kernel) rfl (s_ildn (j := 1) (pc' := 17) (by decide +kernel) rfl rfl (s_shr (pc' := 18) (by decide +kernel) rfl (s_con (n := 1) (pc' := 19) (by decide +kernel) (by decide +kernel) rfl (s_and (pc' := 20) (by decide +kernel) rfl (s_ifne (off := 6) (pt := 26) (pc' := 23) (by decide +kernel) (by decide) rfl (s_aldn (j := 0) (pc' := 27) (by decide +kernel) rfl rfl (s_sip (n := 1870) (pc' := 30) (by decide +kernel) (by decide +kernel) rfl (s_bip (n := 110) (pc' := 32) (by decide +kernel) (by decide +kernel) rfl (s_ildn (j := 1) (pc' := 33) (by decide +kernel) rfl rfl (s_mul (pc' := 34) (by decide +kernel) rfl (s_add (pc' := 35) (by decide +kernel) rfl (s_con (n := 0) (pc' := 36) (by decide +kernel) (by decide +kernel) rfl (s_calV (ci := 10) (pc' := 39) C_X11_copyRow A_X11_copyRow rfl (by decide) w_1095 (by decide) (by decide +kernel) rfl (s_aldn (j := 0) (pc' := 40) (by decide +kernel) rfl rfl (s_aldn (j := 0) (pc' := 41) (by decide +kernel) rfl rfl (s_gfr (ci := 10) (j := 4) (pc' := 44) rfl g_ok11 (by decide) (by decide) (by decide) rfl w_827 (by decide +kernel) rfl (s_ildn (j := 1) (pc' := 45) (by decide +kernel) rfl rfl (s_ial (pc' := 46) (by decide +kernel) rfl (s_pfi (ci := 10) (j := 3) (pc' := 49) rfl g_ok11 tyX11 tyX11_ok nmX11 (by decide) (by decide) (by decide) rfl rfl rfl w_826 (by decide +kernel) rfl (s_aldn (j := 0) (pc' := 50) (by decide +kernel) rfl rfl (s_con (n := 0) (pc' := 51) (by decide +kernel) (by decide +kernel) rfl (s_pfi (ci := 10) (j := 1) (pc' := 54) rfl g_ok11 tyX11 tyX11_ok nmX11 (by decide) (by decide) (by decide) rfl rfl rfl w_824 (by decide +kernel) rfl (s_con (n := 1) (pc' := 55) (by decide +kernel) (by decide +kernel) rfl (s_iret (by decide +kernel) rfl rfl rfl))))))))))))))))))) (s_ldc (pc' := 25) (by decide +kernel) w_1142 rfl (s_iret (by decide +kernel) rfl rfl rfl))))))))) (s_ldc (pc' := 11) (by decide +kernel) w_1013 rfl (s_iret (by decide +kernel) rfl rfl rfl))))))
def F_X11_goBack : vF := runD D_X11_goBack 2
theorem C_X11_goBack : Ctr yX11_goBack cX11_goBack 2 (some .int) 1 0 0 F_X11_goBack := ctr_of (d := fun _ => D_X11_goBack) (by decide +kernel) S_D_X11_goBack
theorem A_X11_goBack : CaV yX11_goBack cX11_goBack 2 (some .int) 1 := ⟨w_1221, w_1222, w_77, w_1223, by unfold Nm; decide +kernel⟩
def K_X11_grown_84 : vD := op_ist 4 (op_kil [true, true, true, true, true, true, false, false] (op_jmp 86))
set_option maxRecDepth 100000 in
theorem S_K_X11_grown_84 (g0 : vG) : Snd yX11_grown cX11_grown 8 (some .int) 1 0 0 g0 84 K_X11_grown_84 := s_ist (pc' := 86) (by decide +kernel) (by decide) rfl (s_kil s_jmp)
def K_X11_grown_86 : vD := op_inc 5 1 (op_kil [true, true, true, true, true, true, false, false] (op_jmp 27))
set_option maxRecDepth 100000 in
theorem S_K_X11_grown_86 (g0 : vG) : Snd yX11_grown cX11_grown 8 (some .int) 1 0 0 g0 86 K_X11_grown_86 := s_inc (n := 1) (pc' := 89) (by decide +kernel) (by decide +kernel) (by decide) rfl (s_goto (off := (-62)) (pt := 27) (by decide +kernel) (by decide) (s_kil s_jmp))
def B_X11_grown_27 : vD := op_ild 5 (op_ild 1 (op_icge (op_kil [true, true, true, true, true, false, false, false] (op_jmp 92)) (op_ild 3 (op_ild 5 (op_bin f_shr (op_con 1 (op_bin f_and (op_con 1 (op_seq 86 (op_icne (op_kil [true, true, true, true, true, true, false, false] (op_jmp 86)) (op_ild 3 (op_con 1 (op_ild 5 (op_bin f_shl (op_bin f_sub (op_ist 6 (op_ald 0 (op_gfr 10 14 (op_ild 6 (op_ial (op_ald 0 (op_ild 5 (op_ild 6 (op_ild 1 (op_calV 10 3 F_X11_putBehind (op_bin f_add (op_ist 7 (op_ild 7 (op_ild 4 (op_seq 84 (op_icge (op_ild 4 (op_kil [true, true, true, true, false, true, false, false] (op_jmp 84))) (op_ild 7 (op_kil [true, true, true, true, false, true, false, false] (op_jmp 84)))) K_X11_grown_84))))))))))))))))))))) K_X11_grown_86)))))))))
set_option maxRecDepth 100000 in
theorem S_B_X11_grown_27 (g0 : vG) : Snd yX11_grown cX11_grown 8 (some .int) 1 0 0 g0 27 B_X11_grown_27 := s_ild (pc' := 29) (by decide +kernel) rfl (s_ildn (j := 1) (pc' := 30) (by decide +kernel) rfl rfl (s_icge (off := 62) (pt := 92) (pc' := 33) (by decide +kernel) (by decide) rfl (s_kil s_jmp) (s_ildn (j := 3) (pc' := 34) (by decide +kernel) rfl rfl (s_ild (pc' := 36) (by decide +kernel) rfl (s_shr (pc' := 37) (by decide +kernel) rfl (s_con (n := 1) (pc' := 38) (by decide +kernel) (by decide +kernel) rfl (s_and (pc' := 39) (by decide +kernel) rfl (s_con (n := 1) (pc' := 40) (by decide +kernel) (by decide +kernel) rfl (s_seq (s_icne (off := 46) (pt := 86) (pc' := 43) (by decide +kernel) (by decide) rfl (s_kil s_jmp) (s_ildn (j := 3) (pc' := 44) (by decide +kernel) rfl rfl (s_con (n := 1) (pc' := 45) (by decide +kernel) (by decide +kernel) rfl (s_ild (pc' := 47) (by decide +kernel) rfl (s_shl (pc' := 48) (by decide +kernel) rfl (s_sub (pc' := 49) (by decide +kernel) rfl (s_ist (pc' := 51) (by decide +kernel) (by decide) rfl (s_aldn (j := 0) (pc' := 52) (by decide +kernel) rfl rfl (s_gfr (ci := 10) (j := 14) (pc' := 55) rfl g_ok11 (by decide) (by decide) (by decide) rfl w_837 (by decide +kernel) rfl (s_ild (pc' := 57) (by decide +kernel) rfl (s_ial (pc' := 58) (by decide +kernel) rfl (s_aldn (j := 0) (pc' := 59) (by decide +kernel) rfl rfl (s_ild (pc' := 61) (by decide +kernel) rfl (s_ild (pc' := 63) (by decide +kernel) rfl (s_ildn (j := 1) (pc' := 64) (by decide +kernel) rfl rfl (s_calV (ci := 10) (pc' := 67) C_X11_putBehind A_X11_putBehind rfl (by decide) w_967 (by decide) (by decide +kernel) rfl (s_add (pc' := 68) (by decide +kernel) rfl (s_ist (pc' := 70) (by decide +kernel) (by decide) rfl (s_ild (pc' := 72) (by decide +kernel) rfl (s_ild (pc' := 74) (by decide +kernel) rfl (s_seq (s_icge (off := 8) (pt := 82) (pc' := 77) (by decide +kernel) (by decide) rfl (s_ild (pc' := 84) (by decide +kernel) rfl (s_kil s_jmp)) (s_ild (pc' := 79) (by decide +kernel) rfl (s_goto (off := 5) (pt := 84) (by decide +kernel) (by decide) (s_kil s_jmp)))) (S_K_X11_grown_84 g0)))))))))))))))))))))) (S_K_X11_grown_86 g0))))))))))
def K_X11_grown_92 : vD := op_ald 0 (op_gfr 10 14 (op_ild 3 (op_ild 4 (op_ias (op_inc 3 1 (op_kil [true, true, true, true, false, false, false, false] (op_jmp 15)))))))
set_option maxRecDepth 100000 in
theorem S_K_X11_grown_92 (g0 : vG) : Snd yX11_grown cX11_grown 8 (some .int) 1 0 0 g0 92 K_X11_grown_92 := s_aldn (j := 0) (pc' := 93) (by decide +kernel) rfl rfl (s_gfr (ci := 10) (j := 14) (pc' := 96) rfl g_ok11 (by decide) (by decide) (by decide) rfl w_837 (by decide +kernel) rfl (s_ildn (j := 3) (pc' := 97) (by decide +kernel) rfl rfl (s_ild (pc' := 99) (by decide +kernel) rfl (s_ias (pc' := 100) (by decide +kernel) rfl (s_inc (n := 1) (pc' := 103) (by decide +kernel) (by decide +kernel) (by decide) rfl (s_goto (off := (-88)) (pt := 15) (by decide +kernel) (by decide) (s_kil s_jmp)))))))
def B_X11_grown_15 : vD := op_ild 3 (op_ild 2 (op_icgt (op_kil [true, false, true, false, false, false, false, false] (op_jmp 106)) (op_con 1000000 (op_ist 4 (op_con 0 (op_ist 5 (op_seq 92 (op_kil [true, true, true, true, true, true, false, false] (op_loop 27 B_X11_grown_27 4000)) K_X11_grown_92)))))))
set_option maxRecDepth 100000 in
theorem S_B_X11_grown_15 (g0 : vG) : Snd yX11_grown cX11_grown 8 (some .int) 1 0 0 g0 15 B_X11_grown_15 := s_ildn (j := 3) (pc' := 16) (by decide +kernel) rfl rfl (s_ildn (j := 2) (pc' := 17) (by decide +kernel) rfl rfl (s_icgt (off := 89) (pt := 106) (pc' := 20) (by decide +kernel) (by decide) rfl (s_kil s_jmp) (s_ldc (pc' := 22) (by decide +kernel) w_966 rfl (s_ist (pc' := 24) (by decide +kernel) (by decide) rfl (s_con (n := 0) (pc' := 25) (by decide +kernel) (by decide +kernel) rfl (s_ist (pc' := 27) (by decide +kernel) (by decide) rfl (s_seq (s_kil (s_loop (S_B_X11_grown_27 g0) 4000)) (S_K_X11_grown_92 g0))))))))
def K_X11_grown_106 : vD := op_ald 0 (op_gfr 10 14 (op_ild 2 (op_ial (op_ret))))
set_option maxRecDepth 100000 in
theorem S_K_X11_grown_106 (g0 : vG) : Snd yX11_grown cX11_grown 8 (some .int) 1 0 0 g0 106 K_X11_grown_106 := s_aldn (j := 0) (pc' := 107) (by decide +kernel) rfl rfl (s_gfr (ci := 10) (j := 14) (pc' := 110) rfl g_ok11 (by decide) (by decide) (by decide) rfl w_837 (by decide +kernel) rfl (s_ildn (j := 2) (pc' := 111) (by decide +kernel) rfl rfl (s_ial (pc' := 112) (by decide +kernel) rfl (s_iret (by decide +kernel) rfl rfl rfl))))
def D_X11_grown : vD := op_con 1 (op_ild 1 (op_bin f_shl (op_con 1 (op_bin f_sub (op_ist 2 (op_ald 0 (op_gfr 10 14 (op_con 0 (op_con 0 (op_ias (op_con 1 (op_ist 3 (op_seq 106 (op_kil [true, true, true, true, false, false, false, false] (op_loop 15 B_X11_grown_15 4000)) K_X11_grown_106)))))))))))))
set_option maxRecDepth 100000 in
theorem S_D_X11_grown (g0 : vG) : Snd yX11_grown cX11_grown 8 (some .int) 1 0 0 g0 0 D_X11_grown := s_con (n := 1) (pc' := 1) (by decide +kernel) (by decide +kernel) rfl (s_ildn (j := 1) (pc' := 2) (by decide +kernel) rfl rfl (s_shl (pc' := 3) (by decide +kernel) rfl (s_con (n := 1) (pc' := 4) (by decide +kernel) (by decide +kernel) rfl (s_sub (pc' := 5) (by decide +kernel) rfl (s_istn (j := 2) (pc' := 6) (by decide +kernel) rfl (by decide) rfl (s_aldn (j := 0) (pc' := 7) (by decide +kernel) rfl rfl (s_gfr (ci := 10) (j := 14) (pc' := 10) rfl g_ok11 (by decide) (by decide) (by decide) rfl w_837 (by decide +kernel) rfl (s_con (n := 0) (pc' := 11) (by decide +kernel) (by decide +kernel) rfl (s_con (n := 0) (pc' := 12) (by decide +kernel) (by decide +kernel) rfl (s_ias (pc' := 13) (by decide +kernel) rfl (s_con (n := 1) (pc' := 14) (by decide +kernel) (by decide +kernel) rfl (s_istn (j := 3) (pc' := 15) (by decide +kernel) rfl (by decide) rfl (s_seq (s_kil (s_loop (S_B_X11_grown_15 g0) 4000)) (S_K_X11_grown_106 g0))))))))))))))
def F_X11_grown : vF := runD D_X11_grown 8
theorem C_X11_grown : Ctr yX11_grown cX11_grown 8 (some .int) 1 0 0 F_X11_grown := ctr_of (d := fun _ => D_X11_grown) (by decide +kernel) S_D_X11_grown
theorem A_X11_grown : CaV yX11_grown cX11_grown 8 (some .int) 1 := ⟨w_964, w_35, w_77, w_965, by unfold Nm; decide +kernel⟩
def K_X11_havers_33 : vD := op_bin f_add (op_ist 2 (op_inc 3 1 (op_jmp 4)))
set_option maxRecDepth 100000 in
theorem S_K_X11_havers_33 (g0 : vG) : Snd yX11_havers cX11_havers 4 (some .int) 1 0 0 g0 33 K_X11_havers_33 := s_add (pc' := 34) (by decide +kernel) rfl (s_istn (j := 2) (pc' := 35) (by decide +kernel) rfl (by decide) rfl (s_inc (n := 1) (pc' := 38) (by decide +kernel) (by decide +kernel) (by decide) rfl (s_goto (off := (-34)) (pt := 4) (by decide +kernel) (by decide) (s_jmp))))
def B_X11_havers_4 : vD := op_ild 3 (op_ald 0 (op_gfr 10 0 (op_con 0 (op_ial (op_icge (op_kil [false, false, true, false] (op_jmp 41)) (op_ild 2 (op_ald 0 (op_gfr 10 0 (op_ild 3 (op_cal 1 F_X11_paragraphOf (op_ial (op_ild 1 (op_seq 33 (op_icne (op_con 0 (op_kil [true, true, false, true] (op_jmp 33))) (op_con 1 (op_kil [true, true, false, true] (op_jmp 33)))) K_X11_havers_33)))))))))))))
set_option maxRecDepth 100000 in
theorem S_B_X11_havers_4 (g0 : vG) : Snd yX11_havers cX11_havers 4 (some .int) 1 0 0 g0 4 B_X11_havers_4 := s_ildn (j := 3) (pc' := 5) (by decide +kernel) rfl rfl (s_aldn (j := 0) (pc' := 6) (by decide +kernel) rfl rfl (s_gfr (ci := 10) (j := 0) (pc' := 9) rfl g_ok11 (by decide) (by decide) (by decide) rfl w_823 (by decide +kernel) rfl (s_con (n := 0) (pc' := 10) (by decide +kernel) (by decide +kernel) rfl (s_ial (pc' := 11) (by decide +kernel) rfl (s_icge (off := 30) (pt := 41) (pc' := 14) (by decide +kernel) (by decide) rfl (s_kil s_jmp) (s_ildn (j := 2) (pc' := 15) (by decide +kernel) rfl rfl (s_aldn (j := 0) (pc' := 16) (by decide +kernel) rfl rfl (s_gfr (ci := 10) (j := 0) (pc' := 19) rfl g_ok11 (by decide) (by decide) (by decide) rfl w_823 (by decide +kernel) rfl (s_ildn (j := 3) (pc' := 20) (by decide +kernel) rfl rfl (s_calS (pc' := 23) C_X11_paragraphOf A_X11_paragraphOf w_904 (by decide) (by decide +kernel) rfl (s_ial (pc' := 24) (by decide +kernel) rfl (s_ildn (j := 1) (pc' := 25) (by decide +kernel) rfl rfl (s_seq (s_icne (off := 7) (pt := 32) (pc' := 28) (by decide +kernel) (by decide) rfl (s_con (n := 0) (pc' := 33) (by decide +kernel) (by decide +kernel) rfl (s_kil s_jmp)) (s_con (n := 1) (pc' := 29) (by decide +kernel) (by decide +kernel) rfl (s_goto (off := 4) (pt := 33) (by decide +kernel) (by decide) (s_kil s_jmp)))) (S_K_X11_havers_33 g0))))))))))))))
def K_X11_havers_41 : vD := op_ild 2 (op_ret)
set_option maxRecDepth 100000 in
theorem S_K_X11_havers_41 (g0 : vG) : Snd yX11_havers cX11_havers 4 (some .int) 1 0 0 g0 41 K_X11_havers_41 := s_ildn (j := 2) (pc' := 42) (by decide +kernel) rfl rfl (s_iret (by decide +kernel) rfl rfl rfl)
def D_X11_havers : vD := op_con 0 (op_ist 2 (op_con 0 (op_ist 3 (op_seq 41 (op_loop 4 B_X11_havers_4 4000) K_X11_havers_41))))
set_option maxRecDepth 100000 in
theorem S_D_X11_havers (g0 : vG) : Snd yX11_havers cX11_havers 4 (some .int) 1 0 0 g0 0 D_X11_havers := s_con (n := 0) (pc' := 1) (by decide +kernel) (by decide +kernel) rfl (s_istn (j := 2) (pc' := 2) (by decide +kernel) rfl (by decide) rfl (s_con (n := 0) (pc' := 3) (by decide +kernel) (by decide +kernel) rfl (s_istn (j := 3) (pc' := 4) (by decide +kernel) rfl (by decide) rfl (s_seq (s_loop (S_B_X11_havers_4 g0) 4000) (S_K_X11_havers_41 g0)))))
def F_X11_havers : vF := runD D_X11_havers 4
theorem C_X11_havers : Ctr yX11_havers cX11_havers 4 (some .int) 1 0 0 F_X11_havers := ctr_of (d := fun _ => D_X11_havers) (by decide +kernel) S_D_X11_havers
theorem A_X11_havers : CaV yX11_havers cX11_havers 4 (some .int) 1 := ⟨w_1056, w_51, w_77, w_1057, by unfold Nm; decide +kernel⟩
def K_X11_idle_52 : vD := op_con 0 (op_kil [true, true, true, false, true] (op_jmp 53))
set_option maxRecDepth 100000 in
theorem S_K_X11_idle_52 (g0 : vG) : Snd yX11_idle cX11_idle 5 (some .int) 1 0 0 g0 52 K_X11_idle_52 := s_con (n := 0) (pc' := 53) (by decide +kernel) (by decide +kernel) rfl (s_kil s_jmp)
def K_X11_idle_53 : vD := op_ist 3 (op_inc 4 1 (op_jmp 19))
set_option maxRecDepth 100000 in
theorem S_K_X11_idle_53 (g0 : vG) : Snd yX11_idle cX11_idle 5 (some .int) 1 0 0 g0 53 K_X11_idle_53 := s_istn (j := 3) (pc' := 54) (by decide +kernel) rfl (by decide) rfl (s_inc (n := 1) (pc' := 57) (by decide +kernel) (by decide +kernel) (by decide) rfl (s_goto (off := (-38)) (pt := 19) (by decide +kernel) (by decide) (s_jmp)))
def B_X11_idle_19 : vD := op_ild 4 (op_ald 0 (op_gfr 10 0 (op_con 0 (op_ial (op_icge (op_kil [true, true, true, true, false] (op_jmp 60)) (op_ild 3 (op_seq 53 (op_seq 52 (op_ifeq (op_kil [true, true, true, false, true] (op_jmp 52)) (op_ald 0 (op_gfr 10 0 (op_ild 4 (op_cal 1 F_X11_paragraphOf (op_ial (op_ild 2 (op_iceq (op_kil [true, true, true, false, true] (op_jmp 52)) (op_con 1 (op_kil [true, true, true, false, true] (op_jmp 53))))))))))) K_X11_idle_52) K_X11_idle_53)))))))
set_option maxRecDepth 100000 in
theorem S_B_X11_idle_19 (g0 : vG) : Snd yX11_idle cX11_idle 5 (some .int) 1 0 0 g0 19 B_X11_idle_19 := s_ild (pc' := 21) (by decide +kernel) rfl (s_aldn (j := 0) (pc' := 22) (by decide +kernel) rfl rfl (s_gfr (ci := 10) (j := 0) (pc' := 25) rfl g_ok11 (by decide) (by decide) (by decide) rfl w_823 (by decide +kernel) rfl (s_con (n := 0) (pc' := 26) (by decide +kernel) (by decide +kernel) rfl (s_ial (pc' := 27) (by decide +kernel) rfl (s_icge (off := 33) (pt := 60) (pc' := 30) (by decide +kernel) (by decide) rfl (s_kil s_jmp) (s_ildn (j := 3) (pc' := 31) (by decide +kernel) rfl rfl (s_seq (s_seq (s_ifeq (off := 21) (pt := 52) (pc' := 34) (by decide +kernel) (by decide) rfl (s_kil s_jmp) (s_aldn (j := 0) (pc' := 35) (by decide +kernel) rfl rfl (s_gfr (ci := 10) (j := 0) (pc' := 38) rfl g_ok11 (by decide) (by decide) (by decide) rfl w_823 (by decide +kernel) rfl (s_ild (pc' := 40) (by decide +kernel) rfl (s_calS (pc' := 43) C_X11_paragraphOf A_X11_paragraphOf w_904 (by decide) (by decide +kernel) rfl (s_ial (pc' := 44) (by decide +kernel) rfl (s_ildn (j := 2) (pc' := 45) (by decide +kernel) rfl rfl (s_iceq (off := 7) (pt := 52) (pc' := 48) (by decide +kernel) (by decide) rfl (s_kil s_jmp) (s_con (n := 1) (pc' := 49) (by decide +kernel) (by decide +kernel) rfl (s_goto (off := 4) (pt := 53) (by decide +kernel) (by decide) (s_kil s_jmp))))))))))) (S_K_X11_idle_52 g0)) (S_K_X11_idle_53 g0))))))))
def K_X11_idle_96 : vD := op_con 0 (op_kil [true, true, true, false, true] (op_jmp 97))
set_option maxRecDepth 100000 in
theorem S_K_X11_idle_96 (g0 : vG) : Snd yX11_idle cX11_idle 5 (some .int) 1 0 0 g0 96 K_X11_idle_96 := s_con (n := 0) (pc' := 97) (by decide +kernel) (by decide +kernel) rfl (s_kil s_jmp)
def K_X11_idle_97 : vD := op_ist 3 (op_inc 4 1 (op_jmp 63))
set_option maxRecDepth 100000 in
theorem S_K_X11_idle_97 (g0 : vG) : Snd yX11_idle cX11_idle 5 (some .int) 1 0 0 g0 97 K_X11_idle_97 := s_istn (j := 3) (pc' := 98) (by decide +kernel) rfl (by decide) rfl (s_inc (n := 1) (pc' := 101) (by decide +kernel) (by decide +kernel) (by decide) rfl (s_goto (off := (-38)) (pt := 63) (by decide +kernel) (by decide) (s_jmp)))
def B_X11_idle_63 : vD := op_ild 4 (op_ald 0 (op_gfr 10 0 (op_con 1 (op_ial (op_icge (op_kil [true, true, true, true, false] (op_jmp 104)) (op_ild 3 (op_seq 97 (op_seq 96 (op_ifeq (op_kil [true, true, true, false, true] (op_jmp 96)) (op_ald 0 (op_gfr 10 0 (op_ild 4 (op_cal 1 F_X11_styleOf (op_ial (op_ild 2 (op_iceq (op_kil [true, true, true, false, true] (op_jmp 96)) (op_con 1 (op_kil [true, true, true, false, true] (op_jmp 97))))))))))) K_X11_idle_96) K_X11_idle_97)))))))
set_option maxRecDepth 100000 in
theorem S_B_X11_idle_63 (g0 : vG) : Snd yX11_idle cX11_idle 5 (some .int) 1 0 0 g0 63 B_X11_idle_63 := s_ild (pc' := 65) (by decide +kernel) rfl (s_aldn (j := 0) (pc' := 66) (by decide +kernel) rfl rfl (s_gfr (ci := 10) (j := 0) (pc' := 69) rfl g_ok11 (by decide) (by decide) (by decide) rfl w_823 (by decide +kernel) rfl (s_con (n := 1) (pc' := 70) (by decide +kernel) (by decide +kernel) rfl (s_ial (pc' := 71) (by decide +kernel) rfl (s_icge (off := 33) (pt := 104) (pc' := 74) (by decide +kernel) (by decide) rfl (s_kil s_jmp) (s_ildn (j := 3) (pc' := 75) (by decide +kernel) rfl rfl (s_seq (s_seq (s_ifeq (off := 21) (pt := 96) (pc' := 78) (by decide +kernel) (by decide) rfl (s_kil s_jmp) (s_aldn (j := 0) (pc' := 79) (by decide +kernel) rfl rfl (s_gfr (ci := 10) (j := 0) (pc' := 82) rfl g_ok11 (by decide) (by decide) (by decide) rfl w_823 (by decide +kernel) rfl (s_ild (pc' := 84) (by decide +kernel) rfl (s_calS (pc' := 87) C_X11_styleOf A_X11_styleOf w_890 (by decide) (by decide +kernel) rfl (s_ial (pc' := 88) (by decide +kernel) rfl (s_ildn (j := 2) (pc' := 89) (by decide +kernel) rfl rfl (s_iceq (off := 7) (pt := 96) (pc' := 92) (by decide +kernel) (by decide) rfl (s_kil s_jmp) (s_con (n := 1) (pc' := 93) (by decide +kernel) (by decide +kernel) rfl (s_goto (off := 4) (pt := 97) (by decide +kernel) (by decide) (s_kil s_jmp))))))))))) (S_K_X11_idle_96 g0)) (S_K_X11_idle_97 g0))))))))
def K_X11_idle_116 : vD := op_bin f_or (op_ist 1 (op_inc 2 1 (op_kil [true, true, true, false, false] (op_jmp 4))))
set_option maxRecDepth 100000 in
theorem S_K_X11_idle_116 (g0 : vG) : Snd yX11_idle cX11_idle 5 (some .int) 1 0 0 g0 116 K_X11_idle_116 := s_or (pc' := 117) (by decide +kernel) rfl (s_istn (j := 1) (pc' := 118) (by decide +kernel) rfl (by decide) rfl (s_inc (n := 1) (pc' := 121) (by decide +kernel) (by decide +kernel) (by decide) rfl (s_goto (off := (-117)) (pt := 4) (by decide +kernel) (by decide) (s_kil s_jmp))))
def K_X11_idle_104 : vD := op_ild 1 (op_ild 3 (op_seq 116 (op_ifeq (op_con 0 (op_kil [true, false, true, false, false] (op_jmp 116))) (op_con 1 (op_ild 2 (op_bin f_shl (op_kil [true, false, true, false, false] (op_jmp 116)))))) K_X11_idle_116))
set_option maxRecDepth 100000 in
theorem S_K_X11_idle_104 (g0 : vG) : Snd yX11_idle cX11_idle 5 (some .int) 1 0 0 g0 104 K_X11_idle_104 := s_ildn (j := 1) (pc' := 105) (by decide +kernel) rfl rfl (s_ildn (j := 3) (pc' := 106) (by decide +kernel) rfl rfl (s_seq (s_ifeq (off := 9) (pt := 115) (pc' := 109) (by decide +kernel) (by decide) rfl (s_con (n := 0) (pc' := 116) (by decide +kernel) (by decide +kernel) rfl (s_kil s_jmp)) (s_con (n := 1) (pc' := 110) (by decide +kernel) (by decide +kernel) rfl (s_ildn (j := 2) (pc' := 111) (by decide +kernel) rfl rfl (s_shl (pc' := 112) (by decide +kernel) rfl (s_goto (off := 4) (pt := 116) (by decide +kernel) (by decide) (s_kil s_jmp)))))) (S_K_X11_idle_116 g0)))
def K_X11_idle_60 : vD := op_con 0 (op_ist 4 (op_seq 104 (op_loop 63 B_X11_idle_63 4000) K_X11_idle_104))
set_option maxRecDepth 100000 in
theorem S_K_X11_idle_60 (g0 : vG) : Snd yX11_idle cX11_idle 5 (some .int) 1 0 0 g0 60 K_X11_idle_60 := s_con (n := 0) (pc' := 61) (by decide +kernel) (by decide +kernel) rfl (s_ist (pc' := 63) (by decide +kernel) (by decide) rfl (s_seq (s_loop (S_B_X11_idle_63 g0) 4000) (S_K_X11_idle_104 g0)))
def B_X11_idle_4 : vD := op_ild 2 (op_ald 0 (op_gfr 10 0 (op_con 1 (op_ial (op_icge (op_kil [false, true, false, false, false] (op_jmp 124)) (op_con 1 (op_ist 3 (op_con 0 (op_ist 4 (op_seq 60 (op_loop 19 B_X11_idle_19 4000) K_X11_idle_60))))))))))
set_option maxRecDepth 100000 in
theorem S_B_X11_idle_4 (g0 : vG) : Snd yX11_idle cX11_idle 5 (some .int) 1 0 0 g0 4 B_X11_idle_4 := s_ildn (j := 2) (pc' := 5) (by decide +kernel) rfl rfl (s_aldn (j := 0) (pc' := 6) (by decide +kernel) rfl rfl (s_gfr (ci := 10) (j := 0) (pc' := 9) rfl g_ok11 (by decide) (by decide) (by decide) rfl w_823 (by decide +kernel) rfl (s_con (n := 1) (pc' := 10) (by decide +kernel) (by decide +kernel) rfl (s_ial (pc' := 11) (by decide +kernel) rfl (s_icge (off := 113) (pt := 124) (pc' := 14) (by decide +kernel) (by decide) rfl (s_kil s_jmp) (s_con (n := 1) (pc' := 15) (by decide +kernel) (by decide +kernel) rfl (s_istn (j := 3) (pc' := 16) (by decide +kernel) rfl (by decide) rfl (s_con (n := 0) (pc' := 17) (by decide +kernel) (by decide +kernel) rfl (s_ist (pc' := 19) (by decide +kernel) (by decide) rfl (s_seq (s_loop (S_B_X11_idle_19 g0) 4000) (S_K_X11_idle_60 g0)))))))))))
def K_X11_idle_124 : vD := op_ild 1 (op_ret)
set_option maxRecDepth 100000 in
theorem S_K_X11_idle_124 (g0 : vG) : Snd yX11_idle cX11_idle 5 (some .int) 1 0 0 g0 124 K_X11_idle_124 := s_ildn (j := 1) (pc' := 125) (by decide +kernel) rfl rfl (s_iret (by decide +kernel) rfl rfl rfl)
def D_X11_idle : vD := op_con 0 (op_ist 1 (op_con 0 (op_ist 2 (op_seq 124 (op_kil [true, true, true, false, false] (op_loop 4 B_X11_idle_4 4000)) K_X11_idle_124))))
set_option maxRecDepth 100000 in
theorem S_D_X11_idle (g0 : vG) : Snd yX11_idle cX11_idle 5 (some .int) 1 0 0 g0 0 D_X11_idle := s_con (n := 0) (pc' := 1) (by decide +kernel) (by decide +kernel) rfl (s_istn (j := 1) (pc' := 2) (by decide +kernel) rfl (by decide) rfl (s_con (n := 0) (pc' := 3) (by decide +kernel) (by decide +kernel) rfl (s_istn (j := 2) (pc' := 4) (by decide +kernel) rfl (by decide) rfl (s_seq (s_kil (s_loop (S_B_X11_idle_4 g0) 4000)) (S_K_X11_idle_124 g0)))))
def F_X11_idle : vF := runD D_X11_idle 5
theorem C_X11_idle : Ctr yX11_idle cX11_idle 5 (some .int) 1 0 0 F_X11_idle := ctr_of (d := fun _ => D_X11_idle) (by decide +kernel) S_D_X11_idle
theorem A_X11_idle : CaV yX11_idle cX11_idle 5 (some .int) 0 := ⟨w_992, w_41, w_77, w_993, by unfold Nm; decide +kernel⟩
def D_X11_isParagraph : vD := op_ild 1 (op_con 0 (op_ald 0 (op_gfr 10 0 (op_con 0 (op_ial (op_con 1 (op_bin f_sub (op_cal 3 F_X11_in (op_zret)))))))))
set_option maxRecDepth 100000 in
theorem S_D_X11_isParagraph (g0 : vG) : Snd yX11_isParagraph cX11_isParagraph 2 (some .boolean) 1 0 0 g0 0 D_X11_isParagraph := s_ildn (j := 1) (pc' := 1) (by decide +kernel) rfl rfl (s_con (n := 0) (pc' := 2) (by decide +kernel) (by decide +kernel) rfl (s_aldn (j := 0) (pc' := 3) (by decide +kernel) rfl rfl (s_gfr (ci := 10) (j := 0) (pc' := 6) rfl g_ok11 (by decide) (by decide) (by decide) rfl w_823 (by decide +kernel) rfl (s_con (n := 0) (pc' := 7) (by decide +kernel) (by decide +kernel) rfl (s_ial (pc' := 8) (by decide +kernel) rfl (s_con (n := 1) (pc' := 9) (by decide +kernel) (by decide +kernel) rfl (s_sub (pc' := 10) (by decide +kernel) rfl (s_calS (pc' := 13) C_X11_in A_X11_in w_1002 (by decide) (by decide +kernel) rfl (s_zret (by decide +kernel) rfl nar_bool rfl rfl)))))))))
def F_X11_isParagraph : vF := runD D_X11_isParagraph 2
theorem C_X11_isParagraph : Ctr yX11_isParagraph cX11_isParagraph 2 (some .boolean) 1 0 0 F_X11_isParagraph := ctr_of (d := fun _ => D_X11_isParagraph) (by decide +kernel) S_D_X11_isParagraph
theorem A_X11_isParagraph : CaV yX11_isParagraph cX11_isParagraph 2 (some .boolean) 1 := ⟨w_1000, w_43, w_77, w_1001, by unfold Nm; decide +kernel⟩
def D_X11_isProperty : vD := op_ild 0 (op_con 0 (op_con 5 (op_cal 3 F_X11_in (op_zret))))
set_option maxRecDepth 100000 in
theorem S_D_X11_isProperty (g0 : vG) : Snd yX11_isProperty cX11_isProperty 1 (some .boolean) 1 0 0 g0 0 D_X11_isProperty := s_ildn (j := 0) (pc' := 1) (by decide +kernel) rfl rfl (s_con (n := 0) (pc' := 2) (by decide +kernel) (by decide +kernel) rfl (s_con (n := 5) (pc' := 3) (by decide +kernel) (by decide +kernel) rfl (s_calS (pc' := 6) C_X11_in A_X11_in w_1002 (by decide) (by decide +kernel) rfl (s_zret (by decide +kernel) rfl nar_bool rfl rfl))))
def F_X11_isProperty : vF := runD D_X11_isProperty 1
theorem C_X11_isProperty : Ctr yX11_isProperty cX11_isProperty 1 (some .boolean) 1 0 0 F_X11_isProperty := ctr_of (d := fun _ => D_X11_isProperty) (by decide +kernel) S_D_X11_isProperty
theorem A_X11_isProperty : CaS yX11_isProperty cX11_isProperty 1 (some .boolean) 1 := ⟨w_1011, w_77, w_1012, by unfold Nm; decide +kernel⟩
def K_X11_isRing_21 : vD := op_con 1 (op_kil [true, true, false, false, true] (op_jmp 26))
set_option maxRecDepth 100000 in
theorem S_K_X11_isRing_21 (g0 : vG) : Snd yX11_isRing cX11_isRing 5 (some .boolean) 1 0 0 g0 21 K_X11_isRing_21 := s_con (n := 1) (pc' := 22) (by decide +kernel) (by decide +kernel) rfl (s_goto (off := 4) (pt := 26) (by decide +kernel) (by decide) (s_kil s_jmp))
def K_X11_isRing_26 : vD := op_ist 3 (op_ald 0 (op_gfr 10 0 (op_ild 4 (op_cal 1 F_X11_styleOf (op_ial (op_ist 4 (op_kil [true, true, false, true, true] (op_jmp 5))))))))
set_option maxRecDepth 100000 in
theorem S_K_X11_isRing_26 (g0 : vG) : Snd yX11_isRing cX11_isRing 5 (some .boolean) 1 0 0 g0 26 K_X11_isRing_26 := s_istn (j := 3) (pc' := 27) (by decide +kernel) rfl (by decide) rfl (s_aldn (j := 0) (pc' := 28) (by decide +kernel) rfl rfl (s_gfr (ci := 10) (j := 0) (pc' := 31) rfl g_ok11 (by decide) (by decide) (by decide) rfl w_823 (by decide +kernel) rfl (s_ild (pc' := 33) (by decide +kernel) rfl (s_calS (pc' := 36) C_X11_styleOf A_X11_styleOf w_890 (by decide) (by decide +kernel) rfl (s_ial (pc' := 37) (by decide +kernel) rfl (s_ist (pc' := 39) (by decide +kernel) (by decide) rfl (s_goto (off := (-34)) (pt := 5) (by decide +kernel) (by decide) (s_kil s_jmp))))))))
def B_X11_isRing_5 : vD := op_ild 4 (op_con (-1) (op_iceq (op_kil [false, false, false, true, false] (op_jmp 42)) (op_ild 3 (op_seq 26 (op_seq 21 (op_ifne (op_kil [true, true, false, false, true] (op_jmp 21)) (op_ild 4 (op_ild 1 (op_icne (op_con 0 (op_kil [true, true, false, false, true] (op_jmp 26))) (op_kil [true, true, false, false, true] (op_jmp 21)))))) K_X11_isRing_21) K_X11_isRing_26))))
set_option maxRecDepth 100000 in
theorem S_B_X11_isRing_5 (g0 : vG) : Snd yX11_isRing cX11_isRing 5 (some .boolean) 1 0 0 g0 5 B_X11_isRing_5 := s_ild (pc' := 7) (by decide +kernel) rfl (s_con (n := (-1)) (pc' := 8) (by decide +kernel) (by decide +kernel) rfl (s_iceq (off := 34) (pt := 42) (pc' := 11) (by decide +kernel) (by decide) rfl (s_kil s_jmp) (s_ildn (j := 3) (pc' := 12) (by decide +kernel) rfl rfl (s_seq (s_seq (s_ifne (off := 9) (pt := 21) (pc' := 15) (by decide +kernel) (by decide) rfl (s_kil s_jmp) (s_ild (pc' := 17) (by decide +kernel) rfl (s_ildn (j := 1) (pc' := 18) (by decide +kernel) rfl rfl (s_icne (off := 7) (pt := 25) (pc' := 21) (by decide +kernel) (by decide) rfl (s_con (n := 0) (pc' := 26) (by decide +kernel) (by decide +kernel) rfl (s_kil s_jmp)) (s_kil s_jmp))))) (S_K_X11_isRing_21 g0)) (S_K_X11_isRing_26 g0)))))
def K_X11_isRing_42 : vD := op_ild 3 (op_zret)
set_option maxRecDepth 100000 in
theorem S_K_X11_isRing_42 (g0 : vG) : Snd yX11_isRing cX11_isRing 5 (some .boolean) 1 0 0 g0 42 K_X11_isRing_42 := s_ildn (j := 3) (pc' := 43) (by decide +kernel) rfl rfl (s_zret (by decide +kernel) rfl nar_bool rfl rfl)
def D_X11_isRing : vD := op_con 0 (op_ist 3 (op_ild 2 (op_ist 4 (op_seq 42 (op_kil [true, true, false, true, true] (op_loop 5 B_X11_isRing_5 4000)) K_X11_isRing_42))))
set_option maxRecDepth 100000 in
theorem S_D_X11_isRing (g0 : vG) : Snd yX11_isRing cX11_isRing 5 (some .boolean) 1 0 0 g0 0 D_X11_isRing := s_con (n := 0) (pc' := 1) (by decide +kernel) (by decide +kernel) rfl (s_istn (j := 3) (pc' := 2) (by decide +kernel) rfl (by decide) rfl (s_ildn (j := 2) (pc' := 3) (by decide +kernel) rfl rfl (s_ist (pc' := 5) (by decide +kernel) (by decide) rfl (s_seq (s_kil (s_loop (S_B_X11_isRing_5 g0) 4000)) (S_K_X11_isRing_42 g0)))))
def F_X11_isRing : vF := runD D_X11_isRing 5
theorem C_X11_isRing : Ctr yX11_isRing cX11_isRing 5 (some .boolean) 1 0 0 F_X11_isRing := ctr_of (d := fun _ => D_X11_isRing) (by decide +kernel) S_D_X11_isRing
theorem A_X11_isRing : CaV yX11_isRing cX11_isRing 5 (some .boolean) 2 := ⟨w_1140, w_60, w_77, w_1141, by unfold Nm; decide +kernel⟩
def D_X11_isStyle : vD := op_ild 1 (op_con 0 (op_ald 0 (op_gfr 10 0 (op_con 1 (op_ial (op_con 1 (op_bin f_sub (op_cal 3 F_X11_in (op_zret)))))))))
set_option maxRecDepth 100000 in
theorem S_D_X11_isStyle (g0 : vG) : Snd yX11_isStyle cX11_isStyle 2 (some .boolean) 1 0 0 g0 0 D_X11_isStyle := s_ildn (j := 1) (pc' := 1) (by decide +kernel) rfl rfl (s_con (n := 0) (pc' := 2) (by decide +kernel) (by decide +kernel) rfl (s_aldn (j := 0) (pc' := 3) (by decide +kernel) rfl rfl (s_gfr (ci := 10) (j := 0) (pc' := 6) rfl g_ok11 (by decide) (by decide) (by decide) rfl w_823 (by decide +kernel) rfl (s_con (n := 1) (pc' := 7) (by decide +kernel) (by decide +kernel) rfl (s_ial (pc' := 8) (by decide +kernel) rfl (s_con (n := 1) (pc' := 9) (by decide +kernel) (by decide +kernel) rfl (s_sub (pc' := 10) (by decide +kernel) rfl (s_calS (pc' := 13) C_X11_in A_X11_in w_1002 (by decide) (by decide +kernel) rfl (s_zret (by decide +kernel) rfl nar_bool rfl rfl)))))))))
def F_X11_isStyle : vF := runD D_X11_isStyle 2
theorem C_X11_isStyle : Ctr yX11_isStyle cX11_isStyle 2 (some .boolean) 1 0 0 F_X11_isStyle := ctr_of (d := fun _ => D_X11_isStyle) (by decide +kernel) S_D_X11_isStyle
theorem A_X11_isStyle : CaV yX11_isStyle cX11_isStyle 2 (some .boolean) 1 := ⟨w_1048, w_49, w_77, w_1049, by unfold Nm; decide +kernel⟩
def K_X11_isValue_23 : vD := op_cal 3 F_X11_in (op_zret)
set_option maxRecDepth 100000 in
theorem S_K_X11_isValue_23 (g0 : vG) : Snd yX11_isValue cX11_isValue 2 (some .boolean) 1 0 0 g0 23 K_X11_isValue_23 := s_calS (pc' := 26) C_X11_in A_X11_in w_1002 (by decide) (by decide +kernel) rfl (s_zret (by decide +kernel) rfl nar_bool rfl rfl)
def D_X11_isValue : vD := op_ild 1 (op_con 0 (op_ild 0 (op_con 2 (op_seq 23 (op_icge (op_ild 0 (op_con 4 (op_icge (op_con 9 (op_kil [false, false] (op_jmp 23))) (op_con 99 (op_kil [false, false] (op_jmp 23)))))) (op_con 1 (op_kil [false, false] (op_jmp 23)))) K_X11_isValue_23))))
set_option maxRecDepth 100000 in
theorem S_D_X11_isValue (g0 : vG) : Snd yX11_isValue cX11_isValue 2 (some .boolean) 1 0 0 g0 0 D_X11_isValue := s_ildn (j := 1) (pc' := 1) (by decide +kernel) rfl rfl (s_con (n := 0) (pc' := 2) (by decide +kernel) (by decide +kernel) rfl (s_ildn (j := 0) (pc' := 3) (by decide +kernel) rfl rfl (s_con (n := 2) (pc' := 4) (by decide +kernel) (by decide +kernel) rfl (s_seq (s_icge (off := 7) (pt := 11) (pc' := 7) (by decide +kernel) (by decide) rfl (s_ildn (j := 0) (pc' := 12) (by decide +kernel) rfl rfl (s_con (n := 4) (pc' := 13) (by decide +kernel) (by decide +kernel) rfl (s_icge (off := 8) (pt := 21) (pc' := 16) (by decide +kernel) (by decide) rfl (s_bip (n := 9) (pc' := 23) (by decide +kernel) (by decide +kernel) rfl (s_kil s_jmp)) (s_bip (n := 99) (pc' := 18) (by decide +kernel) (by decide +kernel) rfl (s_goto (off := 5) (pt := 23) (by decide +kernel) (by decide) (s_kil s_jmp)))))) (s_con (n := 1) (pc' := 8) (by decide +kernel) (by decide +kernel) rfl (s_goto (off := 15) (pt := 23) (by decide +kernel) (by decide) (s_kil s_jmp)))) (S_K_X11_isValue_23 g0)))))
def F_X11_isValue : vF := runD D_X11_isValue 2
theorem C_X11_isValue : Ctr yX11_isValue cX11_isValue 2 (some .boolean) 1 0 0 F_X11_isValue := ctr_of (d := fun _ => D_X11_isValue) (by decide +kernel) S_D_X11_isValue
theorem A_X11_isValue : CaS yX11_isValue cX11_isValue 2 (some .boolean) 2 := ⟨w_1112, w_77, w_1113, by unfold Nm; decide +kernel⟩
def D_X11_keep : vD := op_ild 1 (op_con 0 (op_con 1 (op_cal 3 F_X11_in (op_ifne (op_ald 0 (op_con 0 (op_con 1870 (op_con 110 (op_ild 1 (op_bin f_mul (op_bin f_add (op_calV 10 2 F_X11_copyRow (op_ald 0 (op_gfr 10 4 (op_ild 1 (op_ald 0 (op_gfi 10 3 (op_ias (op_ald 0 (op_dup (op_gfi 10 2 (op_con 1 (op_ild 1 (op_bin f_shl (op_bin f_or (op_pfi 10 2 (op_ald 0 (op_con 0 (op_pfi 10 1 (op_con 1 (op_ret))))))))))))))))))))))))))) (op_con (-1000000001) (op_ret))))))
set_option maxRecDepth 100000 in
theorem S_D_X11_keep (g0 : vG) : Snd yX11_keep cX11_keep 2 (some .int) 1 0 0 g0 0 D_X11_keep := s_ildn (j := 1) (pc' := 1) (by decide +kernel) rfl rfl (s_con (n := 0) (pc' := 2) (by decide +kernel) (by decide +kernel) rfl (s_con (n := 1) (pc' := 3) (by decide +kernel) (by decide +kernel) rfl (s_calS (pc' := 6) C_X11_in A_X11_in w_1002 (by decide) (by decide +kernel) rfl (s_ifne (off := 6) (pt := 12) (pc' := 9) (by decide +kernel) (by decide) rfl (s_aldn (j := 0) (pc' := 13) (by decide +kernel) rfl rfl (s_con (n := 0) (pc' := 14) (by decide +kernel) (by decide +kernel) rfl (s_sip (n := 1870) (pc' := 17) (by decide +kernel) (by decide +kernel) rfl (s_bip (n := 110) (pc' := 19) (by decide +kernel) (by decide +kernel) rfl (s_ildn (j := 1) (pc' := 20) (by decide +kernel) rfl rfl (s_mul (pc' := 21) (by decide +kernel) rfl (s_add (pc' := 22) (by decide +kernel) rfl (s_calV (ci := 10) (pc' := 25) C_X11_copyRow A_X11_copyRow rfl (by decide) w_1095 (by decide) (by decide +kernel) rfl (s_aldn (j := 0) (pc' := 26) (by decide +kernel) rfl rfl (s_gfr (ci := 10) (j := 4) (pc' := 29) rfl g_ok11 (by decide) (by decide) (by decide) rfl w_827 (by decide +kernel) rfl (s_ildn (j := 1) (pc' := 30) (by decide +kernel) rfl rfl (s_aldn (j := 0) (pc' := 31) (by decide +kernel) rfl rfl (s_gfi (ci := 10) (j := 3) (pc' := 34) rfl g_ok11 (by decide) (by decide) (by decide) rfl w_826 (by decide +kernel) rfl (s_ias (pc' := 35) (by decide +kernel) rfl (s_aldn (j := 0) (pc' := 36) (by decide +kernel) rfl rfl (s_dup (pc' := 37) (by decide +kernel) rfl (s_gfi (ci := 10) (j := 2) (pc' := 40) rfl g_ok11 (by decide) (by decide) (by decide) rfl w_825 (by decide +kernel) rfl (s_con (n := 1) (pc' := 41) (by decide +kernel) (by decide +kernel) rfl (s_ildn (j := 1) (pc' := 42) (by decide +kernel) rfl rfl (s_shl (pc' := 43) (by decide +kernel) rfl (s_or (pc' := 44) (by decide +kernel) rfl (s_pfi (ci := 10) (j := 2) (pc' := 47) rfl g_ok11 tyX11 tyX11_ok nmX11 (by decide) (by decide) (by decide) rfl rfl rfl w_825 (by decide +kernel) rfl (s_aldn (j := 0) (pc' := 48) (by decide +kernel) rfl rfl (s_con (n := 0) (pc' := 49) (by decide +kernel) (by decide +kernel) rfl (s_pfi (ci := 10) (j := 1) (pc' := 52) rfl g_ok11 tyX11 tyX11_ok nmX11 (by decide) (by decide) (by decide) rfl rfl rfl w_824 (by decide +kernel) rfl (s_con (n := 1) (pc' := 53) (by decide +kernel) (by decide +kernel) rfl (s_iret (by decide +kernel) rfl rfl rfl))))))))))))))))))))))))))) (s_ldc (pc' := 11) (by decide +kernel) w_1013 rfl (s_iret (by decide +kernel) rfl rfl rfl))))))
def F_X11_keep : vF := runD D_X11_keep 2
theorem C_X11_keep : Ctr yX11_keep cX11_keep 2 (some .int) 1 0 0 F_X11_keep := ctr_of (d := fun _ => D_X11_keep) (by decide +kernel) S_D_X11_keep
theorem A_X11_keep : CaV yX11_keep cX11_keep 2 (some .int) 1 := ⟨w_1217, w_1218, w_77, w_1219, by unfold Nm; decide +kernel⟩
def B_X11_numberOf_2 : vD := op_ald 0 (op_gfr 10 11 (op_ild 2 (op_ald 0 (op_gfr 10 10 (op_ild 1 (op_cal 4 F_X11_compare (op_ifeq (op_kil [false, false, true] (op_jmp 24)) (op_inc 2 1 (op_jmp 2)))))))))
set_option maxRecDepth 100000 in
theorem S_B_X11_numberOf_2 (g0 : vG) : Snd yX11_numberOf cX11_numberOf 3 (some .int) 1 0 0 g0 2 B_X11_numberOf_2 := s_aldn (j := 0) (pc' := 3) (by decide +kernel) rfl rfl (s_gfr (ci := 10) (j := 11) (pc' := 6) rfl g_ok11 (by decide) (by decide) (by decide) rfl w_834 (by decide +kernel) rfl (s_ildn (j := 2) (pc' := 7) (by decide +kernel) rfl rfl (s_aldn (j := 0) (pc' := 8) (by decide +kernel) rfl rfl (s_gfr (ci := 10) (j := 10) (pc' := 11) rfl g_ok11 (by decide) (by decide) (by decide) rfl w_833 (by decide +kernel) rfl (s_ildn (j := 1) (pc' := 12) (by decide +kernel) rfl rfl (s_calS (pc' := 15) C_X11_compare A_X11_compare w_943 (by decide) (by decide +kernel) rfl (s_ifeq (off := 9) (pt := 24) (pc' := 18) (by decide +kernel) (by decide) rfl (s_kil s_jmp) (s_inc (n := 1) (pc' := 21) (by decide +kernel) (by decide +kernel) (by decide) rfl (s_goto (off := (-19)) (pt := 2) (by decide +kernel) (by decide) (s_jmp))))))))))
def K_X11_numberOf_24 : vD := op_ild 2 (op_ret)
set_option maxRecDepth 100000 in
theorem S_K_X11_numberOf_24 (g0 : vG) : Snd yX11_numberOf cX11_numberOf 3 (some .int) 1 0 0 g0 24 K_X11_numberOf_24 := s_ildn (j := 2) (pc' := 25) (by decide +kernel) rfl rfl (s_iret (by decide +kernel) rfl rfl rfl)
def D_X11_numberOf : vD := op_con 0 (op_ist 2 (op_seq 24 (op_loop 2 B_X11_numberOf_2 4000) K_X11_numberOf_24))
set_option maxRecDepth 100000 in
theorem S_D_X11_numberOf (g0 : vG) : Snd yX11_numberOf cX11_numberOf 3 (some .int) 1 0 0 g0 0 D_X11_numberOf := s_con (n := 0) (pc' := 1) (by decide +kernel) (by decide +kernel) rfl (s_istn (j := 2) (pc' := 2) (by decide +kernel) rfl (by decide) rfl (s_seq (s_loop (S_B_X11_numberOf_2 g0) 4000) (S_K_X11_numberOf_24 g0)))
def F_X11_numberOf : vF := runD D_X11_numberOf 3
theorem C_X11_numberOf : Ctr yX11_numberOf cX11_numberOf 3 (some .int) 1 0 0 F_X11_numberOf := ctr_of (d := fun _ => D_X11_numberOf) (by decide +kernel) S_D_X11_numberOf
theorem A_X11_numberOf : CaV yX11_numberOf cX11_numberOf 3 (some .int) 1 := ⟨w_984, w_39, w_77, w_985, by unfold Nm; decide +kernel⟩
def B_X11_remember_11 : vD := op_ild 1 (op_con 16 (op_icge (op_kil [true, false] (op_jmp 37)) (op_ald 0 (op_con 110 (op_ild 1 (op_con 1 (op_bin f_add (op_bin f_mul (op_con 110 (op_ild 1 (op_bin f_mul (op_calV 10 2 F_X11_copyRow (op_inc 1 1 (op_jmp 11))))))))))))))
set_option maxRecDepth 100000 in
theorem S_B_X11_remember_11 (g0 : vG) : Snd yX11_remember cX11_remember 2 none 1 0 0 g0 11 B_X11_remember_11 := s_ildn (j := 1) (pc' := 12) (by decide +kernel) rfl rfl (s_bip (n := 16) (pc' := 14) (by decide +kernel) (by decide +kernel) rfl (s_icge (off := 23) (pt := 37) (pc' := 17) (by decide +kernel) (by decide) rfl (s_kil s_jmp) (s_aldn (j := 0) (pc' := 18) (by decide +kernel) rfl rfl (s_bip (n := 110) (pc' := 20) (by decide +kernel) (by decide +kernel) rfl (s_ildn (j := 1) (pc' := 21) (by decide +kernel) rfl rfl (s_con (n := 1) (pc' := 22) (by decide +kernel) (by decide +kernel) rfl (s_add (pc' := 23) (by decide +kernel) rfl (s_mul (pc' := 24) (by decide +kernel) rfl (s_bip (n := 110) (pc' := 26) (by decide +kernel) (by decide +kernel) rfl (s_ildn (j := 1) (pc' := 27) (by decide +kernel) rfl rfl (s_mul (pc' := 28) (by decide +kernel) rfl (s_calV (ci := 10) (pc' := 31) C_X11_copyRow A_X11_copyRow rfl (by decide) w_1095 (by decide) (by decide +kernel) rfl (s_inc (n := 1) (pc' := 34) (by decide +kernel) (by decide +kernel) (by decide) rfl (s_goto (off := (-23)) (pt := 11) (by decide +kernel) (by decide) (s_jmp)))))))))))))))
def K_X11_remember_37 : vD := op_ald 0 (op_dup (op_gfi 10 1 (op_con 1 (op_bin f_sub (op_pfi 10 1 (op_kil [true, false] (op_jmp 47)))))))
set_option maxRecDepth 100000 in
theorem S_K_X11_remember_37 (g0 : vG) : Snd yX11_remember cX11_remember 2 none 1 0 0 g0 37 K_X11_remember_37 := s_aldn (j := 0) (pc' := 38) (by decide +kernel) rfl rfl (s_dup (pc' := 39) (by decide +kernel) rfl (s_gfi (ci := 10) (j := 1) (pc' := 42) rfl g_ok11 (by decide) (by decide) (by decide) rfl w_824 (by decide +kernel) rfl (s_con (n := 1) (pc' := 43) (by decide +kernel) (by decide +kernel) rfl (s_sub (pc' := 44) (by decide +kernel) rfl (s_pfi (ci := 10) (j := 1) (pc' := 47) rfl g_ok11 tyX11 tyX11_ok nmX11 (by decide) (by decide) (by decide) rfl rfl rfl w_824 (by decide +kernel) rfl (s_kil s_jmp))))))
def K_X11_remember_47 : vD := op_ald 0 (op_con 0 (op_con 110 (op_ald 0 (op_gfi 10 1 (op_con 1 (op_bin f_add (op_bin f_mul (op_calV 10 2 F_X11_copyRow (op_ald 0 (op_dup (op_gfi 10 1 (op_con 1 (op_bin f_add (op_pfi 10 1 (op_vret)))))))))))))))
set_option maxRecDepth 100000 in
theorem S_K_X11_remember_47 (g0 : vG) : Snd yX11_remember cX11_remember 2 none 1 0 0 g0 47 K_X11_remember_47 := s_aldn (j := 0) (pc' := 48) (by decide +kernel) rfl rfl (s_con (n := 0) (pc' := 49) (by decide +kernel) (by decide +kernel) rfl (s_bip (n := 110) (pc' := 51) (by decide +kernel) (by decide +kernel) rfl (s_aldn (j := 0) (pc' := 52) (by decide +kernel) rfl rfl (s_gfi (ci := 10) (j := 1) (pc' := 55) rfl g_ok11 (by decide) (by decide) (by decide) rfl w_824 (by decide +kernel) rfl (s_con (n := 1) (pc' := 56) (by decide +kernel) (by decide +kernel) rfl (s_add (pc' := 57) (by decide +kernel) rfl (s_mul (pc' := 58) (by decide +kernel) rfl (s_calV (ci := 10) (pc' := 61) C_X11_copyRow A_X11_copyRow rfl (by decide) w_1095 (by decide) (by decide +kernel) rfl (s_aldn (j := 0) (pc' := 62) (by decide +kernel) rfl rfl (s_dup (pc' := 63) (by decide +kernel) rfl (s_gfi (ci := 10) (j := 1) (pc' := 66) rfl g_ok11 (by decide) (by decide) (by decide) rfl w_824 (by decide +kernel) rfl (s_con (n := 1) (pc' := 67) (by decide +kernel) (by decide +kernel) rfl (s_add (pc' := 68) (by decide +kernel) rfl (s_pfi (ci := 10) (j := 1) (pc' := 71) rfl g_ok11 tyX11 tyX11_ok nmX11 (by decide) (by decide) (by decide) rfl rfl rfl w_824 (by decide +kernel) rfl (s_vret (by decide +kernel) rfl rfl rfl)))))))))))))))
def D_X11_remember : vD := op_ald 0 (op_gfi 10 1 (op_con 16 (op_seq 47 (op_icne (op_kil [true, false] (op_jmp 47)) (op_con 1 (op_ist 1 (op_seq 37 (op_loop 11 B_X11_remember_11 4000) K_X11_remember_37)))) K_X11_remember_47)))
set_option maxRecDepth 100000 in
theorem S_D_X11_remember (g0 : vG) : Snd yX11_remember cX11_remember 2 none 1 0 0 g0 0 D_X11_remember := s_aldn (j := 0) (pc' := 1) (by decide +kernel) rfl rfl (s_gfi (ci := 10) (j := 1) (pc' := 4) rfl g_ok11 (by decide) (by decide) (by decide) rfl w_824 (by decide +kernel) rfl (s_bip (n := 16) (pc' := 6) (by decide +kernel) (by decide +kernel) rfl (s_seq (s_icne (off := 41) (pt := 47) (pc' := 9) (by decide +kernel) (by decide) rfl (s_kil s_jmp) (s_con (n := 1) (pc' := 10) (by decide +kernel) (by decide +kernel) rfl (s_istn (j := 1) (pc' := 11) (by decide +kernel) rfl (by decide) rfl (s_seq (s_loop (S_B_X11_remember_11 g0) 4000) (S_K_X11_remember_37 g0))))) (S_K_X11_remember_47 g0))))
def F_X11_remember : vF := runD D_X11_remember 2
theorem C_X11_remember : Ctr yX11_remember cX11_remember 2 none 1 0 0 F_X11_remember := ctr_of (d := fun _ => D_X11_remember) (by decide +kernel) S_D_X11_remember
theorem A_X11_remember : CaV yX11_remember cX11_remember 2 none 0 := ⟨w_1093, w_56, w_77, w_1094, by unfold Nm; decide +kernel⟩
def B_X11_setter_2 : vD := op_ild 3 (op_con (-1) (op_iceq (op_kil [false, false, false, true] (op_jmp 37)) (op_ald 0 (op_gfr 10 0 (op_ild 3 (op_cal 1 F_X11_styleOf (op_con 1 (op_bin f_add (op_ild 2 (op_bin f_add (op_ial (op_con (-1) (op_icne (op_kil [false, false, false, true] (op_jmp 37)) (op_ald 0 (op_gfr 10 0 (op_ild 3 (op_cal 1 F_X11_styleOf (op_ial (op_ist 3 (op_kil [true, false, true, true] (op_jmp 2)))))))))))))))))))))
set_option maxRecDepth 100000 in
theorem S_B_X11_setter_2 (g0 : vG) : Snd yX11_setter cX11_setter 4 (some .int) 1 0 0 g0 2 B_X11_setter_2 := s_ildn (j := 3) (pc' := 3) (by decide +kernel) rfl rfl (s_con (n := (-1)) (pc' := 4) (by decide +kernel) (by decide +kernel) rfl (s_iceq (off := 33) (pt := 37) (pc' := 7) (by decide +kernel) (by decide) rfl (s_kil s_jmp) (s_aldn (j := 0) (pc' := 8) (by decide +kernel) rfl rfl (s_gfr (ci := 10) (j := 0) (pc' := 11) rfl g_ok11 (by decide) (by decide) (by decide) rfl w_823 (by decide +kernel) rfl (s_ildn (j := 3) (pc' := 12) (by decide +kernel) rfl rfl (s_calS (pc' := 15) C_X11_styleOf A_X11_styleOf w_890 (by decide) (by decide +kernel) rfl (s_con (n := 1) (pc' := 16) (by decide +kernel) (by decide +kernel) rfl (s_add (pc' := 17) (by decide +kernel) rfl (s_ildn (j := 2) (pc' := 18) (by decide +kernel) rfl rfl (s_add (pc' := 19) (by decide +kernel) rfl (s_ial (pc' := 20) (by decide +kernel) rfl (s_con (n := (-1)) (pc' := 21) (by decide +kernel) (by decide +kernel) rfl (s_icne (off := 16) (pt := 37) (pc' := 24) (by decide +kernel) (by decide) rfl (s_kil s_jmp) (s_aldn (j := 0) (pc' := 25) (by decide +kernel) rfl rfl (s_gfr (ci := 10) (j := 0) (pc' := 28) rfl g_ok11 (by decide) (by decide) (by decide) rfl w_823 (by decide +kernel) rfl (s_ildn (j := 3) (pc' := 29) (by decide +kernel) rfl rfl (s_calS (pc' := 32) C_X11_styleOf A_X11_styleOf w_890 (by decide) (by decide +kernel) rfl (s_ial (pc' := 33) (by decide +kernel) rfl (s_istn (j := 3) (pc' := 34) (by decide +kernel) rfl (by decide) rfl (s_goto (off := (-32)) (pt := 2) (by decide +kernel) (by decide) (s_kil s_jmp)))))))))))))))))))))
def K_X11_setter_37 : vD := op_ild 3 (op_ret)
set_option maxRecDepth 100000 in
theorem S_K_X11_setter_37 (g0 : vG) : Snd yX11_setter cX11_setter 4 (some .int) 1 0 0 g0 37 K_X11_setter_37 := s_ildn (j := 3) (pc' := 38) (by decide +kernel) rfl rfl (s_iret (by decide +kernel) rfl rfl rfl)
def D_X11_setter : vD := op_ild 1 (op_ist 3 (op_seq 37 (op_kil [true, false, true, true] (op_loop 2 B_X11_setter_2 4000)) K_X11_setter_37))
set_option maxRecDepth 100000 in
theorem S_D_X11_setter (g0 : vG) : Snd yX11_setter cX11_setter 4 (some .int) 1 0 0 g0 0 D_X11_setter := s_ildn (j := 1) (pc' := 1) (by decide +kernel) rfl rfl (s_istn (j := 3) (pc' := 2) (by decide +kernel) rfl (by decide) rfl (s_seq (s_kil (s_loop (S_B_X11_setter_2 g0) 4000)) (S_K_X11_setter_37 g0)))
def F_X11_setter : vF := runD D_X11_setter 4
theorem C_X11_setter : Ctr yX11_setter cX11_setter 4 (some .int) 1 0 0 F_X11_setter := ctr_of (d := fun _ => D_X11_setter) (by decide +kernel) S_D_X11_setter
theorem A_X11_setter : CaV yX11_setter cX11_setter 4 (some .int) 2 := ⟨w_921, w_25, w_77, w_922, by unfold Nm; decide +kernel⟩
def D_X11_undo : vD := op_ild 1 (op_con 1 (op_con 16 (op_cal 3 F_X11_in (op_ifne (op_ild 1 (op_ald 0 (op_gfi 10 1 (op_icle (op_ald 0 (op_dup (op_gfi 10 1 (op_ild 1 (op_bin f_sub (op_pfi 10 1 (op_ald 0 (op_con 110 (op_ald 0 (op_gfi 10 1 (op_con 1 (op_bin f_add (op_bin f_mul (op_con 0 (op_calV 10 2 F_X11_copyRow (op_ald 0 (op_gfi 10 1 (op_ret)))))))))))))))))) (op_con (-1000000003) (op_ret)))))) (op_con (-1000000002) (op_ret))))))
set_option maxRecDepth 100000 in
theorem S_D_X11_undo (g0 : vG) : Snd yX11_undo cX11_undo 2 (some .int) 1 0 0 g0 0 D_X11_undo := s_ildn (j := 1) (pc' := 1) (by decide +kernel) rfl rfl (s_con (n := 1) (pc' := 2) (by decide +kernel) (by decide +kernel) rfl (s_bip (n := 16) (pc' := 4) (by decide +kernel) (by decide +kernel) rfl (s_calS (pc' := 7) C_X11_in A_X11_in w_1002 (by decide) (by decide +kernel) rfl (s_ifne (off := 6) (pt := 13) (pc' := 10) (by decide +kernel) (by decide) rfl (s_ildn (j := 1) (pc' := 14) (by decide +kernel) rfl rfl (s_aldn (j := 0) (pc' := 15) (by decide +kernel) rfl rfl (s_gfi (ci := 10) (j := 1) (pc' := 18) rfl g_ok11 (by decide) (by decide) (by decide) rfl w_824 (by decide +kernel) rfl (s_icle (off := 6) (pt := 24) (pc' := 21) (by decide +kernel) (by decide) rfl (s_aldn (j := 0) (pc' := 25) (by decide +kernel) rfl rfl (s_dup (pc' := 26) (by decide +kernel) rfl (s_gfi (ci := 10) (j := 1) (pc' := 29) rfl g_ok11 (by decide) (by decide) (by decide) rfl w_824 (by decide +kernel) rfl (s_ildn (j := 1) (pc' := 30) (by decide +kernel) rfl rfl (s_sub (pc' := 31) (by decide +kernel) rfl (s_pfi (ci := 10) (j := 1) (pc' := 34) rfl g_ok11 tyX11 tyX11_ok nmX11 (by decide) (by decide) (by decide) rfl rfl rfl w_824 (by decide +kernel) rfl (s_aldn (j := 0) (pc' := 35) (by decide +kernel) rfl rfl (s_bip (n := 110) (pc' := 37) (by decide +kernel) (by decide +kernel) rfl (s_aldn (j := 0) (pc' := 38) (by decide +kernel) rfl rfl (s_gfi (ci := 10) (j := 1) (pc' := 41) rfl g_ok11 (by decide) (by decide) (by decide) rfl w_824 (by decide +kernel) rfl (s_con (n := 1) (pc' := 42) (by decide +kernel) (by decide +kernel) rfl (s_add (pc' := 43) (by decide +kernel) rfl (s_mul (pc' := 44) (by decide +kernel) rfl (s_con (n := 0) (pc' := 45) (by decide +kernel) (by decide +kernel) rfl (s_calV (ci := 10) (pc' := 48) C_X11_copyRow A_X11_copyRow rfl (by decide) w_1095 (by decide) (by decide +kernel) rfl (s_aldn (j := 0) (pc' := 49) (by decide +kernel) rfl rfl (s_gfi (ci := 10) (j := 1) (pc' := 52) rfl g_ok11 (by decide) (by decide) (by decide) rfl w_824 (by decide +kernel) rfl (s_iret (by decide +kernel) rfl rfl rfl)))))))))))))))))) (s_ldc (pc' := 23) (by decide +kernel) w_1142 rfl (s_iret (by decide +kernel) rfl rfl rfl)))))) (s_ldc (pc' := 12) (by decide +kernel) w_1005 rfl (s_iret (by decide +kernel) rfl rfl rfl))))))
def F_X11_undo : vF := runD D_X11_undo 2
theorem C_X11_undo : Ctr yX11_undo cX11_undo 2 (some .int) 1 0 0 F_X11_undo := ctr_of (d := fun _ => D_X11_undo) (by decide +kernel) S_D_X11_undo
theorem A_X11_undo : CaV yX11_undo cX11_undo 2 (some .int) 1 := ⟨w_1201, w_1202, w_77, w_1203, by unfold Nm; decide +kernel⟩
def K_X11_costBy_10 : vD := op_ald 0 (op_ald 0 (op_gfr 10 10 (op_ild 1 (op_ald 0 (op_gfr 10 9 (op_ild 2 (op_calV 10 4 F_X11_bitsApart (op_bin f_add (op_ret)))))))))
set_option maxRecDepth 100000 in
theorem S_K_X11_costBy_10 (g0 : vG) : Snd yX11_costBy cX11_costBy 3 (some .int) 2 0 0 g0 10 K_X11_costBy_10 := s_aldn (j := 0) (pc' := 11) (by decide +kernel) rfl rfl (s_aldn (j := 0) (pc' := 12) (by decide +kernel) rfl rfl (s_gfr (ci := 10) (j := 10) (pc' := 15) rfl g_ok11 (by decide) (by decide) (by decide) rfl w_833 (by decide +kernel) rfl (s_ildn (j := 1) (pc' := 16) (by decide +kernel) rfl rfl (s_aldn (j := 0) (pc' := 17) (by decide +kernel) rfl rfl (s_gfr (ci := 10) (j := 9) (pc' := 20) rfl g_ok11 (by decide) (by decide) (by decide) rfl w_832 (by decide +kernel) rfl (s_ildn (j := 2) (pc' := 21) (by decide +kernel) rfl rfl (s_calV (ci := 10) (pc' := 24) C_X11_bitsApart A_X11_bitsApart rfl (by decide) w_958 (by decide) (by decide +kernel) rfl (s_add (pc' := 25) (by decide +kernel) rfl (s_iret (by decide +kernel) rfl rfl rfl)))))))))
def D_X11_costBy : vD := op_ild 2 (op_con (-1) (op_seq 10 (op_icne (op_con 1 (op_jmp 10)) (op_con 0 (op_jmp 10))) K_X11_costBy_10))
set_option maxRecDepth 100000 in
theorem S_D_X11_costBy (g0 : vG) : Snd yX11_costBy cX11_costBy 3 (some .int) 2 0 0 g0 0 D_X11_costBy := s_ildn (j := 2) (pc' := 1) (by decide +kernel) rfl rfl (s_con (n := (-1)) (pc' := 2) (by decide +kernel) (by decide +kernel) rfl (s_seq (s_icne (off := 7) (pt := 9) (pc' := 5) (by decide +kernel) (by decide) rfl (s_con (n := 1) (pc' := 10) (by decide +kernel) (by decide +kernel) rfl (s_jmp)) (s_con (n := 0) (pc' := 6) (by decide +kernel) (by decide +kernel) rfl (s_goto (off := 4) (pt := 10) (by decide +kernel) (by decide) (s_jmp)))) (S_K_X11_costBy_10 g0)))
def F_X11_costBy : vF := runD D_X11_costBy 3
theorem C_X11_costBy : Ctr yX11_costBy cX11_costBy 3 (some .int) 2 0 0 F_X11_costBy := ctr_of (d := fun _ => D_X11_costBy) (by decide +kernel) S_D_X11_costBy
theorem A_X11_costBy : CaV yX11_costBy cX11_costBy 3 (some .int) 2 := ⟨w_1032, w_46, w_77, w_1033, by unfold Nm; decide +kernel⟩
def K_X11_from_65 : vD := op_ret
set_option maxRecDepth 100000 in
theorem S_K_X11_from_65 (g0 : vG) : Snd yX11_from cX11_from 4 (some .int) 2 0 0 g0 65 K_X11_from_65 := s_iret (by decide +kernel) rfl rfl rfl
def K_X11_from_15 : vD := op_con (-1000000001) (op_ret)
set_option maxRecDepth 100000 in
theorem S_K_X11_from_15 (g0 : vG) : Snd yX11_from cX11_from 4 (some .int) 2 0 0 g0 15 K_X11_from_15 := s_ldc (pc' := 17) (by decide +kernel) w_1013 rfl (s_iret (by decide +kernel) rfl rfl rfl)
def D_X11_from : vD := op_ald 0 (op_ild 1 (op_calV 10 1 F_X11_isParagraph (op_seq 15 (op_ifeq (op_kil [false, false, false, false] (op_jmp 15)) (op_ild 2 (op_cal 1 F_X11_isProperty (op_ifne (op_ald 0 (op_gfr 10 0 (op_ild 1 (op_cal 1 F_X11_paragraphOf (op_con 1 (op_bin f_add (op_ild 2 (op_bin f_add (op_ial (op_con (-1) (op_iceq (op_ald 0 (op_ald 0 (op_gfr 10 0 (op_ild 1 (op_cal 1 F_X11_paragraphOf (op_ial (op_ild 2 (op_calV 10 2 F_X11_setter (op_ist 3 (op_ild 3 (op_con (-1) (op_seq 65 (op_icne (op_con 10 (op_ild 3 (op_bin f_add (op_kil [false, false, false, false] (op_jmp 65))))) (op_con 0 (op_kil [false, false, false, false] (op_jmp 65)))) K_X11_from_65)))))))))))) (op_con 1 (op_ret))))))))))))) (op_kil [false, false, false, false] (op_jmp 15)))))) K_X11_from_15)))
set_option maxRecDepth 100000 in
theorem S_D_X11_from (g0 : vG) : Snd yX11_from cX11_from 4 (some .int) 2 0 0 g0 0 D_X11_from := s_aldn (j := 0) (pc' := 1) (by decide +kernel) rfl rfl (s_ildn (j := 1) (pc' := 2) (by decide +kernel) rfl rfl (s_calV (ci := 10) (pc' := 5) C_X11_isParagraph A_X11_isParagraph rfl (by decide) w_998 (by decide) (by decide +kernel) rfl (s_seq (s_ifeq (off := 10) (pt := 15) (pc' := 8) (by decide +kernel) (by decide) rfl (s_kil s_jmp) (s_ildn (j := 2) (pc' := 9) (by decide +kernel) rfl rfl (s_calS (pc' := 12) C_X11_isProperty A_X11_isProperty w_1010 (by decide) (by decide +kernel) rfl (s_ifne (off := 6) (pt := 18) (pc' := 15) (by decide +kernel) (by decide) rfl (s_aldn (j := 0) (pc' := 19) (by decide +kernel) rfl rfl (s_gfr (ci := 10) (j := 0) (pc' := 22) rfl g_ok11 (by decide) (by decide) (by decide) rfl w_823 (by decide +kernel) rfl (s_ildn (j := 1) (pc' := 23) (by decide +kernel) rfl rfl (s_calS (pc' := 26) C_X11_paragraphOf A_X11_paragraphOf w_904 (by decide) (by decide +kernel) rfl (s_con (n := 1) (pc' := 27) (by decide +kernel) (by decide +kernel) rfl (s_add (pc' := 28) (by decide +kernel) rfl (s_ildn (j := 2) (pc' := 29) (by decide +kernel) rfl rfl (s_add (pc' := 30) (by decide +kernel) rfl (s_ial (pc' := 31) (by decide +kernel) rfl (s_con (n := (-1)) (pc' := 32) (by decide +kernel) (by decide +kernel) rfl (s_iceq (off := 5) (pt := 37) (pc' := 35) (by decide +kernel) (by decide) rfl (s_aldn (j := 0) (pc' := 38) (by decide +kernel) rfl rfl (s_aldn (j := 0) (pc' := 39) (by decide +kernel) rfl rfl (s_gfr (ci := 10) (j := 0) (pc' := 42) rfl g_ok11 (by decide) (by decide) (by decide) rfl w_823 (by decide +kernel) rfl (s_ildn (j := 1) (pc' := 43) (by decide +kernel) rfl rfl (s_calS (pc' := 46) C_X11_paragraphOf A_X11_paragraphOf w_904 (by decide) (by decide +kernel) rfl (s_ial (pc' := 47) (by decide +kernel) rfl (s_ildn (j := 2) (pc' := 48) (by decide +kernel) rfl rfl (s_calV (ci := 10) (pc' := 51) C_X11_setter A_X11_setter rfl (by decide) w_919 (by decide) (by decide +kernel) rfl (s_istn (j := 3) (pc' := 52) (by decide +kernel) rfl (by decide) rfl (s_ildn (j := 3) (pc' := 53) (by decide +kernel) rfl rfl (s_con (n := (-1)) (pc' := 54) (by decide +kernel) (by decide +kernel) rfl (s_seq (s_icne (off := 7) (pt := 61) (pc' := 57) (by decide +kernel) (by decide) rfl (s_bip (n := 10) (pc' := 63) (by decide +kernel) (by decide +kernel) rfl (s_ildn (j := 3) (pc' := 64) (by decide +kernel) rfl rfl (s_add (pc' := 65) (by decide +kernel) rfl (s_kil s_jmp)))) (s_con (n := 0) (pc' := 58) (by decide +kernel) (by decide +kernel) rfl (s_goto (off := 7) (pt := 65) (by decide +kernel) (by decide) (s_kil s_jmp)))) (S_K_X11_from_65 g0))))))))))))) (s_con (n := 1) (pc' := 36) (by decide +kernel) (by decide +kernel) rfl (s_iret (by decide +kernel) rfl rfl rfl))))))))))))) (s_kil s_jmp))))) (S_K_X11_from_15 g0))))
def F_X11_from : vF := runD D_X11_from 4
theorem C_X11_from : Ctr yX11_from cX11_from 4 (some .int) 2 0 0 F_X11_from := ctr_of (d := fun _ => D_X11_from) (by decide +kernel) S_D_X11_from
theorem A_X11_from : CaV yX11_from cX11_from 4 (some .int) 2 := ⟨w_1015, w_1016, w_77, w_1017, by unfold Nm; decide +kernel⟩
def K_X11_isStyleOrNone_13 : vD := op_con 1 (op_kil [false, false] (op_jmp 18))
set_option maxRecDepth 100000 in
theorem S_K_X11_isStyleOrNone_13 (g0 : vG) : Snd yX11_isStyleOrNone cX11_isStyleOrNone 2 (some .boolean) 2 0 0 g0 13 K_X11_isStyleOrNone_13 := s_con (n := 1) (pc' := 14) (by decide +kernel) (by decide +kernel) rfl (s_goto (off := 4) (pt := 18) (by decide +kernel) (by decide) (s_kil s_jmp))
def K_X11_isStyleOrNone_18 : vD := op_zret
set_option maxRecDepth 100000 in
theorem S_K_X11_isStyleOrNone_18 (g0 : vG) : Snd yX11_isStyleOrNone cX11_isStyleOrNone 2 (some .boolean) 2 0 0 g0 18 K_X11_isStyleOrNone_18 := s_zret (by decide +kernel) rfl nar_bool rfl rfl
def D_X11_isStyleOrNone : vD := op_ild 1 (op_con (-1) (op_seq 18 (op_seq 13 (op_iceq (op_kil [false, false] (op_jmp 13)) (op_ald 0 (op_ild 1 (op_calV 10 1 F_X11_isStyle (op_ifeq (op_con 0 (op_kil [false, false] (op_jmp 18))) (op_kil [false, false] (op_jmp 13))))))) K_X11_isStyleOrNone_13) K_X11_isStyleOrNone_18))
set_option maxRecDepth 100000 in
theorem S_D_X11_isStyleOrNone (g0 : vG) : Snd yX11_isStyleOrNone cX11_isStyleOrNone 2 (some .boolean) 2 0 0 g0 0 D_X11_isStyleOrNone := s_ildn (j := 1) (pc' := 1) (by decide +kernel) rfl rfl (s_con (n := (-1)) (pc' := 2) (by decide +kernel) (by decide +kernel) rfl (s_seq (s_seq (s_iceq (off := 11) (pt := 13) (pc' := 5) (by decide +kernel) (by decide) rfl (s_kil s_jmp) (s_aldn (j := 0) (pc' := 6) (by decide +kernel) rfl rfl (s_ildn (j := 1) (pc' := 7) (by decide +kernel) rfl rfl (s_calV (ci := 10) (pc' := 10) C_X11_isStyle A_X11_isStyle rfl (by decide) w_1046 (by decide) (by decide +kernel) rfl (s_ifeq (off := 7) (pt := 17) (pc' := 13) (by decide +kernel) (by decide) rfl (s_con (n := 0) (pc' := 18) (by decide +kernel) (by decide +kernel) rfl (s_kil s_jmp)) (s_kil s_jmp)))))) (S_K_X11_isStyleOrNone_13 g0)) (S_K_X11_isStyleOrNone_18 g0)))
def F_X11_isStyleOrNone : vF := runD D_X11_isStyleOrNone 2
theorem C_X11_isStyleOrNone : Ctr yX11_isStyleOrNone cX11_isStyleOrNone 2 (some .boolean) 2 0 0 F_X11_isStyleOrNone := ctr_of (d := fun _ => D_X11_isStyleOrNone) (by decide +kernel) S_D_X11_isStyleOrNone
theorem A_X11_isStyleOrNone : CaV yX11_isStyleOrNone cX11_isStyleOrNone 2 (some .boolean) 1 := ⟨w_1076, w_55, w_77, w_1077, by unfold Nm; decide +kernel⟩
def D_X11_lay : vD := op_ald 0 (op_calV 10 0 F_X11_remember (op_ald 0 (op_gfr 10 0 (op_ild 1 (op_ial (op_ist 3 (op_ald 0 (op_gfr 10 0 (op_ild 1 (op_ild 2 (op_ias (op_ild 3 (op_ret)))))))))))))
set_option maxRecDepth 100000 in
theorem S_D_X11_lay (g0 : vG) : Snd yX11_lay cX11_lay 4 (some .int) 2 0 0 g0 0 D_X11_lay := s_aldn (j := 0) (pc' := 1) (by decide +kernel) rfl rfl (s_calV (ci := 10) (pc' := 4) C_X11_remember A_X11_remember rfl (by decide) w_1091 (by decide) (by decide +kernel) rfl (s_aldn (j := 0) (pc' := 5) (by decide +kernel) rfl rfl (s_gfr (ci := 10) (j := 0) (pc' := 8) rfl g_ok11 (by decide) (by decide) (by decide) rfl w_823 (by decide +kernel) rfl (s_ildn (j := 1) (pc' := 9) (by decide +kernel) rfl rfl (s_ial (pc' := 10) (by decide +kernel) rfl (s_istn (j := 3) (pc' := 11) (by decide +kernel) rfl (by decide) rfl (s_aldn (j := 0) (pc' := 12) (by decide +kernel) rfl rfl (s_gfr (ci := 10) (j := 0) (pc' := 15) rfl g_ok11 (by decide) (by decide) (by decide) rfl w_823 (by decide +kernel) rfl (s_ildn (j := 1) (pc' := 16) (by decide +kernel) rfl rfl (s_ildn (j := 2) (pc' := 17) (by decide +kernel) rfl rfl (s_ias (pc' := 18) (by decide +kernel) rfl (s_ildn (j := 3) (pc' := 19) (by decide +kernel) rfl rfl (s_iret (by decide +kernel) rfl rfl rfl)))))))))))))
def F_X11_lay : vF := runD D_X11_lay 4
theorem C_X11_lay : Ctr yX11_lay cX11_lay 4 (some .int) 2 0 0 F_X11_lay := ctr_of (d := fun _ => D_X11_lay) (by decide +kernel) S_D_X11_lay
theorem A_X11_lay : CaV yX11_lay cX11_lay 4 (some .int) 2 := ⟨w_1116, w_59, w_77, w_1117, by unfold Nm; decide +kernel⟩
def B_X11_layLinks_35 : vD := op_ild 4 (op_ild 2 (op_icge (op_kil [true, true, true, true, false] (op_jmp 72)) (op_ald 0 (op_gfr 10 13 (op_con 9 (op_ild 3 (op_bin f_mul (op_ild 4 (op_bin f_add (op_con 1 (op_bin f_add (op_con 2 (op_ald 0 (op_ald 1 (op_ild 3 (op_ald 1 (op_ild 4 (op_calV 10 4 F_X11_bitsApart (op_bin f_add (op_ias (op_inc 4 1 (op_jmp 35))))))))))))))))))))))
set_option maxRecDepth 100000 in
theorem S_B_X11_layLinks_35 (g0 : vG) : Snd yX11_layLinks cX11_layLinks 5 none 2 0 0 g0 35 B_X11_layLinks_35 := s_ild (pc' := 37) (by decide +kernel) rfl (s_ildn (j := 2) (pc' := 38) (by decide +kernel) rfl rfl (s_icge (off := 34) (pt := 72) (pc' := 41) (by decide +kernel) (by decide) rfl (s_kil s_jmp) (s_aldn (j := 0) (pc' := 42) (by decide +kernel) rfl rfl (s_gfr (ci := 10) (j := 13) (pc' := 45) rfl g_ok11 (by decide) (by decide) (by decide) rfl w_836 (by decide +kernel) rfl (s_bip (n := 9) (pc' := 47) (by decide +kernel) (by decide +kernel) rfl (s_ildn (j := 3) (pc' := 48) (by decide +kernel) rfl rfl (s_mul (pc' := 49) (by decide +kernel) rfl (s_ild (pc' := 51) (by decide +kernel) rfl (s_add (pc' := 52) (by decide +kernel) rfl (s_con (n := 1) (pc' := 53) (by decide +kernel) (by decide +kernel) rfl (s_add (pc' := 54) (by decide +kernel) rfl (s_con (n := 2) (pc' := 55) (by decide +kernel) (by decide +kernel) rfl (s_aldn (j := 0) (pc' := 56) (by decide +kernel) rfl rfl (s_aldn (j := 1) (pc' := 57) (by decide +kernel) rfl rfl (s_ildn (j := 3) (pc' := 58) (by decide +kernel) rfl rfl (s_aldn (j := 1) (pc' := 59) (by decide +kernel) rfl rfl (s_ild (pc' := 61) (by decide +kernel) rfl (s_calV (ci := 10) (pc' := 64) C_X11_bitsApart A_X11_bitsApart rfl (by decide) w_958 (by decide) (by decide +kernel) rfl (s_add (pc' := 65) (by decide +kernel) rfl (s_ias (pc' := 66) (by decide +kernel) rfl (s_inc (n := 1) (pc' := 69) (by decide +kernel) (by decide +kernel) (by decide) rfl (s_goto (off := (-34)) (pt := 35) (by decide +kernel) (by decide) (s_jmp)))))))))))))))))))))))
def K_X11_layLinks_72 : vD := op_inc 3 1 (op_kil [true, true, true, true, false] (op_jmp 2))
set_option maxRecDepth 100000 in
theorem S_K_X11_layLinks_72 (g0 : vG) : Snd yX11_layLinks cX11_layLinks 5 none 2 0 0 g0 72 K_X11_layLinks_72 := s_inc (n := 1) (pc' := 75) (by decide +kernel) (by decide +kernel) (by decide) rfl (s_goto (off := (-73)) (pt := 2) (by decide +kernel) (by decide) (s_kil s_jmp))
def B_X11_layLinks_2 : vD := op_ild 3 (op_ild 2 (op_icge (op_kil [false, false, false, false, false] (op_jmp 78)) (op_ald 0 (op_gfr 10 15 (op_ild 3 (op_con (-2) (op_ias (op_ald 0 (op_gfr 10 13 (op_con 9 (op_ild 3 (op_bin f_mul (op_ald 0 (op_ald 1 (op_ild 3 (op_ald 1 (op_con (-1) (op_calV 10 4 F_X11_bitsApart (op_ias (op_con 0 (op_ist 4 (op_seq 72 (op_loop 35 B_X11_layLinks_35 4000) K_X11_layLinks_72))))))))))))))))))))))
set_option maxRecDepth 100000 in
theorem S_B_X11_layLinks_2 (g0 : vG) : Snd yX11_layLinks cX11_layLinks 5 none 2 0 0 g0 2 B_X11_layLinks_2 := s_ildn (j := 3) (pc' := 3) (by decide +kernel) rfl rfl (s_ildn (j := 2) (pc' := 4) (by decide +kernel) rfl rfl (s_icge (off := 74) (pt := 78) (pc' := 7) (by decide +kernel) (by decide) rfl (s_kil s_jmp) (s_aldn (j := 0) (pc' := 8) (by decide +kernel) rfl rfl (s_gfr (ci := 10) (j := 15) (pc' := 11) rfl g_ok11 (by decide) (by decide) (by decide) rfl w_838 (by decide +kernel) rfl (s_ildn (j := 3) (pc' := 12) (by decide +kernel) rfl rfl (s_bip (n := (-2)) (pc' := 14) (by decide +kernel) (by decide +kernel) rfl (s_ias (pc' := 15) (by decide +kernel) rfl (s_aldn (j := 0) (pc' := 16) (by decide +kernel) rfl rfl (s_gfr (ci := 10) (j := 13) (pc' := 19) rfl g_ok11 (by decide) (by decide) (by decide) rfl w_836 (by decide +kernel) rfl (s_bip (n := 9) (pc' := 21) (by decide +kernel) (by decide +kernel) rfl (s_ildn (j := 3) (pc' := 22) (by decide +kernel) rfl rfl (s_mul (pc' := 23) (by decide +kernel) rfl (s_aldn (j := 0) (pc' := 24) (by decide +kernel) rfl rfl (s_aldn (j := 1) (pc' := 25) (by decide +kernel) rfl rfl (s_ildn (j := 3) (pc' := 26) (by decide +kernel) rfl rfl (s_aldn (j := 1) (pc' := 27) (by decide +kernel) rfl rfl (s_con (n := (-1)) (pc' := 28) (by decide +kernel) (by decide +kernel) rfl (s_calV (ci := 10) (pc' := 31) C_X11_bitsApart A_X11_bitsApart rfl (by decide) w_958 (by decide) (by decide +kernel) rfl (s_ias (pc' := 32) (by decide +kernel) rfl (s_con (n := 0) (pc' := 33) (by decide +kernel) (by decide +kernel) rfl (s_ist (pc' := 35) (by decide +kernel) (by decide) rfl (s_seq (s_loop (S_B_X11_layLinks_35 g0) 4000) (S_K_X11_layLinks_72 g0)))))))))))))))))))))))
def K_X11_layLinks_78 : vD := op_vret
set_option maxRecDepth 100000 in
theorem S_K_X11_layLinks_78 (g0 : vG) : Snd yX11_layLinks cX11_layLinks 5 none 2 0 0 g0 78 K_X11_layLinks_78 := s_vret (by decide +kernel) rfl rfl rfl
def D_X11_layLinks : vD := op_con 0 (op_ist 3 (op_seq 78 (op_kil [true, true, true, true, false] (op_loop 2 B_X11_layLinks_2 4000)) K_X11_layLinks_78))
set_option maxRecDepth 100000 in
theorem S_D_X11_layLinks (g0 : vG) : Snd yX11_layLinks cX11_layLinks 5 none 2 0 0 g0 0 D_X11_layLinks := s_con (n := 0) (pc' := 1) (by decide +kernel) (by decide +kernel) rfl (s_istn (j := 3) (pc' := 2) (by decide +kernel) rfl (by decide) rfl (s_seq (s_kil (s_loop (S_B_X11_layLinks_2 g0) 4000)) (S_K_X11_layLinks_78 g0)))
def F_X11_layLinks : vF := runD D_X11_layLinks 5
theorem C_X11_layLinks : Ctr yX11_layLinks cX11_layLinks 5 none 2 0 0 F_X11_layLinks := ctr_of (d := fun _ => D_X11_layLinks) (by decide +kernel) S_D_X11_layLinks
theorem A_X11_layLinks : CaV yX11_layLinks cX11_layLinks 5 none 2 := ⟨w_956, w_33, w_77, w_957, by unfold Nm; decide +kernel⟩
def K_X11_ofStyle_36 : vD := op_ret
set_option maxRecDepth 100000 in
theorem S_K_X11_ofStyle_36 (g0 : vG) : Snd yX11_ofStyle cX11_ofStyle 4 (some .int) 2 0 0 g0 36 K_X11_ofStyle_36 := s_iret (by decide +kernel) rfl rfl rfl
def D_X11_ofStyle : vD := op_ald 0 (op_ild 1 (op_ild 2 (op_calV 10 2 F_X11_setter (op_ist 3 (op_ild 3 (op_con (-1) (op_seq 36 (op_icne (op_ald 0 (op_gfr 10 0 (op_ild 3 (op_cal 1 F_X11_styleOf (op_con 1 (op_bin f_add (op_ild 2 (op_bin f_add (op_ial (op_kil [false, false, false, false] (op_jmp 36))))))))))) (op_ald 0 (op_gfr 10 0 (op_con 3 (op_ild 2 (op_bin f_add (op_ial (op_kil [false, false, false, false] (op_jmp 36))))))))) K_X11_ofStyle_36)))))))
set_option maxRecDepth 100000 in
theorem S_D_X11_ofStyle (g0 : vG) : Snd yX11_ofStyle cX11_ofStyle 4 (some .int) 2 0 0 g0 0 D_X11_ofStyle := s_aldn (j := 0) (pc' := 1) (by decide +kernel) rfl rfl (s_ildn (j := 1) (pc' := 2) (by decide +kernel) rfl rfl (s_ildn (j := 2) (pc' := 3) (by decide +kernel) rfl rfl (s_calV (ci := 10) (pc' := 6) C_X11_setter A_X11_setter rfl (by decide) w_919 (by decide) (by decide +kernel) rfl (s_istn (j := 3) (pc' := 7) (by decide +kernel) rfl (by decide) rfl (s_ildn (j := 3) (pc' := 8) (by decide +kernel) rfl rfl (s_con (n := (-1)) (pc' := 9) (by decide +kernel) (by decide +kernel) rfl (s_seq (s_icne (off := 14) (pt := 23) (pc' := 12) (by decide +kernel) (by decide) rfl (s_aldn (j := 0) (pc' := 24) (by decide +kernel) rfl rfl (s_gfr (ci := 10) (j := 0) (pc' := 27) rfl g_ok11 (by decide) (by decide) (by decide) rfl w_823 (by decide +kernel) rfl (s_ildn (j := 3) (pc' := 28) (by decide +kernel) rfl rfl (s_calS (pc' := 31) C_X11_styleOf A_X11_styleOf w_890 (by decide) (by decide +kernel) rfl (s_con (n := 1) (pc' := 32) (by decide +kernel) (by decide +kernel) rfl (s_add (pc' := 33) (by decide +kernel) rfl (s_ildn (j := 2) (pc' := 34) (by decide +kernel) rfl rfl (s_add (pc' := 35) (by decide +kernel) rfl (s_ial (pc' := 36) (by decide +kernel) rfl (s_kil s_jmp)))))))))) (s_aldn (j := 0) (pc' := 13) (by decide +kernel) rfl rfl (s_gfr (ci := 10) (j := 0) (pc' := 16) rfl g_ok11 (by decide) (by decide) (by decide) rfl w_823 (by decide +kernel) rfl (s_con (n := 3) (pc' := 17) (by decide +kernel) (by decide +kernel) rfl (s_ildn (j := 2) (pc' := 18) (by decide +kernel) rfl rfl (s_add (pc' := 19) (by decide +kernel) rfl (s_ial (pc' := 20) (by decide +kernel) rfl (s_goto (off := 16) (pt := 36) (by decide +kernel) (by decide) (s_kil s_jmp))))))))) (S_K_X11_ofStyle_36 g0))))))))
def F_X11_ofStyle : vF := runD D_X11_ofStyle 4
theorem C_X11_ofStyle : Ctr yX11_ofStyle cX11_ofStyle 4 (some .int) 2 0 0 F_X11_ofStyle := ctr_of (d := fun _ => D_X11_ofStyle) (by decide +kernel) S_D_X11_ofStyle
theorem A_X11_ofStyle : CaV yX11_ofStyle cX11_ofStyle 4 (some .int) 2 := ⟨w_917, w_24, w_77, w_918, by unfold Nm; decide +kernel⟩
def D_X11_paragraph : vD := op_ald 0 (op_gfr 10 0 (op_con 0 (op_ial (op_con 8 (op_icne (op_ald 0 (op_calV 10 0 F_X11_remember (op_ald 0 (op_ald 0 (op_gfr 10 0 (op_con 0 (op_ial (op_cal 1 F_X11_paragraphOf (op_calV 10 1 F_X11_clear (op_ald 0 (op_gfr 10 0 (op_con 0 (op_dup2 (op_ial (op_con 1 (op_bin f_add (op_ias (op_ald 0 (op_gfr 10 0 (op_con 0 (op_ial (op_con 1 (op_bin f_sub (op_ret)))))))))))))))))))))))) (op_con (-1000000004) (op_ret)))))))
set_option maxRecDepth 100000 in
theorem S_D_X11_paragraph (g0 : vG) : Snd yX11_paragraph cX11_paragraph 1 (some .int) 2 0 0 g0 0 D_X11_paragraph := s_aldn (j := 0) (pc' := 1) (by decide +kernel) rfl rfl (s_gfr (ci := 10) (j := 0) (pc' := 4) rfl g_ok11 (by decide) (by decide) (by decide) rfl w_823 (by decide +kernel) rfl (s_con (n := 0) (pc' := 5) (by decide +kernel) (by decide +kernel) rfl (s_ial (pc' := 6) (by decide +kernel) rfl (s_bip (n := 8) (pc' := 8) (by decide +kernel) (by decide +kernel) rfl (s_icne (off := 6) (pt := 14) (pc' := 11) (by decide +kernel) (by decide) rfl (s_aldn (j := 0) (pc' := 15) (by decide +kernel) rfl rfl (s_calV (ci := 10) (pc' := 18) C_X11_remember A_X11_remember rfl (by decide) w_1091 (by decide) (by decide +kernel) rfl (s_aldn (j := 0) (pc' := 19) (by decide +kernel) rfl rfl (s_aldn (j := 0) (pc' := 20) (by decide +kernel) rfl rfl (s_gfr (ci := 10) (j := 0) (pc' := 23) rfl g_ok11 (by decide) (by decide) (by decide) rfl w_823 (by decide +kernel) rfl (s_con (n := 0) (pc' := 24) (by decide +kernel) (by decide +kernel) rfl (s_ial (pc' := 25) (by decide +kernel) rfl (s_calS (pc' := 28) C_X11_paragraphOf A_X11_paragraphOf w_904 (by decide) (by decide +kernel) rfl (s_calV (ci := 10) (pc' := 31) C_X11_clear A_X11_clear rfl (by decide) w_1099 (by decide) (by decide +kernel) rfl (s_aldn (j := 0) (pc' := 32) (by decide +kernel) rfl rfl (s_gfr (ci := 10) (j := 0) (pc' := 35) rfl g_ok11 (by decide) (by decide) (by decide) rfl w_823 (by decide +kernel) rfl (s_con (n := 0) (pc' := 36) (by decide +kernel) (by decide +kernel) rfl (s_dup2 (pc' := 37) (by decide +kernel) rfl (s_ial (pc' := 38) (by decide +kernel) rfl (s_con (n := 1) (pc' := 39) (by decide +kernel) (by decide +kernel) rfl (s_add (pc' := 40) (by decide +kernel) rfl (s_ias (pc' := 41) (by decide +kernel) rfl (s_aldn (j := 0) (pc' := 42) (by decide +kernel) rfl rfl (s_gfr (ci := 10) (j := 0) (pc' := 45) rfl g_ok11 (by decide) (by decide) (by decide) rfl w_823 (by decide +kernel) rfl (s_con (n := 0) (pc' := 46) (by decide +kernel) (by decide +kernel) rfl (s_ial (pc' := 47) (by decide +kernel) rfl (s_con (n := 1) (pc' := 48) (by decide +kernel) (by decide +kernel) rfl (s_sub (pc' := 49) (by decide +kernel) rfl (s_iret (by decide +kernel) rfl rfl rfl)))))))))))))))))))))))) (s_ldc (pc' := 13) (by decide +kernel) w_1090 rfl (s_iret (by decide +kernel) rfl rfl rfl)))))))
def F_X11_paragraph : vF := runD D_X11_paragraph 1
theorem C_X11_paragraph : Ctr yX11_paragraph cX11_paragraph 1 (some .int) 2 0 0 F_X11_paragraph := ctr_of (d := fun _ => D_X11_paragraph) (by decide +kernel) S_D_X11_paragraph
theorem A_X11_paragraph : CaV yX11_paragraph cX11_paragraph 1 (some .int) 0 := ⟨w_1087, w_1088, w_77, w_1089, by unfold Nm; decide +kernel⟩
def K_X11_paragraphCost_20 : vD := op_ald 0 (op_ild 2 (op_calV 10 1 F_X11_bitsAt (op_bin f_add (op_ret))))
set_option maxRecDepth 100000 in
theorem S_K_X11_paragraphCost_20 (g0 : vG) : Snd yX11_paragraphCost cX11_paragraphCost 3 (some .int) 2 0 0 g0 20 K_X11_paragraphCost_20 := s_aldn (j := 0) (pc' := 21) (by decide +kernel) rfl rfl (s_ildn (j := 2) (pc' := 22) (by decide +kernel) rfl rfl (s_calV (ci := 10) (pc' := 25) C_X11_bitsAt A_X11_bitsAt rfl (by decide) w_893 (by decide) (by decide +kernel) rfl (s_add (pc' := 26) (by decide +kernel) rfl (s_iret (by decide +kernel) rfl rfl rfl))))
def D_X11_paragraphCost : vD := op_ild 1 (op_cal 1 F_X11_paragraphOf (op_ist 2 (op_ald 0 (op_gfr 10 0 (op_ild 2 (op_ial (op_con (-1) (op_seq 20 (op_icne (op_con 1 (op_kil [true, false, true] (op_jmp 20))) (op_con 0 (op_kil [true, false, true] (op_jmp 20)))) K_X11_paragraphCost_20))))))))
set_option maxRecDepth 100000 in
theorem S_D_X11_paragraphCost (g0 : vG) : Snd yX11_paragraphCost cX11_paragraphCost 3 (some .int) 2 0 0 g0 0 D_X11_paragraphCost := s_ildn (j := 1) (pc' := 1) (by decide +kernel) rfl rfl (s_calS (pc' := 4) C_X11_paragraphOf A_X11_paragraphOf w_904 (by decide) (by decide +kernel) rfl (s_istn (j := 2) (pc' := 5) (by decide +kernel) rfl (by decide) rfl (s_aldn (j := 0) (pc' := 6) (by decide +kernel) rfl rfl (s_gfr (ci := 10) (j := 0) (pc' := 9) rfl g_ok11 (by decide) (by decide) (by decide) rfl w_823 (by decide +kernel) rfl (s_ildn (j := 2) (pc' := 10) (by decide +kernel) rfl rfl (s_ial (pc' := 11) (by decide +kernel) rfl (s_con (n := (-1)) (pc' := 12) (by decide +kernel) (by decide +kernel) rfl (s_seq (s_icne (off := 7) (pt := 19) (pc' := 15) (by decide +kernel) (by decide) rfl (s_con (n := 1) (pc' := 20) (by decide +kernel) (by decide +kernel) rfl (s_kil s_jmp)) (s_con (n := 0) (pc' := 16) (by decide +kernel) (by decide +kernel) rfl (s_goto (off := 4) (pt := 20) (by decide +kernel) (by decide) (s_kil s_jmp)))) (S_K_X11_paragraphCost_20 g0)))))))))
def F_X11_paragraphCost : vF := runD D_X11_paragraphCost 3
theorem C_X11_paragraphCost : Ctr yX11_paragraphCost cX11_paragraphCost 3 (some .int) 2 0 0 F_X11_paragraphCost := ctr_of (d := fun _ => D_X11_paragraphCost) (by decide +kernel) S_D_X11_paragraphCost
theorem A_X11_paragraphCost : CaV yX11_paragraphCost cX11_paragraphCost 3 (some .int) 1 := ⟨w_902, w_21, w_77, w_903, by unfold Nm; decide +kernel⟩
def D_X11_style : vD := op_ald 0 (op_gfr 10 0 (op_con 1 (op_ial (op_con 6 (op_icne (op_ald 0 (op_calV 10 0 F_X11_remember (op_ald 0 (op_ald 0 (op_gfr 10 0 (op_con 1 (op_ial (op_cal 1 F_X11_styleOf (op_calV 10 1 F_X11_clear (op_ald 0 (op_gfr 10 0 (op_con 1 (op_dup2 (op_ial (op_con 1 (op_bin f_add (op_ias (op_ald 0 (op_gfr 10 0 (op_con 1 (op_ial (op_con 1 (op_bin f_sub (op_ret)))))))))))))))))))))))) (op_con (-1000000004) (op_ret)))))))
set_option maxRecDepth 100000 in
theorem S_D_X11_style (g0 : vG) : Snd yX11_style cX11_style 1 (some .int) 2 0 0 g0 0 D_X11_style := s_aldn (j := 0) (pc' := 1) (by decide +kernel) rfl rfl (s_gfr (ci := 10) (j := 0) (pc' := 4) rfl g_ok11 (by decide) (by decide) (by decide) rfl w_823 (by decide +kernel) rfl (s_con (n := 1) (pc' := 5) (by decide +kernel) (by decide +kernel) rfl (s_ial (pc' := 6) (by decide +kernel) rfl (s_bip (n := 6) (pc' := 8) (by decide +kernel) (by decide +kernel) rfl (s_icne (off := 6) (pt := 14) (pc' := 11) (by decide +kernel) (by decide) rfl (s_aldn (j := 0) (pc' := 15) (by decide +kernel) rfl rfl (s_calV (ci := 10) (pc' := 18) C_X11_remember A_X11_remember rfl (by decide) w_1091 (by decide) (by decide +kernel) rfl (s_aldn (j := 0) (pc' := 19) (by decide +kernel) rfl rfl (s_aldn (j := 0) (pc' := 20) (by decide +kernel) rfl rfl (s_gfr (ci := 10) (j := 0) (pc' := 23) rfl g_ok11 (by decide) (by decide) (by decide) rfl w_823 (by decide +kernel) rfl (s_con (n := 1) (pc' := 24) (by decide +kernel) (by decide +kernel) rfl (s_ial (pc' := 25) (by decide +kernel) rfl (s_calS (pc' := 28) C_X11_styleOf A_X11_styleOf w_890 (by decide) (by decide +kernel) rfl (s_calV (ci := 10) (pc' := 31) C_X11_clear A_X11_clear rfl (by decide) w_1099 (by decide) (by decide +kernel) rfl (s_aldn (j := 0) (pc' := 32) (by decide +kernel) rfl rfl (s_gfr (ci := 10) (j := 0) (pc' := 35) rfl g_ok11 (by decide) (by decide) (by decide) rfl w_823 (by decide +kernel) rfl (s_con (n := 1) (pc' := 36) (by decide +kernel) (by decide +kernel) rfl (s_dup2 (pc' := 37) (by decide +kernel) rfl (s_ial (pc' := 38) (by decide +kernel) rfl (s_con (n := 1) (pc' := 39) (by decide +kernel) (by decide +kernel) rfl (s_add (pc' := 40) (by decide +kernel) rfl (s_ias (pc' := 41) (by decide +kernel) rfl (s_aldn (j := 0) (pc' := 42) (by decide +kernel) rfl rfl (s_gfr (ci := 10) (j := 0) (pc' := 45) rfl g_ok11 (by decide) (by decide) (by decide) rfl w_823 (by decide +kernel) rfl (s_con (n := 1) (pc' := 46) (by decide +kernel) (by decide +kernel) rfl (s_ial (pc' := 47) (by decide +kernel) rfl (s_con (n := 1) (pc' := 48) (by decide +kernel) (by decide +kernel) rfl (s_sub (pc' := 49) (by decide +kernel) rfl (s_iret (by decide +kernel) rfl rfl rfl)))))))))))))))))))))))) (s_ldc (pc' := 13) (by decide +kernel) w_1090 rfl (s_iret (by decide +kernel) rfl rfl rfl)))))))
def F_X11_style : vF := runD D_X11_style 1
theorem C_X11_style : Ctr yX11_style cX11_style 1 (some .int) 2 0 0 F_X11_style := ctr_of (d := fun _ => D_X11_style) (by decide +kernel) S_D_X11_style
theorem A_X11_style : CaV yX11_style cX11_style 1 (some .int) 0 := ⟨w_1104, w_1105, w_77, w_1106, by unfold Nm; decide +kernel⟩
def K_X11_styleCost_26 : vD := op_bin f_add (op_ald 0 (op_ild 2 (op_calV 10 1 F_X11_bitsAt (op_bin f_add (op_ret)))))
set_option maxRecDepth 100000 in
theorem S_K_X11_styleCost_26 (g0 : vG) : Snd yX11_styleCost cX11_styleCost 3 (some .int) 2 0 0 g0 26 K_X11_styleCost_26 := s_add (pc' := 27) (by decide +kernel) rfl (s_aldn (j := 0) (pc' := 28) (by decide +kernel) rfl rfl (s_ildn (j := 2) (pc' := 29) (by decide +kernel) rfl rfl (s_calV (ci := 10) (pc' := 32) C_X11_bitsAt A_X11_bitsAt rfl (by decide) w_893 (by decide) (by decide +kernel) rfl (s_add (pc' := 33) (by decide +kernel) rfl (s_iret (by decide +kernel) rfl rfl rfl)))))
def D_X11_styleCost : vD := op_ild 1 (op_cal 1 F_X11_styleOf (op_ist 2 (op_ald 0 (op_gfr 10 0 (op_con 2 (op_ial (op_ald 0 (op_gfr 10 0 (op_ild 2 (op_ial (op_con (-1) (op_seq 26 (op_icne (op_con 2 (op_kil [true, false, true] (op_jmp 26))) (op_con 0 (op_kil [true, false, true] (op_jmp 26)))) K_X11_styleCost_26))))))))))))
set_option maxRecDepth 100000 in
theorem S_D_X11_styleCost (g0 : vG) : Snd yX11_styleCost cX11_styleCost 3 (some .int) 2 0 0 g0 0 D_X11_styleCost := s_ildn (j := 1) (pc' := 1) (by decide +kernel) rfl rfl (s_calS (pc' := 4) C_X11_styleOf A_X11_styleOf w_890 (by decide) (by decide +kernel) rfl (s_istn (j := 2) (pc' := 5) (by decide +kernel) rfl (by decide) rfl (s_aldn (j := 0) (pc' := 6) (by decide +kernel) rfl rfl (s_gfr (ci := 10) (j := 0) (pc' := 9) rfl g_ok11 (by decide) (by decide) (by decide) rfl w_823 (by decide +kernel) rfl (s_con (n := 2) (pc' := 10) (by decide +kernel) (by decide +kernel) rfl (s_ial (pc' := 11) (by decide +kernel) rfl (s_aldn (j := 0) (pc' := 12) (by decide +kernel) rfl rfl (s_gfr (ci := 10) (j := 0) (pc' := 15) rfl g_ok11 (by decide) (by decide) (by decide) rfl w_823 (by decide +kernel) rfl (s_ildn (j := 2) (pc' := 16) (by decide +kernel) rfl rfl (s_ial (pc' := 17) (by decide +kernel) rfl (s_con (n := (-1)) (pc' := 18) (by decide +kernel) (by decide +kernel) rfl (s_seq (s_icne (off := 7) (pt := 25) (pc' := 21) (by decide +kernel) (by decide) rfl (s_con (n := 2) (pc' := 26) (by decide +kernel) (by decide +kernel) rfl (s_kil s_jmp)) (s_con (n := 0) (pc' := 22) (by decide +kernel) (by decide +kernel) rfl (s_goto (off := 4) (pt := 26) (by decide +kernel) (by decide) (s_kil s_jmp)))) (S_K_X11_styleCost_26 g0)))))))))))))
def F_X11_styleCost : vF := runD D_X11_styleCost 3
theorem C_X11_styleCost : Ctr yX11_styleCost cX11_styleCost 3 (some .int) 2 0 0 F_X11_styleCost := ctr_of (d := fun _ => D_X11_styleCost) (by decide +kernel) S_D_X11_styleCost
theorem A_X11_styleCost : CaV yX11_styleCost cX11_styleCost 3 (some .int) 1 := ⟨w_888, w_19, w_77, w_889, by unfold Nm; decide +kernel⟩
def B_X11_take_20 : vD := op_ild 2 (op_ald 0 (op_gfr 10 0 (op_con 0 (op_ial (op_con 1 (op_bin f_sub (op_cal 1 F_X11_paragraphOf (op_icge (op_kil [true, false, false] (op_jmp 56)) (op_ald 0 (op_gfr 10 0 (op_ild 2 (op_ald 0 (op_gfr 10 0 (op_ild 2 (op_con 7 (op_bin f_add (op_ial (op_ias (op_inc 2 1 (op_kil [true, false, true] (op_jmp 20)))))))))))))))))))))
set_option maxRecDepth 100000 in
theorem S_B_X11_take_20 (g0 : vG) : Snd yX11_take cX11_take 3 (some .int) 2 0 0 g0 20 B_X11_take_20 := s_ildn (j := 2) (pc' := 21) (by decide +kernel) rfl rfl (s_aldn (j := 0) (pc' := 22) (by decide +kernel) rfl rfl (s_gfr (ci := 10) (j := 0) (pc' := 25) rfl g_ok11 (by decide) (by decide) (by decide) rfl w_823 (by decide +kernel) rfl (s_con (n := 0) (pc' := 26) (by decide +kernel) (by decide +kernel) rfl (s_ial (pc' := 27) (by decide +kernel) rfl (s_con (n := 1) (pc' := 28) (by decide +kernel) (by decide +kernel) rfl (s_sub (pc' := 29) (by decide +kernel) rfl (s_calS (pc' := 32) C_X11_paragraphOf A_X11_paragraphOf w_904 (by decide) (by decide +kernel) rfl (s_icge (off := 24) (pt := 56) (pc' := 35) (by decide +kernel) (by decide) rfl (s_kil s_jmp) (s_aldn (j := 0) (pc' := 36) (by decide +kernel) rfl rfl (s_gfr (ci := 10) (j := 0) (pc' := 39) rfl g_ok11 (by decide) (by decide) (by decide) rfl w_823 (by decide +kernel) rfl (s_ildn (j := 2) (pc' := 40) (by decide +kernel) rfl rfl (s_aldn (j := 0) (pc' := 41) (by decide +kernel) rfl rfl (s_gfr (ci := 10) (j := 0) (pc' := 44) rfl g_ok11 (by decide) (by decide) (by decide) rfl w_823 (by decide +kernel) rfl (s_ildn (j := 2) (pc' := 45) (by decide +kernel) rfl rfl (s_bip (n := 7) (pc' := 47) (by decide +kernel) (by decide +kernel) rfl (s_add (pc' := 48) (by decide +kernel) rfl (s_ial (pc' := 49) (by decide +kernel) rfl (s_ias (pc' := 50) (by decide +kernel) rfl (s_inc (n := 1) (pc' := 53) (by decide +kernel) (by decide +kernel) (by decide) rfl (s_goto (off := (-33)) (pt := 20) (by decide +kernel) (by decide) (s_kil s_jmp)))))))))))))))))))))
def K_X11_take_56 : vD := op_ald 0 (op_gfr 10 0 (op_con 0 (op_dup2 (op_ial (op_con 1 (op_bin f_sub (op_ias (op_ald 0 (op_gfr 10 0 (op_con 0 (op_ial (op_ret))))))))))))
set_option maxRecDepth 100000 in
theorem S_K_X11_take_56 (g0 : vG) : Snd yX11_take cX11_take 3 (some .int) 2 0 0 g0 56 K_X11_take_56 := s_aldn (j := 0) (pc' := 57) (by decide +kernel) rfl rfl (s_gfr (ci := 10) (j := 0) (pc' := 60) rfl g_ok11 (by decide) (by decide) (by decide) rfl w_823 (by decide +kernel) rfl (s_con (n := 0) (pc' := 61) (by decide +kernel) (by decide +kernel) rfl (s_dup2 (pc' := 62) (by decide +kernel) rfl (s_ial (pc' := 63) (by decide +kernel) rfl (s_con (n := 1) (pc' := 64) (by decide +kernel) (by decide +kernel) rfl (s_sub (pc' := 65) (by decide +kernel) rfl (s_ias (pc' := 66) (by decide +kernel) rfl (s_aldn (j := 0) (pc' := 67) (by decide +kernel) rfl rfl (s_gfr (ci := 10) (j := 0) (pc' := 70) rfl g_ok11 (by decide) (by decide) (by decide) rfl w_823 (by decide +kernel) rfl (s_con (n := 0) (pc' := 71) (by decide +kernel) (by decide +kernel) rfl (s_ial (pc' := 72) (by decide +kernel) rfl (s_iret (by decide +kernel) rfl rfl rfl))))))))))))
def D_X11_take : vD := op_ald 0 (op_ild 1 (op_calV 10 1 F_X11_isParagraph (op_ifne (op_ald 0 (op_calV 10 0 F_X11_remember (op_ild 1 (op_cal 1 F_X11_paragraphOf (op_ist 2 (op_seq 56 (op_kil [true, false, true] (op_loop 20 B_X11_take_20 4000)) K_X11_take_56)))))) (op_con (-1000000001) (op_ret)))))
set_option maxRecDepth 100000 in
theorem S_D_X11_take (g0 : vG) : Snd yX11_take cX11_take 3 (some .int) 2 0 0 g0 0 D_X11_take := s_aldn (j := 0) (pc' := 1) (by decide +kernel) rfl rfl (s_ildn (j := 1) (pc' := 2) (by decide +kernel) rfl rfl (s_calV (ci := 10) (pc' := 5) C_X11_isParagraph A_X11_isParagraph rfl (by decide) w_998 (by decide) (by decide +kernel) rfl (s_ifne (off := 6) (pt := 11) (pc' := 8) (by decide +kernel) (by decide) rfl (s_aldn (j := 0) (pc' := 12) (by decide +kernel) rfl rfl (s_calV (ci := 10) (pc' := 15) C_X11_remember A_X11_remember rfl (by decide) w_1091 (by decide) (by decide +kernel) rfl (s_ildn (j := 1) (pc' := 16) (by decide +kernel) rfl rfl (s_calS (pc' := 19) C_X11_paragraphOf A_X11_paragraphOf w_904 (by decide) (by decide +kernel) rfl (s_istn (j := 2) (pc' := 20) (by decide +kernel) rfl (by decide) rfl (s_seq (s_kil (s_loop (S_B_X11_take_20 g0) 4000)) (S_K_X11_take_56 g0))))))) (s_ldc (pc' := 10) (by decide +kernel) w_1013 rfl (s_iret (by decide +kernel) rfl rfl rfl)))))
def F_X11_take : vF := runD D_X11_take 3
theorem C_X11_take : Ctr yX11_take cX11_take 3 (some .int) 2 0 0 F_X11_take := ctr_of (d := fun _ => D_X11_take) (by decide +kernel) S_D_X11_take
theorem A_X11_take : CaV yX11_take cX11_take 3 (some .int) 1 := ⟨w_1164, w_1165, w_77, w_1166, by unfold Nm; decide +kernel⟩
def K_X11_write_15 : vD := op_con (-1000000001) (op_ret)
set_option maxRecDepth 100000 in
theorem S_K_X11_write_15 (g0 : vG) : Snd yX11_write cX11_write 4 (some .int) 2 0 0 g0 15 K_X11_write_15 := s_ldc (pc' := 17) (by decide +kernel) w_1013 rfl (s_iret (by decide +kernel) rfl rfl rfl)
def D_X11_write : vD := op_ald 0 (op_ild 1 (op_calV 10 1 F_X11_isParagraph (op_seq 15 (op_ifeq (op_kil [false, false, false, false] (op_jmp 15)) (op_ild 2 (op_cal 1 F_X11_isProperty (op_ifne (op_ald 0 (op_gfi 10 8 (op_con 20 (op_icne (op_ald 0 (op_gfr 10 5 (op_ald 0 (op_gfi 10 8 (op_ild 1 (op_ias (op_ald 0 (op_gfr 10 6 (op_ald 0 (op_gfi 10 8 (op_ild 2 (op_ias (op_ald 0 (op_gfr 10 7 (op_ald 0 (op_gfi 10 8 (op_ild 3 (op_ias (op_ald 0 (op_dup (op_gfi 10 8 (op_con 1 (op_bin f_add (op_pfi 10 8 (op_ald 0 (op_gfi 10 8 (op_ret))))))))))))))))))))))))))) (op_con (-1000000004) (op_ret)))))) (op_kil [false, false, false, false] (op_jmp 15)))))) K_X11_write_15)))
set_option maxRecDepth 100000 in
theorem S_D_X11_write (g0 : vG) : Snd yX11_write cX11_write 4 (some .int) 2 0 0 g0 0 D_X11_write := s_aldn (j := 0) (pc' := 1) (by decide +kernel) rfl rfl (s_ildn (j := 1) (pc' := 2) (by decide +kernel) rfl rfl (s_calV (ci := 10) (pc' := 5) C_X11_isParagraph A_X11_isParagraph rfl (by decide) w_998 (by decide) (by decide +kernel) rfl (s_seq (s_ifeq (off := 10) (pt := 15) (pc' := 8) (by decide +kernel) (by decide) rfl (s_kil s_jmp) (s_ildn (j := 2) (pc' := 9) (by decide +kernel) rfl rfl (s_calS (pc' := 12) C_X11_isProperty A_X11_isProperty w_1010 (by decide) (by decide +kernel) rfl (s_ifne (off := 6) (pt := 18) (pc' := 15) (by decide +kernel) (by decide) rfl (s_aldn (j := 0) (pc' := 19) (by decide +kernel) rfl rfl (s_gfi (ci := 10) (j := 8) (pc' := 22) rfl g_ok11 (by decide) (by decide) (by decide) rfl w_831 (by decide +kernel) rfl (s_bip (n := 20) (pc' := 24) (by decide +kernel) (by decide +kernel) rfl (s_icne (off := 6) (pt := 30) (pc' := 27) (by decide +kernel) (by decide) rfl (s_aldn (j := 0) (pc' := 31) (by decide +kernel) rfl rfl (s_gfr (ci := 10) (j := 5) (pc' := 34) rfl g_ok11 (by decide) (by decide) (by decide) rfl w_828 (by decide +kernel) rfl (s_aldn (j := 0) (pc' := 35) (by decide +kernel) rfl rfl (s_gfi (ci := 10) (j := 8) (pc' := 38) rfl g_ok11 (by decide) (by decide) (by decide) rfl w_831 (by decide +kernel) rfl (s_ildn (j := 1) (pc' := 39) (by decide +kernel) rfl rfl (s_ias (pc' := 40) (by decide +kernel) rfl (s_aldn (j := 0) (pc' := 41) (by decide +kernel) rfl rfl (s_gfr (ci := 10) (j := 6) (pc' := 44) rfl g_ok11 (by decide) (by decide) (by decide) rfl w_829 (by decide +kernel) rfl (s_aldn (j := 0) (pc' := 45) (by decide +kernel) rfl rfl (s_gfi (ci := 10) (j := 8) (pc' := 48) rfl g_ok11 (by decide) (by decide) (by decide) rfl w_831 (by decide +kernel) rfl (s_ildn (j := 2) (pc' := 49) (by decide +kernel) rfl rfl (s_ias (pc' := 50) (by decide +kernel) rfl (s_aldn (j := 0) (pc' := 51) (by decide +kernel) rfl rfl (s_gfr (ci := 10) (j := 7) (pc' := 54) rfl g_ok11 (by decide) (by decide) (by decide) rfl w_830 (by decide +kernel) rfl (s_aldn (j := 0) (pc' := 55) (by decide +kernel) rfl rfl (s_gfi (ci := 10) (j := 8) (pc' := 58) rfl g_ok11 (by decide) (by decide) (by decide) rfl w_831 (by decide +kernel) rfl (s_ildn (j := 3) (pc' := 59) (by decide +kernel) rfl rfl (s_ias (pc' := 60) (by decide +kernel) rfl (s_aldn (j := 0) (pc' := 61) (by decide +kernel) rfl rfl (s_dup (pc' := 62) (by decide +kernel) rfl (s_gfi (ci := 10) (j := 8) (pc' := 65) rfl g_ok11 (by decide) (by decide) (by decide) rfl w_831 (by decide +kernel) rfl (s_con (n := 1) (pc' := 66) (by decide +kernel) (by decide +kernel) rfl (s_add (pc' := 67) (by decide +kernel) rfl (s_pfi (ci := 10) (j := 8) (pc' := 70) rfl g_ok11 tyX11 tyX11_ok nmX11 (by decide) (by decide) (by decide) rfl rfl rfl w_831 (by decide +kernel) rfl (s_aldn (j := 0) (pc' := 71) (by decide +kernel) rfl rfl (s_gfi (ci := 10) (j := 8) (pc' := 74) rfl g_ok11 (by decide) (by decide) (by decide) rfl w_831 (by decide +kernel) rfl (s_iret (by decide +kernel) rfl rfl rfl))))))))))))))))))))))))))) (s_ldc (pc' := 29) (by decide +kernel) w_1090 rfl (s_iret (by decide +kernel) rfl rfl rfl)))))) (s_kil s_jmp))))) (S_K_X11_write_15 g0))))
def F_X11_write : vF := runD D_X11_write 4
theorem C_X11_write : Ctr yX11_write cX11_write 4 (some .int) 2 0 0 F_X11_write := ctr_of (d := fun _ => D_X11_write) (by decide +kernel) S_D_X11_write
theorem A_X11_write : CaV yX11_write cX11_write 4 (some .int) 3 := ⟨w_1205, w_1206, w_77, w_1207, by unfold Nm; decide +kernel⟩
def K_X11_apply_28 : vD := op_con (-1000000001) (op_kil [false, false, false] (op_jmp 30))
set_option maxRecDepth 100000 in
theorem S_K_X11_apply_28 (g0 : vG) : Snd yX11_apply cX11_apply 3 (some .int) 3 0 0 g0 28 K_X11_apply_28 := s_ldc (pc' := 30) (by decide +kernel) w_1013 rfl (s_kil s_jmp)
def K_X11_apply_30 : vD := op_ret
set_option maxRecDepth 100000 in
theorem S_K_X11_apply_30 (g0 : vG) : Snd yX11_apply cX11_apply 3 (some .int) 3 0 0 g0 30 K_X11_apply_30 := s_iret (by decide +kernel) rfl rfl rfl
def D_X11_apply : vD := op_ald 0 (op_ild 1 (op_calV 10 1 F_X11_isParagraph (op_seq 30 (op_seq 28 (op_ifeq (op_kil [false, false, false] (op_jmp 28)) (op_ald 0 (op_ild 2 (op_calV 10 1 F_X11_isStyleOrNone (op_ifeq (op_kil [false, false, false] (op_jmp 28)) (op_ald 0 (op_ild 1 (op_cal 1 F_X11_paragraphOf (op_ild 2 (op_calV 10 2 F_X11_lay (op_kil [false, false, false] (op_jmp 30)))))))))))) K_X11_apply_28) K_X11_apply_30)))
set_option maxRecDepth 100000 in
theorem S_D_X11_apply (g0 : vG) : Snd yX11_apply cX11_apply 3 (some .int) 3 0 0 g0 0 D_X11_apply := s_aldn (j := 0) (pc' := 1) (by decide +kernel) rfl rfl (s_ildn (j := 1) (pc' := 2) (by decide +kernel) rfl rfl (s_calV (ci := 10) (pc' := 5) C_X11_isParagraph A_X11_isParagraph rfl (by decide) w_998 (by decide) (by decide +kernel) rfl (s_seq (s_seq (s_ifeq (off := 23) (pt := 28) (pc' := 8) (by decide +kernel) (by decide) rfl (s_kil s_jmp) (s_aldn (j := 0) (pc' := 9) (by decide +kernel) rfl rfl (s_ildn (j := 2) (pc' := 10) (by decide +kernel) rfl rfl (s_calV (ci := 10) (pc' := 13) C_X11_isStyleOrNone A_X11_isStyleOrNone rfl (by decide) w_1074 (by decide) (by decide +kernel) rfl (s_ifeq (off := 15) (pt := 28) (pc' := 16) (by decide +kernel) (by decide) rfl (s_kil s_jmp) (s_aldn (j := 0) (pc' := 17) (by decide +kernel) rfl rfl (s_ildn (j := 1) (pc' := 18) (by decide +kernel) rfl rfl (s_calS (pc' := 21) C_X11_paragraphOf A_X11_paragraphOf w_904 (by decide) (by decide +kernel) rfl (s_ildn (j := 2) (pc' := 22) (by decide +kernel) rfl rfl (s_calV (ci := 10) (pc' := 25) C_X11_lay A_X11_lay rfl (by decide) w_1114 (by decide) (by decide +kernel) rfl (s_goto (off := 5) (pt := 30) (by decide +kernel) (by decide) (s_kil s_jmp)))))))))))) (S_K_X11_apply_28 g0)) (S_K_X11_apply_30 g0))))
def F_X11_apply : vF := runD D_X11_apply 3
theorem C_X11_apply : Ctr yX11_apply cX11_apply 3 (some .int) 3 0 0 F_X11_apply := ctr_of (d := fun _ => D_X11_apply) (by decide +kernel) S_D_X11_apply
theorem A_X11_apply : CaV yX11_apply cX11_apply 3 (some .int) 2 := ⟨w_1131, w_1132, w_77, w_1133, by unfold Nm; decide +kernel⟩
def B_X11_cost_4 : vD := op_ild 2 (op_ald 0 (op_gfr 10 0 (op_con 1 (op_ial (op_icge (op_kil [true, true, false] (op_jmp 28)) (op_ild 1 (op_ald 0 (op_ild 2 (op_calV 10 1 F_X11_styleCost (op_bin f_add (op_ist 1 (op_inc 2 1 (op_jmp 4)))))))))))))
set_option maxRecDepth 100000 in
theorem S_B_X11_cost_4 (g0 : vG) : Snd yX11_cost cX11_cost 3 (some .int) 3 0 0 g0 4 B_X11_cost_4 := s_ildn (j := 2) (pc' := 5) (by decide +kernel) rfl rfl (s_aldn (j := 0) (pc' := 6) (by decide +kernel) rfl rfl (s_gfr (ci := 10) (j := 0) (pc' := 9) rfl g_ok11 (by decide) (by decide) (by decide) rfl w_823 (by decide +kernel) rfl (s_con (n := 1) (pc' := 10) (by decide +kernel) (by decide +kernel) rfl (s_ial (pc' := 11) (by decide +kernel) rfl (s_icge (off := 17) (pt := 28) (pc' := 14) (by decide +kernel) (by decide) rfl (s_kil s_jmp) (s_ildn (j := 1) (pc' := 15) (by decide +kernel) rfl rfl (s_aldn (j := 0) (pc' := 16) (by decide +kernel) rfl rfl (s_ildn (j := 2) (pc' := 17) (by decide +kernel) rfl rfl (s_calV (ci := 10) (pc' := 20) C_X11_styleCost A_X11_styleCost rfl (by decide) w_886 (by decide) (by decide +kernel) rfl (s_add (pc' := 21) (by decide +kernel) rfl (s_istn (j := 1) (pc' := 22) (by decide +kernel) rfl (by decide) rfl (s_inc (n := 1) (pc' := 25) (by decide +kernel) (by decide +kernel) (by decide) rfl (s_goto (off := (-21)) (pt := 4) (by decide +kernel) (by decide) (s_jmp))))))))))))))
def B_X11_cost_30 : vD := op_ild 2 (op_ald 0 (op_gfr 10 0 (op_con 0 (op_ial (op_icge (op_kil [false, true, false] (op_jmp 54)) (op_ild 1 (op_ald 0 (op_ild 2 (op_calV 10 1 F_X11_paragraphCost (op_bin f_add (op_ist 1 (op_inc 2 1 (op_jmp 30)))))))))))))
set_option maxRecDepth 100000 in
theorem S_B_X11_cost_30 (g0 : vG) : Snd yX11_cost cX11_cost 3 (some .int) 3 0 0 g0 30 B_X11_cost_30 := s_ildn (j := 2) (pc' := 31) (by decide +kernel) rfl rfl (s_aldn (j := 0) (pc' := 32) (by decide +kernel) rfl rfl (s_gfr (ci := 10) (j := 0) (pc' := 35) rfl g_ok11 (by decide) (by decide) (by decide) rfl w_823 (by decide +kernel) rfl (s_con (n := 0) (pc' := 36) (by decide +kernel) (by decide +kernel) rfl (s_ial (pc' := 37) (by decide +kernel) rfl (s_icge (off := 17) (pt := 54) (pc' := 40) (by decide +kernel) (by decide) rfl (s_kil s_jmp) (s_ildn (j := 1) (pc' := 41) (by decide +kernel) rfl rfl (s_aldn (j := 0) (pc' := 42) (by decide +kernel) rfl rfl (s_ildn (j := 2) (pc' := 43) (by decide +kernel) rfl rfl (s_calV (ci := 10) (pc' := 46) C_X11_paragraphCost A_X11_paragraphCost rfl (by decide) w_900 (by decide) (by decide +kernel) rfl (s_add (pc' := 47) (by decide +kernel) rfl (s_istn (j := 1) (pc' := 48) (by decide +kernel) rfl (by decide) rfl (s_inc (n := 1) (pc' := 51) (by decide +kernel) (by decide +kernel) (by decide) rfl (s_goto (off := (-21)) (pt := 30) (by decide +kernel) (by decide) (s_jmp))))))))))))))
def K_X11_cost_54 : vD := op_ild 1 (op_ret)
set_option maxRecDepth 100000 in
theorem S_K_X11_cost_54 (g0 : vG) : Snd yX11_cost cX11_cost 3 (some .int) 3 0 0 g0 54 K_X11_cost_54 := s_ildn (j := 1) (pc' := 55) (by decide +kernel) rfl rfl (s_iret (by decide +kernel) rfl rfl rfl)
def K_X11_cost_28 : vD := op_con 0 (op_ist 2 (op_seq 54 (op_loop 30 B_X11_cost_30 4000) K_X11_cost_54))
set_option maxRecDepth 100000 in
theorem S_K_X11_cost_28 (g0 : vG) : Snd yX11_cost cX11_cost 3 (some .int) 3 0 0 g0 28 K_X11_cost_28 := s_con (n := 0) (pc' := 29) (by decide +kernel) (by decide +kernel) rfl (s_istn (j := 2) (pc' := 30) (by decide +kernel) rfl (by decide) rfl (s_seq (s_loop (S_B_X11_cost_30 g0) 4000) (S_K_X11_cost_54 g0)))
def D_X11_cost : vD := op_con 0 (op_ist 1 (op_con 0 (op_ist 2 (op_seq 28 (op_loop 4 B_X11_cost_4 4000) K_X11_cost_28))))
set_option maxRecDepth 100000 in
theorem S_D_X11_cost (g0 : vG) : Snd yX11_cost cX11_cost 3 (some .int) 3 0 0 g0 0 D_X11_cost := s_con (n := 0) (pc' := 1) (by decide +kernel) (by decide +kernel) rfl (s_istn (j := 1) (pc' := 2) (by decide +kernel) rfl (by decide) rfl (s_con (n := 0) (pc' := 3) (by decide +kernel) (by decide +kernel) rfl (s_istn (j := 2) (pc' := 4) (by decide +kernel) rfl (by decide) rfl (s_seq (s_loop (S_B_X11_cost_4 g0) 4000) (S_K_X11_cost_28 g0)))))
def F_X11_cost : vF := runD D_X11_cost 3
theorem C_X11_cost : Ctr yX11_cost cX11_cost 3 (some .int) 3 0 0 F_X11_cost := ctr_of (d := fun _ => D_X11_cost) (by decide +kernel) S_D_X11_cost
theorem A_X11_cost : CaV yX11_cost cX11_cost 3 (some .int) 0 := ⟨w_884, w_18, w_77, w_885, by unfold Nm; decide +kernel⟩
def K_X11_direct_31 : vD := op_ald 0 (op_ild 1 (op_cal 1 F_X11_paragraphOf (op_con 1 (op_bin f_add (op_ild 2 (op_bin f_add (op_ild 3 (op_calV 10 2 F_X11_lay (op_kil [false, false, false, false] (op_jmp 49))))))))))
set_option maxRecDepth 100000 in
theorem S_K_X11_direct_31 (g0 : vG) : Snd yX11_direct cX11_direct 4 (some .int) 3 0 0 g0 31 K_X11_direct_31 := s_aldn (j := 0) (pc' := 32) (by decide +kernel) rfl rfl (s_ildn (j := 1) (pc' := 33) (by decide +kernel) rfl rfl (s_calS (pc' := 36) C_X11_paragraphOf A_X11_paragraphOf w_904 (by decide) (by decide +kernel) rfl (s_con (n := 1) (pc' := 37) (by decide +kernel) (by decide +kernel) rfl (s_add (pc' := 38) (by decide +kernel) rfl (s_ildn (j := 2) (pc' := 39) (by decide +kernel) rfl rfl (s_add (pc' := 40) (by decide +kernel) rfl (s_ildn (j := 3) (pc' := 41) (by decide +kernel) rfl rfl (s_calV (ci := 10) (pc' := 44) C_X11_lay A_X11_lay rfl (by decide) w_1114 (by decide) (by decide +kernel) rfl (s_goto (off := 5) (pt := 49) (by decide +kernel) (by decide) (s_kil s_jmp))))))))))
def K_X11_direct_49 : vD := op_ret
set_option maxRecDepth 100000 in
theorem S_K_X11_direct_49 (g0 : vG) : Snd yX11_direct cX11_direct 4 (some .int) 3 0 0 g0 49 K_X11_direct_49 := s_iret (by decide +kernel) rfl rfl rfl
def K_X11_direct_15 : vD := op_con (-1000000001) (op_ret)
set_option maxRecDepth 100000 in
theorem S_K_X11_direct_15 (g0 : vG) : Snd yX11_direct cX11_direct 4 (some .int) 3 0 0 g0 15 K_X11_direct_15 := s_ldc (pc' := 17) (by decide +kernel) w_1013 rfl (s_iret (by decide +kernel) rfl rfl rfl)
def D_X11_direct : vD := op_ald 0 (op_ild 1 (op_calV 10 1 F_X11_isParagraph (op_seq 15 (op_ifeq (op_kil [false, false, false, false] (op_jmp 15)) (op_ild 2 (op_cal 1 F_X11_isProperty (op_ifne (op_ild 3 (op_con (-1) (op_seq 49 (op_seq 31 (op_iceq (op_jmp 31) (op_ild 2 (op_ild 3 (op_cal 2 F_X11_isValue (op_ifeq (op_con (-1000000002) (op_kil [false, false, false, false] (op_jmp 49))) (op_jmp 31)))))) K_X11_direct_31) K_X11_direct_49))) (op_kil [false, false, false, false] (op_jmp 15)))))) K_X11_direct_15)))
set_option maxRecDepth 100000 in
theorem S_D_X11_direct (g0 : vG) : Snd yX11_direct cX11_direct 4 (some .int) 3 0 0 g0 0 D_X11_direct := s_aldn (j := 0) (pc' := 1) (by decide +kernel) rfl rfl (s_ildn (j := 1) (pc' := 2) (by decide +kernel) rfl rfl (s_calV (ci := 10) (pc' := 5) C_X11_isParagraph A_X11_isParagraph rfl (by decide) w_998 (by decide) (by decide +kernel) rfl (s_seq (s_ifeq (off := 10) (pt := 15) (pc' := 8) (by decide +kernel) (by decide) rfl (s_kil s_jmp) (s_ildn (j := 2) (pc' := 9) (by decide +kernel) rfl rfl (s_calS (pc' := 12) C_X11_isProperty A_X11_isProperty w_1010 (by decide) (by decide +kernel) rfl (s_ifne (off := 6) (pt := 18) (pc' := 15) (by decide +kernel) (by decide) rfl (s_ildn (j := 3) (pc' := 19) (by decide +kernel) rfl rfl (s_con (n := (-1)) (pc' := 20) (by decide +kernel) (by decide +kernel) rfl (s_seq (s_seq (s_iceq (off := 11) (pt := 31) (pc' := 23) (by decide +kernel) (by decide) rfl (s_jmp) (s_ildn (j := 2) (pc' := 24) (by decide +kernel) rfl rfl (s_ildn (j := 3) (pc' := 25) (by decide +kernel) rfl rfl (s_calS (pc' := 28) C_X11_isValue A_X11_isValue w_1111 (by decide) (by decide +kernel) rfl (s_ifeq (off := 19) (pt := 47) (pc' := 31) (by decide +kernel) (by decide) rfl (s_ldc (pc' := 49) (by decide +kernel) w_1005 rfl (s_kil s_jmp)) (s_jmp)))))) (S_K_X11_direct_31 g0)) (S_K_X11_direct_49 g0)))) (s_kil s_jmp))))) (S_K_X11_direct_15 g0))))
def F_X11_direct : vF := runD D_X11_direct 4
theorem C_X11_direct : Ctr yX11_direct cX11_direct 4 (some .int) 3 0 0 F_X11_direct := ctr_of (d := fun _ => D_X11_direct) (by decide +kernel) S_D_X11_direct
theorem A_X11_direct : CaV yX11_direct cX11_direct 4 (some .int) 3 := ⟨w_1108, w_1109, w_77, w_1110, by unfold Nm; decide +kernel⟩
def K_X11_drift_77 : vD := op_ias (op_inc 4 1 (op_jmp 39))
set_option maxRecDepth 100000 in
theorem S_K_X11_drift_77 (g0 : vG) : Snd yX11_drift cX11_drift 5 (some .int) 3 0 0 g0 77 K_X11_drift_77 := s_ias (pc' := 78) (by decide +kernel) rfl (s_inc (n := 1) (pc' := 81) (by decide +kernel) (by decide +kernel) (by decide) rfl (s_goto (off := (-42)) (pt := 39) (by decide +kernel) (by decide) (s_jmp)))
def B_X11_drift_39 : vD := op_ild 4 (op_con 6 (op_icge (op_kil [true, true, true, false, false] (op_jmp 84)) (op_ald 0 (op_gfr 10 0 (op_ild 3 (op_cal 1 F_X11_paragraphOf (op_con 1 (op_bin f_add (op_ild 4 (op_bin f_add (op_ald 0 (op_con 3 (op_calV 10 1 F_X11_draw (op_seq 77 (op_ifne (op_ald 0 (op_ild 4 (op_calV 10 1 F_X11_drawValue (op_jmp 77)))) (op_con (-1) (op_jmp 77))) K_X11_drift_77))))))))))))))
set_option maxRecDepth 100000 in
theorem S_B_X11_drift_39 (g0 : vG) : Snd yX11_drift cX11_drift 5 (some .int) 3 0 0 g0 39 B_X11_drift_39 := s_ild (pc' := 41) (by decide +kernel) rfl (s_bip (n := 6) (pc' := 43) (by decide +kernel) (by decide +kernel) rfl (s_icge (off := 41) (pt := 84) (pc' := 46) (by decide +kernel) (by decide) rfl (s_kil s_jmp) (s_aldn (j := 0) (pc' := 47) (by decide +kernel) rfl rfl (s_gfr (ci := 10) (j := 0) (pc' := 50) rfl g_ok11 (by decide) (by decide) (by decide) rfl w_823 (by decide +kernel) rfl (s_ildn (j := 3) (pc' := 51) (by decide +kernel) rfl rfl (s_calS (pc' := 54) C_X11_paragraphOf A_X11_paragraphOf w_904 (by decide) (by decide +kernel) rfl (s_con (n := 1) (pc' := 55) (by decide +kernel) (by decide +kernel) rfl (s_add (pc' := 56) (by decide +kernel) rfl (s_ild (pc' := 58) (by decide +kernel) rfl (s_add (pc' := 59) (by decide +kernel) rfl (s_aldn (j := 0) (pc' := 60) (by decide +kernel) rfl rfl (s_con (n := 3) (pc' := 61) (by decide +kernel) (by decide +kernel) rfl (s_calV (ci := 10) (pc' := 64) C_X11_draw A_X11_draw rfl (by decide) w_1188 (by decide) (by decide +kernel) rfl (s_seq (s_ifne (off := 7) (pt := 71) (pc' := 67) (by decide +kernel) (by decide) rfl (s_aldn (j := 0) (pc' := 72) (by decide +kernel) rfl rfl (s_ild (pc' := 74) (by decide +kernel) rfl (s_calV (ci := 10) (pc' := 77) C_X11_drawValue A_X11_drawValue rfl (by decide) w_1196 (by decide) (by decide +kernel) rfl (s_jmp)))) (s_con (n := (-1)) (pc' := 68) (by decide +kernel) (by decide +kernel) rfl (s_goto (off := 9) (pt := 77) (by decide +kernel) (by decide) (s_jmp)))) (S_K_X11_drift_77 g0)))))))))))))))
def K_X11_drift_84 : vD := op_inc 2 1 (op_kil [true, true, true, false, false] (op_jmp 15))
set_option maxRecDepth 100000 in
theorem S_K_X11_drift_84 (g0 : vG) : Snd yX11_drift cX11_drift 5 (some .int) 3 0 0 g0 84 K_X11_drift_84 := s_inc (n := 1) (pc' := 87) (by decide +kernel) (by decide +kernel) (by decide) rfl (s_goto (off := (-72)) (pt := 15) (by decide +kernel) (by decide) (s_kil s_jmp))
def B_X11_drift_15 : vD := op_ild 2 (op_ild 1 (op_icge (op_kil [true, false, false, false, false] (op_jmp 90)) (op_ald 0 (op_gfr 10 0 (op_con 0 (op_ial (op_con 8 (op_icge (op_kil [true, false, false, false, false] (op_jmp 90)) (op_ald 0 (op_calV 10 0 F_X11_paragraph (op_ist 3 (op_con 0 (op_ist 4 (op_seq 84 (op_loop 39 B_X11_drift_39 4000) K_X11_drift_84))))))))))))))
set_option maxRecDepth 100000 in
theorem S_B_X11_drift_15 (g0 : vG) : Snd yX11_drift cX11_drift 5 (some .int) 3 0 0 g0 15 B_X11_drift_15 := s_ildn (j := 2) (pc' := 16) (by decide +kernel) rfl rfl (s_ildn (j := 1) (pc' := 17) (by decide +kernel) rfl rfl (s_icge (off := 73) (pt := 90) (pc' := 20) (by decide +kernel) (by decide) rfl (s_kil s_jmp) (s_aldn (j := 0) (pc' := 21) (by decide +kernel) rfl rfl (s_gfr (ci := 10) (j := 0) (pc' := 24) rfl g_ok11 (by decide) (by decide) (by decide) rfl w_823 (by decide +kernel) rfl (s_con (n := 0) (pc' := 25) (by decide +kernel) (by decide +kernel) rfl (s_ial (pc' := 26) (by decide +kernel) rfl (s_bip (n := 8) (pc' := 28) (by decide +kernel) (by decide +kernel) rfl (s_icge (off := 62) (pt := 90) (pc' := 31) (by decide +kernel) (by decide) rfl (s_kil s_jmp) (s_aldn (j := 0) (pc' := 32) (by decide +kernel) rfl rfl (s_calV (ci := 10) (pc' := 35) C_X11_paragraph A_X11_paragraph rfl (by decide) w_1187 (by decide) (by decide +kernel) rfl (s_istn (j := 3) (pc' := 36) (by decide +kernel) rfl (by decide) rfl (s_con (n := 0) (pc' := 37) (by decide +kernel) (by decide +kernel) rfl (s_ist (pc' := 39) (by decide +kernel) (by decide) rfl (s_seq (s_loop (S_B_X11_drift_39 g0) 4000) (S_K_X11_drift_84 g0)))))))))))))))
def K_X11_drift_90 : vD := op_ald 0 (op_gfr 10 0 (op_con 0 (op_ial (op_ret))))
set_option maxRecDepth 100000 in
theorem S_K_X11_drift_90 (g0 : vG) : Snd yX11_drift cX11_drift 5 (some .int) 3 0 0 g0 90 K_X11_drift_90 := s_aldn (j := 0) (pc' := 91) (by decide +kernel) rfl rfl (s_gfr (ci := 10) (j := 0) (pc' := 94) rfl g_ok11 (by decide) (by decide) (by decide) rfl w_823 (by decide +kernel) rfl (s_con (n := 0) (pc' := 95) (by decide +kernel) (by decide +kernel) rfl (s_ial (pc' := 96) (by decide +kernel) rfl (s_iret (by decide +kernel) rfl rfl rfl))))
def D_X11_drift : vD := op_ild 1 (op_con 1 (op_con 8 (op_cal 3 F_X11_in (op_ifne (op_con 0 (op_ist 2 (op_seq 90 (op_kil [true, true, true, false, false] (op_loop 15 B_X11_drift_15 4000)) K_X11_drift_90))) (op_con (-1000000002) (op_ret))))))
set_option maxRecDepth 100000 in
theorem S_D_X11_drift (g0 : vG) : Snd yX11_drift cX11_drift 5 (some .int) 3 0 0 g0 0 D_X11_drift := s_ildn (j := 1) (pc' := 1) (by decide +kernel) rfl rfl (s_con (n := 1) (pc' := 2) (by decide +kernel) (by decide +kernel) rfl (s_bip (n := 8) (pc' := 4) (by decide +kernel) (by decide +kernel) rfl (s_calS (pc' := 7) C_X11_in A_X11_in w_1002 (by decide) (by decide +kernel) rfl (s_ifne (off := 6) (pt := 13) (pc' := 10) (by decide +kernel) (by decide) rfl (s_con (n := 0) (pc' := 14) (by decide +kernel) (by decide +kernel) rfl (s_istn (j := 2) (pc' := 15) (by decide +kernel) rfl (by decide) rfl (s_seq (s_kil (s_loop (S_B_X11_drift_15 g0) 4000)) (S_K_X11_drift_90 g0)))) (s_ldc (pc' := 12) (by decide +kernel) w_1005 rfl (s_iret (by decide +kernel) rfl rfl rfl))))))
def F_X11_drift : vF := runD D_X11_drift 5
theorem C_X11_drift : Ctr yX11_drift cX11_drift 5 (some .int) 3 0 0 F_X11_drift := ctr_of (d := fun _ => D_X11_drift) (by decide +kernel) S_D_X11_drift
theorem A_X11_drift : CaV yX11_drift cX11_drift 5 (some .int) 1 := ⟨w_1184, w_1185, w_77, w_1186, by unfold Nm; decide +kernel⟩
def K_X11_ground_31 : vD := op_ret
set_option maxRecDepth 100000 in
theorem S_K_X11_ground_31 (g0 : vG) : Snd yX11_ground cX11_ground 3 (some .int) 3 0 0 g0 31 K_X11_ground_31 := s_iret (by decide +kernel) rfl rfl rfl
def D_X11_ground : vD := op_ild 1 (op_cal 1 F_X11_isProperty (op_ifne (op_ild 1 (op_ild 2 (op_cal 2 F_X11_isValue (op_seq 31 (op_ifeq (op_con (-1000000002) (op_kil [false, false, false] (op_jmp 31))) (op_ald 0 (op_con 3 (op_ild 1 (op_bin f_add (op_ild 2 (op_calV 10 2 F_X11_lay (op_kil [false, false, false] (op_jmp 31))))))))) K_X11_ground_31)))) (op_con (-1000000001) (op_ret))))
set_option maxRecDepth 100000 in
theorem S_D_X11_ground (g0 : vG) : Snd yX11_ground cX11_ground 3 (some .int) 3 0 0 g0 0 D_X11_ground := s_ildn (j := 1) (pc' := 1) (by decide +kernel) rfl rfl (s_calS (pc' := 4) C_X11_isProperty A_X11_isProperty w_1010 (by decide) (by decide +kernel) rfl (s_ifne (off := 6) (pt := 10) (pc' := 7) (by decide +kernel) (by decide) rfl (s_ildn (j := 1) (pc' := 11) (by decide +kernel) rfl rfl (s_ildn (j := 2) (pc' := 12) (by decide +kernel) rfl rfl (s_calS (pc' := 15) C_X11_isValue A_X11_isValue w_1111 (by decide) (by decide +kernel) rfl (s_seq (s_ifeq (off := 14) (pt := 29) (pc' := 18) (by decide +kernel) (by decide) rfl (s_ldc (pc' := 31) (by decide +kernel) w_1005 rfl (s_kil s_jmp)) (s_aldn (j := 0) (pc' := 19) (by decide +kernel) rfl rfl (s_con (n := 3) (pc' := 20) (by decide +kernel) (by decide +kernel) rfl (s_ildn (j := 1) (pc' := 21) (by decide +kernel) rfl rfl (s_add (pc' := 22) (by decide +kernel) rfl (s_ildn (j := 2) (pc' := 23) (by decide +kernel) rfl rfl (s_calV (ci := 10) (pc' := 26) C_X11_lay A_X11_lay rfl (by decide) w_1114 (by decide) (by decide +kernel) rfl (s_goto (off := 5) (pt := 31) (by decide +kernel) (by decide) (s_kil s_jmp))))))))) (S_K_X11_ground_31 g0))))) (s_ldc (pc' := 9) (by decide +kernel) w_1013 rfl (s_iret (by decide +kernel) rfl rfl rfl))))
def F_X11_ground : vF := runD D_X11_ground 3
theorem C_X11_ground : Ctr yX11_ground cX11_ground 3 (some .int) 3 0 0 F_X11_ground := ctr_of (d := fun _ => D_X11_ground) (by decide +kernel) S_D_X11_ground
theorem A_X11_ground : CaV yX11_ground cX11_ground 3 (some .int) 2 := ⟨w_1123, w_1124, w_77, w_1125, by unfold Nm; decide +kernel⟩
def K_X11_head_21 : vD := op_ret
set_option maxRecDepth 100000 in
theorem S_K_X11_head_21 (g0 : vG) : Snd yX11_head cX11_head 2 (some .int) 3 0 0 g0 21 K_X11_head_21 := s_iret (by decide +kernel) rfl rfl rfl
def D_X11_head : vD := op_ild 1 (op_con 1 (op_con 20 (op_cal 3 F_X11_in (op_seq 21 (op_ifeq (op_con (-1000000002) (op_kil [false, false] (op_jmp 21))) (op_ald 0 (op_con 2 (op_ild 1 (op_calV 10 2 F_X11_lay (op_kil [false, false] (op_jmp 21))))))) K_X11_head_21))))
set_option maxRecDepth 100000 in
theorem S_D_X11_head (g0 : vG) : Snd yX11_head cX11_head 2 (some .int) 3 0 0 g0 0 D_X11_head := s_ildn (j := 1) (pc' := 1) (by decide +kernel) rfl rfl (s_con (n := 1) (pc' := 2) (by decide +kernel) (by decide +kernel) rfl (s_bip (n := 20) (pc' := 4) (by decide +kernel) (by decide +kernel) rfl (s_calS (pc' := 7) C_X11_in A_X11_in w_1002 (by decide) (by decide +kernel) rfl (s_seq (s_ifeq (off := 12) (pt := 19) (pc' := 10) (by decide +kernel) (by decide) rfl (s_ldc (pc' := 21) (by decide +kernel) w_1005 rfl (s_kil s_jmp)) (s_aldn (j := 0) (pc' := 11) (by decide +kernel) rfl rfl (s_con (n := 2) (pc' := 12) (by decide +kernel) (by decide +kernel) rfl (s_ildn (j := 1) (pc' := 13) (by decide +kernel) rfl rfl (s_calV (ci := 10) (pc' := 16) C_X11_lay A_X11_lay rfl (by decide) w_1114 (by decide) (by decide +kernel) rfl (s_goto (off := 5) (pt := 21) (by decide +kernel) (by decide) (s_kil s_jmp))))))) (S_K_X11_head_21 g0)))))
def F_X11_head : vF := runD D_X11_head 2
theorem C_X11_head : Ctr yX11_head cX11_head 2 (some .int) 3 0 0 F_X11_head := ctr_of (d := fun _ => D_X11_head) (by decide +kernel) S_D_X11_head
theorem A_X11_head : CaV yX11_head cX11_head 2 (some .int) 1 := ⟨w_1127, w_1128, w_77, w_1129, by unfold Nm; decide +kernel⟩
def K_X11_isNeedlessOfParagraph_41 : vD := op_con 0 (op_kil [false, false, false, false] (op_jmp 42))
set_option maxRecDepth 100000 in
theorem S_K_X11_isNeedlessOfParagraph_41 (g0 : vG) : Snd yX11_isNeedlessOfParagraph cX11_isNeedlessOfParagraph 4 (some .boolean) 3 0 0 g0 41 K_X11_isNeedlessOfParagraph_41 := s_con (n := 0) (pc' := 42) (by decide +kernel) (by decide +kernel) rfl (s_kil s_jmp)
def K_X11_isNeedlessOfParagraph_42 : vD := op_zret
set_option maxRecDepth 100000 in
theorem S_K_X11_isNeedlessOfParagraph_42 (g0 : vG) : Snd yX11_isNeedlessOfParagraph cX11_isNeedlessOfParagraph 4 (some .boolean) 3 0 0 g0 42 K_X11_isNeedlessOfParagraph_42 := s_zret (by decide +kernel) rfl nar_bool rfl rfl
def D_X11_isNeedlessOfParagraph : vD := op_ald 0 (op_gfr 10 0 (op_ild 1 (op_cal 1 F_X11_paragraphOf (op_con 1 (op_bin f_add (op_ild 2 (op_bin f_add (op_ial (op_ist 3 (op_ild 3 (op_con (-1) (op_seq 42 (op_seq 41 (op_iceq (op_kil [false, false, false, false] (op_jmp 41)) (op_ild 3 (op_ald 0 (op_ald 0 (op_gfr 10 0 (op_ild 1 (op_cal 1 F_X11_paragraphOf (op_ial (op_ild 2 (op_calV 10 2 F_X11_ofStyle (op_icne (op_kil [false, false, false, false] (op_jmp 41)) (op_con 1 (op_kil [false, false, false, false] (op_jmp 42)))))))))))))) K_X11_isNeedlessOfParagraph_41) K_X11_isNeedlessOfParagraph_42))))))))))))
set_option maxRecDepth 100000 in
theorem S_D_X11_isNeedlessOfParagraph (g0 : vG) : Snd yX11_isNeedlessOfParagraph cX11_isNeedlessOfParagraph 4 (some .boolean) 3 0 0 g0 0 D_X11_isNeedlessOfParagraph := s_aldn (j := 0) (pc' := 1) (by decide +kernel) rfl rfl (s_gfr (ci := 10) (j := 0) (pc' := 4) rfl g_ok11 (by decide) (by decide) (by decide) rfl w_823 (by decide +kernel) rfl (s_ildn (j := 1) (pc' := 5) (by decide +kernel) rfl rfl (s_calS (pc' := 8) C_X11_paragraphOf A_X11_paragraphOf w_904 (by decide) (by decide +kernel) rfl (s_con (n := 1) (pc' := 9) (by decide +kernel) (by decide +kernel) rfl (s_add (pc' := 10) (by decide +kernel) rfl (s_ildn (j := 2) (pc' := 11) (by decide +kernel) rfl rfl (s_add (pc' := 12) (by decide +kernel) rfl (s_ial (pc' := 13) (by decide +kernel) rfl (s_istn (j := 3) (pc' := 14) (by decide +kernel) rfl (by decide) rfl (s_ildn (j := 3) (pc' := 15) (by decide +kernel) rfl rfl (s_con (n := (-1)) (pc' := 16) (by decide +kernel) (by decide +kernel) rfl (s_seq (s_seq (s_iceq (off := 25) (pt := 41) (pc' := 19) (by decide +kernel) (by decide) rfl (s_kil s_jmp) (s_ildn (j := 3) (pc' := 20) (by decide +kernel) rfl rfl (s_aldn (j := 0) (pc' := 21) (by decide +kernel) rfl rfl (s_aldn (j := 0) (pc' := 22) (by decide +kernel) rfl rfl (s_gfr (ci := 10) (j := 0) (pc' := 25) rfl g_ok11 (by decide) (by decide) (by decide) rfl w_823 (by decide +kernel) rfl (s_ildn (j := 1) (pc' := 26) (by decide +kernel) rfl rfl (s_calS (pc' := 29) C_X11_paragraphOf A_X11_paragraphOf w_904 (by decide) (by decide +kernel) rfl (s_ial (pc' := 30) (by decide +kernel) rfl (s_ildn (j := 2) (pc' := 31) (by decide +kernel) rfl rfl (s_calV (ci := 10) (pc' := 34) C_X11_ofStyle A_X11_ofStyle rfl (by decide) w_915 (by decide) (by decide +kernel) rfl (s_icne (off := 7) (pt := 41) (pc' := 37) (by decide +kernel) (by decide) rfl (s_kil s_jmp) (s_con (n := 1) (pc' := 38) (by decide +kernel) (by decide +kernel) rfl (s_goto (off := 4) (pt := 42) (by decide +kernel) (by decide) (s_kil s_jmp)))))))))))))) (S_K_X11_isNeedlessOfParagraph_41 g0)) (S_K_X11_isNeedlessOfParagraph_42 g0)))))))))))))
def F_X11_isNeedlessOfParagraph : vF := runD D_X11_isNeedlessOfParagraph 4
theorem C_X11_isNeedlessOfParagraph : Ctr yX11_isNeedlessOfParagraph cX11_isNeedlessOfParagraph 4 (some .boolean) 3 0 0 F_X11_isNeedlessOfParagraph := ctr_of (d := fun _ => D_X11_isNeedlessOfParagraph) (by decide +kernel) S_D_X11_isNeedlessOfParagraph
theorem A_X11_isNeedlessOfParagraph : CaV yX11_isNeedlessOfParagraph cX11_isNeedlessOfParagraph 4 (some .boolean) 2 := ⟨w_925, w_26, w_77, w_926, by unfold Nm; decide +kernel⟩
def K_X11_isNeedlessOfStyle_41 : vD := op_con 0 (op_kil [false, false, false, false] (op_jmp 42))
set_option maxRecDepth 100000 in
theorem S_K_X11_isNeedlessOfStyle_41 (g0 : vG) : Snd yX11_isNeedlessOfStyle cX11_isNeedlessOfStyle 4 (some .boolean) 3 0 0 g0 41 K_X11_isNeedlessOfStyle_41 := s_con (n := 0) (pc' := 42) (by decide +kernel) (by decide +kernel) rfl (s_kil s_jmp)
def K_X11_isNeedlessOfStyle_42 : vD := op_zret
set_option maxRecDepth 100000 in
theorem S_K_X11_isNeedlessOfStyle_42 (g0 : vG) : Snd yX11_isNeedlessOfStyle cX11_isNeedlessOfStyle 4 (some .boolean) 3 0 0 g0 42 K_X11_isNeedlessOfStyle_42 := s_zret (by decide +kernel) rfl nar_bool rfl rfl
def D_X11_isNeedlessOfStyle : vD := op_ald 0 (op_gfr 10 0 (op_ild 1 (op_cal 1 F_X11_styleOf (op_con 1 (op_bin f_add (op_ild 2 (op_bin f_add (op_ial (op_ist 3 (op_ild 3 (op_con (-1) (op_seq 42 (op_seq 41 (op_iceq (op_kil [false, false, false, false] (op_jmp 41)) (op_ild 3 (op_ald 0 (op_ald 0 (op_gfr 10 0 (op_ild 1 (op_cal 1 F_X11_styleOf (op_ial (op_ild 2 (op_calV 10 2 F_X11_ofStyle (op_icne (op_kil [false, false, false, false] (op_jmp 41)) (op_con 1 (op_kil [false, false, false, false] (op_jmp 42)))))))))))))) K_X11_isNeedlessOfStyle_41) K_X11_isNeedlessOfStyle_42))))))))))))
set_option maxRecDepth 100000 in
theorem S_D_X11_isNeedlessOfStyle (g0 : vG) : Snd yX11_isNeedlessOfStyle cX11_isNeedlessOfStyle 4 (some .boolean) 3 0 0 g0 0 D_X11_isNeedlessOfStyle := s_aldn (j := 0) (pc' := 1) (by decide +kernel) rfl rfl (s_gfr (ci := 10) (j := 0) (pc' := 4) rfl g_ok11 (by decide) (by decide) (by decide) rfl w_823 (by decide +kernel) rfl (s_ildn (j := 1) (pc' := 5) (by decide +kernel) rfl rfl (s_calS (pc' := 8) C_X11_styleOf A_X11_styleOf w_890 (by decide) (by decide +kernel) rfl (s_con (n := 1) (pc' := 9) (by decide +kernel) (by decide +kernel) rfl (s_add (pc' := 10) (by decide +kernel) rfl (s_ildn (j := 2) (pc' := 11) (by decide +kernel) rfl rfl (s_add (pc' := 12) (by decide +kernel) rfl (s_ial (pc' := 13) (by decide +kernel) rfl (s_istn (j := 3) (pc' := 14) (by decide +kernel) rfl (by decide) rfl (s_ildn (j := 3) (pc' := 15) (by decide +kernel) rfl rfl (s_con (n := (-1)) (pc' := 16) (by decide +kernel) (by decide +kernel) rfl (s_seq (s_seq (s_iceq (off := 25) (pt := 41) (pc' := 19) (by decide +kernel) (by decide) rfl (s_kil s_jmp) (s_ildn (j := 3) (pc' := 20) (by decide +kernel) rfl rfl (s_aldn (j := 0) (pc' := 21) (by decide +kernel) rfl rfl (s_aldn (j := 0) (pc' := 22) (by decide +kernel) rfl rfl (s_gfr (ci := 10) (j := 0) (pc' := 25) rfl g_ok11 (by decide) (by decide) (by decide) rfl w_823 (by decide +kernel) rfl (s_ildn (j := 1) (pc' := 26) (by decide +kernel) rfl rfl (s_calS (pc' := 29) C_X11_styleOf A_X11_styleOf w_890 (by decide) (by decide +kernel) rfl (s_ial (pc' := 30) (by decide +kernel) rfl (s_ildn (j := 2) (pc' := 31) (by decide +kernel) rfl rfl (s_calV (ci := 10) (pc' := 34) C_X11_ofStyle A_X11_ofStyle rfl (by decide) w_915 (by decide) (by decide +kernel) rfl (s_icne (off := 7) (pt := 41) (pc' := 37) (by decide +kernel) (by decide) rfl (s_kil s_jmp) (s_con (n := 1) (pc' := 38) (by decide +kernel) (by decide +kernel) rfl (s_goto (off := 4) (pt := 42) (by decide +kernel) (by decide) (s_kil s_jmp)))))))))))))) (S_K_X11_isNeedlessOfStyle_41 g0)) (S_K_X11_isNeedlessOfStyle_42 g0)))))))))))))
def F_X11_isNeedlessOfStyle : vF := runD D_X11_isNeedlessOfStyle 4
theorem C_X11_isNeedlessOfStyle : Ctr yX11_isNeedlessOfStyle cX11_isNeedlessOfStyle 4 (some .boolean) 3 0 0 F_X11_isNeedlessOfStyle := ctr_of (d := fun _ => D_X11_isNeedlessOfStyle) (by decide +kernel) S_D_X11_isNeedlessOfStyle
theorem A_X11_isNeedlessOfStyle : CaV yX11_isNeedlessOfStyle cX11_isNeedlessOfStyle 4 (some .boolean) 2 := ⟨w_913, w_23, w_77, w_914, by unfold Nm; decide +kernel⟩
def B_X11_layKnit_33 : vD := op_ald 0 (op_ild 2 (op_calV 10 1 F_X11_grown (op_ild 3 (op_iceq (op_kil [true, false, true, true, true, false] (op_jmp 63)) (op_ild 5 (op_ild 2 (op_icge (op_kil [true, false, true, true, true, false] (op_jmp 63)) (op_inc 5 1 (op_ald 0 (op_gfr 10 15 (op_ild 4 (op_ild 5 (op_ias (op_kil [true, false, true, true, true, true] (op_jmp 33)))))))))))))))
set_option maxRecDepth 100000 in
theorem S_B_X11_layKnit_33 (g0 : vG) : Snd yX11_layKnit cX11_layKnit 6 none 3 0 0 g0 33 B_X11_layKnit_33 := s_aldn (j := 0) (pc' := 34) (by decide +kernel) rfl rfl (s_ildn (j := 2) (pc' := 35) (by decide +kernel) rfl rfl (s_calV (ci := 10) (pc' := 38) C_X11_grown A_X11_grown rfl (by decide) w_962 (by decide) (by decide +kernel) rfl (s_ildn (j := 3) (pc' := 39) (by decide +kernel) rfl rfl (s_iceq (off := 24) (pt := 63) (pc' := 42) (by decide +kernel) (by decide) rfl (s_kil s_jmp) (s_ild (pc' := 44) (by decide +kernel) rfl (s_ildn (j := 2) (pc' := 45) (by decide +kernel) rfl rfl (s_icge (off := 18) (pt := 63) (pc' := 48) (by decide +kernel) (by decide) rfl (s_kil s_jmp) (s_inc (n := 1) (pc' := 51) (by decide +kernel) (by decide +kernel) (by decide) rfl (s_aldn (j := 0) (pc' := 52) (by decide +kernel) rfl rfl (s_gfr (ci := 10) (j := 15) (pc' := 55) rfl g_ok11 (by decide) (by decide) (by decide) rfl w_838 (by decide +kernel) rfl (s_ild (pc' := 57) (by decide +kernel) rfl (s_ild (pc' := 59) (by decide +kernel) rfl (s_ias (pc' := 60) (by decide +kernel) rfl (s_goto (off := (-27)) (pt := 33) (by decide +kernel) (by decide) (s_kil s_jmp)))))))))))))))
def K_X11_layKnit_63 : vD := op_inc 4 1 (op_kil [true, false, true, true, true, false] (op_jmp 15))
set_option maxRecDepth 100000 in
theorem S_K_X11_layKnit_63 (g0 : vG) : Snd yX11_layKnit cX11_layKnit 6 none 3 0 0 g0 63 K_X11_layKnit_63 := s_inc (n := 1) (pc' := 66) (by decide +kernel) (by decide +kernel) (by decide) rfl (s_goto (off := (-51)) (pt := 15) (by decide +kernel) (by decide) (s_kil s_jmp))
def B_X11_layKnit_15 : vD := op_ild 4 (op_ild 2 (op_icge (op_kil [false, false, false, false, false, false] (op_jmp 69)) (op_con (-1) (op_ist 5 (op_ald 0 (op_gfr 10 15 (op_ild 4 (op_ild 5 (op_ias (op_seq 63 (op_kil [true, false, true, true, true, true] (op_loop 33 B_X11_layKnit_33 4000)) K_X11_layKnit_63))))))))))
set_option maxRecDepth 100000 in
theorem S_B_X11_layKnit_15 (g0 : vG) : Snd yX11_layKnit cX11_layKnit 6 none 3 0 0 g0 15 B_X11_layKnit_15 := s_ild (pc' := 17) (by decide +kernel) rfl (s_ildn (j := 2) (pc' := 18) (by decide +kernel) rfl rfl (s_icge (off := 51) (pt := 69) (pc' := 21) (by decide +kernel) (by decide) rfl (s_kil s_jmp) (s_con (n := (-1)) (pc' := 22) (by decide +kernel) (by decide +kernel) rfl (s_ist (pc' := 24) (by decide +kernel) (by decide) rfl (s_aldn (j := 0) (pc' := 25) (by decide +kernel) rfl rfl (s_gfr (ci := 10) (j := 15) (pc' := 28) rfl g_ok11 (by decide) (by decide) (by decide) rfl w_838 (by decide +kernel) rfl (s_ild (pc' := 30) (by decide +kernel) rfl (s_ild (pc' := 32) (by decide +kernel) rfl (s_ias (pc' := 33) (by decide +kernel) rfl (s_seq (s_kil (s_loop (S_B_X11_layKnit_33 g0) 4000)) (S_K_X11_layKnit_63 g0)))))))))))
def K_X11_layKnit_69 : vD := op_vret
set_option maxRecDepth 100000 in
theorem S_K_X11_layKnit_69 (g0 : vG) : Snd yX11_layKnit cX11_layKnit 6 none 3 0 0 g0 69 K_X11_layKnit_69 := s_vret (by decide +kernel) rfl rfl rfl
def D_X11_layKnit : vD := op_ald 0 (op_ald 1 (op_ild 2 (op_calV 10 2 F_X11_layLinks (op_ald 0 (op_ild 2 (op_calV 10 1 F_X11_grown (op_ist 3 (op_con 0 (op_ist 4 (op_seq 69 (op_kil [true, false, true, true, true, false] (op_loop 15 B_X11_layKnit_15 4000)) K_X11_layKnit_69))))))))))
set_option maxRecDepth 100000 in
theorem S_D_X11_layKnit (g0 : vG) : Snd yX11_layKnit cX11_layKnit 6 none 3 0 0 g0 0 D_X11_layKnit := s_aldn (j := 0) (pc' := 1) (by decide +kernel) rfl rfl (s_aldn (j := 1) (pc' := 2) (by decide +kernel) rfl rfl (s_ildn (j := 2) (pc' := 3) (by decide +kernel) rfl rfl (s_calV (ci := 10) (pc' := 6) C_X11_layLinks A_X11_layLinks rfl (by decide) w_954 (by decide) (by decide +kernel) rfl (s_aldn (j := 0) (pc' := 7) (by decide +kernel) rfl rfl (s_ildn (j := 2) (pc' := 8) (by decide +kernel) rfl rfl (s_calV (ci := 10) (pc' := 11) C_X11_grown A_X11_grown rfl (by decide) w_962 (by decide) (by decide +kernel) rfl (s_istn (j := 3) (pc' := 12) (by decide +kernel) rfl (by decide) rfl (s_con (n := 0) (pc' := 13) (by decide +kernel) (by decide +kernel) rfl (s_ist (pc' := 15) (by decide +kernel) (by decide) rfl (s_seq (s_kil (s_loop (S_B_X11_layKnit_15 g0) 4000)) (S_K_X11_layKnit_69 g0)))))))))))
def F_X11_layKnit : vF := runD D_X11_layKnit 6
theorem C_X11_layKnit : Ctr yX11_layKnit cX11_layKnit 6 none 3 0 0 F_X11_layKnit := ctr_of (d := fun _ => D_X11_layKnit) (by decide +kernel) S_D_X11_layKnit
theorem A_X11_layKnit : CaV yX11_layKnit cX11_layKnit 6 none 2 := ⟨w_1068, w_54, w_77, w_1069, by unfold Nm; decide +kernel⟩
def B_X11_layStyleLooks_14 : vD := op_ild 2 (op_con 6 (op_icge (op_kil [true, true, false] (op_jmp 43)) (op_ald 0 (op_gfr 10 9 (op_con 6 (op_ild 1 (op_bin f_mul (op_ild 2 (op_bin f_add (op_ald 0 (op_ild 1 (op_ild 2 (op_calV 10 2 F_X11_ofStyle (op_ias (op_inc 2 1 (op_jmp 14))))))))))))))))
set_option maxRecDepth 100000 in
theorem S_B_X11_layStyleLooks_14 (g0 : vG) : Snd yX11_layStyleLooks cX11_layStyleLooks 3 none 3 0 0 g0 14 B_X11_layStyleLooks_14 := s_ildn (j := 2) (pc' := 15) (by decide +kernel) rfl rfl (s_bip (n := 6) (pc' := 17) (by decide +kernel) (by decide +kernel) rfl (s_icge (off := 26) (pt := 43) (pc' := 20) (by decide +kernel) (by decide) rfl (s_kil s_jmp) (s_aldn (j := 0) (pc' := 21) (by decide +kernel) rfl rfl (s_gfr (ci := 10) (j := 9) (pc' := 24) rfl g_ok11 (by decide) (by decide) (by decide) rfl w_832 (by decide +kernel) rfl (s_bip (n := 6) (pc' := 26) (by decide +kernel) (by decide +kernel) rfl (s_ildn (j := 1) (pc' := 27) (by decide +kernel) rfl rfl (s_mul (pc' := 28) (by decide +kernel) rfl (s_ildn (j := 2) (pc' := 29) (by decide +kernel) rfl rfl (s_add (pc' := 30) (by decide +kernel) rfl (s_aldn (j := 0) (pc' := 31) (by decide +kernel) rfl rfl (s_ildn (j := 1) (pc' := 32) (by decide +kernel) rfl rfl (s_ildn (j := 2) (pc' := 33) (by decide +kernel) rfl rfl (s_calV (ci := 10) (pc' := 36) C_X11_ofStyle A_X11_ofStyle rfl (by decide) w_915 (by decide) (by decide +kernel) rfl (s_ias (pc' := 37) (by decide +kernel) rfl (s_inc (n := 1) (pc' := 40) (by decide +kernel) (by decide +kernel) (by decide) rfl (s_goto (off := (-26)) (pt := 14) (by decide +kernel) (by decide) (s_jmp)))))))))))))))))
def K_X11_layStyleLooks_43 : vD := op_inc 1 1 (op_kil [true, true, false] (op_jmp 2))
set_option maxRecDepth 100000 in
theorem S_K_X11_layStyleLooks_43 (g0 : vG) : Snd yX11_layStyleLooks cX11_layStyleLooks 3 none 3 0 0 g0 43 K_X11_layStyleLooks_43 := s_inc (n := 1) (pc' := 46) (by decide +kernel) (by decide +kernel) (by decide) rfl (s_goto (off := (-44)) (pt := 2) (by decide +kernel) (by decide) (s_kil s_jmp))
def B_X11_layStyleLooks_2 : vD := op_ild 1 (op_ald 0 (op_gfr 10 0 (op_con 1 (op_ial (op_icge (op_kil [false, false, false] (op_jmp 49)) (op_con 0 (op_ist 2 (op_seq 43 (op_loop 14 B_X11_layStyleLooks_14 4000) K_X11_layStyleLooks_43))))))))
set_option maxRecDepth 100000 in
theorem S_B_X11_layStyleLooks_2 (g0 : vG) : Snd yX11_layStyleLooks cX11_layStyleLooks 3 none 3 0 0 g0 2 B_X11_layStyleLooks_2 := s_ildn (j := 1) (pc' := 3) (by decide +kernel) rfl rfl (s_aldn (j := 0) (pc' := 4) (by decide +kernel) rfl rfl (s_gfr (ci := 10) (j := 0) (pc' := 7) rfl g_ok11 (by decide) (by decide) (by decide) rfl w_823 (by decide +kernel) rfl (s_con (n := 1) (pc' := 8) (by decide +kernel) (by decide +kernel) rfl (s_ial (pc' := 9) (by decide +kernel) rfl (s_icge (off := 40) (pt := 49) (pc' := 12) (by decide +kernel) (by decide) rfl (s_kil s_jmp) (s_con (n := 0) (pc' := 13) (by decide +kernel) (by decide +kernel) rfl (s_istn (j := 2) (pc' := 14) (by decide +kernel) rfl (by decide) rfl (s_seq (s_loop (S_B_X11_layStyleLooks_14 g0) 4000) (S_K_X11_layStyleLooks_43 g0)))))))))
def K_X11_layStyleLooks_49 : vD := op_vret
set_option maxRecDepth 100000 in
theorem S_K_X11_layStyleLooks_49 (g0 : vG) : Snd yX11_layStyleLooks cX11_layStyleLooks 3 none 3 0 0 g0 49 K_X11_layStyleLooks_49 := s_vret (by decide +kernel) rfl rfl rfl
def D_X11_layStyleLooks : vD := op_con 0 (op_ist 1 (op_seq 49 (op_kil [true, true, false] (op_loop 2 B_X11_layStyleLooks_2 4000)) K_X11_layStyleLooks_49))
set_option maxRecDepth 100000 in
theorem S_D_X11_layStyleLooks (g0 : vG) : Snd yX11_layStyleLooks cX11_layStyleLooks 3 none 3 0 0 g0 0 D_X11_layStyleLooks := s_con (n := 0) (pc' := 1) (by decide +kernel) (by decide +kernel) rfl (s_istn (j := 1) (pc' := 2) (by decide +kernel) rfl (by decide) rfl (s_seq (s_kil (s_loop (S_B_X11_layStyleLooks_2 g0) 4000)) (S_K_X11_layStyleLooks_49 g0)))
def F_X11_layStyleLooks : vF := runD D_X11_layStyleLooks 3
theorem C_X11_layStyleLooks : Ctr yX11_layStyleLooks cX11_layStyleLooks 3 none 3 0 0 F_X11_layStyleLooks := ctr_of (d := fun _ => D_X11_layStyleLooks) (by decide +kernel) S_D_X11_layStyleLooks
theorem A_X11_layStyleLooks : CaV yX11_layStyleLooks cX11_layStyleLooks 3 none 0 := ⟨w_952, w_32, w_77, w_953, by unfold Nm; decide +kernel⟩
def K_X11_nearest_34 : vD := op_ist 2 (op_inc 3 1 (op_jmp 4))
set_option maxRecDepth 100000 in
theorem S_K_X11_nearest_34 (g0 : vG) : Snd yX11_nearest cX11_nearest 4 (some .int) 3 0 0 g0 34 K_X11_nearest_34 := s_istn (j := 2) (pc' := 35) (by decide +kernel) rfl (by decide) rfl (s_inc (n := 1) (pc' := 38) (by decide +kernel) (by decide +kernel) (by decide) rfl (s_goto (off := (-34)) (pt := 4) (by decide +kernel) (by decide) (s_jmp)))
def B_X11_nearest_4 : vD := op_ild 3 (op_ald 0 (op_gfr 10 0 (op_con 1 (op_ial (op_icge (op_kil [false, false, true, false] (op_jmp 41)) (op_ald 0 (op_ild 1 (op_ild 3 (op_calV 10 2 F_X11_costBy (op_ald 0 (op_ild 1 (op_ild 2 (op_calV 10 2 F_X11_costBy (op_seq 34 (op_icge (op_ild 2 (op_kil [true, true, false, true] (op_jmp 34))) (op_ild 3 (op_kil [true, true, false, true] (op_jmp 34)))) K_X11_nearest_34))))))))))))))
set_option maxRecDepth 100000 in
theorem S_B_X11_nearest_4 (g0 : vG) : Snd yX11_nearest cX11_nearest 4 (some .int) 3 0 0 g0 4 B_X11_nearest_4 := s_ildn (j := 3) (pc' := 5) (by decide +kernel) rfl rfl (s_aldn (j := 0) (pc' := 6) (by decide +kernel) rfl rfl (s_gfr (ci := 10) (j := 0) (pc' := 9) rfl g_ok11 (by decide) (by decide) (by decide) rfl w_823 (by decide +kernel) rfl (s_con (n := 1) (pc' := 10) (by decide +kernel) (by decide +kernel) rfl (s_ial (pc' := 11) (by decide +kernel) rfl (s_icge (off := 30) (pt := 41) (pc' := 14) (by decide +kernel) (by decide) rfl (s_kil s_jmp) (s_aldn (j := 0) (pc' := 15) (by decide +kernel) rfl rfl (s_ildn (j := 1) (pc' := 16) (by decide +kernel) rfl rfl (s_ildn (j := 3) (pc' := 17) (by decide +kernel) rfl rfl (s_calV (ci := 10) (pc' := 20) C_X11_costBy A_X11_costBy rfl (by decide) w_1030 (by decide) (by decide +kernel) rfl (s_aldn (j := 0) (pc' := 21) (by decide +kernel) rfl rfl (s_ildn (j := 1) (pc' := 22) (by decide +kernel) rfl rfl (s_ildn (j := 2) (pc' := 23) (by decide +kernel) rfl rfl (s_calV (ci := 10) (pc' := 26) C_X11_costBy A_X11_costBy rfl (by decide) w_1030 (by decide) (by decide +kernel) rfl (s_seq (s_icge (off := 7) (pt := 33) (pc' := 29) (by decide +kernel) (by decide) rfl (s_ildn (j := 2) (pc' := 34) (by decide +kernel) rfl rfl (s_kil s_jmp)) (s_ildn (j := 3) (pc' := 30) (by decide +kernel) rfl rfl (s_goto (off := 4) (pt := 34) (by decide +kernel) (by decide) (s_kil s_jmp)))) (S_K_X11_nearest_34 g0)))))))))))))))
def K_X11_nearest_41 : vD := op_ild 2 (op_ret)
set_option maxRecDepth 100000 in
theorem S_K_X11_nearest_41 (g0 : vG) : Snd yX11_nearest cX11_nearest 4 (some .int) 3 0 0 g0 41 K_X11_nearest_41 := s_ildn (j := 2) (pc' := 42) (by decide +kernel) rfl rfl (s_iret (by decide +kernel) rfl rfl rfl)
def D_X11_nearest : vD := op_con (-1) (op_ist 2 (op_con 0 (op_ist 3 (op_seq 41 (op_loop 4 B_X11_nearest_4 4000) K_X11_nearest_41))))
set_option maxRecDepth 100000 in
theorem S_D_X11_nearest (g0 : vG) : Snd yX11_nearest cX11_nearest 4 (some .int) 3 0 0 g0 0 D_X11_nearest := s_con (n := (-1)) (pc' := 1) (by decide +kernel) (by decide +kernel) rfl (s_istn (j := 2) (pc' := 2) (by decide +kernel) rfl (by decide) rfl (s_con (n := 0) (pc' := 3) (by decide +kernel) (by decide +kernel) rfl (s_istn (j := 3) (pc' := 4) (by decide +kernel) rfl (by decide) rfl (s_seq (s_loop (S_B_X11_nearest_4 g0) 4000) (S_K_X11_nearest_41 g0)))))
def F_X11_nearest : vF := runD D_X11_nearest 4
theorem C_X11_nearest : Ctr yX11_nearest cX11_nearest 4 (some .int) 3 0 0 F_X11_nearest := ctr_of (d := fun _ => D_X11_nearest) (by decide +kernel) S_D_X11_nearest
theorem A_X11_nearest : CaV yX11_nearest cX11_nearest 4 (some .int) 1 := ⟨w_1028, w_45, w_77, w_1029, by unfold Nm; decide +kernel⟩
def K_X11_ofParagraph_37 : vD := op_ret
set_option maxRecDepth 100000 in
theorem S_K_X11_ofParagraph_37 (g0 : vG) : Snd yX11_ofParagraph cX11_ofParagraph 4 (some .int) 3 0 0 g0 37 K_X11_ofParagraph_37 := s_iret (by decide +kernel) rfl rfl rfl
def D_X11_ofParagraph : vD := op_ald 0 (op_gfr 10 0 (op_ild 1 (op_cal 1 F_X11_paragraphOf (op_con 1 (op_bin f_add (op_ild 2 (op_bin f_add (op_ial (op_ist 3 (op_ild 3 (op_con (-1) (op_seq 37 (op_icne (op_ild 3 (op_kil [false, false, false, false] (op_jmp 37))) (op_ald 0 (op_ald 0 (op_gfr 10 0 (op_ild 1 (op_cal 1 F_X11_paragraphOf (op_ial (op_ild 2 (op_calV 10 2 F_X11_ofStyle (op_kil [false, false, false, false] (op_jmp 37))))))))))) K_X11_ofParagraph_37))))))))))))
set_option maxRecDepth 100000 in
theorem S_D_X11_ofParagraph (g0 : vG) : Snd yX11_ofParagraph cX11_ofParagraph 4 (some .int) 3 0 0 g0 0 D_X11_ofParagraph := s_aldn (j := 0) (pc' := 1) (by decide +kernel) rfl rfl (s_gfr (ci := 10) (j := 0) (pc' := 4) rfl g_ok11 (by decide) (by decide) (by decide) rfl w_823 (by decide +kernel) rfl (s_ildn (j := 1) (pc' := 5) (by decide +kernel) rfl rfl (s_calS (pc' := 8) C_X11_paragraphOf A_X11_paragraphOf w_904 (by decide) (by decide +kernel) rfl (s_con (n := 1) (pc' := 9) (by decide +kernel) (by decide +kernel) rfl (s_add (pc' := 10) (by decide +kernel) rfl (s_ildn (j := 2) (pc' := 11) (by decide +kernel) rfl rfl (s_add (pc' := 12) (by decide +kernel) rfl (s_ial (pc' := 13) (by decide +kernel) rfl (s_istn (j := 3) (pc' := 14) (by decide +kernel) rfl (by decide) rfl (s_ildn (j := 3) (pc' := 15) (by decide +kernel) rfl rfl (s_con (n := (-1)) (pc' := 16) (by decide +kernel) (by decide +kernel) rfl (s_seq (s_icne (off := 20) (pt := 36) (pc' := 19) (by decide +kernel) (by decide) rfl (s_ildn (j := 3) (pc' := 37) (by decide +kernel) rfl rfl (s_kil s_jmp)) (s_aldn (j := 0) (pc' := 20) (by decide +kernel) rfl rfl (s_aldn (j := 0) (pc' := 21) (by decide +kernel) rfl rfl (s_gfr (ci := 10) (j := 0) (pc' := 24) rfl g_ok11 (by decide) (by decide) (by decide) rfl w_823 (by decide +kernel) rfl (s_ildn (j := 1) (pc' := 25) (by decide +kernel) rfl rfl (s_calS (pc' := 28) C_X11_paragraphOf A_X11_paragraphOf w_904 (by decide) (by decide +kernel) rfl (s_ial (pc' := 29) (by decide +kernel) rfl (s_ildn (j := 2) (pc' := 30) (by decide +kernel) rfl rfl (s_calV (ci := 10) (pc' := 33) C_X11_ofStyle A_X11_ofStyle rfl (by decide) w_915 (by decide) (by decide +kernel) rfl (s_goto (off := 4) (pt := 37) (by decide +kernel) (by decide) (s_kil s_jmp))))))))))) (S_K_X11_ofParagraph_37 g0)))))))))))))
def F_X11_ofParagraph : vF := runD D_X11_ofParagraph 4
theorem C_X11_ofParagraph : Ctr yX11_ofParagraph cX11_ofParagraph 4 (some .int) 3 0 0 F_X11_ofParagraph := ctr_of (d := fun _ => D_X11_ofParagraph) (by decide +kernel) S_D_X11_ofParagraph
theorem A_X11_ofParagraph : CaV yX11_ofParagraph cX11_ofParagraph 4 (some .int) 2 := ⟨w_941, w_30, w_77, w_942, by unfold Nm; decide +kernel⟩
def K_X11_parent_42 : vD := op_ret
set_option maxRecDepth 100000 in
theorem S_K_X11_parent_42 (g0 : vG) : Snd yX11_parent cX11_parent 3 (some .int) 3 0 0 g0 42 K_X11_parent_42 := s_iret (by decide +kernel) rfl rfl rfl
def K_X11_parent_16 : vD := op_con (-1000000001) (op_ret)
set_option maxRecDepth 100000 in
theorem S_K_X11_parent_16 (g0 : vG) : Snd yX11_parent cX11_parent 3 (some .int) 3 0 0 g0 16 K_X11_parent_16 := s_ldc (pc' := 18) (by decide +kernel) w_1013 rfl (s_iret (by decide +kernel) rfl rfl rfl)
def D_X11_parent : vD := op_ald 0 (op_ild 1 (op_calV 10 1 F_X11_isStyle (op_seq 16 (op_ifeq (op_kil [false, false, false] (op_jmp 16)) (op_ald 0 (op_ild 2 (op_calV 10 1 F_X11_isStyleOrNone (op_ifne (op_ald 0 (op_ild 1 (op_ild 2 (op_calV 10 2 F_X11_isRing (op_seq 42 (op_ifeq (op_ald 0 (op_ild 1 (op_cal 1 F_X11_styleOf (op_ild 2 (op_calV 10 2 F_X11_lay (op_kil [false, false, false] (op_jmp 42))))))) (op_con (-1000000003) (op_kil [false, false, false] (op_jmp 42)))) K_X11_parent_42))))) (op_kil [false, false, false] (op_jmp 16))))))) K_X11_parent_16)))
set_option maxRecDepth 100000 in
theorem S_D_X11_parent (g0 : vG) : Snd yX11_parent cX11_parent 3 (some .int) 3 0 0 g0 0 D_X11_parent := s_aldn (j := 0) (pc' := 1) (by decide +kernel) rfl rfl (s_ildn (j := 1) (pc' := 2) (by decide +kernel) rfl rfl (s_calV (ci := 10) (pc' := 5) C_X11_isStyle A_X11_isStyle rfl (by decide) w_1046 (by decide) (by decide +kernel) rfl (s_seq (s_ifeq (off := 11) (pt := 16) (pc' := 8) (by decide +kernel) (by decide) rfl (s_kil s_jmp) (s_aldn (j := 0) (pc' := 9) (by decide +kernel) rfl rfl (s_ildn (j := 2) (pc' := 10) (by decide +kernel) rfl rfl (s_calV (ci := 10) (pc' := 13) C_X11_isStyleOrNone A_X11_isStyleOrNone rfl (by decide) w_1074 (by decide) (by decide +kernel) rfl (s_ifne (off := 6) (pt := 19) (pc' := 16) (by decide +kernel) (by decide) rfl (s_aldn (j := 0) (pc' := 20) (by decide +kernel) rfl rfl (s_ildn (j := 1) (pc' := 21) (by decide +kernel) rfl rfl (s_ildn (j := 2) (pc' := 22) (by decide +kernel) rfl rfl (s_calV (ci := 10) (pc' := 25) C_X11_isRing A_X11_isRing rfl (by decide) w_1138 (by decide) (by decide +kernel) rfl (s_seq (s_ifeq (off := 8) (pt := 33) (pc' := 28) (by decide +kernel) (by decide) rfl (s_aldn (j := 0) (pc' := 34) (by decide +kernel) rfl rfl (s_ildn (j := 1) (pc' := 35) (by decide +kernel) rfl rfl (s_calS (pc' := 38) C_X11_styleOf A_X11_styleOf w_890 (by decide) (by decide +kernel) rfl (s_ildn (j := 2) (pc' := 39) (by decide +kernel) rfl rfl (s_calV (ci := 10) (pc' := 42) C_X11_lay A_X11_lay rfl (by decide) w_1114 (by decide) (by decide +kernel) rfl (s_kil s_jmp)))))) (s_ldc (pc' := 30) (by decide +kernel) w_1142 rfl (s_goto (off := 12) (pt := 42) (by decide +kernel) (by decide) (s_kil s_jmp)))) (S_K_X11_parent_42 g0)))))) (s_kil s_jmp)))))) (S_K_X11_parent_16 g0))))
def F_X11_parent : vF := runD D_X11_parent 3
theorem C_X11_parent : Ctr yX11_parent cX11_parent 3 (some .int) 3 0 0 F_X11_parent := ctr_of (d := fun _ => D_X11_parent) (by decide +kernel) S_D_X11_parent
theorem A_X11_parent : CaV yX11_parent cX11_parent 3 (some .int) 2 := ⟨w_1135, w_1136, w_77, w_1137, by unfold Nm; decide +kernel⟩
def K_X11_sets_31 : vD := op_ald 0 (op_ild 1 (op_cal 1 F_X11_styleOf (op_con 1 (op_bin f_add (op_ild 2 (op_bin f_add (op_ild 3 (op_calV 10 2 F_X11_lay (op_kil [false, false, false, false] (op_jmp 49))))))))))
set_option maxRecDepth 100000 in
theorem S_K_X11_sets_31 (g0 : vG) : Snd yX11_sets cX11_sets 4 (some .int) 3 0 0 g0 31 K_X11_sets_31 := s_aldn (j := 0) (pc' := 32) (by decide +kernel) rfl rfl (s_ildn (j := 1) (pc' := 33) (by decide +kernel) rfl rfl (s_calS (pc' := 36) C_X11_styleOf A_X11_styleOf w_890 (by decide) (by decide +kernel) rfl (s_con (n := 1) (pc' := 37) (by decide +kernel) (by decide +kernel) rfl (s_add (pc' := 38) (by decide +kernel) rfl (s_ildn (j := 2) (pc' := 39) (by decide +kernel) rfl rfl (s_add (pc' := 40) (by decide +kernel) rfl (s_ildn (j := 3) (pc' := 41) (by decide +kernel) rfl rfl (s_calV (ci := 10) (pc' := 44) C_X11_lay A_X11_lay rfl (by decide) w_1114 (by decide) (by decide +kernel) rfl (s_goto (off := 5) (pt := 49) (by decide +kernel) (by decide) (s_kil s_jmp))))))))))
def K_X11_sets_49 : vD := op_ret
set_option maxRecDepth 100000 in
theorem S_K_X11_sets_49 (g0 : vG) : Snd yX11_sets cX11_sets 4 (some .int) 3 0 0 g0 49 K_X11_sets_49 := s_iret (by decide +kernel) rfl rfl rfl
def K_X11_sets_15 : vD := op_con (-1000000001) (op_ret)
set_option maxRecDepth 100000 in
theorem S_K_X11_sets_15 (g0 : vG) : Snd yX11_sets cX11_sets 4 (some .int) 3 0 0 g0 15 K_X11_sets_15 := s_ldc (pc' := 17) (by decide +kernel) w_1013 rfl (s_iret (by decide +kernel) rfl rfl rfl)
def D_X11_sets : vD := op_ald 0 (op_ild 1 (op_calV 10 1 F_X11_isStyle (op_seq 15 (op_ifeq (op_kil [false, false, false, false] (op_jmp 15)) (op_ild 2 (op_cal 1 F_X11_isProperty (op_ifne (op_ild 3 (op_con (-1) (op_seq 49 (op_seq 31 (op_iceq (op_jmp 31) (op_ild 2 (op_ild 3 (op_cal 2 F_X11_isValue (op_ifeq (op_con (-1000000002) (op_kil [false, false, false, false] (op_jmp 49))) (op_jmp 31)))))) K_X11_sets_31) K_X11_sets_49))) (op_kil [false, false, false, false] (op_jmp 15)))))) K_X11_sets_15)))
set_option maxRecDepth 100000 in
theorem S_D_X11_sets (g0 : vG) : Snd yX11_sets cX11_sets 4 (some .int) 3 0 0 g0 0 D_X11_sets := s_aldn (j := 0) (pc' := 1) (by decide +kernel) rfl rfl (s_ildn (j := 1) (pc' := 2) (by decide +kernel) rfl rfl (s_calV (ci := 10) (pc' := 5) C_X11_isStyle A_X11_isStyle rfl (by decide) w_1046 (by decide) (by decide +kernel) rfl (s_seq (s_ifeq (off := 10) (pt := 15) (pc' := 8) (by decide +kernel) (by decide) rfl (s_kil s_jmp) (s_ildn (j := 2) (pc' := 9) (by decide +kernel) rfl rfl (s_calS (pc' := 12) C_X11_isProperty A_X11_isProperty w_1010 (by decide) (by decide +kernel) rfl (s_ifne (off := 6) (pt := 18) (pc' := 15) (by decide +kernel) (by decide) rfl (s_ildn (j := 3) (pc' := 19) (by decide +kernel) rfl rfl (s_con (n := (-1)) (pc' := 20) (by decide +kernel) (by decide +kernel) rfl (s_seq (s_seq (s_iceq (off := 11) (pt := 31) (pc' := 23) (by decide +kernel) (by decide) rfl (s_jmp) (s_ildn (j := 2) (pc' := 24) (by decide +kernel) rfl rfl (s_ildn (j := 3) (pc' := 25) (by decide +kernel) rfl rfl (s_calS (pc' := 28) C_X11_isValue A_X11_isValue w_1111 (by decide) (by decide +kernel) rfl (s_ifeq (off := 19) (pt := 47) (pc' := 31) (by decide +kernel) (by decide) rfl (s_ldc (pc' := 49) (by decide +kernel) w_1005 rfl (s_kil s_jmp)) (s_jmp)))))) (S_K_X11_sets_31 g0)) (S_K_X11_sets_49 g0)))) (s_kil s_jmp))))) (S_K_X11_sets_15 g0))))
def F_X11_sets : vF := runD D_X11_sets 4
theorem C_X11_sets : Ctr yX11_sets cX11_sets 4 (some .int) 3 0 0 F_X11_sets := ctr_of (d := fun _ => D_X11_sets) (by decide +kernel) S_D_X11_sets
theorem A_X11_sets : CaV yX11_sets cX11_sets 4 (some .int) 3 := ⟨w_1119, w_1120, w_77, w_1121, by unfold Nm; decide +kernel⟩
def K_X11_styleHas_24 : vD := op_con (-1000000001) (op_kil [false, false, false] (op_jmp 26))
set_option maxRecDepth 100000 in
theorem S_K_X11_styleHas_24 (g0 : vG) : Snd yX11_styleHas cX11_styleHas 3 (some .int) 3 0 0 g0 24 K_X11_styleHas_24 := s_ldc (pc' := 26) (by decide +kernel) w_1013 rfl (s_kil s_jmp)
def K_X11_styleHas_26 : vD := op_ret
set_option maxRecDepth 100000 in
theorem S_K_X11_styleHas_26 (g0 : vG) : Snd yX11_styleHas cX11_styleHas 3 (some .int) 3 0 0 g0 26 K_X11_styleHas_26 := s_iret (by decide +kernel) rfl rfl rfl
def D_X11_styleHas : vD := op_ald 0 (op_ild 1 (op_calV 10 1 F_X11_isStyleOrNone (op_seq 26 (op_seq 24 (op_ifeq (op_kil [false, false, false] (op_jmp 24)) (op_ild 2 (op_cal 1 F_X11_isProperty (op_ifeq (op_kil [false, false, false] (op_jmp 24)) (op_ald 0 (op_ild 1 (op_ild 2 (op_calV 10 2 F_X11_ofStyle (op_kil [false, false, false] (op_jmp 26)))))))))) K_X11_styleHas_24) K_X11_styleHas_26)))
set_option maxRecDepth 100000 in
theorem S_D_X11_styleHas (g0 : vG) : Snd yX11_styleHas cX11_styleHas 3 (some .int) 3 0 0 g0 0 D_X11_styleHas := s_aldn (j := 0) (pc' := 1) (by decide +kernel) rfl rfl (s_ildn (j := 1) (pc' := 2) (by decide +kernel) rfl rfl (s_calV (ci := 10) (pc' := 5) C_X11_isStyleOrNone A_X11_isStyleOrNone rfl (by decide) w_1074 (by decide) (by decide +kernel) rfl (s_seq (s_seq (s_ifeq (off := 19) (pt := 24) (pc' := 8) (by decide +kernel) (by decide) rfl (s_kil s_jmp) (s_ildn (j := 2) (pc' := 9) (by decide +kernel) rfl rfl (s_calS (pc' := 12) C_X11_isProperty A_X11_isProperty w_1010 (by decide) (by decide +kernel) rfl (s_ifeq (off := 12) (pt := 24) (pc' := 15) (by decide +kernel) (by decide) rfl (s_kil s_jmp) (s_aldn (j := 0) (pc' := 16) (by decide +kernel) rfl rfl (s_ildn (j := 1) (pc' := 17) (by decide +kernel) rfl rfl (s_ildn (j := 2) (pc' := 18) (by decide +kernel) rfl rfl (s_calV (ci := 10) (pc' := 21) C_X11_ofStyle A_X11_ofStyle rfl (by decide) w_915 (by decide) (by decide +kernel) rfl (s_goto (off := 5) (pt := 26) (by decide +kernel) (by decide) (s_kil s_jmp)))))))))) (S_K_X11_styleHas_24 g0)) (S_K_X11_styleHas_26 g0))))
def F_X11_styleHas : vF := runD D_X11_styleHas 3
theorem C_X11_styleHas : Ctr yX11_styleHas cX11_styleHas 3 (some .int) 3 0 0 F_X11_styleHas := ctr_of (d := fun _ => D_X11_styleHas) (by decide +kernel) S_D_X11_styleHas
theorem A_X11_styleHas : CaV yX11_styleHas cX11_styleHas 3 (some .int) 2 := ⟨w_1071, w_1072, w_77, w_1073, by unfold Nm; decide +kernel⟩
end
section
/-! ===== fragments and contracts, by program (wip/whole/gen.py) ===== -/
def K_X11_has_24 : vD := op_con (-1000000001) (op_kil [false, false, false] (op_jmp 26))
set_option maxRecDepth 100000 in
theorem S_K_X11_has_24 (g0 : vG) : Snd yX11_has cX11_has 3 (some .int) 4 0 0 g0 24 K_X11_has_24 := s_ldc (pc' := 26) (by decide +kernel) w_1013 rfl (s_kil s_jmp)
def K_X11_has_26 : vD := op_ret
set_option maxRecDepth 100000 in
theorem S_K_X11_has_26 (g0 : vG) : Snd yX11_has cX11_has 3 (some .int) 4 0 0 g0 26 K_X11_has_26 := s_iret (by decide +kernel) rfl rfl rfl
def D_X11_has : vD := op_ald 0 (op_ild 1 (op_calV 10 1 F_X11_isParagraph (op_seq 26 (op_seq 24 (op_ifeq (op_kil [false, false, false] (op_jmp 24)) (op_ild 2 (op_cal 1 F_X11_isProperty (op_ifeq (op_kil [false, false, false] (op_jmp 24)) (op_ald 0 (op_ild 1 (op_ild 2 (op_calV 10 2 F_X11_ofParagraph (op_kil [false, false, false] (op_jmp 26)))))))))) K_X11_has_24) K_X11_has_26)))
set_option maxRecDepth 100000 in
theorem S_D_X11_has (g0 : vG) : Snd yX11_has cX11_has 3 (some .int) 4 0 0 g0 0 D_X11_has := s_aldn (j := 0) (pc' := 1) (by decide +kernel) rfl rfl (s_ildn (j := 1) (pc' := 2) (by decide +kernel) rfl rfl (s_calV (ci := 10) (pc' := 5) C_X11_isParagraph A_X11_isParagraph rfl (by decide) w_998 (by decide) (by decide +kernel) rfl (s_seq (s_seq (s_ifeq (off := 19) (pt := 24) (pc' := 8) (by decide +kernel) (by decide) rfl (s_kil s_jmp) (s_ildn (j := 2) (pc' := 9) (by decide +kernel) rfl rfl (s_calS (pc' := 12) C_X11_isProperty A_X11_isProperty w_1010 (by decide) (by decide +kernel) rfl (s_ifeq (off := 12) (pt := 24) (pc' := 15) (by decide +kernel) (by decide) rfl (s_kil s_jmp) (s_aldn (j := 0) (pc' := 16) (by decide +kernel) rfl rfl (s_ildn (j := 1) (pc' := 17) (by decide +kernel) rfl rfl (s_ildn (j := 2) (pc' := 18) (by decide +kernel) rfl rfl (s_calV (ci := 10) (pc' := 21) C_X11_ofParagraph A_X11_ofParagraph rfl (by decide) w_939 (by decide) (by decide +kernel) rfl (s_goto (off := 5) (pt := 26) (by decide +kernel) (by decide) (s_kil s_jmp)))))))))) (S_K_X11_has_24 g0)) (S_K_X11_has_26 g0))))
def F_X11_has : vF := runD D_X11_has 3
theorem C_X11_has : Ctr yX11_has cX11_has 3 (some .int) 4 0 0 F_X11_has := ctr_of (d := fun _ => D_X11_has) (by decide +kernel) S_D_X11_has
theorem A_X11_has : CaV yX11_has cX11_has 3 (some .int) 2 := ⟨w_1007, w_1008, w_77, w_1009, by unfold Nm; decide +kernel⟩
def B_X11_knit_24 : vD := op_ild 1 (op_ald 0 (op_gfr 10 0 (op_con 1 (op_ial (op_icge (op_kil [true, false] (op_jmp 59)) (op_ald 0 (op_ild 1 (op_cal 1 F_X11_styleOf (op_ald 0 (op_gfr 10 15 (op_ild 1 (op_ial (op_ald 0 (op_gfr 10 9 (op_ild 1 (op_calV 10 4 F_X11_tellAnew (op_inc 1 1 (op_jmp 24))))))))))))))))))
set_option maxRecDepth 100000 in
theorem S_B_X11_knit_24 (g0 : vG) : Snd yX11_knit cX11_knit 2 (some .int) 4 0 0 g0 24 B_X11_knit_24 := s_ildn (j := 1) (pc' := 25) (by decide +kernel) rfl rfl (s_aldn (j := 0) (pc' := 26) (by decide +kernel) rfl rfl (s_gfr (ci := 10) (j := 0) (pc' := 29) rfl g_ok11 (by decide) (by decide) (by decide) rfl w_823 (by decide +kernel) rfl (s_con (n := 1) (pc' := 30) (by decide +kernel) (by decide +kernel) rfl (s_ial (pc' := 31) (by decide +kernel) rfl (s_icge (off := 28) (pt := 59) (pc' := 34) (by decide +kernel) (by decide) rfl (s_kil s_jmp) (s_aldn (j := 0) (pc' := 35) (by decide +kernel) rfl rfl (s_ildn (j := 1) (pc' := 36) (by decide +kernel) rfl rfl (s_calS (pc' := 39) C_X11_styleOf A_X11_styleOf w_890 (by decide) (by decide +kernel) rfl (s_aldn (j := 0) (pc' := 40) (by decide +kernel) rfl rfl (s_gfr (ci := 10) (j := 15) (pc' := 43) rfl g_ok11 (by decide) (by decide) (by decide) rfl w_838 (by decide +kernel) rfl (s_ildn (j := 1) (pc' := 44) (by decide +kernel) rfl rfl (s_ial (pc' := 45) (by decide +kernel) rfl (s_aldn (j := 0) (pc' := 46) (by decide +kernel) rfl rfl (s_gfr (ci := 10) (j := 9) (pc' := 49) rfl g_ok11 (by decide) (by decide) (by decide) rfl w_832 (by decide +kernel) rfl (s_ildn (j := 1) (pc' := 50) (by decide +kernel) rfl rfl (s_calV (ci := 10) (pc' := 53) C_X11_tellAnew A_X11_tellAnew rfl (by decide) w_1147 (by decide) (by decide +kernel) rfl (s_inc (n := 1) (pc' := 56) (by decide +kernel) (by decide +kernel) (by decide) rfl (s_goto (off := (-32)) (pt := 24) (by decide +kernel) (by decide) (s_jmp)))))))))))))))))))
def K_X11_knit_59 : vD := op_ald 0 (op_calV 10 0 F_X11_cost (op_ret))
set_option maxRecDepth 100000 in
theorem S_K_X11_knit_59 (g0 : vG) : Snd yX11_knit cX11_knit 2 (some .int) 4 0 0 g0 59 K_X11_knit_59 := s_aldn (j := 0) (pc' := 60) (by decide +kernel) rfl rfl (s_calV (ci := 10) (pc' := 63) C_X11_cost A_X11_cost rfl (by decide) w_882 (by decide) (by decide +kernel) rfl (s_iret (by decide +kernel) rfl rfl rfl))
def D_X11_knit : vD := op_ald 0 (op_calV 10 0 F_X11_remember (op_ald 0 (op_calV 10 0 F_X11_layStyleLooks (op_ald 0 (op_ald 0 (op_gfr 10 9 (op_ald 0 (op_gfr 10 0 (op_con 1 (op_ial (op_calV 10 2 F_X11_layKnit (op_con 0 (op_ist 1 (op_seq 59 (op_loop 24 B_X11_knit_24 4000) K_X11_knit_59))))))))))))))
set_option maxRecDepth 100000 in
theorem S_D_X11_knit (g0 : vG) : Snd yX11_knit cX11_knit 2 (some .int) 4 0 0 g0 0 D_X11_knit := s_aldn (j := 0) (pc' := 1) (by decide +kernel) rfl rfl (s_calV (ci := 10) (pc' := 4) C_X11_remember A_X11_remember rfl (by decide) w_1091 (by decide) (by decide +kernel) rfl (s_aldn (j := 0) (pc' := 5) (by decide +kernel) rfl rfl (s_calV (ci := 10) (pc' := 8) C_X11_layStyleLooks A_X11_layStyleLooks rfl (by decide) w_950 (by decide) (by decide +kernel) rfl (s_aldn (j := 0) (pc' := 9) (by decide +kernel) rfl rfl (s_aldn (j := 0) (pc' := 10) (by decide +kernel) rfl rfl (s_gfr (ci := 10) (j := 9) (pc' := 13) rfl g_ok11 (by decide) (by decide) (by decide) rfl w_832 (by decide +kernel) rfl (s_aldn (j := 0) (pc' := 14) (by decide +kernel) rfl rfl (s_gfr (ci := 10) (j := 0) (pc' := 17) rfl g_ok11 (by decide) (by decide) (by decide) rfl w_823 (by decide +kernel) rfl (s_con (n := 1) (pc' := 18) (by decide +kernel) (by decide +kernel) rfl (s_ial (pc' := 19) (by decide +kernel) rfl (s_calV (ci := 10) (pc' := 22) C_X11_layKnit A_X11_layKnit rfl (by decide) w_1066 (by decide) (by decide +kernel) rfl (s_con (n := 0) (pc' := 23) (by decide +kernel) (by decide +kernel) rfl (s_istn (j := 1) (pc' := 24) (by decide +kernel) rfl (by decide) rfl (s_seq (s_loop (S_B_X11_knit_24 g0) 4000) (S_K_X11_knit_59 g0)))))))))))))))
def F_X11_knit : vF := runD D_X11_knit 2
theorem C_X11_knit : Ctr yX11_knit cX11_knit 2 (some .int) 4 0 0 F_X11_knit := ctr_of (d := fun _ => D_X11_knit) (by decide +kernel) S_D_X11_knit
theorem A_X11_knit : CaV yX11_knit cX11_knit 2 (some .int) 0 := ⟨w_1176, w_1177, w_77, w_1178, by unfold Nm; decide +kernel⟩
def D_X11_knitCost : vD := op_ald 0 (op_calV 10 0 F_X11_layStyleLooks (op_ald 0 (op_ald 0 (op_gfr 10 9 (op_ald 0 (op_gfr 10 0 (op_con 1 (op_ial (op_calV 10 2 F_X11_layLinks (op_ald 0 (op_gfr 10 0 (op_con 2 (op_ial (op_ald 0 (op_gfr 10 0 (op_con 1 (op_ial (op_bin f_mul (op_ald 0 (op_ald 0 (op_gfr 10 0 (op_con 1 (op_ial (op_calV 10 1 F_X11_grown (op_bin f_add (op_ret))))))))))))))))))))))))))
set_option maxRecDepth 100000 in
theorem S_D_X11_knitCost (g0 : vG) : Snd yX11_knitCost cX11_knitCost 1 (some .int) 4 0 0 g0 0 D_X11_knitCost := s_aldn (j := 0) (pc' := 1) (by decide +kernel) rfl rfl (s_calV (ci := 10) (pc' := 4) C_X11_layStyleLooks A_X11_layStyleLooks rfl (by decide) w_950 (by decide) (by decide +kernel) rfl (s_aldn (j := 0) (pc' := 5) (by decide +kernel) rfl rfl (s_aldn (j := 0) (pc' := 6) (by decide +kernel) rfl rfl (s_gfr (ci := 10) (j := 9) (pc' := 9) rfl g_ok11 (by decide) (by decide) (by decide) rfl w_832 (by decide +kernel) rfl (s_aldn (j := 0) (pc' := 10) (by decide +kernel) rfl rfl (s_gfr (ci := 10) (j := 0) (pc' := 13) rfl g_ok11 (by decide) (by decide) (by decide) rfl w_823 (by decide +kernel) rfl (s_con (n := 1) (pc' := 14) (by decide +kernel) (by decide +kernel) rfl (s_ial (pc' := 15) (by decide +kernel) rfl (s_calV (ci := 10) (pc' := 18) C_X11_layLinks A_X11_layLinks rfl (by decide) w_954 (by decide) (by decide +kernel) rfl (s_aldn (j := 0) (pc' := 19) (by decide +kernel) rfl rfl (s_gfr (ci := 10) (j := 0) (pc' := 22) rfl g_ok11 (by decide) (by decide) (by decide) rfl w_823 (by decide +kernel) rfl (s_con (n := 2) (pc' := 23) (by decide +kernel) (by decide +kernel) rfl (s_ial (pc' := 24) (by decide +kernel) rfl (s_aldn (j := 0) (pc' := 25) (by decide +kernel) rfl rfl (s_gfr (ci := 10) (j := 0) (pc' := 28) rfl g_ok11 (by decide) (by decide) (by decide) rfl w_823 (by decide +kernel) rfl (s_con (n := 1) (pc' := 29) (by decide +kernel) (by decide +kernel) rfl (s_ial (pc' := 30) (by decide +kernel) rfl (s_mul (pc' := 31) (by decide +kernel) rfl (s_aldn (j := 0) (pc' := 32) (by decide +kernel) rfl rfl (s_aldn (j := 0) (pc' := 33) (by decide +kernel) rfl rfl (s_gfr (ci := 10) (j := 0) (pc' := 36) rfl g_ok11 (by decide) (by decide) (by decide) rfl w_823 (by decide +kernel) rfl (s_con (n := 1) (pc' := 37) (by decide +kernel) (by decide +kernel) rfl (s_ial (pc' := 38) (by decide +kernel) rfl (s_calV (ci := 10) (pc' := 41) C_X11_grown A_X11_grown rfl (by decide) w_962 (by decide) (by decide +kernel) rfl (s_add (pc' := 42) (by decide +kernel) rfl (s_iret (by decide +kernel) rfl rfl rfl))))))))))))))))))))))))))
def F_X11_knitCost : vF := runD D_X11_knitCost 1
theorem C_X11_knitCost : Ctr yX11_knitCost cX11_knitCost 1 (some .int) 4 0 0 F_X11_knitCost := ctr_of (d := fun _ => D_X11_knitCost) (by decide +kernel) S_D_X11_knitCost
theorem A_X11_knitCost : CaV yX11_knitCost cX11_knitCost 1 (some .int) 0 := ⟨w_948, w_31, w_77, w_949, by unfold Nm; decide +kernel⟩
def D_X11_knitParent : vD := op_ald 0 (op_calV 10 0 F_X11_layStyleLooks (op_ald 0 (op_ald 0 (op_gfr 10 9 (op_ald 0 (op_gfr 10 0 (op_con 1 (op_ial (op_calV 10 2 F_X11_layKnit (op_ald 0 (op_gfr 10 15 (op_ild 1 (op_ial (op_ret))))))))))))))
set_option maxRecDepth 100000 in
theorem S_D_X11_knitParent (g0 : vG) : Snd yX11_knitParent cX11_knitParent 2 (some .int) 4 0 0 g0 0 D_X11_knitParent := s_aldn (j := 0) (pc' := 1) (by decide +kernel) rfl rfl (s_calV (ci := 10) (pc' := 4) C_X11_layStyleLooks A_X11_layStyleLooks rfl (by decide) w_950 (by decide) (by decide +kernel) rfl (s_aldn (j := 0) (pc' := 5) (by decide +kernel) rfl rfl (s_aldn (j := 0) (pc' := 6) (by decide +kernel) rfl rfl (s_gfr (ci := 10) (j := 9) (pc' := 9) rfl g_ok11 (by decide) (by decide) (by decide) rfl w_832 (by decide +kernel) rfl (s_aldn (j := 0) (pc' := 10) (by decide +kernel) rfl rfl (s_gfr (ci := 10) (j := 0) (pc' := 13) rfl g_ok11 (by decide) (by decide) (by decide) rfl w_823 (by decide +kernel) rfl (s_con (n := 1) (pc' := 14) (by decide +kernel) (by decide +kernel) rfl (s_ial (pc' := 15) (by decide +kernel) rfl (s_calV (ci := 10) (pc' := 18) C_X11_layKnit A_X11_layKnit rfl (by decide) w_1066 (by decide) (by decide +kernel) rfl (s_aldn (j := 0) (pc' := 19) (by decide +kernel) rfl rfl (s_gfr (ci := 10) (j := 15) (pc' := 22) rfl g_ok11 (by decide) (by decide) (by decide) rfl w_838 (by decide +kernel) rfl (s_ildn (j := 1) (pc' := 23) (by decide +kernel) rfl rfl (s_ial (pc' := 24) (by decide +kernel) rfl (s_iret (by decide +kernel) rfl rfl rfl))))))))))))))
def F_X11_knitParent : vF := runD D_X11_knitParent 2
theorem C_X11_knitParent : Ctr yX11_knitParent cX11_knitParent 2 (some .int) 4 0 0 F_X11_knitParent := ctr_of (d := fun _ => D_X11_knitParent) (by decide +kernel) S_D_X11_knitParent
theorem A_X11_knitParent : CaV yX11_knitParent cX11_knitParent 2 (some .int) 1 := ⟨w_1064, w_53, w_77, w_1065, by unfold Nm; decide +kernel⟩
def B_X11_layParagraphLooks_14 : vD := op_ild 2 (op_con 6 (op_icge (op_kil [true, true, false] (op_jmp 43)) (op_ald 0 (op_gfr 10 10 (op_con 6 (op_ild 1 (op_bin f_mul (op_ild 2 (op_bin f_add (op_ald 0 (op_ild 1 (op_ild 2 (op_calV 10 2 F_X11_ofParagraph (op_ias (op_inc 2 1 (op_jmp 14))))))))))))))))
set_option maxRecDepth 100000 in
theorem S_B_X11_layParagraphLooks_14 (g0 : vG) : Snd yX11_layParagraphLooks cX11_layParagraphLooks 3 none 4 0 0 g0 14 B_X11_layParagraphLooks_14 := s_ildn (j := 2) (pc' := 15) (by decide +kernel) rfl rfl (s_bip (n := 6) (pc' := 17) (by decide +kernel) (by decide +kernel) rfl (s_icge (off := 26) (pt := 43) (pc' := 20) (by decide +kernel) (by decide) rfl (s_kil s_jmp) (s_aldn (j := 0) (pc' := 21) (by decide +kernel) rfl rfl (s_gfr (ci := 10) (j := 10) (pc' := 24) rfl g_ok11 (by decide) (by decide) (by decide) rfl w_833 (by decide +kernel) rfl (s_bip (n := 6) (pc' := 26) (by decide +kernel) (by decide +kernel) rfl (s_ildn (j := 1) (pc' := 27) (by decide +kernel) rfl rfl (s_mul (pc' := 28) (by decide +kernel) rfl (s_ildn (j := 2) (pc' := 29) (by decide +kernel) rfl rfl (s_add (pc' := 30) (by decide +kernel) rfl (s_aldn (j := 0) (pc' := 31) (by decide +kernel) rfl rfl (s_ildn (j := 1) (pc' := 32) (by decide +kernel) rfl rfl (s_ildn (j := 2) (pc' := 33) (by decide +kernel) rfl rfl (s_calV (ci := 10) (pc' := 36) C_X11_ofParagraph A_X11_ofParagraph rfl (by decide) w_939 (by decide) (by decide +kernel) rfl (s_ias (pc' := 37) (by decide +kernel) rfl (s_inc (n := 1) (pc' := 40) (by decide +kernel) (by decide +kernel) (by decide) rfl (s_goto (off := (-26)) (pt := 14) (by decide +kernel) (by decide) (s_jmp)))))))))))))))))
def K_X11_layParagraphLooks_43 : vD := op_inc 1 1 (op_kil [true, true, false] (op_jmp 2))
set_option maxRecDepth 100000 in
theorem S_K_X11_layParagraphLooks_43 (g0 : vG) : Snd yX11_layParagraphLooks cX11_layParagraphLooks 3 none 4 0 0 g0 43 K_X11_layParagraphLooks_43 := s_inc (n := 1) (pc' := 46) (by decide +kernel) (by decide +kernel) (by decide) rfl (s_goto (off := (-44)) (pt := 2) (by decide +kernel) (by decide) (s_kil s_jmp))
def B_X11_layParagraphLooks_2 : vD := op_ild 1 (op_ald 0 (op_gfr 10 0 (op_con 0 (op_ial (op_icge (op_kil [false, false, false] (op_jmp 49)) (op_con 0 (op_ist 2 (op_seq 43 (op_loop 14 B_X11_layParagraphLooks_14 4000) K_X11_layParagraphLooks_43))))))))
set_option maxRecDepth 100000 in
theorem S_B_X11_layParagraphLooks_2 (g0 : vG) : Snd yX11_layParagraphLooks cX11_layParagraphLooks 3 none 4 0 0 g0 2 B_X11_layParagraphLooks_2 := s_ildn (j := 1) (pc' := 3) (by decide +kernel) rfl rfl (s_aldn (j := 0) (pc' := 4) (by decide +kernel) rfl rfl (s_gfr (ci := 10) (j := 0) (pc' := 7) rfl g_ok11 (by decide) (by decide) (by decide) rfl w_823 (by decide +kernel) rfl (s_con (n := 0) (pc' := 8) (by decide +kernel) (by decide +kernel) rfl (s_ial (pc' := 9) (by decide +kernel) rfl (s_icge (off := 40) (pt := 49) (pc' := 12) (by decide +kernel) (by decide) rfl (s_kil s_jmp) (s_con (n := 0) (pc' := 13) (by decide +kernel) (by decide +kernel) rfl (s_istn (j := 2) (pc' := 14) (by decide +kernel) rfl (by decide) rfl (s_seq (s_loop (S_B_X11_layParagraphLooks_14 g0) 4000) (S_K_X11_layParagraphLooks_43 g0)))))))))
def K_X11_layParagraphLooks_49 : vD := op_vret
set_option maxRecDepth 100000 in
theorem S_K_X11_layParagraphLooks_49 (g0 : vG) : Snd yX11_layParagraphLooks cX11_layParagraphLooks 3 none 4 0 0 g0 49 K_X11_layParagraphLooks_49 := s_vret (by decide +kernel) rfl rfl rfl
def D_X11_layParagraphLooks : vD := op_con 0 (op_ist 1 (op_seq 49 (op_kil [true, true, false] (op_loop 2 B_X11_layParagraphLooks_2 4000)) K_X11_layParagraphLooks_49))
set_option maxRecDepth 100000 in
theorem S_D_X11_layParagraphLooks (g0 : vG) : Snd yX11_layParagraphLooks cX11_layParagraphLooks 3 none 4 0 0 g0 0 D_X11_layParagraphLooks := s_con (n := 0) (pc' := 1) (by decide +kernel) (by decide +kernel) rfl (s_istn (j := 1) (pc' := 2) (by decide +kernel) rfl (by decide) rfl (s_seq (s_kil (s_loop (S_B_X11_layParagraphLooks_2 g0) 4000)) (S_K_X11_layParagraphLooks_49 g0)))
def F_X11_layParagraphLooks : vF := runD D_X11_layParagraphLooks 3
theorem C_X11_layParagraphLooks : Ctr yX11_layParagraphLooks cX11_layParagraphLooks 3 none 4 0 0 F_X11_layParagraphLooks := ctr_of (d := fun _ => D_X11_layParagraphLooks) (by decide +kernel) S_D_X11_layParagraphLooks
theorem A_X11_layParagraphLooks : CaV yX11_layParagraphLooks cX11_layParagraphLooks 3 none 0 := ⟨w_937, w_29, w_77, w_938, by unfold Nm; decide +kernel⟩
def K_X11_needless_37 : vD := op_bin f_add (op_ist 1 (op_inc 3 1 (op_jmp 12)))
set_option maxRecDepth 100000 in
theorem S_K_X11_needless_37 (g0 : vG) : Snd yX11_needless cX11_needless 4 (some .int) 4 0 0 g0 37 K_X11_needless_37 := s_add (pc' := 38) (by decide +kernel) rfl (s_istn (j := 1) (pc' := 39) (by decide +kernel) rfl (by decide) rfl (s_inc (n := 1) (pc' := 42) (by decide +kernel) (by decide +kernel) (by decide) rfl (s_goto (off := (-30)) (pt := 12) (by decide +kernel) (by decide) (s_jmp))))
def B_X11_needless_12 : vD := op_ild 3 (op_ald 0 (op_gfr 10 0 (op_con 1 (op_ial (op_icge (op_kil [true, true, true, false] (op_jmp 45)) (op_ild 1 (op_ald 0 (op_ild 3 (op_ild 2 (op_calV 10 2 F_X11_isNeedlessOfStyle (op_seq 37 (op_ifeq (op_con 0 (op_kil [true, false, true, true] (op_jmp 37))) (op_con 1 (op_kil [true, false, true, true] (op_jmp 37)))) K_X11_needless_37)))))))))))
set_option maxRecDepth 100000 in
theorem S_B_X11_needless_12 (g0 : vG) : Snd yX11_needless cX11_needless 4 (some .int) 4 0 0 g0 12 B_X11_needless_12 := s_ildn (j := 3) (pc' := 13) (by decide +kernel) rfl rfl (s_aldn (j := 0) (pc' := 14) (by decide +kernel) rfl rfl (s_gfr (ci := 10) (j := 0) (pc' := 17) rfl g_ok11 (by decide) (by decide) (by decide) rfl w_823 (by decide +kernel) rfl (s_con (n := 1) (pc' := 18) (by decide +kernel) (by decide +kernel) rfl (s_ial (pc' := 19) (by decide +kernel) rfl (s_icge (off := 26) (pt := 45) (pc' := 22) (by decide +kernel) (by decide) rfl (s_kil s_jmp) (s_ildn (j := 1) (pc' := 23) (by decide +kernel) rfl rfl (s_aldn (j := 0) (pc' := 24) (by decide +kernel) rfl rfl (s_ildn (j := 3) (pc' := 25) (by decide +kernel) rfl rfl (s_ildn (j := 2) (pc' := 26) (by decide +kernel) rfl rfl (s_calV (ci := 10) (pc' := 29) C_X11_isNeedlessOfStyle A_X11_isNeedlessOfStyle rfl (by decide) w_911 (by decide) (by decide +kernel) rfl (s_seq (s_ifeq (off := 7) (pt := 36) (pc' := 32) (by decide +kernel) (by decide) rfl (s_con (n := 0) (pc' := 37) (by decide +kernel) (by decide +kernel) rfl (s_kil s_jmp)) (s_con (n := 1) (pc' := 33) (by decide +kernel) (by decide +kernel) rfl (s_goto (off := 4) (pt := 37) (by decide +kernel) (by decide) (s_kil s_jmp)))) (S_K_X11_needless_37 g0))))))))))))
def K_X11_needless_72 : vD := op_bin f_add (op_ist 1 (op_inc 3 1 (op_jmp 47)))
set_option maxRecDepth 100000 in
theorem S_K_X11_needless_72 (g0 : vG) : Snd yX11_needless cX11_needless 4 (some .int) 4 0 0 g0 72 K_X11_needless_72 := s_add (pc' := 73) (by decide +kernel) rfl (s_istn (j := 1) (pc' := 74) (by decide +kernel) rfl (by decide) rfl (s_inc (n := 1) (pc' := 77) (by decide +kernel) (by decide +kernel) (by decide) rfl (s_goto (off := (-30)) (pt := 47) (by decide +kernel) (by decide) (s_jmp))))
def B_X11_needless_47 : vD := op_ild 3 (op_ald 0 (op_gfr 10 0 (op_con 0 (op_ial (op_icge (op_kil [true, true, true, false] (op_jmp 80)) (op_ild 1 (op_ald 0 (op_ild 3 (op_ild 2 (op_calV 10 2 F_X11_isNeedlessOfParagraph (op_seq 72 (op_ifeq (op_con 0 (op_kil [true, false, true, true] (op_jmp 72))) (op_con 1 (op_kil [true, false, true, true] (op_jmp 72)))) K_X11_needless_72)))))))))))
set_option maxRecDepth 100000 in
theorem S_B_X11_needless_47 (g0 : vG) : Snd yX11_needless cX11_needless 4 (some .int) 4 0 0 g0 47 B_X11_needless_47 := s_ildn (j := 3) (pc' := 48) (by decide +kernel) rfl rfl (s_aldn (j := 0) (pc' := 49) (by decide +kernel) rfl rfl (s_gfr (ci := 10) (j := 0) (pc' := 52) rfl g_ok11 (by decide) (by decide) (by decide) rfl w_823 (by decide +kernel) rfl (s_con (n := 0) (pc' := 53) (by decide +kernel) (by decide +kernel) rfl (s_ial (pc' := 54) (by decide +kernel) rfl (s_icge (off := 26) (pt := 80) (pc' := 57) (by decide +kernel) (by decide) rfl (s_kil s_jmp) (s_ildn (j := 1) (pc' := 58) (by decide +kernel) rfl rfl (s_aldn (j := 0) (pc' := 59) (by decide +kernel) rfl rfl (s_ildn (j := 3) (pc' := 60) (by decide +kernel) rfl rfl (s_ildn (j := 2) (pc' := 61) (by decide +kernel) rfl rfl (s_calV (ci := 10) (pc' := 64) C_X11_isNeedlessOfParagraph A_X11_isNeedlessOfParagraph rfl (by decide) w_923 (by decide) (by decide +kernel) rfl (s_seq (s_ifeq (off := 7) (pt := 71) (pc' := 67) (by decide +kernel) (by decide) rfl (s_con (n := 0) (pc' := 72) (by decide +kernel) (by decide +kernel) rfl (s_kil s_jmp)) (s_con (n := 1) (pc' := 68) (by decide +kernel) (by decide +kernel) rfl (s_goto (off := 4) (pt := 72) (by decide +kernel) (by decide) (s_kil s_jmp)))) (S_K_X11_needless_72 g0))))))))))))
def K_X11_needless_80 : vD := op_inc 2 1 (op_kil [true, true, true, false] (op_jmp 4))
set_option maxRecDepth 100000 in
theorem S_K_X11_needless_80 (g0 : vG) : Snd yX11_needless cX11_needless 4 (some .int) 4 0 0 g0 80 K_X11_needless_80 := s_inc (n := 1) (pc' := 83) (by decide +kernel) (by decide +kernel) (by decide) rfl (s_goto (off := (-79)) (pt := 4) (by decide +kernel) (by decide) (s_kil s_jmp))
def K_X11_needless_45 : vD := op_con 0 (op_ist 3 (op_seq 80 (op_loop 47 B_X11_needless_47 4000) K_X11_needless_80))
set_option maxRecDepth 100000 in
theorem S_K_X11_needless_45 (g0 : vG) : Snd yX11_needless cX11_needless 4 (some .int) 4 0 0 g0 45 K_X11_needless_45 := s_con (n := 0) (pc' := 46) (by decide +kernel) (by decide +kernel) rfl (s_istn (j := 3) (pc' := 47) (by decide +kernel) rfl (by decide) rfl (s_seq (s_loop (S_B_X11_needless_47 g0) 4000) (S_K_X11_needless_80 g0)))
def B_X11_needless_4 : vD := op_ild 2 (op_con 6 (op_icge (op_kil [false, true, false, false] (op_jmp 86)) (op_con 0 (op_ist 3 (op_seq 45 (op_loop 12 B_X11_needless_12 4000) K_X11_needless_45)))))
set_option maxRecDepth 100000 in
theorem S_B_X11_needless_4 (g0 : vG) : Snd yX11_needless cX11_needless 4 (some .int) 4 0 0 g0 4 B_X11_needless_4 := s_ildn (j := 2) (pc' := 5) (by decide +kernel) rfl rfl (s_bip (n := 6) (pc' := 7) (by decide +kernel) (by decide +kernel) rfl (s_icge (off := 79) (pt := 86) (pc' := 10) (by decide +kernel) (by decide) rfl (s_kil s_jmp) (s_con (n := 0) (pc' := 11) (by decide +kernel) (by decide +kernel) rfl (s_istn (j := 3) (pc' := 12) (by decide +kernel) rfl (by decide) rfl (s_seq (s_loop (S_B_X11_needless_12 g0) 4000) (S_K_X11_needless_45 g0))))))
def K_X11_needless_86 : vD := op_ild 1 (op_ret)
set_option maxRecDepth 100000 in
theorem S_K_X11_needless_86 (g0 : vG) : Snd yX11_needless cX11_needless 4 (some .int) 4 0 0 g0 86 K_X11_needless_86 := s_ildn (j := 1) (pc' := 87) (by decide +kernel) rfl rfl (s_iret (by decide +kernel) rfl rfl rfl)
def D_X11_needless : vD := op_con 0 (op_ist 1 (op_con 0 (op_ist 2 (op_seq 86 (op_kil [true, true, true, false] (op_loop 4 B_X11_needless_4 4000)) K_X11_needless_86))))
set_option maxRecDepth 100000 in
theorem S_D_X11_needless (g0 : vG) : Snd yX11_needless cX11_needless 4 (some .int) 4 0 0 g0 0 D_X11_needless := s_con (n := 0) (pc' := 1) (by decide +kernel) (by decide +kernel) rfl (s_istn (j := 1) (pc' := 2) (by decide +kernel) rfl (by decide) rfl (s_con (n := 0) (pc' := 3) (by decide +kernel) (by decide +kernel) rfl (s_istn (j := 2) (pc' := 4) (by decide +kernel) rfl (by decide) rfl (s_seq (s_kil (s_loop (S_B_X11_needless_4 g0) 4000)) (S_K_X11_needless_86 g0)))))
def F_X11_needless : vF := runD D_X11_needless 4
theorem C_X11_needless : Ctr yX11_needless cX11_needless 4 (some .int) 4 0 0 F_X11_needless := ctr_of (d := fun _ => D_X11_needless) (by decide +kernel) S_D_X11_needless
theorem A_X11_needless : CaV yX11_needless cX11_needless 4 (some .int) 0 := ⟨w_909, w_22, w_77, w_910, by unfold Nm; decide +kernel⟩
def B_X11_wrongEntry_2 : vD := op_ild 1 (op_ald 0 (op_gfi 10 8 (op_icge (op_kil [false, false] (op_jmp 56)) (op_ald 0 (op_ald 0 (op_gfr 10 5 (op_ild 1 (op_ial (op_calV 10 1 F_X11_isParagraph (op_ifeq (op_kil [false, true] (op_jmp 48)) (op_ald 0 (op_ald 0 (op_gfr 10 5 (op_ild 1 (op_ial (op_ald 0 (op_gfr 10 6 (op_ild 1 (op_ial (op_calV 10 2 F_X11_ofParagraph (op_ald 0 (op_gfr 10 7 (op_ild 1 (op_ial (op_iceq (op_inc 1 1 (op_jmp 2)) (op_kil [false, true] (op_jmp 48)))))))))))))))))))))))))))
set_option maxRecDepth 100000 in
theorem S_B_X11_wrongEntry_2 (g0 : vG) : Snd yX11_wrongEntry cX11_wrongEntry 2 (some .int) 4 0 0 g0 2 B_X11_wrongEntry_2 := s_ildn (j := 1) (pc' := 3) (by decide +kernel) rfl rfl (s_aldn (j := 0) (pc' := 4) (by decide +kernel) rfl rfl (s_gfi (ci := 10) (j := 8) (pc' := 7) rfl g_ok11 (by decide) (by decide) (by decide) rfl w_831 (by decide +kernel) rfl (s_icge (off := 49) (pt := 56) (pc' := 10) (by decide +kernel) (by decide) rfl (s_kil s_jmp) (s_aldn (j := 0) (pc' := 11) (by decide +kernel) rfl rfl (s_aldn (j := 0) (pc' := 12) (by decide +kernel) rfl rfl (s_gfr (ci := 10) (j := 5) (pc' := 15) rfl g_ok11 (by decide) (by decide) (by decide) rfl w_828 (by decide +kernel) rfl (s_ildn (j := 1) (pc' := 16) (by decide +kernel) rfl rfl (s_ial (pc' := 17) (by decide +kernel) rfl (s_calV (ci := 10) (pc' := 20) C_X11_isParagraph A_X11_isParagraph rfl (by decide) w_998 (by decide) (by decide +kernel) rfl (s_ifeq (off := 28) (pt := 48) (pc' := 23) (by decide +kernel) (by decide) rfl (s_kil s_jmp) (s_aldn (j := 0) (pc' := 24) (by decide +kernel) rfl rfl (s_aldn (j := 0) (pc' := 25) (by decide +kernel) rfl rfl (s_gfr (ci := 10) (j := 5) (pc' := 28) rfl g_ok11 (by decide) (by decide) (by decide) rfl w_828 (by decide +kernel) rfl (s_ildn (j := 1) (pc' := 29) (by decide +kernel) rfl rfl (s_ial (pc' := 30) (by decide +kernel) rfl (s_aldn (j := 0) (pc' := 31) (by decide +kernel) rfl rfl (s_gfr (ci := 10) (j := 6) (pc' := 34) rfl g_ok11 (by decide) (by decide) (by decide) rfl w_829 (by decide +kernel) rfl (s_ildn (j := 1) (pc' := 35) (by decide +kernel) rfl rfl (s_ial (pc' := 36) (by decide +kernel) rfl (s_calV (ci := 10) (pc' := 39) C_X11_ofParagraph A_X11_ofParagraph rfl (by decide) w_939 (by decide) (by decide +kernel) rfl (s_aldn (j := 0) (pc' := 40) (by decide +kernel) rfl rfl (s_gfr (ci := 10) (j := 7) (pc' := 43) rfl g_ok11 (by decide) (by decide) (by decide) rfl w_830 (by decide +kernel) rfl (s_ildn (j := 1) (pc' := 44) (by decide +kernel) rfl rfl (s_ial (pc' := 45) (by decide +kernel) rfl (s_iceq (off := 5) (pt := 50) (pc' := 48) (by decide +kernel) (by decide) rfl (s_inc (n := 1) (pc' := 53) (by decide +kernel) (by decide +kernel) (by decide) rfl (s_goto (off := (-51)) (pt := 2) (by decide +kernel) (by decide) (s_jmp))) (s_kil s_jmp))))))))))))))))))))))))))
def K_X11_wrongEntry_48 : vD := op_ild 1 (op_ret)
set_option maxRecDepth 100000 in
theorem S_K_X11_wrongEntry_48 (g0 : vG) : Snd yX11_wrongEntry cX11_wrongEntry 2 (some .int) 4 0 0 g0 48 K_X11_wrongEntry_48 := s_ildn (j := 1) (pc' := 49) (by decide +kernel) rfl rfl (s_iret (by decide +kernel) rfl rfl rfl)
def K_X11_wrongEntry_56 : vD := op_con (-1) (op_ret)
set_option maxRecDepth 100000 in
theorem S_K_X11_wrongEntry_56 (g0 : vG) : Snd yX11_wrongEntry cX11_wrongEntry 2 (some .int) 4 0 0 g0 56 K_X11_wrongEntry_56 := s_con (n := (-1)) (pc' := 57) (by decide +kernel) (by decide +kernel) rfl (s_iret (by decide +kernel) rfl rfl rfl)
def D_X11_wrongEntry : vD := op_con 0 (op_ist 1 (op_seq 56 (op_seq 48 (op_loop 2 B_X11_wrongEntry_2 4000) K_X11_wrongEntry_48) K_X11_wrongEntry_56))
set_option maxRecDepth 100000 in
theorem S_D_X11_wrongEntry (g0 : vG) : Snd yX11_wrongEntry cX11_wrongEntry 2 (some .int) 4 0 0 g0 0 D_X11_wrongEntry := s_con (n := 0) (pc' := 1) (by decide +kernel) (by decide +kernel) rfl (s_istn (j := 1) (pc' := 2) (by decide +kernel) rfl (by decide) rfl (s_seq (s_seq (s_loop (S_B_X11_wrongEntry_2 g0) 4000) (S_K_X11_wrongEntry_48 g0)) (S_K_X11_wrongEntry_56 g0)))
def F_X11_wrongEntry : vF := runD D_X11_wrongEntry 2
theorem C_X11_wrongEntry : Ctr yX11_wrongEntry cX11_wrongEntry 2 (some .int) 4 0 0 F_X11_wrongEntry := ctr_of (d := fun _ => D_X11_wrongEntry) (by decide +kernel) S_D_X11_wrongEntry
theorem A_X11_wrongEntry : CaV yX11_wrongEntry cX11_wrongEntry 2 (some .int) 0 := ⟨w_996, w_42, w_77, w_997, by unfold Nm; decide +kernel⟩
def D_X11_layAll : vD := op_ald 0 (op_calV 10 0 F_X11_layStyleLooks (op_ald 0 (op_calV 10 0 F_X11_layParagraphLooks (op_vret))))
set_option maxRecDepth 100000 in
theorem S_D_X11_layAll (g0 : vG) : Snd yX11_layAll cX11_layAll 1 none 5 0 0 g0 0 D_X11_layAll := s_aldn (j := 0) (pc' := 1) (by decide +kernel) rfl rfl (s_calV (ci := 10) (pc' := 4) C_X11_layStyleLooks A_X11_layStyleLooks rfl (by decide) w_950 (by decide) (by decide +kernel) rfl (s_aldn (j := 0) (pc' := 5) (by decide +kernel) rfl rfl (s_calV (ci := 10) (pc' := 8) C_X11_layParagraphLooks A_X11_layParagraphLooks rfl (by decide) w_935 (by decide) (by decide +kernel) rfl (s_vret (by decide +kernel) rfl rfl rfl))))
def F_X11_layAll : vF := runD D_X11_layAll 1
theorem C_X11_layAll : Ctr yX11_layAll cX11_layAll 1 none 5 0 0 F_X11_layAll := ctr_of (d := fun _ => D_X11_layAll) (by decide +kernel) S_D_X11_layAll
theorem A_X11_layAll : CaV yX11_layAll cX11_layAll 1 none 0 := ⟨w_1024, w_44, w_77, w_1025, by unfold Nm; decide +kernel⟩
def B_X11_layLooks_23 : vD := op_ild 2 (op_ald 0 (op_gfi 10 12 (op_icge (op_kil [true, true, true, false] (op_jmp 53)) (op_ald 0 (op_gfr 10 11 (op_ild 2 (op_ald 0 (op_gfr 10 10 (op_ild 1 (op_cal 4 F_X11_compare (op_ifge (op_kil [true, true, true, false] (op_jmp 53)) (op_inc 2 1 (op_kil [true, true, true, false] (op_jmp 23))))))))))))))
set_option maxRecDepth 100000 in
theorem S_B_X11_layLooks_23 (g0 : vG) : Snd yX11_layLooks cX11_layLooks 4 none 5 0 0 g0 23 B_X11_layLooks_23 := s_ildn (j := 2) (pc' := 24) (by decide +kernel) rfl rfl (s_aldn (j := 0) (pc' := 25) (by decide +kernel) rfl rfl (s_gfi (ci := 10) (j := 12) (pc' := 28) rfl g_ok11 (by decide) (by decide) (by decide) rfl w_835 (by decide +kernel) rfl (s_icge (off := 25) (pt := 53) (pc' := 31) (by decide +kernel) (by decide) rfl (s_kil s_jmp) (s_aldn (j := 0) (pc' := 32) (by decide +kernel) rfl rfl (s_gfr (ci := 10) (j := 11) (pc' := 35) rfl g_ok11 (by decide) (by decide) (by decide) rfl w_834 (by decide +kernel) rfl (s_ildn (j := 2) (pc' := 36) (by decide +kernel) rfl rfl (s_aldn (j := 0) (pc' := 37) (by decide +kernel) rfl rfl (s_gfr (ci := 10) (j := 10) (pc' := 40) rfl g_ok11 (by decide) (by decide) (by decide) rfl w_833 (by decide +kernel) rfl (s_ildn (j := 1) (pc' := 41) (by decide +kernel) rfl rfl (s_calS (pc' := 44) C_X11_compare A_X11_compare w_943 (by decide) (by decide +kernel) rfl (s_ifge (off := 9) (pt := 53) (pc' := 47) (by decide +kernel) (by decide) rfl (s_kil s_jmp) (s_inc (n := 1) (pc' := 50) (by decide +kernel) (by decide +kernel) (by decide) rfl (s_goto (off := (-27)) (pt := 23) (by decide +kernel) (by decide) (s_kil s_jmp))))))))))))))
def B_X11_layLooks_87 : vD := op_ild 3 (op_con 6 (op_ild 2 (op_bin f_mul (op_iclt (op_kil [true, true, true, false] (op_jmp 116)) (op_ald 0 (op_gfr 10 11 (op_ild 3 (op_con 6 (op_bin f_add (op_ald 0 (op_gfr 10 11 (op_ild 3 (op_ial (op_ias (op_inc 3 (-1) (op_jmp 87))))))))))))))))
set_option maxRecDepth 100000 in
theorem S_B_X11_layLooks_87 (g0 : vG) : Snd yX11_layLooks cX11_layLooks 4 none 5 0 0 g0 87 B_X11_layLooks_87 := s_ildn (j := 3) (pc' := 88) (by decide +kernel) rfl rfl (s_bip (n := 6) (pc' := 90) (by decide +kernel) (by decide +kernel) rfl (s_ildn (j := 2) (pc' := 91) (by decide +kernel) rfl rfl (s_mul (pc' := 92) (by decide +kernel) rfl (s_iclt (off := 24) (pt := 116) (pc' := 95) (by decide +kernel) (by decide) rfl (s_kil s_jmp) (s_aldn (j := 0) (pc' := 96) (by decide +kernel) rfl rfl (s_gfr (ci := 10) (j := 11) (pc' := 99) rfl g_ok11 (by decide) (by decide) (by decide) rfl w_834 (by decide +kernel) rfl (s_ildn (j := 3) (pc' := 100) (by decide +kernel) rfl rfl (s_bip (n := 6) (pc' := 102) (by decide +kernel) (by decide +kernel) rfl (s_add (pc' := 103) (by decide +kernel) rfl (s_aldn (j := 0) (pc' := 104) (by decide +kernel) rfl rfl (s_gfr (ci := 10) (j := 11) (pc' := 107) rfl g_ok11 (by decide) (by decide) (by decide) rfl w_834 (by decide +kernel) rfl (s_ildn (j := 3) (pc' := 108) (by decide +kernel) rfl rfl (s_ial (pc' := 109) (by decide +kernel) rfl (s_ias (pc' := 110) (by decide +kernel) rfl (s_inc (n := (-1)) (pc' := 113) (by decide +kernel) (by decide +kernel) (by decide) rfl (s_goto (off := (-26)) (pt := 87) (by decide +kernel) (by decide) (s_jmp)))))))))))))))))
def B_X11_layLooks_118 : vD := op_ild 3 (op_con 6 (op_icge (op_kil [true, true, false, false] (op_jmp 152)) (op_ald 0 (op_gfr 10 11 (op_con 6 (op_ild 2 (op_bin f_mul (op_ild 3 (op_bin f_add (op_ald 0 (op_gfr 10 10 (op_con 6 (op_ild 1 (op_bin f_mul (op_ild 3 (op_bin f_add (op_ial (op_ias (op_inc 3 1 (op_jmp 118))))))))))))))))))))
set_option maxRecDepth 100000 in
theorem S_B_X11_layLooks_118 (g0 : vG) : Snd yX11_layLooks cX11_layLooks 4 none 5 0 0 g0 118 B_X11_layLooks_118 := s_ildn (j := 3) (pc' := 119) (by decide +kernel) rfl rfl (s_bip (n := 6) (pc' := 121) (by decide +kernel) (by decide +kernel) rfl (s_icge (off := 31) (pt := 152) (pc' := 124) (by decide +kernel) (by decide) rfl (s_kil s_jmp) (s_aldn (j := 0) (pc' := 125) (by decide +kernel) rfl rfl (s_gfr (ci := 10) (j := 11) (pc' := 128) rfl g_ok11 (by decide) (by decide) (by decide) rfl w_834 (by decide +kernel) rfl (s_bip (n := 6) (pc' := 130) (by decide +kernel) (by decide +kernel) rfl (s_ildn (j := 2) (pc' := 131) (by decide +kernel) rfl rfl (s_mul (pc' := 132) (by decide +kernel) rfl (s_ildn (j := 3) (pc' := 133) (by decide +kernel) rfl rfl (s_add (pc' := 134) (by decide +kernel) rfl (s_aldn (j := 0) (pc' := 135) (by decide +kernel) rfl rfl (s_gfr (ci := 10) (j := 10) (pc' := 138) rfl g_ok11 (by decide) (by decide) (by decide) rfl w_833 (by decide +kernel) rfl (s_bip (n := 6) (pc' := 140) (by decide +kernel) (by decide +kernel) rfl (s_ildn (j := 1) (pc' := 141) (by decide +kernel) rfl rfl (s_mul (pc' := 142) (by decide +kernel) rfl (s_ildn (j := 3) (pc' := 143) (by decide +kernel) rfl rfl (s_add (pc' := 144) (by decide +kernel) rfl (s_ial (pc' := 145) (by decide +kernel) rfl (s_ias (pc' := 146) (by decide +kernel) rfl (s_inc (n := 1) (pc' := 149) (by decide +kernel) (by decide +kernel) (by decide) rfl (s_goto (off := (-31)) (pt := 118) (by decide +kernel) (by decide) (s_jmp)))))))))))))))))))))
def K_X11_layLooks_152 : vD := op_ald 0 (op_dup (op_gfi 10 12 (op_con 1 (op_bin f_add (op_pfi 10 12 (op_kil [true, true, false, false] (op_jmp 162)))))))
set_option maxRecDepth 100000 in
theorem S_K_X11_layLooks_152 (g0 : vG) : Snd yX11_layLooks cX11_layLooks 4 none 5 0 0 g0 152 K_X11_layLooks_152 := s_aldn (j := 0) (pc' := 153) (by decide +kernel) rfl rfl (s_dup (pc' := 154) (by decide +kernel) rfl (s_gfi (ci := 10) (j := 12) (pc' := 157) rfl g_ok11 (by decide) (by decide) (by decide) rfl w_835 (by decide +kernel) rfl (s_con (n := 1) (pc' := 158) (by decide +kernel) (by decide +kernel) rfl (s_add (pc' := 159) (by decide +kernel) rfl (s_pfi (ci := 10) (j := 12) (pc' := 162) rfl g_ok11 tyX11 tyX11_ok nmX11 (by decide) (by decide) (by decide) rfl rfl rfl w_835 (by decide +kernel) rfl (s_kil s_jmp))))))
def K_X11_layLooks_116 : vD := op_con 0 (op_ist 3 (op_seq 152 (op_loop 118 B_X11_layLooks_118 4000) K_X11_layLooks_152))
set_option maxRecDepth 100000 in
theorem S_K_X11_layLooks_116 (g0 : vG) : Snd yX11_layLooks cX11_layLooks 4 none 5 0 0 g0 116 K_X11_layLooks_116 := s_con (n := 0) (pc' := 117) (by decide +kernel) (by decide +kernel) rfl (s_istn (j := 3) (pc' := 118) (by decide +kernel) rfl (by decide) rfl (s_seq (s_loop (S_B_X11_layLooks_118 g0) 4000) (S_K_X11_layLooks_152 g0)))
def K_X11_layLooks_77 : vD := op_con 6 (op_ald 0 (op_gfi 10 12 (op_bin f_mul (op_con 1 (op_bin f_sub (op_ist 3 (op_seq 116 (op_loop 87 B_X11_layLooks_87 4000) K_X11_layLooks_116)))))))
set_option maxRecDepth 100000 in
theorem S_K_X11_layLooks_77 (g0 : vG) : Snd yX11_layLooks cX11_layLooks 4 none 5 0 0 g0 77 K_X11_layLooks_77 := s_bip (n := 6) (pc' := 79) (by decide +kernel) (by decide +kernel) rfl (s_aldn (j := 0) (pc' := 80) (by decide +kernel) rfl rfl (s_gfi (ci := 10) (j := 12) (pc' := 83) rfl g_ok11 (by decide) (by decide) (by decide) rfl w_835 (by decide +kernel) rfl (s_mul (pc' := 84) (by decide +kernel) rfl (s_con (n := 1) (pc' := 85) (by decide +kernel) (by decide +kernel) rfl (s_sub (pc' := 86) (by decide +kernel) rfl (s_istn (j := 3) (pc' := 87) (by decide +kernel) rfl (by decide) rfl (s_seq (s_loop (S_B_X11_layLooks_87 g0) 4000) (S_K_X11_layLooks_116 g0))))))))
def K_X11_layLooks_162 : vD := op_inc 1 1 (op_kil [true, true, false, false] (op_jmp 11))
set_option maxRecDepth 100000 in
theorem S_K_X11_layLooks_162 (g0 : vG) : Snd yX11_layLooks cX11_layLooks 4 none 5 0 0 g0 162 K_X11_layLooks_162 := s_inc (n := 1) (pc' := 165) (by decide +kernel) (by decide +kernel) (by decide) rfl (s_goto (off := (-154)) (pt := 11) (by decide +kernel) (by decide) (s_kil s_jmp))
def K_X11_layLooks_53 : vD := op_ild 2 (op_ald 0 (op_gfi 10 12 (op_seq 162 (op_seq 77 (op_iceq (op_kil [true, true, true, false] (op_jmp 77)) (op_ald 0 (op_gfr 10 11 (op_ild 2 (op_ald 0 (op_gfr 10 10 (op_ild 1 (op_cal 4 F_X11_compare (op_ifle (op_kil [true, true, false, false] (op_jmp 162)) (op_kil [true, true, true, false] (op_jmp 77))))))))))) K_X11_layLooks_77) K_X11_layLooks_162)))
set_option maxRecDepth 100000 in
theorem S_K_X11_layLooks_53 (g0 : vG) : Snd yX11_layLooks cX11_layLooks 4 none 5 0 0 g0 53 K_X11_layLooks_53 := s_ildn (j := 2) (pc' := 54) (by decide +kernel) rfl rfl (s_aldn (j := 0) (pc' := 55) (by decide +kernel) rfl rfl (s_gfi (ci := 10) (j := 12) (pc' := 58) rfl g_ok11 (by decide) (by decide) (by decide) rfl w_835 (by decide +kernel) rfl (s_seq (s_seq (s_iceq (off := 19) (pt := 77) (pc' := 61) (by decide +kernel) (by decide) rfl (s_kil s_jmp) (s_aldn (j := 0) (pc' := 62) (by decide +kernel) rfl rfl (s_gfr (ci := 10) (j := 11) (pc' := 65) rfl g_ok11 (by decide) (by decide) (by decide) rfl w_834 (by decide +kernel) rfl (s_ildn (j := 2) (pc' := 66) (by decide +kernel) rfl rfl (s_aldn (j := 0) (pc' := 67) (by decide +kernel) rfl rfl (s_gfr (ci := 10) (j := 10) (pc' := 70) rfl g_ok11 (by decide) (by decide) (by decide) rfl w_833 (by decide +kernel) rfl (s_ildn (j := 1) (pc' := 71) (by decide +kernel) rfl rfl (s_calS (pc' := 74) C_X11_compare A_X11_compare w_943 (by decide) (by decide +kernel) rfl (s_ifle (off := 88) (pt := 162) (pc' := 77) (by decide +kernel) (by decide) rfl (s_kil s_jmp) (s_kil s_jmp)))))))))) (S_K_X11_layLooks_77 g0)) (S_K_X11_layLooks_162 g0))))
def B_X11_layLooks_11 : vD := op_ild 1 (op_ald 0 (op_gfr 10 0 (op_con 0 (op_ial (op_icge (op_kil [false, false, false, false] (op_jmp 168)) (op_con 0 (op_ist 2 (op_seq 53 (op_kil [true, true, true, false] (op_loop 23 B_X11_layLooks_23 4000)) K_X11_layLooks_53))))))))
set_option maxRecDepth 100000 in
theorem S_B_X11_layLooks_11 (g0 : vG) : Snd yX11_layLooks cX11_layLooks 4 none 5 0 0 g0 11 B_X11_layLooks_11 := s_ildn (j := 1) (pc' := 12) (by decide +kernel) rfl rfl (s_aldn (j := 0) (pc' := 13) (by decide +kernel) rfl rfl (s_gfr (ci := 10) (j := 0) (pc' := 16) rfl g_ok11 (by decide) (by decide) (by decide) rfl w_823 (by decide +kernel) rfl (s_con (n := 0) (pc' := 17) (by decide +kernel) (by decide +kernel) rfl (s_ial (pc' := 18) (by decide +kernel) rfl (s_icge (off := 150) (pt := 168) (pc' := 21) (by decide +kernel) (by decide) rfl (s_kil s_jmp) (s_con (n := 0) (pc' := 22) (by decide +kernel) (by decide +kernel) rfl (s_istn (j := 2) (pc' := 23) (by decide +kernel) rfl (by decide) rfl (s_seq (s_kil (s_loop (S_B_X11_layLooks_23 g0) 4000)) (S_K_X11_layLooks_53 g0)))))))))
def K_X11_layLooks_168 : vD := op_vret
set_option maxRecDepth 100000 in
theorem S_K_X11_layLooks_168 (g0 : vG) : Snd yX11_layLooks cX11_layLooks 4 none 5 0 0 g0 168 K_X11_layLooks_168 := s_vret (by decide +kernel) rfl rfl rfl
def D_X11_layLooks : vD := op_ald 0 (op_calV 10 0 F_X11_layParagraphLooks (op_ald 0 (op_con 0 (op_pfi 10 12 (op_con 0 (op_ist 1 (op_seq 168 (op_kil [true, true, false, false] (op_loop 11 B_X11_layLooks_11 4000)) K_X11_layLooks_168)))))))
set_option maxRecDepth 100000 in
theorem S_D_X11_layLooks (g0 : vG) : Snd yX11_layLooks cX11_layLooks 4 none 5 0 0 g0 0 D_X11_layLooks := s_aldn (j := 0) (pc' := 1) (by decide +kernel) rfl rfl (s_calV (ci := 10) (pc' := 4) C_X11_layParagraphLooks A_X11_layParagraphLooks rfl (by decide) w_935 (by decide) (by decide +kernel) rfl (s_aldn (j := 0) (pc' := 5) (by decide +kernel) rfl rfl (s_con (n := 0) (pc' := 6) (by decide +kernel) (by decide +kernel) rfl (s_pfi (ci := 10) (j := 12) (pc' := 9) rfl g_ok11 tyX11 tyX11_ok nmX11 (by decide) (by decide) (by decide) rfl rfl rfl w_835 (by decide +kernel) rfl (s_con (n := 0) (pc' := 10) (by decide +kernel) (by decide +kernel) rfl (s_istn (j := 1) (pc' := 11) (by decide +kernel) rfl (by decide) rfl (s_seq (s_kil (s_loop (S_B_X11_layLooks_11 g0) 4000)) (S_K_X11_layLooks_168 g0))))))))
def F_X11_layLooks : vF := runD D_X11_layLooks 4
theorem C_X11_layLooks : Ctr yX11_layLooks cX11_layLooks 4 none 5 0 0 F_X11_layLooks := ctr_of (d := fun _ => D_X11_layLooks) (by decide +kernel) S_D_X11_layLooks
theorem A_X11_layLooks : CaV yX11_layLooks cX11_layLooks 4 none 0 := ⟨w_933, w_28, w_77, w_934, by unfold Nm; decide +kernel⟩
def D_X11_styleAt : vD := op_ald 0 (op_ild 1 (op_calV 10 1 F_X11_isStyle (op_ifne (op_ild 2 (op_tsw [op_ald 0 (op_gfr 10 0 (op_ild 1 (op_cal 1 F_X11_styleOf (op_ial (op_ret))))), op_ald 0 (op_ild 1 (op_calV 10 1 F_X11_styleCost (op_ret))), op_ald 0 (op_ild 1 (op_calV 10 1 F_X11_above (op_ret))), op_ald 0 (op_ild 1 (op_calV 10 1 F_X11_havers (op_ret))), op_ald 0 (op_ild 1 (op_calV 10 1 F_X11_children (op_ret))), op_ald 0 (op_ild 1 (op_cal 1 F_X11_styleOf (op_calV 10 1 F_X11_toldAt (op_ret)))), op_ald 0 (op_ild 1 (op_calV 10 1 F_X11_knitParent (op_ret)))] (op_con (-1000000002) (op_ret)))) (op_con (-1000000001) (op_ret)))))
set_option maxRecDepth 100000 in
theorem S_D_X11_styleAt (g0 : vG) : Snd yX11_styleAt cX11_styleAt 3 (some .int) 5 0 0 g0 0 D_X11_styleAt := s_aldn (j := 0) (pc' := 1) (by decide +kernel) rfl rfl (s_ildn (j := 1) (pc' := 2) (by decide +kernel) rfl rfl (s_calV (ci := 10) (pc' := 5) C_X11_isStyle A_X11_isStyle rfl (by decide) w_1046 (by decide) (by decide +kernel) rfl (s_ifne (off := 6) (pt := 11) (pc' := 8) (by decide +kernel) (by decide) rfl (s_ildn (j := 2) (pc' := 12) (by decide +kernel) rfl rfl (s_tsw (ts := [56, 66, 72, 78, 84, 90, 99]) (td := 105) (dflt := 93) (hi := 6) (offs := #[44, 54, 60, 66, 72, 78, 87]) (len := 44) (by decide +kernel) (by decide) (by decide +kernel) (by decide) ⟨(s_aldn (j := 0) (pc' := 57) (by decide +kernel) rfl rfl (s_gfr (ci := 10) (j := 0) (pc' := 60) rfl g_ok11 (by decide) (by decide) (by decide) rfl w_823 (by decide +kernel) rfl (s_ildn (j := 1) (pc' := 61) (by decide +kernel) rfl rfl (s_calS (pc' := 64) C_X11_styleOf A_X11_styleOf w_890 (by decide) (by decide +kernel) rfl (s_ial (pc' := 65) (by decide +kernel) rfl (s_iret (by decide +kernel) rfl rfl rfl)))))), (s_aldn (j := 0) (pc' := 67) (by decide +kernel) rfl rfl (s_ildn (j := 1) (pc' := 68) (by decide +kernel) rfl rfl (s_calV (ci := 10) (pc' := 71) C_X11_styleCost A_X11_styleCost rfl (by decide) w_886 (by decide) (by decide +kernel) rfl (s_iret (by decide +kernel) rfl rfl rfl)))), (s_aldn (j := 0) (pc' := 73) (by decide +kernel) rfl rfl (s_ildn (j := 1) (pc' := 74) (by decide +kernel) rfl rfl (s_calV (ci := 10) (pc' := 77) C_X11_above A_X11_above rfl (by decide) w_1050 (by decide) (by decide +kernel) rfl (s_iret (by decide +kernel) rfl rfl rfl)))), (s_aldn (j := 0) (pc' := 79) (by decide +kernel) rfl rfl (s_ildn (j := 1) (pc' := 80) (by decide +kernel) rfl rfl (s_calV (ci := 10) (pc' := 83) C_X11_havers A_X11_havers rfl (by decide) w_1054 (by decide) (by decide +kernel) rfl (s_iret (by decide +kernel) rfl rfl rfl)))), (s_aldn (j := 0) (pc' := 85) (by decide +kernel) rfl rfl (s_ildn (j := 1) (pc' := 86) (by decide +kernel) rfl rfl (s_calV (ci := 10) (pc' := 89) C_X11_children A_X11_children rfl (by decide) w_1058 (by decide) (by decide +kernel) rfl (s_iret (by decide +kernel) rfl rfl rfl)))), (s_aldn (j := 0) (pc' := 91) (by decide +kernel) rfl rfl (s_ildn (j := 1) (pc' := 92) (by decide +kernel) rfl rfl (s_calS (pc' := 95) C_X11_styleOf A_X11_styleOf w_890 (by decide) (by decide +kernel) rfl (s_calV (ci := 10) (pc' := 98) C_X11_toldAt A_X11_toldAt rfl (by decide) w_1038 (by decide) (by decide +kernel) rfl (s_iret (by decide +kernel) rfl rfl rfl))))), (s_aldn (j := 0) (pc' := 100) (by decide +kernel) rfl rfl (s_ildn (j := 1) (pc' := 101) (by decide +kernel) rfl rfl (s_calV (ci := 10) (pc' := 104) C_X11_knitParent A_X11_knitParent rfl (by decide) w_1062 (by decide) (by decide +kernel) rfl (s_iret (by decide +kernel) rfl rfl rfl)))), trivial⟩ (s_ldc (pc' := 107) (by decide +kernel) w_1005 rfl (s_iret (by decide +kernel) rfl rfl rfl)))) (s_ldc (pc' := 10) (by decide +kernel) w_1013 rfl (s_iret (by decide +kernel) rfl rfl rfl)))))
def F_X11_styleAt : vF := runD D_X11_styleAt 3
theorem C_X11_styleAt : Ctr yX11_styleAt cX11_styleAt 3 (some .int) 5 0 0 F_X11_styleAt := ctr_of (d := fun _ => D_X11_styleAt) (by decide +kernel) S_D_X11_styleAt
theorem A_X11_styleAt : CaV yX11_styleAt cX11_styleAt 3 (some .int) 2 := ⟨w_1043, w_1044, w_77, w_1045, by unfold Nm; decide +kernel⟩
def B_X11_swap_52 : vD := op_ild 4 (op_con 7 (op_icge (op_kil [false, false, false, true, false, false] (op_jmp 117)) (op_ald 0 (op_gfr 10 0 (op_ild 1 (op_cal 1 F_X11_paragraphOf (op_ild 4 (op_bin f_add (op_ial (op_ist 5 (op_ald 0 (op_gfr 10 0 (op_ild 1 (op_cal 1 F_X11_paragraphOf (op_ild 4 (op_bin f_add (op_ald 0 (op_gfr 10 0 (op_ild 2 (op_cal 1 F_X11_paragraphOf (op_ild 4 (op_bin f_add (op_ial (op_ias (op_ald 0 (op_gfr 10 0 (op_ild 2 (op_cal 1 F_X11_paragraphOf (op_ild 4 (op_bin f_add (op_ild 5 (op_ias (op_inc 4 1 (op_kil [true, true, true, true, true, false] (op_jmp 52)))))))))))))))))))))))))))))))))))
set_option maxRecDepth 100000 in
theorem S_B_X11_swap_52 (g0 : vG) : Snd yX11_swap cX11_swap 6 (some .int) 5 0 0 g0 52 B_X11_swap_52 := s_ild (pc' := 54) (by decide +kernel) rfl (s_bip (n := 7) (pc' := 56) (by decide +kernel) (by decide +kernel) rfl (s_icge (off := 61) (pt := 117) (pc' := 59) (by decide +kernel) (by decide) rfl (s_kil s_jmp) (s_aldn (j := 0) (pc' := 60) (by decide +kernel) rfl rfl (s_gfr (ci := 10) (j := 0) (pc' := 63) rfl g_ok11 (by decide) (by decide) (by decide) rfl w_823 (by decide +kernel) rfl (s_ildn (j := 1) (pc' := 64) (by decide +kernel) rfl rfl (s_calS (pc' := 67) C_X11_paragraphOf A_X11_paragraphOf w_904 (by decide) (by decide +kernel) rfl (s_ild (pc' := 69) (by decide +kernel) rfl (s_add (pc' := 70) (by decide +kernel) rfl (s_ial (pc' := 71) (by decide +kernel) rfl (s_ist (pc' := 73) (by decide +kernel) (by decide) rfl (s_aldn (j := 0) (pc' := 74) (by decide +kernel) rfl rfl (s_gfr (ci := 10) (j := 0) (pc' := 77) rfl g_ok11 (by decide) (by decide) (by decide) rfl w_823 (by decide +kernel) rfl (s_ildn (j := 1) (pc' := 78) (by decide +kernel) rfl rfl (s_calS (pc' := 81) C_X11_paragraphOf A_X11_paragraphOf w_904 (by decide) (by decide +kernel) rfl (s_ild (pc' := 83) (by decide +kernel) rfl (s_add (pc' := 84) (by decide +kernel) rfl (s_aldn (j := 0) (pc' := 85) (by decide +kernel) rfl rfl (s_gfr (ci := 10) (j := 0) (pc' := 88) rfl g_ok11 (by decide) (by decide) (by decide) rfl w_823 (by decide +kernel) rfl (s_ildn (j := 2) (pc' := 89) (by decide +kernel) rfl rfl (s_calS (pc' := 92) C_X11_paragraphOf A_X11_paragraphOf w_904 (by decide) (by decide +kernel) rfl (s_ild (pc' := 94) (by decide +kernel) rfl (s_add (pc' := 95) (by decide +kernel) rfl (s_ial (pc' := 96) (by decide +kernel) rfl (s_ias (pc' := 97) (by decide +kernel) rfl (s_aldn (j := 0) (pc' := 98) (by decide +kernel) rfl rfl (s_gfr (ci := 10) (j := 0) (pc' := 101) rfl g_ok11 (by decide) (by decide) (by decide) rfl w_823 (by decide +kernel) rfl (s_ildn (j := 2) (pc' := 102) (by decide +kernel) rfl rfl (s_calS (pc' := 105) C_X11_paragraphOf A_X11_paragraphOf w_904 (by decide) (by decide +kernel) rfl (s_ild (pc' := 107) (by decide +kernel) rfl (s_add (pc' := 108) (by decide +kernel) rfl (s_ild (pc' := 110) (by decide +kernel) rfl (s_ias (pc' := 111) (by decide +kernel) rfl (s_inc (n := 1) (pc' := 114) (by decide +kernel) (by decide +kernel) (by decide) rfl (s_goto (off := (-62)) (pt := 52) (by decide +kernel) (by decide) (s_kil s_jmp)))))))))))))))))))))))))))))))))))
def K_X11_swap_126 : vD := op_ret
set_option maxRecDepth 100000 in
theorem S_K_X11_swap_126 (g0 : vG) : Snd yX11_swap cX11_swap 6 (some .int) 5 0 0 g0 126 K_X11_swap_126 := s_iret (by decide +kernel) rfl rfl rfl
def K_X11_swap_117 : vD := op_ild 3 (op_seq 126 (op_ifeq (op_con 0 (op_kil [false, false, false, false, false, false] (op_jmp 126))) (op_con 1 (op_kil [false, false, false, false, false, false] (op_jmp 126)))) K_X11_swap_126)
set_option maxRecDepth 100000 in
theorem S_K_X11_swap_117 (g0 : vG) : Snd yX11_swap cX11_swap 6 (some .int) 5 0 0 g0 117 K_X11_swap_117 := s_ildn (j := 3) (pc' := 118) (by decide +kernel) rfl rfl (s_seq (s_ifeq (off := 7) (pt := 125) (pc' := 121) (by decide +kernel) (by decide) rfl (s_con (n := 0) (pc' := 126) (by decide +kernel) (by decide +kernel) rfl (s_kil s_jmp)) (s_con (n := 1) (pc' := 122) (by decide +kernel) (by decide +kernel) rfl (s_goto (off := 4) (pt := 126) (by decide +kernel) (by decide) (s_kil s_jmp)))) (S_K_X11_swap_126 g0))
def K_X11_swap_48 : vD := op_ist 3 (op_con 0 (op_ist 4 (op_seq 117 (op_kil [true, true, true, true, true, false] (op_loop 52 B_X11_swap_52 4000)) K_X11_swap_117)))
set_option maxRecDepth 100000 in
theorem S_K_X11_swap_48 (g0 : vG) : Snd yX11_swap cX11_swap 6 (some .int) 5 0 0 g0 48 K_X11_swap_48 := s_istn (j := 3) (pc' := 49) (by decide +kernel) rfl (by decide) rfl (s_con (n := 0) (pc' := 50) (by decide +kernel) (by decide +kernel) rfl (s_ist (pc' := 52) (by decide +kernel) (by decide) rfl (s_seq (s_kil (s_loop (S_B_X11_swap_52 g0) 4000)) (S_K_X11_swap_117 g0))))
def K_X11_swap_16 : vD := op_con (-1000000001) (op_ret)
set_option maxRecDepth 100000 in
theorem S_K_X11_swap_16 (g0 : vG) : Snd yX11_swap cX11_swap 6 (some .int) 5 0 0 g0 16 K_X11_swap_16 := s_ldc (pc' := 18) (by decide +kernel) w_1013 rfl (s_iret (by decide +kernel) rfl rfl rfl)
def D_X11_swap : vD := op_ald 0 (op_ild 1 (op_calV 10 1 F_X11_isParagraph (op_seq 16 (op_ifeq (op_kil [false, false, false, false, false, false] (op_jmp 16)) (op_ald 0 (op_ild 2 (op_calV 10 1 F_X11_isParagraph (op_ifne (op_ald 0 (op_calV 10 0 F_X11_remember (op_ald 0 (op_calV 10 0 F_X11_layParagraphLooks (op_ald 0 (op_gfr 10 10 (op_ild 1 (op_ald 0 (op_gfr 10 10 (op_ild 2 (op_cal 4 F_X11_compare (op_seq 48 (op_ifeq (op_con 0 (op_jmp 48)) (op_con 1 (op_jmp 48))) K_X11_swap_48)))))))))))) (op_kil [false, false, false, false, false, false] (op_jmp 16))))))) K_X11_swap_16)))
set_option maxRecDepth 100000 in
theorem S_D_X11_swap (g0 : vG) : Snd yX11_swap cX11_swap 6 (some .int) 5 0 0 g0 0 D_X11_swap := s_aldn (j := 0) (pc' := 1) (by decide +kernel) rfl rfl (s_ildn (j := 1) (pc' := 2) (by decide +kernel) rfl rfl (s_calV (ci := 10) (pc' := 5) C_X11_isParagraph A_X11_isParagraph rfl (by decide) w_998 (by decide) (by decide +kernel) rfl (s_seq (s_ifeq (off := 11) (pt := 16) (pc' := 8) (by decide +kernel) (by decide) rfl (s_kil s_jmp) (s_aldn (j := 0) (pc' := 9) (by decide +kernel) rfl rfl (s_ildn (j := 2) (pc' := 10) (by decide +kernel) rfl rfl (s_calV (ci := 10) (pc' := 13) C_X11_isParagraph A_X11_isParagraph rfl (by decide) w_998 (by decide) (by decide +kernel) rfl (s_ifne (off := 6) (pt := 19) (pc' := 16) (by decide +kernel) (by decide) rfl (s_aldn (j := 0) (pc' := 20) (by decide +kernel) rfl rfl (s_calV (ci := 10) (pc' := 23) C_X11_remember A_X11_remember rfl (by decide) w_1091 (by decide) (by decide +kernel) rfl (s_aldn (j := 0) (pc' := 24) (by decide +kernel) rfl rfl (s_calV (ci := 10) (pc' := 27) C_X11_layParagraphLooks A_X11_layParagraphLooks rfl (by decide) w_935 (by decide) (by decide +kernel) rfl (s_aldn (j := 0) (pc' := 28) (by decide +kernel) rfl rfl (s_gfr (ci := 10) (j := 10) (pc' := 31) rfl g_ok11 (by decide) (by decide) (by decide) rfl w_833 (by decide +kernel) rfl (s_ildn (j := 1) (pc' := 32) (by decide +kernel) rfl rfl (s_aldn (j := 0) (pc' := 33) (by decide +kernel) rfl rfl (s_gfr (ci := 10) (j := 10) (pc' := 36) rfl g_ok11 (by decide) (by decide) (by decide) rfl w_833 (by decide +kernel) rfl (s_ildn (j := 2) (pc' := 37) (by decide +kernel) rfl rfl (s_calS (pc' := 40) C_X11_compare A_X11_compare w_943 (by decide) (by decide +kernel) rfl (s_seq (s_ifeq (off := 7) (pt := 47) (pc' := 43) (by decide +kernel) (by decide) rfl (s_con (n := 0) (pc' := 48) (by decide +kernel) (by decide +kernel) rfl (s_jmp)) (s_con (n := 1) (pc' := 44) (by decide +kernel) (by decide +kernel) rfl (s_goto (off := 4) (pt := 48) (by decide +kernel) (by decide) (s_jmp)))) (S_K_X11_swap_48 g0))))))))))))) (s_kil s_jmp)))))) (S_K_X11_swap_16 g0))))
def F_X11_swap : vF := runD D_X11_swap 6
theorem C_X11_swap : Ctr yX11_swap cX11_swap 6 (some .int) 5 0 0 F_X11_swap := ctr_of (d := fun _ => D_X11_swap) (by decide +kernel) S_D_X11_swap
theorem A_X11_swap : CaV yX11_swap cX11_swap 6 (some .int) 2 := ⟨w_1168, w_1169, w_77, w_1170, by unfold Nm; decide +kernel⟩
end
section
/-! ===== fragments and contracts, by program (wip/whole/gen.py) ===== -/
def K_X11_drop_68 : vD := op_inc 3 1 (op_jmp 31)
set_option maxRecDepth 100000 in
theorem S_K_X11_drop_68 (g0 : vG) : Snd yX11_drop cX11_drop 4 (some .int) 6 0 0 g0 68 K_X11_drop_68 := s_inc (n := 1) (pc' := 71) (by decide +kernel) (by decide +kernel) (by decide) rfl (s_goto (off := (-40)) (pt := 31) (by decide +kernel) (by decide) (s_jmp))
def B_X11_drop_31 : vD := op_ild 3 (op_ald 0 (op_gfr 10 0 (op_con 1 (op_ial (op_icge (op_kil [true, true, true, false] (op_jmp 74)) (op_ald 0 (op_gfr 10 0 (op_ild 3 (op_cal 1 F_X11_styleOf (op_ial (op_ild 1 (op_seq 68 (op_icne (op_jmp 68) (op_ald 0 (op_ild 3 (op_cal 1 F_X11_styleOf (op_ild 2 (op_ald 0 (op_gfr 10 9 (op_ild 3 (op_calV 10 4 F_X11_tellAnew (op_jmp 68)))))))))) K_X11_drop_68))))))))))))
set_option maxRecDepth 100000 in
theorem S_B_X11_drop_31 (g0 : vG) : Snd yX11_drop cX11_drop 4 (some .int) 6 0 0 g0 31 B_X11_drop_31 := s_ildn (j := 3) (pc' := 32) (by decide +kernel) rfl rfl (s_aldn (j := 0) (pc' := 33) (by decide +kernel) rfl rfl (s_gfr (ci := 10) (j := 0) (pc' := 36) rfl g_ok11 (by decide) (by decide) (by decide) rfl w_823 (by decide +kernel) rfl (s_con (n := 1) (pc' := 37) (by decide +kernel) (by decide +kernel) rfl (s_ial (pc' := 38) (by decide +kernel) rfl (s_icge (off := 36) (pt := 74) (pc' := 41) (by decide +kernel) (by decide) rfl (s_kil s_jmp) (s_aldn (j := 0) (pc' := 42) (by decide +kernel) rfl rfl (s_gfr (ci := 10) (j := 0) (pc' := 45) rfl g_ok11 (by decide) (by decide) (by decide) rfl w_823 (by decide +kernel) rfl (s_ildn (j := 3) (pc' := 46) (by decide +kernel) rfl rfl (s_calS (pc' := 49) C_X11_styleOf A_X11_styleOf w_890 (by decide) (by decide +kernel) rfl (s_ial (pc' := 50) (by decide +kernel) rfl (s_ildn (j := 1) (pc' := 51) (by decide +kernel) rfl rfl (s_seq (s_icne (off := 17) (pt := 68) (pc' := 54) (by decide +kernel) (by decide) rfl (s_jmp) (s_aldn (j := 0) (pc' := 55) (by decide +kernel) rfl rfl (s_ildn (j := 3) (pc' := 56) (by decide +kernel) rfl rfl (s_calS (pc' := 59) C_X11_styleOf A_X11_styleOf w_890 (by decide) (by decide +kernel) rfl (s_ildn (j := 2) (pc' := 60) (by decide +kernel) rfl rfl (s_aldn (j := 0) (pc' := 61) (by decide +kernel) rfl rfl (s_gfr (ci := 10) (j := 9) (pc' := 64) rfl g_ok11 (by decide) (by decide) (by decide) rfl w_832 (by decide +kernel) rfl (s_ildn (j := 3) (pc' := 65) (by decide +kernel) rfl rfl (s_calV (ci := 10) (pc' := 68) C_X11_tellAnew A_X11_tellAnew rfl (by decide) w_1147 (by decide) (by decide +kernel) rfl (s_jmp)))))))))) (S_K_X11_drop_68 g0)))))))))))))
def K_X11_drop_113 : vD := op_inc 3 1 (op_jmp 76)
set_option maxRecDepth 100000 in
theorem S_K_X11_drop_113 (g0 : vG) : Snd yX11_drop cX11_drop 4 (some .int) 6 0 0 g0 113 K_X11_drop_113 := s_inc (n := 1) (pc' := 116) (by decide +kernel) (by decide +kernel) (by decide) rfl (s_goto (off := (-40)) (pt := 76) (by decide +kernel) (by decide) (s_jmp))
def B_X11_drop_76 : vD := op_ild 3 (op_ald 0 (op_gfr 10 0 (op_con 0 (op_ial (op_icge (op_kil [true, true, false, false] (op_jmp 119)) (op_ald 0 (op_gfr 10 0 (op_ild 3 (op_cal 1 F_X11_paragraphOf (op_ial (op_ild 1 (op_seq 113 (op_icne (op_jmp 113) (op_ald 0 (op_ild 3 (op_cal 1 F_X11_paragraphOf (op_ild 2 (op_ald 0 (op_gfr 10 10 (op_ild 3 (op_calV 10 4 F_X11_tellAnew (op_jmp 113)))))))))) K_X11_drop_113))))))))))))
set_option maxRecDepth 100000 in
theorem S_B_X11_drop_76 (g0 : vG) : Snd yX11_drop cX11_drop 4 (some .int) 6 0 0 g0 76 B_X11_drop_76 := s_ildn (j := 3) (pc' := 77) (by decide +kernel) rfl rfl (s_aldn (j := 0) (pc' := 78) (by decide +kernel) rfl rfl (s_gfr (ci := 10) (j := 0) (pc' := 81) rfl g_ok11 (by decide) (by decide) (by decide) rfl w_823 (by decide +kernel) rfl (s_con (n := 0) (pc' := 82) (by decide +kernel) (by decide +kernel) rfl (s_ial (pc' := 83) (by decide +kernel) rfl (s_icge (off := 36) (pt := 119) (pc' := 86) (by decide +kernel) (by decide) rfl (s_kil s_jmp) (s_aldn (j := 0) (pc' := 87) (by decide +kernel) rfl rfl (s_gfr (ci := 10) (j := 0) (pc' := 90) rfl g_ok11 (by decide) (by decide) (by decide) rfl w_823 (by decide +kernel) rfl (s_ildn (j := 3) (pc' := 91) (by decide +kernel) rfl rfl (s_calS (pc' := 94) C_X11_paragraphOf A_X11_paragraphOf w_904 (by decide) (by decide +kernel) rfl (s_ial (pc' := 95) (by decide +kernel) rfl (s_ildn (j := 1) (pc' := 96) (by decide +kernel) rfl rfl (s_seq (s_icne (off := 17) (pt := 113) (pc' := 99) (by decide +kernel) (by decide) rfl (s_jmp) (s_aldn (j := 0) (pc' := 100) (by decide +kernel) rfl rfl (s_ildn (j := 3) (pc' := 101) (by decide +kernel) rfl rfl (s_calS (pc' := 104) C_X11_paragraphOf A_X11_paragraphOf w_904 (by decide) (by decide +kernel) rfl (s_ildn (j := 2) (pc' := 105) (by decide +kernel) rfl rfl (s_aldn (j := 0) (pc' := 106) (by decide +kernel) rfl rfl (s_gfr (ci := 10) (j := 10) (pc' := 109) rfl g_ok11 (by decide) (by decide) (by decide) rfl w_833 (by decide +kernel) rfl (s_ildn (j := 3) (pc' := 110) (by decide +kernel) rfl rfl (s_calV (ci := 10) (pc' := 113) C_X11_tellAnew A_X11_tellAnew rfl (by decide) w_1147 (by decide) (by decide +kernel) rfl (s_jmp)))))))))) (S_K_X11_drop_113 g0)))))))))))))
def B_X11_drop_124 : vD := op_ild 3 (op_ald 0 (op_gfr 10 0 (op_con 1 (op_ial (op_con 1 (op_bin f_sub (op_cal 1 F_X11_styleOf (op_icge (op_kil [true, true, false, false] (op_jmp 160)) (op_ald 0 (op_gfr 10 0 (op_ild 3 (op_ald 0 (op_gfr 10 0 (op_ild 3 (op_con 7 (op_bin f_add (op_ial (op_ias (op_inc 3 1 (op_kil [true, true, false, true] (op_jmp 124)))))))))))))))))))))
set_option maxRecDepth 100000 in
theorem S_B_X11_drop_124 (g0 : vG) : Snd yX11_drop cX11_drop 4 (some .int) 6 0 0 g0 124 B_X11_drop_124 := s_ildn (j := 3) (pc' := 125) (by decide +kernel) rfl rfl (s_aldn (j := 0) (pc' := 126) (by decide +kernel) rfl rfl (s_gfr (ci := 10) (j := 0) (pc' := 129) rfl g_ok11 (by decide) (by decide) (by decide) rfl w_823 (by decide +kernel) rfl (s_con (n := 1) (pc' := 130) (by decide +kernel) (by decide +kernel) rfl (s_ial (pc' := 131) (by decide +kernel) rfl (s_con (n := 1) (pc' := 132) (by decide +kernel) (by decide +kernel) rfl (s_sub (pc' := 133) (by decide +kernel) rfl (s_calS (pc' := 136) C_X11_styleOf A_X11_styleOf w_890 (by decide) (by decide +kernel) rfl (s_icge (off := 24) (pt := 160) (pc' := 139) (by decide +kernel) (by decide) rfl (s_kil s_jmp) (s_aldn (j := 0) (pc' := 140) (by decide +kernel) rfl rfl (s_gfr (ci := 10) (j := 0) (pc' := 143) rfl g_ok11 (by decide) (by decide) (by decide) rfl w_823 (by decide +kernel) rfl (s_ildn (j := 3) (pc' := 144) (by decide +kernel) rfl rfl (s_aldn (j := 0) (pc' := 145) (by decide +kernel) rfl rfl (s_gfr (ci := 10) (j := 0) (pc' := 148) rfl g_ok11 (by decide) (by decide) (by decide) rfl w_823 (by decide +kernel) rfl (s_ildn (j := 3) (pc' := 149) (by decide +kernel) rfl rfl (s_bip (n := 7) (pc' := 151) (by decide +kernel) (by decide +kernel) rfl (s_add (pc' := 152) (by decide +kernel) rfl (s_ial (pc' := 153) (by decide +kernel) rfl (s_ias (pc' := 154) (by decide +kernel) rfl (s_inc (n := 1) (pc' := 157) (by decide +kernel) (by decide +kernel) (by decide) rfl (s_goto (off := (-33)) (pt := 124) (by decide +kernel) (by decide) (s_kil s_jmp)))))))))))))))))))))
def B_X11_drop_172 : vD := op_ild 3 (op_ald 0 (op_gfr 10 0 (op_con 1 (op_ial (op_icge (op_kil [true, true, false, false] (op_jmp 197)) (op_ald 0 (op_ild 3 (op_cal 1 F_X11_styleOf (op_ild 1 (op_calV 10 2 F_X11_lessAbove (op_inc 3 1 (op_kil [true, true, false, true] (op_jmp 172)))))))))))))
set_option maxRecDepth 100000 in
theorem S_B_X11_drop_172 (g0 : vG) : Snd yX11_drop cX11_drop 4 (some .int) 6 0 0 g0 172 B_X11_drop_172 := s_ildn (j := 3) (pc' := 173) (by decide +kernel) rfl rfl (s_aldn (j := 0) (pc' := 174) (by decide +kernel) rfl rfl (s_gfr (ci := 10) (j := 0) (pc' := 177) rfl g_ok11 (by decide) (by decide) (by decide) rfl w_823 (by decide +kernel) rfl (s_con (n := 1) (pc' := 178) (by decide +kernel) (by decide +kernel) rfl (s_ial (pc' := 179) (by decide +kernel) rfl (s_icge (off := 18) (pt := 197) (pc' := 182) (by decide +kernel) (by decide) rfl (s_kil s_jmp) (s_aldn (j := 0) (pc' := 183) (by decide +kernel) rfl rfl (s_ildn (j := 3) (pc' := 184) (by decide +kernel) rfl rfl (s_calS (pc' := 187) C_X11_styleOf A_X11_styleOf w_890 (by decide) (by decide +kernel) rfl (s_ildn (j := 1) (pc' := 188) (by decide +kernel) rfl rfl (s_calV (ci := 10) (pc' := 191) C_X11_lessAbove A_X11_lessAbove rfl (by decide) w_1159 (by decide) (by decide +kernel) rfl (s_inc (n := 1) (pc' := 194) (by decide +kernel) (by decide +kernel) (by decide) rfl (s_goto (off := (-22)) (pt := 172) (by decide +kernel) (by decide) (s_kil s_jmp)))))))))))))
def B_X11_drop_199 : vD := op_ild 3 (op_ald 0 (op_gfr 10 0 (op_con 0 (op_ial (op_icge (op_kil [true, false, false, false] (op_jmp 224)) (op_ald 0 (op_ild 3 (op_cal 1 F_X11_paragraphOf (op_ild 1 (op_calV 10 2 F_X11_lessAbove (op_inc 3 1 (op_kil [true, true, false, true] (op_jmp 199)))))))))))))
set_option maxRecDepth 100000 in
theorem S_B_X11_drop_199 (g0 : vG) : Snd yX11_drop cX11_drop 4 (some .int) 6 0 0 g0 199 B_X11_drop_199 := s_ildn (j := 3) (pc' := 200) (by decide +kernel) rfl rfl (s_aldn (j := 0) (pc' := 201) (by decide +kernel) rfl rfl (s_gfr (ci := 10) (j := 0) (pc' := 204) rfl g_ok11 (by decide) (by decide) (by decide) rfl w_823 (by decide +kernel) rfl (s_con (n := 0) (pc' := 205) (by decide +kernel) (by decide +kernel) rfl (s_ial (pc' := 206) (by decide +kernel) rfl (s_icge (off := 18) (pt := 224) (pc' := 209) (by decide +kernel) (by decide) rfl (s_kil s_jmp) (s_aldn (j := 0) (pc' := 210) (by decide +kernel) rfl rfl (s_ildn (j := 3) (pc' := 211) (by decide +kernel) rfl rfl (s_calS (pc' := 214) C_X11_paragraphOf A_X11_paragraphOf w_904 (by decide) (by decide +kernel) rfl (s_ildn (j := 1) (pc' := 215) (by decide +kernel) rfl rfl (s_calV (ci := 10) (pc' := 218) C_X11_lessAbove A_X11_lessAbove rfl (by decide) w_1159 (by decide) (by decide +kernel) rfl (s_inc (n := 1) (pc' := 221) (by decide +kernel) (by decide +kernel) (by decide) rfl (s_goto (off := (-22)) (pt := 199) (by decide +kernel) (by decide) (s_kil s_jmp)))))))))))))
def K_X11_drop_224 : vD := op_ald 0 (op_gfr 10 0 (op_con 1 (op_ial (op_ret))))
set_option maxRecDepth 100000 in
theorem S_K_X11_drop_224 (g0 : vG) : Snd yX11_drop cX11_drop 4 (some .int) 6 0 0 g0 224 K_X11_drop_224 := s_aldn (j := 0) (pc' := 225) (by decide +kernel) rfl rfl (s_gfr (ci := 10) (j := 0) (pc' := 228) rfl g_ok11 (by decide) (by decide) (by decide) rfl w_823 (by decide +kernel) rfl (s_con (n := 1) (pc' := 229) (by decide +kernel) (by decide +kernel) rfl (s_ial (pc' := 230) (by decide +kernel) rfl (s_iret (by decide +kernel) rfl rfl rfl))))
def K_X11_drop_197 : vD := op_con 0 (op_ist 3 (op_seq 224 (op_kil [true, true, false, true] (op_loop 199 B_X11_drop_199 4000)) K_X11_drop_224))
set_option maxRecDepth 100000 in
theorem S_K_X11_drop_197 (g0 : vG) : Snd yX11_drop cX11_drop 4 (some .int) 6 0 0 g0 197 K_X11_drop_197 := s_con (n := 0) (pc' := 198) (by decide +kernel) (by decide +kernel) rfl (s_istn (j := 3) (pc' := 199) (by decide +kernel) rfl (by decide) rfl (s_seq (s_kil (s_loop (S_B_X11_drop_199 g0) 4000)) (S_K_X11_drop_224 g0)))
def K_X11_drop_160 : vD := op_ald 0 (op_gfr 10 0 (op_con 1 (op_dup2 (op_ial (op_con 1 (op_bin f_sub (op_ias (op_con 0 (op_ist 3 (op_seq 197 (op_kil [true, true, false, true] (op_loop 172 B_X11_drop_172 4000)) K_X11_drop_197))))))))))
set_option maxRecDepth 100000 in
theorem S_K_X11_drop_160 (g0 : vG) : Snd yX11_drop cX11_drop 4 (some .int) 6 0 0 g0 160 K_X11_drop_160 := s_aldn (j := 0) (pc' := 161) (by decide +kernel) rfl rfl (s_gfr (ci := 10) (j := 0) (pc' := 164) rfl g_ok11 (by decide) (by decide) (by decide) rfl w_823 (by decide +kernel) rfl (s_con (n := 1) (pc' := 165) (by decide +kernel) (by decide +kernel) rfl (s_dup2 (pc' := 166) (by decide +kernel) rfl (s_ial (pc' := 167) (by decide +kernel) rfl (s_con (n := 1) (pc' := 168) (by decide +kernel) (by decide +kernel) rfl (s_sub (pc' := 169) (by decide +kernel) rfl (s_ias (pc' := 170) (by decide +kernel) rfl (s_con (n := 0) (pc' := 171) (by decide +kernel) (by decide +kernel) rfl (s_istn (j := 3) (pc' := 172) (by decide +kernel) rfl (by decide) rfl (s_seq (s_kil (s_loop (S_B_X11_drop_172 g0) 4000)) (S_K_X11_drop_197 g0)))))))))))
def K_X11_drop_119 : vD := op_ild 1 (op_cal 1 F_X11_styleOf (op_ist 3 (op_seq 160 (op_kil [true, true, false, true] (op_loop 124 B_X11_drop_124 4000)) K_X11_drop_160)))
set_option maxRecDepth 100000 in
theorem S_K_X11_drop_119 (g0 : vG) : Snd yX11_drop cX11_drop 4 (some .int) 6 0 0 g0 119 K_X11_drop_119 := s_ildn (j := 1) (pc' := 120) (by decide +kernel) rfl rfl (s_calS (pc' := 123) C_X11_styleOf A_X11_styleOf w_890 (by decide) (by decide +kernel) rfl (s_istn (j := 3) (pc' := 124) (by decide +kernel) rfl (by decide) rfl (s_seq (s_kil (s_loop (S_B_X11_drop_124 g0) 4000)) (S_K_X11_drop_160 g0))))
def K_X11_drop_74 : vD := op_con 0 (op_ist 3 (op_seq 119 (op_loop 76 B_X11_drop_76 4000) K_X11_drop_119))
set_option maxRecDepth 100000 in
theorem S_K_X11_drop_74 (g0 : vG) : Snd yX11_drop cX11_drop 4 (some .int) 6 0 0 g0 74 K_X11_drop_74 := s_con (n := 0) (pc' := 75) (by decide +kernel) (by decide +kernel) rfl (s_istn (j := 3) (pc' := 76) (by decide +kernel) rfl (by decide) rfl (s_seq (s_loop (S_B_X11_drop_76 g0) 4000) (S_K_X11_drop_119 g0)))
def D_X11_drop : vD := op_ald 0 (op_ild 1 (op_calV 10 1 F_X11_isStyle (op_ifne (op_ald 0 (op_calV 10 0 F_X11_remember (op_ald 0 (op_calV 10 0 F_X11_layAll (op_ald 0 (op_gfr 10 0 (op_ild 1 (op_cal 1 F_X11_styleOf (op_ial (op_ist 2 (op_con 0 (op_ist 3 (op_seq 74 (op_loop 31 B_X11_drop_31 4000) K_X11_drop_74))))))))))))) (op_con (-1000000001) (op_ret)))))
set_option maxRecDepth 100000 in
theorem S_D_X11_drop (g0 : vG) : Snd yX11_drop cX11_drop 4 (some .int) 6 0 0 g0 0 D_X11_drop := s_aldn (j := 0) (pc' := 1) (by decide +kernel) rfl rfl (s_ildn (j := 1) (pc' := 2) (by decide +kernel) rfl rfl (s_calV (ci := 10) (pc' := 5) C_X11_isStyle A_X11_isStyle rfl (by decide) w_1046 (by decide) (by decide +kernel) rfl (s_ifne (off := 6) (pt := 11) (pc' := 8) (by decide +kernel) (by decide) rfl (s_aldn (j := 0) (pc' := 12) (by decide +kernel) rfl rfl (s_calV (ci := 10) (pc' := 15) C_X11_remember A_X11_remember rfl (by decide) w_1091 (by decide) (by decide +kernel) rfl (s_aldn (j := 0) (pc' := 16) (by decide +kernel) rfl rfl (s_calV (ci := 10) (pc' := 19) C_X11_layAll A_X11_layAll rfl (by decide) w_1022 (by decide) (by decide +kernel) rfl (s_aldn (j := 0) (pc' := 20) (by decide +kernel) rfl rfl (s_gfr (ci := 10) (j := 0) (pc' := 23) rfl g_ok11 (by decide) (by decide) (by decide) rfl w_823 (by decide +kernel) rfl (s_ildn (j := 1) (pc' := 24) (by decide +kernel) rfl rfl (s_calS (pc' := 27) C_X11_styleOf A_X11_styleOf w_890 (by decide) (by decide +kernel) rfl (s_ial (pc' := 28) (by decide +kernel) rfl (s_istn (j := 2) (pc' := 29) (by decide +kernel) rfl (by decide) rfl (s_con (n := 0) (pc' := 30) (by decide +kernel) (by decide +kernel) rfl (s_istn (j := 3) (pc' := 31) (by decide +kernel) rfl (by decide) rfl (s_seq (s_loop (S_B_X11_drop_31 g0) 4000) (S_K_X11_drop_74 g0)))))))))))))) (s_ldc (pc' := 10) (by decide +kernel) w_1013 rfl (s_iret (by decide +kernel) rfl rfl rfl)))))
def F_X11_drop : vF := runD D_X11_drop 4
theorem C_X11_drop : Ctr yX11_drop cX11_drop 4 (some .int) 6 0 0 F_X11_drop := ctr_of (d := fun _ => D_X11_drop) (by decide +kernel) S_D_X11_drop
theorem A_X11_drop : CaV yX11_drop cX11_drop 4 (some .int) 1 := ⟨w_1156, w_1157, w_77, w_1158, by unfold Nm; decide +kernel⟩
def B_X11_layFamily_83 : vD := op_ild 3 (op_ald 0 (op_gfr 10 0 (op_con 0 (op_ial (op_icge (op_kil [true, true, true, false] (op_jmp 112)) (op_ild 2 (op_ald 0 (op_ald 0 (op_ild 3 (op_calV 10 1 F_X11_numberOf (op_ild 1 (op_calV 10 2 F_X11_cheapest (op_bin f_add (op_ist 2 (op_inc 3 1 (op_jmp 83))))))))))))))))
set_option maxRecDepth 100000 in
theorem S_B_X11_layFamily_83 (g0 : vG) : Snd yX11_layFamily cX11_layFamily 4 none 6 0 0 g0 83 B_X11_layFamily_83 := s_ildn (j := 3) (pc' := 84) (by decide +kernel) rfl rfl (s_aldn (j := 0) (pc' := 85) (by decide +kernel) rfl rfl (s_gfr (ci := 10) (j := 0) (pc' := 88) rfl g_ok11 (by decide) (by decide) (by decide) rfl w_823 (by decide +kernel) rfl (s_con (n := 0) (pc' := 89) (by decide +kernel) (by decide +kernel) rfl (s_ial (pc' := 90) (by decide +kernel) rfl (s_icge (off := 22) (pt := 112) (pc' := 93) (by decide +kernel) (by decide) rfl (s_kil s_jmp) (s_ildn (j := 2) (pc' := 94) (by decide +kernel) rfl rfl (s_aldn (j := 0) (pc' := 95) (by decide +kernel) rfl rfl (s_aldn (j := 0) (pc' := 96) (by decide +kernel) rfl rfl (s_ildn (j := 3) (pc' := 97) (by decide +kernel) rfl rfl (s_calV (ci := 10) (pc' := 100) C_X11_numberOf A_X11_numberOf rfl (by decide) w_982 (by decide) (by decide +kernel) rfl (s_ildn (j := 1) (pc' := 101) (by decide +kernel) rfl rfl (s_calV (ci := 10) (pc' := 104) C_X11_cheapest A_X11_cheapest rfl (by decide) w_986 (by decide) (by decide +kernel) rfl (s_add (pc' := 105) (by decide +kernel) rfl (s_istn (j := 2) (pc' := 106) (by decide +kernel) rfl (by decide) rfl (s_inc (n := 1) (pc' := 109) (by decide +kernel) (by decide +kernel) (by decide) rfl (s_goto (off := (-26)) (pt := 83) (by decide +kernel) (by decide) (s_jmp)))))))))))))))))
def K_X11_layFamily_142 : vD := op_ald 0 (op_ild 2 (op_pfi 10 17 (op_ald 0 (op_ild 1 (op_pfi 10 16 (op_kil [true, true, false, false] (op_jmp 152)))))))
set_option maxRecDepth 100000 in
theorem S_K_X11_layFamily_142 (g0 : vG) : Snd yX11_layFamily cX11_layFamily 4 none 6 0 0 g0 142 K_X11_layFamily_142 := s_aldn (j := 0) (pc' := 143) (by decide +kernel) rfl rfl (s_ildn (j := 2) (pc' := 144) (by decide +kernel) rfl rfl (s_pfi (ci := 10) (j := 17) (pc' := 147) rfl g_ok11 tyX11 tyX11_ok nmX11 (by decide) (by decide) (by decide) rfl rfl rfl w_840 (by decide +kernel) rfl (s_aldn (j := 0) (pc' := 148) (by decide +kernel) rfl rfl (s_ildn (j := 1) (pc' := 149) (by decide +kernel) rfl rfl (s_pfi (ci := 10) (j := 16) (pc' := 152) rfl g_ok11 tyX11 tyX11_ok nmX11 (by decide) (by decide) (by decide) rfl rfl rfl w_839 (by decide +kernel) rfl (s_kil s_jmp))))))
def K_X11_layFamily_152 : vD := op_inc 1 1 (op_kil [true, true, false, false] (op_jmp 38))
set_option maxRecDepth 100000 in
theorem S_K_X11_layFamily_152 (g0 : vG) : Snd yX11_layFamily cX11_layFamily 4 none 6 0 0 g0 152 K_X11_layFamily_152 := s_inc (n := 1) (pc' := 155) (by decide +kernel) (by decide +kernel) (by decide) rfl (s_goto (off := (-117)) (pt := 38) (by decide +kernel) (by decide) (s_kil s_jmp))
def K_X11_layFamily_112 : vD := op_ild 2 (op_ald 0 (op_gfi 10 17 (op_seq 152 (op_seq 142 (op_iclt (op_kil [true, true, true, false] (op_jmp 142)) (op_ild 2 (op_ald 0 (op_gfi 10 17 (op_icne (op_kil [true, true, false, false] (op_jmp 152)) (op_ild 1 (op_cal 1 F_X11_ones (op_ald 0 (op_gfi 10 16 (op_cal 1 F_X11_ones (op_icge (op_kil [true, true, false, false] (op_jmp 152)) (op_kil [true, true, true, false] (op_jmp 142))))))))))))) K_X11_layFamily_142) K_X11_layFamily_152)))
set_option maxRecDepth 100000 in
theorem S_K_X11_layFamily_112 (g0 : vG) : Snd yX11_layFamily cX11_layFamily 4 none 6 0 0 g0 112 K_X11_layFamily_112 := s_ildn (j := 2) (pc' := 113) (by decide +kernel) rfl rfl (s_aldn (j := 0) (pc' := 114) (by decide +kernel) rfl rfl (s_gfi (ci := 10) (j := 17) (pc' := 117) rfl g_ok11 (by decide) (by decide) (by decide) rfl w_840 (by decide +kernel) rfl (s_seq (s_seq (s_iclt (off := 25) (pt := 142) (pc' := 120) (by decide +kernel) (by decide) rfl (s_kil s_jmp) (s_ildn (j := 2) (pc' := 121) (by decide +kernel) rfl rfl (s_aldn (j := 0) (pc' := 122) (by decide +kernel) rfl rfl (s_gfi (ci := 10) (j := 17) (pc' := 125) rfl g_ok11 (by decide) (by decide) (by decide) rfl w_840 (by decide +kernel) rfl (s_icne (off := 27) (pt := 152) (pc' := 128) (by decide +kernel) (by decide) rfl (s_kil s_jmp) (s_ildn (j := 1) (pc' := 129) (by decide +kernel) rfl rfl (s_calS (pc' := 132) C_X11_ones A_X11_ones w_979 (by decide) (by decide +kernel) rfl (s_aldn (j := 0) (pc' := 133) (by decide +kernel) rfl rfl (s_gfi (ci := 10) (j := 16) (pc' := 136) rfl g_ok11 (by decide) (by decide) (by decide) rfl w_839 (by decide +kernel) rfl (s_calS (pc' := 139) C_X11_ones A_X11_ones w_979 (by decide) (by decide +kernel) rfl (s_icge (off := 13) (pt := 152) (pc' := 142) (by decide +kernel) (by decide) rfl (s_kil s_jmp) (s_kil s_jmp)))))))))))) (S_K_X11_layFamily_142 g0)) (S_K_X11_layFamily_152 g0))))
def K_X11_layFamily_80 : vD := op_ist 2 (op_con 0 (op_ist 3 (op_seq 112 (op_loop 83 B_X11_layFamily_83 4000) K_X11_layFamily_112)))
set_option maxRecDepth 100000 in
theorem S_K_X11_layFamily_80 (g0 : vG) : Snd yX11_layFamily cX11_layFamily 4 none 6 0 0 g0 80 K_X11_layFamily_80 := s_istn (j := 2) (pc' := 81) (by decide +kernel) rfl (by decide) rfl (s_con (n := 0) (pc' := 82) (by decide +kernel) (by decide +kernel) rfl (s_istn (j := 3) (pc' := 83) (by decide +kernel) rfl (by decide) rfl (s_seq (s_loop (S_B_X11_layFamily_83 g0) 4000) (S_K_X11_layFamily_112 g0))))
def B_X11_layFamily_38 : vD := op_ild 1 (op_con 1 (op_ald 0 (op_gfi 10 12 (op_bin f_shl (op_icge (op_kil [false, false, false, false] (op_jmp 158)) (op_ild 1 (op_cal 1 F_X11_ones (op_con 6 (op_seq 80 (op_icgt (op_con 1000000 (op_kil [true, true, false, false] (op_jmp 80))) (op_ald 0 (op_gfr 10 0 (op_con 2 (op_ial (op_ild 1 (op_cal 1 F_X11_ones (op_bin f_mul (op_ald 0 (op_gfr 10 14 (op_ild 1 (op_ial (op_bin f_add (op_kil [true, true, false, false] (op_jmp 80))))))))))))))) K_X11_layFamily_80)))))))))
set_option maxRecDepth 100000 in
theorem S_B_X11_layFamily_38 (g0 : vG) : Snd yX11_layFamily cX11_layFamily 4 none 6 0 0 g0 38 B_X11_layFamily_38 := s_ildn (j := 1) (pc' := 39) (by decide +kernel) rfl rfl (s_con (n := 1) (pc' := 40) (by decide +kernel) (by decide +kernel) rfl (s_aldn (j := 0) (pc' := 41) (by decide +kernel) rfl rfl (s_gfi (ci := 10) (j := 12) (pc' := 44) rfl g_ok11 (by decide) (by decide) (by decide) rfl w_835 (by decide +kernel) rfl (s_shl (pc' := 45) (by decide +kernel) rfl (s_icge (off := 113) (pt := 158) (pc' := 48) (by decide +kernel) (by decide) rfl (s_kil s_jmp) (s_ildn (j := 1) (pc' := 49) (by decide +kernel) rfl rfl (s_calS (pc' := 52) C_X11_ones A_X11_ones w_979 (by decide) (by decide +kernel) rfl (s_bip (n := 6) (pc' := 54) (by decide +kernel) (by decide +kernel) rfl (s_seq (s_icgt (off := 24) (pt := 78) (pc' := 57) (by decide +kernel) (by decide) rfl (s_ldc (pc' := 80) (by decide +kernel) w_966 rfl (s_kil s_jmp)) (s_aldn (j := 0) (pc' := 58) (by decide +kernel) rfl rfl (s_gfr (ci := 10) (j := 0) (pc' := 61) rfl g_ok11 (by decide) (by decide) (by decide) rfl w_823 (by decide +kernel) rfl (s_con (n := 2) (pc' := 62) (by decide +kernel) (by decide +kernel) rfl (s_ial (pc' := 63) (by decide +kernel) rfl (s_ildn (j := 1) (pc' := 64) (by decide +kernel) rfl rfl (s_calS (pc' := 67) C_X11_ones A_X11_ones w_979 (by decide) (by decide +kernel) rfl (s_mul (pc' := 68) (by decide +kernel) rfl (s_aldn (j := 0) (pc' := 69) (by decide +kernel) rfl rfl (s_gfr (ci := 10) (j := 14) (pc' := 72) rfl g_ok11 (by decide) (by decide) (by decide) rfl w_837 (by decide +kernel) rfl (s_ildn (j := 1) (pc' := 73) (by decide +kernel) rfl rfl (s_ial (pc' := 74) (by decide +kernel) rfl (s_add (pc' := 75) (by decide +kernel) rfl (s_goto (off := 5) (pt := 80) (by decide +kernel) (by decide) (s_kil s_jmp))))))))))))))) (S_K_X11_layFamily_80 g0))))))))))
def K_X11_layFamily_158 : vD := op_vret
set_option maxRecDepth 100000 in
theorem S_K_X11_layFamily_158 (g0 : vG) : Snd yX11_layFamily cX11_layFamily 4 none 6 0 0 g0 158 K_X11_layFamily_158 := s_vret (by decide +kernel) rfl rfl rfl
def D_X11_layFamily : vD := op_ald 0 (op_calV 10 0 F_X11_layLooks (op_ald 0 (op_ald 0 (op_gfr 10 11 (op_ald 0 (op_gfi 10 12 (op_calV 10 2 F_X11_layLinks (op_ald 0 (op_ald 0 (op_gfi 10 12 (op_calV 10 1 F_X11_grown (op_pop (op_ald 0 (op_con 0 (op_pfi 10 16 (op_ald 0 (op_con 1000000 (op_pfi 10 17 (op_con 0 (op_ist 1 (op_seq 158 (op_kil [true, true, false, false] (op_loop 38 B_X11_layFamily_38 4000)) K_X11_layFamily_158)))))))))))))))))))))
set_option maxRecDepth 100000 in
theorem S_D_X11_layFamily (g0 : vG) : Snd yX11_layFamily cX11_layFamily 4 none 6 0 0 g0 0 D_X11_layFamily := s_aldn (j := 0) (pc' := 1) (by decide +kernel) rfl rfl (s_calV (ci := 10) (pc' := 4) C_X11_layLooks A_X11_layLooks rfl (by decide) w_931 (by decide) (by decide +kernel) rfl (s_aldn (j := 0) (pc' := 5) (by decide +kernel) rfl rfl (s_aldn (j := 0) (pc' := 6) (by decide +kernel) rfl rfl (s_gfr (ci := 10) (j := 11) (pc' := 9) rfl g_ok11 (by decide) (by decide) (by decide) rfl w_834 (by decide +kernel) rfl (s_aldn (j := 0) (pc' := 10) (by decide +kernel) rfl rfl (s_gfi (ci := 10) (j := 12) (pc' := 13) rfl g_ok11 (by decide) (by decide) (by decide) rfl w_835 (by decide +kernel) rfl (s_calV (ci := 10) (pc' := 16) C_X11_layLinks A_X11_layLinks rfl (by decide) w_954 (by decide) (by decide +kernel) rfl (s_aldn (j := 0) (pc' := 17) (by decide +kernel) rfl rfl (s_aldn (j := 0) (pc' := 18) (by decide +kernel) rfl rfl (s_gfi (ci := 10) (j := 12) (pc' := 21) rfl g_ok11 (by decide) (by decide) (by decide) rfl w_835 (by decide +kernel) rfl (s_calV (ci := 10) (pc' := 24) C_X11_grown A_X11_grown rfl (by decide) w_962 (by decide) (by decide +kernel) rfl (s_pop (pc' := 25) (by decide +kernel) rfl (s_aldn (j := 0) (pc' := 26) (by decide +kernel) rfl rfl (s_con (n := 0) (pc' := 27) (by decide +kernel) (by decide +kernel) rfl (s_pfi (ci := 10) (j := 16) (pc' := 30) rfl g_ok11 tyX11 tyX11_ok nmX11 (by decide) (by decide) (by decide) rfl rfl rfl w_839 (by decide +kernel) rfl (s_aldn (j := 0) (pc' := 31) (by decide +kernel) rfl rfl (s_ldc (pc' := 33) (by decide +kernel) w_966 rfl (s_pfi (ci := 10) (j := 17) (pc' := 36) rfl g_ok11 tyX11 tyX11_ok nmX11 (by decide) (by decide) (by decide) rfl rfl rfl w_840 (by decide +kernel) rfl (s_con (n := 0) (pc' := 37) (by decide +kernel) (by decide +kernel) rfl (s_istn (j := 1) (pc' := 38) (by decide +kernel) rfl (by decide) rfl (s_seq (s_kil (s_loop (S_B_X11_layFamily_38 g0) 4000)) (S_K_X11_layFamily_158 g0))))))))))))))))))))))
def F_X11_layFamily : vF := runD D_X11_layFamily 4
theorem C_X11_layFamily : Ctr yX11_layFamily cX11_layFamily 4 none 6 0 0 F_X11_layFamily := ctr_of (d := fun _ => D_X11_layFamily) (by decide +kernel) S_D_X11_layFamily
theorem A_X11_layFamily : CaV yX11_layFamily cX11_layFamily 4 none 0 := ⟨w_977, w_38, w_77, w_978, by unfold Nm; decide +kernel⟩
def D_X11_lookNumber : vD := op_ald 0 (op_calV 10 0 F_X11_layLooks (op_ald 0 (op_ild 1 (op_calV 10 1 F_X11_numberOf (op_ret)))))
set_option maxRecDepth 100000 in
theorem S_D_X11_lookNumber (g0 : vG) : Snd yX11_lookNumber cX11_lookNumber 2 (some .int) 6 0 0 g0 0 D_X11_lookNumber := s_aldn (j := 0) (pc' := 1) (by decide +kernel) rfl rfl (s_calV (ci := 10) (pc' := 4) C_X11_layLooks A_X11_layLooks rfl (by decide) w_931 (by decide) (by decide +kernel) rfl (s_aldn (j := 0) (pc' := 5) (by decide +kernel) rfl rfl (s_ildn (j := 1) (pc' := 6) (by decide +kernel) rfl rfl (s_calV (ci := 10) (pc' := 9) C_X11_numberOf A_X11_numberOf rfl (by decide) w_982 (by decide) (by decide +kernel) rfl (s_iret (by decide +kernel) rfl rfl rfl)))))
def F_X11_lookNumber : vF := runD D_X11_lookNumber 2
theorem C_X11_lookNumber : Ctr yX11_lookNumber cX11_lookNumber 2 (some .int) 6 0 0 F_X11_lookNumber := ctr_of (d := fun _ => D_X11_lookNumber) (by decide +kernel) S_D_X11_lookNumber
theorem A_X11_lookNumber : CaV yX11_lookNumber cX11_lookNumber 2 (some .int) 1 := ⟨w_1036, w_47, w_77, w_1037, by unfold Nm; decide +kernel⟩
def D_X11_looks : vD := op_ald 0 (op_calV 10 0 F_X11_layLooks (op_ald 0 (op_gfi 10 12 (op_ret))))
set_option maxRecDepth 100000 in
theorem S_D_X11_looks (g0 : vG) : Snd yX11_looks cX11_looks 1 (some .int) 6 0 0 g0 0 D_X11_looks := s_aldn (j := 0) (pc' := 1) (by decide +kernel) rfl rfl (s_calV (ci := 10) (pc' := 4) C_X11_layLooks A_X11_layLooks rfl (by decide) w_931 (by decide) (by decide +kernel) rfl (s_aldn (j := 0) (pc' := 5) (by decide +kernel) rfl rfl (s_gfi (ci := 10) (j := 12) (pc' := 8) rfl g_ok11 (by decide) (by decide) (by decide) rfl w_835 (by decide +kernel) rfl (s_iret (by decide +kernel) rfl rfl rfl))))
def F_X11_looks : vF := runD D_X11_looks 1
theorem C_X11_looks : Ctr yX11_looks cX11_looks 1 (some .int) 6 0 0 F_X11_looks := ctr_of (d := fun _ => D_X11_looks) (by decide +kernel) S_D_X11_looks
theorem A_X11_looks : CaV yX11_looks cX11_looks 1 (some .int) 0 := ⟨w_929, w_27, w_77, w_930, by unfold Nm; decide +kernel⟩
def K_X11_reparent_16 : vD := op_con (-1000000001) (op_ret)
set_option maxRecDepth 100000 in
theorem S_K_X11_reparent_16 (g0 : vG) : Snd yX11_reparent cX11_reparent 3 (some .int) 6 0 0 g0 16 K_X11_reparent_16 := s_ldc (pc' := 18) (by decide +kernel) w_1013 rfl (s_iret (by decide +kernel) rfl rfl rfl)
def D_X11_reparent : vD := op_ald 0 (op_ild 1 (op_calV 10 1 F_X11_isStyle (op_seq 16 (op_ifeq (op_kil [false, false, false] (op_jmp 16)) (op_ald 0 (op_ild 2 (op_calV 10 1 F_X11_isStyleOrNone (op_ifne (op_ald 0 (op_ild 1 (op_ild 2 (op_calV 10 2 F_X11_isRing (op_ifeq (op_ald 0 (op_calV 10 0 F_X11_remember (op_ald 0 (op_calV 10 0 F_X11_layAll (op_ald 0 (op_ild 1 (op_cal 1 F_X11_styleOf (op_ild 2 (op_ald 0 (op_gfr 10 9 (op_ild 1 (op_calV 10 4 F_X11_tellAnew (op_ald 0 (op_ild 1 (op_calV 10 1 F_X11_styleCost (op_ret)))))))))))))))) (op_con (-1000000003) (op_ret))))))) (op_kil [false, false, false] (op_jmp 16))))))) K_X11_reparent_16)))
set_option maxRecDepth 100000 in
theorem S_D_X11_reparent (g0 : vG) : Snd yX11_reparent cX11_reparent 3 (some .int) 6 0 0 g0 0 D_X11_reparent := s_aldn (j := 0) (pc' := 1) (by decide +kernel) rfl rfl (s_ildn (j := 1) (pc' := 2) (by decide +kernel) rfl rfl (s_calV (ci := 10) (pc' := 5) C_X11_isStyle A_X11_isStyle rfl (by decide) w_1046 (by decide) (by decide +kernel) rfl (s_seq (s_ifeq (off := 11) (pt := 16) (pc' := 8) (by decide +kernel) (by decide) rfl (s_kil s_jmp) (s_aldn (j := 0) (pc' := 9) (by decide +kernel) rfl rfl (s_ildn (j := 2) (pc' := 10) (by decide +kernel) rfl rfl (s_calV (ci := 10) (pc' := 13) C_X11_isStyleOrNone A_X11_isStyleOrNone rfl (by decide) w_1074 (by decide) (by decide +kernel) rfl (s_ifne (off := 6) (pt := 19) (pc' := 16) (by decide +kernel) (by decide) rfl (s_aldn (j := 0) (pc' := 20) (by decide +kernel) rfl rfl (s_ildn (j := 1) (pc' := 21) (by decide +kernel) rfl rfl (s_ildn (j := 2) (pc' := 22) (by decide +kernel) rfl rfl (s_calV (ci := 10) (pc' := 25) C_X11_isRing A_X11_isRing rfl (by decide) w_1138 (by decide) (by decide +kernel) rfl (s_ifeq (off := 6) (pt := 31) (pc' := 28) (by decide +kernel) (by decide) rfl (s_aldn (j := 0) (pc' := 32) (by decide +kernel) rfl rfl (s_calV (ci := 10) (pc' := 35) C_X11_remember A_X11_remember rfl (by decide) w_1091 (by decide) (by decide +kernel) rfl (s_aldn (j := 0) (pc' := 36) (by decide +kernel) rfl rfl (s_calV (ci := 10) (pc' := 39) C_X11_layAll A_X11_layAll rfl (by decide) w_1022 (by decide) (by decide +kernel) rfl (s_aldn (j := 0) (pc' := 40) (by decide +kernel) rfl rfl (s_ildn (j := 1) (pc' := 41) (by decide +kernel) rfl rfl (s_calS (pc' := 44) C_X11_styleOf A_X11_styleOf w_890 (by decide) (by decide +kernel) rfl (s_ildn (j := 2) (pc' := 45) (by decide +kernel) rfl rfl (s_aldn (j := 0) (pc' := 46) (by decide +kernel) rfl rfl (s_gfr (ci := 10) (j := 9) (pc' := 49) rfl g_ok11 (by decide) (by decide) (by decide) rfl w_832 (by decide +kernel) rfl (s_ildn (j := 1) (pc' := 50) (by decide +kernel) rfl rfl (s_calV (ci := 10) (pc' := 53) C_X11_tellAnew A_X11_tellAnew rfl (by decide) w_1147 (by decide) (by decide +kernel) rfl (s_aldn (j := 0) (pc' := 54) (by decide +kernel) rfl rfl (s_ildn (j := 1) (pc' := 55) (by decide +kernel) rfl rfl (s_calV (ci := 10) (pc' := 58) C_X11_styleCost A_X11_styleCost rfl (by decide) w_886 (by decide) (by decide +kernel) rfl (s_iret (by decide +kernel) rfl rfl rfl)))))))))))))))) (s_ldc (pc' := 30) (by decide +kernel) w_1142 rfl (s_iret (by decide +kernel) rfl rfl rfl))))))) (s_kil s_jmp)))))) (S_K_X11_reparent_16 g0))))
def F_X11_reparent : vF := runD D_X11_reparent 3
theorem C_X11_reparent : Ctr yX11_reparent cX11_reparent 3 (some .int) 6 0 0 F_X11_reparent := ctr_of (d := fun _ => D_X11_reparent) (by decide +kernel) S_D_X11_reparent
theorem A_X11_reparent : CaV yX11_reparent cX11_reparent 3 (some .int) 2 := ⟨w_1152, w_1153, w_77, w_1154, by unfold Nm; decide +kernel⟩
def K_X11_restyle_16 : vD := op_con (-1000000001) (op_ret)
set_option maxRecDepth 100000 in
theorem S_K_X11_restyle_16 (g0 : vG) : Snd yX11_restyle cX11_restyle 3 (some .int) 6 0 0 g0 16 K_X11_restyle_16 := s_ldc (pc' := 18) (by decide +kernel) w_1013 rfl (s_iret (by decide +kernel) rfl rfl rfl)
def D_X11_restyle : vD := op_ald 0 (op_ild 1 (op_calV 10 1 F_X11_isParagraph (op_seq 16 (op_ifeq (op_kil [false, false, false] (op_jmp 16)) (op_ald 0 (op_ild 2 (op_calV 10 1 F_X11_isStyleOrNone (op_ifne (op_ald 0 (op_calV 10 0 F_X11_remember (op_ald 0 (op_calV 10 0 F_X11_layAll (op_ald 0 (op_ild 1 (op_cal 1 F_X11_paragraphOf (op_ild 2 (op_ald 0 (op_gfr 10 10 (op_ild 1 (op_calV 10 4 F_X11_tellAnew (op_ald 0 (op_ild 1 (op_calV 10 1 F_X11_paragraphCost (op_ret)))))))))))))))) (op_kil [false, false, false] (op_jmp 16))))))) K_X11_restyle_16)))
set_option maxRecDepth 100000 in
theorem S_D_X11_restyle (g0 : vG) : Snd yX11_restyle cX11_restyle 3 (some .int) 6 0 0 g0 0 D_X11_restyle := s_aldn (j := 0) (pc' := 1) (by decide +kernel) rfl rfl (s_ildn (j := 1) (pc' := 2) (by decide +kernel) rfl rfl (s_calV (ci := 10) (pc' := 5) C_X11_isParagraph A_X11_isParagraph rfl (by decide) w_998 (by decide) (by decide +kernel) rfl (s_seq (s_ifeq (off := 11) (pt := 16) (pc' := 8) (by decide +kernel) (by decide) rfl (s_kil s_jmp) (s_aldn (j := 0) (pc' := 9) (by decide +kernel) rfl rfl (s_ildn (j := 2) (pc' := 10) (by decide +kernel) rfl rfl (s_calV (ci := 10) (pc' := 13) C_X11_isStyleOrNone A_X11_isStyleOrNone rfl (by decide) w_1074 (by decide) (by decide +kernel) rfl (s_ifne (off := 6) (pt := 19) (pc' := 16) (by decide +kernel) (by decide) rfl (s_aldn (j := 0) (pc' := 20) (by decide +kernel) rfl rfl (s_calV (ci := 10) (pc' := 23) C_X11_remember A_X11_remember rfl (by decide) w_1091 (by decide) (by decide +kernel) rfl (s_aldn (j := 0) (pc' := 24) (by decide +kernel) rfl rfl (s_calV (ci := 10) (pc' := 27) C_X11_layAll A_X11_layAll rfl (by decide) w_1022 (by decide) (by decide +kernel) rfl (s_aldn (j := 0) (pc' := 28) (by decide +kernel) rfl rfl (s_ildn (j := 1) (pc' := 29) (by decide +kernel) rfl rfl (s_calS (pc' := 32) C_X11_paragraphOf A_X11_paragraphOf w_904 (by decide) (by decide +kernel) rfl (s_ildn (j := 2) (pc' := 33) (by decide +kernel) rfl rfl (s_aldn (j := 0) (pc' := 34) (by decide +kernel) rfl rfl (s_gfr (ci := 10) (j := 10) (pc' := 37) rfl g_ok11 (by decide) (by decide) (by decide) rfl w_833 (by decide +kernel) rfl (s_ildn (j := 1) (pc' := 38) (by decide +kernel) rfl rfl (s_calV (ci := 10) (pc' := 41) C_X11_tellAnew A_X11_tellAnew rfl (by decide) w_1147 (by decide) (by decide +kernel) rfl (s_aldn (j := 0) (pc' := 42) (by decide +kernel) rfl rfl (s_ildn (j := 1) (pc' := 43) (by decide +kernel) rfl rfl (s_calV (ci := 10) (pc' := 46) C_X11_paragraphCost A_X11_paragraphCost rfl (by decide) w_900 (by decide) (by decide +kernel) rfl (s_iret (by decide +kernel) rfl rfl rfl)))))))))))))))) (s_kil s_jmp)))))) (S_K_X11_restyle_16 g0))))
def F_X11_restyle : vF := runD D_X11_restyle 3
theorem C_X11_restyle : Ctr yX11_restyle cX11_restyle 3 (some .int) 6 0 0 F_X11_restyle := ctr_of (d := fun _ => D_X11_restyle) (by decide +kernel) S_D_X11_restyle
theorem A_X11_restyle : CaV yX11_restyle cX11_restyle 3 (some .int) 2 := ⟨w_1144, w_1145, w_77, w_1146, by unfold Nm; decide +kernel⟩
def K_X11_tidy_122 : vD := op_ias (op_inc 3 1 (op_kil [true, true, true, true, false, false] (op_jmp 27)))
set_option maxRecDepth 100000 in
theorem S_K_X11_tidy_122 (g0 : vG) : Snd yX11_tidy cX11_tidy 6 (some .int) 6 0 0 g0 122 K_X11_tidy_122 := s_ias (pc' := 123) (by decide +kernel) rfl (s_inc (n := 1) (pc' := 126) (by decide +kernel) (by decide +kernel) (by decide) rfl (s_goto (off := (-99)) (pt := 27) (by decide +kernel) (by decide) (s_kil s_jmp)))
def K_X11_tidy_73 : vD := op_ist 5 (op_ald 0 (op_gfr 10 0 (op_ild 2 (op_cal 1 F_X11_styleOf (op_con 1 (op_bin f_add (op_ild 3 (op_bin f_add (op_ald 0 (op_gfr 10 0 (op_ild 2 (op_cal 1 F_X11_styleOf (op_con 1 (op_bin f_add (op_ild 3 (op_bin f_add (op_ial (op_ild 5 (op_seq 122 (op_icne (op_ald 0 (op_gfr 10 0 (op_ild 2 (op_cal 1 F_X11_styleOf (op_con 1 (op_bin f_add (op_ild 3 (op_bin f_add (op_ial (op_kil [true, true, true, true, false, false] (op_jmp 122))))))))))) (op_con (-1) (op_kil [true, true, true, true, false, false] (op_jmp 122)))) K_X11_tidy_122)))))))))))))))))))
set_option maxRecDepth 100000 in
theorem S_K_X11_tidy_73 (g0 : vG) : Snd yX11_tidy cX11_tidy 6 (some .int) 6 0 0 g0 73 K_X11_tidy_73 := s_ist (pc' := 75) (by decide +kernel) (by decide) rfl (s_aldn (j := 0) (pc' := 76) (by decide +kernel) rfl rfl (s_gfr (ci := 10) (j := 0) (pc' := 79) rfl g_ok11 (by decide) (by decide) (by decide) rfl w_823 (by decide +kernel) rfl (s_ildn (j := 2) (pc' := 80) (by decide +kernel) rfl rfl (s_calS (pc' := 83) C_X11_styleOf A_X11_styleOf w_890 (by decide) (by decide +kernel) rfl (s_con (n := 1) (pc' := 84) (by decide +kernel) (by decide +kernel) rfl (s_add (pc' := 85) (by decide +kernel) rfl (s_ildn (j := 3) (pc' := 86) (by decide +kernel) rfl rfl (s_add (pc' := 87) (by decide +kernel) rfl (s_aldn (j := 0) (pc' := 88) (by decide +kernel) rfl rfl (s_gfr (ci := 10) (j := 0) (pc' := 91) rfl g_ok11 (by decide) (by decide) (by decide) rfl w_823 (by decide +kernel) rfl (s_ildn (j := 2) (pc' := 92) (by decide +kernel) rfl rfl (s_calS (pc' := 95) C_X11_styleOf A_X11_styleOf w_890 (by decide) (by decide +kernel) rfl (s_con (n := 1) (pc' := 96) (by decide +kernel) (by decide +kernel) rfl (s_add (pc' := 97) (by decide +kernel) rfl (s_ildn (j := 3) (pc' := 98) (by decide +kernel) rfl rfl (s_add (pc' := 99) (by decide +kernel) rfl (s_ial (pc' := 100) (by decide +kernel) rfl (s_ild (pc' := 102) (by decide +kernel) rfl (s_seq (s_icne (off := 7) (pt := 109) (pc' := 105) (by decide +kernel) (by decide) rfl (s_aldn (j := 0) (pc' := 110) (by decide +kernel) rfl rfl (s_gfr (ci := 10) (j := 0) (pc' := 113) rfl g_ok11 (by decide) (by decide) (by decide) rfl w_823 (by decide +kernel) rfl (s_ildn (j := 2) (pc' := 114) (by decide +kernel) rfl rfl (s_calS (pc' := 117) C_X11_styleOf A_X11_styleOf w_890 (by decide) (by decide +kernel) rfl (s_con (n := 1) (pc' := 118) (by decide +kernel) (by decide +kernel) rfl (s_add (pc' := 119) (by decide +kernel) rfl (s_ildn (j := 3) (pc' := 120) (by decide +kernel) rfl rfl (s_add (pc' := 121) (by decide +kernel) rfl (s_ial (pc' := 122) (by decide +kernel) rfl (s_kil s_jmp)))))))))) (s_con (n := (-1)) (pc' := 106) (by decide +kernel) (by decide +kernel) rfl (s_goto (off := 16) (pt := 122) (by decide +kernel) (by decide) (s_kil s_jmp)))) (S_K_X11_tidy_122 g0))))))))))))))))))))
def B_X11_tidy_27 : vD := op_ild 3 (op_con 6 (op_icge (op_kil [true, true, true, false, false, false] (op_jmp 129)) (op_ald 0 (op_gfr 10 0 (op_ild 2 (op_cal 1 F_X11_styleOf (op_ial (op_ist 4 (op_ild 4 (op_con (-1) (op_seq 73 (op_icne (op_ald 0 (op_gfr 10 9 (op_con 6 (op_ild 4 (op_bin f_mul (op_ild 3 (op_bin f_add (op_ial (op_kil [true, true, true, true, false, false] (op_jmp 73)))))))))) (op_ald 0 (op_gfr 10 0 (op_con 3 (op_ild 3 (op_bin f_add (op_ial (op_kil [true, true, true, true, false, false] (op_jmp 73))))))))) K_X11_tidy_73)))))))))))
set_option maxRecDepth 100000 in
theorem S_B_X11_tidy_27 (g0 : vG) : Snd yX11_tidy cX11_tidy 6 (some .int) 6 0 0 g0 27 B_X11_tidy_27 := s_ildn (j := 3) (pc' := 28) (by decide +kernel) rfl rfl (s_bip (n := 6) (pc' := 30) (by decide +kernel) (by decide +kernel) rfl (s_icge (off := 99) (pt := 129) (pc' := 33) (by decide +kernel) (by decide) rfl (s_kil s_jmp) (s_aldn (j := 0) (pc' := 34) (by decide +kernel) rfl rfl (s_gfr (ci := 10) (j := 0) (pc' := 37) rfl g_ok11 (by decide) (by decide) (by decide) rfl w_823 (by decide +kernel) rfl (s_ildn (j := 2) (pc' := 38) (by decide +kernel) rfl rfl (s_calS (pc' := 41) C_X11_styleOf A_X11_styleOf w_890 (by decide) (by decide +kernel) rfl (s_ial (pc' := 42) (by decide +kernel) rfl (s_ist (pc' := 44) (by decide +kernel) (by decide) rfl (s_ild (pc' := 46) (by decide +kernel) rfl (s_con (n := (-1)) (pc' := 47) (by decide +kernel) (by decide +kernel) rfl (s_seq (s_icne (off := 14) (pt := 61) (pc' := 50) (by decide +kernel) (by decide) rfl (s_aldn (j := 0) (pc' := 62) (by decide +kernel) rfl rfl (s_gfr (ci := 10) (j := 9) (pc' := 65) rfl g_ok11 (by decide) (by decide) (by decide) rfl w_832 (by decide +kernel) rfl (s_bip (n := 6) (pc' := 67) (by decide +kernel) (by decide +kernel) rfl (s_ild (pc' := 69) (by decide +kernel) rfl (s_mul (pc' := 70) (by decide +kernel) rfl (s_ildn (j := 3) (pc' := 71) (by decide +kernel) rfl rfl (s_add (pc' := 72) (by decide +kernel) rfl (s_ial (pc' := 73) (by decide +kernel) rfl (s_kil s_jmp))))))))) (s_aldn (j := 0) (pc' := 51) (by decide +kernel) rfl rfl (s_gfr (ci := 10) (j := 0) (pc' := 54) rfl g_ok11 (by decide) (by decide) (by decide) rfl w_823 (by decide +kernel) rfl (s_con (n := 3) (pc' := 55) (by decide +kernel) (by decide +kernel) rfl (s_ildn (j := 3) (pc' := 56) (by decide +kernel) rfl rfl (s_add (pc' := 57) (by decide +kernel) rfl (s_ial (pc' := 58) (by decide +kernel) rfl (s_goto (off := 15) (pt := 73) (by decide +kernel) (by decide) (s_kil s_jmp))))))))) (S_K_X11_tidy_73 g0))))))))))))
def K_X11_tidy_129 : vD := op_inc 2 1 (op_kil [true, true, true, false, false, false] (op_jmp 15))
set_option maxRecDepth 100000 in
theorem S_K_X11_tidy_129 (g0 : vG) : Snd yX11_tidy cX11_tidy 6 (some .int) 6 0 0 g0 129 K_X11_tidy_129 := s_inc (n := 1) (pc' := 132) (by decide +kernel) (by decide +kernel) (by decide) rfl (s_goto (off := (-117)) (pt := 15) (by decide +kernel) (by decide) (s_kil s_jmp))
def B_X11_tidy_15 : vD := op_ild 2 (op_ald 0 (op_gfr 10 0 (op_con 1 (op_ial (op_icge (op_kil [true, true, false, false, false, false] (op_jmp 135)) (op_con 0 (op_ist 3 (op_seq 129 (op_kil [true, true, true, true, false, false] (op_loop 27 B_X11_tidy_27 4000)) K_X11_tidy_129))))))))
set_option maxRecDepth 100000 in
theorem S_B_X11_tidy_15 (g0 : vG) : Snd yX11_tidy cX11_tidy 6 (some .int) 6 0 0 g0 15 B_X11_tidy_15 := s_ildn (j := 2) (pc' := 16) (by decide +kernel) rfl rfl (s_aldn (j := 0) (pc' := 17) (by decide +kernel) rfl rfl (s_gfr (ci := 10) (j := 0) (pc' := 20) rfl g_ok11 (by decide) (by decide) (by decide) rfl w_823 (by decide +kernel) rfl (s_con (n := 1) (pc' := 21) (by decide +kernel) (by decide +kernel) rfl (s_ial (pc' := 22) (by decide +kernel) rfl (s_icge (off := 113) (pt := 135) (pc' := 25) (by decide +kernel) (by decide) rfl (s_kil s_jmp) (s_con (n := 0) (pc' := 26) (by decide +kernel) (by decide +kernel) rfl (s_istn (j := 3) (pc' := 27) (by decide +kernel) rfl (by decide) rfl (s_seq (s_kil (s_loop (S_B_X11_tidy_27 g0) 4000)) (S_K_X11_tidy_129 g0)))))))))
def B_X11_tidy_137 : vD := op_ild 2 (op_ald 0 (op_gfr 10 0 (op_con 0 (op_ial (op_icge (op_kil [false, true, false, false, false, false] (op_jmp 175)) (op_ald 0 (op_ild 2 (op_cal 1 F_X11_paragraphOf (op_ald 0 (op_gfr 10 0 (op_ild 2 (op_cal 1 F_X11_paragraphOf (op_ial (op_ald 0 (op_gfr 10 10 (op_ild 2 (op_calV 10 4 F_X11_tellAnew (op_inc 2 1 (op_kil [true, true, true, false, false, false] (op_jmp 137))))))))))))))))))))
set_option maxRecDepth 100000 in
theorem S_B_X11_tidy_137 (g0 : vG) : Snd yX11_tidy cX11_tidy 6 (some .int) 6 0 0 g0 137 B_X11_tidy_137 := s_ildn (j := 2) (pc' := 138) (by decide +kernel) rfl rfl (s_aldn (j := 0) (pc' := 139) (by decide +kernel) rfl rfl (s_gfr (ci := 10) (j := 0) (pc' := 142) rfl g_ok11 (by decide) (by decide) (by decide) rfl w_823 (by decide +kernel) rfl (s_con (n := 0) (pc' := 143) (by decide +kernel) (by decide +kernel) rfl (s_ial (pc' := 144) (by decide +kernel) rfl (s_icge (off := 31) (pt := 175) (pc' := 147) (by decide +kernel) (by decide) rfl (s_kil s_jmp) (s_aldn (j := 0) (pc' := 148) (by decide +kernel) rfl rfl (s_ildn (j := 2) (pc' := 149) (by decide +kernel) rfl rfl (s_calS (pc' := 152) C_X11_paragraphOf A_X11_paragraphOf w_904 (by decide) (by decide +kernel) rfl (s_aldn (j := 0) (pc' := 153) (by decide +kernel) rfl rfl (s_gfr (ci := 10) (j := 0) (pc' := 156) rfl g_ok11 (by decide) (by decide) (by decide) rfl w_823 (by decide +kernel) rfl (s_ildn (j := 2) (pc' := 157) (by decide +kernel) rfl rfl (s_calS (pc' := 160) C_X11_paragraphOf A_X11_paragraphOf w_904 (by decide) (by decide +kernel) rfl (s_ial (pc' := 161) (by decide +kernel) rfl (s_aldn (j := 0) (pc' := 162) (by decide +kernel) rfl rfl (s_gfr (ci := 10) (j := 10) (pc' := 165) rfl g_ok11 (by decide) (by decide) (by decide) rfl w_833 (by decide +kernel) rfl (s_ildn (j := 2) (pc' := 166) (by decide +kernel) rfl rfl (s_calV (ci := 10) (pc' := 169) C_X11_tellAnew A_X11_tellAnew rfl (by decide) w_1147 (by decide) (by decide +kernel) rfl (s_inc (n := 1) (pc' := 172) (by decide +kernel) (by decide +kernel) (by decide) rfl (s_goto (off := (-35)) (pt := 137) (by decide +kernel) (by decide) (s_kil s_jmp))))))))))))))))))))
def K_X11_tidy_175 : vD := op_ild 1 (op_ret)
set_option maxRecDepth 100000 in
theorem S_K_X11_tidy_175 (g0 : vG) : Snd yX11_tidy cX11_tidy 6 (some .int) 6 0 0 g0 175 K_X11_tidy_175 := s_ildn (j := 1) (pc' := 176) (by decide +kernel) rfl rfl (s_iret (by decide +kernel) rfl rfl rfl)
def K_X11_tidy_135 : vD := op_con 0 (op_ist 2 (op_seq 175 (op_kil [true, true, true, false, false, false] (op_loop 137 B_X11_tidy_137 4000)) K_X11_tidy_175))
set_option maxRecDepth 100000 in
theorem S_K_X11_tidy_135 (g0 : vG) : Snd yX11_tidy cX11_tidy 6 (some .int) 6 0 0 g0 135 K_X11_tidy_135 := s_con (n := 0) (pc' := 136) (by decide +kernel) (by decide +kernel) rfl (s_istn (j := 2) (pc' := 137) (by decide +kernel) rfl (by decide) rfl (s_seq (s_kil (s_loop (S_B_X11_tidy_137 g0) 4000)) (S_K_X11_tidy_175 g0)))
def D_X11_tidy : vD := op_ald 0 (op_calV 10 0 F_X11_remember (op_ald 0 (op_calV 10 0 F_X11_needless (op_ist 1 (op_ald 0 (op_calV 10 0 F_X11_layAll (op_con 0 (op_ist 2 (op_seq 135 (op_kil [true, true, true, false, false, false] (op_loop 15 B_X11_tidy_15 4000)) K_X11_tidy_135)))))))))
set_option maxRecDepth 100000 in
theorem S_D_X11_tidy (g0 : vG) : Snd yX11_tidy cX11_tidy 6 (some .int) 6 0 0 g0 0 D_X11_tidy := s_aldn (j := 0) (pc' := 1) (by decide +kernel) rfl rfl (s_calV (ci := 10) (pc' := 4) C_X11_remember A_X11_remember rfl (by decide) w_1091 (by decide) (by decide +kernel) rfl (s_aldn (j := 0) (pc' := 5) (by decide +kernel) rfl rfl (s_calV (ci := 10) (pc' := 8) C_X11_needless A_X11_needless rfl (by decide) w_907 (by decide) (by decide +kernel) rfl (s_istn (j := 1) (pc' := 9) (by decide +kernel) rfl (by decide) rfl (s_aldn (j := 0) (pc' := 10) (by decide +kernel) rfl rfl (s_calV (ci := 10) (pc' := 13) C_X11_layAll A_X11_layAll rfl (by decide) w_1022 (by decide) (by decide +kernel) rfl (s_con (n := 0) (pc' := 14) (by decide +kernel) (by decide +kernel) rfl (s_istn (j := 2) (pc' := 15) (by decide +kernel) rfl (by decide) rfl (s_seq (s_kil (s_loop (S_B_X11_tidy_15 g0) 4000)) (S_K_X11_tidy_135 g0))))))))))
def F_X11_tidy : vF := runD D_X11_tidy 6
theorem C_X11_tidy : Ctr yX11_tidy cX11_tidy 6 (some .int) 6 0 0 F_X11_tidy := ctr_of (d := fun _ => D_X11_tidy) (by decide +kernel) S_D_X11_tidy
theorem A_X11_tidy : CaV yX11_tidy cX11_tidy 6 (some .int) 0 := ⟨w_1172, w_1173, w_77, w_1174, by unfold Nm; decide +kernel⟩
def B_X11_adopt_22 : vD := op_ild 3 (op_con 6 (op_icge (op_kil [true, true, true, false] (op_jmp 68)) (op_ald 0 (op_gfi 10 16 (op_ild 2 (op_bin f_shr (op_con 1 (op_bin f_and (op_con 1 (op_icne (op_kil [true, true, true, false] (op_jmp 68)) (op_ald 0 (op_gfr 10 9 (op_con 6 (op_ild 1 (op_bin f_mul (op_ild 3 (op_bin f_add (op_ald 0 (op_gfr 10 11 (op_con 6 (op_ild 2 (op_bin f_mul (op_ild 3 (op_bin f_add (op_ial (op_ias (op_inc 3 1 (op_jmp 22))))))))))))))))))))))))))))
set_option maxRecDepth 100000 in
theorem S_B_X11_adopt_22 (g0 : vG) : Snd yX11_adopt cX11_adopt 4 (some .int) 7 0 0 g0 22 B_X11_adopt_22 := s_ildn (j := 3) (pc' := 23) (by decide +kernel) rfl rfl (s_bip (n := 6) (pc' := 25) (by decide +kernel) (by decide +kernel) rfl (s_icge (off := 43) (pt := 68) (pc' := 28) (by decide +kernel) (by decide) rfl (s_kil s_jmp) (s_aldn (j := 0) (pc' := 29) (by decide +kernel) rfl rfl (s_gfi (ci := 10) (j := 16) (pc' := 32) rfl g_ok11 (by decide) (by decide) (by decide) rfl w_839 (by decide +kernel) rfl (s_ildn (j := 2) (pc' := 33) (by decide +kernel) rfl rfl (s_shr (pc' := 34) (by decide +kernel) rfl (s_con (n := 1) (pc' := 35) (by decide +kernel) (by decide +kernel) rfl (s_and (pc' := 36) (by decide +kernel) rfl (s_con (n := 1) (pc' := 37) (by decide +kernel) (by decide +kernel) rfl (s_icne (off := 31) (pt := 68) (pc' := 40) (by decide +kernel) (by decide) rfl (s_kil s_jmp) (s_aldn (j := 0) (pc' := 41) (by decide +kernel) rfl rfl (s_gfr (ci := 10) (j := 9) (pc' := 44) rfl g_ok11 (by decide) (by decide) (by decide) rfl w_832 (by decide +kernel) rfl (s_bip (n := 6) (pc' := 46) (by decide +kernel) (by decide +kernel) rfl (s_ildn (j := 1) (pc' := 47) (by decide +kernel) rfl rfl (s_mul (pc' := 48) (by decide +kernel) rfl (s_ildn (j := 3) (pc' := 49) (by decide +kernel) rfl rfl (s_add (pc' := 50) (by decide +kernel) rfl (s_aldn (j := 0) (pc' := 51) (by decide +kernel) rfl rfl (s_gfr (ci := 10) (j := 11) (pc' := 54) rfl g_ok11 (by decide) (by decide) (by decide) rfl w_834 (by decide +kernel) rfl (s_bip (n := 6) (pc' := 56) (by decide +kernel) (by decide +kernel) rfl (s_ildn (j := 2) (pc' := 57) (by decide +kernel) rfl rfl (s_mul (pc' := 58) (by decide +kernel) rfl (s_ildn (j := 3) (pc' := 59) (by decide +kernel) rfl rfl (s_add (pc' := 60) (by decide +kernel) rfl (s_ial (pc' := 61) (by decide +kernel) rfl (s_ias (pc' := 62) (by decide +kernel) rfl (s_inc (n := 1) (pc' := 65) (by decide +kernel) (by decide +kernel) (by decide) rfl (s_goto (off := (-43)) (pt := 22) (by decide +kernel) (by decide) (s_jmp)))))))))))))))))))))))))))))
def K_X11_adopt_68 : vD := op_ild 1 (op_ald 0 (op_gfi 10 16 (op_ild 2 (op_bin f_shr (op_con 1 (op_bin f_and (op_bin f_add (op_ist 1 (op_inc 2 1 (op_kil [true, true, true, false] (op_jmp 12)))))))))))
set_option maxRecDepth 100000 in
theorem S_K_X11_adopt_68 (g0 : vG) : Snd yX11_adopt cX11_adopt 4 (some .int) 7 0 0 g0 68 K_X11_adopt_68 := s_ildn (j := 1) (pc' := 69) (by decide +kernel) rfl rfl (s_aldn (j := 0) (pc' := 70) (by decide +kernel) rfl rfl (s_gfi (ci := 10) (j := 16) (pc' := 73) rfl g_ok11 (by decide) (by decide) (by decide) rfl w_839 (by decide +kernel) rfl (s_ildn (j := 2) (pc' := 74) (by decide +kernel) rfl rfl (s_shr (pc' := 75) (by decide +kernel) rfl (s_con (n := 1) (pc' := 76) (by decide +kernel) (by decide +kernel) rfl (s_and (pc' := 77) (by decide +kernel) rfl (s_add (pc' := 78) (by decide +kernel) rfl (s_istn (j := 1) (pc' := 79) (by decide +kernel) rfl (by decide) rfl (s_inc (n := 1) (pc' := 82) (by decide +kernel) (by decide +kernel) (by decide) rfl (s_goto (off := (-70)) (pt := 12) (by decide +kernel) (by decide) (s_kil s_jmp)))))))))))
def B_X11_adopt_12 : vD := op_ild 2 (op_ald 0 (op_gfi 10 12 (op_icge (op_kil [true, true, false, false] (op_jmp 85)) (op_con 0 (op_ist 3 (op_seq 68 (op_loop 22 B_X11_adopt_22 4000) K_X11_adopt_68))))))
set_option maxRecDepth 100000 in
theorem S_B_X11_adopt_12 (g0 : vG) : Snd yX11_adopt cX11_adopt 4 (some .int) 7 0 0 g0 12 B_X11_adopt_12 := s_ildn (j := 2) (pc' := 13) (by decide +kernel) rfl rfl (s_aldn (j := 0) (pc' := 14) (by decide +kernel) rfl rfl (s_gfi (ci := 10) (j := 12) (pc' := 17) rfl g_ok11 (by decide) (by decide) (by decide) rfl w_835 (by decide +kernel) rfl (s_icge (off := 68) (pt := 85) (pc' := 20) (by decide +kernel) (by decide) rfl (s_kil s_jmp) (s_con (n := 0) (pc' := 21) (by decide +kernel) (by decide +kernel) rfl (s_istn (j := 3) (pc' := 22) (by decide +kernel) rfl (by decide) rfl (s_seq (s_loop (S_B_X11_adopt_22 g0) 4000) (S_K_X11_adopt_68 g0)))))))
def B_X11_adopt_103 : vD := op_ild 2 (op_ild 1 (op_icge (op_kil [true, false, false, false] (op_jmp 133)) (op_ald 0 (op_ild 2 (op_cal 1 F_X11_styleOf (op_ald 0 (op_gfr 10 15 (op_ild 2 (op_ial (op_ald 0 (op_gfr 10 9 (op_ild 2 (op_calV 10 4 F_X11_tellAnew (op_inc 2 1 (op_kil [true, true, true, false] (op_jmp 103))))))))))))))))
set_option maxRecDepth 100000 in
theorem S_B_X11_adopt_103 (g0 : vG) : Snd yX11_adopt cX11_adopt 4 (some .int) 7 0 0 g0 103 B_X11_adopt_103 := s_ildn (j := 2) (pc' := 104) (by decide +kernel) rfl rfl (s_ildn (j := 1) (pc' := 105) (by decide +kernel) rfl rfl (s_icge (off := 28) (pt := 133) (pc' := 108) (by decide +kernel) (by decide) rfl (s_kil s_jmp) (s_aldn (j := 0) (pc' := 109) (by decide +kernel) rfl rfl (s_ildn (j := 2) (pc' := 110) (by decide +kernel) rfl rfl (s_calS (pc' := 113) C_X11_styleOf A_X11_styleOf w_890 (by decide) (by decide +kernel) rfl (s_aldn (j := 0) (pc' := 114) (by decide +kernel) rfl rfl (s_gfr (ci := 10) (j := 15) (pc' := 117) rfl g_ok11 (by decide) (by decide) (by decide) rfl w_838 (by decide +kernel) rfl (s_ildn (j := 2) (pc' := 118) (by decide +kernel) rfl rfl (s_ial (pc' := 119) (by decide +kernel) rfl (s_aldn (j := 0) (pc' := 120) (by decide +kernel) rfl rfl (s_gfr (ci := 10) (j := 9) (pc' := 123) rfl g_ok11 (by decide) (by decide) (by decide) rfl w_832 (by decide +kernel) rfl (s_ildn (j := 2) (pc' := 124) (by decide +kernel) rfl rfl (s_calV (ci := 10) (pc' := 127) C_X11_tellAnew A_X11_tellAnew rfl (by decide) w_1147 (by decide) (by decide +kernel) rfl (s_inc (n := 1) (pc' := 130) (by decide +kernel) (by decide +kernel) (by decide) rfl (s_goto (off := (-27)) (pt := 103) (by decide +kernel) (by decide) (s_kil s_jmp))))))))))))))))
def B_X11_adopt_135 : vD := op_ild 2 (op_ald 0 (op_gfr 10 0 (op_con 0 (op_ial (op_icge (op_kil [true, false, false, false] (op_jmp 169)) (op_ald 0 (op_ild 2 (op_cal 1 F_X11_paragraphOf (op_ald 0 (op_ild 2 (op_calV 10 1 F_X11_nearest (op_ald 0 (op_gfr 10 10 (op_ild 2 (op_calV 10 4 F_X11_tellAnew (op_inc 2 1 (op_kil [true, false, true, false] (op_jmp 135))))))))))))))))))
set_option maxRecDepth 100000 in
theorem S_B_X11_adopt_135 (g0 : vG) : Snd yX11_adopt cX11_adopt 4 (some .int) 7 0 0 g0 135 B_X11_adopt_135 := s_ildn (j := 2) (pc' := 136) (by decide +kernel) rfl rfl (s_aldn (j := 0) (pc' := 137) (by decide +kernel) rfl rfl (s_gfr (ci := 10) (j := 0) (pc' := 140) rfl g_ok11 (by decide) (by decide) (by decide) rfl w_823 (by decide +kernel) rfl (s_con (n := 0) (pc' := 141) (by decide +kernel) (by decide +kernel) rfl (s_ial (pc' := 142) (by decide +kernel) rfl (s_icge (off := 27) (pt := 169) (pc' := 145) (by decide +kernel) (by decide) rfl (s_kil s_jmp) (s_aldn (j := 0) (pc' := 146) (by decide +kernel) rfl rfl (s_ildn (j := 2) (pc' := 147) (by decide +kernel) rfl rfl (s_calS (pc' := 150) C_X11_paragraphOf A_X11_paragraphOf w_904 (by decide) (by decide +kernel) rfl (s_aldn (j := 0) (pc' := 151) (by decide +kernel) rfl rfl (s_ildn (j := 2) (pc' := 152) (by decide +kernel) rfl rfl (s_calV (ci := 10) (pc' := 155) C_X11_nearest A_X11_nearest rfl (by decide) w_1026 (by decide) (by decide +kernel) rfl (s_aldn (j := 0) (pc' := 156) (by decide +kernel) rfl rfl (s_gfr (ci := 10) (j := 10) (pc' := 159) rfl g_ok11 (by decide) (by decide) (by decide) rfl w_833 (by decide +kernel) rfl (s_ildn (j := 2) (pc' := 160) (by decide +kernel) rfl rfl (s_calV (ci := 10) (pc' := 163) C_X11_tellAnew A_X11_tellAnew rfl (by decide) w_1147 (by decide) (by decide +kernel) rfl (s_inc (n := 1) (pc' := 166) (by decide +kernel) (by decide +kernel) (by decide) rfl (s_goto (off := (-31)) (pt := 135) (by decide +kernel) (by decide) (s_kil s_jmp))))))))))))))))))
def K_X11_adopt_169 : vD := op_ald 0 (op_calV 10 0 F_X11_cost (op_ret))
set_option maxRecDepth 100000 in
theorem S_K_X11_adopt_169 (g0 : vG) : Snd yX11_adopt cX11_adopt 4 (some .int) 7 0 0 g0 169 K_X11_adopt_169 := s_aldn (j := 0) (pc' := 170) (by decide +kernel) rfl rfl (s_calV (ci := 10) (pc' := 173) C_X11_cost A_X11_cost rfl (by decide) w_882 (by decide) (by decide +kernel) rfl (s_iret (by decide +kernel) rfl rfl rfl))
def K_X11_adopt_133 : vD := op_con 0 (op_ist 2 (op_seq 169 (op_kil [true, false, true, false] (op_loop 135 B_X11_adopt_135 4000)) K_X11_adopt_169))
set_option maxRecDepth 100000 in
theorem S_K_X11_adopt_133 (g0 : vG) : Snd yX11_adopt cX11_adopt 4 (some .int) 7 0 0 g0 133 K_X11_adopt_133 := s_con (n := 0) (pc' := 134) (by decide +kernel) (by decide +kernel) rfl (s_istn (j := 2) (pc' := 135) (by decide +kernel) rfl (by decide) rfl (s_seq (s_kil (s_loop (S_B_X11_adopt_135 g0) 4000)) (S_K_X11_adopt_169 g0)))
def K_X11_adopt_85 : vD := op_ald 0 (op_gfr 10 0 (op_con 1 (op_ild 1 (op_ias (op_ald 0 (op_ald 0 (op_gfr 10 9 (op_ild 1 (op_calV 10 2 F_X11_layKnit (op_con 0 (op_ist 2 (op_seq 133 (op_kil [true, true, true, false] (op_loop 103 B_X11_adopt_103 4000)) K_X11_adopt_133))))))))))))
set_option maxRecDepth 100000 in
theorem S_K_X11_adopt_85 (g0 : vG) : Snd yX11_adopt cX11_adopt 4 (some .int) 7 0 0 g0 85 K_X11_adopt_85 := s_aldn (j := 0) (pc' := 86) (by decide +kernel) rfl rfl (s_gfr (ci := 10) (j := 0) (pc' := 89) rfl g_ok11 (by decide) (by decide) (by decide) rfl w_823 (by decide +kernel) rfl (s_con (n := 1) (pc' := 90) (by decide +kernel) (by decide +kernel) rfl (s_ildn (j := 1) (pc' := 91) (by decide +kernel) rfl rfl (s_ias (pc' := 92) (by decide +kernel) rfl (s_aldn (j := 0) (pc' := 93) (by decide +kernel) rfl rfl (s_aldn (j := 0) (pc' := 94) (by decide +kernel) rfl rfl (s_gfr (ci := 10) (j := 9) (pc' := 97) rfl g_ok11 (by decide) (by decide) (by decide) rfl w_832 (by decide +kernel) rfl (s_ildn (j := 1) (pc' := 98) (by decide +kernel) rfl rfl (s_calV (ci := 10) (pc' := 101) C_X11_layKnit A_X11_layKnit rfl (by decide) w_1066 (by decide) (by decide +kernel) rfl (s_con (n := 0) (pc' := 102) (by decide +kernel) (by decide +kernel) rfl (s_istn (j := 2) (pc' := 103) (by decide +kernel) rfl (by decide) rfl (s_seq (s_kil (s_loop (S_B_X11_adopt_103 g0) 4000)) (S_K_X11_adopt_133 g0)))))))))))))
def D_X11_adopt : vD := op_ald 0 (op_calV 10 0 F_X11_remember (op_ald 0 (op_calV 10 0 F_X11_layFamily (op_con 0 (op_ist 1 (op_con 0 (op_ist 2 (op_seq 85 (op_kil [true, true, true, false] (op_loop 12 B_X11_adopt_12 4000)) K_X11_adopt_85))))))))
set_option maxRecDepth 100000 in
theorem S_D_X11_adopt (g0 : vG) : Snd yX11_adopt cX11_adopt 4 (some .int) 7 0 0 g0 0 D_X11_adopt := s_aldn (j := 0) (pc' := 1) (by decide +kernel) rfl rfl (s_calV (ci := 10) (pc' := 4) C_X11_remember A_X11_remember rfl (by decide) w_1091 (by decide) (by decide +kernel) rfl (s_aldn (j := 0) (pc' := 5) (by decide +kernel) rfl rfl (s_calV (ci := 10) (pc' := 8) C_X11_layFamily A_X11_layFamily rfl (by decide) w_975 (by decide) (by decide +kernel) rfl (s_con (n := 0) (pc' := 9) (by decide +kernel) (by decide +kernel) rfl (s_istn (j := 1) (pc' := 10) (by decide +kernel) rfl (by decide) rfl (s_con (n := 0) (pc' := 11) (by decide +kernel) (by decide +kernel) rfl (s_istn (j := 2) (pc' := 12) (by decide +kernel) rfl (by decide) rfl (s_seq (s_kil (s_loop (S_B_X11_adopt_12 g0) 4000)) (S_K_X11_adopt_85 g0)))))))))
def F_X11_adopt : vF := runD D_X11_adopt 4
theorem C_X11_adopt : Ctr yX11_adopt cX11_adopt 4 (some .int) 7 0 0 F_X11_adopt := ctr_of (d := fun _ => D_X11_adopt) (by decide +kernel) S_D_X11_adopt
theorem A_X11_adopt : CaV yX11_adopt cX11_adopt 4 (some .int) 0 := ⟨w_1180, w_1181, w_77, w_1182, by unfold Nm; decide +kernel⟩
def K_X11_apart_31 : vD := op_con 0 (op_kil [true, true, true, false, false] (op_jmp 32))
set_option maxRecDepth 100000 in
theorem S_K_X11_apart_31 (g0 : vG) : Snd yX11_apart cX11_apart 5 (some .int) 7 0 0 g0 31 K_X11_apart_31 := s_con (n := 0) (pc' := 32) (by decide +kernel) (by decide +kernel) rfl (s_kil s_jmp)
def K_X11_apart_58 : vD := op_ret
set_option maxRecDepth 100000 in
theorem S_K_X11_apart_58 (g0 : vG) : Snd yX11_apart cX11_apart 5 (some .int) 7 0 0 g0 58 K_X11_apart_58 := s_iret (by decide +kernel) rfl rfl rfl
def K_X11_apart_32 : vD := op_ist 4 (op_ild 4 (op_seq 58 (op_ifeq (op_con (-1000000001) (op_kil [false, false, false, false, false] (op_jmp 58))) (op_ald 0 (op_ald 0 (op_gfr 10 11 (op_ild 1 (op_ald 0 (op_gfr 10 11 (op_ild 2 (op_calV 10 4 F_X11_bitsApart (op_kil [false, false, false, false, false] (op_jmp 58))))))))))) K_X11_apart_58))
set_option maxRecDepth 100000 in
theorem S_K_X11_apart_32 (g0 : vG) : Snd yX11_apart cX11_apart 5 (some .int) 7 0 0 g0 32 K_X11_apart_32 := s_ist (pc' := 34) (by decide +kernel) (by decide) rfl (s_ild (pc' := 36) (by decide +kernel) rfl (s_seq (s_ifeq (off := 20) (pt := 56) (pc' := 39) (by decide +kernel) (by decide) rfl (s_ldc (pc' := 58) (by decide +kernel) w_1013 rfl (s_kil s_jmp)) (s_aldn (j := 0) (pc' := 40) (by decide +kernel) rfl rfl (s_aldn (j := 0) (pc' := 41) (by decide +kernel) rfl rfl (s_gfr (ci := 10) (j := 11) (pc' := 44) rfl g_ok11 (by decide) (by decide) (by decide) rfl w_834 (by decide +kernel) rfl (s_ildn (j := 1) (pc' := 45) (by decide +kernel) rfl rfl (s_aldn (j := 0) (pc' := 46) (by decide +kernel) rfl rfl (s_gfr (ci := 10) (j := 11) (pc' := 49) rfl g_ok11 (by decide) (by decide) (by decide) rfl w_834 (by decide +kernel) rfl (s_ildn (j := 2) (pc' := 50) (by decide +kernel) rfl rfl (s_calV (ci := 10) (pc' := 53) C_X11_bitsApart A_X11_bitsApart rfl (by decide) w_958 (by decide) (by decide +kernel) rfl (s_goto (off := 5) (pt := 58) (by decide +kernel) (by decide) (s_kil s_jmp))))))))))) (S_K_X11_apart_58 g0)))
def D_X11_apart : vD := op_ald 0 (op_calV 10 0 F_X11_looks (op_ist 3 (op_ild 1 (op_con 0 (op_ild 3 (op_con 1 (op_bin f_sub (op_cal 3 F_X11_in (op_seq 32 (op_seq 31 (op_ifeq (op_kil [true, true, true, false, false] (op_jmp 31)) (op_ild 2 (op_con (-1) (op_ild 3 (op_con 1 (op_bin f_sub (op_cal 3 F_X11_in (op_ifeq (op_kil [true, true, true, false, false] (op_jmp 31)) (op_con 1 (op_kil [true, true, true, false, false] (op_jmp 32))))))))))) K_X11_apart_31) K_X11_apart_32)))))))))
set_option maxRecDepth 100000 in
theorem S_D_X11_apart (g0 : vG) : Snd yX11_apart cX11_apart 5 (some .int) 7 0 0 g0 0 D_X11_apart := s_aldn (j := 0) (pc' := 1) (by decide +kernel) rfl rfl (s_calV (ci := 10) (pc' := 4) C_X11_looks A_X11_looks rfl (by decide) w_927 (by decide) (by decide +kernel) rfl (s_istn (j := 3) (pc' := 5) (by decide +kernel) rfl (by decide) rfl (s_ildn (j := 1) (pc' := 6) (by decide +kernel) rfl rfl (s_con (n := 0) (pc' := 7) (by decide +kernel) (by decide +kernel) rfl (s_ildn (j := 3) (pc' := 8) (by decide +kernel) rfl rfl (s_con (n := 1) (pc' := 9) (by decide +kernel) (by decide +kernel) rfl (s_sub (pc' := 10) (by decide +kernel) rfl (s_calS (pc' := 13) C_X11_in A_X11_in w_1002 (by decide) (by decide +kernel) rfl (s_seq (s_seq (s_ifeq (off := 18) (pt := 31) (pc' := 16) (by decide +kernel) (by decide) rfl (s_kil s_jmp) (s_ildn (j := 2) (pc' := 17) (by decide +kernel) rfl rfl (s_con (n := (-1)) (pc' := 18) (by decide +kernel) (by decide +kernel) rfl (s_ildn (j := 3) (pc' := 19) (by decide +kernel) rfl rfl (s_con (n := 1) (pc' := 20) (by decide +kernel) (by decide +kernel) rfl (s_sub (pc' := 21) (by decide +kernel) rfl (s_calS (pc' := 24) C_X11_in A_X11_in w_1002 (by decide) (by decide +kernel) rfl (s_ifeq (off := 7) (pt := 31) (pc' := 27) (by decide +kernel) (by decide) rfl (s_kil s_jmp) (s_con (n := 1) (pc' := 28) (by decide +kernel) (by decide +kernel) rfl (s_goto (off := 4) (pt := 32) (by decide +kernel) (by decide) (s_kil s_jmp))))))))))) (S_K_X11_apart_31 g0)) (S_K_X11_apart_32 g0))))))))))
def F_X11_apart : vF := runD D_X11_apart 5
theorem C_X11_apart : Ctr yX11_apart cX11_apart 5 (some .int) 7 0 0 F_X11_apart := ctr_of (d := fun _ => D_X11_apart) (by decide +kernel) S_D_X11_apart
theorem A_X11_apart : CaV yX11_apart cX11_apart 5 (some .int) 2 := ⟨w_1083, w_1084, w_77, w_1085, by unfold Nm; decide +kernel⟩
def K_X11_byFamily_19 : vD := op_ret
set_option maxRecDepth 100000 in
theorem S_K_X11_byFamily_19 (g0 : vG) : Snd yX11_byFamily cX11_byFamily 2 (some .int) 7 0 0 g0 19 K_X11_byFamily_19 := s_iret (by decide +kernel) rfl rfl rfl
def D_X11_byFamily : vD := op_ald 0 (op_calV 10 0 F_X11_layFamily (op_ild 1 (op_seq 19 (op_ifeq (op_ald 0 (op_gfi 10 17 (op_kil [false, false] (op_jmp 19)))) (op_ald 0 (op_gfi 10 16 (op_kil [false, false] (op_jmp 19))))) K_X11_byFamily_19)))
set_option maxRecDepth 100000 in
theorem S_D_X11_byFamily (g0 : vG) : Snd yX11_byFamily cX11_byFamily 2 (some .int) 7 0 0 g0 0 D_X11_byFamily := s_aldn (j := 0) (pc' := 1) (by decide +kernel) rfl rfl (s_calV (ci := 10) (pc' := 4) C_X11_layFamily A_X11_layFamily rfl (by decide) w_975 (by decide) (by decide +kernel) rfl (s_ildn (j := 1) (pc' := 5) (by decide +kernel) rfl rfl (s_seq (s_ifeq (off := 10) (pt := 15) (pc' := 8) (by decide +kernel) (by decide) rfl (s_aldn (j := 0) (pc' := 16) (by decide +kernel) rfl rfl (s_gfi (ci := 10) (j := 17) (pc' := 19) rfl g_ok11 (by decide) (by decide) (by decide) rfl w_840 (by decide +kernel) rfl (s_kil s_jmp))) (s_aldn (j := 0) (pc' := 9) (by decide +kernel) rfl rfl (s_gfi (ci := 10) (j := 16) (pc' := 12) rfl g_ok11 (by decide) (by decide) (by decide) rfl w_839 (by decide +kernel) rfl (s_goto (off := 7) (pt := 19) (by decide +kernel) (by decide) (s_kil s_jmp))))) (S_K_X11_byFamily_19 g0))))
def F_X11_byFamily : vF := runD D_X11_byFamily 2
theorem C_X11_byFamily : Ctr yX11_byFamily cX11_byFamily 2 (some .int) 7 0 0 F_X11_byFamily := ctr_of (d := fun _ => D_X11_byFamily) (by decide +kernel) S_D_X11_byFamily
theorem A_X11_byFamily : CaV yX11_byFamily cX11_byFamily 2 (some .int) 1 := ⟨w_973, w_37, w_77, w_974, by unfold Nm; decide +kernel⟩
def K_X11_lookAt_35 : vD := op_con (-1000000001) (op_kil [false, false, false] (op_jmp 37))
set_option maxRecDepth 100000 in
theorem S_K_X11_lookAt_35 (g0 : vG) : Snd yX11_lookAt cX11_lookAt 3 (some .int) 7 0 0 g0 35 K_X11_lookAt_35 := s_ldc (pc' := 37) (by decide +kernel) w_1013 rfl (s_kil s_jmp)
def K_X11_lookAt_37 : vD := op_ret
set_option maxRecDepth 100000 in
theorem S_K_X11_lookAt_37 (g0 : vG) : Snd yX11_lookAt cX11_lookAt 3 (some .int) 7 0 0 g0 37 K_X11_lookAt_37 := s_iret (by decide +kernel) rfl rfl rfl
def D_X11_lookAt : vD := op_ild 1 (op_con 0 (op_ald 0 (op_calV 10 0 F_X11_looks (op_con 1 (op_bin f_sub (op_cal 3 F_X11_in (op_seq 37 (op_seq 35 (op_ifeq (op_kil [false, false, false] (op_jmp 35)) (op_ild 2 (op_cal 1 F_X11_isProperty (op_ifeq (op_kil [false, false, false] (op_jmp 35)) (op_ald 0 (op_gfr 10 11 (op_con 6 (op_ild 1 (op_bin f_mul (op_ild 2 (op_bin f_add (op_ial (op_kil [false, false, false] (op_jmp 37)))))))))))))) K_X11_lookAt_35) K_X11_lookAt_37)))))))
set_option maxRecDepth 100000 in
theorem S_D_X11_lookAt (g0 : vG) : Snd yX11_lookAt cX11_lookAt 3 (some .int) 7 0 0 g0 0 D_X11_lookAt := s_ildn (j := 1) (pc' := 1) (by decide +kernel) rfl rfl (s_con (n := 0) (pc' := 2) (by decide +kernel) (by decide +kernel) rfl (s_aldn (j := 0) (pc' := 3) (by decide +kernel) rfl rfl (s_calV (ci := 10) (pc' := 6) C_X11_looks A_X11_looks rfl (by decide) w_927 (by decide) (by decide +kernel) rfl (s_con (n := 1) (pc' := 7) (by decide +kernel) (by decide +kernel) rfl (s_sub (pc' := 8) (by decide +kernel) rfl (s_calS (pc' := 11) C_X11_in A_X11_in w_1002 (by decide) (by decide +kernel) rfl (s_seq (s_seq (s_ifeq (off := 24) (pt := 35) (pc' := 14) (by decide +kernel) (by decide) rfl (s_kil s_jmp) (s_ildn (j := 2) (pc' := 15) (by decide +kernel) rfl rfl (s_calS (pc' := 18) C_X11_isProperty A_X11_isProperty w_1010 (by decide) (by decide +kernel) rfl (s_ifeq (off := 17) (pt := 35) (pc' := 21) (by decide +kernel) (by decide) rfl (s_kil s_jmp) (s_aldn (j := 0) (pc' := 22) (by decide +kernel) rfl rfl (s_gfr (ci := 10) (j := 11) (pc' := 25) rfl g_ok11 (by decide) (by decide) (by decide) rfl w_834 (by decide +kernel) rfl (s_bip (n := 6) (pc' := 27) (by decide +kernel) (by decide +kernel) rfl (s_ildn (j := 1) (pc' := 28) (by decide +kernel) rfl rfl (s_mul (pc' := 29) (by decide +kernel) rfl (s_ildn (j := 2) (pc' := 30) (by decide +kernel) rfl rfl (s_add (pc' := 31) (by decide +kernel) rfl (s_ial (pc' := 32) (by decide +kernel) rfl (s_goto (off := 5) (pt := 37) (by decide +kernel) (by decide) (s_kil s_jmp)))))))))))))) (S_K_X11_lookAt_35 g0)) (S_K_X11_lookAt_37 g0))))))))
def F_X11_lookAt : vF := runD D_X11_lookAt 3
theorem C_X11_lookAt : Ctr yX11_lookAt cX11_lookAt 3 (some .int) 7 0 0 F_X11_lookAt := ctr_of (d := fun _ => D_X11_lookAt) (by decide +kernel) S_D_X11_lookAt
theorem A_X11_lookAt : CaV yX11_lookAt cX11_lookAt 3 (some .int) 2 := ⟨w_1079, w_1080, w_77, w_1081, by unfold Nm; decide +kernel⟩
def D_X11_paragraphAt : vD := op_ald 0 (op_ild 1 (op_calV 10 1 F_X11_isParagraph (op_ifne (op_ald 0 (op_calV 10 0 F_X11_layAll (op_ild 2 (op_tsw [op_ald 0 (op_gfr 10 0 (op_ild 1 (op_cal 1 F_X11_paragraphOf (op_ial (op_ret))))), op_ald 0 (op_ild 1 (op_calV 10 1 F_X11_paragraphCost (op_ret))), op_ald 0 (op_ild 1 (op_calV 10 1 F_X11_nearest (op_ret))), op_ald 0 (op_ild 1 (op_ald 0 (op_ild 1 (op_calV 10 1 F_X11_nearest (op_calV 10 2 F_X11_costBy (op_ret)))))), op_ald 0 (op_ild 1 (op_calV 10 1 F_X11_lookNumber (op_ret))), op_ald 0 (op_ild 1 (op_cal 1 F_X11_paragraphOf (op_calV 10 1 F_X11_toldAt (op_ret))))] (op_con (-1000000002) (op_ret)))))) (op_con (-1000000001) (op_ret)))))
set_option maxRecDepth 100000 in
theorem S_D_X11_paragraphAt (g0 : vG) : Snd yX11_paragraphAt cX11_paragraphAt 3 (some .int) 7 0 0 g0 0 D_X11_paragraphAt := s_aldn (j := 0) (pc' := 1) (by decide +kernel) rfl rfl (s_ildn (j := 1) (pc' := 2) (by decide +kernel) rfl rfl (s_calV (ci := 10) (pc' := 5) C_X11_isParagraph A_X11_isParagraph rfl (by decide) w_998 (by decide) (by decide +kernel) rfl (s_ifne (off := 6) (pt := 11) (pc' := 8) (by decide +kernel) (by decide) rfl (s_aldn (j := 0) (pc' := 12) (by decide +kernel) rfl rfl (s_calV (ci := 10) (pc' := 15) C_X11_layAll A_X11_layAll rfl (by decide) w_1022 (by decide) (by decide +kernel) rfl (s_ildn (j := 2) (pc' := 16) (by decide +kernel) rfl rfl (s_tsw (ts := [56, 66, 72, 78, 89, 95]) (td := 104) (dflt := 88) (hi := 5) (offs := #[40, 50, 56, 62, 73, 79]) (len := 40) (by decide +kernel) (by decide) (by decide +kernel) (by decide) ⟨(s_aldn (j := 0) (pc' := 57) (by decide +kernel) rfl rfl (s_gfr (ci := 10) (j := 0) (pc' := 60) rfl g_ok11 (by decide) (by decide) (by decide) rfl w_823 (by decide +kernel) rfl (s_ildn (j := 1) (pc' := 61) (by decide +kernel) rfl rfl (s_calS (pc' := 64) C_X11_paragraphOf A_X11_paragraphOf w_904 (by decide) (by decide +kernel) rfl (s_ial (pc' := 65) (by decide +kernel) rfl (s_iret (by decide +kernel) rfl rfl rfl)))))), (s_aldn (j := 0) (pc' := 67) (by decide +kernel) rfl rfl (s_ildn (j := 1) (pc' := 68) (by decide +kernel) rfl rfl (s_calV (ci := 10) (pc' := 71) C_X11_paragraphCost A_X11_paragraphCost rfl (by decide) w_900 (by decide) (by decide +kernel) rfl (s_iret (by decide +kernel) rfl rfl rfl)))), (s_aldn (j := 0) (pc' := 73) (by decide +kernel) rfl rfl (s_ildn (j := 1) (pc' := 74) (by decide +kernel) rfl rfl (s_calV (ci := 10) (pc' := 77) C_X11_nearest A_X11_nearest rfl (by decide) w_1026 (by decide) (by decide +kernel) rfl (s_iret (by decide +kernel) rfl rfl rfl)))), (s_aldn (j := 0) (pc' := 79) (by decide +kernel) rfl rfl (s_ildn (j := 1) (pc' := 80) (by decide +kernel) rfl rfl (s_aldn (j := 0) (pc' := 81) (by decide +kernel) rfl rfl (s_ildn (j := 1) (pc' := 82) (by decide +kernel) rfl rfl (s_calV (ci := 10) (pc' := 85) C_X11_nearest A_X11_nearest rfl (by decide) w_1026 (by decide) (by decide +kernel) rfl (s_calV (ci := 10) (pc' := 88) C_X11_costBy A_X11_costBy rfl (by decide) w_1030 (by decide) (by decide +kernel) rfl (s_iret (by decide +kernel) rfl rfl rfl))))))), (s_aldn (j := 0) (pc' := 90) (by decide +kernel) rfl rfl (s_ildn (j := 1) (pc' := 91) (by decide +kernel) rfl rfl (s_calV (ci := 10) (pc' := 94) C_X11_lookNumber A_X11_lookNumber rfl (by decide) w_1034 (by decide) (by decide +kernel) rfl (s_iret (by decide +kernel) rfl rfl rfl)))), (s_aldn (j := 0) (pc' := 96) (by decide +kernel) rfl rfl (s_ildn (j := 1) (pc' := 97) (by decide +kernel) rfl rfl (s_calS (pc' := 100) C_X11_paragraphOf A_X11_paragraphOf w_904 (by decide) (by decide +kernel) rfl (s_calV (ci := 10) (pc' := 103) C_X11_toldAt A_X11_toldAt rfl (by decide) w_1038 (by decide) (by decide +kernel) rfl (s_iret (by decide +kernel) rfl rfl rfl))))), trivial⟩ (s_ldc (pc' := 106) (by decide +kernel) w_1005 rfl (s_iret (by decide +kernel) rfl rfl rfl)))))) (s_ldc (pc' := 10) (by decide +kernel) w_1013 rfl (s_iret (by decide +kernel) rfl rfl rfl)))))
def F_X11_paragraphAt : vF := runD D_X11_paragraphAt 3
theorem C_X11_paragraphAt : Ctr yX11_paragraphAt cX11_paragraphAt 3 (some .int) 7 0 0 F_X11_paragraphAt := ctr_of (d := fun _ => D_X11_paragraphAt) (by decide +kernel) S_D_X11_paragraphAt
theorem A_X11_paragraphAt : CaV yX11_paragraphAt cX11_paragraphAt 3 (some .int) 2 := ⟨w_1019, w_1020, w_77, w_1021, by unfold Nm; decide +kernel⟩
def D_X11_told : vD := op_ild 1 (op_tsw [op_ald 0 (op_gfr 10 0 (op_con 0 (op_ial (op_ret)))), op_ald 0 (op_gfr 10 0 (op_con 1 (op_ial (op_ret)))), op_ald 0 (op_calV 10 0 F_X11_cost (op_ret)), op_ald 0 (op_calV 10 0 F_X11_needless (op_ret)), op_ald 0 (op_calV 10 0 F_X11_looks (op_ret)), op_ald 0 (op_calV 10 0 F_X11_knitCost (op_ret)), op_ald 0 (op_con 0 (op_calV 10 1 F_X11_byFamily (op_ret))), op_ald 0 (op_con 1 (op_calV 10 1 F_X11_byFamily (op_ret))), op_ald 0 (op_calV 10 0 F_X11_idle (op_ret)), op_ald 0 (op_gfr 10 0 (op_con 2 (op_ial (op_ret)))), op_ald 0 (op_gfi 10 8 (op_ret)), op_ald 0 (op_calV 10 0 F_X11_wrongEntry (op_ret)), op_ald 0 (op_gfi 10 1 (op_ret)), op_ald 0 (op_gfi 10 3 (op_ret))] (op_con (-1000000002) (op_ret)))
set_option maxRecDepth 100000 in
theorem S_D_X11_told (g0 : vG) : Snd yX11_told cX11_told 2 (some .int) 8 0 0 g0 0 D_X11_told := s_ildn (j := 1) (pc' := 1) (by decide +kernel) rfl rfl (s_tsw (ts := [72, 79, 86, 91, 96, 101, 106, 112, 118, 123, 130, 135, 140, 145]) (td := 150) (dflt := 149) (hi := 13) (offs := #[71, 78, 85, 90, 95, 100, 105, 111, 117, 122, 129, 134, 139, 144]) (len := 71) (by decide +kernel) (by decide) (by decide +kernel) (by decide) ⟨(s_aldn (j := 0) (pc' := 73) (by decide +kernel) rfl rfl (s_gfr (ci := 10) (j := 0) (pc' := 76) rfl g_ok11 (by decide) (by decide) (by decide) rfl w_823 (by decide +kernel) rfl (s_con (n := 0) (pc' := 77) (by decide +kernel) (by decide +kernel) rfl (s_ial (pc' := 78) (by decide +kernel) rfl (s_iret (by decide +kernel) rfl rfl rfl))))), (s_aldn (j := 0) (pc' := 80) (by decide +kernel) rfl rfl (s_gfr (ci := 10) (j := 0) (pc' := 83) rfl g_ok11 (by decide) (by decide) (by decide) rfl w_823 (by decide +kernel) rfl (s_con (n := 1) (pc' := 84) (by decide +kernel) (by decide +kernel) rfl (s_ial (pc' := 85) (by decide +kernel) rfl (s_iret (by decide +kernel) rfl rfl rfl))))), (s_aldn (j := 0) (pc' := 87) (by decide +kernel) rfl rfl (s_calV (ci := 10) (pc' := 90) C_X11_cost A_X11_cost rfl (by decide) w_882 (by decide) (by decide +kernel) rfl (s_iret (by decide +kernel) rfl rfl rfl))), (s_aldn (j := 0) (pc' := 92) (by decide +kernel) rfl rfl (s_calV (ci := 10) (pc' := 95) C_X11_needless A_X11_needless rfl (by decide) w_907 (by decide) (by decide +kernel) rfl (s_iret (by decide +kernel) rfl rfl rfl))), (s_aldn (j := 0) (pc' := 97) (by decide +kernel) rfl rfl (s_calV (ci := 10) (pc' := 100) C_X11_looks A_X11_looks rfl (by decide) w_927 (by decide) (by decide +kernel) rfl (s_iret (by decide +kernel) rfl rfl rfl))), (s_aldn (j := 0) (pc' := 102) (by decide +kernel) rfl rfl (s_calV (ci := 10) (pc' := 105) C_X11_knitCost A_X11_knitCost rfl (by decide) w_946 (by decide) (by decide +kernel) rfl (s_iret (by decide +kernel) rfl rfl rfl))), (s_aldn (j := 0) (pc' := 107) (by decide +kernel) rfl rfl (s_con (n := 0) (pc' := 108) (by decide +kernel) (by decide +kernel) rfl (s_calV (ci := 10) (pc' := 111) C_X11_byFamily A_X11_byFamily rfl (by decide) w_971 (by decide) (by decide +kernel) rfl (s_iret (by decide +kernel) rfl rfl rfl)))), (s_aldn (j := 0) (pc' := 113) (by decide +kernel) rfl rfl (s_con (n := 1) (pc' := 114) (by decide +kernel) (by decide +kernel) rfl (s_calV (ci := 10) (pc' := 117) C_X11_byFamily A_X11_byFamily rfl (by decide) w_971 (by decide) (by decide +kernel) rfl (s_iret (by decide +kernel) rfl rfl rfl)))), (s_aldn (j := 0) (pc' := 119) (by decide +kernel) rfl rfl (s_calV (ci := 10) (pc' := 122) C_X11_idle A_X11_idle rfl (by decide) w_990 (by decide) (by decide +kernel) rfl (s_iret (by decide +kernel) rfl rfl rfl))), (s_aldn (j := 0) (pc' := 124) (by decide +kernel) rfl rfl (s_gfr (ci := 10) (j := 0) (pc' := 127) rfl g_ok11 (by decide) (by decide) (by decide) rfl w_823 (by decide +kernel) rfl (s_con (n := 2) (pc' := 128) (by decide +kernel) (by decide +kernel) rfl (s_ial (pc' := 129) (by decide +kernel) rfl (s_iret (by decide +kernel) rfl rfl rfl))))), (s_aldn (j := 0) (pc' := 131) (by decide +kernel) rfl rfl (s_gfi (ci := 10) (j := 8) (pc' := 134) rfl g_ok11 (by decide) (by decide) (by decide) rfl w_831 (by decide +kernel) rfl (s_iret (by decide +kernel) rfl rfl rfl))), (s_aldn (j := 0) (pc' := 136) (by decide +kernel) rfl rfl (s_calV (ci := 10) (pc' := 139) C_X11_wrongEntry A_X11_wrongEntry rfl (by decide) w_994 (by decide) (by decide +kernel) rfl (s_iret (by decide +kernel) rfl rfl rfl))), (s_aldn (j := 0) (pc' := 141) (by decide +kernel) rfl rfl (s_gfi (ci := 10) (j := 1) (pc' := 144) rfl g_ok11 (by decide) (by decide) (by decide) rfl w_824 (by decide +kernel) rfl (s_iret (by decide +kernel) rfl rfl rfl))), (s_aldn (j := 0) (pc' := 146) (by decide +kernel) rfl rfl (s_gfi (ci := 10) (j := 3) (pc' := 149) rfl g_ok11 (by decide) (by decide) (by decide) rfl w_826 (by decide +kernel) rfl (s_iret (by decide +kernel) rfl rfl rfl))), trivial⟩ (s_ldc (pc' := 152) (by decide +kernel) w_1005 rfl (s_iret (by decide +kernel) rfl rfl rfl)))
def F_X11_told : vF := runD D_X11_told 2
theorem C_X11_told : Ctr yX11_told cX11_told 2 (some .int) 8 0 0 F_X11_told := ctr_of (d := fun _ => D_X11_told) (by decide +kernel) S_D_X11_told
theorem A_X11_told : CaV yX11_told cX11_told 2 (some .int) 1 := ⟨w_879, w_880, w_77, w_881, by unfold Nm; decide +kernel⟩
end
section
/-! ===== objects are made: the operations of constructors ===== -/
def gpush (G : vG) (c n sl : Nat) : vG := (G.1 + 1, G.2.1 + sl, (fun a => if a = G.1 then c else gC G a), (fun a => if a = G.1 then n else gL G a), (fun a k => if a = G.1 then none else gR G a k))
def mpush (G : vG) (M : vM) : vM := fun a => if a = G.1 then (fun _ => 0) else M a
def gsetR (G : vG) (a j b : Nat) : vG := (G.1, G.2.1, gC G, gL G, fun a' j' => if a' = a then (if j' = j then some b else gR G a' j') else gR G a' j')
def op_new (lim : Nat × Nat) (ci : Nat) (k : vD) : vD := fun L st G M => if G.1 + 1 ≤ lim.1 ∧ G.2.1 + nF ci ≤ lim.2 ∧ G.1 < 1000 then k L (.ref G.1 :: st) (gpush G ci 0 (nF ci)) (mpush G M) else none
def op_nar (lim : Nat × Nat) (k : vD) : vD := fun L st G M => match st with
  | .int n :: r => if (G.1 + 1 ≤ lim.1 ∧ G.2.1 + n.toNatClampNeg ≤ lim.2 ∧ G.1 < 1000) ∧ 0 ≤ n ∧ n.toNatClampNeg ≤ 3000 then k L (.ref G.1 :: r) (gpush G 100 n.toNatClampNeg n.toNatClampNeg) (mpush G M) else none
  | _ => none
def op_anr (lim : Nat × Nat) (t : Nat) (k : vD) : vD := fun L st G M => match st with
  | .int n :: r => if (G.1 + 1 ≤ lim.1 ∧ G.2.1 + n.toNatClampNeg ≤ lim.2 ∧ G.1 < 1000) ∧ 0 ≤ n ∧ n.toNatClampNeg ≤ 3000 then k L (.ref G.1 :: r) (gpush G (100 + t) n.toNatClampNeg n.toNatClampNeg) (mpush G M) else none
  | _ => none
def op_pfr (c j : Nat) (k : vD) : vD := fun L st G M => match st with
  | .ref b :: .ref a :: r => if gAt G a c then k L r (gsetR G a j b) M else none
  | _ => none
def op_aas (t ci : Nat) (k : vD) : vD := fun L st G M => match st with
  | .ref b :: .int i :: .ref a :: r => if gAt G a (100 + t) && inB i (gL G a) && gAt G b ci then k L r (gsetR G a i.toNatClampNeg b) M else none
  | _ => none
def op_oin (k : vD) : vD := fun L st G M => match st with
  | .ref _ :: r => if r.length ≤ 4 then k L r G M else none
  | _ => none
def op_calI (lim : Nat × Nat) (mc ms n : Nat) (f : vF) (k : vD) : vD := fun L st G M => match st.drop n with
  | .ref a :: r => if (G.1 + mc ≤ lim.1 ∧ G.2.1 + ms ≤ lim.2) ∧ r.length ≤ 4 then (match f (.ref a :: (st.take n).reverse) G M with
    | some (none, G', M') => k L r G' M'
    | _ => none) else none
  | _ => none
def op_vrc (lim : Nat × Nat) : vD := fun _ st G M => match st with
  | [] => if G.1 = lim.1 ∧ G.2.1 = lim.2 then some (.inr (none, G, M)) else none
  | _ => none
section SND6
variable {p : Program} {l : Launch} {e : Env} {s : State} {m : MethodId} {args : Array Value} {below : List Frame} {meth : Method} {c : Code} {D : va_G} {cx : Nat → ClassId} {ad : Nat → Nat} {A : Nat → Prop}
variable {y : MethodName} {cc : ByteArray} {nL : Nat} {ret : Option FieldType} {lev mc ms : Nat} {g0 : vG} {pc pc' pt : Nat} {k kt kf : vD}
theorem wE_G {G G' : vG} {M M' : vM} {b : Nat} (h1 : gC G' b = gC G b) (h2 : gL G' b = gL G b) (h3 : ∀ k, gR G' b k = gR G b k) (h4 : M' b = M b) : wE cx ad G' M' b = wE cx ad G M b := by
  have h5 : gR G' b = gR G b := funext h3
  unfold wE fO
  rw [h1, h2, h4, h5]
theorem Iv.push {H H1 : Heap} {locs : List Loc} {G G' : vG} {M M' : vM} {n sl : Nat} (h : Iv D cx ad A mc ms g0 s H locs G M) (hA : ∀ q, s.heap.size ≤ q → A q) (hmc : mc ≠ 0) (hn1 : G'.1 = G.1 + n) (hn2 : G'.2.1 = G.2.1 + sl) (hz : H1.size = H.size + n) (ho : ∀ q, q < H.size → H1[q]? = H[q]?) (hold : ∀ a, a < G.1 → wE cx ad G' M' a = wE cx ad G M a)
    (hnew : ∀ j, j < n → va_at D vwCl (H.size + j, wE cx ad G' M' (G.1 + j)) H1) (hlt : G.1 + n ≤ 1000) (hl : G.1 + n ≤ g0.1 + mc ∧ G.2.1 + sl ≤ g0.2.1 + ms) : Iv D cx ad A mc ms g0 s H1 locs G' M' := by
  obtain ⟨hP, hD, hS, ⟨h1, h2, h3, h4, h5⟩, h6, h7⟩ := h
  have had : ∀ j, j < n → ad (G.1 + j) = H.size + j := fun j hj => h7 hmc j (by omega)
  have key : ∀ (i : Nat) (q : Nat × va_E), (wW cx ad G' M')[i]? = some q → (i < G.1 ∧ (wW cx ad G M)[i]? = some q ∧ q.1 < H.size) ∨ (G.1 ≤ i ∧ i < G.1 + n ∧ q.1 = H.size + (i - G.1) ∧ q = (H.size + (i - G.1), wE cx ad G' M' i)) := by
    intro i q hq
    obtain ⟨hi, rfl⟩ := wW_lt hq
    by_cases hlt : i < G.1
    · have hw : (wW cx ad G M)[i]? = some (ad i, wE cx ad G' M' i) := by rw [wW_at hlt, hold i hlt]
      exact Or.inl ⟨hlt, hw, (hP i _ hw).lt⟩
    · have e := had (i - G.1) (by omega)
      rw [show G.1 + (i - G.1) = i by omega] at e
      exact Or.inr ⟨by omega, by omega, e, by rw [e]⟩
  refine ⟨fun i q hq => ?_, ⟨fun i j p q hi hj hpq => ?_, fun i q hq => ?_⟩, ⟨by rw [hz]; exact Nat.le_trans hS.1 (by omega), fun q a b => by rw [ho q (Nat.lt_of_lt_of_le a hS.1)]; exact hS.2.1 q a b, hS.2.2⟩, ⟨by omega, by omega, by omega, by omega, by omega⟩, fun hz => absurd hz hmc, fun _ j hj => ?_⟩
  · rcases key i q hq with ⟨-, hw, hl⟩ | ⟨a1, a2, -, rfl⟩
    · exact (hP i q hw).kept (ho _ hl)
    · have := hnew (i - G.1) (by omega)
      rwa [show G.1 + (i - G.1) = i by omega] at this
  · rcases key i p hi with ⟨-, hw, hl⟩ | ⟨a1, a2, a3, -⟩ <;> rcases key j q hj with ⟨-, hw', hl'⟩ | ⟨b1, b2, b3, -⟩
    · exact hD.1 i j p q hw hw' hpq
    · omega
    · omega
    · omega
  · rcases key i q hq with ⟨-, hw, -⟩ | ⟨a1, a2, a3, -⟩
    · exact hD.2 i q hw
    · rw [a3]
      exact hA _ (by omega)
  · have := h7 hmc (n + j) (by omega)
    rw [hn1, Nat.add_assoc, this, hz]
    omega
theorem gpush_old {G : vG} {M : vM} {c n sl a : Nat} (h : a < G.1) : wE cx ad (gpush G c n sl) (mpush G M) a = wE cx ad G M a := by
  have hne : ¬ a = G.1 := by omega
  exact wE_G (if_neg hne) (if_neg hne) (fun _ => if_neg hne) (if_neg hne)
theorem gpush_C {G : vG} {c n sl : Nat} : gC (gpush G c n sl) G.1 = c := if_pos rfl
theorem gpush_L {G : vG} {c n sl : Nat} : gL (gpush G c n sl) G.1 = n := if_pos rfl
theorem gpush_R {G : vG} {c n sl k : Nat} : gR (gpush G c n sl) G.1 k = none := if_pos rfl
theorem mpush_at {G : vG} {M : vM} : mpush G M G.1 = fun _ => 0 := if_pos rfl
theorem s_new {C : String} {T : u_T} {N ci index : Nat} (hc : vwCl[ci]? = some (C, T, N)) (hin : ∀ w ∈ u_ws C T N, w ∈ lw_good) (ty0 : Nat → FieldType) (hty : ∀ k, k < N → parseFieldDescriptor (T k).2.2.1 = some (ty0 k)) (hci : ci < 100) (hN : nF ci = N) (hdf : ∀ k, k < N → defaultValue (ty0 k) = if rF ci k then .null else .int 0) (hmc : mc ≠ 0) (hw : Cond.classLink y.cls index C ∈ lw_good) (hw2 : Cond.instantiable C N ∈ lw_good) (hw3 : Cond.initialized C ∈ lw_good) (hd : decode cc pc = .ok (.new index, 3)) (hp : pc + 3 = pc') (hk : Snd y cc nL ret lev mc ms g0 pc' k) : Snd y cc nL ret lev mc ms g0 pc (op_new (g0.1 + mc, g0.2.1 + ms) ci k) := by
  subst hp
  intro p l e s m args below meth c D cx ad A F H locs ls L st G M hI hL out ho
  obtain ⟨hx, hb, -, hown, hts, -, -, -, hK, hA, -⟩ := id F
  unfold op_new at ho
  split at ho
  · next hg =>
    have hKn := hK.1 ci _ hc
    have hi := hI.2.2.2.1
    refine Rs.go hk F ho (fun Q kk => W.newcK hx hb hown (hts _ hw) (hts _ hw2) (hts _ hw3) rfl hd (by show _ ≤ mc; have := hg.1; simp only at this; omega) (by show _ ≤ ms; have := hg.2.1; simp only at this; omega) hKn.2.1 rfl fun H1 kC hkC e1 z1 o1 => ?_)
    have had : ad G.1 = H.size := hI.2.2.2.2.2 hmc 0 (by omega)
    have hI1 : Iv D cx ad A mc ms g0 s H1 locs (gpush G ci 0 (nF ci)) (mpush G M) := by
      refine hI.push (n := 1) (sl := nF ci) hA hmc rfl rfl z1 o1 (fun a ha => gpush_old ha) (fun j hj => ?_) (by omega) ⟨hg.1, hg.2.1⟩
      have hj0 : j = 0 := by omega
      subst hj0
      rw [Nat.add_zero, Nat.add_zero, wE_o gpush_C hci]
      refine ⟨_, hc, (u_born ty0 hts hin hKn hkC e1 hty).to (fun j hj => ?_)⟩
      rw [hdf j hj]
      have : (fO ad (gpush G ci 0 (nF ci)) (mpush G M) ci G.1)[j]? = some (if rF ci j then .null else .int 0) := by
        rw [fO_at (by omega), gpush_R, mpush_at]
        rfl
      unfold vp_V
      rw [List.getD_eq_getElem?_getD, this]
      rfl
    have c1 : (gpush G ci 0 (nF ci)).1 - g0.1 = G.1 - g0.1 + 1 := by show G.1 + 1 - g0.1 = _; omega
    have c2 : (gpush G ci 0 (nF ci)).2.1 - g0.2.1 = G.2.1 - g0.2.1 + N := by show G.2.1 + nF ci - g0.2.1 = _; omega
    have := kk H1 locs ls hI1 hL
    rw [c1, c2] at this
    simp only [List.map_cons, cvA, had] at this
    exact this
  · cases ho
theorem s_nar {index : Nat} (hw : Cond.arrayClass .int ∈ lw_good) (hmc : mc ≠ 0) (hd : decode cc pc = .ok (.newarray .int, 2)) (hp : pc + 2 = pc') (hk : Snd y cc nL ret lev mc ms g0 pc' k) : Snd y cc nL ret lev mc ms g0 pc (op_nar (g0.1 + mc, g0.2.1 + ms) k) := by
  subst hp
  intro p l e s m args below meth c D cx ad A F H locs ls L st G M hI hL out ho
  obtain ⟨hx, hb, -, hown, hts, -, -, -, hK, hA, -⟩ := id F
  unfold op_nar at ho
  split at ho
  · next n r =>
    split at ho
    · next hg =>
      have hi := hI.2.2.2.1
      refine Rs.go hk F ho (fun Q kk => va_newaK (atype := .int) (rest := r.map (cvA ad)) hx hb (hts _ hw) rfl hd rfl (Int32.not_lt.mpr hg.2.1) rfl (by show _ * 4 ≤ _; omega) (by show _ ≤ mc; have := hg.1.1; simp only at this; omega) (by show _ ≤ ms; have := hg.1.2.1; simp only at this; omega) rfl fun H1 cA e1 z1 o1 hAr hNm => ?_)
      have had : ad G.1 = H.size := hI.2.2.2.2.2 hmc 0 (by omega)
      have hcA : cA = cx 0 := by
        have h2 : s.vm.findClass ("[" ++ FieldType.int.toString) = some (cx 0) := (hK.2 0 _ rfl).2
        have h3 : s.vm.findClass ("[" ++ FieldType.int.toString) = some cA := hNm
        exact Option.some.inj (h3.symm.trans h2)
      subst hcA
      have hI1 : Iv D cx ad A mc ms g0 s H1 locs (gpush G 100 n.toNatClampNeg n.toNatClampNeg) (mpush G M) := by
        refine hI.push (n := 1) (sl := n.toNatClampNeg) hA hmc rfl rfl z1 o1 (fun a ha => gpush_old ha) (fun j hj => ?_) (by omega) ⟨hg.1.1, hg.1.2.1⟩
        have hj0 : j = 0 := by omega
        subst hj0
        rw [Nat.add_zero, Nat.add_zero, wE_i gpush_C, gpush_L, mpush_at]
        exact e1
      have c1 : (gpush G 100 n.toNatClampNeg n.toNatClampNeg).1 - g0.1 = G.1 - g0.1 + 1 := by show G.1 + 1 - g0.1 = _; omega
      have c2 : (gpush G 100 n.toNatClampNeg n.toNatClampNeg).2.1 - g0.2.1 = G.2.1 - g0.2.1 + n.toNatClampNeg := by show G.2.1 + n.toNatClampNeg - g0.2.1 = _; omega
      have := kk H1 locs ls hI1 hL
      rw [c1, c2] at this
      simp only [List.map_cons, cvA, had] at this
      exact this
    · cases ho
  · cases ho
theorem s_anr {C : String} {t index : Nat} (ht0 : 0 < t) (ht : ∀ cx : Nat → ClassId, (tyL cx)[t]? = some (cx t, .object C)) (hov : ∀ U : State, Nst U → va_AO C U) (hmc : mc ≠ 0) (hw : Cond.classLink y.cls index C ∈ lw_good) (hd : decode cc pc = .ok (.anewarray index, 3)) (hp : pc + 3 = pc') (hk : Snd y cc nL ret lev mc ms g0 pc' k) : Snd y cc nL ret lev mc ms g0 pc (op_anr (g0.1 + mc, g0.2.1 + ms) t k) := by
  subst hp
  intro p l e s m args below meth c D cx ad A F H locs ls L st G M hI hL out ho
  obtain ⟨hx, hb, -, hown, hts, -, -, -, hK, hA, -, hN⟩ := id F
  unfold op_anr at ho
  split at ho
  · next n r =>
    split at ho
    · next hg =>
      have hi := hI.2.2.2.1
      refine Rs.go hk F ho (fun Q kk => W.anew (rest := r.map (cvA ad)) hx hb hown (hts _ hw) (va_AO.use (hov s hN)) rfl hd rfl (Int32.not_lt.mpr hg.2.1) (by omega) (by show _ ≤ mc; have := hg.1.1; simp only at this; omega) (by show _ ≤ ms; have := hg.1.2.1; simp only at this; omega) fun cA kA comp f1 f2 f3 f4 => ?_)
      have had : ad G.1 = H.size := hI.2.2.2.2.2 hmc 0 (by omega)
      have hcA : cA = cx t := by
        obtain ⟨_, _, -, -, -, h2⟩ := (hK.2 t _ (ht cx)).2
        exact Option.some.inj (f1.symm.trans h2)
      subst hcA
      have hI1 : Iv D cx ad A mc ms g0 s (H.push { cls := cx t, slots := Array.replicate n.toNatClampNeg .null, vm := .none }) locs (gpush G (100 + t) n.toNatClampNeg n.toNatClampNeg) (mpush G M) := by
        refine hI.push (n := 1) (sl := n.toNatClampNeg) hA hmc rfl rfl (by rw [Array.size_push]) (fun q hq => by rw [Array.getElem?_push, if_neg (Nat.ne_of_lt hq)]) (fun a ha => gpush_old ha) (fun j hj => ?_) (by omega) ⟨hg.1.1, hg.1.2.1⟩
        have hj0 : j = 0 := by omega
        subst hj0
        rw [Nat.add_zero, Nat.add_zero, wE_r gpush_C ht0, gpush_L]
        show _ = some (vp_cell _ _)
        rw [vp_cell_q, Array.getElem?_push_size, arrV_new]
        congr 2
        funext j
        rw [gpush_R]
        rfl
      have c1 : (gpush G (100 + t) n.toNatClampNeg n.toNatClampNeg).1 - g0.1 = G.1 - g0.1 + 1 := by show G.1 + 1 - g0.1 = _; omega
      have c2 : (gpush G (100 + t) n.toNatClampNeg n.toNatClampNeg).2.1 - g0.2.1 = G.2.1 - g0.2.1 + n.toNatClampNeg := by show G.2.1 + n.toNatClampNeg - g0.2.1 = _; omega
      have := kk _ locs ls hI1 hL
      rw [c1, c2] at this
      simp only [List.map_cons, cvA, had] at this
      exact this
    · cases ho
  · cases ho
end SND6
end
section
/-! ===== objects are made, 2: references are put, constructors are called ===== -/
section SND7
variable {p : Program} {l : Launch} {e : Env} {s : State} {m : MethodId} {args : Array Value} {below : List Frame} {meth : Method} {c : Code} {D : va_G} {cx : Nat → ClassId} {ad : Nat → Nat} {A : Nat → Prop}
variable {y : MethodName} {cc : ByteArray} {nL : Nat} {ret : Option FieldType} {lev mc ms : Nat} {g0 : vG} {pc pc' pt : Nat} {k kt kf : vD}
theorem fO_setR {g : vG} {M : vM} {c a k b : Nat} (hk : k < nF c) (hr : rF c k = true) : (fO ad g M c a).set k (.ref (ad b)) = fO ad (gsetR g a k b) M c a := by
  apply List.ext_getElem?
  intro i
  by_cases hi : i < nF c
  · rw [fO_at hi]
    by_cases h : i = k
    · subst h
      rw [List.getElem?_set_self (by rw [fO_len]; exact hi), hr]
      simp [gR, gsetR, va_rf]
    · rw [List.getElem?_set_ne (fun q => h q.symm), fO_at hi]
      simp [gR, gsetR, h]
  · rw [List.getElem?_eq_none (by rw [List.length_set, fO_len]; omega), List.getElem?_eq_none (by rw [fO_len]; omega)]
theorem gsetR_ne {g : vG} {M : vM} {a k b x : Nat} (h : x ≠ a) : wE cx ad (gsetR g a k b) M x = wE cx ad g M x :=
  wE_G rfl rfl (fun _ => if_neg h) rfl
theorem Iv.updG {H H1 : Heap} {locs locs1 : List Loc} {G G1 : vG} {M M1 : vM} (h : Iv D cx ad A mc ms g0 s H locs G M) (hmc : mc ≠ 0) (h1 : G1.1 = G.1) (h2 : G1.2.1 = G.2.1) (hP : va_P D vwCl (wW cx ad G1 M1) H1) (hD : va_D A (wW cx ad G1 M1)) (hS : va_S A H H1 locs1) (hz : H1.size ≤ s.heap.size + (G.1 - g0.1)) : Iv D cx ad A mc ms g0 s H1 locs1 G1 M1 := by
  obtain ⟨-, -, hS0, ⟨i1, i2, i3, i4, i5⟩, i6, i7⟩ := h
  have hs : H1.size = H.size := by have := hS.1; omega
  exact ⟨hP, hD, hS0.via hS, ⟨by omega, by omega, by omega, by omega, by omega⟩, fun hz => absurd hz hmc, fun h j hj => by rw [hs, h1]; exact i7 h j (by omega)⟩
theorem s_pfr {C : String} {T : u_T} {N ci j index : Nat} (hc : vwCl[ci]? = some (C, T, N)) (hin : ∀ w ∈ u_ws C T N, w ∈ lw_good) (ty0 : Nat → FieldType) (hty : ∀ k, k < N → parseFieldDescriptor (T k).2.2.1 = some (ty0 k)) (hnm : ∀ a, a < N → ∀ b, b < N → a ≠ b → (T a).2.1 ≠ (T b).2.1) (hj : j < N) (hci : ci < 100) (hjn : j < nF ci) (hrf : rF ci j = true) (hfin : (T j).2.2.2 = true) (hown0 : (T j).1 = y.cls) (hyn : y.name = "<init>") (hti : ∀ x : Nat, narrow (ty0 j) (.ref x) = .ref x ∧ fits (ty0 j) (.ref x) = true) (hmc : mc ≠ 0) (hw : Cond.fieldLink y.cls index (T j).1 (T j).2.1 (T j).2.2.1 ∈ lw_good) (hd : decode cc pc = .ok (.putfield index, 3)) (hp : pc + 3 = pc') (hk : Snd y cc nL ret lev mc ms g0 pc' k) : Snd y cc nL ret lev mc ms g0 pc (op_pfr ci j k) := by
  subst hp
  intro p l e s m args below meth c D cx ad A F H locs ls L st G M hI hL out ho
  obtain ⟨hx, hb, -, hown, hts, -, -, hmn, hK, -⟩ := id F
  unfold op_pfr at ho
  split at ho
  · next b a r =>
    split at ho
    · next hg =>
      obtain ⟨ha, hC⟩ := gAt_ok hg
      refine Rs.go (G2 := gsetR G a j b) hk F ho (fun Q kk => va_putF (v := .ref (ad b)) hx hb hts hin ty0 hty hnm hown hK hI.1 hI.2.1 hI.2.2.1.me a (by rw [wW_at ha, wE_o hC hci]) hc j hj (hts _ hw) (fun x h => h) hfin (hmn.trans hyn) hown0 (hty j hj) (hti _).1 (hti _).2 (by rw [fO_len]; exact hjn) hd (fun H1 locs1 hP1 hD1 hS1 => W_sz fun hz => ?_))
      rw [wW_set (cx := cx) (ad := ad) (g := G) (M := M) (g' := gsetR G a j b) (M' := M) (e := .inr (ci, (fO ad G M ci a).set j (Value.ref (ad b)))) rfl (by rw [wE_o (show gC (gsetR G a j b) a = ci from hC) hci, fO_setR hjn hrf]) (fun x hx => gsetR_ne hx)] at hP1 hD1
      exact kk H1 locs1 ls (hI.updG hmc rfl rfl hP1 hD1 hS1 hz) hL
    · cases ho
  · cases ho
theorem s_pfiF {C : String} {T : u_T} {N ci j index : Nat} (hc : vwCl[ci]? = some (C, T, N)) (hin : ∀ w ∈ u_ws C T N, w ∈ lw_good) (ty0 : Nat → FieldType) (hty : ∀ k, k < N → parseFieldDescriptor (T k).2.2.1 = some (ty0 k)) (hnm : ∀ a, a < N → ∀ b, b < N → a ≠ b → (T a).2.1 ≠ (T b).2.1) (hj : j < N) (hci : ci < 100) (hjn : j < nF ci) (hrf : rF ci j = false) (hfin : (T j).2.2.2 = true) (hown0 : (T j).1 = y.cls) (hyn : y.name = "<init>") (hti : ty0 j = .int) (hw : Cond.fieldLink y.cls index (T j).1 (T j).2.1 (T j).2.2.1 ∈ lw_good) (hd : decode cc pc = .ok (.putfield index, 3)) (hp : pc + 3 = pc') (hk : Snd y cc nL ret lev mc ms g0 pc' k) : Snd y cc nL ret lev mc ms g0 pc (op_pfi ci j k) := by
  subst hp
  intro p l e s m args below meth c D cx ad A F H locs ls L st G M hI hL out ho
  obtain ⟨hx, hb, -, hown, hts, -, -, hmn, hK, -⟩ := id F
  unfold op_pfi at ho
  split at ho
  · next x a r =>
    split at ho
    · next hg =>
      obtain ⟨ha, hC⟩ := gAt_ok hg
      refine Rs.go (G2 := G) hk F ho (fun Q kk => va_putF (v := .int x) hx hb hts hin ty0 hty hnm hown hK hI.1 hI.2.1 hI.2.2.1.me a (by rw [wW_at ha, wE_o hC hci]) hc j hj (hts _ hw) (fun x h => h) hfin (hmn.trans hyn) hown0 ((hty j hj).trans (congrArg some hti)) rfl rfl (by rw [fO_len]; exact hjn) hd (fun H1 locs1 hP1 hD1 hS1 => W_sz fun hz => ?_))
      rw [wW_set (g' := G) (M' := mset M a j x) rfl (by rw [wE_o hC hci, fO_set hjn hrf]) (fun b hb => wE_M (mset_ne hb))] at hP1 hD1
      exact kk H1 locs1 ls (hI.upd hP1 hD1 hS1 hz) hL
    · cases ho
  · cases ho
theorem s_aas {C : String} {T : u_T} {N t ci : Nat} (ht0 : 0 < t) (hcl : vwCl[ci]? = some (C, T, N)) (hci : ci < 100) (ht : ∀ cx : Nat → ClassId, (tyL cx)[t]? = some (cx t, .object C)) (hmc : mc ≠ 0) (hd : decode cc pc = .ok (.aastore, 1)) (hp : pc + 1 = pc') (hk : Snd y cc nL ret lev mc ms g0 pc' k) : Snd y cc nL ret lev mc ms g0 pc (op_aas t ci k) := by
  subst hp
  intro p l e s m args below meth c D cx ad A F H locs ls L st G M hI hL out ho
  obtain ⟨hx, hb, -, hown, hts, -, -, -, hK, -⟩ := id F
  unfold op_aas at ho
  split at ho
  · next b i a r =>
    split at ho
    · next hg =>
      simp only [Bool.and_eq_true] at hg
      obtain ⟨ha, hC⟩ := gAt_ok hg.1.1
      obtain ⟨hb', hCb⟩ := gAt_ok hg.2
      refine Rs.go (G2 := gsetR G a i.toNatClampNeg b) hk F ho (fun Q kk => va_astq (r := (C, T, N)) (v := ad b) hx hb hK hI.1 hI.2.1 hI.2.2.1.me a t b ci (by rw [wW_at ha, wE_r hC ht0]) (ht cx) (by rw [wW_at hb', wE_o hCb hci]) hcl (inB_ok hg.1.2).1 hd (fun H1 locs1 hP1 hD1 hS1 => W_sz fun hz => ?_))
      have hfun : (fun j => (gR (gsetR G a i.toNatClampNeg b) a j).map ad) = va_up (fun j => Option.map ad (gR G a j)) i.toNatClampNeg (some (ad b)) := by
        funext j
        by_cases hj : j = i.toNatClampNeg
        · subst hj
          simp [gR, gsetR, va_up]
        · simp [gR, gsetR, va_up, hj]
      have he : wE cx ad (gsetR G a i.toNatClampNeg b) M a = .inl (cx t, gL G a, .inr (.inr (.inr (.inr (va_up (fun j => Option.map ad (gR G a j)) i.toNatClampNeg (some (ad b))))))) := by
        rw [wE_r (show gC (gsetR G a i.toNatClampNeg b) a = 100 + t from hC) ht0, hfun]
        rfl
      rw [wW_set (g := G) (M := M) (g' := gsetR G a i.toNatClampNeg b) (M' := M) rfl he (fun x hx => gsetR_ne hx)] at hP1 hD1
      exact kk H1 locs1 ls (hI.updG hmc rfl rfl hP1 hD1 hS1 hz) hL
    · cases ho
  · cases ho
theorem s_oin {index : Nat} (hw : Cond.methodLink y.cls index objectInit ∈ lw_good) (hw2 : Cond.instanceMethod objectInit ∈ lw_good ∧ Cond.code objectInit ⟨#[0xb1]⟩ 1 none ∈ lw_good) (hlv : 1 ≤ lev) (hd : decode cc pc = .ok (.invokespecial index, 3)) (hp : pc + 3 = pc') (hk : Snd y cc nL ret lev mc ms g0 pc' k) : Snd y cc nL ret lev mc ms g0 pc (op_oin k) := by
  subst hp
  intro p l e s m args below meth c D cx ad A F H locs ls L st G M hI hL out ho
  obtain ⟨hx, hb, hml, hown, hts, -⟩ := id F
  unfold op_oin at ho
  split at ho
  · next a r =>
    split at ho
    · next hr =>
      refine Rs.go (G2 := G) hk F ho (fun Q kk => W.objInit (rest := r.map (cvA ad)) hx hb hown (hts _ hw) (hts _ hw2.1) (hts _ hw2.2) rfl (hL.1.trans hml.symm) rfl hd hlv ?_ (kk H locs ls hI hL))
      have h1 := cat_sum (ad := ad) r
      have h2 := lv_room (m := m) (pc := pc) (ls := ls) (rest := ((Value.ref a :: r).map (cvA ad))) (st := r.map (cvA ad)) (by omega)
      show _ ≤ 36 * lev
      omega
    · cases ho
  · cases ho
def CaI (y2 : MethodName) (c2 : ByteArray) (n2 n : Nat) : Prop := y2.name = "<init>" ∧ Cond.instanceMethod y2 ∈ lw_good ∧ Cond.initialized y2.cls ∈ lw_good ∧ Cond.code y2 c2 n2 none ∈ lw_good ∧ Nm y2 n
theorem s_calI {y2 : MethodName} {c2 : ByteArray} {n2 : Nat} {lev2 n index mc2 ms2 : Nat} {f : vF} (hM : Ctr y2 c2 n2 none lev2 mc2 ms2 f) (hC : CaI y2 c2 n2 n) (hw : Cond.methodLink y.cls index y2 ∈ lw_good ∨ ∃ host, Cond.methodLinkNest y.cls index y2 host ∈ lw_nst) (hmc : mc ≠ 0) (hlv : lev2 + 1 ≤ lev ∧ 8 + (n2 + 11) + 36 * lev2 ≤ 36 * lev) (hd : decode cc pc = .ok (.invokespecial index, 3)) (hp : pc + 3 = pc') (hk : Snd y cc nL ret lev mc ms g0 pc' k) : Snd y cc nL ret lev mc ms g0 pc (op_calI (g0.1 + mc, g0.2.1 + ms) mc2 ms2 n f k) := by
  subst hp
  intro p l e s m args below meth c D cx ad A F H locs ls L st G M hI hL out ho
  obtain ⟨hx, hb, hml, hown, hts, -, -, -, hK, -, -, hN0⟩ := id F
  obtain ⟨w0, w1, w3, w4, hN⟩ := hC
  unfold op_calI at ho
  split at ho
  · next a r hdr =>
    split at ho
    · next hg =>
      have hst : st = st.take n ++ .ref a :: r := by rw [← hdr, List.take_append_drop]
      have hlt : (st.take n).length = n := by
        have h1 : (st.drop n).length = r.length + 1 := by rw [hdr]; rfl
        simp at h1 ⊢
        omega
      have hgood : GoodIn lw_good (Cond.code y2 c2 n2 none :: lw_good) := good_lw (fun w hw' => by
        rcases List.mem_cons.mp hw' with rfl | h
        · exact w4
        · exact h)
      have e1 : (((st.take n).reverse.map (cvA ad)).length = n) := by rw [List.length_map, List.length_reverse, hlt]
      have e2 : st.map (cvA ad) = ((st.take n).reverse.map (cvA ad)).reverse ++ Value.ref (ad a) :: r.map (cvA ad) := by
        rw [List.map_reverse, List.reverse_reverse]
        conv => lhs; rw [hst]
        rw [List.map_append]
        rfl
      have e3 : ((r.map (cvA ad)).map fun v => v.category).sum ≤ 8 := by
        have := cat_sum (ad := ad) r
        have h4 := hg.2
        omega
      have hi := hI.2.2.2.1
      have e4 : G.1 - g0.1 + mc2 ≤ (rmL lev mc ms).cells ∧ G.2.1 - g0.2.1 + ms2 ≤ (rmL lev mc ms).slots := by
        have h1 := hg.1.1
        have h2 := hg.1.2
        simp only at h1 h2
        exact ⟨by show _ ≤ mc; omega, by show _ ≤ ms; omega⟩
      split at ho
      · next G' M' hf =>
        refine Rs.go hk F ho (fun Q kk => vc_call (v0 := none) (as := (Value.ref (ad a) :: (st.take n).reverse.map (cvA ad)).toArray) hI (mc' := mc2) (ms' := ms2) (fun _ => hmc) hg.1 ?_ (fun H1 locs1 hI1 => kk H1 locs1 ls hI1 hL))
        rcases hw with hw | ⟨host, hw⟩
        · exact va_runI (b := ad a) (As := (st.take n).reverse.map (cvA ad)) (rest := r.map (cvA ad)) ⟨hx, hb, hml, hown, hts⟩ (hM l D cx ad A H.size _ G M none G' M' hf) (cwI n hts hgood rfl rfl rfl (hts _ w3) (hts _ hw) (hts _ w1) w0 hN hlv) ⟨Wd_blind, fun U hU hW => ⟨rfl, Wd_of F hI (fun _ => hmc) hU hW⟩⟩ rfl e1 hL.1 e2 (lv_room e3) hd e4
        · exact va_runIN (b := ad a) (As := (st.take n).reverse.map (cvA ad)) (rest := r.map (cvA ad)) ⟨hx, hb, hml, hown, hts⟩ (hM l D cx ad A H.size _ G M none G' M' hf) ⟨va_cnB n hts hgood rfl rfl rfl (hN0.1 _ hw) (hts _ w3) hN hlv, w0, hts _ w1⟩ ⟨Wd_blind, fun U hU hW => ⟨rfl, Wd_of F hI (fun _ => hmc) hU hW⟩⟩ rfl e1 hL.1 e2 (lv_room e3) hd e4
      · cases ho
    · cases ho
  · cases ho
theorem s_vrc (hd : decode cc pc = .ok (.return_, 1)) (hr : ret = none) (hmc : mc ≠ 0) : Snd y cc nL ret lev mc ms g0 pc (op_vrc (g0.1 + mc, g0.2.1 + ms)) := by
  intro p l e s m args below meth c D cx ad A F H locs ls L st G M hI hL out ho
  obtain ⟨hx, hb, -, -, -, hret, hlk, -⟩ := id F
  unfold op_vrc at ho
  split at ho
  · split at ho
    · next hg =>
      cases ho
      have h1 : G.1 = g0.1 + mc := hg.1
      have h2 : G.2.1 = g0.2.1 + ms := hg.2
      have e1 : G.1 - g0.1 = mc := by omega
      have e2 : G.2.1 - g0.2.1 = ms := by omega
      obtain ⟨hP, hD, hS, ⟨i1, i2, i3, i4, i5⟩, i6, i7⟩ := id hI
      show W _ _ _ _ _ _ _ _ _ _ _ _ _ _ _ _
      rw [e1, e2]
      exact W.vret hx hb (hret.trans hr) (fun t ht _ => ⟨rfl, ⟨h1, h2, fun hz => absurd hz hmc⟩, by rw [ht]; exact hP, hD, by rw [ht, i2, e1], hS.F ht⟩) hI.2.2.1.2.2 hd hlk
    · cases ho
  · cases ho
end SND7
end
section
/-! ===== new int[n][k] ===== -/
def gmul (G : vG) (n k : Nat) : vG := (G.1 + (1 + n), G.2.1 + (n + n * k), (fun a => if a = G.1 then 103 else if G.1 < a ∧ a ≤ G.1 + n then 100 else gC G a), (fun a => if a = G.1 then n else if G.1 < a ∧ a ≤ G.1 + n then k else gL G a), (fun a j => if a = G.1 then (if j < n then some (G.1 + 1 + j) else none) else gR G a j))
def mmul (G : vG) (M : vM) (n : Nat) : vM := fun a => if G.1 ≤ a ∧ a ≤ G.1 + n then (fun _ => 0) else M a
def op_mna (lim : Nat × Nat) (k : vD) : vD := fun L st G M => match st with
  | .int b :: .int a :: r => if (G.1 + (1 + a.toNatClampNeg) ≤ lim.1 ∧ G.2.1 + (a.toNatClampNeg + a.toNatClampNeg * b.toNatClampNeg) ≤ lim.2 ∧ G.1 + (1 + a.toNatClampNeg) ≤ 1000) ∧ (0 ≤ a ∧ a.toNatClampNeg ≤ 3000) ∧ 0 ≤ b ∧ b.toNatClampNeg ≤ 3000 then k L (.ref G.1 :: r) (gmul G a.toNatClampNeg b.toNatClampNeg) (mmul G M a.toNatClampNeg) else none
  | _ => none
theorem vr_outer (c : ClassId) (N h0 : Nat) (i : Nat) : Jvm.Free.Multi.outerC c N h0 i = arrV c N (fun j => va_rf (if j < i then some (h0 + 1 + j) else none)) := by
  induction i with
  | zero =>
    show ({ cls := c, slots := Array.replicate N .null, vm := .none } : Cell) = _
    rw [arrV_new]
    refine congrArg (arrV c N) (funext fun j => ?_)
    simp [va_rf]
  | succ i ih =>
    show (Jvm.Free.Multi.outerC c N h0 i).setSlot i (.ref (h0 + 1 + i)) = _
    rw [ih, arrV_store]
    refine congrArg (arrV c N) (funext fun j => ?_)
    by_cases e : j = i
    · subst e
      simp [updV, va_rf]
    · by_cases h : j < i
      · simp [updV, e, h, Nat.lt_succ_of_lt h]
      · simp [updV, e, h, show ¬ j < i + 1 by omega]
theorem s_mna {y : MethodName} {cc : ByteArray} {nL : Nat} {ret : Option FieldType} {lev mc ms : Nat} {g0 : vG} {pc pc' : Nat} {k : vD} {index : Nat} (hw : Cond.classLink y.cls index ("[" ++ (FieldType.array .int).toString) ∈ lw_good) (hw2 : Cond.arrayClass .int ∈ lw_good) (hmc : mc ≠ 0) (hd : decode cc pc = .ok (.multianewarray index 2, 4)) (hp : pc + 4 = pc') (hk : Snd y cc nL ret lev mc ms g0 pc' k) : Snd y cc nL ret lev mc ms g0 pc (op_mna (g0.1 + mc, g0.2.1 + ms) k) := by
  subst hp
  intro p l e s m args below meth c D cx ad A F H locs ls L st G M hI hL out ho
  obtain ⟨hx, hb, -, hown, hts, -, -, -, hK, hA, -, hN⟩ := id F
  unfold op_mna at ho
  split at ho
  · next b a r =>
    split at ho
    · next hg =>
      have hi := hI.2.2.2.1
      refine Rs.go hk F ho (fun Q kk => ?_)
      have hbb : b.toNatClampNeg * componentBytes .int ≤ 536870912 := by show _ * 4 ≤ _; omega
      intro T hT Xs
      obtain ⟨vm₁, cA, comp, -, fA, fC, hO, -, X', step⟩ := Xs.multianewarray2F hx hown (hts _ hw) (over_moved (Vm.Alike.refl _) hN.2.2.2) (hts _ hw2) (g := F0 m pc ls (.int b :: .int a :: r.map (cvA ad))) rfl (by rw [hb]; exact hd) rfl (Int32.not_lt.mpr hg.2.1.1) (Int32.not_lt.mpr hg.2.2.1) (by omega) hbb (by omega) rfl rfl (by show _ ≤ mc; have := hg.1.1; simp only at this; omega) (by show _ ≤ ms; have := hg.1.2.1; simp only at this; omega)
      generalize hF : Jvm.Free.Multi.fill (T.setVm vm₁) cA comp a.toNatClampNeg b.toNatClampNeg (defaultValue .int) a.toNatClampNeg = Fl at X' step
      have hTh : (T.setVm vm₁).heap = H := hT
      obtain ⟨f1, f2, -, -⟩ := Jvm.Free.Multi.fill_facts (T.setVm vm₁) cA comp a.toNatClampNeg b.toNatClampNeg (defaultValue .int) a.toNatClampNeg
      rw [hF, hTh] at f1 f2
      have hold : ∀ x : Nat, x < H.size → Fl.heap[x]? = H[x]? := fun x hx => by
        have := Jvm.Free.Multi.fill_old (T.setVm vm₁) cA comp a.toNatClampNeg b.toNatClampNeg (defaultValue .int) (a := x) (by rw [hTh]; exact hx) a.toNatClampNeg
        rw [hF, hTh] at this
        exact this
      have hrow : ∀ j : Nat, j < a.toNatClampNeg → Fl.heap[H.size + 1 + j]? = some (vp_cell comp (b.toNatClampNeg, .inl (fun _ => 0))) := fun j hj => by
        have := Jvm.Free.Multi.fill_inner (T.setVm vm₁) cA comp a.toNatClampNeg b.toNatClampNeg (defaultValue .int) a.toNatClampNeg j hj
        rw [hF, hTh] at this
        rw [this, vp_cell_i]
        show some ({ cls := comp, slots := Array.replicate b.toNatClampNeg (.int 0), vm := .none } : Cell) = _
        rw [arrV_new]
      rw [vr_outer] at f2
      have hcA : cA = cx 3 := by
        have h2 : s.vm.findClass ("[" ++ (FieldType.array .int).toString) = some (cx 3) := (hK.2 3 _ rfl).2
        exact Option.some.inj (fA.symm.trans h2)
      have hcI : comp = cx 0 := by
        have h2 : s.vm.findClass ("[" ++ FieldType.int.toString) = some (cx 0) := (hK.2 0 _ rfl).2
        have h3 : s.vm.findClass (FieldType.array .int).toString = some comp := fC
        exact Option.some.inj (h3.symm.trans h2)
      subst hcA hcI
      have had : ∀ j, j ≤ a.toNatClampNeg → ad (G.1 + j) = H.size + j := fun j hj => hI.2.2.2.2.2 hmc j (by omega)
      have hsz : Fl.heap.size = H.size + (1 + a.toNatClampNeg) := by rw [f1]; omega
      have hI1 : Iv D cx ad A mc ms g0 s Fl.heap locs (gmul G a.toNatClampNeg b.toNatClampNeg) (mmul G M a.toNatClampNeg) := by
        refine hI.push (n := 1 + a.toNatClampNeg) (sl := a.toNatClampNeg + a.toNatClampNeg * b.toNatClampNeg) hA hmc rfl rfl hsz hold (fun x hx => ?_) (fun j hj => ?_) hg.1.2.2 ⟨hg.1.1, hg.1.2.1⟩
        · have n1 : ¬ x = G.1 := by omega
          have n2 : ¬ (G.1 < x ∧ x ≤ G.1 + a.toNatClampNeg) := by omega
          have n3 : ¬ (G.1 ≤ x ∧ x ≤ G.1 + a.toNatClampNeg) := by omega
          exact wE_G (by simp [gC, gmul, n1, n2]) (by simp [gL, gmul, n1, n2]) (fun _ => by simp [gR, gmul, n1]) (by simp [mmul, n3])
        · by_cases hj0 : j = 0
          · subst hj0
            rw [Nat.add_zero, Nat.add_zero, wE_r (t := 3) (by simp [gC, gmul]) (by decide)]
            show _ = some (vp_cell _ _)
            rw [vp_cell_q]
            have e1 : gL (gmul G a.toNatClampNeg b.toNatClampNeg) G.1 = a.toNatClampNeg := by simp [gL, gmul]
            rw [e1, f2]
            congr 2
            funext j
            congr 1
            by_cases h : j < a.toNatClampNeg
            · have := had (1 + j) (by omega)
              simp [gR, gmul, h]
              rw [show G.1 + 1 + j = G.1 + (1 + j) by omega, this]
              omega
            · simp [gR, gmul, h]
          · have n1 : ¬ G.1 + j = G.1 := by omega
            have n2 : G.1 < G.1 + j ∧ G.1 + j ≤ G.1 + a.toNatClampNeg := by omega
            have n3 : G.1 ≤ G.1 + j ∧ G.1 + j ≤ G.1 + a.toNatClampNeg := by omega
            have e2 : gC (gmul G a.toNatClampNeg b.toNatClampNeg) (G.1 + j) = 100 := by
              show (if G.1 + j = G.1 then 103 else if G.1 < G.1 + j ∧ G.1 + j ≤ G.1 + a.toNatClampNeg then 100 else gC G (G.1 + j)) = 100
              rw [if_neg n1, if_pos n2]
            have e3 : gL (gmul G a.toNatClampNeg b.toNatClampNeg) (G.1 + j) = b.toNatClampNeg := by
              show (if G.1 + j = G.1 then _ else if G.1 < G.1 + j ∧ G.1 + j ≤ G.1 + a.toNatClampNeg then b.toNatClampNeg else gL G (G.1 + j)) = b.toNatClampNeg
              rw [if_neg n1, if_pos n2]
            have e4 : mmul G M a.toNatClampNeg (G.1 + j) = fun _ => 0 := if_pos n3
            rw [wE_i e2, e3, e4]
            have := hrow (j - 1) (by omega)
            rw [show H.size + 1 + (j - 1) = H.size + j by omega] at this
            exact this
      have c1 : (gmul G a.toNatClampNeg b.toNatClampNeg).1 - g0.1 = G.1 - g0.1 + 1 + a.toNatClampNeg := by show G.1 + (1 + a.toNatClampNeg) - g0.1 = _; omega
      have c2 : (gmul G a.toNatClampNeg b.toNatClampNeg).2.1 - g0.2.1 = G.2.1 - g0.2.1 + a.toNatClampNeg + a.toNatClampNeg * b.toNatClampNeg := by show G.2.1 + (a.toNatClampNeg + a.toNatClampNeg * b.toNatClampNeg) - g0.2.1 = _; omega
      have h9 := kk Fl.heap locs ls hI1 hL
      rw [c1, c2] at h9
      have had0 : ad G.1 = H.size := had 0 (by omega)
      simp only [List.map_cons, cvA, had0] at h9
      obtain ⟨t, a1, b1⟩ := h9 Fl rfl X'
      refine ⟨t, step t ?_, b1⟩
      rw [hT]
      exact a1
    · cases ho
  · cases ho
end
