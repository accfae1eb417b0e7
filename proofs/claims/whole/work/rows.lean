section
-- ===== PART A: goes FIRST, ahead of the names: the tables' words, and 'selects' of the private methods out of them =====
/-- a private method of a class that the tables say can be made, by its rows of tables_1 -/
def lw_okq (q : MethodName × Nat) : Prop := (q.1.cls ≠ "java/lang/invoke/MethodHandle" ∧ q.1.cls ≠ "java/lang/invoke/VarHandle") ∧ Cond.instantiable q.1.cls q.2 ∈ tables_1 ∧ Cond.privateMethod q.1 ∈ tables_1 ∧ Cond.instanceMethod q.1 ∈ tables_1
theorem lw_p0 : lw_okq (⟨"StyleFamilies$Sheet", "redundantIn", "(LStyleFamilies$Rows;Z)I"⟩, 4) := ⟨⟨by decide +kernel, by decide +kernel⟩, List.mem_of_getElem? (i := 25) (by decide +kernel), List.mem_of_getElem? (i := 282) (by decide +kernel), List.mem_of_getElem? (i := 283) (by decide +kernel)⟩
theorem lw_p1 : lw_okq (⟨"StyleFamilies", "gatheredLooks", "()LStyleFamilies$Looks;"⟩, 8) := ⟨⟨by decide +kernel, by decide +kernel⟩, List.mem_of_getElem? (i := 17) (by decide +kernel), List.mem_of_getElem? (i := 295) (by decide +kernel), List.mem_of_getElem? (i := 296) (by decide +kernel)⟩
theorem lw_p2 : lw_okq (⟨"StyleFamilies$Looks", "enter", "(I)V"⟩, 3) := ⟨⟨by decide +kernel, by decide +kernel⟩, List.mem_of_getElem? (i := 120) (by decide +kernel), List.mem_of_getElem? (i := 316) (by decide +kernel), List.mem_of_getElem? (i := 317) (by decide +kernel)⟩
theorem lw_p3 : lw_okq (⟨"StyleFamilies", "costWithBestParents", "()I"⟩, 8) := ⟨⟨by decide +kernel, by decide +kernel⟩, List.mem_of_getElem? (i := 17) (by decide +kernel), List.mem_of_getElem? (i := 327) (by decide +kernel), List.mem_of_getElem? (i := 328) (by decide +kernel)⟩
theorem lw_p4 : lw_okq (⟨"StyleFamilies", "layForestOfStyles", "()V"⟩, 8) := ⟨⟨by decide +kernel, by decide +kernel⟩, List.mem_of_getElem? (i := 17) (by decide +kernel), List.mem_of_getElem? (i := 331) (by decide +kernel), List.mem_of_getElem? (i := 332) (by decide +kernel)⟩
theorem lw_p5 : lw_okq (⟨"StyleFamilies$Forest", "addUp", "()V"⟩, 6) := ⟨⟨by decide +kernel, by decide +kernel⟩, List.mem_of_getElem? (i := 143) (by decide +kernel), List.mem_of_getElem? (i := 365) (by decide +kernel), List.mem_of_getElem? (i := 366) (by decide +kernel)⟩
theorem lw_p6 : lw_okq (⟨"StyleFamilies", "foundBestStyles", "()LStyleFamilies$BestStyles;"⟩, 8) := ⟨⟨by decide +kernel, by decide +kernel⟩, List.mem_of_getElem? (i := 17) (by decide +kernel), List.mem_of_getElem? (i := 375) (by decide +kernel), List.mem_of_getElem? (i := 376) (by decide +kernel)⟩
theorem lw_p7 : lw_okq (⟨"StyleFamilies$BestStyles", "paragraphCosts", "(LStyleFamilies$Looks;I)I"⟩, 3) := ⟨⟨by decide +kernel, by decide +kernel⟩, List.mem_of_getElem? (i := 186) (by decide +kernel), List.mem_of_getElem? (i := 391) (by decide +kernel), List.mem_of_getElem? (i := 392) (by decide +kernel)⟩
theorem lw_p8 : lw_okq (⟨"StyleFamilies$BestStyles", "compare", "(II)V"⟩, 3) := ⟨⟨by decide +kernel, by decide +kernel⟩, List.mem_of_getElem? (i := 186) (by decide +kernel), List.mem_of_getElem? (i := 405) (by decide +kernel), List.mem_of_getElem? (i := 406) (by decide +kernel)⟩
theorem lw_p9 : lw_okq (⟨"StyleFamilies", "costWithNearestStyle", "(I)I"⟩, 8) := ⟨⟨by decide +kernel, by decide +kernel⟩, List.mem_of_getElem? (i := 17) (by decide +kernel), List.mem_of_getElem? (i := 462) (by decide +kernel), List.mem_of_getElem? (i := 463) (by decide +kernel)⟩
theorem lw_p10 : lw_okq (⟨"StyleFamilies", "bestParentOf", "(I)I"⟩, 8) := ⟨⟨by decide +kernel, by decide +kernel⟩, List.mem_of_getElem? (i := 17) (by decide +kernel), List.mem_of_getElem? (i := 483) (by decide +kernel), List.mem_of_getElem? (i := 484) (by decide +kernel)⟩
theorem lw_p11 : lw_okq (⟨"StyleFamilies$Forest", "firstParent", "(II)I"⟩, 6) := ⟨⟨by decide +kernel, by decide +kernel⟩, List.mem_of_getElem? (i := 143) (by decide +kernel), List.mem_of_getElem? (i := 492) (by decide +kernel), List.mem_of_getElem? (i := 493) (by decide +kernel)⟩
theorem lw_p12 : lw_okq (⟨"StyleFamilies$Forest", "costWithParent", "(II)I"⟩, 6) := ⟨⟨by decide +kernel, by decide +kernel⟩, List.mem_of_getElem? (i := 143) (by decide +kernel), List.mem_of_getElem? (i := 496) (by decide +kernel), List.mem_of_getElem? (i := 497) (by decide +kernel)⟩
theorem lw_p13 : lw_okq (⟨"StyleFamilies", "isStyleOrNone", "(I)Z"⟩, 8) := ⟨⟨by decide +kernel, by decide +kernel⟩, List.mem_of_getElem? (i := 17) (by decide +kernel), List.mem_of_getElem? (i := 510) (by decide +kernel), List.mem_of_getElem? (i := 511) (by decide +kernel)⟩
theorem lw_p14 : lw_okq (⟨"StyleFamilies", "give", "(LStyleFamilies$Rows;III)I"⟩, 8) := ⟨⟨by decide +kernel, by decide +kernel⟩, List.mem_of_getElem? (i := 17) (by decide +kernel), List.mem_of_getElem? (i := 566) (by decide +kernel), List.mem_of_getElem? (i := 567) (by decide +kernel)⟩
theorem lw_p15 : lw_okq (⟨"StyleFamilies", "errorOfParent", "(II)I"⟩, 8) := ⟨⟨by decide +kernel, by decide +kernel⟩, List.mem_of_getElem? (i := 17) (by decide +kernel), List.mem_of_getElem? (i := 600) (by decide +kernel), List.mem_of_getElem? (i := 601) (by decide +kernel)⟩
def lw_privs_1 : List (MethodName × Nat) := [(⟨"StyleFamilies$Sheet", "redundantIn", "(LStyleFamilies$Rows;Z)I"⟩, 4), (⟨"StyleFamilies", "gatheredLooks", "()LStyleFamilies$Looks;"⟩, 8), (⟨"StyleFamilies$Looks", "enter", "(I)V"⟩, 3), (⟨"StyleFamilies", "costWithBestParents", "()I"⟩, 8), (⟨"StyleFamilies", "layForestOfStyles", "()V"⟩, 8), (⟨"StyleFamilies$Forest", "addUp", "()V"⟩, 6), (⟨"StyleFamilies", "foundBestStyles", "()LStyleFamilies$BestStyles;"⟩, 8), (⟨"StyleFamilies$BestStyles", "paragraphCosts", "(LStyleFamilies$Looks;I)I"⟩, 3), (⟨"StyleFamilies$BestStyles", "compare", "(II)V"⟩, 3), (⟨"StyleFamilies", "costWithNearestStyle", "(I)I"⟩, 8), (⟨"StyleFamilies", "bestParentOf", "(I)I"⟩, 8), (⟨"StyleFamilies$Forest", "firstParent", "(II)I"⟩, 6), (⟨"StyleFamilies$Forest", "costWithParent", "(II)I"⟩, 6), (⟨"StyleFamilies", "isStyleOrNone", "(I)Z"⟩, 8), (⟨"StyleFamilies", "give", "(LStyleFamilies$Rows;III)I"⟩, 8), (⟨"StyleFamilies", "errorOfParent", "(II)I"⟩, 8)]
theorem lw_r1 : ∀ q ∈ lw_privs_1, lw_okq q := List.forall_mem_cons.mpr ⟨lw_p0, List.forall_mem_cons.mpr ⟨lw_p1, List.forall_mem_cons.mpr ⟨lw_p2, List.forall_mem_cons.mpr ⟨lw_p3, List.forall_mem_cons.mpr ⟨lw_p4, List.forall_mem_cons.mpr ⟨lw_p5, List.forall_mem_cons.mpr ⟨lw_p6, List.forall_mem_cons.mpr ⟨lw_p7, List.forall_mem_cons.mpr ⟨lw_p8, List.forall_mem_cons.mpr ⟨lw_p9, List.forall_mem_cons.mpr ⟨lw_p10, List.forall_mem_cons.mpr ⟨lw_p11, List.forall_mem_cons.mpr ⟨lw_p12, List.forall_mem_cons.mpr ⟨lw_p13, List.forall_mem_cons.mpr ⟨lw_p14, List.forall_mem_cons.mpr ⟨lw_p15, fun _ h => absurd h List.not_mem_nil⟩⟩⟩⟩⟩⟩⟩⟩⟩⟩⟩⟩⟩⟩⟩⟩
theorem lw_p16 : lw_okq (⟨"StyleFamilies", "giveAtRandom", "(I)V"⟩, 8) := ⟨⟨by decide +kernel, by decide +kernel⟩, List.mem_of_getElem? (i := 17) (by decide +kernel), List.mem_of_getElem? (i := 695) (by decide +kernel), List.mem_of_getElem? (i := 696) (by decide +kernel)⟩
theorem lw_p17 : lw_okq (⟨"StyleFamilies", "draw", "(I)I"⟩, 8) := ⟨⟨by decide +kernel, by decide +kernel⟩, List.mem_of_getElem? (i := 17) (by decide +kernel), List.mem_of_getElem? (i := 699) (by decide +kernel), List.mem_of_getElem? (i := 700) (by decide +kernel)⟩
theorem lw_p18 : lw_okq (⟨"StyleFamiliesModel", "cost", "()I"⟩, 18) := ⟨⟨by decide +kernel, by decide +kernel⟩, List.mem_of_getElem? (i := 753) (by decide +kernel), List.mem_of_getElem? (i := 818) (by decide +kernel), List.mem_of_getElem? (i := 819) (by decide +kernel)⟩
theorem lw_p19 : lw_okq (⟨"StyleFamiliesModel", "styleCost", "(I)I"⟩, 18) := ⟨⟨by decide +kernel, by decide +kernel⟩, List.mem_of_getElem? (i := 753) (by decide +kernel), List.mem_of_getElem? (i := 822) (by decide +kernel), List.mem_of_getElem? (i := 823) (by decide +kernel)⟩
theorem lw_p20 : lw_okq (⟨"StyleFamiliesModel", "bitsAt", "(I)I"⟩, 18) := ⟨⟨by decide +kernel, by decide +kernel⟩, List.mem_of_getElem? (i := 753) (by decide +kernel), List.mem_of_getElem? (i := 829) (by decide +kernel), List.mem_of_getElem? (i := 830) (by decide +kernel)⟩
theorem lw_p21 : lw_okq (⟨"StyleFamiliesModel", "paragraphCost", "(I)I"⟩, 18) := ⟨⟨by decide +kernel, by decide +kernel⟩, List.mem_of_getElem? (i := 753) (by decide +kernel), List.mem_of_getElem? (i := 836) (by decide +kernel), List.mem_of_getElem? (i := 837) (by decide +kernel)⟩
theorem lw_p22 : lw_okq (⟨"StyleFamiliesModel", "needless", "()I"⟩, 18) := ⟨⟨by decide +kernel, by decide +kernel⟩, List.mem_of_getElem? (i := 753) (by decide +kernel), List.mem_of_getElem? (i := 843) (by decide +kernel), List.mem_of_getElem? (i := 844) (by decide +kernel)⟩
theorem lw_p23 : lw_okq (⟨"StyleFamiliesModel", "isNeedlessOfStyle", "(II)Z"⟩, 18) := ⟨⟨by decide +kernel, by decide +kernel⟩, List.mem_of_getElem? (i := 753) (by decide +kernel), List.mem_of_getElem? (i := 847) (by decide +kernel), List.mem_of_getElem? (i := 848) (by decide +kernel)⟩
theorem lw_p24 : lw_okq (⟨"StyleFamiliesModel", "ofStyle", "(II)I"⟩, 18) := ⟨⟨by decide +kernel, by decide +kernel⟩, List.mem_of_getElem? (i := 753) (by decide +kernel), List.mem_of_getElem? (i := 851) (by decide +kernel), List.mem_of_getElem? (i := 852) (by decide +kernel)⟩
theorem lw_p25 : lw_okq (⟨"StyleFamiliesModel", "setter", "(II)I"⟩, 18) := ⟨⟨by decide +kernel, by decide +kernel⟩, List.mem_of_getElem? (i := 753) (by decide +kernel), List.mem_of_getElem? (i := 855) (by decide +kernel), List.mem_of_getElem? (i := 856) (by decide +kernel)⟩
theorem lw_p26 : lw_okq (⟨"StyleFamiliesModel", "isNeedlessOfParagraph", "(II)Z"⟩, 18) := ⟨⟨by decide +kernel, by decide +kernel⟩, List.mem_of_getElem? (i := 753) (by decide +kernel), List.mem_of_getElem? (i := 859) (by decide +kernel), List.mem_of_getElem? (i := 860) (by decide +kernel)⟩
theorem lw_p27 : lw_okq (⟨"StyleFamiliesModel", "looks", "()I"⟩, 18) := ⟨⟨by decide +kernel, by decide +kernel⟩, List.mem_of_getElem? (i := 753) (by decide +kernel), List.mem_of_getElem? (i := 863) (by decide +kernel), List.mem_of_getElem? (i := 864) (by decide +kernel)⟩
theorem lw_p28 : lw_okq (⟨"StyleFamiliesModel", "layLooks", "()V"⟩, 18) := ⟨⟨by decide +kernel, by decide +kernel⟩, List.mem_of_getElem? (i := 753) (by decide +kernel), List.mem_of_getElem? (i := 867) (by decide +kernel), List.mem_of_getElem? (i := 868) (by decide +kernel)⟩
theorem lw_p29 : lw_okq (⟨"StyleFamiliesModel", "layParagraphLooks", "()V"⟩, 18) := ⟨⟨by decide +kernel, by decide +kernel⟩, List.mem_of_getElem? (i := 753) (by decide +kernel), List.mem_of_getElem? (i := 871) (by decide +kernel), List.mem_of_getElem? (i := 872) (by decide +kernel)⟩
theorem lw_p30 : lw_okq (⟨"StyleFamiliesModel", "ofParagraph", "(II)I"⟩, 18) := ⟨⟨by decide +kernel, by decide +kernel⟩, List.mem_of_getElem? (i := 753) (by decide +kernel), List.mem_of_getElem? (i := 875) (by decide +kernel), List.mem_of_getElem? (i := 876) (by decide +kernel)⟩
theorem lw_p31 : lw_okq (⟨"StyleFamiliesModel", "knitCost", "()I"⟩, 18) := ⟨⟨by decide +kernel, by decide +kernel⟩, List.mem_of_getElem? (i := 753) (by decide +kernel), List.mem_of_getElem? (i := 882) (by decide +kernel), List.mem_of_getElem? (i := 883) (by decide +kernel)⟩
def lw_privs_2 : List (MethodName × Nat) := [(⟨"StyleFamilies", "giveAtRandom", "(I)V"⟩, 8), (⟨"StyleFamilies", "draw", "(I)I"⟩, 8), (⟨"StyleFamiliesModel", "cost", "()I"⟩, 18), (⟨"StyleFamiliesModel", "styleCost", "(I)I"⟩, 18), (⟨"StyleFamiliesModel", "bitsAt", "(I)I"⟩, 18), (⟨"StyleFamiliesModel", "paragraphCost", "(I)I"⟩, 18), (⟨"StyleFamiliesModel", "needless", "()I"⟩, 18), (⟨"StyleFamiliesModel", "isNeedlessOfStyle", "(II)Z"⟩, 18), (⟨"StyleFamiliesModel", "ofStyle", "(II)I"⟩, 18), (⟨"StyleFamiliesModel", "setter", "(II)I"⟩, 18), (⟨"StyleFamiliesModel", "isNeedlessOfParagraph", "(II)Z"⟩, 18), (⟨"StyleFamiliesModel", "looks", "()I"⟩, 18), (⟨"StyleFamiliesModel", "layLooks", "()V"⟩, 18), (⟨"StyleFamiliesModel", "layParagraphLooks", "()V"⟩, 18), (⟨"StyleFamiliesModel", "ofParagraph", "(II)I"⟩, 18), (⟨"StyleFamiliesModel", "knitCost", "()I"⟩, 18)]
theorem lw_r2 : ∀ q ∈ lw_privs_2, lw_okq q := List.forall_mem_cons.mpr ⟨lw_p16, List.forall_mem_cons.mpr ⟨lw_p17, List.forall_mem_cons.mpr ⟨lw_p18, List.forall_mem_cons.mpr ⟨lw_p19, List.forall_mem_cons.mpr ⟨lw_p20, List.forall_mem_cons.mpr ⟨lw_p21, List.forall_mem_cons.mpr ⟨lw_p22, List.forall_mem_cons.mpr ⟨lw_p23, List.forall_mem_cons.mpr ⟨lw_p24, List.forall_mem_cons.mpr ⟨lw_p25, List.forall_mem_cons.mpr ⟨lw_p26, List.forall_mem_cons.mpr ⟨lw_p27, List.forall_mem_cons.mpr ⟨lw_p28, List.forall_mem_cons.mpr ⟨lw_p29, List.forall_mem_cons.mpr ⟨lw_p30, List.forall_mem_cons.mpr ⟨lw_p31, fun _ h => absurd h List.not_mem_nil⟩⟩⟩⟩⟩⟩⟩⟩⟩⟩⟩⟩⟩⟩⟩⟩
theorem lw_p32 : lw_okq (⟨"StyleFamiliesModel", "layStyleLooks", "()V"⟩, 18) := ⟨⟨by decide +kernel, by decide +kernel⟩, List.mem_of_getElem? (i := 753) (by decide +kernel), List.mem_of_getElem? (i := 886) (by decide +kernel), List.mem_of_getElem? (i := 887) (by decide +kernel)⟩
theorem lw_p33 : lw_okq (⟨"StyleFamiliesModel", "layLinks", "([II)V"⟩, 18) := ⟨⟨by decide +kernel, by decide +kernel⟩, List.mem_of_getElem? (i := 753) (by decide +kernel), List.mem_of_getElem? (i := 890) (by decide +kernel), List.mem_of_getElem? (i := 891) (by decide +kernel)⟩
theorem lw_p34 : lw_okq (⟨"StyleFamiliesModel", "bitsApart", "([II[II)I"⟩, 18) := ⟨⟨by decide +kernel, by decide +kernel⟩, List.mem_of_getElem? (i := 753) (by decide +kernel), List.mem_of_getElem? (i := 894) (by decide +kernel), List.mem_of_getElem? (i := 895) (by decide +kernel)⟩
theorem lw_p35 : lw_okq (⟨"StyleFamiliesModel", "grown", "(I)I"⟩, 18) := ⟨⟨by decide +kernel, by decide +kernel⟩, List.mem_of_getElem? (i := 753) (by decide +kernel), List.mem_of_getElem? (i := 898) (by decide +kernel), List.mem_of_getElem? (i := 899) (by decide +kernel)⟩
theorem lw_p36 : lw_okq (⟨"StyleFamiliesModel", "putBehind", "(III)I"⟩, 18) := ⟨⟨by decide +kernel, by decide +kernel⟩, List.mem_of_getElem? (i := 753) (by decide +kernel), List.mem_of_getElem? (i := 903) (by decide +kernel), List.mem_of_getElem? (i := 904) (by decide +kernel)⟩
theorem lw_p37 : lw_okq (⟨"StyleFamiliesModel", "byFamily", "(Z)I"⟩, 18) := ⟨⟨by decide +kernel, by decide +kernel⟩, List.mem_of_getElem? (i := 753) (by decide +kernel), List.mem_of_getElem? (i := 907) (by decide +kernel), List.mem_of_getElem? (i := 908) (by decide +kernel)⟩
theorem lw_p38 : lw_okq (⟨"StyleFamiliesModel", "layFamily", "()V"⟩, 18) := ⟨⟨by decide +kernel, by decide +kernel⟩, List.mem_of_getElem? (i := 753) (by decide +kernel), List.mem_of_getElem? (i := 911) (by decide +kernel), List.mem_of_getElem? (i := 912) (by decide +kernel)⟩
theorem lw_p39 : lw_okq (⟨"StyleFamiliesModel", "numberOf", "(I)I"⟩, 18) := ⟨⟨by decide +kernel, by decide +kernel⟩, List.mem_of_getElem? (i := 753) (by decide +kernel), List.mem_of_getElem? (i := 918) (by decide +kernel), List.mem_of_getElem? (i := 919) (by decide +kernel)⟩
theorem lw_p40 : lw_okq (⟨"StyleFamiliesModel", "cheapest", "(II)I"⟩, 18) := ⟨⟨by decide +kernel, by decide +kernel⟩, List.mem_of_getElem? (i := 753) (by decide +kernel), List.mem_of_getElem? (i := 922) (by decide +kernel), List.mem_of_getElem? (i := 923) (by decide +kernel)⟩
theorem lw_p41 : lw_okq (⟨"StyleFamiliesModel", "idle", "()I"⟩, 18) := ⟨⟨by decide +kernel, by decide +kernel⟩, List.mem_of_getElem? (i := 753) (by decide +kernel), List.mem_of_getElem? (i := 926) (by decide +kernel), List.mem_of_getElem? (i := 927) (by decide +kernel)⟩
theorem lw_p42 : lw_okq (⟨"StyleFamiliesModel", "wrongEntry", "()I"⟩, 18) := ⟨⟨by decide +kernel, by decide +kernel⟩, List.mem_of_getElem? (i := 753) (by decide +kernel), List.mem_of_getElem? (i := 930) (by decide +kernel), List.mem_of_getElem? (i := 931) (by decide +kernel)⟩
theorem lw_p43 : lw_okq (⟨"StyleFamiliesModel", "isParagraph", "(I)Z"⟩, 18) := ⟨⟨by decide +kernel, by decide +kernel⟩, List.mem_of_getElem? (i := 753) (by decide +kernel), List.mem_of_getElem? (i := 934) (by decide +kernel), List.mem_of_getElem? (i := 935) (by decide +kernel)⟩
theorem lw_p44 : lw_okq (⟨"StyleFamiliesModel", "layAll", "()V"⟩, 18) := ⟨⟨by decide +kernel, by decide +kernel⟩, List.mem_of_getElem? (i := 753) (by decide +kernel), List.mem_of_getElem? (i := 958) (by decide +kernel), List.mem_of_getElem? (i := 959) (by decide +kernel)⟩
theorem lw_p45 : lw_okq (⟨"StyleFamiliesModel", "nearest", "(I)I"⟩, 18) := ⟨⟨by decide +kernel, by decide +kernel⟩, List.mem_of_getElem? (i := 753) (by decide +kernel), List.mem_of_getElem? (i := 962) (by decide +kernel), List.mem_of_getElem? (i := 963) (by decide +kernel)⟩
theorem lw_p46 : lw_okq (⟨"StyleFamiliesModel", "costBy", "(II)I"⟩, 18) := ⟨⟨by decide +kernel, by decide +kernel⟩, List.mem_of_getElem? (i := 753) (by decide +kernel), List.mem_of_getElem? (i := 966) (by decide +kernel), List.mem_of_getElem? (i := 967) (by decide +kernel)⟩
theorem lw_p47 : lw_okq (⟨"StyleFamiliesModel", "lookNumber", "(I)I"⟩, 18) := ⟨⟨by decide +kernel, by decide +kernel⟩, List.mem_of_getElem? (i := 753) (by decide +kernel), List.mem_of_getElem? (i := 970) (by decide +kernel), List.mem_of_getElem? (i := 971) (by decide +kernel)⟩
def lw_privs_3 : List (MethodName × Nat) := [(⟨"StyleFamiliesModel", "layStyleLooks", "()V"⟩, 18), (⟨"StyleFamiliesModel", "layLinks", "([II)V"⟩, 18), (⟨"StyleFamiliesModel", "bitsApart", "([II[II)I"⟩, 18), (⟨"StyleFamiliesModel", "grown", "(I)I"⟩, 18), (⟨"StyleFamiliesModel", "putBehind", "(III)I"⟩, 18), (⟨"StyleFamiliesModel", "byFamily", "(Z)I"⟩, 18), (⟨"StyleFamiliesModel", "layFamily", "()V"⟩, 18), (⟨"StyleFamiliesModel", "numberOf", "(I)I"⟩, 18), (⟨"StyleFamiliesModel", "cheapest", "(II)I"⟩, 18), (⟨"StyleFamiliesModel", "idle", "()I"⟩, 18), (⟨"StyleFamiliesModel", "wrongEntry", "()I"⟩, 18), (⟨"StyleFamiliesModel", "isParagraph", "(I)Z"⟩, 18), (⟨"StyleFamiliesModel", "layAll", "()V"⟩, 18), (⟨"StyleFamiliesModel", "nearest", "(I)I"⟩, 18), (⟨"StyleFamiliesModel", "costBy", "(II)I"⟩, 18), (⟨"StyleFamiliesModel", "lookNumber", "(I)I"⟩, 18)]
theorem lw_r3 : ∀ q ∈ lw_privs_3, lw_okq q := List.forall_mem_cons.mpr ⟨lw_p32, List.forall_mem_cons.mpr ⟨lw_p33, List.forall_mem_cons.mpr ⟨lw_p34, List.forall_mem_cons.mpr ⟨lw_p35, List.forall_mem_cons.mpr ⟨lw_p36, List.forall_mem_cons.mpr ⟨lw_p37, List.forall_mem_cons.mpr ⟨lw_p38, List.forall_mem_cons.mpr ⟨lw_p39, List.forall_mem_cons.mpr ⟨lw_p40, List.forall_mem_cons.mpr ⟨lw_p41, List.forall_mem_cons.mpr ⟨lw_p42, List.forall_mem_cons.mpr ⟨lw_p43, List.forall_mem_cons.mpr ⟨lw_p44, List.forall_mem_cons.mpr ⟨lw_p45, List.forall_mem_cons.mpr ⟨lw_p46, List.forall_mem_cons.mpr ⟨lw_p47, fun _ h => absurd h List.not_mem_nil⟩⟩⟩⟩⟩⟩⟩⟩⟩⟩⟩⟩⟩⟩⟩⟩
theorem lw_p48 : lw_okq (⟨"StyleFamiliesModel", "toldAt", "(I)I"⟩, 18) := ⟨⟨by decide +kernel, by decide +kernel⟩, List.mem_of_getElem? (i := 753) (by decide +kernel), List.mem_of_getElem? (i := 974) (by decide +kernel), List.mem_of_getElem? (i := 975) (by decide +kernel)⟩
theorem lw_p49 : lw_okq (⟨"StyleFamiliesModel", "isStyle", "(I)Z"⟩, 18) := ⟨⟨by decide +kernel, by decide +kernel⟩, List.mem_of_getElem? (i := 753) (by decide +kernel), List.mem_of_getElem? (i := 982) (by decide +kernel), List.mem_of_getElem? (i := 983) (by decide +kernel)⟩
theorem lw_p50 : lw_okq (⟨"StyleFamiliesModel", "above", "(I)I"⟩, 18) := ⟨⟨by decide +kernel, by decide +kernel⟩, List.mem_of_getElem? (i := 753) (by decide +kernel), List.mem_of_getElem? (i := 986) (by decide +kernel), List.mem_of_getElem? (i := 987) (by decide +kernel)⟩
theorem lw_p51 : lw_okq (⟨"StyleFamiliesModel", "havers", "(I)I"⟩, 18) := ⟨⟨by decide +kernel, by decide +kernel⟩, List.mem_of_getElem? (i := 753) (by decide +kernel), List.mem_of_getElem? (i := 990) (by decide +kernel), List.mem_of_getElem? (i := 991) (by decide +kernel)⟩
theorem lw_p52 : lw_okq (⟨"StyleFamiliesModel", "children", "(I)I"⟩, 18) := ⟨⟨by decide +kernel, by decide +kernel⟩, List.mem_of_getElem? (i := 753) (by decide +kernel), List.mem_of_getElem? (i := 994) (by decide +kernel), List.mem_of_getElem? (i := 995) (by decide +kernel)⟩
theorem lw_p53 : lw_okq (⟨"StyleFamiliesModel", "knitParent", "(I)I"⟩, 18) := ⟨⟨by decide +kernel, by decide +kernel⟩, List.mem_of_getElem? (i := 753) (by decide +kernel), List.mem_of_getElem? (i := 998) (by decide +kernel), List.mem_of_getElem? (i := 999) (by decide +kernel)⟩
theorem lw_p54 : lw_okq (⟨"StyleFamiliesModel", "layKnit", "([II)V"⟩, 18) := ⟨⟨by decide +kernel, by decide +kernel⟩, List.mem_of_getElem? (i := 753) (by decide +kernel), List.mem_of_getElem? (i := 1002) (by decide +kernel), List.mem_of_getElem? (i := 1003) (by decide +kernel)⟩
theorem lw_p55 : lw_okq (⟨"StyleFamiliesModel", "isStyleOrNone", "(I)Z"⟩, 18) := ⟨⟨by decide +kernel, by decide +kernel⟩, List.mem_of_getElem? (i := 753) (by decide +kernel), List.mem_of_getElem? (i := 1010) (by decide +kernel), List.mem_of_getElem? (i := 1011) (by decide +kernel)⟩
theorem lw_p56 : lw_okq (⟨"StyleFamiliesModel", "remember", "()V"⟩, 18) := ⟨⟨by decide +kernel, by decide +kernel⟩, List.mem_of_getElem? (i := 753) (by decide +kernel), List.mem_of_getElem? (i := 1027) (by decide +kernel), List.mem_of_getElem? (i := 1028) (by decide +kernel)⟩
theorem lw_p57 : lw_okq (⟨"StyleFamiliesModel", "copyRow", "(II)V"⟩, 18) := ⟨⟨by decide +kernel, by decide +kernel⟩, List.mem_of_getElem? (i := 753) (by decide +kernel), List.mem_of_getElem? (i := 1031) (by decide +kernel), List.mem_of_getElem? (i := 1032) (by decide +kernel)⟩
theorem lw_p58 : lw_okq (⟨"StyleFamiliesModel", "clear", "(I)V"⟩, 18) := ⟨⟨by decide +kernel, by decide +kernel⟩, List.mem_of_getElem? (i := 753) (by decide +kernel), List.mem_of_getElem? (i := 1035) (by decide +kernel), List.mem_of_getElem? (i := 1036) (by decide +kernel)⟩
theorem lw_p59 : lw_okq (⟨"StyleFamiliesModel", "lay", "(II)I"⟩, 18) := ⟨⟨by decide +kernel, by decide +kernel⟩, List.mem_of_getElem? (i := 753) (by decide +kernel), List.mem_of_getElem? (i := 1050) (by decide +kernel), List.mem_of_getElem? (i := 1051) (by decide +kernel)⟩
theorem lw_p60 : lw_okq (⟨"StyleFamiliesModel", "isRing", "(II)Z"⟩, 18) := ⟨⟨by decide +kernel, by decide +kernel⟩, List.mem_of_getElem? (i := 753) (by decide +kernel), List.mem_of_getElem? (i := 1074) (by decide +kernel), List.mem_of_getElem? (i := 1075) (by decide +kernel)⟩
theorem lw_p61 : lw_okq (⟨"StyleFamiliesModel", "tellAnew", "(II[II)V"⟩, 18) := ⟨⟨by decide +kernel, by decide +kernel⟩, List.mem_of_getElem? (i := 753) (by decide +kernel), List.mem_of_getElem? (i := 1083) (by decide +kernel), List.mem_of_getElem? (i := 1084) (by decide +kernel)⟩
theorem lw_p62 : lw_okq (⟨"StyleFamiliesModel", "lessAbove", "(II)V"⟩, 18) := ⟨⟨by decide +kernel, by decide +kernel⟩, List.mem_of_getElem? (i := 753) (by decide +kernel), List.mem_of_getElem? (i := 1095) (by decide +kernel), List.mem_of_getElem? (i := 1096) (by decide +kernel)⟩
theorem lw_p63 : lw_okq (⟨"StyleFamiliesModel", "draw", "(I)I"⟩, 18) := ⟨⟨by decide +kernel, by decide +kernel⟩, List.mem_of_getElem? (i := 753) (by decide +kernel), List.mem_of_getElem? (i := 1124) (by decide +kernel), List.mem_of_getElem? (i := 1125) (by decide +kernel)⟩
def lw_privs_4 : List (MethodName × Nat) := [(⟨"StyleFamiliesModel", "toldAt", "(I)I"⟩, 18), (⟨"StyleFamiliesModel", "isStyle", "(I)Z"⟩, 18), (⟨"StyleFamiliesModel", "above", "(I)I"⟩, 18), (⟨"StyleFamiliesModel", "havers", "(I)I"⟩, 18), (⟨"StyleFamiliesModel", "children", "(I)I"⟩, 18), (⟨"StyleFamiliesModel", "knitParent", "(I)I"⟩, 18), (⟨"StyleFamiliesModel", "layKnit", "([II)V"⟩, 18), (⟨"StyleFamiliesModel", "isStyleOrNone", "(I)Z"⟩, 18), (⟨"StyleFamiliesModel", "remember", "()V"⟩, 18), (⟨"StyleFamiliesModel", "copyRow", "(II)V"⟩, 18), (⟨"StyleFamiliesModel", "clear", "(I)V"⟩, 18), (⟨"StyleFamiliesModel", "lay", "(II)I"⟩, 18), (⟨"StyleFamiliesModel", "isRing", "(II)Z"⟩, 18), (⟨"StyleFamiliesModel", "tellAnew", "(II[II)V"⟩, 18), (⟨"StyleFamiliesModel", "lessAbove", "(II)V"⟩, 18), (⟨"StyleFamiliesModel", "draw", "(I)I"⟩, 18)]
theorem lw_r4 : ∀ q ∈ lw_privs_4, lw_okq q := List.forall_mem_cons.mpr ⟨lw_p48, List.forall_mem_cons.mpr ⟨lw_p49, List.forall_mem_cons.mpr ⟨lw_p50, List.forall_mem_cons.mpr ⟨lw_p51, List.forall_mem_cons.mpr ⟨lw_p52, List.forall_mem_cons.mpr ⟨lw_p53, List.forall_mem_cons.mpr ⟨lw_p54, List.forall_mem_cons.mpr ⟨lw_p55, List.forall_mem_cons.mpr ⟨lw_p56, List.forall_mem_cons.mpr ⟨lw_p57, List.forall_mem_cons.mpr ⟨lw_p58, List.forall_mem_cons.mpr ⟨lw_p59, List.forall_mem_cons.mpr ⟨lw_p60, List.forall_mem_cons.mpr ⟨lw_p61, List.forall_mem_cons.mpr ⟨lw_p62, List.forall_mem_cons.mpr ⟨lw_p63, fun _ h => absurd h List.not_mem_nil⟩⟩⟩⟩⟩⟩⟩⟩⟩⟩⟩⟩⟩⟩⟩⟩
theorem lw_p64 : lw_okq (⟨"StyleFamiliesModel", "drawValue", "(I)I"⟩, 18) := ⟨⟨by decide +kernel, by decide +kernel⟩, List.mem_of_getElem? (i := 753) (by decide +kernel), List.mem_of_getElem? (i := 1132) (by decide +kernel), List.mem_of_getElem? (i := 1133) (by decide +kernel)⟩
def lw_privs_5 : List (MethodName × Nat) := [(⟨"StyleFamiliesModel", "drawValue", "(I)I"⟩, 18)]
theorem lw_r5 : ∀ q ∈ lw_privs_5, lw_okq q := List.forall_mem_cons.mpr ⟨lw_p64, fun _ h => absurd h List.not_mem_nil⟩
def lw_privs : List (MethodName × Nat) := lw_privs_1 ++ (lw_privs_2 ++ (lw_privs_3 ++ (lw_privs_4 ++ (lw_privs_5))))
def lw_tbl : List Cond := k2_sels lw_privs ++ tables_1
theorem lw_privs_ok : ∀ q ∈ lw_privs, lw_okq q := by
  show ∀ q ∈ lw_privs_1 ++ (lw_privs_2 ++ (lw_privs_3 ++ (lw_privs_4 ++ (lw_privs_5)))), lw_okq q
  exact List.forall_mem_append.mpr ⟨lw_r1, List.forall_mem_append.mpr ⟨lw_r2, List.forall_mem_append.mpr ⟨lw_r3, List.forall_mem_append.mpr ⟨lw_r4, lw_r5⟩⟩⟩⟩
def RX0 : String := "StyleFamilies$BestStyles"
def TX0 : u_T := fun k => match k with
  | 0 => ("StyleFamilies$BestStyles", "set", "I", false)
  | 1 => ("StyleFamilies$BestStyles", "cost", "I", false)
  | _ => ("StyleFamilies$BestStyles", "reach", "LStyleFamilies$Reach;", true)
def tyX0 : Nat → FieldType := fun k => match k with
  | 0 => .int
  | 1 => .int
  | _ => .object "StyleFamilies$Reach"
abbrev wsX00 : List Cond := u_ws RX0 TX0 3
theorem nmX0 : ∀ a, a < 3 → ∀ b, b < 3 → a ≠ b → (TX0 a).2.1 ≠ (TX0 b).2.1 := by decide +kernel
theorem tyX0_ok : ∀ k, k < 3 → parseFieldDescriptor (TX0 k).2.2.1 = some (tyX0 k) := by decide +kernel
abbrev cX0_init : ByteArray := prog_2_method_1_code
def yX0_init : MethodName := ⟨RX0, "<init>", "()V"⟩
abbrev cX0_find : ByteArray := prog_2_method_2_code
def yX0_find : MethodName := ⟨RX0, "find", "(LStyleFamilies$Looks;LStyleFamilies$Forest;II)V"⟩
abbrev cX0_compare : ByteArray := prog_2_method_3_code
def yX0_compare : MethodName := ⟨RX0, "compare", "(II)V"⟩
abbrev cX0_paragraphCosts : ByteArray := prog_2_method_4_code
def yX0_paragraphCosts : MethodName := ⟨RX0, "paragraphCosts", "(LStyleFamilies$Looks;I)I"⟩
def RX1 : String := "StyleFamilies$Book"
def TX1 : u_T := fun k => match k with
  | 0 => ("StyleFamilies$Book", "count", "I", false)
  | 1 => ("StyleFamilies$Book", "paragraphs", "[I", true)
  | 2 => ("StyleFamilies$Book", "properties", "[I", true)
  | _ => ("StyleFamilies$Book", "values", "[I", true)
def tyX1 : Nat → FieldType := fun k => match k with
  | 0 => .int
  | 1 => .array .int
  | 2 => .array .int
  | _ => .array .int
abbrev wsX10 : List Cond := u_ws RX1 TX1 4
theorem nmX1 : ∀ a, a < 4 → ∀ b, b < 4 → a ≠ b → (TX1 a).2.1 ≠ (TX1 b).2.1 := by decide +kernel
theorem tyX1_ok : ∀ k, k < 4 → parseFieldDescriptor (TX1 k).2.2.1 = some (tyX1 k) := by decide +kernel
abbrev cX1_init : ByteArray := prog_3_method_1_code
def yX1_init : MethodName := ⟨RX1, "<init>", "()V"⟩
abbrev cX1_hasRoom : ByteArray := prog_3_method_2_code
def yX1_hasRoom : MethodName := ⟨RX1, "hasRoom", "()Z"⟩
abbrev cX1_append : ByteArray := prog_3_method_3_code
def yX1_append : MethodName := ⟨RX1, "append", "(III)V"⟩
abbrev cX1_clear : ByteArray := prog_3_method_4_code
def yX1_clear : MethodName := ⟨RX1, "clear", "()I"⟩
abbrev cX1_firstWrong : ByteArray := prog_3_method_5_code
def yX1_firstWrong : MethodName := ⟨RX1, "firstWrong", "(LStyleFamilies$Sheet;)I"⟩
def RX2 : String := "StyleFamilies$Forest"
def TX2 : u_T := fun k => match k with
  | 0 => ("StyleFamilies$Forest", "count", "I", false)
  | 1 => ("StyleFamilies$Forest", "look", "[I", true)
  | 2 => ("StyleFamilies$Forest", "parents", "[I", true)
  | 3 => ("StyleFamilies$Forest", "groundLook", "I", false)
  | 4 => ("StyleFamilies$Forest", "reach", "LStyleFamilies$Reach;", true)
  | _ => ("StyleFamilies$Forest", "sum", "[I", true)
def tyX2 : Nat → FieldType := fun k => match k with
  | 0 => .int
  | 1 => .array .int
  | 2 => .array .int
  | 3 => .int
  | 4 => .object "StyleFamilies$Reach"
  | _ => .array .int
abbrev wsX20 : List Cond := u_ws RX2 TX2 6
theorem nmX2 : ∀ a, a < 6 → ∀ b, b < 6 → a ≠ b → (TX2 a).2.1 ≠ (TX2 b).2.1 := by decide +kernel
theorem tyX2_ok : ∀ k, k < 6 → parseFieldDescriptor (TX2 k).2.2.1 = some (tyX2 k) := by decide +kernel
abbrev cX2_init : ByteArray := prog_4_method_1_code
def yX2_init : MethodName := ⟨RX2, "<init>", "()V"⟩
abbrev cX2_begin : ByteArray := prog_4_method_2_code
def yX2_begin : MethodName := ⟨RX2, "begin", "(I)V"⟩
abbrev cX2_plant : ByteArray := prog_4_method_3_code
def yX2_plant : MethodName := ⟨RX2, "plant", "(I)V"⟩
abbrev cX2_layChosen : ByteArray := prog_4_method_4_code
def yX2_layChosen : MethodName := ⟨RX2, "layChosen", "(LStyleFamilies$Looks;II)V"⟩
abbrev cX2_grow : ByteArray := prog_4_method_5_code
def yX2_grow : MethodName := ⟨RX2, "grow", "()V"⟩
abbrev cX2_addUp : ByteArray := prog_4_method_6_code
def yX2_addUp : MethodName := ⟨RX2, "addUp", "()V"⟩
abbrev cX2_costOf : ByteArray := prog_4_method_7_code
def yX2_costOf : MethodName := ⟨RX2, "costOf", "(I)I"⟩
abbrev cX2_costOfAll : ByteArray := prog_4_method_8_code
def yX2_costOfAll : MethodName := ⟨RX2, "costOfAll", "()I"⟩
abbrev cX2_parentLook : ByteArray := prog_4_method_9_code
def yX2_parentLook : MethodName := ⟨RX2, "parentLook", "(I)I"⟩
abbrev cX2_chooseParents : ByteArray := prog_4_method_10_code
def yX2_chooseParents : MethodName := ⟨RX2, "chooseParents", "()V"⟩
abbrev cX2_firstParent : ByteArray := prog_4_method_11_code
def yX2_firstParent : MethodName := ⟨RX2, "firstParent", "(II)I"⟩
abbrev cX2_costWithParent : ByteArray := prog_4_method_12_code
def yX2_costWithParent : MethodName := ⟨RX2, "costWithParent", "(II)I"⟩
def RX3 : String := "StyleFamilies$History"
def TX3 : u_T := fun k => match k with
  | 0 => ("StyleFamilies$History", "count", "I", false)
  | 1 => ("StyleFamilies$History", "next", "I", false)
  | _ => ("StyleFamilies$History", "before", "[LStyleFamilies$Sheet;", true)
def tyX3 : Nat → FieldType := fun k => match k with
  | 0 => .int
  | 1 => .int
  | _ => .array (.object "StyleFamilies$Sheet")
abbrev wsX30 : List Cond := u_ws RX3 TX3 3
theorem nmX3 : ∀ a, a < 3 → ∀ b, b < 3 → a ≠ b → (TX3 a).2.1 ≠ (TX3 b).2.1 := by decide +kernel
theorem tyX3_ok : ∀ k, k < 3 → parseFieldDescriptor (TX3 k).2.2.1 = some (tyX3 k) := by decide +kernel
abbrev cX3_init : ByteArray := prog_5_method_1_code
def yX3_init : MethodName := ⟨RX3, "<init>", "()V"⟩
abbrev cX3_remember : ByteArray := prog_5_method_2_code
def yX3_remember : MethodName := ⟨RX3, "remember", "(LStyleFamilies$Sheet;)V"⟩
abbrev cX3_restore : ByteArray := prog_5_method_3_code
def yX3_restore : MethodName := ⟨RX3, "restore", "(LStyleFamilies$Sheet;I)V"⟩
abbrev cX3_forget : ByteArray := prog_5_method_4_code
def yX3_forget : MethodName := ⟨RX3, "forget", "()V"⟩
def RX4 : String := "StyleFamilies$Image"
def TX4 : u_T := fun k => match k with
  | 0 => ("StyleFamilies$Image", "filled", "Z", false)
  | 1 => ("StyleFamilies$Image", "random", "I", false)
  | _ => ("StyleFamilies$Image", "sheet", "LStyleFamilies$Sheet;", true)
def tyX4 : Nat → FieldType := fun k => match k with
  | 0 => .boolean
  | 1 => .int
  | _ => .object "StyleFamilies$Sheet"
abbrev wsX40 : List Cond := u_ws RX4 TX4 3
theorem nmX4 : ∀ a, a < 3 → ∀ b, b < 3 → a ≠ b → (TX4 a).2.1 ≠ (TX4 b).2.1 := by decide +kernel
theorem tyX4_ok : ∀ k, k < 3 → parseFieldDescriptor (TX4 k).2.2.1 = some (tyX4 k) := by decide +kernel
abbrev cX4_init : ByteArray := prog_6_method_1_code
def yX4_init : MethodName := ⟨RX4, "<init>", "()V"⟩
def RX5 : String := "StyleFamilies$Looks"
def TX5 : u_T := fun k => match k with
  | 0 => ("StyleFamilies$Looks", "count", "I", false)
  | 1 => ("StyleFamilies$Looks", "look", "[I", true)
  | _ => ("StyleFamilies$Looks", "wearers", "[I", true)
def tyX5 : Nat → FieldType := fun k => match k with
  | 0 => .int
  | 1 => .array .int
  | _ => .array .int
abbrev wsX50 : List Cond := u_ws RX5 TX5 3
theorem nmX5 : ∀ a, a < 3 → ∀ b, b < 3 → a ≠ b → (TX5 a).2.1 ≠ (TX5 b).2.1 := by decide +kernel
theorem tyX5_ok : ∀ k, k < 3 → parseFieldDescriptor (TX5 k).2.2.1 = some (tyX5 k) := by decide +kernel
abbrev cX5_init : ByteArray := prog_7_method_1_code
def yX5_init : MethodName := ⟨RX5, "<init>", "()V"⟩
abbrev cX5_holds : ByteArray := prog_7_method_2_code
def yX5_holds : MethodName := ⟨RX5, "holds", "(I)Z"⟩
abbrev cX5_gather : ByteArray := prog_7_method_3_code
def yX5_gather : MethodName := ⟨RX5, "gather", "(LStyleFamilies$Sheet;)V"⟩
abbrev cX5_numberOf : ByteArray := prog_7_method_4_code
def yX5_numberOf : MethodName := ⟨RX5, "numberOf", "(I)I"⟩
abbrev cX5_enter : ByteArray := prog_7_method_5_code
def yX5_enter : MethodName := ⟨RX5, "enter", "(I)V"⟩
def RX6 : String := "StyleFamilies$Reach"
def TX6 : u_T := fun k => match k with
  | _ => ("StyleFamilies$Reach", "least", "[[I", true)
def tyX6 : Nat → FieldType := fun k => match k with
  | _ => .array (.array .int)
abbrev wsX60 : List Cond := u_ws RX6 TX6 1
theorem nmX6 : ∀ a, a < 1 → ∀ b, b < 1 → a ≠ b → (TX6 a).2.1 ≠ (TX6 b).2.1 := by decide +kernel
theorem tyX6_ok : ∀ k, k < 1 → parseFieldDescriptor (TX6 k).2.2.1 = some (tyX6 k) := by decide +kernel
abbrev cX6_init : ByteArray := prog_8_method_1_code
def yX6_init : MethodName := ⟨RX6, "<init>", "()V"⟩
abbrev cX6_fill : ByteArray := prog_8_method_2_code
def yX6_fill : MethodName := ⟨RX6, "fill", "(I[IIII)V"⟩
abbrev cX6_pin : ByteArray := prog_8_method_3_code
def yX6_pin : MethodName := ⟨RX6, "pin", "(IIII)V"⟩
def RX7 : String := "StyleFamilies$Rows"
def TX7 : u_T := fun k => match k with
  | 0 => ("StyleFamilies$Rows", "most", "I", true)
  | 1 => ("StyleFamilies$Rows", "count", "I", false)
  | 2 => ("StyleFamilies$Rows", "base", "[I", true)
  | _ => ("StyleFamilies$Rows", "own", "[I", true)
def tyX7 : Nat → FieldType := fun k => match k with
  | 0 => .int
  | 1 => .int
  | 2 => .array .int
  | _ => .array .int
abbrev wsX70 : List Cond := u_ws RX7 TX7 4
theorem nmX7 : ∀ a, a < 4 → ∀ b, b < 4 → a ≠ b → (TX7 a).2.1 ≠ (TX7 b).2.1 := by decide +kernel
theorem tyX7_ok : ∀ k, k < 4 → parseFieldDescriptor (TX7 k).2.2.1 = some (tyX7 k) := by decide +kernel
abbrev cX7_init : ByteArray := prog_9_method_1_code
def yX7_init : MethodName := ⟨RX7, "<init>", "(I)V"⟩
abbrev cX7_holds : ByteArray := prog_9_method_2_code
def yX7_holds : MethodName := ⟨RX7, "holds", "(I)Z"⟩
abbrev cX7_hasRoom : ByteArray := prog_9_method_3_code
def yX7_hasRoom : MethodName := ⟨RX7, "hasRoom", "()Z"⟩
abbrev cX7_ownValue : ByteArray := prog_9_method_4_code
def yX7_ownValue : MethodName := ⟨RX7, "ownValue", "(II)I"⟩
abbrev cX7_changeOwn : ByteArray := prog_9_method_5_code
def yX7_changeOwn : MethodName := ⟨RX7, "changeOwn", "(III)I"⟩
abbrev cX7_changeBase : ByteArray := prog_9_method_6_code
def yX7_changeBase : MethodName := ⟨RX7, "changeBase", "(II)I"⟩
abbrev cX7_ownBits : ByteArray := prog_9_method_7_code
def yX7_ownBits : MethodName := ⟨RX7, "ownBits", "(I)I"⟩
abbrev cX7_ownSet : ByteArray := prog_9_method_8_code
def yX7_ownSet : MethodName := ⟨RX7, "ownSet", "(I)I"⟩
abbrev cX7_withBase : ByteArray := prog_9_method_9_code
def yX7_withBase : MethodName := ⟨RX7, "withBase", "(I)I"⟩
abbrev cX7_append : ByteArray := prog_9_method_10_code
def yX7_append : MethodName := ⟨RX7, "append", "()I"⟩
abbrev cX7_remove : ByteArray := prog_9_method_11_code
def yX7_remove : MethodName := ⟨RX7, "remove", "(I)V"⟩
abbrev cX7_exchange : ByteArray := prog_9_method_12_code
def yX7_exchange : MethodName := ⟨RX7, "exchange", "(II)V"⟩
abbrev cX7_renumberBases : ByteArray := prog_9_method_13_code
def yX7_renumberBases : MethodName := ⟨RX7, "renumberBases", "(I)V"⟩
abbrev cX7_rest : ByteArray := prog_9_method_14_code
def yX7_rest : MethodName := ⟨RX7, "rest", "(IIII)V"⟩
abbrev cX7_copyFrom : ByteArray := prog_9_method_15_code
def yX7_copyFrom : MethodName := ⟨RX7, "copyFrom", "(LStyleFamilies$Rows;)V"⟩
def RX8 : String := "StyleFamilies$Sheet"
def TX8 : u_T := fun k => match k with
  | 0 => ("StyleFamilies$Sheet", "headCost", "I", false)
  | 1 => ("StyleFamilies$Sheet", "groundValues", "[I", true)
  | 2 => ("StyleFamilies$Sheet", "styles", "LStyleFamilies$Rows;", true)
  | _ => ("StyleFamilies$Sheet", "paragraphs", "LStyleFamilies$Rows;", true)
def tyX8 : Nat → FieldType := fun k => match k with
  | 0 => .int
  | 1 => .array .int
  | 2 => .object "StyleFamilies$Rows"
  | _ => .object "StyleFamilies$Rows"
abbrev wsX80 : List Cond := u_ws RX8 TX8 4
theorem nmX8 : ∀ a, a < 4 → ∀ b, b < 4 → a ≠ b → (TX8 a).2.1 ≠ (TX8 b).2.1 := by decide +kernel
theorem tyX8_ok : ∀ k, k < 4 → parseFieldDescriptor (TX8 k).2.2.1 = some (tyX8 k) := by decide +kernel
abbrev cX8_init : ByteArray := prog_10_method_1_code
def yX8_init : MethodName := ⟨RX8, "<init>", "()V"⟩
abbrev cX8_copyFrom : ByteArray := prog_10_method_2_code
def yX8_copyFrom : MethodName := ⟨RX8, "copyFrom", "(LStyleFamilies$Sheet;)V"⟩
abbrev cX8_setter : ByteArray := prog_10_method_3_code
def yX8_setter : MethodName := ⟨RX8, "setter", "(II)I"⟩
abbrev cX8_styleValue : ByteArray := prog_10_method_4_code
def yX8_styleValue : MethodName := ⟨RX8, "styleValue", "(II)I"⟩
abbrev cX8_paragraphValue : ByteArray := prog_10_method_5_code
def yX8_paragraphValue : MethodName := ⟨RX8, "paragraphValue", "(II)I"⟩
abbrev cX8_styleLook : ByteArray := prog_10_method_6_code
def yX8_styleLook : MethodName := ⟨RX8, "styleLook", "(I)I"⟩
abbrev cX8_paragraphLook : ByteArray := prog_10_method_7_code
def yX8_paragraphLook : MethodName := ⟨RX8, "paragraphLook", "(I)I"⟩
abbrev cX8_ancestors : ByteArray := prog_10_method_8_code
def yX8_ancestors : MethodName := ⟨RX8, "ancestors", "(I)I"⟩
abbrev cX8_descends : ByteArray := prog_10_method_9_code
def yX8_descends : MethodName := ⟨RX8, "descends", "(II)Z"⟩
abbrev cX8_styleCost : ByteArray := prog_10_method_10_code
def yX8_styleCost : MethodName := ⟨RX8, "styleCost", "(I)I"⟩
abbrev cX8_paragraphCost : ByteArray := prog_10_method_11_code
def yX8_paragraphCost : MethodName := ⟨RX8, "paragraphCost", "(I)I"⟩
abbrev cX8_costOfAll : ByteArray := prog_10_method_12_code
def yX8_costOfAll : MethodName := ⟨RX8, "costOfAll", "()I"⟩
abbrev cX8_unusedStyles : ByteArray := prog_10_method_13_code
def yX8_unusedStyles : MethodName := ⟨RX8, "unusedStyles", "()I"⟩
abbrev cX8_countRedundant : ByteArray := prog_10_method_14_code
def yX8_countRedundant : MethodName := ⟨RX8, "countRedundant", "(Z)I"⟩
abbrev cX8_redundantIn : ByteArray := prog_10_method_15_code
def yX8_redundantIn : MethodName := ⟨RX8, "redundantIn", "(LStyleFamilies$Rows;Z)I"⟩
abbrev cX8_costWithStyle : ByteArray := prog_10_method_16_code
def yX8_costWithStyle : MethodName := ⟨RX8, "costWithStyle", "(II)I"⟩
abbrev cX8_nearestStyle : ByteArray := prog_10_method_17_code
def yX8_nearestStyle : MethodName := ⟨RX8, "nearestStyle", "(I)I"⟩
abbrev cX8_rebaseStyle : ByteArray := prog_10_method_18_code
def yX8_rebaseStyle : MethodName := ⟨RX8, "rebaseStyle", "(II)V"⟩
abbrev cX8_rebaseParagraph : ByteArray := prog_10_method_19_code
def yX8_rebaseParagraph : MethodName := ⟨RX8, "rebaseParagraph", "(II)V"⟩
abbrev cX8_removeStyle : ByteArray := prog_10_method_20_code
def yX8_removeStyle : MethodName := ⟨RX8, "removeStyle", "(I)V"⟩
abbrev cX8_layStyles : ByteArray := prog_10_method_21_code
def yX8_layStyles : MethodName := ⟨RX8, "layStyles", "(LStyleFamilies$Forest;)V"⟩
abbrev cX8_replaceStyles : ByteArray := prog_10_method_22_code
def yX8_replaceStyles : MethodName := ⟨RX8, "replaceStyles", "(LStyleFamilies$Forest;)V"⟩
def RX9 : String := "StyleFamilies$Values"
def TX9 : u_T := fun k => match k with
  | _ => ("", "", "", false)
def tyX9 : Nat → FieldType := fun k => match k with
  | _ => .int
abbrev wsX90 : List Cond := u_ws RX9 TX9 0
theorem nmX9 : ∀ a, a < 0 → ∀ b, b < 0 → a ≠ b → (TX9 a).2.1 ≠ (TX9 b).2.1 := by decide +kernel
theorem tyX9_ok : ∀ k, k < 0 → parseFieldDescriptor (TX9 k).2.2.1 = some (tyX9 k) := by decide +kernel
abbrev cX9_isProperty : ByteArray := prog_11_method_2_code
def yX9_isProperty : MethodName := ⟨RX9, "isProperty", "(I)Z"⟩
abbrev cX9_isValue : ByteArray := prog_11_method_3_code
def yX9_isValue : MethodName := ⟨RX9, "isValue", "(II)Z"⟩
abbrev cX9_bits : ByteArray := prog_11_method_4_code
def yX9_bits : MethodName := ⟨RX9, "bits", "(II)I"⟩
abbrev cX9_inLook : ByteArray := prog_11_method_5_code
def yX9_inLook : MethodName := ⟨RX9, "inLook", "(II)I"⟩
abbrev cX9_asPartOfLook : ByteArray := prog_11_method_6_code
def yX9_asPartOfLook : MethodName := ⟨RX9, "asPartOfLook", "(II)I"⟩
abbrev cX9_bitsApart : ByteArray := prog_11_method_7_code
def yX9_bitsApart : MethodName := ⟨RX9, "bitsApart", "(II)I"⟩
def RX10 : String := "StyleFamilies"
def TX10 : u_T := fun k => match k with
  | 0 => ("StyleFamilies", "now", "LStyleFamilies$Sheet;", true)
  | 1 => ("StyleFamilies", "history", "LStyleFamilies$History;", true)
  | 2 => ("StyleFamilies", "book", "LStyleFamilies$Book;", true)
  | 3 => ("StyleFamilies", "images", "[LStyleFamilies$Image;", true)
  | 4 => ("StyleFamilies", "looks", "LStyleFamilies$Looks;", true)
  | 5 => ("StyleFamilies", "forest", "LStyleFamilies$Forest;", true)
  | 6 => ("StyleFamilies", "bestStyles", "LStyleFamilies$BestStyles;", true)
  | _ => ("StyleFamilies", "random", "I", false)
def tyX10 : Nat → FieldType := fun k => match k with
  | 0 => .object "StyleFamilies$Sheet"
  | 1 => .object "StyleFamilies$History"
  | 2 => .object "StyleFamilies$Book"
  | 3 => .array (.object "StyleFamilies$Image")
  | 4 => .object "StyleFamilies$Looks"
  | 5 => .object "StyleFamilies$Forest"
  | 6 => .object "StyleFamilies$BestStyles"
  | _ => .int
abbrev wsX100 : List Cond := u_ws RX10 TX10 8
theorem nmX10 : ∀ a, a < 8 → ∀ b, b < 8 → a ≠ b → (TX10 a).2.1 ≠ (TX10 b).2.1 := by decide +kernel
theorem tyX10_ok : ∀ k, k < 8 → parseFieldDescriptor (TX10 k).2.2.1 = some (tyX10 k) := by decide +kernel
abbrev cX10_init : ByteArray := prog_1_method_1_code
def yX10_init : MethodName := ⟨RX10, "<init>", "()V"⟩
abbrev cX10_told : ByteArray := prog_1_method_2_code
def yX10_told : MethodName := ⟨RX10, "told", "(I)I"⟩
abbrev cX10_has : ByteArray := prog_1_method_3_code
def yX10_has : MethodName := ⟨RX10, "has", "(II)I"⟩
abbrev cX10_from : ByteArray := prog_1_method_4_code
def yX10_from : MethodName := ⟨RX10, "from", "(II)I"⟩
abbrev cX10_paragraphAt : ByteArray := prog_1_method_5_code
def yX10_paragraphAt : MethodName := ⟨RX10, "paragraphAt", "(II)I"⟩
abbrev cX10_styleAt : ByteArray := prog_1_method_6_code
def yX10_styleAt : MethodName := ⟨RX10, "styleAt", "(II)I"⟩
abbrev cX10_styleHas : ByteArray := prog_1_method_7_code
def yX10_styleHas : MethodName := ⟨RX10, "styleHas", "(II)I"⟩
abbrev cX10_lookAt : ByteArray := prog_1_method_8_code
def yX10_lookAt : MethodName := ⟨RX10, "lookAt", "(II)I"⟩
abbrev cX10_apart : ByteArray := prog_1_method_9_code
def yX10_apart : MethodName := ⟨RX10, "apart", "(II)I"⟩
abbrev cX10_paragraph : ByteArray := prog_1_method_10_code
def yX10_paragraph : MethodName := ⟨RX10, "paragraph", "()I"⟩
abbrev cX10_style : ByteArray := prog_1_method_11_code
def yX10_style : MethodName := ⟨RX10, "style", "()I"⟩
abbrev cX10_direct : ByteArray := prog_1_method_12_code
def yX10_direct : MethodName := ⟨RX10, "direct", "(III)I"⟩
abbrev cX10_sets : ByteArray := prog_1_method_13_code
def yX10_sets : MethodName := ⟨RX10, "sets", "(III)I"⟩
abbrev cX10_ground : ByteArray := prog_1_method_14_code
def yX10_ground : MethodName := ⟨RX10, "ground", "(II)I"⟩
abbrev cX10_head : ByteArray := prog_1_method_15_code
def yX10_head : MethodName := ⟨RX10, "head", "(I)I"⟩
abbrev cX10_apply : ByteArray := prog_1_method_16_code
def yX10_apply : MethodName := ⟨RX10, "apply", "(II)I"⟩
abbrev cX10_parent : ByteArray := prog_1_method_17_code
def yX10_parent : MethodName := ⟨RX10, "parent", "(II)I"⟩
abbrev cX10_restyle : ByteArray := prog_1_method_18_code
def yX10_restyle : MethodName := ⟨RX10, "restyle", "(II)I"⟩
abbrev cX10_reparent : ByteArray := prog_1_method_19_code
def yX10_reparent : MethodName := ⟨RX10, "reparent", "(II)I"⟩
abbrev cX10_drop : ByteArray := prog_1_method_20_code
def yX10_drop : MethodName := ⟨RX10, "drop", "(I)I"⟩
abbrev cX10_take : ByteArray := prog_1_method_21_code
def yX10_take : MethodName := ⟨RX10, "take", "(I)I"⟩
abbrev cX10_swap : ByteArray := prog_1_method_22_code
def yX10_swap : MethodName := ⟨RX10, "swap", "(II)I"⟩
abbrev cX10_tidy : ByteArray := prog_1_method_23_code
def yX10_tidy : MethodName := ⟨RX10, "tidy", "()I"⟩
abbrev cX10_knit : ByteArray := prog_1_method_24_code
def yX10_knit : MethodName := ⟨RX10, "knit", "()I"⟩
abbrev cX10_adopt : ByteArray := prog_1_method_25_code
def yX10_adopt : MethodName := ⟨RX10, "adopt", "()I"⟩
abbrev cX10_drift : ByteArray := prog_1_method_26_code
def yX10_drift : MethodName := ⟨RX10, "drift", "(I)I"⟩
abbrev cX10_undo : ByteArray := prog_1_method_27_code
def yX10_undo : MethodName := ⟨RX10, "undo", "(I)I"⟩
abbrev cX10_write : ByteArray := prog_1_method_28_code
def yX10_write : MethodName := ⟨RX10, "write", "(III)I"⟩
abbrev cX10_tear : ByteArray := prog_1_method_29_code
def yX10_tear : MethodName := ⟨RX10, "tear", "()I"⟩
abbrev cX10_seed : ByteArray := prog_1_method_30_code
def yX10_seed : MethodName := ⟨RX10, "seed", "(I)I"⟩
abbrev cX10_keep : ByteArray := prog_1_method_31_code
def yX10_keep : MethodName := ⟨RX10, "keep", "(I)I"⟩
abbrev cX10_goBack : ByteArray := prog_1_method_32_code
def yX10_goBack : MethodName := ⟨RX10, "goBack", "(I)I"⟩
abbrev cX10_isStyleOrNone : ByteArray := prog_1_method_33_code
def yX10_isStyleOrNone : MethodName := ⟨RX10, "isStyleOrNone", "(I)Z"⟩
abbrev cX10_errorOfParent : ByteArray := prog_1_method_34_code
def yX10_errorOfParent : MethodName := ⟨RX10, "errorOfParent", "(II)I"⟩
abbrev cX10_give : ByteArray := prog_1_method_35_code
def yX10_give : MethodName := ⟨RX10, "give", "(LStyleFamilies$Rows;III)I"⟩
abbrev cX10_gatheredLooks : ByteArray := prog_1_method_36_code
def yX10_gatheredLooks : MethodName := ⟨RX10, "gatheredLooks", "()LStyleFamilies$Looks;"⟩
abbrev cX10_foundBestStyles : ByteArray := prog_1_method_37_code
def yX10_foundBestStyles : MethodName := ⟨RX10, "foundBestStyles", "()LStyleFamilies$BestStyles;"⟩
abbrev cX10_layForestOfStyles : ByteArray := prog_1_method_38_code
def yX10_layForestOfStyles : MethodName := ⟨RX10, "layForestOfStyles", "()V"⟩
abbrev cX10_costWithBestParents : ByteArray := prog_1_method_39_code
def yX10_costWithBestParents : MethodName := ⟨RX10, "costWithBestParents", "()I"⟩
abbrev cX10_bestParentOf : ByteArray := prog_1_method_40_code
def yX10_bestParentOf : MethodName := ⟨RX10, "bestParentOf", "(I)I"⟩
abbrev cX10_costWithNearestStyle : ByteArray := prog_1_method_41_code
def yX10_costWithNearestStyle : MethodName := ⟨RX10, "costWithNearestStyle", "(I)I"⟩
abbrev cX10_draw : ByteArray := prog_1_method_42_code
def yX10_draw : MethodName := ⟨RX10, "draw", "(I)I"⟩
abbrev cX10_giveAtRandom : ByteArray := prog_1_method_43_code
def yX10_giveAtRandom : MethodName := ⟨RX10, "giveAtRandom", "(I)V"⟩
def RX11 : String := "StyleFamiliesModel"
def TX11 : u_T := fun k => match k with
  | 0 => ("StyleFamiliesModel", "w", "[I", true)
  | 1 => ("StyleFamiliesModel", "known", "I", false)
  | 2 => ("StyleFamiliesModel", "kept", "I", false)
  | 3 => ("StyleFamiliesModel", "seed", "I", false)
  | 4 => ("StyleFamiliesModel", "keptSeed", "[I", true)
  | 5 => ("StyleFamiliesModel", "bookOf", "[I", true)
  | 6 => ("StyleFamiliesModel", "bookAt", "[I", true)
  | 7 => ("StyleFamiliesModel", "bookIs", "[I", true)
  | 8 => ("StyleFamiliesModel", "booked", "I", false)
  | 9 => ("StyleFamiliesModel", "styleLook", "[I", true)
  | 10 => ("StyleFamiliesModel", "look", "[I", true)
  | 11 => ("StyleFamiliesModel", "unlike", "[I", true)
  | 12 => ("StyleFamiliesModel", "unlikes", "I", false)
  | 13 => ("StyleFamiliesModel", "link", "[I", true)
  | 14 => ("StyleFamiliesModel", "best", "[I", true)
  | 15 => ("StyleFamiliesModel", "parents", "[I", true)
  | 16 => ("StyleFamiliesModel", "family", "I", false)
  | _ => ("StyleFamiliesModel", "familyCost", "I", false)
def tyX11 : Nat → FieldType := fun k => match k with
  | 0 => .array .int
  | 1 => .int
  | 2 => .int
  | 3 => .int
  | 4 => .array .int
  | 5 => .array .int
  | 6 => .array .int
  | 7 => .array .int
  | 8 => .int
  | 9 => .array .int
  | 10 => .array .int
  | 11 => .array .int
  | 12 => .int
  | 13 => .array .int
  | 14 => .array .int
  | 15 => .array .int
  | 16 => .int
  | _ => .int
abbrev wsX110 : List Cond := u_ws RX11 TX11 18
theorem nmX11 : ∀ a, a < 18 → ∀ b, b < 18 → a ≠ b → (TX11 a).2.1 ≠ (TX11 b).2.1 := by decide +kernel
theorem tyX11_ok : ∀ k, k < 18 → parseFieldDescriptor (TX11 k).2.2.1 = some (tyX11 k) := by decide +kernel
abbrev cX11_init : ByteArray := prog_13_method_1_code
def yX11_init : MethodName := ⟨RX11, "<init>", "()V"⟩
abbrev cX11_in : ByteArray := prog_13_method_2_code
def yX11_in : MethodName := ⟨RX11, "in", "(III)Z"⟩
abbrev cX11_copyRow : ByteArray := prog_13_method_3_code
def yX11_copyRow : MethodName := ⟨RX11, "copyRow", "(II)V"⟩
abbrev cX11_styleOf : ByteArray := prog_13_method_4_code
def yX11_styleOf : MethodName := ⟨RX11, "styleOf", "(I)I"⟩
abbrev cX11_paragraphOf : ByteArray := prog_13_method_5_code
def yX11_paragraphOf : MethodName := ⟨RX11, "paragraphOf", "(I)I"⟩
abbrev cX11_isStyle : ByteArray := prog_13_method_6_code
def yX11_isStyle : MethodName := ⟨RX11, "isStyle", "(I)Z"⟩
abbrev cX11_isStyleOrNone : ByteArray := prog_13_method_7_code
def yX11_isStyleOrNone : MethodName := ⟨RX11, "isStyleOrNone", "(I)Z"⟩
abbrev cX11_isParagraph : ByteArray := prog_13_method_8_code
def yX11_isParagraph : MethodName := ⟨RX11, "isParagraph", "(I)Z"⟩
abbrev cX11_isProperty : ByteArray := prog_13_method_9_code
def yX11_isProperty : MethodName := ⟨RX11, "isProperty", "(I)Z"⟩
abbrev cX11_isValue : ByteArray := prog_13_method_10_code
def yX11_isValue : MethodName := ⟨RX11, "isValue", "(II)Z"⟩
abbrev cX11_bits : ByteArray := prog_13_method_11_code
def yX11_bits : MethodName := ⟨RX11, "bits", "(II)I"⟩
abbrev cX11_setter : ByteArray := prog_13_method_12_code
def yX11_setter : MethodName := ⟨RX11, "setter", "(II)I"⟩
abbrev cX11_ofStyle : ByteArray := prog_13_method_13_code
def yX11_ofStyle : MethodName := ⟨RX11, "ofStyle", "(II)I"⟩
abbrev cX11_ofParagraph : ByteArray := prog_13_method_14_code
def yX11_ofParagraph : MethodName := ⟨RX11, "ofParagraph", "(II)I"⟩
abbrev cX11_layStyleLooks : ByteArray := prog_13_method_15_code
def yX11_layStyleLooks : MethodName := ⟨RX11, "layStyleLooks", "()V"⟩
abbrev cX11_layParagraphLooks : ByteArray := prog_13_method_16_code
def yX11_layParagraphLooks : MethodName := ⟨RX11, "layParagraphLooks", "()V"⟩
abbrev cX11_layAll : ByteArray := prog_13_method_17_code
def yX11_layAll : MethodName := ⟨RX11, "layAll", "()V"⟩
abbrev cX11_compare : ByteArray := prog_13_method_18_code
def yX11_compare : MethodName := ⟨RX11, "compare", "([II[II)I"⟩
abbrev cX11_layLooks : ByteArray := prog_13_method_19_code
def yX11_layLooks : MethodName := ⟨RX11, "layLooks", "()V"⟩
abbrev cX11_numberOf : ByteArray := prog_13_method_20_code
def yX11_numberOf : MethodName := ⟨RX11, "numberOf", "(I)I"⟩
abbrev cX11_bitsApart : ByteArray := prog_13_method_21_code
def yX11_bitsApart : MethodName := ⟨RX11, "bitsApart", "([II[II)I"⟩
abbrev cX11_bitsAt : ByteArray := prog_13_method_22_code
def yX11_bitsAt : MethodName := ⟨RX11, "bitsAt", "(I)I"⟩
abbrev cX11_styleCost : ByteArray := prog_13_method_23_code
def yX11_styleCost : MethodName := ⟨RX11, "styleCost", "(I)I"⟩
abbrev cX11_paragraphCost : ByteArray := prog_13_method_24_code
def yX11_paragraphCost : MethodName := ⟨RX11, "paragraphCost", "(I)I"⟩
abbrev cX11_cost : ByteArray := prog_13_method_25_code
def yX11_cost : MethodName := ⟨RX11, "cost", "()I"⟩
abbrev cX11_isNeedlessOfStyle : ByteArray := prog_13_method_26_code
def yX11_isNeedlessOfStyle : MethodName := ⟨RX11, "isNeedlessOfStyle", "(II)Z"⟩
abbrev cX11_isNeedlessOfParagraph : ByteArray := prog_13_method_27_code
def yX11_isNeedlessOfParagraph : MethodName := ⟨RX11, "isNeedlessOfParagraph", "(II)Z"⟩
abbrev cX11_needless : ByteArray := prog_13_method_28_code
def yX11_needless : MethodName := ⟨RX11, "needless", "()I"⟩
abbrev cX11_layLinks : ByteArray := prog_13_method_29_code
def yX11_layLinks : MethodName := ⟨RX11, "layLinks", "([II)V"⟩
abbrev cX11_putBehind : ByteArray := prog_13_method_30_code
def yX11_putBehind : MethodName := ⟨RX11, "putBehind", "(III)I"⟩
abbrev cX11_grown : ByteArray := prog_13_method_31_code
def yX11_grown : MethodName := ⟨RX11, "grown", "(I)I"⟩
abbrev cX11_layKnit : ByteArray := prog_13_method_32_code
def yX11_layKnit : MethodName := ⟨RX11, "layKnit", "([II)V"⟩
abbrev cX11_knitCost : ByteArray := prog_13_method_33_code
def yX11_knitCost : MethodName := ⟨RX11, "knitCost", "()I"⟩
abbrev cX11_ones : ByteArray := prog_13_method_34_code
def yX11_ones : MethodName := ⟨RX11, "ones", "(I)I"⟩
abbrev cX11_cheapest : ByteArray := prog_13_method_35_code
def yX11_cheapest : MethodName := ⟨RX11, "cheapest", "(II)I"⟩
abbrev cX11_layFamily : ByteArray := prog_13_method_36_code
def yX11_layFamily : MethodName := ⟨RX11, "layFamily", "()V"⟩
abbrev cX11_idle : ByteArray := prog_13_method_37_code
def yX11_idle : MethodName := ⟨RX11, "idle", "()I"⟩
abbrev cX11_wrongEntry : ByteArray := prog_13_method_38_code
def yX11_wrongEntry : MethodName := ⟨RX11, "wrongEntry", "()I"⟩
abbrev cX11_looks : ByteArray := prog_13_method_39_code
def yX11_looks : MethodName := ⟨RX11, "looks", "()I"⟩
abbrev cX11_byFamily : ByteArray := prog_13_method_40_code
def yX11_byFamily : MethodName := ⟨RX11, "byFamily", "(Z)I"⟩
abbrev cX11_told : ByteArray := prog_13_method_41_code
def yX11_told : MethodName := ⟨RX11, "told", "(I)I"⟩
abbrev cX11_has : ByteArray := prog_13_method_42_code
def yX11_has : MethodName := ⟨RX11, "has", "(II)I"⟩
abbrev cX11_from : ByteArray := prog_13_method_43_code
def yX11_from : MethodName := ⟨RX11, "from", "(II)I"⟩
abbrev cX11_costBy : ByteArray := prog_13_method_44_code
def yX11_costBy : MethodName := ⟨RX11, "costBy", "(II)I"⟩
abbrev cX11_nearest : ByteArray := prog_13_method_45_code
def yX11_nearest : MethodName := ⟨RX11, "nearest", "(I)I"⟩
abbrev cX11_toldAt : ByteArray := prog_13_method_46_code
def yX11_toldAt : MethodName := ⟨RX11, "toldAt", "(I)I"⟩
abbrev cX11_lookNumber : ByteArray := prog_13_method_47_code
def yX11_lookNumber : MethodName := ⟨RX11, "lookNumber", "(I)I"⟩
abbrev cX11_paragraphAt : ByteArray := prog_13_method_48_code
def yX11_paragraphAt : MethodName := ⟨RX11, "paragraphAt", "(II)I"⟩
abbrev cX11_above : ByteArray := prog_13_method_49_code
def yX11_above : MethodName := ⟨RX11, "above", "(I)I"⟩
abbrev cX11_havers : ByteArray := prog_13_method_50_code
def yX11_havers : MethodName := ⟨RX11, "havers", "(I)I"⟩
abbrev cX11_children : ByteArray := prog_13_method_51_code
def yX11_children : MethodName := ⟨RX11, "children", "(I)I"⟩
abbrev cX11_knitParent : ByteArray := prog_13_method_52_code
def yX11_knitParent : MethodName := ⟨RX11, "knitParent", "(I)I"⟩
abbrev cX11_styleAt : ByteArray := prog_13_method_53_code
def yX11_styleAt : MethodName := ⟨RX11, "styleAt", "(II)I"⟩
abbrev cX11_styleHas : ByteArray := prog_13_method_54_code
def yX11_styleHas : MethodName := ⟨RX11, "styleHas", "(II)I"⟩
abbrev cX11_lookAt : ByteArray := prog_13_method_55_code
def yX11_lookAt : MethodName := ⟨RX11, "lookAt", "(II)I"⟩
abbrev cX11_apart : ByteArray := prog_13_method_56_code
def yX11_apart : MethodName := ⟨RX11, "apart", "(II)I"⟩
abbrev cX11_remember : ByteArray := prog_13_method_57_code
def yX11_remember : MethodName := ⟨RX11, "remember", "()V"⟩
abbrev cX11_clear : ByteArray := prog_13_method_58_code
def yX11_clear : MethodName := ⟨RX11, "clear", "(I)V"⟩
abbrev cX11_paragraph : ByteArray := prog_13_method_59_code
def yX11_paragraph : MethodName := ⟨RX11, "paragraph", "()I"⟩
abbrev cX11_style : ByteArray := prog_13_method_60_code
def yX11_style : MethodName := ⟨RX11, "style", "()I"⟩
abbrev cX11_lay : ByteArray := prog_13_method_61_code
def yX11_lay : MethodName := ⟨RX11, "lay", "(II)I"⟩
abbrev cX11_direct : ByteArray := prog_13_method_62_code
def yX11_direct : MethodName := ⟨RX11, "direct", "(III)I"⟩
abbrev cX11_sets : ByteArray := prog_13_method_63_code
def yX11_sets : MethodName := ⟨RX11, "sets", "(III)I"⟩
abbrev cX11_ground : ByteArray := prog_13_method_64_code
def yX11_ground : MethodName := ⟨RX11, "ground", "(II)I"⟩
abbrev cX11_head : ByteArray := prog_13_method_65_code
def yX11_head : MethodName := ⟨RX11, "head", "(I)I"⟩
abbrev cX11_apply : ByteArray := prog_13_method_66_code
def yX11_apply : MethodName := ⟨RX11, "apply", "(II)I"⟩
abbrev cX11_isRing : ByteArray := prog_13_method_67_code
def yX11_isRing : MethodName := ⟨RX11, "isRing", "(II)Z"⟩
abbrev cX11_parent : ByteArray := prog_13_method_68_code
def yX11_parent : MethodName := ⟨RX11, "parent", "(II)I"⟩
abbrev cX11_tellAnew : ByteArray := prog_13_method_69_code
def yX11_tellAnew : MethodName := ⟨RX11, "tellAnew", "(II[II)V"⟩
abbrev cX11_restyle : ByteArray := prog_13_method_70_code
def yX11_restyle : MethodName := ⟨RX11, "restyle", "(II)I"⟩
abbrev cX11_reparent : ByteArray := prog_13_method_71_code
def yX11_reparent : MethodName := ⟨RX11, "reparent", "(II)I"⟩
abbrev cX11_lessAbove : ByteArray := prog_13_method_72_code
def yX11_lessAbove : MethodName := ⟨RX11, "lessAbove", "(II)V"⟩
abbrev cX11_drop : ByteArray := prog_13_method_73_code
def yX11_drop : MethodName := ⟨RX11, "drop", "(I)I"⟩
abbrev cX11_take : ByteArray := prog_13_method_74_code
def yX11_take : MethodName := ⟨RX11, "take", "(I)I"⟩
abbrev cX11_swap : ByteArray := prog_13_method_75_code
def yX11_swap : MethodName := ⟨RX11, "swap", "(II)I"⟩
abbrev cX11_tidy : ByteArray := prog_13_method_76_code
def yX11_tidy : MethodName := ⟨RX11, "tidy", "()I"⟩
abbrev cX11_knit : ByteArray := prog_13_method_77_code
def yX11_knit : MethodName := ⟨RX11, "knit", "()I"⟩
abbrev cX11_adopt : ByteArray := prog_13_method_78_code
def yX11_adopt : MethodName := ⟨RX11, "adopt", "()I"⟩
abbrev cX11_draw : ByteArray := prog_13_method_79_code
def yX11_draw : MethodName := ⟨RX11, "draw", "(I)I"⟩
abbrev cX11_drawValue : ByteArray := prog_13_method_80_code
def yX11_drawValue : MethodName := ⟨RX11, "drawValue", "(I)I"⟩
abbrev cX11_drift : ByteArray := prog_13_method_81_code
def yX11_drift : MethodName := ⟨RX11, "drift", "(I)I"⟩
abbrev cX11_undo : ByteArray := prog_13_method_82_code
def yX11_undo : MethodName := ⟨RX11, "undo", "(I)I"⟩
abbrev cX11_write : ByteArray := prog_13_method_83_code
def yX11_write : MethodName := ⟨RX11, "write", "(III)I"⟩
abbrev cX11_tear : ByteArray := prog_13_method_84_code
def yX11_tear : MethodName := ⟨RX11, "tear", "()I"⟩
abbrev cX11_seed : ByteArray := prog_13_method_85_code
def yX11_seed : MethodName := ⟨RX11, "seed", "(I)I"⟩
abbrev cX11_keep : ByteArray := prog_13_method_86_code
def yX11_keep : MethodName := ⟨RX11, "keep", "(I)I"⟩
abbrev cX11_goBack : ByteArray := prog_13_method_87_code
def yX11_goBack : MethodName := ⟨RX11, "goBack", "(I)I"⟩
def RJ6 : String := "java/lang/Integer"
def TJ6 : u_T := fun k => match k with
  | _ => ("", "", "", false)
def tyJ6 : Nat → FieldType := fun k => match k with
  | _ => .int
abbrev wsJ60 : List Cond := u_ws RJ6 TJ6 0
theorem nmJ6 : ∀ a, a < 0 → ∀ b, b < 0 → a ≠ b → (TJ6 a).2.1 ≠ (TJ6 b).2.1 := by decide +kernel
theorem tyJ6_ok : ∀ k, k < 0 → parseFieldDescriptor (TJ6 k).2.2.1 = some (tyJ6 k) := by decide +kernel
abbrev cJ6_bitCount_0f7a4 : ByteArray := prog_14_method_49_code
def yJ6_bitCount_0f7a4 : MethodName := ⟨RJ6, "bitCount", "(I)I"⟩
def RJ9 : String := "java/lang/Math"
def TJ9 : u_T := fun k => match k with
  | _ => ("", "", "", false)
def tyJ9 : Nat → FieldType := fun k => match k with
  | _ => .int
abbrev wsJ90 : List Cond := u_ws RJ9 TJ9 0
theorem nmJ9 : ∀ a, a < 0 → ∀ b, b < 0 → a ≠ b → (TJ9 a).2.1 ≠ (TJ9 b).2.1 := by decide +kernel
theorem tyJ9_ok : ∀ k, k < 0 → parseFieldDescriptor (TJ9 k).2.2.1 = some (tyJ9 k) := by decide +kernel
abbrev cJ9_min_7cf53 : ByteArray := prog_15_method_69_code
def yJ9_min_7cf53 : MethodName := ⟨RJ9, "min", "(II)I"⟩
def RJ10 : String := "java/lang/System"
def TJ10 : u_T := fun k => match k with
  | _ => ("", "", "", false)
def tyJ10 : Nat → FieldType := fun k => match k with
  | _ => .int
abbrev wsJ100 : List Cond := u_ws RJ10 TJ10 0
theorem nmJ10 : ∀ a, a < 0 → ∀ b, b < 0 → a ≠ b → (TJ10 a).2.1 ≠ (TJ10 b).2.1 := by decide +kernel
theorem tyJ10_ok : ∀ k, k < 0 → parseFieldDescriptor (TJ10 k).2.2.1 = some (tyJ10 k) := by decide +kernel
def RL : String := "StyleFamiliesLaw"
abbrev cL_law : ByteArray := code
def yL_law : MethodName := ⟨RL, "law", "([I)Z"⟩
abbrev vwCl : List vw_C := [(RX0, TX0, 3), (RX1, TX1, 4), (RX2, TX2, 6), (RX3, TX3, 3), (RX4, TX4, 3), (RX5, TX5, 3), (RX6, TX6, 1), (RX7, TX7, 4), (RX8, TX8, 4), (RX10, TX10, 8), (RX11, TX11, 18)]
end
section
/-! ===== THE ABSTRACT MACHINE: a fragment of a method as a function over small states (locals, stack, shape, numbers); 'Snd': the machine follows it ===== -/
def lw_good : List Cond := lw_tbl.filter goodWord
/-- numbers by object and place; the shape: how many objects, how many slots, the kind of each (0..10 a class of vwCl, 100 int[], 101 Sheet[], 102 Image[], 103 int[][]), the length, the references -/
abbrev vM : Type := Nat → Nat → Int32
abbrev vG : Type := Nat × Nat × (Nat → Nat) × (Nat → Nat) × (Nat → Nat → Option Nat)
abbrev vL : Type := List (Option Value)
abbrev vJ : Type := Nat × vL × List Value × vG × vM
abbrev vR : Type := Option Value × vG × vM
abbrev vD : Type := vL → List Value → vG → vM → Option (vJ ⊕ vR)
abbrev vF : Type := List Value → vG → vM → Option vR
def gC (g : vG) (a : Nat) : Nat := g.2.2.1 a
def gL (g : vG) (a : Nat) : Nat := g.2.2.2.1 a
def gR (g : vG) (a k : Nat) : Option Nat := g.2.2.2.2 a k
def nF (c : Nat) : Nat := [3, 4, 6, 3, 3, 3, 1, 4, 4, 8, 18].getD c 0
def rFt : List (List Bool) := [[false, false, true], [false, true, true, true], [false, true, true, false, true, true], [false, false, true], [false, false, true], [false, true, true], [true], [false, false, true, true], [false, true, true, true], [true, true, true, true, true, true, true, false], [true, false, false, false, true, true, true, true, false, true, true, true, false, true, true, true, false, false]]
def rF (c k : Nat) : Bool := (rFt.getD c []).getD k false
def cvA (ad : Nat → Nat) (v : Value) : Value := match v with
  | .ref a => .ref (ad a)
  | w => w
def fO (ad : Nat → Nat) (g : vG) (M : vM) (c a : Nat) : List Value := (List.range (nF c)).map (fun k => if rF c k then va_rf ((gR g a k).map ad) else .int (M a k))
def wE (cx : Nat → ClassId) (ad : Nat → Nat) (g : vG) (M : vM) (a : Nat) : va_E :=
  if gC g a < 100 then .inr (gC g a, fO ad g M (gC g a) a)
  else if gC g a = 100 then .inl (cx 0, gL g a, .inl (M a))
  else .inl (cx (gC g a - 100), gL g a, .inr (.inr (.inr (.inr (fun j => (gR g a j).map ad)))))
def wW (cx : Nat → ClassId) (ad : Nat → Nat) (g : vG) (M : vM) : va_W := (List.range g.1).map (fun a => (ad a, wE cx ad g M a))
def mset (M : vM) (a k : Nat) (v : Int32) : vM := fun b => if b = a then upd (M a) k v else M b
def mcpy (M : vM) (s d sp dp n : Nat) : vM := fun b => if b = d then va_cpy (M s) (M d) sp dp n else M b
theorem wW_at {cx : Nat → ClassId} {ad : Nat → Nat} {g : vG} {M : vM} {a : Nat} (h : a < g.1) : (wW cx ad g M)[a]? = some (ad a, wE cx ad g M a) := by
  simp [wW, h]
theorem wW_lt {cx : Nat → ClassId} {ad : Nat → Nat} {g : vG} {M : vM} {a : Nat} {q : Nat × va_E} (h : (wW cx ad g M)[a]? = some q) : a < g.1 ∧ q = (ad a, wE cx ad g M a) := by
  have hl : a < g.1 := by
    have := (List.getElem?_eq_some_iff.mp h).1
    simpa [wW] using this
  rw [wW_at hl] at h
  exact ⟨hl, (Option.some.inj h).symm⟩
theorem wE_o {cx : Nat → ClassId} {ad : Nat → Nat} {g : vG} {M : vM} {a c : Nat} (h : gC g a = c) (hc : c < 100) : wE cx ad g M a = .inr (c, fO ad g M c a) := by
  subst h
  simp [wE, hc]
theorem wE_i {cx : Nat → ClassId} {ad : Nat → Nat} {g : vG} {M : vM} {a : Nat} (h : gC g a = 100) : wE cx ad g M a = .inl (cx 0, gL g a, .inl (M a)) := by
  simp [wE, h]
theorem wE_r {cx : Nat → ClassId} {ad : Nat → Nat} {g : vG} {M : vM} {a t : Nat} (h : gC g a = 100 + t) (ht : 0 < t) : wE cx ad g M a = .inl (cx t, gL g a, .inr (.inr (.inr (.inr (fun j => (gR g a j).map ad))))) := by
  have h1 : ¬ 100 + t < 100 := by omega
  have h2 : ¬ 100 + t = 100 := by omega
  unfold wE
  rw [h, if_neg h1, if_neg h2, Nat.add_sub_cancel_left]
/-- a world with one cell anew is the world of other numbers -/
theorem wW_set {cx : Nat → ClassId} {ad : Nat → Nat} {g g' : vG} {M M' : vM} {a : Nat} {e : va_E} (hn : g'.1 = g.1) (he : wE cx ad g' M' a = e) (ho : ∀ b, b ≠ a → wE cx ad g' M' b = wE cx ad g M b) : (wW cx ad g M).set a (ad a, e) = wW cx ad g' M' := by
  apply List.ext_getElem?
  intro i
  by_cases hi : i < g.1
  · rw [wW_at (g := g') (by omega)]
    by_cases h : i = a
    · subst h
      rw [List.getElem?_set_self (by simpa [wW] using hi), he]
    · rw [List.getElem?_set_ne (fun q => h q.symm), wW_at hi, ho i h]
  · rw [List.getElem?_eq_none (by simp [wW]; omega), List.getElem?_eq_none (by simp [wW]; omega)]
theorem wE_M {cx : Nat → ClassId} {ad : Nat → Nat} {g : vG} {M M' : vM} {b : Nat} (h : M' b = M b) : wE cx ad g M' b = wE cx ad g M b := by
  unfold wE fO
  rw [h]
theorem mset_ne {M : vM} {a k b : Nat} {v : Int32} (h : b ≠ a) : mset M a k v b = M b := if_neg h
theorem mset_eq {M : vM} {a k : Nat} {v : Int32} : mset M a k v a = upd (M a) k v := if_pos rfl
theorem mcpy_ne {M : vM} {s d sp dp n b : Nat} (h : b ≠ d) : mcpy M s d sp dp n b = M b := if_neg h
theorem mcpy_eq {M : vM} {s d sp dp n : Nat} : mcpy M s d sp dp n d = va_cpy (M s) (M d) sp dp n := if_pos rfl
theorem fO_len {ad : Nat → Nat} {g : vG} {M : vM} {c a : Nat} : (fO ad g M c a).length = nF c := by simp [fO]
theorem fO_at {ad : Nat → Nat} {g : vG} {M : vM} {c a k : Nat} (h : k < nF c) : (fO ad g M c a)[k]? = some (if rF c k then va_rf ((gR g a k).map ad) else .int (M a k)) := by simp [fO, h]
theorem fO_set {ad : Nat → Nat} {g : vG} {M : vM} {c a k : Nat} {v : Int32} (hk : k < nF c) (hr : rF c k = false) : (fO ad g M c a).set k (.int v) = fO ad g (mset M a k v) c a := by
  apply List.ext_getElem?
  intro i
  by_cases hi : i < nF c
  · rw [fO_at hi]
    by_cases h : i = k
    · subst h
      rw [List.getElem?_set_self (by rw [fO_len]; exact hi), hr, mset_eq]
      simp [upd]
    · rw [List.getElem?_set_ne (fun q => h q.symm), fO_at hi, mset_eq]
      simp [upd, h]
  · rw [List.getElem?_eq_none (by rw [List.length_set, fO_len]; omega), List.getElem?_eq_none (by rw [fO_len]; omega)]
def tyL (cx : Nat → ClassId) : List (ClassId × FieldType) := [(cx 0, .int), (cx 1, .object "StyleFamilies$Sheet"), (cx 2, .object "StyleFamilies$Image"), (cx 3, .array .int)]
def sN (t : Nat) : String := ["SHIFT", "MASK", "TOP", "RANDOM_STEP"].getD t ""
def sVt : List (List Int32) := [[23, 22, 15, 8, 4, 0], [1, 1, 127, 127, 15, 15], [1, 1, 99, 99, 9, 9], [1, 1, 5, 5, 2, 2]]
def sV (t j : Nat) : Int32 := (sVt.getD t []).getD j 0
/-- the four static arrays: abstract references 1000 to 1003 -/
def Stt (ad : Nat → Nat) (A : Nat → Prop) (U : State) (H : Heap) : Prop := ∀ t, t < 4 → va_Z "StyleFamilies$Values" (sN t) "[I" (.ref (ad (1000 + t))) A U H ∧ va_X (ad (1000 + t)) 6 (sV t) U H ∧ ¬ A (ad (1000 + t))
def lw_nst : List Cond := lw_tbl.filter (fun w => match w with | .methodLinkNest .. => true | _ => false)
def Nst (U : State) : Prop := (∀ w ∈ lw_nst, va_Nw w U) ∧ va_AO "StyleFamilies$Sheet" U ∧ va_AO "StyleFamilies$Image" U ∧ (Cond.arrayOver (.array .int)).before #[] U = true
def rmL (lev mc ms : Nat) : Room := { frames := lev, cells := mc, slots := ms, locals := 36 * lev }
/-- the world at a state: the cells, apart, the tables, what is free -/
def Wd (D : va_G) (cx : Nat → ClassId) (ad : Nat → Nat) (A : Nat → Prop) (mc : Nat) (g : vG) (M : vM) (sz : Nat) (U : State) : Prop :=
  U.heap.size = sz ∧ va_P D vwCl (wW cx ad g M) U.heap ∧ va_D A (wW cx ad g M) ∧ va_K D vwCl (tyL cx) U ∧ (∀ q, sz ≤ q → A q) ∧ Stt ad A U U.heap ∧ Nst U ∧ (mc ≠ 0 → ∀ j, g.1 + j < 1000 → ad (g.1 + j) = sz + j)
def PoC (D : va_G) (cx : Nat → ClassId) (ad : Nat → Nat) (A : Nat → Prop) (mc ms : Nat) (g0 : vG) (v : Option Value) (g : vG) (M : vM) : Array Value → State → Outcome → State → Prop := fun _ st oc t =>
  oc = .returned (v.map (cvA ad)) ∧ (g.1 = g0.1 + mc ∧ g.2.1 = g0.2.1 + ms ∧ (mc = 0 → g = g0)) ∧ va_P D vwCl (wW cx ad g M) t.heap ∧ va_D A (wW cx ad g M) ∧ t.heap.size = st.heap.size + mc ∧ va_F A st t
/-- a method's contract: what its function says, it does -/
def Ctr (y : MethodName) (cc : ByteArray) (nL : Nat) (ret : Option FieldType) (lev mc ms : Nat) (f : vF) : Prop :=
  ∀ (l : Launch) (D : va_G) (cx : Nat → ClassId) (ad : Nat → Nat) (A : Nat → Prop) (sz : Nat) (as : List Value) (g : vG) (M : vM) (v : Option Value) (g' : vG) (M' : vM), f as g M = some (v, g', M') →
    Met l y (.code y cc nL ret :: lw_good) (rmL lev mc ms) (va_Pc (as.map (cvA ad)) (Wd D cx ad A mc g M sz)) (PoC D cx ad A mc ms g v g' M') mc ms A
/-- locals -/
def lR (ad : Nat → Nat) (L : vL) (ls : Array Slot) (nL : Nat) : Prop := ls.size = nL ∧ lv_wf ls ∧ ∀ (i : Nat) (v : Value), L[i]? = some (some v) → ls[i]? = some (.val (cvA ad v))
def Fx (p : Program) (s : State) (m : MethodId) (args : Array Value) (meth : Method) (c : Code) (D : va_G) (cx : Nat → ClassId) (ad : Nat → Nat) (A : Nat → Prop) (y : MethodName) (cc : ByteArray) (nL : Nat) (ret : Option FieldType) : Prop :=
  p.tables.exec = Jvm.exec ∧ c.code = cc ∧ c.maxLocals = nL ∧ s.vm.findClass y.cls = some m.cls ∧ (∀ w ∈ lw_good, w.before args s = true) ∧ meth.sig.returnType = ret ∧ meth.locks = false ∧ meth.name = y.name ∧ va_K D vwCl (tyL cx) s ∧ (∀ q, s.heap.size ≤ q → A q) ∧ Stt ad A s s.heap ∧ Nst s
def Iv (D : va_G) (cx : Nat → ClassId) (ad : Nat → Nat) (A : Nat → Prop) (mc ms : Nat) (g0 : vG) (s : State) (H : Heap) (locs : List Loc) (G : vG) (M : vM) : Prop :=
  va_P D vwCl (wW cx ad G M) H ∧ va_D A (wW cx ad G M) ∧ va_S A s.heap H locs ∧ (g0.1 ≤ G.1 ∧ H.size = s.heap.size + (G.1 - g0.1) ∧ g0.2.1 ≤ G.2.1 ∧ G.1 ≤ g0.1 + mc ∧ G.2.1 ≤ g0.2.1 + ms) ∧ (mc = 0 → G = g0) ∧ (mc ≠ 0 → ∀ j, G.1 + j < 1000 → ad (G.1 + j) = H.size + j)
def Rs (p : Program) (l : Launch) (e : Env) (s : State) (m : MethodId) (args : Array Value) (below : List Frame) (meth : Method) (c : Code) (D : va_G) (cx : Nat → ClassId) (ad : Nat → Nat) (A : Nat → Prop) (nL lev mc ms : Nat) (g0 : vG) (H : Heap) (locs : List Loc) (G : vG) (g : JFrame) (out : vJ ⊕ vR) : Prop := match out with
  | .inl (pc', L', st', G', M') => ∀ Q : State → Prop, (∀ (H' : Heap) (locs' : List Loc) (ls' : Array Slot), Iv D cx ad A mc ms g0 s H' locs' G' M' → lR ad L' ls' nL → W p l e (rmL lev mc ms) s m args below meth c H' locs' (G'.1 - g0.1) (G'.2.1 - g0.2.1) Q (F0 m pc' ls' (st'.map (cvA ad)))) → W p l e (rmL lev mc ms) s m args below meth c H locs (G.1 - g0.1) (G.2.1 - g0.2.1) Q g
  | .inr (v, G', M') => W p l e (rmL lev mc ms) s m args below meth c H locs (G.1 - g0.1) (G.2.1 - g0.2.1) (MQ below (PoC D cx ad A mc ms g0 v G' M') args s mc ms A) g
/-- the machine follows the fragment d from pc on -/
def Snd (y : MethodName) (cc : ByteArray) (nL : Nat) (ret : Option FieldType) (lev mc ms : Nat) (g0 : vG) (pc : Nat) (d : vD) : Prop :=
  ∀ (p : Program) (l : Launch) (e : Env) (s : State) (m : MethodId) (args : Array Value) (below : List Frame) (meth : Method) (c : Code) (D : va_G) (cx : Nat → ClassId) (ad : Nat → Nat) (A : Nat → Prop), Fx p s m args meth c D cx ad A y cc nL ret →
    ∀ (H : Heap) (locs : List Loc) (ls : Array Slot) (L : vL) (st : List Value) (G : vG) (M : vM), Iv D cx ad A mc ms g0 s H locs G M → lR ad L ls nL →
      ∀ out, d L st G M = some out → Rs p l e s m args below meth c D cx ad A nL lev mc ms g0 H locs G (F0 m pc ls (st.map (cvA ad))) out
-- the operations
def op_con (x : Int32) (k : vD) : vD := fun L st G M => k L (.int x :: st) G M
def op_ild (i : Nat) (k : vD) : vD := fun L st G M => match L.getD i none with
  | some (.int x) => k L (.int x :: st) G M
  | _ => none
def op_ald (i : Nat) (k : vD) : vD := fun L st G M => match L.getD i none with
  | some (.ref x) => k L (.ref x :: st) G M
  | _ => none
/-- a value of two slots stands just ahead -/
def lgb (L : vL) (i : Nat) : Bool := match i with
  | 0 => false
  | j + 1 => match L.getD j none with
    | some v => v.category == 2
    | none => false
def op_ist (i : Nat) (k : vD) : vD := fun L st G M => match st with
  | .int x :: r => if lgb L i then none else k (L.set i (some (.int x))) r G M
  | _ => none
def op_inc (i : Nat) (n : Int32) (k : vD) : vD := fun L st G M => match L.getD i none with
  | some (.int x) => if lgb L i then none else k (L.set i (some (.int (x + n)))) st G M
  | _ => none
def op_bin (f : Int32 → Int32 → Int32) (k : vD) : vD := fun L st G M => match st with
  | .int y :: .int x :: r => k L (.int (f x y) :: r) G M
  | _ => none
def op_div (f : Int32 → Int32 → Int32) (k : vD) : vD := fun L st G M => match st with
  | .int y :: .int x :: r => if y = 0 then none else k L (.int (f x y) :: r) G M
  | _ => none
def op_dup (k : vD) : vD := fun L st G M => match st with
  | v :: r => if v.category = 1 then k L (v :: v :: r) G M else none
  | _ => none
def op_dup2 (k : vD) : vD := fun L st G M => match st with
  | v :: w :: r => if v.category = 1 ∧ w.category = 1 then k L (v :: w :: v :: w :: r) G M else none
  | _ => none
def op_pop (k : vD) : vD := fun L st G M => match st with
  | v :: r => if v.category = 1 then k L r G M else none
  | _ => none
def op_ifeq (kt kf : vD) : vD := fun L st G M => match st with
  | .int x :: r => if x = 0 then kt L r G M else kf L r G M
  | _ => none
def op_ifne (kt kf : vD) : vD := fun L st G M => match st with
  | .int x :: r => if x = 0 then kf L r G M else kt L r G M
  | _ => none
def op_iflt (kt kf : vD) : vD := fun L st G M => match st with
  | .int x :: r => if x < 0 then kt L r G M else kf L r G M
  | _ => none
def op_ifge (kt kf : vD) : vD := fun L st G M => match st with
  | .int x :: r => if 0 ≤ x then kt L r G M else kf L r G M
  | _ => none
def op_ifgt (kt kf : vD) : vD := fun L st G M => match st with
  | .int x :: r => if 0 < x then kt L r G M else kf L r G M
  | _ => none
def op_ifle (kt kf : vD) : vD := fun L st G M => match st with
  | .int x :: r => if x ≤ 0 then kt L r G M else kf L r G M
  | _ => none
def op_iceq (kt kf : vD) : vD := fun L st G M => match st with
  | .int y :: .int x :: r => if x = y then kt L r G M else kf L r G M
  | _ => none
def op_icne (kt kf : vD) : vD := fun L st G M => match st with
  | .int y :: .int x :: r => if x = y then kf L r G M else kt L r G M
  | _ => none
def op_iclt (kt kf : vD) : vD := fun L st G M => match st with
  | .int y :: .int x :: r => if x < y then kt L r G M else kf L r G M
  | _ => none
def op_icge (kt kf : vD) : vD := fun L st G M => match st with
  | .int y :: .int x :: r => if y ≤ x then kt L r G M else kf L r G M
  | _ => none
def op_icgt (kt kf : vD) : vD := fun L st G M => match st with
  | .int y :: .int x :: r => if y < x then kt L r G M else kf L r G M
  | _ => none
def op_icle (kt kf : vD) : vD := fun L st G M => match st with
  | .int y :: .int x :: r => if x ≤ y then kt L r G M else kf L r G M
  | _ => none
def op_jmp (pc : Nat) : vD := fun L st G M => some (.inl (pc, L, st, G, M))
def op_seq (pj : Nat) (a b : vD) : vD := fun L st G M => match a L st G M with
  | some (.inl (p, L', st', G', M')) => if p = pj then b L' st' G' M' else some (.inl (p, L', st', G', M'))
  | o => o
def op_loop (ph : Nat) (b : vD) : Nat → vD
  | 0 => fun _ _ _ _ => none
  | n + 1 => fun L st G M => match b L st G M with
    | some (.inl (p, L', st', G', M')) => if p = ph then op_loop ph b n L' st' G' M' else some (.inl (p, L', st', G', M'))
    | o => o
/-- forget locals: keep those of which the list says true -/
def op_kil (ks : List Bool) (k : vD) : vD := fun L st G M => k (List.zipWith (fun b v => if b then v else none) ks L) st G M
def op_ret : vD := fun _ st G M => match st with
  | [.int x] => some (.inr (some (.int x), G, M))
  | _ => none
def op_zret : vD := fun _ st G M => match st with
  | [.int x] => if x = 0 ∨ x = 1 then some (.inr (some (.int x), G, M)) else none
  | _ => none
def op_vret : vD := fun _ st G M => match st with
  | [] => some (.inr (none, G, M))
  | _ => none
def op_aret : vD := fun _ st G M => match st with
  | [.ref x] => some (.inr (some (.ref x), G, M))
  | _ => none
/-- the object is there and of that kind -/
def gAt (G : vG) (a c : Nat) : Bool := decide (a < G.1) && (gC G a == c)
def op_gfi (c j : Nat) (k : vD) : vD := fun L st G M => match st with
  | .ref a :: r => if gAt G a c then k L (.int (M a j) :: r) G M else none
  | _ => none
def op_gfr (c j : Nat) (k : vD) : vD := fun L st G M => match st with
  | .ref a :: r => if gAt G a c then (match gR G a j with
    | some b => k L (.ref b :: r) G M
    | none => none) else none
  | _ => none
def op_pfi (c j : Nat) (k : vD) : vD := fun L st G M => match st with
  | .int x :: .ref a :: r => if gAt G a c then k L r G (mset M a j x) else none
  | _ => none
/-- the index is within -/
def inB (i : Int32) (n : Nat) : Bool := decide (0 ≤ i) && decide (i.toNatClampNeg < n)
def op_ial (k : vD) : vD := fun L st G M => match st with
  | .int i :: .ref a :: r => if gAt G a 100 && inB i (gL G a) then k L (.int (M a i.toNatClampNeg) :: r) G M else none
  | _ => none
def op_ias (k : vD) : vD := fun L st G M => match st with
  | .int x :: .int i :: .ref a :: r => if gAt G a 100 && inB i (gL G a) then k L r G (mset M a i.toNatClampNeg x) else none
  | _ => none
def op_aal (t : Nat) (k : vD) : vD := fun L st G M => match st with
  | .int i :: .ref a :: r => if gAt G a (100 + t) && inB i (gL G a) then (match gR G a i.toNatClampNeg with
    | some b => k L (.ref b :: r) G M
    | none => none) else none
  | _ => none
def op_gst (t : Nat) (k : vD) : vD := fun L st G M => k L (.ref (1000 + t) :: st) G M
def op_sal (t : Nat) (k : vD) : vD := fun L st G M => match st with
  | .int i :: .ref a :: r => if a = 1000 + t ∧ inB i 6 = true then k L (.int (sV t i.toNatClampNeg) :: r) G M else none
  | _ => none
def op_cal (n : Nat) (f : vF) (k : vD) : vD := fun L st G M => if n ≤ st.length ∧ st.length ≤ n + 4 then (match f (st.take n).reverse G M with
  | some (some v, G', M') => k L (v :: st.drop n) G' M'
  | some (none, G', M') => k L (st.drop n) G' M'
  | none => none) else none
def op_calV (c n : Nat) (f : vF) (k : vD) : vD := fun L st G M => match st.drop n with
  | .ref a :: r => if gAt G a c ∧ r.length ≤ 4 then (match f (.ref a :: (st.take n).reverse) G M with
    | some (some v, G', M') => k L (v :: r) G' M'
    | some (none, G', M') => k L r G' M'
    | none => none) else none
  | _ => none
def op_acp (k : vD) : vD := fun L st G M => match st with
  | .int n :: .int dp :: .ref d :: .int sp :: .ref a :: r => if gAt G a 100 && gAt G d 100 && decide (0 ≤ n) && decide (0 ≤ dp) && decide (0 ≤ sp) && decide (sp.toNatClampNeg + n.toNatClampNeg ≤ gL G a) && decide (dp.toNatClampNeg + n.toNatClampNeg ≤ gL G d) && decide (r.length ≤ 4) then k L r G (mcpy M a d sp.toNatClampNeg dp.toNatClampNeg n.toNatClampNeg) else none
  | _ => none
def en (as : List Value) (nL : Nat) : vL := as.map some ++ List.replicate (nL - as.length) none
def runD (d : vD) (nL : Nat) : vF := fun as G M => if as.length ≤ nL ∧ as.all (fun v => v.category == 1) = true then (match d (en as nL) [] G M with
  | some (.inr r) => some r
  | _ => none) else none
end
section
/-! ===== the machine follows the operations ===== -/
section SND
variable {p : Program} {l : Launch} {e : Env} {s : State} {m : MethodId} {args : Array Value} {below : List Frame} {meth : Method} {c : Code} {D : va_G} {cx : Nat → ClassId} {ad : Nat → Nat} {A : Nat → Prop}
variable {y : MethodName} {cc : ByteArray} {nL : Nat} {ret : Option FieldType} {lev mc ms : Nat} {g0 : vG} {pc pc' : Nat} {k : vD}
theorem Rs.go (hk : Snd y cc nL ret lev mc ms g0 pc' k) (F : Fx p s m args meth c D cx ad A y cc nL ret) {H : Heap} {locs : List Loc} {G : vG} {L2 : vL} {st2 : List Value} {G2 : vG} {M2 : vM} {out : vJ ⊕ vR} (ho : k L2 st2 G2 M2 = some out) {g : JFrame}
    (hW : ∀ Q : State → Prop, (∀ (H2 : Heap) (locs2 : List Loc) (ls2 : Array Slot), Iv D cx ad A mc ms g0 s H2 locs2 G2 M2 → lR ad L2 ls2 nL → W p l e (rmL lev mc ms) s m args below meth c H2 locs2 (G2.1 - g0.1) (G2.2.1 - g0.2.1) Q (F0 m pc' ls2 (st2.map (cvA ad)))) → W p l e (rmL lev mc ms) s m args below meth c H locs (G.1 - g0.1) (G.2.1 - g0.2.1) Q g) :
    Rs p l e s m args below meth c D cx ad A nL lev mc ms g0 H locs G g out := by
  match out, ho with
  | .inl (pc2, L', st', G', M'), ho => exact fun Q hQ => hW Q (fun H2 locs2 ls2 hI2 hL2 => hk p l e s m args below meth c D cx ad A F H2 locs2 ls2 L2 st2 G2 M2 hI2 hL2 _ ho Q hQ)
  | .inr (v, G', M'), ho => exact hW _ (fun H2 locs2 ls2 hI2 hL2 => hk p l e s m args below meth c D cx ad A F H2 locs2 ls2 L2 st2 G2 M2 hI2 hL2 _ ho)
theorem cvA_cat (v : Value) : (cvA ad v).category = v.category := by cases v <;> rfl
theorem lR_at {L : vL} {ls : Array Slot} {i : Nat} {v : Value} (h : lR ad L ls nL) (hi : L.getD i none = some v) : ls[i]? = some (.val (cvA ad v)) := by
  refine h.2.2 i v ?_
  rw [List.getD_eq_getElem?_getD] at hi
  cases hL : L[i]? with
  | none => rw [hL] at hi; cases hi
  | some w => rw [hL] at hi; exact congrArg some hi
def prs (ad : Nat → Nat) (L : vL) : List (Nat × Value) := (List.range L.length).filterMap (fun i => (L.getD i none).map (fun v => (i, cvA ad v)))
theorem lR_has {L : vL} {ls : Array Slot} (h : lR ad L ls nL) : lv_has ls nL (prs ad L) := by
  refine ⟨h.1, h.2.1, fun q hq => ?_⟩
  obtain ⟨i, -, hi⟩ := List.mem_filterMap.mp hq
  cases hv : L.getD i none with
  | none => rw [hv] at hi; cases hi
  | some v =>
    rw [hv] at hi
    cases hi
    exact lR_at h hv
theorem prs_in {L : vL} {j : Nat} {v : Value} (h : L[j]? = some (some v)) : (j, cvA ad v) ∈ prs ad L := by
  refine List.mem_filterMap.mpr ⟨j, List.mem_range.mpr (List.getElem?_eq_some_iff.mp h).1, ?_⟩
  rw [List.getD_eq_getElem?_getD, h]
  rfl
theorem lR_set1 {L : vL} {ls : Array Slot} {i : Nat} {v : Value} (hg : lgb L i = false) (h : lv_has ls nL ((i, cvA ad v) :: (prs ad L).filter (fun q => !(q.1 == i) && !(q.1 + 1 == i && q.2.category == 2)))) : lR ad (L.set i (some v)) ls nL := by
  refine ⟨h.1, h.2.1, fun j w hj => ?_⟩
  by_cases hji : j = i
  · subst hji
    have hl : j < L.length := by
      have := (List.getElem?_eq_some_iff.mp hj).1
      simpa using this
    rw [List.getElem?_set_self hl] at hj
    cases hj
    exact h.2.2 (j, cvA ad v) List.mem_cons_self
  · rw [List.getElem?_set_ne (fun q => hji q.symm)] at hj
    refine h.2.2 (j, cvA ad w) (List.mem_cons_of_mem _ (List.mem_filter.mpr ⟨prs_in hj, ?_⟩))
    have hb : (j + 1 == i && (cvA ad w).category == 2) = false := by
      by_cases hj1 : j + 1 = i
      · subst hj1
        have : lgb L (j + 1) = (w.category == 2) := by
          show (match L.getD j none with
            | some v => v.category == 2
            | none => false) = _
          rw [List.getD_eq_getElem?_getD, hj]
          rfl
        rw [this] at hg
        rw [cvA_cat, hg]
        simp
      · simp [hj1]
    simp [hji, hb]
theorem s_con {n : Int} {x : Int32} (hd : decode cc pc = .ok (.iconst n, 1)) (hv : Int32.ofInt n = x) (hp : pc + 1 = pc') (hk : Snd y cc nL ret lev mc ms g0 pc' k) : Snd y cc nL ret lev mc ms g0 pc (op_con x k) := by
  subst hp
  intro p l e s m args below meth c D cx ad A F H locs ls L st G M hI hL out ho
  obtain ⟨hx, hb, -⟩ := id F
  exact Rs.go (G2 := G) hk F ho (fun Q kk => lv_iconst hx hb hd hv (kk H locs ls hI hL))
theorem s_bip {n : Int} {x : Int32} (hd : decode cc pc = .ok (.bipush n, 2)) (hv : (Int8.ofInt n).toInt32 = x) (hp : pc + 2 = pc') (hk : Snd y cc nL ret lev mc ms g0 pc' k) : Snd y cc nL ret lev mc ms g0 pc (op_con x k) := by
  subst hp
  intro p l e s m args below meth c D cx ad A F H locs ls L st G M hI hL out ho
  obtain ⟨hx, hb, -⟩ := id F
  exact Rs.go (G2 := G) hk F ho (fun Q kk => lv_bipush hx hb hd hv (kk H locs ls hI hL))
theorem s_sip {n : Int} {x : Int32} (hd : decode cc pc = .ok (.sipush n, 3)) (hv : (Int16.ofInt n).toInt32 = x) (hp : pc + 3 = pc') (hk : Snd y cc nL ret lev mc ms g0 pc' k) : Snd y cc nL ret lev mc ms g0 pc (op_con x k) := by
  subst hp
  intro p l e s m args below meth c D cx ad A F H locs ls L st G M hI hL out ho
  obtain ⟨hx, hb, -⟩ := id F
  exact Rs.go (G2 := G) hk F ho (fun Q kk => lv_sipush hx hb hd hv (kk H locs ls hI hL))
theorem s_ldc {n : Nat} {x : Int32} (hd : decode cc pc = .ok (.ldc n, 2)) (hw : Cond.constant y.cls n x ∈ lw_good) (hp : pc + 2 = pc') (hk : Snd y cc nL ret lev mc ms g0 pc' k) : Snd y cc nL ret lev mc ms g0 pc (op_con x k) := by
  subst hp
  intro p l e s m args below meth c D cx ad A F H locs ls L st G M hI hL out ho
  obtain ⟨hx, hb, -, hown, hts, -⟩ := id F
  exact Rs.go (G2 := G) hk F ho (fun Q kk => lv_ldc hx hb hown (hts _ hw) hd (kk H locs ls hI hL))
theorem s_ldw {n : Nat} {x : Int32} (hd : decode cc pc = .ok (.ldc_w n, 3)) (hw : Cond.constant y.cls n x ∈ lw_good) (hp : pc + 3 = pc') (hk : Snd y cc nL ret lev mc ms g0 pc' k) : Snd y cc nL ret lev mc ms g0 pc (op_con x k) := by
  subst hp
  intro p l e s m args below meth c D cx ad A F H locs ls L st G M hI hL out ho
  obtain ⟨hx, hb, -, hown, hts, -⟩ := id F
  exact Rs.go (G2 := G) hk F ho (fun Q kk => lv_ldcw hx hb hown (hts _ hw) hd (kk H locs ls hI hL))
theorem s_ildn {i : Nat} {j : Fin 4} (hd : decode cc pc = .ok (.iload_n j, 1)) (hi : (j : Nat) = i) (hp : pc + 1 = pc') (hk : Snd y cc nL ret lev mc ms g0 pc' k) : Snd y cc nL ret lev mc ms g0 pc (op_ild i k) := by
  subst hp
  intro p l e s m args below meth c D cx ad A F H locs ls L st G M hI hL out ho
  obtain ⟨hx, hb, -⟩ := id F
  unfold op_ild at ho
  split at ho
  · next x hg => exact Rs.go (G2 := G) hk F ho (fun Q kk => lv_iload_n hx hb hd hi (lR_at hL hg) (kk H locs ls hI hL))
  · cases ho
theorem s_ild {i : Nat} (hd : decode cc pc = .ok (.iload i, 2)) (hp : pc + 2 = pc') (hk : Snd y cc nL ret lev mc ms g0 pc' k) : Snd y cc nL ret lev mc ms g0 pc (op_ild i k) := by
  subst hp
  intro p l e s m args below meth c D cx ad A F H locs ls L st G M hI hL out ho
  obtain ⟨hx, hb, -⟩ := id F
  unfold op_ild at ho
  split at ho
  · next x hg => exact Rs.go (G2 := G) hk F ho (fun Q kk => lv_iload hx hb hd (lR_at hL hg) (kk H locs ls hI hL))
  · cases ho
theorem s_aldn {i : Nat} {j : Fin 4} (hd : decode cc pc = .ok (.aload_n j, 1)) (hi : (j : Nat) = i) (hp : pc + 1 = pc') (hk : Snd y cc nL ret lev mc ms g0 pc' k) : Snd y cc nL ret lev mc ms g0 pc (op_ald i k) := by
  subst hp
  intro p l e s m args below meth c D cx ad A F H locs ls L st G M hI hL out ho
  obtain ⟨hx, hb, -⟩ := id F
  unfold op_ald at ho
  split at ho
  · next x hg => exact Rs.go (G2 := G) hk F ho (fun Q kk => lv_aload_n hx hb hd hi (lR_at hL hg) (kk H locs ls hI hL))
  · cases ho
theorem s_ald {i : Nat} (hd : decode cc pc = .ok (.aload i, 2)) (hp : pc + 2 = pc') (hk : Snd y cc nL ret lev mc ms g0 pc' k) : Snd y cc nL ret lev mc ms g0 pc (op_ald i k) := by
  subst hp
  intro p l e s m args below meth c D cx ad A F H locs ls L st G M hI hL out ho
  obtain ⟨hx, hb, -⟩ := id F
  unfold op_ald at ho
  split at ho
  · next x hg => exact Rs.go (G2 := G) hk F ho (fun Q kk => lv_aload hx hb hd (lR_at hL hg) (kk H locs ls hI hL))
  · cases ho
theorem s_istn {i : Nat} {j : Fin 4} (hd : decode cc pc = .ok (.istore_n j, 1)) (hi : (j : Nat) = i) (hn : i < nL) (hp : pc + 1 = pc') (hk : Snd y cc nL ret lev mc ms g0 pc' k) : Snd y cc nL ret lev mc ms g0 pc (op_ist i k) := by
  subst hp
  intro p l e s m args below meth c D cx ad A F H locs ls L st G M hI hL out ho
  obtain ⟨hx, hb, -⟩ := id F
  unfold op_ist at ho
  split at ho
  · next x r =>
    split at ho
    · cases ho
    · next hg => exact Rs.go (G2 := G) hk F ho (fun Q kk => lv_istore_n hx hb hd hi (lR_has hL) hn rfl (fun ls' h' => kk H locs ls' hI (lR_set1 (v := .int x) (by simpa using hg) h')))
  · cases ho
theorem s_ist {i : Nat} (hd : decode cc pc = .ok (.istore i, 2)) (hn : i < nL) (hp : pc + 2 = pc') (hk : Snd y cc nL ret lev mc ms g0 pc' k) : Snd y cc nL ret lev mc ms g0 pc (op_ist i k) := by
  subst hp
  intro p l e s m args below meth c D cx ad A F H locs ls L st G M hI hL out ho
  obtain ⟨hx, hb, -⟩ := id F
  unfold op_ist at ho
  split at ho
  · next x r =>
    split at ho
    · cases ho
    · next hg => exact Rs.go (G2 := G) hk F ho (fun Q kk => lv_istore hx hb hd (lR_has hL) hn rfl (fun ls' h' => kk H locs ls' hI (lR_set1 (v := .int x) (by simpa using hg) h')))
  · cases ho
end SND
end
section
/-! ===== the machine follows the operations, 2: numbers, branches, joins, loops, returns ===== -/
section SND2
variable {p : Program} {l : Launch} {e : Env} {s : State} {m : MethodId} {args : Array Value} {below : List Frame} {meth : Method} {c : Code} {D : va_G} {cx : Nat → ClassId} {ad : Nat → Nat} {A : Nat → Prop}
variable {y : MethodName} {cc : ByteArray} {nL : Nat} {ret : Option FieldType} {lev mc ms : Nat} {g0 : vG} {pc pc' pt : Nat} {k kt kf : vD}
theorem s_inc {i : Nat} {n : Int} {x : Int32} (hd : decode cc pc = .ok (.iinc i n, 3)) (hv : Int32.ofInt n = x) (hn : i < nL) (hp : pc + 3 = pc') (hk : Snd y cc nL ret lev mc ms g0 pc' k) : Snd y cc nL ret lev mc ms g0 pc (op_inc i x k) := by
  subst hp
  intro p l e s m args below meth c D cx ad A F H locs ls L st G M hI hL out ho
  obtain ⟨hx, hb, -⟩ := id F
  unfold op_inc at ho
  split at ho
  · next z hz =>
    split at ho
    · cases ho
    · next hg =>
      have hm : (i, Value.int z) ∈ prs ad L := by
        have h1 : L[i]? = some (some (.int z)) := by
          rw [List.getD_eq_getElem?_getD] at hz
          cases hL : L[i]? with
          | none => rw [hL] at hz; cases hz
          | some w => rw [hL] at hz; exact congrArg some hz
        exact prs_in (ad := ad) h1
      obtain ⟨j, hj⟩ := List.getElem?_of_mem hm
      exact Rs.go (G2 := G) hk F ho (fun Q kk => lv_iinc (v := z + x) hx hb hd (lR_has hL) hj (by rw [hv]) hn rfl (fun ls' h' => kk H locs ls' hI (lR_set1 (v := .int (z + x)) (by simpa using hg) h')))
  · cases ho
def f_add : Int32 → Int32 → Int32 := fun x y => x + y
theorem s_add (hd : decode cc pc = .ok (.iadd, 1)) (hp : pc + 1 = pc') (hk : Snd y cc nL ret lev mc ms g0 pc' k) : Snd y cc nL ret lev mc ms g0 pc (op_bin f_add k) := by
  subst hp
  intro p l e s m args below meth c D cx ad A F H locs ls L st G M hI hL out ho
  obtain ⟨hx, hb, -⟩ := id F
  unfold op_bin at ho
  split at ho
  · exact Rs.go (G2 := G) hk F ho (fun Q kk => lv_iadd hx hb hd (kk H locs ls hI hL))
  · cases ho
def f_sub : Int32 → Int32 → Int32 := fun x y => x - y
theorem s_sub (hd : decode cc pc = .ok (.isub, 1)) (hp : pc + 1 = pc') (hk : Snd y cc nL ret lev mc ms g0 pc' k) : Snd y cc nL ret lev mc ms g0 pc (op_bin f_sub k) := by
  subst hp
  intro p l e s m args below meth c D cx ad A F H locs ls L st G M hI hL out ho
  obtain ⟨hx, hb, -⟩ := id F
  unfold op_bin at ho
  split at ho
  · exact Rs.go (G2 := G) hk F ho (fun Q kk => lv_isub hx hb hd (kk H locs ls hI hL))
  · cases ho
def f_mul : Int32 → Int32 → Int32 := fun x y => x * y
theorem s_mul (hd : decode cc pc = .ok (.imul, 1)) (hp : pc + 1 = pc') (hk : Snd y cc nL ret lev mc ms g0 pc' k) : Snd y cc nL ret lev mc ms g0 pc (op_bin f_mul k) := by
  subst hp
  intro p l e s m args below meth c D cx ad A F H locs ls L st G M hI hL out ho
  obtain ⟨hx, hb, -⟩ := id F
  unfold op_bin at ho
  split at ho
  · exact Rs.go (G2 := G) hk F ho (fun Q kk => lv_imul hx hb hd (kk H locs ls hI hL))
  · cases ho
def f_and : Int32 → Int32 → Int32 := fun x y => x &&& y
theorem s_and (hd : decode cc pc = .ok (.iand, 1)) (hp : pc + 1 = pc') (hk : Snd y cc nL ret lev mc ms g0 pc' k) : Snd y cc nL ret lev mc ms g0 pc (op_bin f_and k) := by
  subst hp
  intro p l e s m args below meth c D cx ad A F H locs ls L st G M hI hL out ho
  obtain ⟨hx, hb, -⟩ := id F
  unfold op_bin at ho
  split at ho
  · exact Rs.go (G2 := G) hk F ho (fun Q kk => lv_iand hx hb hd (kk H locs ls hI hL))
  · cases ho
def f_or : Int32 → Int32 → Int32 := fun x y => x ||| y
theorem s_or (hd : decode cc pc = .ok (.ior, 1)) (hp : pc + 1 = pc') (hk : Snd y cc nL ret lev mc ms g0 pc' k) : Snd y cc nL ret lev mc ms g0 pc (op_bin f_or k) := by
  subst hp
  intro p l e s m args below meth c D cx ad A F H locs ls L st G M hI hL out ho
  obtain ⟨hx, hb, -⟩ := id F
  unfold op_bin at ho
  split at ho
  · exact Rs.go (G2 := G) hk F ho (fun Q kk => lv_ior hx hb hd (kk H locs ls hI hL))
  · cases ho
def f_xor : Int32 → Int32 → Int32 := fun x y => x ^^^ y
theorem s_xor (hd : decode cc pc = .ok (.ixor, 1)) (hp : pc + 1 = pc') (hk : Snd y cc nL ret lev mc ms g0 pc' k) : Snd y cc nL ret lev mc ms g0 pc (op_bin f_xor k) := by
  subst hp
  intro p l e s m args below meth c D cx ad A F H locs ls L st G M hI hL out ho
  obtain ⟨hx, hb, -⟩ := id F
  unfold op_bin at ho
  split at ho
  · exact Rs.go (G2 := G) hk F ho (fun Q kk => lv_ixor hx hb hd (kk H locs ls hI hL))
  · cases ho
def f_shl : Int32 → Int32 → Int32 := fun x y => x <<< (y &&& 31)
theorem s_shl (hd : decode cc pc = .ok (.ishl, 1)) (hp : pc + 1 = pc') (hk : Snd y cc nL ret lev mc ms g0 pc' k) : Snd y cc nL ret lev mc ms g0 pc (op_bin f_shl k) := by
  subst hp
  intro p l e s m args below meth c D cx ad A F H locs ls L st G M hI hL out ho
  obtain ⟨hx, hb, -⟩ := id F
  unfold op_bin at ho
  split at ho
  · exact Rs.go (G2 := G) hk F ho (fun Q kk => lv_ishl hx hb hd (kk H locs ls hI hL))
  · cases ho
def f_shr : Int32 → Int32 → Int32 := fun x y => x >>> (y &&& 31)
theorem s_shr (hd : decode cc pc = .ok (.ishr, 1)) (hp : pc + 1 = pc') (hk : Snd y cc nL ret lev mc ms g0 pc' k) : Snd y cc nL ret lev mc ms g0 pc (op_bin f_shr k) := by
  subst hp
  intro p l e s m args below meth c D cx ad A F H locs ls L st G M hI hL out ho
  obtain ⟨hx, hb, -⟩ := id F
  unfold op_bin at ho
  split at ho
  · exact Rs.go (G2 := G) hk F ho (fun Q kk => lv_ishr hx hb hd (kk H locs ls hI hL))
  · cases ho
def f_ushr : Int32 → Int32 → Int32 := fun x y => (x.toUInt32 >>> (y.toUInt32 &&& Int32.toUInt32 31)).toInt32
theorem s_ushr (hd : decode cc pc = .ok (.iushr, 1)) (hp : pc + 1 = pc') (hk : Snd y cc nL ret lev mc ms g0 pc' k) : Snd y cc nL ret lev mc ms g0 pc (op_bin f_ushr k) := by
  subst hp
  intro p l e s m args below meth c D cx ad A F H locs ls L st G M hI hL out ho
  obtain ⟨hx, hb, -⟩ := id F
  unfold op_bin at ho
  split at ho
  · exact Rs.go (G2 := G) hk F ho (fun Q kk => lv_iushr hx hb hd rfl (kk H locs ls hI hL))
  · cases ho
def f_div : Int32 → Int32 → Int32 := fun x y => x / y
theorem s_div (hd : decode cc pc = .ok (.idiv, 1)) (hp : pc + 1 = pc') (hk : Snd y cc nL ret lev mc ms g0 pc' k) : Snd y cc nL ret lev mc ms g0 pc (op_div f_div k) := by
  subst hp
  intro p l e s m args below meth c D cx ad A F H locs ls L st G M hI hL out ho
  obtain ⟨hx, hb, -⟩ := id F
  unfold op_div at ho
  split at ho
  · split at ho
    · cases ho
    · next hne => exact Rs.go (G2 := G) hk F ho (fun Q kk => lv_idiv hx hb hd hne (kk H locs ls hI hL))
  · cases ho
def f_rem : Int32 → Int32 → Int32 := fun x y => x - x / y * y
theorem s_rem (hd : decode cc pc = .ok (.irem, 1)) (hp : pc + 1 = pc') (hk : Snd y cc nL ret lev mc ms g0 pc' k) : Snd y cc nL ret lev mc ms g0 pc (op_div f_rem k) := by
  subst hp
  intro p l e s m args below meth c D cx ad A F H locs ls L st G M hI hL out ho
  obtain ⟨hx, hb, -⟩ := id F
  unfold op_div at ho
  split at ho
  · split at ho
    · cases ho
    · next hne => exact Rs.go (G2 := G) hk F ho (fun Q kk => lv_irem hx hb hd hne (kk H locs ls hI hL))
  · cases ho
theorem s_dup (hd : decode cc pc = .ok (.dup, 1)) (hp : pc + 1 = pc') (hk : Snd y cc nL ret lev mc ms g0 pc' k) : Snd y cc nL ret lev mc ms g0 pc (op_dup k) := by
  subst hp
  intro p l e s m args below meth c D cx ad A F H locs ls L st G M hI hL out ho
  obtain ⟨hx, hb, -⟩ := id F
  unfold op_dup at ho
  split at ho
  · next v r =>
    split at ho
    · next hc => exact Rs.go (G2 := G) hk F ho (fun Q kk => lv_dup hx hb hd (by rw [cvA_cat]; exact hc) (kk H locs ls hI hL))
    · cases ho
  · cases ho
theorem s_dup2 (hd : decode cc pc = .ok (.dup2, 1)) (hp : pc + 1 = pc') (hk : Snd y cc nL ret lev mc ms g0 pc' k) : Snd y cc nL ret lev mc ms g0 pc (op_dup2 k) := by
  subst hp
  intro p l e s m args below meth c D cx ad A F H locs ls L st G M hI hL out ho
  obtain ⟨hx, hb, -⟩ := id F
  unfold op_dup2 at ho
  split at ho
  · next v w r =>
    split at ho
    · next hc => exact Rs.go (G2 := G) hk F ho (fun Q kk => lv_dup2_11 hx hb hd (by rw [cvA_cat]; exact hc.1) (by rw [cvA_cat]; exact hc.2) (kk H locs ls hI hL))
    · cases ho
  · cases ho
theorem s_pop (hd : decode cc pc = .ok (.pop, 1)) (hp : pc + 1 = pc') (hk : Snd y cc nL ret lev mc ms g0 pc' k) : Snd y cc nL ret lev mc ms g0 pc (op_pop k) := by
  subst hp
  intro p l e s m args below meth c D cx ad A F H locs ls L st G M hI hL out ho
  obtain ⟨hx, hb, -⟩ := id F
  unfold op_pop at ho
  split at ho
  · next v r =>
    split at ho
    · next hc => exact Rs.go (G2 := G) hk F ho (fun Q kk => lv_pop hx hb hd (by rw [cvA_cat]; exact hc) (kk H locs ls hI hL))
    · cases ho
  · cases ho
theorem s_ifeq {off : Int} (hd : decode cc pc = .ok (.ifCond .eq off, 3)) (ht : (pc : Int) + off = (pt : Int)) (hp : pc + 3 = pc') (hkt : Snd y cc nL ret lev mc ms g0 pt kt) (hkf : Snd y cc nL ret lev mc ms g0 pc' kf) : Snd y cc nL ret lev mc ms g0 pc (op_ifeq kt kf) := by
  subst hp
  intro p l e s m args below meth c D cx ad A F H locs ls L st G M hI hL out ho
  obtain ⟨hx, hb, -⟩ := id F
  unfold op_ifeq at ho
  split at ho
  · split at ho
    · next hc => exact Rs.go (G2 := G) hkt F ho (fun Q kk => lv_if_eq hx hb hd ht (fun _ => kk H locs ls hI hL) (fun h => absurd hc h))
    · next hc => exact Rs.go (G2 := G) hkf F ho (fun Q kk => lv_if_eq hx hb hd ht (fun h => absurd h hc) (fun _ => kk H locs ls hI hL))
  · cases ho
theorem s_iceq {off : Int} (hd : decode cc pc = .ok (.if_icmp .eq off, 3)) (ht : (pc : Int) + off = (pt : Int)) (hp : pc + 3 = pc') (hkt : Snd y cc nL ret lev mc ms g0 pt kt) (hkf : Snd y cc nL ret lev mc ms g0 pc' kf) : Snd y cc nL ret lev mc ms g0 pc (op_iceq kt kf) := by
  subst hp
  intro p l e s m args below meth c D cx ad A F H locs ls L st G M hI hL out ho
  obtain ⟨hx, hb, -⟩ := id F
  unfold op_iceq at ho
  split at ho
  · split at ho
    · next hc => exact Rs.go (G2 := G) hkt F ho (fun Q kk => lv_icmp_eq hx hb hd ht (fun _ => kk H locs ls hI hL) (fun h => absurd hc h))
    · next hc => exact Rs.go (G2 := G) hkf F ho (fun Q kk => lv_icmp_eq hx hb hd ht (fun h => absurd h hc) (fun _ => kk H locs ls hI hL))
  · cases ho
theorem s_ifne {off : Int} (hd : decode cc pc = .ok (.ifCond .ne off, 3)) (ht : (pc : Int) + off = (pt : Int)) (hp : pc + 3 = pc') (hkt : Snd y cc nL ret lev mc ms g0 pt kt) (hkf : Snd y cc nL ret lev mc ms g0 pc' kf) : Snd y cc nL ret lev mc ms g0 pc (op_ifne kt kf) := by
  subst hp
  intro p l e s m args below meth c D cx ad A F H locs ls L st G M hI hL out ho
  obtain ⟨hx, hb, -⟩ := id F
  unfold op_ifne at ho
  split at ho
  · split at ho
    · next hc => exact Rs.go (G2 := G) hkf F ho (fun Q kk => lv_if_ne hx hb hd ht (fun h => absurd hc h) (fun _ => kk H locs ls hI hL))
    · next hc => exact Rs.go (G2 := G) hkt F ho (fun Q kk => lv_if_ne hx hb hd ht (fun _ => kk H locs ls hI hL) (fun h => absurd h hc))
  · cases ho
theorem s_icne {off : Int} (hd : decode cc pc = .ok (.if_icmp .ne off, 3)) (ht : (pc : Int) + off = (pt : Int)) (hp : pc + 3 = pc') (hkt : Snd y cc nL ret lev mc ms g0 pt kt) (hkf : Snd y cc nL ret lev mc ms g0 pc' kf) : Snd y cc nL ret lev mc ms g0 pc (op_icne kt kf) := by
  subst hp
  intro p l e s m args below meth c D cx ad A F H locs ls L st G M hI hL out ho
  obtain ⟨hx, hb, -⟩ := id F
  unfold op_icne at ho
  split at ho
  · split at ho
    · next hc => exact Rs.go (G2 := G) hkf F ho (fun Q kk => lv_icmp_ne hx hb hd ht (fun h => absurd hc h) (fun _ => kk H locs ls hI hL))
    · next hc => exact Rs.go (G2 := G) hkt F ho (fun Q kk => lv_icmp_ne hx hb hd ht (fun _ => kk H locs ls hI hL) (fun h => absurd h hc))
  · cases ho
theorem s_iflt {off : Int} (hd : decode cc pc = .ok (.ifCond .lt off, 3)) (ht : (pc : Int) + off = (pt : Int)) (hp : pc + 3 = pc') (hkt : Snd y cc nL ret lev mc ms g0 pt kt) (hkf : Snd y cc nL ret lev mc ms g0 pc' kf) : Snd y cc nL ret lev mc ms g0 pc (op_iflt kt kf) := by
  subst hp
  intro p l e s m args below meth c D cx ad A F H locs ls L st G M hI hL out ho
  obtain ⟨hx, hb, -⟩ := id F
  unfold op_iflt at ho
  split at ho
  · split at ho
    · next hc => exact Rs.go (G2 := G) hkt F ho (fun Q kk => lv_if_lt hx hb hd ht (fun _ => kk H locs ls hI hL) (fun h => absurd hc h))
    · next hc => exact Rs.go (G2 := G) hkf F ho (fun Q kk => lv_if_lt hx hb hd ht (fun h => absurd h hc) (fun _ => kk H locs ls hI hL))
  · cases ho
theorem s_iclt {off : Int} (hd : decode cc pc = .ok (.if_icmp .lt off, 3)) (ht : (pc : Int) + off = (pt : Int)) (hp : pc + 3 = pc') (hkt : Snd y cc nL ret lev mc ms g0 pt kt) (hkf : Snd y cc nL ret lev mc ms g0 pc' kf) : Snd y cc nL ret lev mc ms g0 pc (op_iclt kt kf) := by
  subst hp
  intro p l e s m args below meth c D cx ad A F H locs ls L st G M hI hL out ho
  obtain ⟨hx, hb, -⟩ := id F
  unfold op_iclt at ho
  split at ho
  · split at ho
    · next hc => exact Rs.go (G2 := G) hkt F ho (fun Q kk => lv_icmp_lt hx hb hd ht (fun _ => kk H locs ls hI hL) (fun h => absurd hc h))
    · next hc => exact Rs.go (G2 := G) hkf F ho (fun Q kk => lv_icmp_lt hx hb hd ht (fun h => absurd h hc) (fun _ => kk H locs ls hI hL))
  · cases ho
theorem s_ifge {off : Int} (hd : decode cc pc = .ok (.ifCond .ge off, 3)) (ht : (pc : Int) + off = (pt : Int)) (hp : pc + 3 = pc') (hkt : Snd y cc nL ret lev mc ms g0 pt kt) (hkf : Snd y cc nL ret lev mc ms g0 pc' kf) : Snd y cc nL ret lev mc ms g0 pc (op_ifge kt kf) := by
  subst hp
  intro p l e s m args below meth c D cx ad A F H locs ls L st G M hI hL out ho
  obtain ⟨hx, hb, -⟩ := id F
  unfold op_ifge at ho
  split at ho
  · split at ho
    · next hc => exact Rs.go (G2 := G) hkt F ho (fun Q kk => lv_if_ge hx hb hd ht (fun _ => kk H locs ls hI hL) (fun h => absurd hc h))
    · next hc => exact Rs.go (G2 := G) hkf F ho (fun Q kk => lv_if_ge hx hb hd ht (fun h => absurd h hc) (fun _ => kk H locs ls hI hL))
  · cases ho
theorem s_icge {off : Int} (hd : decode cc pc = .ok (.if_icmp .ge off, 3)) (ht : (pc : Int) + off = (pt : Int)) (hp : pc + 3 = pc') (hkt : Snd y cc nL ret lev mc ms g0 pt kt) (hkf : Snd y cc nL ret lev mc ms g0 pc' kf) : Snd y cc nL ret lev mc ms g0 pc (op_icge kt kf) := by
  subst hp
  intro p l e s m args below meth c D cx ad A F H locs ls L st G M hI hL out ho
  obtain ⟨hx, hb, -⟩ := id F
  unfold op_icge at ho
  split at ho
  · split at ho
    · next hc => exact Rs.go (G2 := G) hkt F ho (fun Q kk => lv_icmp_ge hx hb hd ht (fun _ => kk H locs ls hI hL) (fun h => absurd hc h))
    · next hc => exact Rs.go (G2 := G) hkf F ho (fun Q kk => lv_icmp_ge hx hb hd ht (fun h => absurd h hc) (fun _ => kk H locs ls hI hL))
  · cases ho
theorem s_ifgt {off : Int} (hd : decode cc pc = .ok (.ifCond .gt off, 3)) (ht : (pc : Int) + off = (pt : Int)) (hp : pc + 3 = pc') (hkt : Snd y cc nL ret lev mc ms g0 pt kt) (hkf : Snd y cc nL ret lev mc ms g0 pc' kf) : Snd y cc nL ret lev mc ms g0 pc (op_ifgt kt kf) := by
  subst hp
  intro p l e s m args below meth c D cx ad A F H locs ls L st G M hI hL out ho
  obtain ⟨hx, hb, -⟩ := id F
  unfold op_ifgt at ho
  split at ho
  · split at ho
    · next hc => exact Rs.go (G2 := G) hkt F ho (fun Q kk => lv_if_gt hx hb hd ht (fun _ => kk H locs ls hI hL) (fun h => absurd hc h))
    · next hc => exact Rs.go (G2 := G) hkf F ho (fun Q kk => lv_if_gt hx hb hd ht (fun h => absurd h hc) (fun _ => kk H locs ls hI hL))
  · cases ho
theorem s_icgt {off : Int} (hd : decode cc pc = .ok (.if_icmp .gt off, 3)) (ht : (pc : Int) + off = (pt : Int)) (hp : pc + 3 = pc') (hkt : Snd y cc nL ret lev mc ms g0 pt kt) (hkf : Snd y cc nL ret lev mc ms g0 pc' kf) : Snd y cc nL ret lev mc ms g0 pc (op_icgt kt kf) := by
  subst hp
  intro p l e s m args below meth c D cx ad A F H locs ls L st G M hI hL out ho
  obtain ⟨hx, hb, -⟩ := id F
  unfold op_icgt at ho
  split at ho
  · split at ho
    · next hc => exact Rs.go (G2 := G) hkt F ho (fun Q kk => lv_icmp_gt hx hb hd ht (fun _ => kk H locs ls hI hL) (fun h => absurd hc h))
    · next hc => exact Rs.go (G2 := G) hkf F ho (fun Q kk => lv_icmp_gt hx hb hd ht (fun h => absurd h hc) (fun _ => kk H locs ls hI hL))
  · cases ho
theorem s_ifle {off : Int} (hd : decode cc pc = .ok (.ifCond .le off, 3)) (ht : (pc : Int) + off = (pt : Int)) (hp : pc + 3 = pc') (hkt : Snd y cc nL ret lev mc ms g0 pt kt) (hkf : Snd y cc nL ret lev mc ms g0 pc' kf) : Snd y cc nL ret lev mc ms g0 pc (op_ifle kt kf) := by
  subst hp
  intro p l e s m args below meth c D cx ad A F H locs ls L st G M hI hL out ho
  obtain ⟨hx, hb, -⟩ := id F
  unfold op_ifle at ho
  split at ho
  · split at ho
    · next hc => exact Rs.go (G2 := G) hkt F ho (fun Q kk => lv_if_le hx hb hd ht (fun _ => kk H locs ls hI hL) (fun h => absurd hc h))
    · next hc => exact Rs.go (G2 := G) hkf F ho (fun Q kk => lv_if_le hx hb hd ht (fun h => absurd h hc) (fun _ => kk H locs ls hI hL))
  · cases ho
theorem s_icle {off : Int} (hd : decode cc pc = .ok (.if_icmp .le off, 3)) (ht : (pc : Int) + off = (pt : Int)) (hp : pc + 3 = pc') (hkt : Snd y cc nL ret lev mc ms g0 pt kt) (hkf : Snd y cc nL ret lev mc ms g0 pc' kf) : Snd y cc nL ret lev mc ms g0 pc (op_icle kt kf) := by
  subst hp
  intro p l e s m args below meth c D cx ad A F H locs ls L st G M hI hL out ho
  obtain ⟨hx, hb, -⟩ := id F
  unfold op_icle at ho
  split at ho
  · split at ho
    · next hc => exact Rs.go (G2 := G) hkt F ho (fun Q kk => lv_icmp_le hx hb hd ht (fun _ => kk H locs ls hI hL) (fun h => absurd hc h))
    · next hc => exact Rs.go (G2 := G) hkf F ho (fun Q kk => lv_icmp_le hx hb hd ht (fun h => absurd h hc) (fun _ => kk H locs ls hI hL))
  · cases ho
theorem s_goto {off : Int} (hd : decode cc pc = .ok (.goto off, 3)) (ht : (pc : Int) + off = (pt : Int)) (hk : Snd y cc nL ret lev mc ms g0 pt k) : Snd y cc nL ret lev mc ms g0 pc k := by
  intro p l e s m args below meth c D cx ad A F H locs ls L st G M hI hL out ho
  obtain ⟨hx, hb, -⟩ := id F
  exact Rs.go (G2 := G) hk F ho (fun Q kk => lv_goto hx hb hd ht (kk H locs ls hI hL))
theorem s_jmp : Snd y cc nL ret lev mc ms g0 pc (op_jmp pc) := by
  intro p l e s m args below meth c D cx ad A F H locs ls L st G M hI hL out ho
  cases ho
  exact fun Q hQ => hQ H locs ls hI hL
theorem s_seq {a b : vD} {pj : Nat} (ha : Snd y cc nL ret lev mc ms g0 pc a) (hb : Snd y cc nL ret lev mc ms g0 pj b) : Snd y cc nL ret lev mc ms g0 pc (op_seq pj a b) := by
  intro p l e s m args below meth c D cx ad A F H locs ls L st G M hI hL out ho
  have h1 := ha p l e s m args below meth c D cx ad A F H locs ls L st G M hI hL
  unfold op_seq at ho
  split at ho
  · next p' L' st' G' M' he =>
    split at ho
    · next hj =>
      subst hj
      exact Rs.go hb F ho (fun Q kk => h1 _ he Q kk)
    · cases ho
      exact h1 _ he
  · exact h1 _ ho
theorem s_loop {b : vD} (hb : Snd y cc nL ret lev mc ms g0 pc b) (n : Nat) : Snd y cc nL ret lev mc ms g0 pc (op_loop pc b n) := by
  induction n with
  | zero =>
    intro p l e s m args below meth c D cx ad A F H locs ls L st G M hI hL out ho
    cases ho
  | succ n ih =>
    intro p l e s m args below meth c D cx ad A F H locs ls L st G M hI hL out ho
    have h1 := hb p l e s m args below meth c D cx ad A F H locs ls L st G M hI hL
    unfold op_loop at ho
    split at ho
    · next p' L' st' G' M' he =>
      split at ho
      · next hj =>
        subst hj
        exact Rs.go ih F ho (fun Q kk => h1 _ he Q kk)
      · cases ho
        exact h1 _ he
    · exact h1 _ ho
theorem s_kil {ks : List Bool} (hk : Snd y cc nL ret lev mc ms g0 pc k) : Snd y cc nL ret lev mc ms g0 pc (op_kil ks k) := by
  intro p l e s m args below meth c D cx ad A F H locs ls L st G M hI hL out ho
  refine hk p l e s m args below meth c D cx ad A F H locs ls _ st G M hI ⟨hL.1, hL.2.1, fun i v hi => ?_⟩ out ho
  rw [List.getElem?_zipWith] at hi
  split at hi
  · next b w hb hw =>
    cases b
    · simp at hi
    · simp only [if_true, Option.some.injEq] at hi
      subst hi
      exact hL.2.2 i v hw
  · cases hi
theorem Iv.end0 {H : Heap} {locs : List Loc} {G : vG} {M : vM} {v : Option Value} (h : Iv D cx ad A mc ms g0 s H locs G M) (hmc : mc = 0) (hms : ms = 0) {t : State} (ht : t.heap = H) : PoC D cx ad A mc ms g0 v G M args s (.returned (v.map (cvA ad))) t := by
  obtain ⟨hP, hD, hS, ⟨h1, h2, h3, h4, h5⟩, h6, h7⟩ := h
  have hG := h6 hmc
  subst hG hmc hms
  exact ⟨rfl, ⟨rfl, rfl, fun _ => rfl⟩, by rw [ht]; exact hP, hD, by rw [ht, h2]; omega, hS.F ht⟩
theorem s_zret {ty : FieldType} (hd : decode cc pc = .ok (.ireturn, 1)) (hr : ret = some ty) (hn : ∀ x : Int32, x = 0 ∨ x = 1 → narrow ty (.int x) = .int x) (hmc : mc = 0) (hms : ms = 0) : Snd y cc nL ret lev mc ms g0 pc op_zret := by
  intro p l e s m args below meth c D cx ad A F H locs ls L st G M hI hL out ho
  obtain ⟨hx, hb, -, -, -, hret, hlk, -⟩ := id F
  unfold op_zret at ho
  split at ho
  · next x =>
    split at ho
    · next hc =>
      cases ho
      have hG : G = g0 := hI.2.2.2.2.1 hmc
      have e1 : G.1 - g0.1 = mc := by rw [hG, hmc]; omega
      have e2 : G.2.1 - g0.2.1 = ms := by rw [hG, hms]; omega
      show W _ _ _ _ _ _ _ _ _ _ _ _ _ _ _ _
      rw [e1, e2]
      exact W.zret hx hb (hret.trans hr) (hn x hc) (fun t ht _ => hI.end0 (v := some (.int x)) hmc hms ht) hI.2.2.1.2.2 hd hlk
    · cases ho
  · cases ho
theorem s_iret (hd : decode cc pc = .ok (.ireturn, 1)) (hr : ret = some .int) (hmc : mc = 0) (hms : ms = 0) : Snd y cc nL ret lev mc ms g0 pc op_ret := by
  intro p l e s m args below meth c D cx ad A F H locs ls L st G M hI hL out ho
  obtain ⟨hx, hb, -, -, -, hret, hlk, -⟩ := id F
  unfold op_ret at ho
  split at ho
  · next x =>
    cases ho
    have hG : G = g0 := hI.2.2.2.2.1 hmc
    have e1 : G.1 - g0.1 = mc := by rw [hG, hmc]; omega
    have e2 : G.2.1 - g0.2.1 = ms := by rw [hG, hms]; omega
    show W _ _ _ _ _ _ _ _ _ _ _ _ _ _ _ _
    rw [e1, e2]
    exact W.iret hx hb (hret.trans hr) (fun t ht _ => hI.end0 (v := some (.int x)) hmc hms ht) hI.2.2.1.2.2 hd hlk
  · cases ho
theorem s_vret (hd : decode cc pc = .ok (.return_, 1)) (hr : ret = none) (hmc : mc = 0) (hms : ms = 0) : Snd y cc nL ret lev mc ms g0 pc op_vret := by
  intro p l e s m args below meth c D cx ad A F H locs ls L st G M hI hL out ho
  obtain ⟨hx, hb, -, -, -, hret, hlk, -⟩ := id F
  unfold op_vret at ho
  split at ho
  · cases ho
    have hG : G = g0 := hI.2.2.2.2.1 hmc
    have e1 : G.1 - g0.1 = mc := by rw [hG, hmc]; omega
    have e2 : G.2.1 - g0.2.1 = ms := by rw [hG, hms]; omega
    show W _ _ _ _ _ _ _ _ _ _ _ _ _ _ _ _
    rw [e1, e2]
    exact W.vret hx hb (hret.trans hr) (fun t ht _ => hI.end0 (v := none) hmc hms ht) hI.2.2.1.2.2 hd hlk
  · cases ho
theorem s_aret {C : String} (hd : decode cc pc = .ok (.areturn, 1)) (hr : ret = some (.object C)) (hmc : mc = 0) (hms : ms = 0) : Snd y cc nL ret lev mc ms g0 pc op_aret := by
  intro p l e s m args below meth c D cx ad A F H locs ls L st G M hI hL out ho
  obtain ⟨hx, hb, -, -, -, hret, hlk, -⟩ := id F
  unfold op_aret at ho
  split at ho
  · next x =>
    cases ho
    have hG : G = g0 := hI.2.2.2.2.1 hmc
    have e1 : G.1 - g0.1 = mc := by rw [hG, hmc]; omega
    have e2 : G.2.1 - g0.2.1 = ms := by rw [hG, hms]; omega
    show W _ _ _ _ _ _ _ _ _ _ _ _ _ _ _ _
    rw [e1, e2]
    exact W.aret hx hb (hret.trans hr) (Or.inl ⟨_, rfl⟩) (Or.inr ⟨_, rfl⟩) (fun t ht _ => hI.end0 (v := some (.ref x)) hmc hms ht) hI.2.2.1.2.2 hd hlk
  · cases ho
end SND2
end
section
/-! ===== the machine follows the operations, 3: fields, arrays, statics, calls ===== -/
section SND3
variable {p : Program} {l : Launch} {e : Env} {s : State} {m : MethodId} {args : Array Value} {below : List Frame} {meth : Method} {c : Code} {D : va_G} {cx : Nat → ClassId} {ad : Nat → Nat} {A : Nat → Prop}
variable {y : MethodName} {cc : ByteArray} {nL : Nat} {ret : Option FieldType} {lev mc ms : Nat} {g0 : vG} {pc pc' pt : Nat} {k kt kf : vD}
theorem gAt_ok {G : vG} {a c : Nat} (h : gAt G a c = true) : a < G.1 ∧ gC G a = c := by
  simpa [gAt] using h
theorem inB_ok {i : Int32} {n : Nat} (h : inB i n = true) : vp_in i n ∧ i.toNatClampNeg < n := by
  simp only [inB, Bool.and_eq_true, decide_eq_true_eq] at h
  refine ⟨fun q => ?_, h.2⟩
  rcases q with q | q
  · exact absurd q (Int32.not_lt.mpr h.1)
  · omega
/-- the heap's size by the machine's own count -/
theorem W_sz {R : Room} {H : Heap} {locs : List Loc} {cells slots : Nat} {Q : State → Prop} {g : JFrame} (h : H.size ≤ s.heap.size + cells → W p l e R s m args below meth c H locs cells slots Q g) : W p l e R s m args below meth c H locs cells slots Q g :=
  fun T hT X => h (by rw [← hT]; exact X.heapSize) T hT X
theorem va_S.via {H0 H H1 : Heap} {locs locs1 : List Loc} (h : va_S A H0 H locs) (h1 : va_S A H H1 locs1) : va_S A H0 H1 locs1 :=
  ⟨Nat.le_trans h.1 h1.1, fun q a b => by rw [h1.2.1 q (Nat.lt_of_lt_of_le a h.1) b]; exact h.2.1 q a b, h1.2.2⟩
theorem va_S.me {H0 H : Heap} {locs : List Loc} (h : va_S A H0 H locs) : va_S A H H locs := ⟨Nat.le_refl _, fun _ _ _ => rfl, h.2.2⟩
theorem Iv.upd {H H1 : Heap} {locs locs1 : List Loc} {G : vG} {M M1 : vM} (h : Iv D cx ad A mc ms g0 s H locs G M) (hP : va_P D vwCl (wW cx ad G M1) H1) (hD : va_D A (wW cx ad G M1)) (hS : va_S A H H1 locs1) (hz : H1.size ≤ s.heap.size + (G.1 - g0.1)) : Iv D cx ad A mc ms g0 s H1 locs1 G M1 := by
  obtain ⟨-, -, hS0, ⟨h1, h2, h3, h4, h5⟩, h6, h7⟩ := h
  have hs : H1.size = H.size := by have := hS.1; omega
  exact ⟨hP, hD, hS0.via hS, ⟨h1, by rw [hs]; exact h2, h3, h4, h5⟩, h6, fun h j hj => by rw [hs]; exact h7 h j hj⟩
theorem s_gfi {C : String} {T : u_T} {N ci j index : Nat} (hc : vwCl[ci]? = some (C, T, N)) (hin : ∀ w ∈ u_ws C T N, w ∈ lw_good) (hj : j < N) (hci : ci < 100) (hjn : j < nF ci) (hrf : rF ci j = false) (hw : Cond.fieldLink y.cls index (T j).1 (T j).2.1 (T j).2.2.1 ∈ lw_good) (hd : decode cc pc = .ok (.getfield index, 3)) (hp : pc + 3 = pc') (hk : Snd y cc nL ret lev mc ms g0 pc' k) : Snd y cc nL ret lev mc ms g0 pc (op_gfi ci j k) := by
  subst hp
  intro p l e s m args below meth c D cx ad A F H locs ls L st G M hI hL out ho
  obtain ⟨hx, hb, -, hown, hts, -, -, -, hK, -⟩ := id F
  unfold op_gfi at ho
  split at ho
  · next a r =>
    split at ho
    · next hg =>
      obtain ⟨ha, hC⟩ := gAt_ok hg
      refine Rs.go (G2 := G) hk F ho (fun Q kk => va_get (v := .int (M a j)) hx hb hts hin hown hK hI.1 a (by rw [wW_at ha, wE_o hC hci]) hc j hj (hts _ hw) (fun x h => h) ?_ hd (kk H locs ls hI hL))
      rw [fO_at hjn, hrf]
      rfl
    · cases ho
  · cases ho
theorem s_gfr {C : String} {T : u_T} {N ci j index : Nat} (hc : vwCl[ci]? = some (C, T, N)) (hin : ∀ w ∈ u_ws C T N, w ∈ lw_good) (hj : j < N) (hci : ci < 100) (hjn : j < nF ci) (hrf : rF ci j = true) (hw : Cond.fieldLink y.cls index (T j).1 (T j).2.1 (T j).2.2.1 ∈ lw_good) (hd : decode cc pc = .ok (.getfield index, 3)) (hp : pc + 3 = pc') (hk : Snd y cc nL ret lev mc ms g0 pc' k) : Snd y cc nL ret lev mc ms g0 pc (op_gfr ci j k) := by
  subst hp
  intro p l e s m args below meth c D cx ad A F H locs ls L st G M hI hL out ho
  obtain ⟨hx, hb, -, hown, hts, -, -, -, hK, -⟩ := id F
  unfold op_gfr at ho
  split at ho
  · next a r =>
    split at ho
    · next hg =>
      obtain ⟨ha, hC⟩ := gAt_ok hg
      split at ho
      · next b hR =>
        refine Rs.go (G2 := G) hk F ho (fun Q kk => va_get (v := .ref (ad b)) hx hb hts hin hown hK hI.1 a (by rw [wW_at ha, wE_o hC hci]) hc j hj (hts _ hw) (fun x h => h) ?_ hd (kk H locs ls hI hL))
        rw [fO_at hjn, hrf, hR]
        rfl
      · cases ho
    · cases ho
  · cases ho
theorem s_pfi {C : String} {T : u_T} {N ci j index : Nat} (hc : vwCl[ci]? = some (C, T, N)) (hin : ∀ w ∈ u_ws C T N, w ∈ lw_good) (ty0 : Nat → FieldType) (hty : ∀ k, k < N → parseFieldDescriptor (T k).2.2.1 = some (ty0 k)) (hnm : ∀ a, a < N → ∀ b, b < N → a ≠ b → (T a).2.1 ≠ (T b).2.1) (hj : j < N) (hci : ci < 100) (hjn : j < nF ci) (hrf : rF ci j = false) (hfin : (T j).2.2.2 = false) (hti : ty0 j = .int) (hw : Cond.fieldLink y.cls index (T j).1 (T j).2.1 (T j).2.2.1 ∈ lw_good) (hd : decode cc pc = .ok (.putfield index, 3)) (hp : pc + 3 = pc') (hk : Snd y cc nL ret lev mc ms g0 pc' k) : Snd y cc nL ret lev mc ms g0 pc (op_pfi ci j k) := by
  subst hp
  intro p l e s m args below meth c D cx ad A F H locs ls L st G M hI hL out ho
  obtain ⟨hx, hb, -, hown, hts, -, -, -, hK, -⟩ := id F
  unfold op_pfi at ho
  split at ho
  · next x a r =>
    split at ho
    · next hg =>
      obtain ⟨ha, hC⟩ := gAt_ok hg
      refine Rs.go (G2 := G) hk F ho (fun Q kk => va_put (v := .int x) hx hb hts hin ty0 hty hnm hown hK hI.1 hI.2.1 hI.2.2.1.me a (by rw [wW_at ha, wE_o hC hci]) hc j hj (hts _ hw) (fun x h => h) hfin ((hty j hj).trans (congrArg some hti)) rfl rfl (by rw [fO_len]; exact hjn) hd (fun H1 locs1 hP1 hD1 hS1 => W_sz fun hz => ?_))
      rw [wW_set (g' := G) (M' := mset M a j x) rfl (by rw [wE_o hC hci, fO_set hjn hrf]) (fun b hb => wE_M (mset_ne hb))] at hP1 hD1
      exact kk H1 locs1 ls (hI.upd hP1 hD1 hS1 hz) hL
    · cases ho
  · cases ho
/-- a field of 0 or 1 -/
def op_pfz (c j : Nat) (k : vD) : vD := fun L st G M => match st with
  | .int x :: .ref a :: r => if gAt G a c ∧ (x = 0 ∨ x = 1) then k L r G (mset M a j x) else none
  | _ => none
theorem s_pfz {C : String} {T : u_T} {N ci j index : Nat} (hc : vwCl[ci]? = some (C, T, N)) (hin : ∀ w ∈ u_ws C T N, w ∈ lw_good) (ty0 : Nat → FieldType) (hty : ∀ k, k < N → parseFieldDescriptor (T k).2.2.1 = some (ty0 k)) (hnm : ∀ a, a < N → ∀ b, b < N → a ≠ b → (T a).2.1 ≠ (T b).2.1) (hj : j < N) (hci : ci < 100) (hjn : j < nF ci) (hrf : rF ci j = false) (hfin : (T j).2.2.2 = false) (hti : ty0 j = .boolean) (hw : Cond.fieldLink y.cls index (T j).1 (T j).2.1 (T j).2.2.1 ∈ lw_good) (hd : decode cc pc = .ok (.putfield index, 3)) (hp : pc + 3 = pc') (hk : Snd y cc nL ret lev mc ms g0 pc' k) : Snd y cc nL ret lev mc ms g0 pc (op_pfz ci j k) := by
  subst hp
  intro p l e s m args below meth c D cx ad A F H locs ls L st G M hI hL out ho
  obtain ⟨hx, hb, -, hown, hts, -, -, -, hK, -⟩ := id F
  unfold op_pfz at ho
  split at ho
  · next x a r =>
    split at ho
    · next hg =>
      obtain ⟨ha, hC⟩ := gAt_ok hg.1
      have h01 : narrow .boolean (.int x) = .int x ∧ fits .boolean (.int x) = true := by rcases hg.2 with rfl | rfl <;> decide
      refine Rs.go (G2 := G) hk F ho (fun Q kk => va_put (v := .int x) hx hb hts hin ty0 hty hnm hown hK hI.1 hI.2.1 hI.2.2.1.me a (by rw [wW_at ha, wE_o hC hci]) hc j hj (hts _ hw) (fun x h => h) hfin ((hty j hj).trans (congrArg some hti)) h01.1 h01.2 (by rw [fO_len]; exact hjn) hd (fun H1 locs1 hP1 hD1 hS1 => W_sz fun hz => ?_))
      rw [wW_set (g' := G) (M' := mset M a j x) rfl (by rw [wE_o hC hci, fO_set hjn hrf]) (fun b hb => wE_M (mset_ne hb))] at hP1 hD1
      exact kk H1 locs1 ls (hI.upd hP1 hD1 hS1 hz) hL
    · cases ho
  · cases ho
theorem s_ial (hd : decode cc pc = .ok (.iaload, 1)) (hp : pc + 1 = pc') (hk : Snd y cc nL ret lev mc ms g0 pc' k) : Snd y cc nL ret lev mc ms g0 pc (op_ial k) := by
  subst hp
  intro p l e s m args below meth c D cx ad A F H locs ls L st G M hI hL out ho
  obtain ⟨hx, hb, -, hown, hts, -, -, -, hK, -⟩ := id F
  unfold op_ial at ho
  split at ho
  · next i a r =>
    split at ho
    · next hg =>
      rw [Bool.and_eq_true] at hg
      obtain ⟨ha, hC⟩ := gAt_ok hg.1
      exact Rs.go (G2 := G) hk F ho (fun Q kk => va_iald (f := M a) hx hb hK hI.1 a 0 (by rw [wW_at ha, wE_i hC]) rfl (inB_ok hg.2).1 hd (kk H locs ls hI hL))
    · cases ho
  · cases ho
theorem s_ias (hd : decode cc pc = .ok (.iastore, 1)) (hp : pc + 1 = pc') (hk : Snd y cc nL ret lev mc ms g0 pc' k) : Snd y cc nL ret lev mc ms g0 pc (op_ias k) := by
  subst hp
  intro p l e s m args below meth c D cx ad A F H locs ls L st G M hI hL out ho
  obtain ⟨hx, hb, -, hown, hts, -, -, -, hK, -⟩ := id F
  unfold op_ias at ho
  split at ho
  · next x i a r =>
    split at ho
    · next hg =>
      rw [Bool.and_eq_true] at hg
      obtain ⟨ha, hC⟩ := gAt_ok hg.1
      refine Rs.go (G2 := G) hk F ho (fun Q kk => va_iast (f := M a) hx hb hK hI.1 hI.2.1 hI.2.2.1.me a 0 (by rw [wW_at ha, wE_i hC]) rfl (inB_ok hg.2).1 hd (fun H1 locs1 hP1 hD1 hS1 => W_sz fun hz => ?_))
      rw [wW_set (g' := G) (M' := mset M a i.toNatClampNeg x) rfl (by rw [wE_i hC, mset_eq]) (fun b hb => wE_M (mset_ne hb))] at hP1 hD1
      exact kk H1 locs1 ls (hI.upd hP1 hD1 hS1 hz) hL
    · cases ho
  · cases ho
theorem s_aal {t : Nat} {ty : FieldType} (ht0 : 0 < t) (ht : ∀ cx : Nat → ClassId, (tyL cx)[t]? = some (cx t, ty)) (hrk : refKind ty = true) (hd : decode cc pc = .ok (.aaload, 1)) (hp : pc + 1 = pc') (hk : Snd y cc nL ret lev mc ms g0 pc' k) : Snd y cc nL ret lev mc ms g0 pc (op_aal t k) := by
  subst hp
  intro p l e s m args below meth c D cx ad A F H locs ls L st G M hI hL out ho
  obtain ⟨hx, hb, -, hown, hts, -, -, -, hK, -⟩ := id F
  unfold op_aal at ho
  split at ho
  · next i a r =>
    split at ho
    · next hg =>
      rw [Bool.and_eq_true] at hg
      obtain ⟨ha, hC⟩ := gAt_ok hg.1
      obtain ⟨hi, hlt⟩ := inB_ok hg.2
      split at ho
      · next b hR =>
        have hcell := hI.1 a _ (wW_at ha)
        rw [wE_r hC ht0] at hcell
        refine Rs.go (G2 := G) hk F ho (fun Q kk => W.aald (v := .ref (ad b)) (ty := ty) hx hb hcell ((hK.2 t _ (ht cx)).1 (gL G a) (fun j => va_rf ((gR G a j).map ad))) hrk (fun q => by cases q) (by show ¬ (i < 0 ∨ (arrV _ _ _).slots.size ≤ _); rw [arrV_size]; exact hi) ?_ rfl rfl hd (kk H locs ls hI hL))
        show (arrV _ _ _).slots[_]? = _
        rw [arrV_read _ _ hlt]
        show some (va_rf (Option.map ad (gR G a i.toNatClampNeg))) = _
        rw [hR]
        rfl
      · cases ho
    · cases ho
  · cases ho
theorem s_gst {t index : Nat} (ht : t < 4) (hw : Cond.fieldLink y.cls index "StyleFamilies$Values" (sN t) "[I" ∈ lw_good) (hd : decode cc pc = .ok (.getstatic index, 3)) (hp : pc + 3 = pc') (hk : Snd y cc nL ret lev mc ms g0 pc' k) : Snd y cc nL ret lev mc ms g0 pc (op_gst t k) := by
  subst hp
  intro p l e s m args below meth c D cx ad A F H locs ls L st G M hI hL out ho
  obtain ⟨hx, hb, -, hown, hts, -, -, -, hK, -, hSt, -⟩ := id F
  exact Rs.go (G2 := G) hk F ho (fun Q kk => va_gets hx hb (hSt t ht).1 hI.2.2.1 hown (hts _ hw) (fun x h => h) hd (kk H locs ls hI hL))
theorem s_sal {t : Nat} (ht : t < 4) (hd : decode cc pc = .ok (.iaload, 1)) (hp : pc + 1 = pc') (hk : Snd y cc nL ret lev mc ms g0 pc' k) : Snd y cc nL ret lev mc ms g0 pc (op_sal t k) := by
  subst hp
  intro p l e s m args below meth c D cx ad A F H locs ls L st G M hI hL out ho
  obtain ⟨hx, hb, -, hown, hts, -, -, -, hK, -, hSt, -⟩ := id F
  unfold op_sal at ho
  split at ho
  · next i a r =>
    split at ho
    · next hg =>
      obtain ⟨rfl, hi⟩ := hg
      obtain ⟨-, hX, hnA⟩ := hSt t ht
      have hbl : ad (1000 + t) < s.heap.size := by
        obtain ⟨scr, h1, -⟩ := hX
        exact (Array.getElem?_eq_some_iff.mp h1).1
      exact Rs.go (G2 := G) hk F ho (fun Q kk => va_sld hx hb hX hbl hnA hI.2.2.1 (inB_ok hi).1 hd (kk H locs ls hI hL))
    · cases ho
  · cases ho
end SND3
end
section
/-! ===== the machine follows the operations, 4: calls; a method's contract out of its fragment ===== -/
section SND4
variable {p : Program} {l : Launch} {e : Env} {s : State} {m : MethodId} {args : Array Value} {below : List Frame} {meth : Method} {c : Code} {D : va_G} {cx : Nat → ClassId} {ad : Nat → Nat} {A : Nat → Prop}
variable {y : MethodName} {cc : ByteArray} {nL : Nat} {ret : Option FieldType} {lev mc ms : Nat} {g0 : vG} {pc pc' pt : Nat} {k kt kf : vD}
theorem Stt.to {u U : State} {H H1 : Heap} (h : Stt ad A u H) (hvm : u.vm.Alike U.vm) (hk : ∀ q : Nat, q < H.size → ¬ A q → H1[q]? = H[q]?) : Stt ad A U H1 := by
  intro t ht
  obtain ⟨h1, h2, h3⟩ := h t ht
  have hl : ad (1000 + t) < H.size := by
    obtain ⟨scr, q, -⟩ := h2
    exact (Array.getElem?_eq_some_iff.mp q).1
  exact ⟨(h1.kept hk).moved hvm, (h2.kept (hk _ hl h3)).moved hvm, h3⟩
theorem Nst.warm {U : State} (h : Nst s) (hW : s.WarmedH U.vm) : Nst U := by
  refine ⟨fun w hw => ?_, h.2.1.moved hW.alike, h.2.2.1.moved hW.alike, over_moved hW.alike h.2.2.2⟩
  have h1 := h.1 w hw
  have h2 := (List.mem_filter.mp hw).2
  cases w <;> first | exact va_Nw.warmM hW h1 | cases h2
theorem Nst.same {u U : State} (h : Nst u) (hv : u.vm = U.vm) : Nst U := by
  have ha : u.vm.Alike U.vm := by rw [hv]; exact Vm.Alike.refl _
  refine ⟨fun w hw => ?_, h.2.1.moved ha, h.2.2.1.moved ha, over_moved ha h.2.2.2⟩
  have h1 := h.1 w hw
  have h2 := (List.mem_filter.mp hw).2
  cases w <;> first | exact va_Nw.same rfl hv h1 | cases h2
theorem Wd_blind {g : vG} {M : vM} {sz : Nat} {vs : List Value} : FrameBlind (va_Pc vs (Wd D cx ad A mc g M sz)) := by
  intro a U g' mk q
  obtain ⟨q0, q1, q2, q3, q4, q5, q6, q7, q8⟩ := q
  exact ⟨q0, q1, q2, q3, va_K.moved (u := U) (U := U.calling g' mk a) (Vm.Alike.refl U.vm) q4, q5, q6.to (Vm.Alike.refl U.vm) (fun _ _ _ => rfl), q7.same rfl, q8⟩
theorem Wd_of {H : Heap} {locs : List Loc} {G : vG} {M : vM} (F : Fx p s m args meth c D cx ad A y cc nL ret) (hI : Iv D cx ad A mc ms g0 s H locs G M) {mc' : Nat} (hm : mc' ≠ 0 → mc ≠ 0) {U : State} (hU : U.heap = H) (hW : s.WarmedH U.vm) : Wd D cx ad A mc' G M H.size U := by
  obtain ⟨-, -, -, -, -, -, -, -, hK, hA, hSt, hN⟩ := F
  obtain ⟨hP, hD, hS, -, -, h7⟩ := hI
  exact ⟨by rw [hU], by rw [hU]; exact hP, hD, va_K.moved hW.alike hK, fun q hq => hA q (Nat.le_trans hS.1 hq), by rw [hU]; exact hSt.to hW.alike hS.2.1, hN.warm hW, fun h => h7 (hm h)⟩
theorem good_lw {ws : List Cond} (h : ∀ w ∈ ws, w ∈ lw_good) : GoodIn lw_good ws := fun w hw => ⟨h w hw, good_of_word (List.mem_filter.mp (h w hw)).2⟩
def Nm (y2 : MethodName) (n : Nat) : Prop := y2.cls ≠ "java/lang/invoke/MethodHandle" ∧ y2.cls ≠ "java/lang/invoke/VarHandle" ∧ (parseMethodDescriptor y2.desc).map (fun d => d.parameters.length) = some n
def CaS (y2 : MethodName) (c2 : ByteArray) (n2 : Nat) (r2 : Option FieldType) (n : Nat) : Prop := Cond.static y2 ∈ lw_good ∧ Cond.initialized y2.cls ∈ lw_good ∧ Cond.code y2 c2 n2 r2 ∈ lw_good ∧ Nm y2 n
def CaV (y2 : MethodName) (c2 : ByteArray) (n2 : Nat) (r2 : Option FieldType) (n : Nat) : Prop := Cond.instanceMethod y2 ∈ lw_good ∧ Cond.selects y2.cls y2 y2 ∈ lw_good ∧ Cond.initialized y2.cls ∈ lw_good ∧ Cond.code y2 c2 n2 r2 ∈ lw_good ∧ Nm y2 n
theorem vc_call {H : Heap} {locs : List Loc} {G G' : vG} {M M' : vM} {v0 : Option Value} {mc' ms' : Nat} {as : Array Value} {pc : Nat} {ls : Array Slot} {st rest : List Value} (hI : Iv D cx ad A mc ms g0 s H locs G M) (hmm : mc' ≠ 0 → mc ≠ 0) (hlm : G.1 + mc' ≤ g0.1 + mc ∧ G.2.1 + ms' ≤ g0.2.1 + ms)
    (hr : va_Run p l e (rmL lev mc ms) s m args below meth c H locs (G.1 - g0.1) (G.2.1 - g0.2.1) mc' ms' (F0 m pc ls st) rest (PoC D cx ad A mc' ms' G v0 G' M' as) A) {Q : State → Prop}
    (kk : ∀ (H1 : Heap) (locs1 : List Loc), Iv D cx ad A mc ms g0 s H1 locs1 G' M' → W p l e (rmL lev mc ms) s m args below meth c H1 locs1 (G'.1 - g0.1) (G'.2.1 - g0.2.1) Q (F0 m (pc + 3) ls ((v0.map (cvA ad)).toList ++ rest))) :
    W p l e (rmL lev mc ms) s m args below meth c H locs (G.1 - g0.1) (G.2.1 - g0.2.1) Q (F0 m pc ls st) := by
  intro T hT X
  obtain ⟨v, st₀, t, T', L, h0, X', hL, e1, e2, ⟨hv, ⟨f1, f2, f3⟩, hP, hD, hsz, hF1, hF2⟩, stp⟩ := hr T hT X
  cases hv
  obtain ⟨-, -, hS0, ⟨i1, i2, i3, i4, i5⟩, i6, i7⟩ := hI
  have hsz2 : T'.heap.size = H.size + mc' := by rw [e1, hsz, h0]
  have c1 : G.1 - g0.1 + mc' = G'.1 - g0.1 := by omega
  have c2 : G.2.1 - g0.2.1 + ms' = G'.2.1 - g0.2.1 := by omega
  rw [c1, c2] at X'
  rw [h0] at hF1 hF2
  obtain ⟨t2, a1, b1⟩ := kk T'.heap (locs ++ L) ⟨by rw [e1]; exact hP, hD, ⟨by rw [hsz2]; exact Nat.le_trans hS0.1 (by omega), fun q q1 q2 => by rw [e1, hF2 q (Nat.lt_of_lt_of_le q1 hS0.1) q2]; exact hS0.2.1 q q1 q2, fun q hq => by
      rcases List.mem_append.mp hq with h | h
      · exact hS0.2.2 q h
      · exact hL q h⟩, ⟨by omega, by omega, by omega, by omega, by omega⟩, fun hz => by
        have hz' : mc' = 0 := Classical.byContradiction fun hne => hmm hne hz
        rw [f3 hz', i6 hz], fun hne j hj => by
        have := i7 hne (mc' + j) (by omega)
        rw [f1, Nat.add_assoc, this, hsz2]
        omega⟩ T' rfl X'
  exact ⟨t2, stp t2 a1, b1⟩
theorem cat_sum : ∀ (r : List Value), ((r.map (cvA ad)).map fun v => v.category).sum ≤ 2 * r.length
  | [] => Nat.le_refl _
  | v :: r => by
    have := cat_sum r
    have h2 : (cvA ad v).category ≤ 2 := by rcases lv_cat (cvA ad v) with h | h <;> omega
    simp only [List.map_cons, List.sum_cons, List.length_cons]
    omega
theorem s_calS {y2 : MethodName} {c2 : ByteArray} {n2 : Nat} {r2 : Option FieldType} {lev2 n index : Nat} {f : vF} (hM : Ctr y2 c2 n2 r2 lev2 0 0 f) (hC : CaS y2 c2 n2 r2 n) (hw : Cond.methodLink y.cls index y2 ∈ lw_good) (hlv : lev2 + 1 ≤ lev ∧ 8 + (n2 + 11) + 36 * lev2 ≤ 36 * lev) (hd : decode cc pc = .ok (.invokestatic index, 3)) (hp : pc + 3 = pc') (hk : Snd y cc nL ret lev mc ms g0 pc' k) : Snd y cc nL ret lev mc ms g0 pc (op_cal n f k) := by
  subst hp
  intro p l e s m args below meth c D cx ad A F H locs ls L st G M hI hL out ho
  obtain ⟨hx, hb, hml, hown, hts, -⟩ := id F
  obtain ⟨w1, w2, w3, hN⟩ := hC
  unfold op_cal at ho
  split at ho
  · next hlen =>
    have key : ∀ (v0 : Option Value) (G' : vG) (M' : vM), f (st.take n).reverse G M = some (v0, G', M') → ∀ Q : State → Prop, (∀ (H1 : Heap) (locs1 : List Loc), Iv D cx ad A mc ms g0 s H1 locs1 G' M' → W p l e (rmL lev mc ms) s m args below meth c H1 locs1 (G'.1 - g0.1) (G'.2.1 - g0.2.1) Q (F0 m (pc + 3) ls ((v0.map (cvA ad)).toList ++ (st.drop n).map (cvA ad)))) → W p l e (rmL lev mc ms) s m args below meth c H locs (G.1 - g0.1) (G.2.1 - g0.2.1) Q (F0 m pc ls (st.map (cvA ad))) := by
      intro v0 G' M' hf Q kk
      refine vc_call hI (mc' := 0) (ms' := 0) (fun h => absurd rfl h) ⟨hI.2.2.2.1.2.2.2.1, hI.2.2.2.1.2.2.2.2⟩ (va_runS (As := (st.take n).reverse.map (cvA ad)) (rest := (st.drop n).map (cvA ad)) ⟨hx, hb, hml, hown, hts⟩ (hM l D cx ad A H.size _ G M v0 G' M' hf) (va_cwS n hts (good_lw (fun w hw' => ?_)) rfl rfl rfl hN hlv) ⟨Wd_blind, fun U hU hW => ⟨rfl, Wd_of F hI (fun h => absurd rfl h) hU hW⟩⟩ rfl ?_ hL.1 ?_ (lv_room ?_) hd ?_) kk
      · simp only [va_wsS, List.mem_append, List.mem_cons, List.not_mem_nil, or_false] at hw'
        rcases hw' with (rfl | rfl | rfl) | rfl | h
        · exact hw
        · exact w1
        · exact w2
        · exact w3
        · exact h
      · simp; omega
      · show st.map (cvA ad) = _
        rw [List.map_reverse, List.reverse_reverse, ← List.map_append, List.take_append_drop]
      · have := cat_sum (ad := ad) (st.drop n)
        have h4 : (st.drop n).length ≤ 4 := by simp; omega
        omega
      · have := hI.2.2.2.1
        exact ⟨by show _ + 0 ≤ mc; omega, by show _ + 0 ≤ ms; omega⟩
    split at ho
    · next v G' M' hf => exact Rs.go hk F ho (fun Q kk => key _ _ _ hf Q (fun H1 locs1 hI1 => kk H1 locs1 ls hI1 hL))
    · next G' M' hf => exact Rs.go hk F ho (fun Q kk => key _ _ _ hf Q (fun H1 locs1 hI1 => kk H1 locs1 ls hI1 hL))
    · cases ho
  · cases ho
theorem s_calV {y2 : MethodName} {c2 : ByteArray} {n2 : Nat} {r2 : Option FieldType} {lev2 n index ci : Nat} {f : vF} {T : u_T} {N : Nat} (hM : Ctr y2 c2 n2 r2 lev2 0 0 f) (hC : CaV y2 c2 n2 r2 n) (hcl : vwCl[ci]? = some (y2.cls, T, N)) (hci : ci < 100) (hw : Cond.methodLink y.cls index y2 ∈ lw_good) (hlv : lev2 + 1 ≤ lev ∧ 8 + (n2 + 11) + 36 * lev2 ≤ 36 * lev) (hd : decode cc pc = .ok (.invokevirtual index, 3)) (hp : pc + 3 = pc') (hk : Snd y cc nL ret lev mc ms g0 pc' k) : Snd y cc nL ret lev mc ms g0 pc (op_calV ci n f k) := by
  subst hp
  intro p l e s m args below meth c D cx ad A F H locs ls L st G M hI hL out ho
  obtain ⟨hx, hb, hml, hown, hts, -, -, -, hK, -⟩ := id F
  obtain ⟨w1, w2, w3, w4, hN⟩ := hC
  unfold op_calV at ho
  split at ho
  · next a r hdr =>
    split at ho
    · next hg =>
      obtain ⟨ha, hC⟩ := gAt_ok hg.1
      have hst : st = st.take n ++ .ref a :: r := by rw [← hdr, List.take_append_drop]
      have hlt : (st.take n).length = n := by
        have h1 : (st.drop n).length = r.length + 1 := by rw [hdr]; rfl
        simp at h1 ⊢
        omega
      have key : ∀ (v0 : Option Value) (G' : vG) (M' : vM), f (.ref a :: (st.take n).reverse) G M = some (v0, G', M') → ∀ Q : State → Prop, (∀ (H1 : Heap) (locs1 : List Loc), Iv D cx ad A mc ms g0 s H1 locs1 G' M' → W p l e (rmL lev mc ms) s m args below meth c H1 locs1 (G'.1 - g0.1) (G'.2.1 - g0.2.1) Q (F0 m (pc + 3) ls ((v0.map (cvA ad)).toList ++ r.map (cvA ad)))) → W p l e (rmL lev mc ms) s m args below meth c H locs (G.1 - g0.1) (G.2.1 - g0.2.1) Q (F0 m pc ls (st.map (cvA ad))) := by
        intro v0 G' M' hf Q kk
        refine vc_call hI (mc' := 0) (ms' := 0) (fun h => absurd rfl h) ⟨hI.2.2.2.1.2.2.2.1, hI.2.2.2.1.2.2.2.2⟩ (va_runV (C := y2.cls) (b := ad a) (As := (st.take n).reverse.map (cvA ad)) (rest := r.map (cvA ad)) ⟨hx, hb, hml, hown, hts⟩ (hM l D cx ad A H.size _ G M v0 G' M' hf) (cwV n hts (good_lw (fun w hw' => ?_)) rfl rfl rfl ⟨rfl, hN⟩ hlv) ⟨Wd_blind, va_recv hK hI.1 hcl (q0 := a) (by rw [wW_at ha, wE_o hC hci]), fun U hU hW => ⟨rfl, Wd_of F hI (fun h => absurd rfl h) hU hW⟩⟩ rfl ?_ hL.1 ?_ (lv_room ?_) hd ?_) kk
        · simp only [wsV, List.mem_append, List.mem_cons, List.not_mem_nil, or_false] at hw'
          rcases hw' with (rfl | rfl | rfl | rfl) | rfl | h
          · exact hw
          · exact w1
          · exact w2
          · exact w3
          · exact w4
          · exact h
        · rw [List.length_map, List.length_reverse, hlt]
        · show st.map (cvA ad) = _
          rw [List.map_reverse, List.reverse_reverse]
          conv => lhs; rw [hst]
          rw [List.map_append]
          rfl
        · have := cat_sum (ad := ad) r
          have h4 := hg.2
          omega
        · have := hI.2.2.2.1
          exact ⟨by show _ + 0 ≤ mc; omega, by show _ + 0 ≤ ms; omega⟩
      split at ho
      · next v G' M' hf => exact Rs.go hk F ho (fun Q kk => key _ _ _ hf Q (fun H1 locs1 hI1 => kk H1 locs1 ls hI1 hL))
      · next G' M' hf => exact Rs.go hk F ho (fun Q kk => key _ _ _ hf Q (fun H1 locs1 hI1 => kk H1 locs1 ls hI1 hL))
      · cases ho
    · cases ho
  · cases ho
theorem s_acp {index : Nat} (hw : Cond.methodLink y.cls index arraycopyName ∈ lw_good) (hw2 : Cond.native arraycopyName ∈ lw_good ∧ Cond.static arraycopyName ∈ lw_good ∧ Cond.initialized "java/lang/System" ∈ lw_good) (hlv : 1 ≤ lev) (hd : decode cc pc = .ok (.invokestatic index, 3)) (hp : pc + 3 = pc') (hk : Snd y cc nL ret lev mc ms g0 pc' k) : Snd y cc nL ret lev mc ms g0 pc (op_acp k) := by
  subst hp
  intro p l e s m args below meth c D cx ad A F H locs ls L st G M hI hL out ho
  obtain ⟨hx, hb, hml, hown, hts, -, -, -, hK, -⟩ := id F
  unfold op_acp at ho
  split at ho
  · next n dp d sp a r =>
    split at ho
    · next hg =>
      simp only [Bool.and_eq_true, decide_eq_true_eq] at hg
      obtain ⟨⟨⟨⟨⟨⟨⟨g1, g2⟩, g3⟩, g4⟩, g5⟩, g6⟩, g7⟩, g8⟩ := hg
      obtain ⟨ha, hCa⟩ := gAt_ok g1
      obtain ⟨hd', hCd⟩ := gAt_ok g2
      refine Rs.go (G2 := G) hk F ho (fun Q kk => va_copyi (f := M a) (g := M d) (rest := r.map (cvA ad)) hx hb (hml.trans hL.1.symm) hown (hts _ hw) (hts _ hw2.1) (hts _ hw2.2.1) (hts _ hw2.2.2) hK hI.1 hI.2.1 hI.2.2.1.me a d 0 0 (by rw [wW_at ha, wE_i hCa]) (by rw [wW_at hd', wE_i hCd]) rfl rfl rfl (Int32.not_lt.mpr g5) (Int32.not_lt.mpr g4) (Int32.not_lt.mpr g3) g6 g7 (fun _ _ => rfl) hlv ?_ hd (fun H1 locs1 hP1 hD1 hS1 => W_sz fun hz => ?_))
      · have h1 := cat_sum (ad := ad) r
        have h2 : nativeFrameWords "java/lang/System" "arraycopy" 5 = 7 := by decide +kernel
        show _ ≤ 36 * lev
        omega
      · rw [wW_set (g' := G) (M' := mcpy M a d sp.toNatClampNeg dp.toNatClampNeg n.toNatClampNeg) rfl (by rw [wE_i hCd, mcpy_eq]) (fun b hb => wE_M (mcpy_ne hb))] at hP1 hD1
        exact kk H1 locs1 ls (hI.upd hP1 hD1 hS1 hz) hL
    · cases ho
  · cases ho
theorem lR_entry {as : List Value} (hn : as.length ≤ nL) (hc : as.all (fun v => v.category == 1) = true) : lR ad (en as nL) ((lg_sl (as.map (cvA ad)) ++ List.replicate (nL - (lg_sl (as.map (cvA ad))).length) Slot.unset).toArray) nL ∧ (lg_sl (as.map (cvA ad))).length ≤ nL := by
  have hcat : ∀ v ∈ as, v.category = 1 := fun v hv => by simpa using List.all_eq_true.mp hc v hv
  have h1 : ∀ (as : List Value), (∀ v ∈ as, v.category = 1) → (lg_sl (as.map (cvA ad))).length = as.length := by
    intro as h
    induction as with
    | nil => rfl
    | cons v r ih =>
      have hv := h v List.mem_cons_self
      have ihr := ih (fun w hw => h w (List.mem_cons_of_mem _ hw))
      cases v <;> first | (simp [Value.category] at hv; done) | (simp [lg_sl, cvA, Value.category] at ihr ⊢; exact ihr)
  have h2 : ∀ (as : List Value), (∀ v ∈ as, v.category = 1) → ∀ (o i : Nat) (v : Value), as[i]? = some v → (o + i, cvA ad v) ∈ lv_args o (as.map (cvA ad)) := by
    intro as h
    induction as with
    | nil => intro o i v hi; simp at hi
    | cons w r ih =>
      intro o i v hi
      have hw := h w List.mem_cons_self
      cases i with
      | zero =>
        simp at hi
        subst hi
        exact List.mem_cons_self
      | succ i =>
        rw [List.getElem?_cons_succ] at hi
        have h3 := ih (fun w hw => h w (List.mem_cons_of_mem _ hw)) (o + 1) i v hi
        refine List.mem_cons_of_mem _ ?_
        rw [cvA_cat, hw]
        simpa [Nat.add_assoc, Nat.add_comm 1 i] using h3
  have hl : (lg_sl (as.map (cvA ad))).length ≤ nL := by rw [h1 as hcat]; exact hn
  have he := lv_entry (as.map (cvA ad)) (n := nL) hl
  refine ⟨⟨he.1, he.2.1, fun i v hi => ?_⟩, hl⟩
  have hi2 : as[i]? = some v := by
    unfold en at hi
    by_cases hlt : i < as.length
    · rw [List.getElem?_append_left (by simpa using hlt), List.getElem?_map] at hi
      cases hq : as[i]? with
      | none => rw [hq] at hi; cases hi
      | some w => rw [hq] at hi; simpa using hi
    · rw [List.getElem?_append_right (by simpa using hlt), List.getElem?_replicate] at hi
      split at hi <;> cases hi
  have := h2 as hcat 0 i v hi2
  rw [Nat.zero_add] at this
  exact he.2.2 _ this
/-- a contract out of a fragment -/
theorem ctr_of {d : vG → vD} (hy : plainName y.cls = true) (h : ∀ g0, Snd y cc nL ret lev mc ms g0 0 (d g0)) : Ctr y cc nL ret lev mc ms (fun as G M => runD (d G) nL as G M) := by
  intro l D cx ad A sz as g M v g' M' hf
  simp only [runD] at hf
  split at hf
  · next hl =>
    refine Met.ofW (cc := cc) (maxL := nL) (ret := ret) hy rfl ?_
    intro p e s m args below meth c s₁ B hml hv
    obtain ⟨rfl, hsz, hP, hD, hK, hA, hSt, hN, hal⟩ := hv
    have hts := atoms_spec (ws := (.code y cc nL ret :: lw_good)) B.pre
    have F : Fx p s m (as.map (cvA ad)).toArray meth c D cx ad A y cc nL ret := ⟨B.exec, B.bytes, hml, findClass_of_methodNamed B.named, fun w hw => hts w (List.mem_cons_of_mem _ hw), B.returns, B.notSynchronized, (name_of_methodNamed B.named B.method).1, hK, fun q hq => hA q (by omega), hSt, hN⟩
    have hI : Iv D cx ad A mc ms g s s.heap [] g M := ⟨hP, hD, va_S.rf, ⟨Nat.le_refl _, by omega, Nat.le_refl _, by omega, by omega⟩, fun _ => rfl, fun h j hj => by rw [hsz]; exact hal h j hj⟩
    obtain ⟨hL, hle⟩ := lR_entry (ad := ad) hl.1 hl.2
    split at hf
    · next r hr =>
      cases hf
      have := h g p l e s m (as.map (cvA ad)).toArray below meth c D cx ad A F s.heap [] _ _ [] g M hI hL _ hr
      simp only [Rs, Nat.sub_self, List.map_nil] at this
      rw [lg_entry_eq]
      exact this
    · cases hf
  · cases hf
end SND4
end
section
/-! ===== the machine follows the operations, 5: longs, switches ===== -/
def op_i2l (k : vD) : vD := fun L st G M => match st with
  | .int x :: r => k L (.long x.toInt64 :: r) G M
  | _ => none
def op_l2i (k : vD) : vD := fun L st G M => match st with
  | .long x :: r => k L (.int x.toInt32 :: r) G M
  | _ => none
def op_lcon (x : Int64) (k : vD) : vD := fun L st G M => k L (.long x :: st) G M
def op_lbin (f : Int64 → Int64 → Int64) (k : vD) : vD := fun L st G M => match st with
  | .long y :: .long x :: r => k L (.long (f x y) :: r) G M
  | _ => none
def op_ldiv (f : Int64 → Int64 → Int64) (k : vD) : vD := fun L st G M => match st with
  | .long y :: .long x :: r => if y = 0 then none else k L (.long (f x y) :: r) G M
  | _ => none
def op_lld (i : Nat) (k : vD) : vD := fun L st G M => match L.getD i none with
  | some (.long x) => k L (.long x :: st) G M
  | _ => none
def op_lst (i : Nat) (k : vD) : vD := fun L st G M => match st with
  | .long x :: r => if lgb L i then none else k ((L.set i (some (.long x))).set (i + 1) none) r G M
  | _ => none
def op_tsw (ks : List vD) (kd : vD) : vD := fun L st G M => match st with
  | .int x :: r => if 0 ≤ x.toInt ∧ x.toInt < ks.length then (ks.getD x.toInt.toNat (fun _ _ _ _ => none)) L r G M else kd L r G M
  | _ => none
section SND5
variable {p : Program} {l : Launch} {e : Env} {s : State} {m : MethodId} {args : Array Value} {below : List Frame} {meth : Method} {c : Code} {D : va_G} {cx : Nat → ClassId} {ad : Nat → Nat} {A : Nat → Prop}
variable {y : MethodName} {cc : ByteArray} {nL : Nat} {ret : Option FieldType} {lev mc ms : Nat} {g0 : vG} {pc pc' pt : Nat} {k kt kf : vD}
theorem s_i2l (hd : decode cc pc = .ok (.i2l, 1)) (hp : pc + 1 = pc') (hk : Snd y cc nL ret lev mc ms g0 pc' k) : Snd y cc nL ret lev mc ms g0 pc (op_i2l k) := by
  subst hp
  intro p l e s m args below meth c D cx ad A F H locs ls L st G M hI hL out ho
  obtain ⟨hx, hb, -⟩ := id F
  unfold op_i2l at ho
  split at ho
  · exact Rs.go (G2 := G) hk F ho (fun Q kk => lv_i2l hx hb hd rfl (kk H locs ls hI hL))
  · cases ho
theorem s_l2i (hd : decode cc pc = .ok (.l2i, 1)) (hp : pc + 1 = pc') (hk : Snd y cc nL ret lev mc ms g0 pc' k) : Snd y cc nL ret lev mc ms g0 pc (op_l2i k) := by
  subst hp
  intro p l e s m args below meth c D cx ad A F H locs ls L st G M hI hL out ho
  obtain ⟨hx, hb, -⟩ := id F
  unfold op_l2i at ho
  split at ho
  · exact Rs.go (G2 := G) hk F ho (fun Q kk => lv_l2i hx hb hd rfl (kk H locs ls hI hL))
  · cases ho
theorem s_lcon {n : Nat} {x : Int64} (hd : decode cc pc = .ok (.ldc2_w n, 3)) (hw : Cond.constantLong y.cls n x ∈ lw_good) (hp : pc + 3 = pc') (hk : Snd y cc nL ret lev mc ms g0 pc' k) : Snd y cc nL ret lev mc ms g0 pc (op_lcon x k) := by
  subst hp
  intro p l e s m args below meth c D cx ad A F H locs ls L st G M hI hL out ho
  obtain ⟨hx, hb, -, hown, hts, -⟩ := id F
  exact Rs.go (G2 := G) hk F ho (fun Q kk => lv_ldc2 hx hb hown (hts _ hw) hd (kk H locs ls hI hL))
def f_lmul : Int64 → Int64 → Int64 := fun x y => x * y
def f_ladd : Int64 → Int64 → Int64 := fun x y => x + y
def f_lrem : Int64 → Int64 → Int64 := fun x y => x - x / y * y
theorem s_lmul (hd : decode cc pc = .ok (.lmul, 1)) (hp : pc + 1 = pc') (hk : Snd y cc nL ret lev mc ms g0 pc' k) : Snd y cc nL ret lev mc ms g0 pc (op_lbin f_lmul k) := by
  subst hp
  intro p l e s m args below meth c D cx ad A F H locs ls L st G M hI hL out ho
  obtain ⟨hx, hb, -⟩ := id F
  unfold op_lbin at ho
  split at ho
  · exact Rs.go (G2 := G) hk F ho (fun Q kk => lv_lmul hx hb hd (kk H locs ls hI hL))
  · cases ho
theorem s_ladd (hd : decode cc pc = .ok (.ladd, 1)) (hp : pc + 1 = pc') (hk : Snd y cc nL ret lev mc ms g0 pc' k) : Snd y cc nL ret lev mc ms g0 pc (op_lbin f_ladd k) := by
  subst hp
  intro p l e s m args below meth c D cx ad A F H locs ls L st G M hI hL out ho
  obtain ⟨hx, hb, -⟩ := id F
  unfold op_lbin at ho
  split at ho
  · exact Rs.go (G2 := G) hk F ho (fun Q kk => lv_ladd hx hb hd (kk H locs ls hI hL))
  · cases ho
theorem s_lrem (hd : decode cc pc = .ok (.lrem, 1)) (hp : pc + 1 = pc') (hk : Snd y cc nL ret lev mc ms g0 pc' k) : Snd y cc nL ret lev mc ms g0 pc (op_ldiv f_lrem k) := by
  subst hp
  intro p l e s m args below meth c D cx ad A F H locs ls L st G M hI hL out ho
  obtain ⟨hx, hb, -⟩ := id F
  unfold op_ldiv at ho
  split at ho
  · split at ho
    · cases ho
    · next hne => exact Rs.go (G2 := G) hk F ho (fun Q kk => lv_lrem hx hb hd hne (kk H locs ls hI hL))
  · cases ho
theorem s_lldn {i : Nat} {j : Fin 4} (hd : decode cc pc = .ok (.lload_n j, 1)) (hi : (j : Nat) = i) (hp : pc + 1 = pc') (hk : Snd y cc nL ret lev mc ms g0 pc' k) : Snd y cc nL ret lev mc ms g0 pc (op_lld i k) := by
  subst hp
  intro p l e s m args below meth c D cx ad A F H locs ls L st G M hI hL out ho
  obtain ⟨hx, hb, -⟩ := id F
  unfold op_lld at ho
  split at ho
  · next x hg => exact Rs.go (G2 := G) hk F ho (fun Q kk => lv_lload_n hx hb hd hi (lR_at hL hg) (kk H locs ls hI hL))
  · cases ho
theorem lR_set2 {L : vL} {ls : Array Slot} {i : Nat} {v : Value} (hg : lgb L i = false) (h : lv_has ls nL ((i, cvA ad v) :: (prs ad L).filter (fun q => !(q.1 == i) && (!(q.1 == i + 1) && !(q.1 + 1 == i && q.2.category == 2))))) : lR ad ((L.set i (some v)).set (i + 1) none) ls nL := by
  refine ⟨h.1, h.2.1, fun j w hj => ?_⟩
  by_cases hj1 : j = i + 1
  · subst hj1
    have hl : i + 1 < (L.set i (some v)).length := by
      have := (List.getElem?_eq_some_iff.mp hj).1
      simpa using this
    rw [List.getElem?_set_self hl] at hj
    cases hj
  rw [List.getElem?_set_ne (fun q => hj1 q.symm)] at hj
  by_cases hji : j = i
  · subst hji
    have hl : j < L.length := by
      have := (List.getElem?_eq_some_iff.mp hj).1
      simpa using this
    rw [List.getElem?_set_self hl] at hj
    cases hj
    exact h.2.2 (j, cvA ad v) List.mem_cons_self
  · rw [List.getElem?_set_ne (fun q => hji q.symm)] at hj
    refine h.2.2 (j, cvA ad w) (List.mem_cons_of_mem _ (List.mem_filter.mpr ⟨prs_in hj, ?_⟩))
    have hb : (j + 1 == i && (cvA ad w).category == 2) = false := by
      by_cases hj1 : j + 1 = i
      · subst hj1
        have : lgb L (j + 1) = (w.category == 2) := by
          show (match L.getD j none with
            | some v => v.category == 2
            | none => false) = _
          rw [List.getD_eq_getElem?_getD, hj]
          rfl
        rw [this] at hg
        rw [cvA_cat, hg]
        simp
      · simp [hj1]
    simp [hji, hj1, hb]
theorem s_lstn {i : Nat} {j : Fin 4} (hd : decode cc pc = .ok (.lstore_n j, 1)) (hi : (j : Nat) = i) (hn : i + 1 < nL) (hp : pc + 1 = pc') (hk : Snd y cc nL ret lev mc ms g0 pc' k) : Snd y cc nL ret lev mc ms g0 pc (op_lst i k) := by
  subst hp
  intro p l e s m args below meth c D cx ad A F H locs ls L st G M hI hL out ho
  obtain ⟨hx, hb, -⟩ := id F
  unfold op_lst at ho
  split at ho
  · next x r =>
    split at ho
    · cases ho
    · next hg => exact Rs.go (G2 := G) hk F ho (fun Q kk => lv_lstore_n hx hb hd hi (lR_has hL) hn rfl (fun ls' h' => kk H locs ls' hI (lR_set2 (v := .long x) (by simpa using hg) h')))
  · cases ho
def SndL (y : MethodName) (cc : ByteArray) (nL : Nat) (ret : Option FieldType) (lev mc ms : Nat) (g0 : vG) : List Nat → List vD → Prop
  | t :: ts, k :: ks => Snd y cc nL ret lev mc ms g0 t k ∧ SndL y cc nL ret lev mc ms g0 ts ks
  | [], [] => True
  | _, _ => False
theorem SndL_at : ∀ {ts : List Nat} {ks : List vD}, SndL y cc nL ret lev mc ms g0 ts ks → ts.length = ks.length ∧ ∀ j, j < ks.length → Snd y cc nL ret lev mc ms g0 (ts.getD j 0) (ks.getD j (fun _ _ _ _ => none))
  | [], [], _ => ⟨rfl, fun j hj => absurd hj (Nat.not_lt_zero j)⟩
  | t :: ts, k :: ks, h => by
    obtain ⟨h1, h2⟩ := SndL_at h.2
    refine ⟨by simp [h1], fun j hj => ?_⟩
    cases j with
    | zero => exact h.1
    | succ j => exact h2 j (by simpa using hj)
  | t :: ts, [], h => h.elim
  | [], k :: ks, h => h.elim
theorem s_tsw {ks : List vD} {kd : vD} {ts : List Nat} {dflt hi : Int} {offs : Array Int} {len td : Nat} (hd : decode cc pc = .ok (.tableswitch dflt 0 hi offs, len)) (hh : hi + 1 = ts.length) (ho : ∀ j, j < ts.length → offs[j]? = some ((ts.getD j 0 : Nat) - (pc : Int))) (htd : (pc : Int) + dflt = (td : Int)) (hks : SndL y cc nL ret lev mc ms g0 ts ks) (hkd : Snd y cc nL ret lev mc ms g0 td kd) : Snd y cc nL ret lev mc ms g0 pc (op_tsw ks kd) := by
  intro p l e s m args below meth c D cx ad A F H locs ls L st G M hI hL out hot
  obtain ⟨hx, hb, -⟩ := id F
  obtain ⟨hlen, hat⟩ := SndL_at hks
  unfold op_tsw at hot
  split at hot
  · next x r =>
    split at hot
    · next hc =>
      have hj : x.toInt.toNat < ks.length := by omega
      exact Rs.go (G2 := G) (hat _ hj) F hot (fun Q kk => lv_tableIn hx hb hd (by omega) (by omega) (by rw [Int.sub_zero]; exact ho _ (by omega)) (by omega) (kk H locs ls hI hL))
    · next hc =>
      exact Rs.go (G2 := G) hkd F hot (fun Q kk => lv_tableOut hx hb hd (by omega) htd (kk H locs ls hI hL))
  · cases hot
end SND5
end
