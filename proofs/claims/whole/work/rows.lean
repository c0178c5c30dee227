section
-- ===== PART A: goes FIRST, ahead of the names: the tables' words, and 'selects' of the private methods out of them =====
/-- a private method of a class that the tables say can be made, by its rows of tables_1 -/
def lw_okq (q : MethodName × Nat) : Prop := (q.1.cls ≠ "java/lang/invoke/MethodHandle" ∧ q.1.cls ≠ "java/lang/invoke/VarHandle") ∧ Cond.instantiable q.1.cls q.2 ∈ tables_1 ∧ Cond.privateMethod q.1 ∈ tables_1 ∧ Cond.instanceMethod q.1 ∈ tables_1
theorem lw_p0 : lw_okq (⟨"BarberJars$Reader", "advance", "()V"⟩, 8) := ⟨⟨by decide +kernel, by decide +kernel⟩, List.mem_of_getElem? (i := 40) (by decide +kernel), List.mem_of_getElem? (i := 284) (by decide +kernel), List.mem_of_getElem? (i := 285) (by decide +kernel)⟩
theorem lw_p1 : lw_okq (⟨"BarberJars$Reader", "scanLetters", "()V"⟩, 8) := ⟨⟨by decide +kernel, by decide +kernel⟩, List.mem_of_getElem? (i := 40) (by decide +kernel), List.mem_of_getElem? (i := 291) (by decide +kernel), List.mem_of_getElem? (i := 292) (by decide +kernel)⟩
theorem lw_p2 : lw_okq (⟨"BarberJars$Reader", "scanNumber", "()V"⟩, 8) := ⟨⟨by decide +kernel, by decide +kernel⟩, List.mem_of_getElem? (i := 40) (by decide +kernel), List.mem_of_getElem? (i := 298) (by decide +kernel), List.mem_of_getElem? (i := 299) (by decide +kernel)⟩
theorem lw_p3 : lw_okq (⟨"BarberJars$Reader", "tellItem", "()Z"⟩, 8) := ⟨⟨by decide +kernel, by decide +kernel⟩, List.mem_of_getElem? (i := 40) (by decide +kernel), List.mem_of_getElem? (i := 305) (by decide +kernel), List.mem_of_getElem? (i := 306) (by decide +kernel)⟩
theorem lw_p4 : lw_okq (⟨"BarberJars$Reader", "mayBegin", "(I)Z"⟩, 8) := ⟨⟨by decide +kernel, by decide +kernel⟩, List.mem_of_getElem? (i := 40) (by decide +kernel), List.mem_of_getElem? (i := 309) (by decide +kernel), List.mem_of_getElem? (i := 310) (by decide +kernel)⟩
theorem lw_p5 : lw_okq (⟨"BarberJars$Reader", "tellOne", "(I)Z"⟩, 8) := ⟨⟨by decide +kernel, by decide +kernel⟩, List.mem_of_getElem? (i := 40) (by decide +kernel), List.mem_of_getElem? (i := 313) (by decide +kernel), List.mem_of_getElem? (i := 314) (by decide +kernel)⟩
theorem lw_p6 : lw_okq (⟨"BarberJars$Reader", "isNumber", "(II)Z"⟩, 8) := ⟨⟨by decide +kernel, by decide +kernel⟩, List.mem_of_getElem? (i := 40) (by decide +kernel), List.mem_of_getElem? (i := 317) (by decide +kernel), List.mem_of_getElem? (i := 318) (by decide +kernel)⟩
theorem lw_p7 : lw_okq (⟨"BarberJars$Reader", "tellLongest", "()Z"⟩, 8) := ⟨⟨by decide +kernel, by decide +kernel⟩, List.mem_of_getElem? (i := 40) (by decide +kernel), List.mem_of_getElem? (i := 322) (by decide +kernel), List.mem_of_getElem? (i := 323) (by decide +kernel)⟩
theorem lw_p8 : lw_okq (⟨"BarberJars$Reader", "tellChair", "()Z"⟩, 8) := ⟨⟨by decide +kernel, by decide +kernel⟩, List.mem_of_getElem? (i := 40) (by decide +kernel), List.mem_of_getElem? (i := 326) (by decide +kernel), List.mem_of_getElem? (i := 327) (by decide +kernel)⟩
theorem lw_p9 : lw_okq (⟨"BarberJars", "isOne", "(I)Z"⟩, 11) := ⟨⟨by decide +kernel, by decide +kernel⟩, List.mem_of_getElem? (i := 15) (by decide +kernel), List.mem_of_getElem? (i := 353) (by decide +kernel), List.mem_of_getElem? (i := 354) (by decide +kernel)⟩
theorem lw_p10 : lw_okq (⟨"BarberJars$Times", "loseOldest", "()V"⟩, 3) := ⟨⟨by decide +kernel, by decide +kernel⟩, List.mem_of_getElem? (i := 112) (by decide +kernel), List.mem_of_getElem? (i := 396) (by decide +kernel), List.mem_of_getElem? (i := 397) (by decide +kernel)⟩
theorem lw_p11 : lw_okq (⟨"BarberJars$Moment", "dropTips", "(II)V"⟩, 6) := ⟨⟨by decide +kernel, by decide +kernel⟩, List.mem_of_getElem? (i := 118) (by decide +kernel), List.mem_of_getElem? (i := 417) (by decide +kernel), List.mem_of_getElem? (i := 418) (by decide +kernel)⟩
theorem lw_p12 : lw_okq (⟨"BarberJars", "layersOfAll", "()I"⟩, 11) := ⟨⟨by decide +kernel, by decide +kernel⟩, List.mem_of_getElem? (i := 15) (by decide +kernel), List.mem_of_getElem? (i := 463) (by decide +kernel), List.mem_of_getElem? (i := 464) (by decide +kernel)⟩
theorem lw_p13 : lw_okq (⟨"BarberJars", "sweptIntoAll", "()I"⟩, 11) := ⟨⟨by decide +kernel, by decide +kernel⟩, List.mem_of_getElem? (i := 15) (by decide +kernel), List.mem_of_getElem? (i := 467) (by decide +kernel), List.mem_of_getElem? (i := 468) (by decide +kernel)⟩
theorem lw_p14 : lw_okq (⟨"BarberJars", "mostIn", "(I)I"⟩, 11) := ⟨⟨by decide +kernel, by decide +kernel⟩, List.mem_of_getElem? (i := 15) (by decide +kernel), List.mem_of_getElem? (i := 475) (by decide +kernel), List.mem_of_getElem? (i := 476) (by decide +kernel)⟩
theorem lw_p15 : lw_okq (⟨"BarberJars", "blushes", "(I)I"⟩, 11) := ⟨⟨by decide +kernel, by decide +kernel⟩, List.mem_of_getElem? (i := 15) (by decide +kernel), List.mem_of_getElem? (i := 482) (by decide +kernel), List.mem_of_getElem? (i := 483) (by decide +kernel)⟩
def lw_privs_1 : List (MethodName × Nat) := [(⟨"BarberJars$Reader", "advance", "()V"⟩, 8), (⟨"BarberJars$Reader", "scanLetters", "()V"⟩, 8), (⟨"BarberJars$Reader", "scanNumber", "()V"⟩, 8), (⟨"BarberJars$Reader", "tellItem", "()Z"⟩, 8), (⟨"BarberJars$Reader", "mayBegin", "(I)Z"⟩, 8), (⟨"BarberJars$Reader", "tellOne", "(I)Z"⟩, 8), (⟨"BarberJars$Reader", "isNumber", "(II)Z"⟩, 8), (⟨"BarberJars$Reader", "tellLongest", "()Z"⟩, 8), (⟨"BarberJars$Reader", "tellChair", "()Z"⟩, 8), (⟨"BarberJars", "isOne", "(I)Z"⟩, 11), (⟨"BarberJars$Times", "loseOldest", "()V"⟩, 3), (⟨"BarberJars$Moment", "dropTips", "(II)V"⟩, 6), (⟨"BarberJars", "layersOfAll", "()I"⟩, 11), (⟨"BarberJars", "sweptIntoAll", "()I"⟩, 11), (⟨"BarberJars", "mostIn", "(I)I"⟩, 11), (⟨"BarberJars", "blushes", "(I)I"⟩, 11)]
theorem lw_r1 : ∀ q ∈ lw_privs_1, lw_okq q := List.forall_mem_cons.mpr ⟨lw_p0, List.forall_mem_cons.mpr ⟨lw_p1, List.forall_mem_cons.mpr ⟨lw_p2, List.forall_mem_cons.mpr ⟨lw_p3, List.forall_mem_cons.mpr ⟨lw_p4, List.forall_mem_cons.mpr ⟨lw_p5, List.forall_mem_cons.mpr ⟨lw_p6, List.forall_mem_cons.mpr ⟨lw_p7, List.forall_mem_cons.mpr ⟨lw_p8, List.forall_mem_cons.mpr ⟨lw_p9, List.forall_mem_cons.mpr ⟨lw_p10, List.forall_mem_cons.mpr ⟨lw_p11, List.forall_mem_cons.mpr ⟨lw_p12, List.forall_mem_cons.mpr ⟨lw_p13, List.forall_mem_cons.mpr ⟨lw_p14, List.forall_mem_cons.mpr ⟨lw_p15, fun _ h => absurd h List.not_mem_nil⟩⟩⟩⟩⟩⟩⟩⟩⟩⟩⟩⟩⟩⟩⟩⟩
theorem lw_p16 : lw_okq (⟨"BarberJars$Strand", "spend", "(IIII)V"⟩, 8) := ⟨⟨by decide +kernel, by decide +kernel⟩, List.mem_of_getElem? (i := 194) (by decide +kernel), List.mem_of_getElem? (i := 501) (by decide +kernel), List.mem_of_getElem? (i := 502) (by decide +kernel)⟩
theorem lw_p17 : lw_okq (⟨"BarberJars$Strand", "countWhatIsLeft", "()V"⟩, 8) := ⟨⟨by decide +kernel, by decide +kernel⟩, List.mem_of_getElem? (i := 194) (by decide +kernel), List.mem_of_getElem? (i := 519) (by decide +kernel), List.mem_of_getElem? (i := 520) (by decide +kernel)⟩
theorem lw_p18 : lw_okq (⟨"BarberJars$Strand", "suffices", "(II)Z"⟩, 8) := ⟨⟨by decide +kernel, by decide +kernel⟩, List.mem_of_getElem? (i := 194) (by decide +kernel), List.mem_of_getElem? (i := 523) (by decide +kernel), List.mem_of_getElem? (i := 524) (by decide +kernel)⟩
theorem lw_p19 : lw_okq (⟨"BarberJars", "thoughtsOf", "(I)I"⟩, 11) := ⟨⟨by decide +kernel, by decide +kernel⟩, List.mem_of_getElem? (i := 15) (by decide +kernel), List.mem_of_getElem? (i := 544) (by decide +kernel), List.mem_of_getElem? (i := 545) (by decide +kernel)⟩
theorem lw_p20 : lw_okq (⟨"BarberJars", "whoseLock", "()I"⟩, 11) := ⟨⟨by decide +kernel, by decide +kernel⟩, List.mem_of_getElem? (i := 15) (by decide +kernel), List.mem_of_getElem? (i := 572) (by decide +kernel), List.mem_of_getElem? (i := 573) (by decide +kernel)⟩
theorem lw_p21 : lw_okq (⟨"BarberJars", "nextInLock", "()I"⟩, 11) := ⟨⟨by decide +kernel, by decide +kernel⟩, List.mem_of_getElem? (i := 15) (by decide +kernel), List.mem_of_getElem? (i := 581) (by decide +kernel), List.mem_of_getElem? (i := 582) (by decide +kernel)⟩
theorem lw_p22 : lw_okq (⟨"BarberJars", "shareOutHeard", "()V"⟩, 11) := ⟨⟨by decide +kernel, by decide +kernel⟩, List.mem_of_getElem? (i := 15) (by decide +kernel), List.mem_of_getElem? (i := 594) (by decide +kernel), List.mem_of_getElem? (i := 595) (by decide +kernel)⟩
theorem lw_p23 : lw_okq (⟨"BarberJars", "allHeardIsSo", "(I)Z"⟩, 11) := ⟨⟨by decide +kernel, by decide +kernel⟩, List.mem_of_getElem? (i := 15) (by decide +kernel), List.mem_of_getElem? (i := 598) (by decide +kernel), List.mem_of_getElem? (i := 599) (by decide +kernel)⟩
theorem lw_p24 : lw_okq (⟨"BarberJars", "markOne", "(I)I"⟩, 11) := ⟨⟨by decide +kernel, by decide +kernel⟩, List.mem_of_getElem? (i := 15) (by decide +kernel), List.mem_of_getElem? (i := 611) (by decide +kernel), List.mem_of_getElem? (i := 612) (by decide +kernel)⟩
theorem lw_p25 : lw_okq (⟨"BarberJars", "markPoet", "(I)I"⟩, 11) := ⟨⟨by decide +kernel, by decide +kernel⟩, List.mem_of_getElem? (i := 15) (by decide +kernel), List.mem_of_getElem? (i := 615) (by decide +kernel), List.mem_of_getElem? (i := 616) (by decide +kernel)⟩
theorem lw_p26 : lw_okq (⟨"BarberJars", "markBride", "(I)I"⟩, 11) := ⟨⟨by decide +kernel, by decide +kernel⟩, List.mem_of_getElem? (i := 15) (by decide +kernel), List.mem_of_getElem? (i := 624) (by decide +kernel), List.mem_of_getElem? (i := 625) (by decide +kernel)⟩
theorem lw_p27 : lw_okq (⟨"BarberJars", "markWig", "(I)I"⟩, 11) := ⟨⟨by decide +kernel, by decide +kernel⟩, List.mem_of_getElem? (i := 15) (by decide +kernel), List.mem_of_getElem? (i := 629) (by decide +kernel), List.mem_of_getElem? (i := 630) (by decide +kernel)⟩
theorem lw_p28 : lw_okq (⟨"BarberJars", "markNun", "(I)I"⟩, 11) := ⟨⟨by decide +kernel, by decide +kernel⟩, List.mem_of_getElem? (i := 15) (by decide +kernel), List.mem_of_getElem? (i := 634) (by decide +kernel), List.mem_of_getElem? (i := 635) (by decide +kernel)⟩
theorem lw_p29 : lw_okq (⟨"BarberJars", "markBald", "(I)I"⟩, 11) := ⟨⟨by decide +kernel, by decide +kernel⟩, List.mem_of_getElem? (i := 15) (by decide +kernel), List.mem_of_getElem? (i := 639) (by decide +kernel), List.mem_of_getElem? (i := 640) (by decide +kernel)⟩
theorem lw_p30 : lw_okq (⟨"BarberJarsModel", "next", "()V"⟩, 31) := ⟨⟨by decide +kernel, by decide +kernel⟩, List.mem_of_getElem? (i := 664) (by decide +kernel), List.mem_of_getElem? (i := 779) (by decide +kernel), List.mem_of_getElem? (i := 780) (by decide +kernel)⟩
theorem lw_p31 : lw_okq (⟨"BarberJarsModel", "letterAt", "(I)I"⟩, 31) := ⟨⟨by decide +kernel, by decide +kernel⟩, List.mem_of_getElem? (i := 664) (by decide +kernel), List.mem_of_getElem? (i := 783) (by decide +kernel), List.mem_of_getElem? (i := 784) (by decide +kernel)⟩
def lw_privs_2 : List (MethodName × Nat) := [(⟨"BarberJars$Strand", "spend", "(IIII)V"⟩, 8), (⟨"BarberJars$Strand", "countWhatIsLeft", "()V"⟩, 8), (⟨"BarberJars$Strand", "suffices", "(II)Z"⟩, 8), (⟨"BarberJars", "thoughtsOf", "(I)I"⟩, 11), (⟨"BarberJars", "whoseLock", "()I"⟩, 11), (⟨"BarberJars", "nextInLock", "()I"⟩, 11), (⟨"BarberJars", "shareOutHeard", "()V"⟩, 11), (⟨"BarberJars", "allHeardIsSo", "(I)Z"⟩, 11), (⟨"BarberJars", "markOne", "(I)I"⟩, 11), (⟨"BarberJars", "markPoet", "(I)I"⟩, 11), (⟨"BarberJars", "markBride", "(I)I"⟩, 11), (⟨"BarberJars", "markWig", "(I)I"⟩, 11), (⟨"BarberJars", "markNun", "(I)I"⟩, 11), (⟨"BarberJars", "markBald", "(I)I"⟩, 11), (⟨"BarberJarsModel", "next", "()V"⟩, 31), (⟨"BarberJarsModel", "letterAt", "(I)I"⟩, 31)]
theorem lw_r2 : ∀ q ∈ lw_privs_2, lw_okq q := List.forall_mem_cons.mpr ⟨lw_p16, List.forall_mem_cons.mpr ⟨lw_p17, List.forall_mem_cons.mpr ⟨lw_p18, List.forall_mem_cons.mpr ⟨lw_p19, List.forall_mem_cons.mpr ⟨lw_p20, List.forall_mem_cons.mpr ⟨lw_p21, List.forall_mem_cons.mpr ⟨lw_p22, List.forall_mem_cons.mpr ⟨lw_p23, List.forall_mem_cons.mpr ⟨lw_p24, List.forall_mem_cons.mpr ⟨lw_p25, List.forall_mem_cons.mpr ⟨lw_p26, List.forall_mem_cons.mpr ⟨lw_p27, List.forall_mem_cons.mpr ⟨lw_p28, List.forall_mem_cons.mpr ⟨lw_p29, List.forall_mem_cons.mpr ⟨lw_p30, List.forall_mem_cons.mpr ⟨lw_p31, fun _ h => absurd h List.not_mem_nil⟩⟩⟩⟩⟩⟩⟩⟩⟩⟩⟩⟩⟩⟩⟩⟩
theorem lw_p32 : lw_okq (⟨"BarberJarsModel", "readItem", "()V"⟩, 31) := ⟨⟨by decide +kernel, by decide +kernel⟩, List.mem_of_getElem? (i := 664) (by decide +kernel), List.mem_of_getElem? (i := 793) (by decide +kernel), List.mem_of_getElem? (i := 794) (by decide +kernel)⟩
theorem lw_p33 : lw_okq (⟨"BarberJarsModel", "mayBegin", "(I)Z"⟩, 31) := ⟨⟨by decide +kernel, by decide +kernel⟩, List.mem_of_getElem? (i := 664) (by decide +kernel), List.mem_of_getElem? (i := 797) (by decide +kernel), List.mem_of_getElem? (i := 798) (by decide +kernel)⟩
theorem lw_p34 : lw_okq (⟨"BarberJarsModel", "readOne", "()V"⟩, 31) := ⟨⟨by decide +kernel, by decide +kernel⟩, List.mem_of_getElem? (i := 664) (by decide +kernel), List.mem_of_getElem? (i := 801) (by decide +kernel), List.mem_of_getElem? (i := 802) (by decide +kernel)⟩
theorem lw_p35 : lw_okq (⟨"BarberJarsModel", "takesNumber", "(II)I"⟩, 31) := ⟨⟨by decide +kernel, by decide +kernel⟩, List.mem_of_getElem? (i := 664) (by decide +kernel), List.mem_of_getElem? (i := 805) (by decide +kernel), List.mem_of_getElem? (i := 806) (by decide +kernel)⟩
theorem lw_p36 : lw_okq (⟨"BarberJarsModel", "settles", "()V"⟩, 31) := ⟨⟨by decide +kernel, by decide +kernel⟩, List.mem_of_getElem? (i := 664) (by decide +kernel), List.mem_of_getElem? (i := 809) (by decide +kernel), List.mem_of_getElem? (i := 810) (by decide +kernel)⟩
theorem lw_p37 : lw_okq (⟨"BarberJarsModel", "isOne", "(I)Z"⟩, 31) := ⟨⟨by decide +kernel, by decide +kernel⟩, List.mem_of_getElem? (i := 664) (by decide +kernel), List.mem_of_getElem? (i := 817) (by decide +kernel), List.mem_of_getElem? (i := 818) (by decide +kernel)⟩
theorem lw_p38 : lw_okq (⟨"BarberJarsModel", "layersOf", "(II)I"⟩, 31) := ⟨⟨by decide +kernel, by decide +kernel⟩, List.mem_of_getElem? (i := 664) (by decide +kernel), List.mem_of_getElem? (i := 821) (by decide +kernel), List.mem_of_getElem? (i := 822) (by decide +kernel)⟩
theorem lw_p39 : lw_okq (⟨"BarberJarsModel", "layerOf", "(II)I"⟩, 31) := ⟨⟨by decide +kernel, by decide +kernel⟩, List.mem_of_getElem? (i := 664) (by decide +kernel), List.mem_of_getElem? (i := 825) (by decide +kernel), List.mem_of_getElem? (i := 826) (by decide +kernel)⟩
theorem lw_p40 : lw_okq (⟨"BarberJarsModel", "remembers", "()V"⟩, 31) := ⟨⟨by decide +kernel, by decide +kernel⟩, List.mem_of_getElem? (i := 664) (by decide +kernel), List.mem_of_getElem? (i := 851) (by decide +kernel), List.mem_of_getElem? (i := 852) (by decide +kernel)⟩
theorem lw_p41 : lw_okq (⟨"BarberJarsModel", "grows", "(I)V"⟩, 31) := ⟨⟨by decide +kernel, by decide +kernel⟩, List.mem_of_getElem? (i := 664) (by decide +kernel), List.mem_of_getElem? (i := 855) (by decide +kernel), List.mem_of_getElem? (i := 856) (by decide +kernel)⟩
theorem lw_p42 : lw_okq (⟨"BarberJarsModel", "thinks", "(II)I"⟩, 31) := ⟨⟨by decide +kernel, by decide +kernel⟩, List.mem_of_getElem? (i := 664) (by decide +kernel), List.mem_of_getElem? (i := 859) (by decide +kernel), List.mem_of_getElem? (i := 860) (by decide +kernel)⟩
theorem lw_p43 : lw_okq (⟨"BarberJarsModel", "loses", "(II)V"⟩, 31) := ⟨⟨by decide +kernel, by decide +kernel⟩, List.mem_of_getElem? (i := 664) (by decide +kernel), List.mem_of_getElem? (i := 863) (by decide +kernel), List.mem_of_getElem? (i := 864) (by decide +kernel)⟩
theorem lw_p44 : lw_okq (⟨"BarberJarsModel", "inJar", "(I)I"⟩, 31) := ⟨⟨by decide +kernel, by decide +kernel⟩, List.mem_of_getElem? (i := 664) (by decide +kernel), List.mem_of_getElem? (i := 883) (by decide +kernel), List.mem_of_getElem? (i := 884) (by decide +kernel)⟩
theorem lw_p45 : lw_okq (⟨"BarberJarsModel", "asItIs", "(I)V"⟩, 31) := ⟨⟨by decide +kernel, by decide +kernel⟩, List.mem_of_getElem? (i := 664) (by decide +kernel), List.mem_of_getElem? (i := 903) (by decide +kernel), List.mem_of_getElem? (i := 904) (by decide +kernel)⟩
theorem lw_p46 : lw_okq (⟨"BarberJarsModel", "growsTried", "(I)V"⟩, 31) := ⟨⟨by decide +kernel, by decide +kernel⟩, List.mem_of_getElem? (i := 664) (by decide +kernel), List.mem_of_getElem? (i := 907) (by decide +kernel), List.mem_of_getElem? (i := 908) (by decide +kernel)⟩
theorem lw_p47 : lw_okq (⟨"BarberJarsModel", "isMost", "(I)Z"⟩, 31) := ⟨⟨by decide +kernel, by decide +kernel⟩, List.mem_of_getElem? (i := 664) (by decide +kernel), List.mem_of_getElem? (i := 918) (by decide +kernel), List.mem_of_getElem? (i := 919) (by decide +kernel)⟩
def lw_privs_3 : List (MethodName × Nat) := [(⟨"BarberJarsModel", "readItem", "()V"⟩, 31), (⟨"BarberJarsModel", "mayBegin", "(I)Z"⟩, 31), (⟨"BarberJarsModel", "readOne", "()V"⟩, 31), (⟨"BarberJarsModel", "takesNumber", "(II)I"⟩, 31), (⟨"BarberJarsModel", "settles", "()V"⟩, 31), (⟨"BarberJarsModel", "isOne", "(I)Z"⟩, 31), (⟨"BarberJarsModel", "layersOf", "(II)I"⟩, 31), (⟨"BarberJarsModel", "layerOf", "(II)I"⟩, 31), (⟨"BarberJarsModel", "remembers", "()V"⟩, 31), (⟨"BarberJarsModel", "grows", "(I)V"⟩, 31), (⟨"BarberJarsModel", "thinks", "(II)I"⟩, 31), (⟨"BarberJarsModel", "loses", "(II)V"⟩, 31), (⟨"BarberJarsModel", "inJar", "(I)I"⟩, 31), (⟨"BarberJarsModel", "asItIs", "(I)V"⟩, 31), (⟨"BarberJarsModel", "growsTried", "(I)V"⟩, 31), (⟨"BarberJarsModel", "isMost", "(I)Z"⟩, 31)]
theorem lw_r3 : ∀ q ∈ lw_privs_3, lw_okq q := List.forall_mem_cons.mpr ⟨lw_p32, List.forall_mem_cons.mpr ⟨lw_p33, List.forall_mem_cons.mpr ⟨lw_p34, List.forall_mem_cons.mpr ⟨lw_p35, List.forall_mem_cons.mpr ⟨lw_p36, List.forall_mem_cons.mpr ⟨lw_p37, List.forall_mem_cons.mpr ⟨lw_p38, List.forall_mem_cons.mpr ⟨lw_p39, List.forall_mem_cons.mpr ⟨lw_p40, List.forall_mem_cons.mpr ⟨lw_p41, List.forall_mem_cons.mpr ⟨lw_p42, List.forall_mem_cons.mpr ⟨lw_p43, List.forall_mem_cons.mpr ⟨lw_p44, List.forall_mem_cons.mpr ⟨lw_p45, List.forall_mem_cons.mpr ⟨lw_p46, List.forall_mem_cons.mpr ⟨lw_p47, fun _ h => absurd h List.not_mem_nil⟩⟩⟩⟩⟩⟩⟩⟩⟩⟩⟩⟩⟩⟩⟩⟩
theorem lw_p48 : lw_okq (⟨"BarberJarsModel", "thoughtsOf", "(I)I"⟩, 31) := ⟨⟨by decide +kernel, by decide +kernel⟩, List.mem_of_getElem? (i := 664) (by decide +kernel), List.mem_of_getElem? (i := 929) (by decide +kernel), List.mem_of_getElem? (i := 930) (by decide +kernel)⟩
theorem lw_p49 : lw_okq (⟨"BarberJarsModel", "isLock", "(II)Z"⟩, 31) := ⟨⟨by decide +kernel, by decide +kernel⟩, List.mem_of_getElem? (i := 664) (by decide +kernel), List.mem_of_getElem? (i := 948) (by decide +kernel), List.mem_of_getElem? (i := 949) (by decide +kernel)⟩
theorem lw_p50 : lw_okq (⟨"BarberJarsModel", "isHeard", "(I)Z"⟩, 31) := ⟨⟨by decide +kernel, by decide +kernel⟩, List.mem_of_getElem? (i := 664) (by decide +kernel), List.mem_of_getElem? (i := 960) (by decide +kernel), List.mem_of_getElem? (i := 961) (by decide +kernel)⟩
def lw_privs_4 : List (MethodName × Nat) := [(⟨"BarberJarsModel", "thoughtsOf", "(I)I"⟩, 31), (⟨"BarberJarsModel", "isLock", "(II)Z"⟩, 31), (⟨"BarberJarsModel", "isHeard", "(I)Z"⟩, 31)]
theorem lw_r4 : ∀ q ∈ lw_privs_4, lw_okq q := List.forall_mem_cons.mpr ⟨lw_p48, List.forall_mem_cons.mpr ⟨lw_p49, List.forall_mem_cons.mpr ⟨lw_p50, fun _ h => absurd h List.not_mem_nil⟩⟩⟩
def lw_privs : List (MethodName × Nat) := lw_privs_1 ++ (lw_privs_2 ++ (lw_privs_3 ++ (lw_privs_4)))
def lw_tbl : List Cond := k2_sels lw_privs ++ tables_1
theorem lw_privs_ok : ∀ q ∈ lw_privs, lw_okq q := by
  show ∀ q ∈ lw_privs_1 ++ (lw_privs_2 ++ (lw_privs_3 ++ (lw_privs_4))), lw_okq q
  exact List.forall_mem_append.mpr ⟨lw_r1, List.forall_mem_append.mpr ⟨lw_r2, List.forall_mem_append.mpr ⟨lw_r3, lw_r4⟩⟩⟩
end
section
def RX0 : String := "BarberJars$Clues"
def TX0 : u_T := fun k => match k with
  | 0 => ("BarberJars$Clues", "seen", "[I", true)
  | 1 => ("BarberJars$Clues", "heardThoughts", "[I", true)
  | 2 => ("BarberJars$Clues", "heardLayers", "[I", true)
  | 3 => ("BarberJars$Clues", "seenSize", "I", false)
  | _ => ("BarberJars$Clues", "heardSize", "I", false)
def tyX0 : Nat → FieldType := fun k => match k with
  | 0 => .array .int
  | 1 => .array .int
  | 2 => .array .int
  | 3 => .int
  | _ => .int
abbrev wsX00 : List Cond := u_ws RX0 TX0 5
theorem nmX0 : ∀ a, a < 5 → ∀ b, b < 5 → a ≠ b → (TX0 a).2.1 ≠ (TX0 b).2.1 := by decide +kernel
theorem tyX0_ok : ∀ k, k < 5 → parseFieldDescriptor (TX0 k).2.2.1 = some (tyX0 k) := by decide +kernel
abbrev cX0_init : ByteArray := prog_2_method_1_code
def yX0_init : MethodName := ⟨RX0, "<init>", "()V"⟩
abbrev cX0_drop : ByteArray := prog_2_method_2_code
def yX0_drop : MethodName := ⟨RX0, "drop", "()V"⟩
abbrev cX0_fitAt : ByteArray := prog_2_method_3_code
def yX0_fitAt : MethodName := ⟨RX0, "fitAt", "(LBarberJars$Moment;II)Z"⟩
def RX1 : String := "BarberJars$Moment"
def TX1 : u_T := fun k => match k with
  | 0 => ("BarberJars$Moment", "sizes", "[I", true)
  | 1 => ("BarberJars$Moment", "made", "[I", true)
  | 2 => ("BarberJars$Moment", "hair", "[I", true)
  | 3 => ("BarberJars$Moment", "swept", "[I", true)
  | 4 => ("BarberJars$Moment", "day", "I", false)
  | _ => ("BarberJars$Moment", "chair", "I", false)
def tyX1 : Nat → FieldType := fun k => match k with
  | 0 => .array .int
  | 1 => .array .int
  | 2 => .array .int
  | 3 => .array .int
  | 4 => .int
  | _ => .int
abbrev wsX10 : List Cond := u_ws RX1 TX1 6
theorem nmX1 : ∀ a, a < 6 → ∀ b, b < 6 → a ≠ b → (TX1 a).2.1 ≠ (TX1 b).2.1 := by decide +kernel
theorem tyX1_ok : ∀ k, k < 6 → parseFieldDescriptor (TX1 k).2.2.1 = some (tyX1 k) := by decide +kernel
abbrev cX1_init : ByteArray := prog_3_method_1_code
def yX1_init : MethodName := ⟨RX1, "<init>", "()V"⟩
abbrev cX1_begin : ByteArray := prog_3_method_2_code
def yX1_begin : MethodName := ⟨RX1, "begin", "(I)V"⟩
abbrev cX1_copyFrom : ByteArray := prog_3_method_3_code
def yX1_copyFrom : MethodName := ⟨RX1, "copyFrom", "(LBarberJars$Moment;)V"⟩
abbrev cX1_layerAt : ByteArray := prog_3_method_4_code
def yX1_layerAt : MethodName := ⟨RX1, "layerAt", "(II)I"⟩
abbrev cX1_sweptOf : ByteArray := prog_3_method_5_code
def yX1_sweptOf : MethodName := ⟨RX1, "sweptOf", "(II)I"⟩
abbrev cX1_thoughtAhead : ByteArray := prog_3_method_6_code
def yX1_thoughtAhead : MethodName := ⟨RX1, "thoughtAhead", "(LBarberJars$Town;II)I"⟩
abbrev cX1_passDay : ByteArray := prog_3_method_7_code
def yX1_passDay : MethodName := ⟨RX1, "passDay", "(LBarberJars$Town;)V"⟩
abbrev cX1_sweep : ByteArray := prog_3_method_8_code
def yX1_sweep : MethodName := ⟨RX1, "sweep", "(II)V"⟩
abbrev cX1_dropTips : ByteArray := prog_3_method_9_code
def yX1_dropTips : MethodName := ⟨RX1, "dropTips", "(II)V"⟩
abbrev cX1_pourOut : ByteArray := prog_3_method_10_code
def yX1_pourOut : MethodName := ⟨RX1, "pourOut", "(I)V"⟩
abbrev cX1_layersOf : ByteArray := prog_3_method_11_code
def yX1_layersOf : MethodName := ⟨RX1, "layersOf", "(II)I"⟩
abbrev cX1_thoughtsIn : ByteArray := prog_3_method_12_code
def yX1_thoughtsIn : MethodName := ⟨RX1, "thoughtsIn", "(I)I"⟩
abbrev cX1_rootOf : ByteArray := prog_3_method_13_code
def yX1_rootOf : MethodName := ⟨RX1, "rootOf", "(I)I"⟩
abbrev cX1_sweptInto : ByteArray := prog_3_method_14_code
def yX1_sweptInto : MethodName := ⟨RX1, "sweptInto", "(I)I"⟩
def RX2 : String := "BarberJars$Reader"
def TX2 : u_T := fun k => match k with
  | 0 => ("BarberJars$Reader", "draft", "LBarberJars$Town;", true)
  | 1 => ("BarberJars$Reader", "text", "LBarberJars$Text;", true)
  | 2 => ("BarberJars$Reader", "place", "I", false)
  | 3 => ("BarberJars$Reader", "start", "I", false)
  | 4 => ("BarberJars$Reader", "sort", "I", false)
  | 5 => ("BarberJars$Reader", "value", "I", false)
  | 6 => ("BarberJars$Reader", "longestTold", "Z", false)
  | _ => ("BarberJars$Reader", "chairTold", "Z", false)
def tyX2 : Nat → FieldType := fun k => match k with
  | 0 => .object "BarberJars$Town"
  | 1 => .object "BarberJars$Text"
  | 2 => .int
  | 3 => .int
  | 4 => .int
  | 5 => .int
  | 6 => .boolean
  | _ => .boolean
abbrev wsX20 : List Cond := u_ws RX2 TX2 8
theorem nmX2 : ∀ a, a < 8 → ∀ b, b < 8 → a ≠ b → (TX2 a).2.1 ≠ (TX2 b).2.1 := by decide +kernel
theorem tyX2_ok : ∀ k, k < 8 → parseFieldDescriptor (TX2 k).2.2.1 = some (tyX2 k) := by decide +kernel
abbrev cX2_init : ByteArray := prog_4_method_1_code
def yX2_init : MethodName := ⟨RX2, "<init>", "(LBarberJars$Text;)V"⟩
abbrev cX2_tellAll : ByteArray := prog_4_method_2_code
def yX2_tellAll : MethodName := ⟨RX2, "tellAll", "()I"⟩
abbrev cX2_tellItem : ByteArray := prog_4_method_3_code
def yX2_tellItem : MethodName := ⟨RX2, "tellItem", "()Z"⟩
abbrev cX2_mayBegin : ByteArray := prog_4_method_4_code
def yX2_mayBegin : MethodName := ⟨RX2, "mayBegin", "(I)Z"⟩
abbrev cX2_tellOne : ByteArray := prog_4_method_5_code
def yX2_tellOne : MethodName := ⟨RX2, "tellOne", "(I)Z"⟩
abbrev cX2_tellLongest : ByteArray := prog_4_method_6_code
def yX2_tellLongest : MethodName := ⟨RX2, "tellLongest", "()Z"⟩
abbrev cX2_tellChair : ByteArray := prog_4_method_7_code
def yX2_tellChair : MethodName := ⟨RX2, "tellChair", "()Z"⟩
abbrev cX2_isNumber : ByteArray := prog_4_method_8_code
def yX2_isNumber : MethodName := ⟨RX2, "isNumber", "(II)Z"⟩
abbrev cX2_advance : ByteArray := prog_4_method_9_code
def yX2_advance : MethodName := ⟨RX2, "advance", "()V"⟩
abbrev cX2_scanLetters : ByteArray := prog_4_method_10_code
def yX2_scanLetters : MethodName := ⟨RX2, "scanLetters", "()V"⟩
abbrev cX2_scanNumber : ByteArray := prog_4_method_11_code
def yX2_scanNumber : MethodName := ⟨RX2, "scanNumber", "()V"⟩
abbrev cX2_isSmallLetter : ByteArray := prog_4_method_12_code
def yX2_isSmallLetter : MethodName := ⟨RX2, "isSmallLetter", "(I)Z"⟩
abbrev cX2_isDigit : ByteArray := prog_4_method_13_code
def yX2_isDigit : MethodName := ⟨RX2, "isDigit", "(I)Z"⟩
def RX3 : String := "BarberJars$Strand"
def TX3 : u_T := fun k => match k with
  | 0 => ("BarberJars$Strand", "counts", "[I", true)
  | 1 => ("BarberJars$Strand", "coming", "[I", true)
  | 2 => ("BarberJars$Strand", "thoughts", "[I", true)
  | 3 => ("BarberJars$Strand", "fewest", "[I", false)
  | 4 => ("BarberJars$Strand", "later", "[I", false)
  | 5 => ("BarberJars$Strand", "hairSize", "I", false)
  | 6 => ("BarberJars$Strand", "wholeSize", "I", false)
  | _ => ("BarberJars$Strand", "longest", "I", false)
def tyX3 : Nat → FieldType := fun k => match k with
  | 0 => .array .int
  | 1 => .array .int
  | 2 => .array .int
  | 3 => .array .int
  | 4 => .array .int
  | 5 => .int
  | 6 => .int
  | _ => .int
abbrev wsX30 : List Cond := u_ws RX3 TX3 8
theorem nmX3 : ∀ a, a < 8 → ∀ b, b < 8 → a ≠ b → (TX3 a).2.1 ≠ (TX3 b).2.1 := by decide +kernel
theorem tyX3_ok : ∀ k, k < 8 → parseFieldDescriptor (TX3 k).2.2.1 = some (tyX3 k) := by decide +kernel
abbrev cX3_init : ByteArray := prog_5_method_1_code
def yX3_init : MethodName := ⟨RX3, "<init>", "()V"⟩
abbrev cX3_grow : ByteArray := prog_5_method_2_code
def yX3_grow : MethodName := ⟨RX3, "grow", "(LBarberJars$Town;LBarberJars$Moment;II)V"⟩
abbrev cX3_firstFailingEvening : ByteArray := prog_5_method_3_code
def yX3_firstFailingEvening : MethodName := ⟨RX3, "firstFailingEvening", "(III)I"⟩
abbrev cX3_spend : ByteArray := prog_5_method_4_code
def yX3_spend : MethodName := ⟨RX3, "spend", "(IIII)V"⟩
abbrev cX3_fewestCuts : ByteArray := prog_5_method_5_code
def yX3_fewestCuts : MethodName := ⟨RX3, "fewestCuts", "()I"⟩
abbrev cX3_fewestDays : ByteArray := prog_5_method_6_code
def yX3_fewestDays : MethodName := ⟨RX3, "fewestDays", "(I)I"⟩
abbrev cX3_countWhatIsLeft : ByteArray := prog_5_method_7_code
def yX3_countWhatIsLeft : MethodName := ⟨RX3, "countWhatIsLeft", "()V"⟩
abbrev cX3_suffices : ByteArray := prog_5_method_8_code
def yX3_suffices : MethodName := ⟨RX3, "suffices", "(II)Z"⟩
def RX4 : String := "BarberJars$Text"
def TX4 : u_T := fun k => match k with
  | 0 => ("BarberJars$Text", "bytes", "[I", true)
  | _ => ("BarberJars$Text", "size", "I", false)
def tyX4 : Nat → FieldType := fun k => match k with
  | 0 => .array .int
  | _ => .int
abbrev wsX40 : List Cond := u_ws RX4 TX4 2
theorem nmX4 : ∀ a, a < 2 → ∀ b, b < 2 → a ≠ b → (TX4 a).2.1 ≠ (TX4 b).2.1 := by decide +kernel
theorem tyX4_ok : ∀ k, k < 2 → parseFieldDescriptor (TX4 k).2.2.1 = some (tyX4 k) := by decide +kernel
abbrev cX4_init : ByteArray := prog_6_method_1_code
def yX4_init : MethodName := ⟨RX4, "<init>", "()V"⟩
def RX5 : String := "BarberJars$Times"
def TX5 : u_T := fun k => match k with
  | 0 => ("BarberJars$Times", "present", "LBarberJars$Moment;", true)
  | 1 => ("BarberJars$Times", "past", "[LBarberJars$Moment;", true)
  | _ => ("BarberJars$Times", "known", "I", false)
def tyX5 : Nat → FieldType := fun k => match k with
  | 0 => .object "BarberJars$Moment"
  | 1 => .array (.object "BarberJars$Moment")
  | _ => .int
abbrev wsX50 : List Cond := u_ws RX5 TX5 3
theorem nmX5 : ∀ a, a < 3 → ∀ b, b < 3 → a ≠ b → (TX5 a).2.1 ≠ (TX5 b).2.1 := by decide +kernel
theorem tyX5_ok : ∀ k, k < 3 → parseFieldDescriptor (TX5 k).2.2.1 = some (tyX5 k) := by decide +kernel
abbrev cX5_init : ByteArray := prog_7_method_1_code
def yX5_init : MethodName := ⟨RX5, "<init>", "()V"⟩
abbrev cX5_begin : ByteArray := prog_7_method_2_code
def yX5_begin : MethodName := ⟨RX5, "begin", "(I)V"⟩
abbrev cX5_remember : ByteArray := prog_7_method_3_code
def yX5_remember : MethodName := ⟨RX5, "remember", "()V"⟩
abbrev cX5_loseOldest : ByteArray := prog_7_method_4_code
def yX5_loseOldest : MethodName := ⟨RX5, "loseOldest", "()V"⟩
abbrev cX5_goBack : ByteArray := prog_7_method_5_code
def yX5_goBack : MethodName := ⟨RX5, "goBack", "()V"⟩
abbrev cX5_copyFrom : ByteArray := prog_7_method_6_code
def yX5_copyFrom : MethodName := ⟨RX5, "copyFrom", "(LBarberJars$Times;)V"⟩
def RX6 : String := "BarberJars$Town"
def TX6 : u_T := fun k => match k with
  | 0 => ("BarberJars$Town", "secrets", "[I", true)
  | 1 => ("BarberJars$Town", "weekSizes", "[I", true)
  | 2 => ("BarberJars$Town", "weeks", "[I", true)
  | 3 => ("BarberJars$Town", "people", "I", false)
  | 4 => ("BarberJars$Town", "longest", "I", false)
  | _ => ("BarberJars$Town", "chair", "I", false)
def tyX6 : Nat → FieldType := fun k => match k with
  | 0 => .array .int
  | 1 => .array .int
  | 2 => .array .int
  | 3 => .int
  | 4 => .int
  | _ => .int
abbrev wsX60 : List Cond := u_ws RX6 TX6 6
theorem nmX6 : ∀ a, a < 6 → ∀ b, b < 6 → a ≠ b → (TX6 a).2.1 ≠ (TX6 b).2.1 := by decide +kernel
theorem tyX6_ok : ∀ k, k < 6 → parseFieldDescriptor (TX6 k).2.2.1 = some (tyX6 k) := by decide +kernel
abbrev cX6_init : ByteArray := prog_8_method_1_code
def yX6_init : MethodName := ⟨RX6, "<init>", "()V"⟩
abbrev cX6_begin : ByteArray := prog_8_method_2_code
def yX6_begin : MethodName := ⟨RX6, "begin", "()V"⟩
abbrev cX6_copyFrom : ByteArray := prog_8_method_3_code
def yX6_copyFrom : MethodName := ⟨RX6, "copyFrom", "(LBarberJars$Town;)V"⟩
abbrev cX6_usualThought : ByteArray := prog_8_method_4_code
def yX6_usualThought : MethodName := ⟨RX6, "usualThought", "(II)I"⟩
def RX7 : String := "BarberJars"
def TX7 : u_T := fun k => match k with
  | 0 => ("BarberJars", "text", "LBarberJars$Text;", true)
  | 1 => ("BarberJars", "reader", "LBarberJars$Reader;", true)
  | 2 => ("BarberJars", "times", "LBarberJars$Times;", true)
  | 3 => ("BarberJars", "images", "[LBarberJars$Times;", true)
  | 4 => ("BarberJars", "kept", "[Z", true)
  | 5 => ("BarberJars", "clues", "LBarberJars$Clues;", true)
  | 6 => ("BarberJars", "strand", "LBarberJars$Strand;", true)
  | 7 => ("BarberJars", "town", "LBarberJars$Town;", true)
  | 8 => ("BarberJars", "places", "[I", true)
  | 9 => ("BarberJars", "shares", "[I", true)
  | _ => ("BarberJars", "traced", "J", false)
def tyX7 : Nat → FieldType := fun k => match k with
  | 0 => .object "BarberJars$Text"
  | 1 => .object "BarberJars$Reader"
  | 2 => .object "BarberJars$Times"
  | 3 => .array (.object "BarberJars$Times")
  | 4 => .array .boolean
  | 5 => .object "BarberJars$Clues"
  | 6 => .object "BarberJars$Strand"
  | 7 => .object "BarberJars$Town"
  | 8 => .array .int
  | 9 => .array .int
  | _ => .long
abbrev wsX70 : List Cond := u_ws RX7 TX7 11
theorem nmX7 : ∀ a, a < 11 → ∀ b, b < 11 → a ≠ b → (TX7 a).2.1 ≠ (TX7 b).2.1 := by decide +kernel
theorem tyX7_ok : ∀ k, k < 11 → parseFieldDescriptor (TX7 k).2.2.1 = some (tyX7 k) := by decide +kernel
abbrev cX7_init : ByteArray := prog_1_method_1_code
def yX7_init : MethodName := ⟨RX7, "<init>", "()V"⟩
abbrev cX7_type : ByteArray := prog_1_method_2_code
def yX7_type : MethodName := ⟨RX7, "type", "(I)I"⟩
abbrev cX7_clear : ByteArray := prog_1_method_3_code
def yX7_clear : MethodName := ⟨RX7, "clear", "()I"⟩
abbrev cX7_shop : ByteArray := prog_1_method_4_code
def yX7_shop : MethodName := ⟨RX7, "shop", "()I"⟩
abbrev cX7_one : ByteArray := prog_1_method_5_code
def yX7_one : MethodName := ⟨RX7, "one", "(II)I"⟩
abbrev cX7_week : ByteArray := prog_1_method_6_code
def yX7_week : MethodName := ⟨RX7, "week", "(II)I"⟩
abbrev cX7_layer : ByteArray := prog_1_method_7_code
def yX7_layer : MethodName := ⟨RX7, "layer", "(II)I"⟩
abbrev cX7_jar : ByteArray := prog_1_method_8_code
def yX7_jar : MethodName := ⟨RX7, "jar", "(II)I"⟩
abbrev cX7_days : ByteArray := prog_1_method_9_code
def yX7_days : MethodName := ⟨RX7, "days", "(I)I"⟩
abbrev cX7_minds : ByteArray := prog_1_method_10_code
def yX7_minds : MethodName := ⟨RX7, "minds", "(II)I"⟩
abbrev cX7_cuts : ByteArray := prog_1_method_11_code
def yX7_cuts : MethodName := ⟨RX7, "cuts", "(II)I"⟩
abbrev cX7_changes : ByteArray := prog_1_method_12_code
def yX7_changes : MethodName := ⟨RX7, "changes", "(I)I"⟩
abbrev cX7_empties : ByteArray := prog_1_method_13_code
def yX7_empties : MethodName := ⟨RX7, "empties", "(I)I"⟩
abbrev cX7_undo : ByteArray := prog_1_method_14_code
def yX7_undo : MethodName := ⟨RX7, "undo", "()I"⟩
abbrev cX7_now : ByteArray := prog_1_method_15_code
def yX7_now : MethodName := ⟨RX7, "now", "(I)I"⟩
abbrev cX7_reads : ByteArray := prog_1_method_16_code
def yX7_reads : MethodName := ⟨RX7, "reads", "(II)I"⟩
abbrev cX7_plan : ByteArray := prog_1_method_17_code
def yX7_plan : MethodName := ⟨RX7, "plan", "(IIII)I"⟩
abbrev cX7_least : ByteArray := prog_1_method_18_code
def yX7_least : MethodName := ⟨RX7, "least", "(III)I"⟩
abbrev cX7_wig : ByteArray := prog_1_method_19_code
def yX7_wig : MethodName := ⟨RX7, "wig", "(I)I"⟩
abbrev cX7_odds : ByteArray := prog_1_method_20_code
def yX7_odds : MethodName := ⟨RX7, "odds", "(IIII)I"⟩
abbrev cX7_saw : ByteArray := prog_1_method_21_code
def yX7_saw : MethodName := ⟨RX7, "saw", "(I)I"⟩
abbrev cX7_lock : ByteArray := prog_1_method_22_code
def yX7_lock : MethodName := ⟨RX7, "lock", "(I)I"⟩
abbrev cX7_hears : ByteArray := prog_1_method_23_code
def yX7_hears : MethodName := ⟨RX7, "hears", "(II)I"⟩
abbrev cX7_sets : ByteArray := prog_1_method_24_code
def yX7_sets : MethodName := ⟨RX7, "sets", "(I)I"⟩
abbrev cX7_forget : ByteArray := prog_1_method_25_code
def yX7_forget : MethodName := ⟨RX7, "forget", "()I"⟩
abbrev cX7_mark : ByteArray := prog_1_method_26_code
def yX7_mark : MethodName := ⟨RX7, "mark", "(II)I"⟩
abbrev cX7_keep : ByteArray := prog_1_method_27_code
def yX7_keep : MethodName := ⟨RX7, "keep", "(I)I"⟩
abbrev cX7_back : ByteArray := prog_1_method_28_code
def yX7_back : MethodName := ⟨RX7, "back", "(I)I"⟩
abbrev cX7_count : ByteArray := prog_1_method_29_code
def yX7_count : MethodName := ⟨RX7, "count", "(I)I"⟩
abbrev cX7_trace : ByteArray := prog_1_method_30_code
def yX7_trace : MethodName := ⟨RX7, "trace", "()J"⟩
abbrev cX7_within : ByteArray := prog_1_method_31_code
def yX7_within : MethodName := ⟨RX7, "within", "(III)Z"⟩
abbrev cX7_isThought : ByteArray := prog_1_method_32_code
def yX7_isThought : MethodName := ⟨RX7, "isThought", "(I)Z"⟩
abbrev cX7_isJar : ByteArray := prog_1_method_33_code
def yX7_isJar : MethodName := ⟨RX7, "isJar", "(I)Z"⟩
abbrev cX7_isOne : ByteArray := prog_1_method_34_code
def yX7_isOne : MethodName := ⟨RX7, "isOne", "(I)Z"⟩
abbrev cX7_has : ByteArray := prog_1_method_35_code
def yX7_has : MethodName := ⟨RX7, "has", "(II)Z"⟩
abbrev cX7_mostOf : ByteArray := prog_1_method_36_code
def yX7_mostOf : MethodName := ⟨RX7, "mostOf", "([I)I"⟩
abbrev cX7_mostIn : ByteArray := prog_1_method_37_code
def yX7_mostIn : MethodName := ⟨RX7, "mostIn", "(I)I"⟩
abbrev cX7_layersOfAll : ByteArray := prog_1_method_38_code
def yX7_layersOfAll : MethodName := ⟨RX7, "layersOfAll", "()I"⟩
abbrev cX7_sweptIntoAll : ByteArray := prog_1_method_39_code
def yX7_sweptIntoAll : MethodName := ⟨RX7, "sweptIntoAll", "()I"⟩
abbrev cX7_blushes : ByteArray := prog_1_method_40_code
def yX7_blushes : MethodName := ⟨RX7, "blushes", "(I)I"⟩
abbrev cX7_thoughtsOf : ByteArray := prog_1_method_41_code
def yX7_thoughtsOf : MethodName := ⟨RX7, "thoughtsOf", "(I)I"⟩
abbrev cX7_power : ByteArray := prog_1_method_42_code
def yX7_power : MethodName := ⟨RX7, "power", "(II)I"⟩
abbrev cX7_choose : ByteArray := prog_1_method_43_code
def yX7_choose : MethodName := ⟨RX7, "choose", "(II)I"⟩
abbrev cX7_commonDivisor : ByteArray := prog_1_method_44_code
def yX7_commonDivisor : MethodName := ⟨RX7, "commonDivisor", "(II)I"⟩
abbrev cX7_whoseLock : ByteArray := prog_1_method_45_code
def yX7_whoseLock : MethodName := ⟨RX7, "whoseLock", "()I"⟩
abbrev cX7_nextInLock : ByteArray := prog_1_method_46_code
def yX7_nextInLock : MethodName := ⟨RX7, "nextInLock", "()I"⟩
abbrev cX7_shareOutHeard : ByteArray := prog_1_method_47_code
def yX7_shareOutHeard : MethodName := ⟨RX7, "shareOutHeard", "()V"⟩
abbrev cX7_allHeardIsSo : ByteArray := prog_1_method_48_code
def yX7_allHeardIsSo : MethodName := ⟨RX7, "allHeardIsSo", "(I)Z"⟩
abbrev cX7_markOne : ByteArray := prog_1_method_49_code
def yX7_markOne : MethodName := ⟨RX7, "markOne", "(I)I"⟩
abbrev cX7_markPoet : ByteArray := prog_1_method_50_code
def yX7_markPoet : MethodName := ⟨RX7, "markPoet", "(I)I"⟩
abbrev cX7_markBride : ByteArray := prog_1_method_51_code
def yX7_markBride : MethodName := ⟨RX7, "markBride", "(I)I"⟩
abbrev cX7_markWig : ByteArray := prog_1_method_52_code
def yX7_markWig : MethodName := ⟨RX7, "markWig", "(I)I"⟩
abbrev cX7_markNun : ByteArray := prog_1_method_53_code
def yX7_markNun : MethodName := ⟨RX7, "markNun", "(I)I"⟩
abbrev cX7_markBald : ByteArray := prog_1_method_54_code
def yX7_markBald : MethodName := ⟨RX7, "markBald", "(I)I"⟩
def RX8 : String := "BarberJarsModel"
def TX8 : u_T := fun k => match k with
  | 0 => ("BarberJarsModel", "people", "I", false)
  | 1 => ("BarberJarsModel", "secrets", "[I", true)
  | 2 => ("BarberJarsModel", "weekMany", "[I", true)
  | 3 => ("BarberJarsModel", "weeks", "[I", true)
  | 4 => ("BarberJarsModel", "longest", "I", false)
  | 5 => ("BarberJarsModel", "st", "[I", true)
  | 6 => ("BarberJarsModel", "images", "[I", true)
  | 7 => ("BarberJarsModel", "isKept", "[Z", true)
  | 8 => ("BarberJarsModel", "seenMany", "I", false)
  | 9 => ("BarberJarsModel", "seen", "[I", true)
  | 10 => ("BarberJarsModel", "heardMany", "I", false)
  | 11 => ("BarberJarsModel", "heard", "[I", true)
  | 12 => ("BarberJarsModel", "trace", "J", false)
  | 13 => ("BarberJarsModel", "text", "[I", true)
  | 14 => ("BarberJarsModel", "texted", "I", false)
  | 15 => ("BarberJarsModel", "cursor", "I", false)
  | 16 => ("BarberJarsModel", "start", "I", false)
  | 17 => ("BarberJarsModel", "token", "I", false)
  | 18 => ("BarberJarsModel", "number", "I", false)
  | 19 => ("BarberJarsModel", "isWrong", "Z", false)
  | 20 => ("BarberJarsModel", "items", "I", false)
  | 21 => ("BarberJarsModel", "saidPeople", "I", false)
  | 22 => ("BarberJarsModel", "saidSecret", "[I", true)
  | 23 => ("BarberJarsModel", "saidMany", "[I", true)
  | 24 => ("BarberJarsModel", "saidWeek", "[I", true)
  | 25 => ("BarberJarsModel", "saidLongest", "I", false)
  | 26 => ("BarberJarsModel", "saidJar", "I", false)
  | 27 => ("BarberJarsModel", "tried", "[I", true)
  | 28 => ("BarberJarsModel", "begins", "I", false)
  | 29 => ("BarberJarsModel", "ends", "I", false)
  | _ => ("BarberJarsModel", "nextOnes", "[I", true)
def tyX8 : Nat → FieldType := fun k => match k with
  | 0 => .int
  | 1 => .array .int
  | 2 => .array .int
  | 3 => .array .int
  | 4 => .int
  | 5 => .array .int
  | 6 => .array .int
  | 7 => .array .boolean
  | 8 => .int
  | 9 => .array .int
  | 10 => .int
  | 11 => .array .int
  | 12 => .long
  | 13 => .array .int
  | 14 => .int
  | 15 => .int
  | 16 => .int
  | 17 => .int
  | 18 => .int
  | 19 => .boolean
  | 20 => .int
  | 21 => .int
  | 22 => .array .int
  | 23 => .array .int
  | 24 => .array .int
  | 25 => .int
  | 26 => .int
  | 27 => .array .int
  | 28 => .int
  | 29 => .int
  | _ => .array .int
abbrev wsX80 : List Cond := u_ws RX8 TX8 31
theorem nmX8 : ∀ a, a < 31 → ∀ b, b < 31 → a ≠ b → (TX8 a).2.1 ≠ (TX8 b).2.1 := by decide +kernel
theorem tyX8_ok : ∀ k, k < 31 → parseFieldDescriptor (TX8 k).2.2.1 = some (tyX8 k) := by decide +kernel
abbrev cX8_init : ByteArray := prog_10_method_1_code
def yX8_init : MethodName := ⟨RX8, "<init>", "()V"⟩
abbrev cX8_in : ByteArray := prog_10_method_3_code
def yX8_in : MethodName := ⟨RX8, "in", "(III)Z"⟩
abbrev cX8_has : ByteArray := prog_10_method_4_code
def yX8_has : MethodName := ⟨RX8, "has", "(II)Z"⟩
abbrev cX8_bits : ByteArray := prog_10_method_5_code
def yX8_bits : MethodName := ⟨RX8, "bits", "(I)I"⟩
abbrev cX8_isOne : ByteArray := prog_10_method_6_code
def yX8_isOne : MethodName := ⟨RX8, "isOne", "(I)Z"⟩
abbrev cX8_isThought : ByteArray := prog_10_method_7_code
def yX8_isThought : MethodName := ⟨RX8, "isThought", "(I)Z"⟩
abbrev cX8_isJar : ByteArray := prog_10_method_8_code
def yX8_isJar : MethodName := ⟨RX8, "isJar", "(I)Z"⟩
abbrev cX8_type : ByteArray := prog_10_method_9_code
def yX8_type : MethodName := ⟨RX8, "type", "(I)I"⟩
abbrev cX8_clear : ByteArray := prog_10_method_10_code
def yX8_clear : MethodName := ⟨RX8, "clear", "()I"⟩
abbrev cX8_letterAt : ByteArray := prog_10_method_11_code
def yX8_letterAt : MethodName := ⟨RX8, "letterAt", "(I)I"⟩
abbrev cX8_isFigure : ByteArray := prog_10_method_12_code
def yX8_isFigure : MethodName := ⟨RX8, "isFigure", "(I)Z"⟩
abbrev cX8_isLetter : ByteArray := prog_10_method_13_code
def yX8_isLetter : MethodName := ⟨RX8, "isLetter", "(I)Z"⟩
abbrev cX8_next : ByteArray := prog_10_method_14_code
def yX8_next : MethodName := ⟨RX8, "next", "()V"⟩
abbrev cX8_takesNumber : ByteArray := prog_10_method_15_code
def yX8_takesNumber : MethodName := ⟨RX8, "takesNumber", "(II)I"⟩
abbrev cX8_readOne : ByteArray := prog_10_method_16_code
def yX8_readOne : MethodName := ⟨RX8, "readOne", "()V"⟩
abbrev cX8_mayBegin : ByteArray := prog_10_method_17_code
def yX8_mayBegin : MethodName := ⟨RX8, "mayBegin", "(I)Z"⟩
abbrev cX8_readItem : ByteArray := prog_10_method_18_code
def yX8_readItem : MethodName := ⟨RX8, "readItem", "()V"⟩
abbrev cX8_shop : ByteArray := prog_10_method_19_code
def yX8_shop : MethodName := ⟨RX8, "shop", "()I"⟩
abbrev cX8_settles : ByteArray := prog_10_method_20_code
def yX8_settles : MethodName := ⟨RX8, "settles", "()V"⟩
abbrev cX8_layerOf : ByteArray := prog_10_method_21_code
def yX8_layerOf : MethodName := ⟨RX8, "layerOf", "(II)I"⟩
abbrev cX8_layersOf : ByteArray := prog_10_method_22_code
def yX8_layersOf : MethodName := ⟨RX8, "layersOf", "(II)I"⟩
abbrev cX8_inJar : ByteArray := prog_10_method_23_code
def yX8_inJar : MethodName := ⟨RX8, "inJar", "(I)I"⟩
abbrev cX8_one : ByteArray := prog_10_method_24_code
def yX8_one : MethodName := ⟨RX8, "one", "(II)I"⟩
abbrev cX8_week : ByteArray := prog_10_method_25_code
def yX8_week : MethodName := ⟨RX8, "week", "(II)I"⟩
abbrev cX8_layer : ByteArray := prog_10_method_26_code
def yX8_layer : MethodName := ⟨RX8, "layer", "(II)I"⟩
abbrev cX8_jar : ByteArray := prog_10_method_27_code
def yX8_jar : MethodName := ⟨RX8, "jar", "(II)I"⟩
abbrev cX8_remembers : ByteArray := prog_10_method_28_code
def yX8_remembers : MethodName := ⟨RX8, "remembers", "()V"⟩
abbrev cX8_thinks : ByteArray := prog_10_method_29_code
def yX8_thinks : MethodName := ⟨RX8, "thinks", "(II)I"⟩
abbrev cX8_loses : ByteArray := prog_10_method_30_code
def yX8_loses : MethodName := ⟨RX8, "loses", "(II)V"⟩
abbrev cX8_grows : ByteArray := prog_10_method_31_code
def yX8_grows : MethodName := ⟨RX8, "grows", "(I)V"⟩
abbrev cX8_days : ByteArray := prog_10_method_32_code
def yX8_days : MethodName := ⟨RX8, "days", "(I)I"⟩
abbrev cX8_minds : ByteArray := prog_10_method_33_code
def yX8_minds : MethodName := ⟨RX8, "minds", "(II)I"⟩
abbrev cX8_cuts : ByteArray := prog_10_method_34_code
def yX8_cuts : MethodName := ⟨RX8, "cuts", "(II)I"⟩
abbrev cX8_changes : ByteArray := prog_10_method_35_code
def yX8_changes : MethodName := ⟨RX8, "changes", "(I)I"⟩
abbrev cX8_empties : ByteArray := prog_10_method_36_code
def yX8_empties : MethodName := ⟨RX8, "empties", "(I)I"⟩
abbrev cX8_undo : ByteArray := prog_10_method_37_code
def yX8_undo : MethodName := ⟨RX8, "undo", "()I"⟩
abbrev cX8_now : ByteArray := prog_10_method_38_code
def yX8_now : MethodName := ⟨RX8, "now", "(I)I"⟩
abbrev cX8_reads : ByteArray := prog_10_method_39_code
def yX8_reads : MethodName := ⟨RX8, "reads", "(II)I"⟩
abbrev cX8_asItIs : ByteArray := prog_10_method_40_code
def yX8_asItIs : MethodName := ⟨RX8, "asItIs", "(I)V"⟩
abbrev cX8_growsTried : ByteArray := prog_10_method_41_code
def yX8_growsTried : MethodName := ⟨RX8, "growsTried", "(I)V"⟩
abbrev cX8_plan : ByteArray := prog_10_method_42_code
def yX8_plan : MethodName := ⟨RX8, "plan", "(IIII)I"⟩
abbrev cX8_isMost : ByteArray := prog_10_method_43_code
def yX8_isMost : MethodName := ⟨RX8, "isMost", "(I)Z"⟩
abbrev cX8_least : ByteArray := prog_10_method_44_code
def yX8_least : MethodName := ⟨RX8, "least", "(III)I"⟩
abbrev cX8_thoughtsOf : ByteArray := prog_10_method_45_code
def yX8_thoughtsOf : MethodName := ⟨RX8, "thoughtsOf", "(I)I"⟩
abbrev cX8_wig : ByteArray := prog_10_method_46_code
def yX8_wig : MethodName := ⟨RX8, "wig", "(I)I"⟩
abbrev cX8_lowest : ByteArray := prog_10_method_47_code
def yX8_lowest : MethodName := ⟨RX8, "lowest", "(III)I"⟩
abbrev cX8_odds : ByteArray := prog_10_method_48_code
def yX8_odds : MethodName := ⟨RX8, "odds", "(IIII)I"⟩
abbrev cX8_saw : ByteArray := prog_10_method_49_code
def yX8_saw : MethodName := ⟨RX8, "saw", "(I)I"⟩
abbrev cX8_isLock : ByteArray := prog_10_method_50_code
def yX8_isLock : MethodName := ⟨RX8, "isLock", "(II)Z"⟩
abbrev cX8_lock : ByteArray := prog_10_method_51_code
def yX8_lock : MethodName := ⟨RX8, "lock", "(I)I"⟩
abbrev cX8_hears : ByteArray := prog_10_method_52_code
def yX8_hears : MethodName := ⟨RX8, "hears", "(II)I"⟩
abbrev cX8_isHeard : ByteArray := prog_10_method_53_code
def yX8_isHeard : MethodName := ⟨RX8, "isHeard", "(I)Z"⟩
abbrev cX8_sets : ByteArray := prog_10_method_54_code
def yX8_sets : MethodName := ⟨RX8, "sets", "(I)I"⟩
abbrev cX8_forget : ByteArray := prog_10_method_55_code
def yX8_forget : MethodName := ⟨RX8, "forget", "()I"⟩
abbrev cX8_mark : ByteArray := prog_10_method_56_code
def yX8_mark : MethodName := ⟨RX8, "mark", "(II)I"⟩
abbrev cX8_keep : ByteArray := prog_10_method_57_code
def yX8_keep : MethodName := ⟨RX8, "keep", "(I)I"⟩
abbrev cX8_back : ByteArray := prog_10_method_58_code
def yX8_back : MethodName := ⟨RX8, "back", "(I)I"⟩
abbrev cX8_count : ByteArray := prog_10_method_59_code
def yX8_count : MethodName := ⟨RX8, "count", "(I)I"⟩
abbrev cX8_trace : ByteArray := prog_10_method_60_code
def yX8_trace : MethodName := ⟨RX8, "trace", "()J"⟩
def RJ6 : String := "java/lang/Integer"
def TJ6 : u_T := fun k => match k with
  | _ => ("", "", "", false)
def tyJ6 : Nat → FieldType := fun k => match k with
  | _ => .int
abbrev wsJ60 : List Cond := u_ws RJ6 TJ6 0
theorem nmJ6 : ∀ a, a < 0 → ∀ b, b < 0 → a ≠ b → (TJ6 a).2.1 ≠ (TJ6 b).2.1 := by decide +kernel
theorem tyJ6_ok : ∀ k, k < 0 → parseFieldDescriptor (TJ6 k).2.2.1 = some (tyJ6 k) := by decide +kernel
abbrev cJ6_bitCount_0f7a4 : ByteArray := prog_11_method_49_code
def yJ6_bitCount_0f7a4 : MethodName := ⟨RJ6, "bitCount", "(I)I"⟩
def RJ9 : String := "java/lang/Math"
def TJ9 : u_T := fun k => match k with
  | _ => ("", "", "", false)
def tyJ9 : Nat → FieldType := fun k => match k with
  | _ => .int
abbrev wsJ90 : List Cond := u_ws RJ9 TJ9 0
theorem nmJ9 : ∀ a, a < 0 → ∀ b, b < 0 → a ≠ b → (TJ9 a).2.1 ≠ (TJ9 b).2.1 := by decide +kernel
theorem tyJ9_ok : ∀ k, k < 0 → parseFieldDescriptor (TJ9 k).2.2.1 = some (tyJ9 k) := by decide +kernel
abbrev cJ9_max_7cf53 : ByteArray := prog_12_method_65_code
def yJ9_max_7cf53 : MethodName := ⟨RJ9, "max", "(II)I"⟩
abbrev cJ9_min_7cf53 : ByteArray := prog_12_method_69_code
def yJ9_min_7cf53 : MethodName := ⟨RJ9, "min", "(II)I"⟩
def RJ10 : String := "java/lang/System"
def TJ10 : u_T := fun k => match k with
  | _ => ("", "", "", false)
def tyJ10 : Nat → FieldType := fun k => match k with
  | _ => .int
abbrev wsJ100 : List Cond := u_ws RJ10 TJ10 0
theorem nmJ10 : ∀ a, a < 0 → ∀ b, b < 0 → a ≠ b → (TJ10 a).2.1 ≠ (TJ10 b).2.1 := by decide +kernel
theorem tyJ10_ok : ∀ k, k < 0 → parseFieldDescriptor (TJ10 k).2.2.1 = some (tyJ10 k) := by decide +kernel
def RJ7 : String := "java/util/Arrays"
def TJ7 : u_T := fun k => match k with
  | _ => ("", "", "", false)
def tyJ7 : Nat → FieldType := fun k => match k with
  | _ => .int
abbrev wsJ70 : List Cond := u_ws RJ7 TJ7 0
theorem nmJ7 : ∀ a, a < 0 → ∀ b, b < 0 → a ≠ b → (TJ7 a).2.1 ≠ (TJ7 b).2.1 := by decide +kernel
theorem tyJ7_ok : ∀ k, k < 0 → parseFieldDescriptor (TJ7 k).2.2.1 = some (tyJ7 k) := by decide +kernel
abbrev cJ7_fill_53178 : ByteArray := prog_14_method_103_code
def yJ7_fill_53178 : MethodName := ⟨RJ7, "fill", "([II)V"⟩
def RL : String := "BarberJarsLaw"
abbrev cL_law : ByteArray := code
abbrev vwCl : List vw_C := [(RX0, TX0, 5), (RX1, TX1, 6), (RX2, TX2, 8), (RX3, TX3, 8), (RX4, TX4, 2), (RX5, TX5, 3), (RX6, TX6, 6), (RX7, TX7, 11), (RX8, TX8, 31)]
end
section
def wt : List Cond := lw_tbl.filter goodWord
theorem in_wt {w : Cond} (i : Nat) (h : lw_tbl[i]? = some w) (hg : goodWord w = true) : w ∈ wt := List.mem_filter.mpr ⟨List.mem_of_getElem? h, hg⟩
theorem wt_good : ∀ w ∈ wt, (w.onTables && w.keeps) = true ∨ ∃ ty, w = .arrayClass ty := fun w h => good_of_word (List.mem_filter.mp h).2
theorem mw_0 : (.selects RX2 yX2_advance yX2_advance : Cond) ∈ wt := in_wt 0 (by decide +kernel) (by decide +kernel)
theorem mw_1 : (.selects RX2 yX2_scanLetters yX2_scanLetters : Cond) ∈ wt := in_wt 1 (by decide +kernel) (by decide +kernel)
theorem mw_2 : (.selects RX2 yX2_scanNumber yX2_scanNumber : Cond) ∈ wt := in_wt 2 (by decide +kernel) (by decide +kernel)
theorem mw_3 : (.selects RX2 yX2_tellItem yX2_tellItem : Cond) ∈ wt := in_wt 3 (by decide +kernel) (by decide +kernel)
theorem mw_4 : (.selects RX2 yX2_mayBegin yX2_mayBegin : Cond) ∈ wt := in_wt 4 (by decide +kernel) (by decide +kernel)
theorem mw_5 : (.selects RX2 yX2_tellOne yX2_tellOne : Cond) ∈ wt := in_wt 5 (by decide +kernel) (by decide +kernel)
theorem mw_6 : (.selects RX2 yX2_isNumber yX2_isNumber : Cond) ∈ wt := in_wt 6 (by decide +kernel) (by decide +kernel)
theorem mw_7 : (.selects RX2 yX2_tellLongest yX2_tellLongest : Cond) ∈ wt := in_wt 7 (by decide +kernel) (by decide +kernel)
theorem mw_8 : (.selects RX2 yX2_tellChair yX2_tellChair : Cond) ∈ wt := in_wt 8 (by decide +kernel) (by decide +kernel)
theorem mw_9 : (.selects RX7 yX7_isOne yX7_isOne : Cond) ∈ wt := in_wt 9 (by decide +kernel) (by decide +kernel)
theorem mw_10 : (.selects RX5 yX5_loseOldest yX5_loseOldest : Cond) ∈ wt := in_wt 10 (by decide +kernel) (by decide +kernel)
theorem mw_11 : (.selects RX1 yX1_dropTips yX1_dropTips : Cond) ∈ wt := in_wt 11 (by decide +kernel) (by decide +kernel)
theorem mw_12 : (.selects RX7 yX7_layersOfAll yX7_layersOfAll : Cond) ∈ wt := in_wt 12 (by decide +kernel) (by decide +kernel)
theorem mw_13 : (.selects RX7 yX7_sweptIntoAll yX7_sweptIntoAll : Cond) ∈ wt := in_wt 13 (by decide +kernel) (by decide +kernel)
theorem mw_14 : (.selects RX7 yX7_mostIn yX7_mostIn : Cond) ∈ wt := in_wt 14 (by decide +kernel) (by decide +kernel)
theorem mw_15 : (.selects RX7 yX7_blushes yX7_blushes : Cond) ∈ wt := in_wt 15 (by decide +kernel) (by decide +kernel)
theorem mw_16 : (.selects RX3 yX3_spend yX3_spend : Cond) ∈ wt := in_wt 16 (by decide +kernel) (by decide +kernel)
theorem mw_17 : (.selects RX3 yX3_countWhatIsLeft yX3_countWhatIsLeft : Cond) ∈ wt := in_wt 17 (by decide +kernel) (by decide +kernel)
theorem mw_18 : (.selects RX3 yX3_suffices yX3_suffices : Cond) ∈ wt := in_wt 18 (by decide +kernel) (by decide +kernel)
theorem mw_19 : (.selects RX7 yX7_thoughtsOf yX7_thoughtsOf : Cond) ∈ wt := in_wt 19 (by decide +kernel) (by decide +kernel)
theorem mw_20 : (.selects RX7 yX7_whoseLock yX7_whoseLock : Cond) ∈ wt := in_wt 20 (by decide +kernel) (by decide +kernel)
theorem mw_21 : (.selects RX7 yX7_nextInLock yX7_nextInLock : Cond) ∈ wt := in_wt 21 (by decide +kernel) (by decide +kernel)
theorem mw_22 : (.selects RX7 yX7_shareOutHeard yX7_shareOutHeard : Cond) ∈ wt := in_wt 22 (by decide +kernel) (by decide +kernel)
theorem mw_23 : (.selects RX7 yX7_allHeardIsSo yX7_allHeardIsSo : Cond) ∈ wt := in_wt 23 (by decide +kernel) (by decide +kernel)
theorem mw_24 : (.selects RX7 yX7_markOne yX7_markOne : Cond) ∈ wt := in_wt 24 (by decide +kernel) (by decide +kernel)
theorem mw_25 : (.selects RX7 yX7_markPoet yX7_markPoet : Cond) ∈ wt := in_wt 25 (by decide +kernel) (by decide +kernel)
theorem mw_26 : (.selects RX7 yX7_markBride yX7_markBride : Cond) ∈ wt := in_wt 26 (by decide +kernel) (by decide +kernel)
theorem mw_27 : (.selects RX7 yX7_markWig yX7_markWig : Cond) ∈ wt := in_wt 27 (by decide +kernel) (by decide +kernel)
theorem mw_28 : (.selects RX7 yX7_markNun yX7_markNun : Cond) ∈ wt := in_wt 28 (by decide +kernel) (by decide +kernel)
theorem mw_29 : (.selects RX7 yX7_markBald yX7_markBald : Cond) ∈ wt := in_wt 29 (by decide +kernel) (by decide +kernel)
theorem mw_30 : (.selects RX8 yX8_next yX8_next : Cond) ∈ wt := in_wt 30 (by decide +kernel) (by decide +kernel)
theorem mw_31 : (.selects RX8 yX8_letterAt yX8_letterAt : Cond) ∈ wt := in_wt 31 (by decide +kernel) (by decide +kernel)
theorem mw_32 : (.selects RX8 yX8_readItem yX8_readItem : Cond) ∈ wt := in_wt 32 (by decide +kernel) (by decide +kernel)
theorem mw_33 : (.selects RX8 yX8_mayBegin yX8_mayBegin : Cond) ∈ wt := in_wt 33 (by decide +kernel) (by decide +kernel)
theorem mw_34 : (.selects RX8 yX8_readOne yX8_readOne : Cond) ∈ wt := in_wt 34 (by decide +kernel) (by decide +kernel)
theorem mw_35 : (.selects RX8 yX8_takesNumber yX8_takesNumber : Cond) ∈ wt := in_wt 35 (by decide +kernel) (by decide +kernel)
theorem mw_36 : (.selects RX8 yX8_settles yX8_settles : Cond) ∈ wt := in_wt 36 (by decide +kernel) (by decide +kernel)
theorem mw_37 : (.selects RX8 yX8_isOne yX8_isOne : Cond) ∈ wt := in_wt 37 (by decide +kernel) (by decide +kernel)
theorem mw_38 : (.selects RX8 yX8_layersOf yX8_layersOf : Cond) ∈ wt := in_wt 38 (by decide +kernel) (by decide +kernel)
theorem mw_39 : (.selects RX8 yX8_layerOf yX8_layerOf : Cond) ∈ wt := in_wt 39 (by decide +kernel) (by decide +kernel)
theorem mw_40 : (.selects RX8 yX8_remembers yX8_remembers : Cond) ∈ wt := in_wt 40 (by decide +kernel) (by decide +kernel)
theorem mw_41 : (.selects RX8 yX8_grows yX8_grows : Cond) ∈ wt := in_wt 41 (by decide +kernel) (by decide +kernel)
theorem mw_42 : (.selects RX8 yX8_thinks yX8_thinks : Cond) ∈ wt := in_wt 42 (by decide +kernel) (by decide +kernel)
theorem mw_43 : (.selects RX8 yX8_loses yX8_loses : Cond) ∈ wt := in_wt 43 (by decide +kernel) (by decide +kernel)
theorem mw_44 : (.selects RX8 yX8_inJar yX8_inJar : Cond) ∈ wt := in_wt 44 (by decide +kernel) (by decide +kernel)
theorem mw_45 : (.selects RX8 yX8_asItIs yX8_asItIs : Cond) ∈ wt := in_wt 45 (by decide +kernel) (by decide +kernel)
theorem mw_46 : (.selects RX8 yX8_growsTried yX8_growsTried : Cond) ∈ wt := in_wt 46 (by decide +kernel) (by decide +kernel)
theorem mw_47 : (.selects RX8 yX8_isMost yX8_isMost : Cond) ∈ wt := in_wt 47 (by decide +kernel) (by decide +kernel)
theorem mw_48 : (.selects RX8 yX8_thoughtsOf yX8_thoughtsOf : Cond) ∈ wt := in_wt 48 (by decide +kernel) (by decide +kernel)
theorem mw_49 : (.selects RX8 yX8_isLock yX8_isLock : Cond) ∈ wt := in_wt 49 (by decide +kernel) (by decide +kernel)
theorem mw_50 : (.selects RX8 yX8_isHeard yX8_isHeard : Cond) ∈ wt := in_wt 50 (by decide +kernel) (by decide +kernel)
theorem mw_51 : (.initialized RL : Cond) ∈ wt := in_wt 51 (by decide +kernel) (by decide +kernel)
theorem mw_52 : (.initialized RX7 : Cond) ∈ wt := in_wt 52 (by decide +kernel) (by decide +kernel)
theorem mw_53 : (.initialized RX4 : Cond) ∈ wt := in_wt 53 (by decide +kernel) (by decide +kernel)
theorem mw_54 : (.initialized RX2 : Cond) ∈ wt := in_wt 54 (by decide +kernel) (by decide +kernel)
theorem mw_55 : (.initialized RX6 : Cond) ∈ wt := in_wt 55 (by decide +kernel) (by decide +kernel)
theorem mw_56 : (.initialized RX5 : Cond) ∈ wt := in_wt 56 (by decide +kernel) (by decide +kernel)
theorem mw_57 : (.initialized RX1 : Cond) ∈ wt := in_wt 57 (by decide +kernel) (by decide +kernel)
theorem mw_58 : (.initialized RJ7 : Cond) ∈ wt := in_wt 58 (by decide +kernel) (by decide +kernel)
theorem mw_59 : (.initialized RX0 : Cond) ∈ wt := in_wt 59 (by decide +kernel) (by decide +kernel)
theorem mw_60 : (.initialized RX3 : Cond) ∈ wt := in_wt 60 (by decide +kernel) (by decide +kernel)
theorem mw_61 : (.initialized RX8 : Cond) ∈ wt := in_wt 61 (by decide +kernel) (by decide +kernel)
theorem mw_62 : (.initialized RJ9 : Cond) ∈ wt := in_wt 62 (by decide +kernel) (by decide +kernel)
theorem mw_63 : (.initialized RJ10 : Cond) ∈ wt := in_wt 63 (by decide +kernel) (by decide +kernel)
theorem mw_64 : (.initialized RJ6 : Cond) ∈ wt := in_wt 64 (by decide +kernel) (by decide +kernel)
theorem mw_65 : (.classLink RL 7 RX7 : Cond) ∈ wt := in_wt 65 (by decide +kernel) (by decide +kernel)
theorem mw_66 : (.instantiable RX7 11 : Cond) ∈ wt := in_wt 66 (by decide +kernel) (by decide +kernel)
theorem mw_67 : (.methodLink RL 9 yX7_init : Cond) ∈ wt := in_wt 67 (by decide +kernel) (by decide +kernel)
theorem mw_68 : (.instanceMethod yX7_init : Cond) ∈ wt := in_wt 68 (by decide +kernel) (by decide +kernel)
set_option maxRecDepth 100000 in
theorem mw_69 : (.code yX7_init prog_1_method_1_code 2 (Option.none : Option Jvm.ClassFile.FieldType) : Cond) ∈ wt := in_wt 69 rfl rfl
theorem mw_70 : (.methodLink RX7 1 Lib.objectInit : Cond) ∈ wt := in_wt 70 (by decide +kernel) (by decide +kernel)
theorem mw_71 : (.instanceMethod Lib.objectInit : Cond) ∈ wt := in_wt 71 (by decide +kernel) (by decide +kernel)
set_option maxRecDepth 100000 in
theorem mw_72 : (.code Lib.objectInit object_method_1_code 1 (Option.none : Option Jvm.ClassFile.FieldType) : Cond) ∈ wt := in_wt 72 rfl rfl
theorem mw_73 : (.classLink RX7 7 RX4 : Cond) ∈ wt := in_wt 73 (by decide +kernel) (by decide +kernel)
theorem mw_74 : (.instantiable RX4 2 : Cond) ∈ wt := in_wt 74 (by decide +kernel) (by decide +kernel)
theorem mw_76 : (.instanceMethod yX4_init : Cond) ∈ wt := in_wt 76 (by decide +kernel) (by decide +kernel)
set_option maxRecDepth 100000 in
theorem mw_77 : (.code yX4_init prog_6_method_1_code 1 (Option.none : Option Jvm.ClassFile.FieldType) : Cond) ∈ wt := in_wt 77 rfl rfl
theorem mw_78 : (.methodLink RX4 3 Lib.objectInit : Cond) ∈ wt := in_wt 78 (by decide +kernel) (by decide +kernel)
theorem mw_79 : (.fieldLink RX4 9 "BarberJars$Text" "bytes" "[I" : Cond) ∈ wt := in_wt 79 (by decide +kernel) (by decide +kernel)
theorem mw_80 : (.fieldLink RX7 76 "BarberJars$Text" "bytes" "[I" : Cond) ∈ wt := in_wt 80 (by decide +kernel) (by decide +kernel)
theorem mw_81 : (.fieldLink RX2 97 "BarberJars$Text" "bytes" "[I" : Cond) ∈ wt := in_wt 81 (by decide +kernel) (by decide +kernel)
theorem mw_82 : (.fieldLink RX7 72 "BarberJars$Text" "size" "I" : Cond) ∈ wt := in_wt 82 (by decide +kernel) (by decide +kernel)
theorem mw_83 : (.fieldLink RX2 92 "BarberJars$Text" "size" "I" : Cond) ∈ wt := in_wt 83 (by decide +kernel) (by decide +kernel)
theorem mw_89 : (.arrayClass Jvm.ClassFile.FieldType.int : Cond) ∈ wt := in_wt 89 (by decide +kernel) (by decide +kernel)
theorem mw_90 : (.classLink RX7 16 RX2 : Cond) ∈ wt := in_wt 90 (by decide +kernel) (by decide +kernel)
theorem mw_91 : (.instantiable RX2 8 : Cond) ∈ wt := in_wt 91 (by decide +kernel) (by decide +kernel)
theorem mw_92 : (.methodLink RX7 18 yX2_init : Cond) ∈ wt := in_wt 92 (by decide +kernel) (by decide +kernel)
theorem mw_93 : (.instanceMethod yX2_init : Cond) ∈ wt := in_wt 93 (by decide +kernel) (by decide +kernel)
set_option maxRecDepth 100000 in
theorem mw_94 : (.code yX2_init prog_4_method_1_code 2 (Option.none : Option Jvm.ClassFile.FieldType) : Cond) ∈ wt := in_wt 94 rfl rfl
theorem mw_95 : (.methodLink RX2 3 Lib.objectInit : Cond) ∈ wt := in_wt 95 (by decide +kernel) (by decide +kernel)
theorem mw_96 : (.classLink RX2 9 RX6 : Cond) ∈ wt := in_wt 96 (by decide +kernel) (by decide +kernel)
theorem mw_97 : (.instantiable RX6 6 : Cond) ∈ wt := in_wt 97 (by decide +kernel) (by decide +kernel)
theorem mw_99 : (.instanceMethod yX6_init : Cond) ∈ wt := in_wt 99 (by decide +kernel) (by decide +kernel)
set_option maxRecDepth 100000 in
theorem mw_100 : (.code yX6_init prog_8_method_1_code 1 (Option.none : Option Jvm.ClassFile.FieldType) : Cond) ∈ wt := in_wt 100 rfl rfl
theorem mw_101 : (.methodLink RX6 3 Lib.objectInit : Cond) ∈ wt := in_wt 101 (by decide +kernel) (by decide +kernel)
theorem mw_102 : (.fieldLink RX6 9 "BarberJars$Town" "secrets" "[I" : Cond) ∈ wt := in_wt 102 (by decide +kernel) (by decide +kernel)
theorem mw_103 : (.fieldLink RX2 72 "BarberJars$Town" "secrets" "[I" : Cond) ∈ wt := in_wt 103 (by decide +kernel) (by decide +kernel)
theorem mw_104 : (.fieldLink RX7 108 "BarberJars$Town" "secrets" "[I" : Cond) ∈ wt := in_wt 104 (by decide +kernel) (by decide +kernel)
theorem mw_105 : (.fieldLink RX6 15 "BarberJars$Town" "weekSizes" "[I" : Cond) ∈ wt := in_wt 105 (by decide +kernel) (by decide +kernel)
theorem mw_106 : (.fieldLink RX7 111 "BarberJars$Town" "weekSizes" "[I" : Cond) ∈ wt := in_wt 106 (by decide +kernel) (by decide +kernel)
theorem mw_107 : (.fieldLink RX2 79 "BarberJars$Town" "weekSizes" "[I" : Cond) ∈ wt := in_wt 107 (by decide +kernel) (by decide +kernel)
theorem mw_108 : (.fieldLink RX6 18 "BarberJars$Town" "weeks" "[I" : Cond) ∈ wt := in_wt 108 (by decide +kernel) (by decide +kernel)
theorem mw_109 : (.fieldLink RX2 76 "BarberJars$Town" "weeks" "[I" : Cond) ∈ wt := in_wt 109 (by decide +kernel) (by decide +kernel)
theorem mw_110 : (.fieldLink RX7 126 "BarberJars$Town" "weeks" "[I" : Cond) ∈ wt := in_wt 110 (by decide +kernel) (by decide +kernel)
theorem mw_111 : (.fieldLink RX6 25 "BarberJars$Town" "people" "I" : Cond) ∈ wt := in_wt 111 (by decide +kernel) (by decide +kernel)
theorem mw_112 : (.fieldLink RX2 56 "BarberJars$Town" "people" "I" : Cond) ∈ wt := in_wt 112 (by decide +kernel) (by decide +kernel)
theorem mw_113 : (.fieldLink RX1 49 "BarberJars$Town" "people" "I" : Cond) ∈ wt := in_wt 113 (by decide +kernel) (by decide +kernel)
theorem mw_114 : (.fieldLink RX7 194 "BarberJars$Town" "people" "I" : Cond) ∈ wt := in_wt 114 (by decide +kernel) (by decide +kernel)
theorem mw_115 : (.fieldLink RX6 21 "BarberJars$Town" "longest" "I" : Cond) ∈ wt := in_wt 115 (by decide +kernel) (by decide +kernel)
theorem mw_116 : (.fieldLink RX3 27 "BarberJars$Town" "longest" "I" : Cond) ∈ wt := in_wt 116 (by decide +kernel) (by decide +kernel)
theorem mw_117 : (.fieldLink RX2 82 "BarberJars$Town" "longest" "I" : Cond) ∈ wt := in_wt 117 (by decide +kernel) (by decide +kernel)
theorem mw_118 : (.fieldLink RX1 56 "BarberJars$Town" "longest" "I" : Cond) ∈ wt := in_wt 118 (by decide +kernel) (by decide +kernel)
theorem mw_119 : (.fieldLink RX7 266 "BarberJars$Town" "longest" "I" : Cond) ∈ wt := in_wt 119 (by decide +kernel) (by decide +kernel)
theorem mw_120 : (.fieldLink RX6 28 "BarberJars$Town" "chair" "I" : Cond) ∈ wt := in_wt 120 (by decide +kernel) (by decide +kernel)
theorem mw_121 : (.fieldLink RX7 90 "BarberJars$Town" "chair" "I" : Cond) ∈ wt := in_wt 121 (by decide +kernel) (by decide +kernel)
theorem mw_122 : (.fieldLink RX2 85 "BarberJars$Town" "chair" "I" : Cond) ∈ wt := in_wt 122 (by decide +kernel) (by decide +kernel)
theorem mw_136 : (.fieldLink RX2 12 "BarberJars$Reader" "draft" "LBarberJars$Town;" : Cond) ∈ wt := in_wt 136 (by decide +kernel) (by decide +kernel)
theorem mw_137 : (.fieldLink RX7 83 "BarberJars$Reader" "draft" "LBarberJars$Town;" : Cond) ∈ wt := in_wt 137 (by decide +kernel) (by decide +kernel)
theorem mw_138 : (.fieldLink RX2 18 "BarberJars$Reader" "text" "LBarberJars$Text;" : Cond) ∈ wt := in_wt 138 (by decide +kernel) (by decide +kernel)
theorem mw_139 : (.fieldLink RX2 32 "BarberJars$Reader" "place" "I" : Cond) ∈ wt := in_wt 139 (by decide +kernel) (by decide +kernel)
theorem mw_140 : (.fieldLink RX2 46 "BarberJars$Reader" "start" "I" : Cond) ∈ wt := in_wt 140 (by decide +kernel) (by decide +kernel)
theorem mw_141 : (.fieldLink RX2 39 "BarberJars$Reader" "sort" "I" : Cond) ∈ wt := in_wt 141 (by decide +kernel) (by decide +kernel)
theorem mw_142 : (.fieldLink RX2 49 "BarberJars$Reader" "value" "I" : Cond) ∈ wt := in_wt 142 (by decide +kernel) (by decide +kernel)
theorem mw_143 : (.fieldLink RX2 25 "BarberJars$Reader" "longestTold" "Z" : Cond) ∈ wt := in_wt 143 (by decide +kernel) (by decide +kernel)
theorem mw_144 : (.fieldLink RX2 29 "BarberJars$Reader" "chairTold" "Z" : Cond) ∈ wt := in_wt 144 (by decide +kernel) (by decide +kernel)
theorem mw_162 : (.classLink RX7 25 RX5 : Cond) ∈ wt := in_wt 162 (by decide +kernel) (by decide +kernel)
theorem mw_163 : (.instantiable RX5 3 : Cond) ∈ wt := in_wt 163 (by decide +kernel) (by decide +kernel)
theorem mw_164 : (.methodLink RX7 27 yX5_init : Cond) ∈ wt := in_wt 164 (by decide +kernel) (by decide +kernel)
theorem mw_165 : (.instanceMethod yX5_init : Cond) ∈ wt := in_wt 165 (by decide +kernel) (by decide +kernel)
set_option maxRecDepth 100000 in
theorem mw_166 : (.code yX5_init prog_7_method_1_code 2 (Option.none : Option Jvm.ClassFile.FieldType) : Cond) ∈ wt := in_wt 166 rfl rfl
theorem mw_167 : (.methodLink RX5 3 Lib.objectInit : Cond) ∈ wt := in_wt 167 (by decide +kernel) (by decide +kernel)
theorem mw_168 : (.classLink RX5 9 RX1 : Cond) ∈ wt := in_wt 168 (by decide +kernel) (by decide +kernel)
theorem mw_169 : (.instantiable RX1 6 : Cond) ∈ wt := in_wt 169 (by decide +kernel) (by decide +kernel)
theorem mw_170 : (.methodLink RX5 11 yX1_init : Cond) ∈ wt := in_wt 170 (by decide +kernel) (by decide +kernel)
theorem mw_171 : (.instanceMethod yX1_init : Cond) ∈ wt := in_wt 171 (by decide +kernel) (by decide +kernel)
set_option maxRecDepth 100000 in
theorem mw_172 : (.code yX1_init prog_3_method_1_code 1 (Option.none : Option Jvm.ClassFile.FieldType) : Cond) ∈ wt := in_wt 172 rfl rfl
theorem mw_173 : (.methodLink RX1 3 Lib.objectInit : Cond) ∈ wt := in_wt 173 (by decide +kernel) (by decide +kernel)
theorem mw_174 : (.methodLink RX1 24 yJ7_fill_53178 : Cond) ∈ wt := in_wt 174 (by decide +kernel) (by decide +kernel)
theorem mw_175 : (.static yJ7_fill_53178 : Cond) ∈ wt := in_wt 175 (by decide +kernel) (by decide +kernel)
set_option maxRecDepth 100000 in
theorem mw_176 : (.code yJ7_fill_53178 prog_14_method_103_code 4 (Option.none : Option Jvm.ClassFile.FieldType) : Cond) ∈ wt := in_wt 176 rfl rfl
theorem mw_177 : (.fieldLink RX1 9 "BarberJars$Moment" "sizes" "[I" : Cond) ∈ wt := in_wt 177 (by decide +kernel) (by decide +kernel)
theorem mw_178 : (.fieldLink RX3 34 "BarberJars$Moment" "sizes" "[I" : Cond) ∈ wt := in_wt 178 (by decide +kernel) (by decide +kernel)
theorem mw_179 : (.fieldLink RX0 28 "BarberJars$Moment" "sizes" "[I" : Cond) ∈ wt := in_wt 179 (by decide +kernel) (by decide +kernel)
theorem mw_180 : (.fieldLink RX7 114 "BarberJars$Moment" "sizes" "[I" : Cond) ∈ wt := in_wt 180 (by decide +kernel) (by decide +kernel)
theorem mw_181 : (.fieldLink RX1 15 "BarberJars$Moment" "made" "[I" : Cond) ∈ wt := in_wt 181 (by decide +kernel) (by decide +kernel)
theorem mw_182 : (.fieldLink RX7 119 "BarberJars$Moment" "made" "[I" : Cond) ∈ wt := in_wt 182 (by decide +kernel) (by decide +kernel)
theorem mw_183 : (.fieldLink RX1 18 "BarberJars$Moment" "hair" "[I" : Cond) ∈ wt := in_wt 183 (by decide +kernel) (by decide +kernel)
theorem mw_184 : (.fieldLink RX1 21 "BarberJars$Moment" "swept" "[I" : Cond) ∈ wt := in_wt 184 (by decide +kernel) (by decide +kernel)
theorem mw_185 : (.fieldLink RX1 30 "BarberJars$Moment" "day" "I" : Cond) ∈ wt := in_wt 185 (by decide +kernel) (by decide +kernel)
theorem mw_186 : (.fieldLink RX7 141 "BarberJars$Moment" "day" "I" : Cond) ∈ wt := in_wt 186 (by decide +kernel) (by decide +kernel)
theorem mw_187 : (.fieldLink RX1 34 "BarberJars$Moment" "chair" "I" : Cond) ∈ wt := in_wt 187 (by decide +kernel) (by decide +kernel)
theorem mw_188 : (.fieldLink RX7 154 "BarberJars$Moment" "chair" "I" : Cond) ∈ wt := in_wt 188 (by decide +kernel) (by decide +kernel)
theorem mw_203 : (.fieldLink RX5 12 "BarberJars$Times" "present" "LBarberJars$Moment;" : Cond) ∈ wt := in_wt 203 (by decide +kernel) (by decide +kernel)
theorem mw_204 : (.fieldLink RX7 104 "BarberJars$Times" "present" "LBarberJars$Moment;" : Cond) ∈ wt := in_wt 204 (by decide +kernel) (by decide +kernel)
theorem mw_205 : (.fieldLink RX5 18 "BarberJars$Times" "past" "[LBarberJars$Moment;" : Cond) ∈ wt := in_wt 205 (by decide +kernel) (by decide +kernel)
theorem mw_206 : (.fieldLink RX5 26 "BarberJars$Times" "known" "I" : Cond) ∈ wt := in_wt 206 (by decide +kernel) (by decide +kernel)
theorem mw_207 : (.fieldLink RX7 162 "BarberJars$Times" "known" "I" : Cond) ∈ wt := in_wt 207 (by decide +kernel) (by decide +kernel)
theorem mw_216 : (.classLink RX7 40 RX0 : Cond) ∈ wt := in_wt 216 (by decide +kernel) (by decide +kernel)
theorem mw_217 : (.instantiable RX0 5 : Cond) ∈ wt := in_wt 217 (by decide +kernel) (by decide +kernel)
theorem mw_219 : (.instanceMethod yX0_init : Cond) ∈ wt := in_wt 219 (by decide +kernel) (by decide +kernel)
set_option maxRecDepth 100000 in
theorem mw_220 : (.code yX0_init prog_2_method_1_code 1 (Option.none : Option Jvm.ClassFile.FieldType) : Cond) ∈ wt := in_wt 220 rfl rfl
theorem mw_221 : (.methodLink RX0 3 Lib.objectInit : Cond) ∈ wt := in_wt 221 (by decide +kernel) (by decide +kernel)
theorem mw_222 : (.fieldLink RX0 9 "BarberJars$Clues" "seen" "[I" : Cond) ∈ wt := in_wt 222 (by decide +kernel) (by decide +kernel)
theorem mw_223 : (.fieldLink RX7 220 "BarberJars$Clues" "seen" "[I" : Cond) ∈ wt := in_wt 223 (by decide +kernel) (by decide +kernel)
theorem mw_224 : (.fieldLink RX0 15 "BarberJars$Clues" "heardThoughts" "[I" : Cond) ∈ wt := in_wt 224 (by decide +kernel) (by decide +kernel)
theorem mw_225 : (.fieldLink RX7 232 "BarberJars$Clues" "heardThoughts" "[I" : Cond) ∈ wt := in_wt 225 (by decide +kernel) (by decide +kernel)
theorem mw_226 : (.fieldLink RX0 18 "BarberJars$Clues" "heardLayers" "[I" : Cond) ∈ wt := in_wt 226 (by decide +kernel) (by decide +kernel)
theorem mw_227 : (.fieldLink RX7 235 "BarberJars$Clues" "heardLayers" "[I" : Cond) ∈ wt := in_wt 227 (by decide +kernel) (by decide +kernel)
theorem mw_228 : (.fieldLink RX0 21 "BarberJars$Clues" "seenSize" "I" : Cond) ∈ wt := in_wt 228 (by decide +kernel) (by decide +kernel)
theorem mw_229 : (.fieldLink RX7 217 "BarberJars$Clues" "seenSize" "I" : Cond) ∈ wt := in_wt 229 (by decide +kernel) (by decide +kernel)
theorem mw_230 : (.fieldLink RX0 25 "BarberJars$Clues" "heardSize" "I" : Cond) ∈ wt := in_wt 230 (by decide +kernel) (by decide +kernel)
theorem mw_231 : (.fieldLink RX7 229 "BarberJars$Clues" "heardSize" "I" : Cond) ∈ wt := in_wt 231 (by decide +kernel) (by decide +kernel)
theorem mw_243 : (.arrayClass Jvm.ClassFile.FieldType.boolean : Cond) ∈ wt := in_wt 243 (by decide +kernel) (by decide +kernel)
theorem mw_244 : (.classLink RX7 47 RX3 : Cond) ∈ wt := in_wt 244 (by decide +kernel) (by decide +kernel)
theorem mw_245 : (.instantiable RX3 8 : Cond) ∈ wt := in_wt 245 (by decide +kernel) (by decide +kernel)
theorem mw_247 : (.instanceMethod yX3_init : Cond) ∈ wt := in_wt 247 (by decide +kernel) (by decide +kernel)
set_option maxRecDepth 100000 in
theorem mw_248 : (.code yX3_init prog_5_method_1_code 1 (Option.none : Option Jvm.ClassFile.FieldType) : Cond) ∈ wt := in_wt 248 rfl rfl
theorem mw_249 : (.methodLink RX3 3 Lib.objectInit : Cond) ∈ wt := in_wt 249 (by decide +kernel) (by decide +kernel)
theorem mw_250 : (.fieldLink RX3 9 "BarberJars$Strand" "counts" "[I" : Cond) ∈ wt := in_wt 250 (by decide +kernel) (by decide +kernel)
theorem mw_251 : (.fieldLink RX3 15 "BarberJars$Strand" "coming" "[I" : Cond) ∈ wt := in_wt 251 (by decide +kernel) (by decide +kernel)
theorem mw_252 : (.fieldLink RX3 18 "BarberJars$Strand" "thoughts" "[I" : Cond) ∈ wt := in_wt 252 (by decide +kernel) (by decide +kernel)
theorem mw_253 : (.fieldLink RX3 21 "BarberJars$Strand" "fewest" "[I" : Cond) ∈ wt := in_wt 253 (by decide +kernel) (by decide +kernel)
theorem mw_254 : (.fieldLink RX3 24 "BarberJars$Strand" "later" "[I" : Cond) ∈ wt := in_wt 254 (by decide +kernel) (by decide +kernel)
theorem mw_255 : (.fieldLink RX3 39 "BarberJars$Strand" "hairSize" "I" : Cond) ∈ wt := in_wt 255 (by decide +kernel) (by decide +kernel)
theorem mw_256 : (.fieldLink RX3 42 "BarberJars$Strand" "wholeSize" "I" : Cond) ∈ wt := in_wt 256 (by decide +kernel) (by decide +kernel)
theorem mw_257 : (.fieldLink RX3 33 "BarberJars$Strand" "longest" "I" : Cond) ∈ wt := in_wt 257 (by decide +kernel) (by decide +kernel)
theorem mw_275 : (.classLink RX7 54 RX6 : Cond) ∈ wt := in_wt 275 (by decide +kernel) (by decide +kernel)
theorem mw_277 : (.fieldLink RX7 10 "BarberJars" "text" "LBarberJars$Text;" : Cond) ∈ wt := in_wt 277 (by decide +kernel) (by decide +kernel)
theorem mw_278 : (.fieldLink RX7 21 "BarberJars" "reader" "LBarberJars$Reader;" : Cond) ∈ wt := in_wt 278 (by decide +kernel) (by decide +kernel)
theorem mw_279 : (.fieldLink RX7 28 "BarberJars" "times" "LBarberJars$Times;" : Cond) ∈ wt := in_wt 279 (by decide +kernel) (by decide +kernel)
theorem mw_280 : (.fieldLink RX7 32 "BarberJars" "images" "[LBarberJars$Times;" : Cond) ∈ wt := in_wt 280 (by decide +kernel) (by decide +kernel)
theorem mw_281 : (.fieldLink RX7 36 "BarberJars" "kept" "[Z" : Cond) ∈ wt := in_wt 281 (by decide +kernel) (by decide +kernel)
theorem mw_282 : (.fieldLink RX7 43 "BarberJars" "clues" "LBarberJars$Clues;" : Cond) ∈ wt := in_wt 282 (by decide +kernel) (by decide +kernel)
theorem mw_283 : (.fieldLink RX7 50 "BarberJars" "strand" "LBarberJars$Strand;" : Cond) ∈ wt := in_wt 283 (by decide +kernel) (by decide +kernel)
theorem mw_284 : (.fieldLink RX7 57 "BarberJars" "town" "LBarberJars$Town;" : Cond) ∈ wt := in_wt 284 (by decide +kernel) (by decide +kernel)
theorem mw_285 : (.fieldLink RX7 61 "BarberJars" "places" "[I" : Cond) ∈ wt := in_wt 285 (by decide +kernel) (by decide +kernel)
theorem mw_286 : (.fieldLink RX7 65 "BarberJars" "shares" "[I" : Cond) ∈ wt := in_wt 286 (by decide +kernel) (by decide +kernel)
theorem mw_287 : (.fieldLink RX7 269 "BarberJars" "traced" "J" : Cond) ∈ wt := in_wt 287 (by decide +kernel) (by decide +kernel)
theorem mw_311 : (.methodLink RL 13 yX7_type : Cond) ∈ wt := in_wt 311 (by decide +kernel) (by decide +kernel)
theorem mw_312 : (.instanceMethod yX7_type : Cond) ∈ wt := in_wt 312 (by decide +kernel) (by decide +kernel)
theorem mw_313 : (.selects RX7 yX7_type yX7_type : Cond) ∈ wt := in_wt 313 (by decide +kernel) (by decide +kernel)
set_option maxRecDepth 100000 in
theorem mw_314 : (.code yX7_type prog_1_method_2_code 2 (Option.some Jvm.ClassFile.FieldType.int) : Cond) ∈ wt := in_wt 314 rfl rfl
theorem mw_315 : (.methodLink RX7 68 yX7_within : Cond) ∈ wt := in_wt 315 (by decide +kernel) (by decide +kernel)
theorem mw_316 : (.static yX7_within : Cond) ∈ wt := in_wt 316 (by decide +kernel) (by decide +kernel)
set_option maxRecDepth 100000 in
theorem mw_317 : (.code yX7_within prog_1_method_31_code 3 (Option.some Jvm.ClassFile.FieldType.boolean) : Cond) ∈ wt := in_wt 317 rfl rfl
theorem mw_318 : (.methodLink RL 18 yX7_clear : Cond) ∈ wt := in_wt 318 (by decide +kernel) (by decide +kernel)
theorem mw_319 : (.instanceMethod yX7_clear : Cond) ∈ wt := in_wt 319 (by decide +kernel) (by decide +kernel)
theorem mw_320 : (.selects RX7 yX7_clear yX7_clear : Cond) ∈ wt := in_wt 320 (by decide +kernel) (by decide +kernel)
set_option maxRecDepth 100000 in
theorem mw_321 : (.code yX7_clear prog_1_method_3_code 2 (Option.some Jvm.ClassFile.FieldType.int) : Cond) ∈ wt := in_wt 321 rfl rfl
theorem mw_322 : (.methodLink RL 23 yX7_shop : Cond) ∈ wt := in_wt 322 (by decide +kernel) (by decide +kernel)
theorem mw_323 : (.instanceMethod yX7_shop : Cond) ∈ wt := in_wt 323 (by decide +kernel) (by decide +kernel)
theorem mw_324 : (.selects RX7 yX7_shop yX7_shop : Cond) ∈ wt := in_wt 324 (by decide +kernel) (by decide +kernel)
set_option maxRecDepth 100000 in
theorem mw_325 : (.code yX7_shop prog_1_method_4_code 3 (Option.some Jvm.ClassFile.FieldType.int) : Cond) ∈ wt := in_wt 325 rfl rfl
theorem mw_326 : (.methodLink RX7 79 yX2_tellAll : Cond) ∈ wt := in_wt 326 (by decide +kernel) (by decide +kernel)
theorem mw_327 : (.instanceMethod yX2_tellAll : Cond) ∈ wt := in_wt 327 (by decide +kernel) (by decide +kernel)
theorem mw_328 : (.selects RX2 yX2_tellAll yX2_tellAll : Cond) ∈ wt := in_wt 328 (by decide +kernel) (by decide +kernel)
set_option maxRecDepth 100000 in
theorem mw_329 : (.code yX2_tellAll prog_4_method_2_code 2 (Option.some Jvm.ClassFile.FieldType.int) : Cond) ∈ wt := in_wt 329 rfl rfl
theorem mw_330 : (.methodLink RX2 22 yX6_begin : Cond) ∈ wt := in_wt 330 (by decide +kernel) (by decide +kernel)
theorem mw_331 : (.instanceMethod yX6_begin : Cond) ∈ wt := in_wt 331 (by decide +kernel) (by decide +kernel)
theorem mw_332 : (.selects RX6 yX6_begin yX6_begin : Cond) ∈ wt := in_wt 332 (by decide +kernel) (by decide +kernel)
set_option maxRecDepth 100000 in
theorem mw_333 : (.code yX6_begin prog_8_method_2_code 1 (Option.none : Option Jvm.ClassFile.FieldType) : Cond) ∈ wt := in_wt 333 rfl rfl
theorem mw_334 : (.methodLink RX2 36 yX2_advance : Cond) ∈ wt := in_wt 334 (by decide +kernel) (by decide +kernel)
theorem mw_336 : (.instanceMethod yX2_advance : Cond) ∈ wt := in_wt 336 (by decide +kernel) (by decide +kernel)
set_option maxRecDepth 100000 in
theorem mw_337 : (.code yX2_advance prog_4_method_9_code 1 (Option.none : Option Jvm.ClassFile.FieldType) : Cond) ∈ wt := in_wt 337 rfl rfl
theorem mw_338 : (.methodLink RX2 100 yX2_isSmallLetter : Cond) ∈ wt := in_wt 338 (by decide +kernel) (by decide +kernel)
theorem mw_339 : (.static yX2_isSmallLetter : Cond) ∈ wt := in_wt 339 (by decide +kernel) (by decide +kernel)
set_option maxRecDepth 100000 in
theorem mw_340 : (.code yX2_isSmallLetter prog_4_method_12_code 1 (Option.some Jvm.ClassFile.FieldType.boolean) : Cond) ∈ wt := in_wt 340 rfl rfl
theorem mw_341 : (.methodLink RX2 103 yX2_scanLetters : Cond) ∈ wt := in_wt 341 (by decide +kernel) (by decide +kernel)
theorem mw_343 : (.instanceMethod yX2_scanLetters : Cond) ∈ wt := in_wt 343 (by decide +kernel) (by decide +kernel)
set_option maxRecDepth 100000 in
theorem mw_344 : (.code yX2_scanLetters prog_4_method_10_code 1 (Option.none : Option Jvm.ClassFile.FieldType) : Cond) ∈ wt := in_wt 344 rfl rfl
theorem mw_345 : (.methodLink RX2 106 yX2_isDigit : Cond) ∈ wt := in_wt 345 (by decide +kernel) (by decide +kernel)
theorem mw_346 : (.static yX2_isDigit : Cond) ∈ wt := in_wt 346 (by decide +kernel) (by decide +kernel)
set_option maxRecDepth 100000 in
theorem mw_347 : (.code yX2_isDigit prog_4_method_13_code 1 (Option.some Jvm.ClassFile.FieldType.boolean) : Cond) ∈ wt := in_wt 347 rfl rfl
theorem mw_348 : (.methodLink RX2 109 yX2_scanNumber : Cond) ∈ wt := in_wt 348 (by decide +kernel) (by decide +kernel)
theorem mw_350 : (.instanceMethod yX2_scanNumber : Cond) ∈ wt := in_wt 350 (by decide +kernel) (by decide +kernel)
set_option maxRecDepth 100000 in
theorem mw_351 : (.code yX2_scanNumber prog_4_method_11_code 2 (Option.none : Option Jvm.ClassFile.FieldType) : Cond) ∈ wt := in_wt 351 rfl rfl
theorem mw_352 : (.methodLink RX2 112 yJ9_min_7cf53 : Cond) ∈ wt := in_wt 352 (by decide +kernel) (by decide +kernel)
theorem mw_353 : (.static yJ9_min_7cf53 : Cond) ∈ wt := in_wt 353 (by decide +kernel) (by decide +kernel)
set_option maxRecDepth 100000 in
theorem mw_354 : (.code yJ9_min_7cf53 prog_12_method_69_code 2 (Option.some Jvm.ClassFile.FieldType.int) : Cond) ∈ wt := in_wt 354 rfl rfl
theorem mw_355 : (.methodLink RX2 42 yX2_tellItem : Cond) ∈ wt := in_wt 355 (by decide +kernel) (by decide +kernel)
theorem mw_357 : (.instanceMethod yX2_tellItem : Cond) ∈ wt := in_wt 357 (by decide +kernel) (by decide +kernel)
set_option maxRecDepth 100000 in
theorem mw_358 : (.code yX2_tellItem prog_4_method_3_code 2 (Option.some Jvm.ClassFile.FieldType.boolean) : Cond) ∈ wt := in_wt 358 rfl rfl
theorem mw_359 : (.methodLink RX2 52 yX2_mayBegin : Cond) ∈ wt := in_wt 359 (by decide +kernel) (by decide +kernel)
theorem mw_361 : (.instanceMethod yX2_mayBegin : Cond) ∈ wt := in_wt 361 (by decide +kernel) (by decide +kernel)
set_option maxRecDepth 100000 in
theorem mw_362 : (.code yX2_mayBegin prog_4_method_4_code 2 (Option.some Jvm.ClassFile.FieldType.boolean) : Cond) ∈ wt := in_wt 362 rfl rfl
theorem mw_363 : (.methodLink RX2 59 yX2_tellOne : Cond) ∈ wt := in_wt 363 (by decide +kernel) (by decide +kernel)
theorem mw_365 : (.instanceMethod yX2_tellOne : Cond) ∈ wt := in_wt 365 (by decide +kernel) (by decide +kernel)
set_option maxRecDepth 100000 in
theorem mw_366 : (.code yX2_tellOne prog_4_method_5_code 3 (Option.some Jvm.ClassFile.FieldType.boolean) : Cond) ∈ wt := in_wt 366 rfl rfl
theorem mw_367 : (.methodLink RX2 68 yX2_isNumber : Cond) ∈ wt := in_wt 367 (by decide +kernel) (by decide +kernel)
theorem mw_369 : (.instanceMethod yX2_isNumber : Cond) ∈ wt := in_wt 369 (by decide +kernel) (by decide +kernel)
set_option maxRecDepth 100000 in
theorem mw_370 : (.code yX2_isNumber prog_4_method_8_code 3 (Option.some Jvm.ClassFile.FieldType.boolean) : Cond) ∈ wt := in_wt 370 rfl rfl
theorem mw_372 : (.methodLink RX2 62 yX2_tellLongest : Cond) ∈ wt := in_wt 372 (by decide +kernel) (by decide +kernel)
theorem mw_374 : (.instanceMethod yX2_tellLongest : Cond) ∈ wt := in_wt 374 (by decide +kernel) (by decide +kernel)
set_option maxRecDepth 100000 in
theorem mw_375 : (.code yX2_tellLongest prog_4_method_6_code 1 (Option.some Jvm.ClassFile.FieldType.boolean) : Cond) ∈ wt := in_wt 375 rfl rfl
theorem mw_376 : (.methodLink RX2 65 yX2_tellChair : Cond) ∈ wt := in_wt 376 (by decide +kernel) (by decide +kernel)
theorem mw_378 : (.instanceMethod yX2_tellChair : Cond) ∈ wt := in_wt 378 (by decide +kernel) (by decide +kernel)
set_option maxRecDepth 100000 in
theorem mw_379 : (.code yX2_tellChair prog_4_method_7_code 1 (Option.some Jvm.ClassFile.FieldType.boolean) : Cond) ∈ wt := in_wt 379 rfl rfl
theorem mw_380 : (.methodLink RX7 86 yX6_copyFrom : Cond) ∈ wt := in_wt 380 (by decide +kernel) (by decide +kernel)
theorem mw_381 : (.instanceMethod yX6_copyFrom : Cond) ∈ wt := in_wt 381 (by decide +kernel) (by decide +kernel)
theorem mw_382 : (.selects RX6 yX6_copyFrom yX6_copyFrom : Cond) ∈ wt := in_wt 382 (by decide +kernel) (by decide +kernel)
set_option maxRecDepth 100000 in
theorem mw_383 : (.code yX6_copyFrom prog_8_method_3_code 2 (Option.none : Option Jvm.ClassFile.FieldType) : Cond) ∈ wt := in_wt 383 rfl rfl
theorem mw_384 : (.methodLink RX6 31 ⟨"java/lang/System", "arraycopy", "(Ljava/lang/Object;ILjava/lang/Object;II)V"⟩ : Cond) ∈ wt := in_wt 384 (by decide +kernel) (by decide +kernel)
theorem mw_385 : (.static ⟨"java/lang/System", "arraycopy", "(Ljava/lang/Object;ILjava/lang/Object;II)V"⟩ : Cond) ∈ wt := in_wt 385 (by decide +kernel) (by decide +kernel)
theorem mw_386 : (.native ⟨"java/lang/System", "arraycopy", "(Ljava/lang/Object;ILjava/lang/Object;II)V"⟩ : Cond) ∈ wt := in_wt 386 (by decide +kernel) (by decide +kernel)
theorem mw_387 : (.methodLink RX7 93 yX5_begin : Cond) ∈ wt := in_wt 387 (by decide +kernel) (by decide +kernel)
theorem mw_388 : (.instanceMethod yX5_begin : Cond) ∈ wt := in_wt 388 (by decide +kernel) (by decide +kernel)
theorem mw_389 : (.selects RX5 yX5_begin yX5_begin : Cond) ∈ wt := in_wt 389 (by decide +kernel) (by decide +kernel)
set_option maxRecDepth 100000 in
theorem mw_390 : (.code yX5_begin prog_7_method_2_code 2 (Option.none : Option Jvm.ClassFile.FieldType) : Cond) ∈ wt := in_wt 390 rfl rfl
theorem mw_391 : (.methodLink RX5 22 yX1_begin : Cond) ∈ wt := in_wt 391 (by decide +kernel) (by decide +kernel)
theorem mw_392 : (.instanceMethod yX1_begin : Cond) ∈ wt := in_wt 392 (by decide +kernel) (by decide +kernel)
theorem mw_393 : (.selects RX1 yX1_begin yX1_begin : Cond) ∈ wt := in_wt 393 (by decide +kernel) (by decide +kernel)
set_option maxRecDepth 100000 in
theorem mw_394 : (.code yX1_begin prog_3_method_2_code 2 (Option.none : Option Jvm.ClassFile.FieldType) : Cond) ∈ wt := in_wt 394 rfl rfl
theorem mw_395 : (.methodLink RX7 97 yX0_drop : Cond) ∈ wt := in_wt 395 (by decide +kernel) (by decide +kernel)
theorem mw_396 : (.instanceMethod yX0_drop : Cond) ∈ wt := in_wt 396 (by decide +kernel) (by decide +kernel)
theorem mw_397 : (.selects RX0 yX0_drop yX0_drop : Cond) ∈ wt := in_wt 397 (by decide +kernel) (by decide +kernel)
set_option maxRecDepth 100000 in
theorem mw_398 : (.code yX0_drop prog_2_method_2_code 1 (Option.none : Option Jvm.ClassFile.FieldType) : Cond) ∈ wt := in_wt 398 rfl rfl
theorem mw_399 : (.methodLink RL 27 yX7_one : Cond) ∈ wt := in_wt 399 (by decide +kernel) (by decide +kernel)
theorem mw_400 : (.instanceMethod yX7_one : Cond) ∈ wt := in_wt 400 (by decide +kernel) (by decide +kernel)
theorem mw_401 : (.selects RX7 yX7_one yX7_one : Cond) ∈ wt := in_wt 401 (by decide +kernel) (by decide +kernel)
set_option maxRecDepth 100000 in
theorem mw_402 : (.code yX7_one prog_1_method_5_code 4 (Option.some Jvm.ClassFile.FieldType.int) : Cond) ∈ wt := in_wt 402 rfl rfl
theorem mw_403 : (.methodLink RX7 100 yX7_isOne : Cond) ∈ wt := in_wt 403 (by decide +kernel) (by decide +kernel)
theorem mw_405 : (.instanceMethod yX7_isOne : Cond) ∈ wt := in_wt 405 (by decide +kernel) (by decide +kernel)
set_option maxRecDepth 100000 in
theorem mw_406 : (.code yX7_isOne prog_1_method_34_code 2 (Option.some Jvm.ClassFile.FieldType.boolean) : Cond) ∈ wt := in_wt 406 rfl rfl
theorem mw_407 : (.methodLink RX7 122 yX1_layersOf : Cond) ∈ wt := in_wt 407 (by decide +kernel) (by decide +kernel)
theorem mw_408 : (.instanceMethod yX1_layersOf : Cond) ∈ wt := in_wt 408 (by decide +kernel) (by decide +kernel)
theorem mw_409 : (.selects RX1 yX1_layersOf yX1_layersOf : Cond) ∈ wt := in_wt 409 (by decide +kernel) (by decide +kernel)
set_option maxRecDepth 100000 in
theorem mw_410 : (.code yX1_layersOf prog_3_method_11_code 5 (Option.some Jvm.ClassFile.FieldType.int) : Cond) ∈ wt := in_wt 410 rfl rfl
theorem mw_411 : (.methodLink RX1 63 yX1_layerAt : Cond) ∈ wt := in_wt 411 (by decide +kernel) (by decide +kernel)
theorem mw_412 : (.instanceMethod yX1_layerAt : Cond) ∈ wt := in_wt 412 (by decide +kernel) (by decide +kernel)
theorem mw_413 : (.selects RX1 yX1_layerAt yX1_layerAt : Cond) ∈ wt := in_wt 413 (by decide +kernel) (by decide +kernel)
set_option maxRecDepth 100000 in
theorem mw_414 : (.code yX1_layerAt prog_3_method_4_code 3 (Option.some Jvm.ClassFile.FieldType.int) : Cond) ∈ wt := in_wt 414 rfl rfl
theorem mw_415 : (.methodLink RL 32 yX7_week : Cond) ∈ wt := in_wt 415 (by decide +kernel) (by decide +kernel)
theorem mw_416 : (.instanceMethod yX7_week : Cond) ∈ wt := in_wt 416 (by decide +kernel) (by decide +kernel)
theorem mw_417 : (.selects RX7 yX7_week yX7_week : Cond) ∈ wt := in_wt 417 (by decide +kernel) (by decide +kernel)
set_option maxRecDepth 100000 in
theorem mw_418 : (.code yX7_week prog_1_method_6_code 3 (Option.some Jvm.ClassFile.FieldType.int) : Cond) ∈ wt := in_wt 418 rfl rfl
theorem mw_419 : (.methodLink RL 36 yX7_layer : Cond) ∈ wt := in_wt 419 (by decide +kernel) (by decide +kernel)
theorem mw_420 : (.instanceMethod yX7_layer : Cond) ∈ wt := in_wt 420 (by decide +kernel) (by decide +kernel)
theorem mw_421 : (.selects RX7 yX7_layer yX7_layer : Cond) ∈ wt := in_wt 421 (by decide +kernel) (by decide +kernel)
set_option maxRecDepth 100000 in
theorem mw_422 : (.code yX7_layer prog_1_method_7_code 3 (Option.some Jvm.ClassFile.FieldType.int) : Cond) ∈ wt := in_wt 422 rfl rfl
theorem mw_423 : (.methodLink RX7 129 yX1_layerAt : Cond) ∈ wt := in_wt 423 (by decide +kernel) (by decide +kernel)
theorem mw_424 : (.methodLink RL 40 yX7_jar : Cond) ∈ wt := in_wt 424 (by decide +kernel) (by decide +kernel)
theorem mw_425 : (.instanceMethod yX7_jar : Cond) ∈ wt := in_wt 425 (by decide +kernel) (by decide +kernel)
theorem mw_426 : (.selects RX7 yX7_jar yX7_jar : Cond) ∈ wt := in_wt 426 (by decide +kernel) (by decide +kernel)
set_option maxRecDepth 100000 in
theorem mw_427 : (.code yX7_jar prog_1_method_8_code 3 (Option.some Jvm.ClassFile.FieldType.int) : Cond) ∈ wt := in_wt 427 rfl rfl
theorem mw_428 : (.methodLink RX7 132 yX7_isJar : Cond) ∈ wt := in_wt 428 (by decide +kernel) (by decide +kernel)
theorem mw_429 : (.static yX7_isJar : Cond) ∈ wt := in_wt 429 (by decide +kernel) (by decide +kernel)
set_option maxRecDepth 100000 in
theorem mw_430 : (.code yX7_isJar prog_1_method_33_code 1 (Option.some Jvm.ClassFile.FieldType.boolean) : Cond) ∈ wt := in_wt 430 rfl rfl
theorem mw_431 : (.methodLink RX7 135 yX7_isThought : Cond) ∈ wt := in_wt 431 (by decide +kernel) (by decide +kernel)
theorem mw_432 : (.static yX7_isThought : Cond) ∈ wt := in_wt 432 (by decide +kernel) (by decide +kernel)
set_option maxRecDepth 100000 in
theorem mw_433 : (.code yX7_isThought prog_1_method_32_code 1 (Option.some Jvm.ClassFile.FieldType.boolean) : Cond) ∈ wt := in_wt 433 rfl rfl
theorem mw_434 : (.methodLink RX7 138 yX1_sweptOf : Cond) ∈ wt := in_wt 434 (by decide +kernel) (by decide +kernel)
theorem mw_435 : (.instanceMethod yX1_sweptOf : Cond) ∈ wt := in_wt 435 (by decide +kernel) (by decide +kernel)
theorem mw_436 : (.selects RX1 yX1_sweptOf yX1_sweptOf : Cond) ∈ wt := in_wt 436 (by decide +kernel) (by decide +kernel)
set_option maxRecDepth 100000 in
theorem mw_437 : (.code yX1_sweptOf prog_3_method_5_code 3 (Option.some Jvm.ClassFile.FieldType.int) : Cond) ∈ wt := in_wt 437 rfl rfl
theorem mw_438 : (.methodLink RL 44 yX7_days : Cond) ∈ wt := in_wt 438 (by decide +kernel) (by decide +kernel)
theorem mw_439 : (.instanceMethod yX7_days : Cond) ∈ wt := in_wt 439 (by decide +kernel) (by decide +kernel)
theorem mw_440 : (.selects RX7 yX7_days yX7_days : Cond) ∈ wt := in_wt 440 (by decide +kernel) (by decide +kernel)
set_option maxRecDepth 100000 in
theorem mw_441 : (.code yX7_days prog_1_method_9_code 3 (Option.some Jvm.ClassFile.FieldType.int) : Cond) ∈ wt := in_wt 441 rfl rfl
theorem mw_442 : (.methodLink RX7 144 yX5_remember : Cond) ∈ wt := in_wt 442 (by decide +kernel) (by decide +kernel)
theorem mw_443 : (.instanceMethod yX5_remember : Cond) ∈ wt := in_wt 443 (by decide +kernel) (by decide +kernel)
theorem mw_444 : (.selects RX5 yX5_remember yX5_remember : Cond) ∈ wt := in_wt 444 (by decide +kernel) (by decide +kernel)
set_option maxRecDepth 100000 in
theorem mw_445 : (.code yX5_remember prog_7_method_3_code 1 (Option.none : Option Jvm.ClassFile.FieldType) : Cond) ∈ wt := in_wt 445 rfl rfl
theorem mw_446 : (.methodLink RX5 30 yX5_loseOldest : Cond) ∈ wt := in_wt 446 (by decide +kernel) (by decide +kernel)
theorem mw_448 : (.instanceMethod yX5_loseOldest : Cond) ∈ wt := in_wt 448 (by decide +kernel) (by decide +kernel)
set_option maxRecDepth 100000 in
theorem mw_449 : (.code yX5_loseOldest prog_7_method_4_code 3 (Option.none : Option Jvm.ClassFile.FieldType) : Cond) ∈ wt := in_wt 449 rfl rfl
theorem mw_450 : (.methodLink RX5 33 yX1_copyFrom : Cond) ∈ wt := in_wt 450 (by decide +kernel) (by decide +kernel)
theorem mw_451 : (.instanceMethod yX1_copyFrom : Cond) ∈ wt := in_wt 451 (by decide +kernel) (by decide +kernel)
theorem mw_452 : (.selects RX1 yX1_copyFrom yX1_copyFrom : Cond) ∈ wt := in_wt 452 (by decide +kernel) (by decide +kernel)
set_option maxRecDepth 100000 in
theorem mw_453 : (.code yX1_copyFrom prog_3_method_3_code 2 (Option.none : Option Jvm.ClassFile.FieldType) : Cond) ∈ wt := in_wt 453 rfl rfl
theorem mw_454 : (.methodLink RX1 37 ⟨"java/lang/System", "arraycopy", "(Ljava/lang/Object;ILjava/lang/Object;II)V"⟩ : Cond) ∈ wt := in_wt 454 (by decide +kernel) (by decide +kernel)
theorem mw_455 : (.methodLink RX7 147 yX1_passDay : Cond) ∈ wt := in_wt 455 (by decide +kernel) (by decide +kernel)
theorem mw_456 : (.instanceMethod yX1_passDay : Cond) ∈ wt := in_wt 456 (by decide +kernel) (by decide +kernel)
theorem mw_457 : (.selects RX1 yX1_passDay yX1_passDay : Cond) ∈ wt := in_wt 457 (by decide +kernel) (by decide +kernel)
set_option maxRecDepth 100000 in
theorem mw_458 : (.code yX1_passDay prog_3_method_7_code 4 (Option.none : Option Jvm.ClassFile.FieldType) : Cond) ∈ wt := in_wt 458 rfl rfl
theorem mw_459 : (.methodLink RX1 52 yX1_thoughtAhead : Cond) ∈ wt := in_wt 459 (by decide +kernel) (by decide +kernel)
theorem mw_460 : (.instanceMethod yX1_thoughtAhead : Cond) ∈ wt := in_wt 460 (by decide +kernel) (by decide +kernel)
theorem mw_461 : (.selects RX1 yX1_thoughtAhead yX1_thoughtAhead : Cond) ∈ wt := in_wt 461 (by decide +kernel) (by decide +kernel)
set_option maxRecDepth 100000 in
theorem mw_462 : (.code yX1_thoughtAhead prog_3_method_6_code 4 (Option.some Jvm.ClassFile.FieldType.int) : Cond) ∈ wt := in_wt 462 rfl rfl
theorem mw_463 : (.methodLink RX1 43 yX6_usualThought : Cond) ∈ wt := in_wt 463 (by decide +kernel) (by decide +kernel)
theorem mw_464 : (.instanceMethod yX6_usualThought : Cond) ∈ wt := in_wt 464 (by decide +kernel) (by decide +kernel)
theorem mw_465 : (.selects RX6 yX6_usualThought yX6_usualThought : Cond) ∈ wt := in_wt 465 (by decide +kernel) (by decide +kernel)
set_option maxRecDepth 100000 in
theorem mw_466 : (.code yX6_usualThought prog_8_method_4_code 4 (Option.some Jvm.ClassFile.FieldType.int) : Cond) ∈ wt := in_wt 466 rfl rfl
theorem mw_467 : (.methodLink RX1 59 yX1_dropTips : Cond) ∈ wt := in_wt 467 (by decide +kernel) (by decide +kernel)
theorem mw_469 : (.instanceMethod yX1_dropTips : Cond) ∈ wt := in_wt 469 (by decide +kernel) (by decide +kernel)
set_option maxRecDepth 100000 in
theorem mw_470 : (.code yX1_dropTips prog_3_method_9_code 5 (Option.none : Option Jvm.ClassFile.FieldType) : Cond) ∈ wt := in_wt 470 rfl rfl
theorem mw_471 : (.methodLink RL 48 yX7_minds : Cond) ∈ wt := in_wt 471 (by decide +kernel) (by decide +kernel)
theorem mw_472 : (.instanceMethod yX7_minds : Cond) ∈ wt := in_wt 472 (by decide +kernel) (by decide +kernel)
end
section
theorem mw_473 : (.selects RX7 yX7_minds yX7_minds : Cond) ∈ wt := in_wt 473 (by decide +kernel) (by decide +kernel)
set_option maxRecDepth 100000 in
theorem mw_474 : (.code yX7_minds prog_1_method_10_code 4 (Option.some Jvm.ClassFile.FieldType.int) : Cond) ∈ wt := in_wt 474 rfl rfl
theorem mw_475 : (.methodLink RL 52 yX7_cuts : Cond) ∈ wt := in_wt 475 (by decide +kernel) (by decide +kernel)
theorem mw_476 : (.instanceMethod yX7_cuts : Cond) ∈ wt := in_wt 476 (by decide +kernel) (by decide +kernel)
theorem mw_477 : (.selects RX7 yX7_cuts yX7_cuts : Cond) ∈ wt := in_wt 477 (by decide +kernel) (by decide +kernel)
set_option maxRecDepth 100000 in
theorem mw_478 : (.code yX7_cuts prog_1_method_11_code 3 (Option.some Jvm.ClassFile.FieldType.int) : Cond) ∈ wt := in_wt 478 rfl rfl
theorem mw_479 : (.methodLink RX7 150 yX1_sweep : Cond) ∈ wt := in_wt 479 (by decide +kernel) (by decide +kernel)
theorem mw_480 : (.instanceMethod yX1_sweep : Cond) ∈ wt := in_wt 480 (by decide +kernel) (by decide +kernel)
theorem mw_481 : (.selects RX1 yX1_sweep yX1_sweep : Cond) ∈ wt := in_wt 481 (by decide +kernel) (by decide +kernel)
set_option maxRecDepth 100000 in
theorem mw_482 : (.code yX1_sweep prog_3_method_8_code 5 (Option.none : Option Jvm.ClassFile.FieldType) : Cond) ∈ wt := in_wt 482 rfl rfl
theorem mw_483 : (.methodLink RX1 66 yJ9_min_7cf53 : Cond) ∈ wt := in_wt 483 (by decide +kernel) (by decide +kernel)
theorem mw_484 : (.methodLink RL 56 yX7_changes : Cond) ∈ wt := in_wt 484 (by decide +kernel) (by decide +kernel)
theorem mw_485 : (.instanceMethod yX7_changes : Cond) ∈ wt := in_wt 485 (by decide +kernel) (by decide +kernel)
theorem mw_486 : (.selects RX7 yX7_changes yX7_changes : Cond) ∈ wt := in_wt 486 (by decide +kernel) (by decide +kernel)
set_option maxRecDepth 100000 in
theorem mw_487 : (.code yX7_changes prog_1_method_12_code 3 (Option.some Jvm.ClassFile.FieldType.int) : Cond) ∈ wt := in_wt 487 rfl rfl
theorem mw_488 : (.methodLink RL 60 yX7_empties : Cond) ∈ wt := in_wt 488 (by decide +kernel) (by decide +kernel)
theorem mw_489 : (.instanceMethod yX7_empties : Cond) ∈ wt := in_wt 489 (by decide +kernel) (by decide +kernel)
theorem mw_490 : (.selects RX7 yX7_empties yX7_empties : Cond) ∈ wt := in_wt 490 (by decide +kernel) (by decide +kernel)
set_option maxRecDepth 100000 in
theorem mw_491 : (.code yX7_empties prog_1_method_13_code 3 (Option.some Jvm.ClassFile.FieldType.int) : Cond) ∈ wt := in_wt 491 rfl rfl
theorem mw_492 : (.methodLink RX7 155 yX1_sweptInto : Cond) ∈ wt := in_wt 492 (by decide +kernel) (by decide +kernel)
theorem mw_493 : (.instanceMethod yX1_sweptInto : Cond) ∈ wt := in_wt 493 (by decide +kernel) (by decide +kernel)
theorem mw_494 : (.selects RX1 yX1_sweptInto yX1_sweptInto : Cond) ∈ wt := in_wt 494 (by decide +kernel) (by decide +kernel)
set_option maxRecDepth 100000 in
theorem mw_495 : (.code yX1_sweptInto prog_3_method_14_code 4 (Option.some Jvm.ClassFile.FieldType.int) : Cond) ∈ wt := in_wt 495 rfl rfl
theorem mw_496 : (.methodLink RX1 71 yX1_sweptOf : Cond) ∈ wt := in_wt 496 (by decide +kernel) (by decide +kernel)
theorem mw_497 : (.methodLink RX7 159 yX1_pourOut : Cond) ∈ wt := in_wt 497 (by decide +kernel) (by decide +kernel)
theorem mw_498 : (.instanceMethod yX1_pourOut : Cond) ∈ wt := in_wt 498 (by decide +kernel) (by decide +kernel)
theorem mw_499 : (.selects RX1 yX1_pourOut yX1_pourOut : Cond) ∈ wt := in_wt 499 (by decide +kernel) (by decide +kernel)
set_option maxRecDepth 100000 in
theorem mw_500 : (.code yX1_pourOut prog_3_method_10_code 3 (Option.none : Option Jvm.ClassFile.FieldType) : Cond) ∈ wt := in_wt 500 rfl rfl
theorem mw_501 : (.methodLink RL 64 yX7_undo : Cond) ∈ wt := in_wt 501 (by decide +kernel) (by decide +kernel)
theorem mw_502 : (.instanceMethod yX7_undo : Cond) ∈ wt := in_wt 502 (by decide +kernel) (by decide +kernel)
theorem mw_503 : (.selects RX7 yX7_undo yX7_undo : Cond) ∈ wt := in_wt 503 (by decide +kernel) (by decide +kernel)
set_option maxRecDepth 100000 in
theorem mw_504 : (.code yX7_undo prog_1_method_14_code 1 (Option.some Jvm.ClassFile.FieldType.int) : Cond) ∈ wt := in_wt 504 rfl rfl
theorem mw_505 : (.methodLink RX7 165 yX5_goBack : Cond) ∈ wt := in_wt 505 (by decide +kernel) (by decide +kernel)
theorem mw_506 : (.instanceMethod yX5_goBack : Cond) ∈ wt := in_wt 506 (by decide +kernel) (by decide +kernel)
theorem mw_507 : (.selects RX5 yX5_goBack yX5_goBack : Cond) ∈ wt := in_wt 507 (by decide +kernel) (by decide +kernel)
set_option maxRecDepth 100000 in
theorem mw_508 : (.code yX5_goBack prog_7_method_5_code 1 (Option.none : Option Jvm.ClassFile.FieldType) : Cond) ∈ wt := in_wt 508 rfl rfl
theorem mw_509 : (.methodLink RL 68 yX7_now : Cond) ∈ wt := in_wt 509 (by decide +kernel) (by decide +kernel)
theorem mw_510 : (.instanceMethod yX7_now : Cond) ∈ wt := in_wt 510 (by decide +kernel) (by decide +kernel)
theorem mw_511 : (.selects RX7 yX7_now yX7_now : Cond) ∈ wt := in_wt 511 (by decide +kernel) (by decide +kernel)
set_option maxRecDepth 100000 in
theorem mw_512 : (.code yX7_now prog_1_method_15_code 3 (Option.some Jvm.ClassFile.FieldType.int) : Cond) ∈ wt := in_wt 512 rfl rfl
theorem mw_513 : (.methodLink RX7 168 yX7_layersOfAll : Cond) ∈ wt := in_wt 513 (by decide +kernel) (by decide +kernel)
theorem mw_515 : (.instanceMethod yX7_layersOfAll : Cond) ∈ wt := in_wt 515 (by decide +kernel) (by decide +kernel)
set_option maxRecDepth 100000 in
theorem mw_516 : (.code yX7_layersOfAll prog_1_method_38_code 3 (Option.some Jvm.ClassFile.FieldType.int) : Cond) ∈ wt := in_wt 516 rfl rfl
theorem mw_517 : (.methodLink RX7 171 yX7_sweptIntoAll : Cond) ∈ wt := in_wt 517 (by decide +kernel) (by decide +kernel)
theorem mw_519 : (.instanceMethod yX7_sweptIntoAll : Cond) ∈ wt := in_wt 519 (by decide +kernel) (by decide +kernel)
set_option maxRecDepth 100000 in
theorem mw_520 : (.code yX7_sweptIntoAll prog_1_method_39_code 3 (Option.some Jvm.ClassFile.FieldType.int) : Cond) ∈ wt := in_wt 520 rfl rfl
theorem mw_521 : (.methodLink RL 72 yX7_reads : Cond) ∈ wt := in_wt 521 (by decide +kernel) (by decide +kernel)
theorem mw_522 : (.instanceMethod yX7_reads : Cond) ∈ wt := in_wt 522 (by decide +kernel) (by decide +kernel)
theorem mw_523 : (.selects RX7 yX7_reads yX7_reads : Cond) ∈ wt := in_wt 523 (by decide +kernel) (by decide +kernel)
set_option maxRecDepth 100000 in
theorem mw_524 : (.code yX7_reads prog_1_method_16_code 3 (Option.some Jvm.ClassFile.FieldType.int) : Cond) ∈ wt := in_wt 524 rfl rfl
theorem mw_525 : (.methodLink RX7 174 yX7_mostIn : Cond) ∈ wt := in_wt 525 (by decide +kernel) (by decide +kernel)
theorem mw_527 : (.instanceMethod yX7_mostIn : Cond) ∈ wt := in_wt 527 (by decide +kernel) (by decide +kernel)
set_option maxRecDepth 100000 in
theorem mw_528 : (.code yX7_mostIn prog_1_method_37_code 3 (Option.some Jvm.ClassFile.FieldType.int) : Cond) ∈ wt := in_wt 528 rfl rfl
theorem mw_529 : (.methodLink RX7 273 yX7_mostOf : Cond) ∈ wt := in_wt 529 (by decide +kernel) (by decide +kernel)
theorem mw_530 : (.static yX7_mostOf : Cond) ∈ wt := in_wt 530 (by decide +kernel) (by decide +kernel)
set_option maxRecDepth 100000 in
theorem mw_531 : (.code yX7_mostOf prog_1_method_36_code 4 (Option.some Jvm.ClassFile.FieldType.int) : Cond) ∈ wt := in_wt 531 rfl rfl
theorem mw_532 : (.methodLink RX7 177 yX7_blushes : Cond) ∈ wt := in_wt 532 (by decide +kernel) (by decide +kernel)
theorem mw_534 : (.instanceMethod yX7_blushes : Cond) ∈ wt := in_wt 534 (by decide +kernel) (by decide +kernel)
set_option maxRecDepth 100000 in
theorem mw_535 : (.code yX7_blushes prog_1_method_40_code 4 (Option.some Jvm.ClassFile.FieldType.int) : Cond) ∈ wt := in_wt 535 rfl rfl
theorem mw_536 : (.methodLink RL 76 yX7_plan : Cond) ∈ wt := in_wt 536 (by decide +kernel) (by decide +kernel)
theorem mw_537 : (.instanceMethod yX7_plan : Cond) ∈ wt := in_wt 537 (by decide +kernel) (by decide +kernel)
theorem mw_538 : (.selects RX7 yX7_plan yX7_plan : Cond) ∈ wt := in_wt 538 (by decide +kernel) (by decide +kernel)
set_option maxRecDepth 100000 in
theorem mw_539 : (.code yX7_plan prog_1_method_17_code 6 (Option.some Jvm.ClassFile.FieldType.int) : Cond) ∈ wt := in_wt 539 rfl rfl
theorem mw_540 : (.methodLink RX7 180 yX3_grow : Cond) ∈ wt := in_wt 540 (by decide +kernel) (by decide +kernel)
theorem mw_541 : (.instanceMethod yX3_grow : Cond) ∈ wt := in_wt 541 (by decide +kernel) (by decide +kernel)
theorem mw_542 : (.selects RX3 yX3_grow yX3_grow : Cond) ∈ wt := in_wt 542 (by decide +kernel) (by decide +kernel)
set_option maxRecDepth 100000 in
theorem mw_543 : (.code yX3_grow prog_5_method_2_code 6 (Option.none : Option Jvm.ClassFile.FieldType) : Cond) ∈ wt := in_wt 543 rfl rfl
theorem mw_544 : (.methodLink RX3 45 yX1_layerAt : Cond) ∈ wt := in_wt 544 (by decide +kernel) (by decide +kernel)
theorem mw_545 : (.methodLink RX3 49 yX1_thoughtAhead : Cond) ∈ wt := in_wt 545 (by decide +kernel) (by decide +kernel)
theorem mw_546 : (.methodLink RX7 184 yX3_firstFailingEvening : Cond) ∈ wt := in_wt 546 (by decide +kernel) (by decide +kernel)
theorem mw_547 : (.instanceMethod yX3_firstFailingEvening : Cond) ∈ wt := in_wt 547 (by decide +kernel) (by decide +kernel)
theorem mw_548 : (.selects RX3 yX3_firstFailingEvening yX3_firstFailingEvening : Cond) ∈ wt := in_wt 548 (by decide +kernel) (by decide +kernel)
set_option maxRecDepth 100000 in
theorem mw_549 : (.code yX3_firstFailingEvening prog_5_method_3_code 6 (Option.some Jvm.ClassFile.FieldType.int) : Cond) ∈ wt := in_wt 549 rfl rfl
theorem mw_550 : (.methodLink RX3 53 yJ7_fill_53178 : Cond) ∈ wt := in_wt 550 (by decide +kernel) (by decide +kernel)
theorem mw_551 : (.methodLink RX3 59 yX3_spend : Cond) ∈ wt := in_wt 551 (by decide +kernel) (by decide +kernel)
theorem mw_553 : (.instanceMethod yX3_spend : Cond) ∈ wt := in_wt 553 (by decide +kernel) (by decide +kernel)
set_option maxRecDepth 100000 in
theorem mw_554 : (.code yX3_spend prog_5_method_4_code 9 (Option.none : Option Jvm.ClassFile.FieldType) : Cond) ∈ wt := in_wt 554 rfl rfl
theorem mw_555 : (.methodLink RX3 67 yJ9_min_7cf53 : Cond) ∈ wt := in_wt 555 (by decide +kernel) (by decide +kernel)
theorem mw_556 : (.methodLink RX3 63 yX3_fewestCuts : Cond) ∈ wt := in_wt 556 (by decide +kernel) (by decide +kernel)
theorem mw_557 : (.instanceMethod yX3_fewestCuts : Cond) ∈ wt := in_wt 557 (by decide +kernel) (by decide +kernel)
theorem mw_558 : (.selects RX3 yX3_fewestCuts yX3_fewestCuts : Cond) ∈ wt := in_wt 558 (by decide +kernel) (by decide +kernel)
set_option maxRecDepth 100000 in
theorem mw_559 : (.code yX3_fewestCuts prog_5_method_5_code 3 (Option.some Jvm.ClassFile.FieldType.int) : Cond) ∈ wt := in_wt 559 rfl rfl
theorem mw_560 : (.methodLink RX7 188 yX3_fewestCuts : Cond) ∈ wt := in_wt 560 (by decide +kernel) (by decide +kernel)
theorem mw_561 : (.methodLink RL 81 yX7_least : Cond) ∈ wt := in_wt 561 (by decide +kernel) (by decide +kernel)
theorem mw_562 : (.instanceMethod yX7_least : Cond) ∈ wt := in_wt 562 (by decide +kernel) (by decide +kernel)
theorem mw_563 : (.selects RX7 yX7_least yX7_least : Cond) ∈ wt := in_wt 563 (by decide +kernel) (by decide +kernel)
set_option maxRecDepth 100000 in
theorem mw_564 : (.code yX7_least prog_1_method_18_code 4 (Option.some Jvm.ClassFile.FieldType.int) : Cond) ∈ wt := in_wt 564 rfl rfl
theorem mw_565 : (.methodLink RX7 191 yX3_fewestDays : Cond) ∈ wt := in_wt 565 (by decide +kernel) (by decide +kernel)
theorem mw_566 : (.instanceMethod yX3_fewestDays : Cond) ∈ wt := in_wt 566 (by decide +kernel) (by decide +kernel)
theorem mw_567 : (.selects RX3 yX3_fewestDays yX3_fewestDays : Cond) ∈ wt := in_wt 567 (by decide +kernel) (by decide +kernel)
set_option maxRecDepth 100000 in
theorem mw_568 : (.code yX3_fewestDays prog_5_method_6_code 3 (Option.some Jvm.ClassFile.FieldType.int) : Cond) ∈ wt := in_wt 568 rfl rfl
theorem mw_569 : (.methodLink RX3 72 yX3_countWhatIsLeft : Cond) ∈ wt := in_wt 569 (by decide +kernel) (by decide +kernel)
theorem mw_571 : (.instanceMethod yX3_countWhatIsLeft : Cond) ∈ wt := in_wt 571 (by decide +kernel) (by decide +kernel)
set_option maxRecDepth 100000 in
theorem mw_572 : (.code yX3_countWhatIsLeft prog_5_method_7_code 2 (Option.none : Option Jvm.ClassFile.FieldType) : Cond) ∈ wt := in_wt 572 rfl rfl
theorem mw_573 : (.methodLink RX3 75 yX3_suffices : Cond) ∈ wt := in_wt 573 (by decide +kernel) (by decide +kernel)
theorem mw_575 : (.instanceMethod yX3_suffices : Cond) ∈ wt := in_wt 575 (by decide +kernel) (by decide +kernel)
set_option maxRecDepth 100000 in
theorem mw_576 : (.code yX3_suffices prog_5_method_8_code 8 (Option.some Jvm.ClassFile.FieldType.boolean) : Cond) ∈ wt := in_wt 576 rfl rfl
theorem mw_577 : (.methodLink RX3 79 yJ9_max_7cf53 : Cond) ∈ wt := in_wt 577 (by decide +kernel) (by decide +kernel)
theorem mw_578 : (.static yJ9_max_7cf53 : Cond) ∈ wt := in_wt 578 (by decide +kernel) (by decide +kernel)
set_option maxRecDepth 100000 in
theorem mw_579 : (.code yJ9_max_7cf53 prog_12_method_65_code 2 (Option.some Jvm.ClassFile.FieldType.int) : Cond) ∈ wt := in_wt 579 rfl rfl
theorem mw_580 : (.methodLink RL 86 yX7_wig : Cond) ∈ wt := in_wt 580 (by decide +kernel) (by decide +kernel)
theorem mw_581 : (.instanceMethod yX7_wig : Cond) ∈ wt := in_wt 581 (by decide +kernel) (by decide +kernel)
theorem mw_582 : (.selects RX7 yX7_wig yX7_wig : Cond) ∈ wt := in_wt 582 (by decide +kernel) (by decide +kernel)
set_option maxRecDepth 100000 in
theorem mw_583 : (.code yX7_wig prog_1_method_19_code 6 (Option.some Jvm.ClassFile.FieldType.int) : Cond) ∈ wt := in_wt 583 rfl rfl
theorem mw_584 : (.methodLink RX7 197 yX1_thoughtsIn : Cond) ∈ wt := in_wt 584 (by decide +kernel) (by decide +kernel)
theorem mw_585 : (.instanceMethod yX1_thoughtsIn : Cond) ∈ wt := in_wt 585 (by decide +kernel) (by decide +kernel)
theorem mw_586 : (.selects RX1 yX1_thoughtsIn yX1_thoughtsIn : Cond) ∈ wt := in_wt 586 (by decide +kernel) (by decide +kernel)
set_option maxRecDepth 100000 in
theorem mw_587 : (.code yX1_thoughtsIn prog_3_method_12_code 4 (Option.some Jvm.ClassFile.FieldType.int) : Cond) ∈ wt := in_wt 587 rfl rfl
theorem mw_588 : (.methodLink RX7 200 yJ6_bitCount_0f7a4 : Cond) ∈ wt := in_wt 588 (by decide +kernel) (by decide +kernel)
theorem mw_589 : (.static yJ6_bitCount_0f7a4 : Cond) ∈ wt := in_wt 589 (by decide +kernel) (by decide +kernel)
set_option maxRecDepth 100000 in
theorem mw_590 : (.code yJ6_bitCount_0f7a4 prog_11_method_49_code 1 (Option.some Jvm.ClassFile.FieldType.int) : Cond) ∈ wt := in_wt 590 rfl rfl
theorem mw_591 : (.constant RJ6 265 (1431655765 : Int32) : Cond) ∈ wt := in_wt 591 (by decide +kernel) (by decide +kernel)
theorem mw_592 : (.constant RJ6 266 (858993459 : Int32) : Cond) ∈ wt := in_wt 592 (by decide +kernel) (by decide +kernel)
theorem mw_593 : (.constant RJ6 267 (252645135 : Int32) : Cond) ∈ wt := in_wt 593 (by decide +kernel) (by decide +kernel)
theorem mw_594 : (.methodLink RX7 205 yX7_thoughtsOf : Cond) ∈ wt := in_wt 594 (by decide +kernel) (by decide +kernel)
theorem mw_596 : (.instanceMethod yX7_thoughtsOf : Cond) ∈ wt := in_wt 596 (by decide +kernel) (by decide +kernel)
set_option maxRecDepth 100000 in
theorem mw_597 : (.code yX7_thoughtsOf prog_1_method_41_code 4 (Option.some Jvm.ClassFile.FieldType.int) : Cond) ∈ wt := in_wt 597 rfl rfl
theorem mw_598 : (.methodLink RX7 277 yX7_has : Cond) ∈ wt := in_wt 598 (by decide +kernel) (by decide +kernel)
theorem mw_599 : (.static yX7_has : Cond) ∈ wt := in_wt 599 (by decide +kernel) (by decide +kernel)
set_option maxRecDepth 100000 in
theorem mw_600 : (.code yX7_has prog_1_method_35_code 2 (Option.some Jvm.ClassFile.FieldType.boolean) : Cond) ∈ wt := in_wt 600 rfl rfl
theorem mw_601 : (.methodLink RL 90 yX7_odds : Cond) ∈ wt := in_wt 601 (by decide +kernel) (by decide +kernel)
theorem mw_602 : (.instanceMethod yX7_odds : Cond) ∈ wt := in_wt 602 (by decide +kernel) (by decide +kernel)
theorem mw_603 : (.selects RX7 yX7_odds yX7_odds : Cond) ∈ wt := in_wt 603 (by decide +kernel) (by decide +kernel)
set_option maxRecDepth 100000 in
theorem mw_604 : (.code yX7_odds prog_1_method_20_code 8 (Option.some Jvm.ClassFile.FieldType.int) : Cond) ∈ wt := in_wt 604 rfl rfl
theorem mw_605 : (.methodLink RX7 208 yX7_choose : Cond) ∈ wt := in_wt 605 (by decide +kernel) (by decide +kernel)
theorem mw_606 : (.static yX7_choose : Cond) ∈ wt := in_wt 606 (by decide +kernel) (by decide +kernel)
set_option maxRecDepth 100000 in
theorem mw_607 : (.code yX7_choose prog_1_method_43_code 4 (Option.some Jvm.ClassFile.FieldType.int) : Cond) ∈ wt := in_wt 607 rfl rfl
theorem mw_608 : (.methodLink RX7 211 yX7_power : Cond) ∈ wt := in_wt 608 (by decide +kernel) (by decide +kernel)
theorem mw_609 : (.static yX7_power : Cond) ∈ wt := in_wt 609 (by decide +kernel) (by decide +kernel)
set_option maxRecDepth 100000 in
theorem mw_610 : (.code yX7_power prog_1_method_42_code 4 (Option.some Jvm.ClassFile.FieldType.int) : Cond) ∈ wt := in_wt 610 rfl rfl
theorem mw_611 : (.methodLink RX7 214 yX7_commonDivisor : Cond) ∈ wt := in_wt 611 (by decide +kernel) (by decide +kernel)
theorem mw_612 : (.static yX7_commonDivisor : Cond) ∈ wt := in_wt 612 (by decide +kernel) (by decide +kernel)
set_option maxRecDepth 100000 in
theorem mw_613 : (.code yX7_commonDivisor prog_1_method_44_code 6 (Option.some Jvm.ClassFile.FieldType.int) : Cond) ∈ wt := in_wt 613 rfl rfl
theorem mw_614 : (.methodLink RL 94 yX7_saw : Cond) ∈ wt := in_wt 614 (by decide +kernel) (by decide +kernel)
theorem mw_615 : (.instanceMethod yX7_saw : Cond) ∈ wt := in_wt 615 (by decide +kernel) (by decide +kernel)
theorem mw_616 : (.selects RX7 yX7_saw yX7_saw : Cond) ∈ wt := in_wt 616 (by decide +kernel) (by decide +kernel)
set_option maxRecDepth 100000 in
theorem mw_617 : (.code yX7_saw prog_1_method_21_code 2 (Option.some Jvm.ClassFile.FieldType.int) : Cond) ∈ wt := in_wt 617 rfl rfl
theorem mw_618 : (.methodLink RL 98 yX7_lock : Cond) ∈ wt := in_wt 618 (by decide +kernel) (by decide +kernel)
theorem mw_619 : (.instanceMethod yX7_lock : Cond) ∈ wt := in_wt 619 (by decide +kernel) (by decide +kernel)
theorem mw_620 : (.selects RX7 yX7_lock yX7_lock : Cond) ∈ wt := in_wt 620 (by decide +kernel) (by decide +kernel)
set_option maxRecDepth 100000 in
theorem mw_621 : (.code yX7_lock prog_1_method_22_code 2 (Option.some Jvm.ClassFile.FieldType.int) : Cond) ∈ wt := in_wt 621 rfl rfl
theorem mw_622 : (.methodLink RX7 223 yX7_whoseLock : Cond) ∈ wt := in_wt 622 (by decide +kernel) (by decide +kernel)
theorem mw_624 : (.instanceMethod yX7_whoseLock : Cond) ∈ wt := in_wt 624 (by decide +kernel) (by decide +kernel)
set_option maxRecDepth 100000 in
theorem mw_625 : (.code yX7_whoseLock prog_1_method_45_code 4 (Option.some Jvm.ClassFile.FieldType.int) : Cond) ∈ wt := in_wt 625 rfl rfl
theorem mw_626 : (.methodLink RX7 281 yX0_fitAt : Cond) ∈ wt := in_wt 626 (by decide +kernel) (by decide +kernel)
theorem mw_627 : (.instanceMethod yX0_fitAt : Cond) ∈ wt := in_wt 627 (by decide +kernel) (by decide +kernel)
theorem mw_628 : (.selects RX0 yX0_fitAt yX0_fitAt : Cond) ∈ wt := in_wt 628 (by decide +kernel) (by decide +kernel)
set_option maxRecDepth 100000 in
theorem mw_629 : (.code yX0_fitAt prog_2_method_3_code 5 (Option.some Jvm.ClassFile.FieldType.boolean) : Cond) ∈ wt := in_wt 629 rfl rfl
theorem mw_630 : (.methodLink RX0 33 yX1_layerAt : Cond) ∈ wt := in_wt 630 (by decide +kernel) (by decide +kernel)
theorem mw_631 : (.methodLink RX7 226 yX7_nextInLock : Cond) ∈ wt := in_wt 631 (by decide +kernel) (by decide +kernel)
theorem mw_633 : (.instanceMethod yX7_nextInLock : Cond) ∈ wt := in_wt 633 (by decide +kernel) (by decide +kernel)
set_option maxRecDepth 100000 in
theorem mw_634 : (.code yX7_nextInLock prog_1_method_46_code 4 (Option.some Jvm.ClassFile.FieldType.int) : Cond) ∈ wt := in_wt 634 rfl rfl
theorem mw_635 : (.methodLink RX7 285 yJ7_fill_53178 : Cond) ∈ wt := in_wt 635 (by decide +kernel) (by decide +kernel)
theorem mw_636 : (.methodLink RL 102 yX7_hears : Cond) ∈ wt := in_wt 636 (by decide +kernel) (by decide +kernel)
theorem mw_637 : (.instanceMethod yX7_hears : Cond) ∈ wt := in_wt 637 (by decide +kernel) (by decide +kernel)
theorem mw_638 : (.selects RX7 yX7_hears yX7_hears : Cond) ∈ wt := in_wt 638 (by decide +kernel) (by decide +kernel)
set_option maxRecDepth 100000 in
theorem mw_639 : (.code yX7_hears prog_1_method_23_code 3 (Option.some Jvm.ClassFile.FieldType.int) : Cond) ∈ wt := in_wt 639 rfl rfl
theorem mw_640 : (.methodLink RL 106 yX7_sets : Cond) ∈ wt := in_wt 640 (by decide +kernel) (by decide +kernel)
theorem mw_641 : (.instanceMethod yX7_sets : Cond) ∈ wt := in_wt 641 (by decide +kernel) (by decide +kernel)
theorem mw_642 : (.selects RX7 yX7_sets yX7_sets : Cond) ∈ wt := in_wt 642 (by decide +kernel) (by decide +kernel)
set_option maxRecDepth 100000 in
theorem mw_643 : (.code yX7_sets prog_1_method_24_code 8 (Option.some Jvm.ClassFile.FieldType.int) : Cond) ∈ wt := in_wt 643 rfl rfl
theorem mw_644 : (.methodLink RX7 238 yX7_shareOutHeard : Cond) ∈ wt := in_wt 644 (by decide +kernel) (by decide +kernel)
theorem mw_646 : (.instanceMethod yX7_shareOutHeard : Cond) ∈ wt := in_wt 646 (by decide +kernel) (by decide +kernel)
set_option maxRecDepth 100000 in
theorem mw_647 : (.code yX7_shareOutHeard prog_1_method_47_code 3 (Option.none : Option Jvm.ClassFile.FieldType) : Cond) ∈ wt := in_wt 647 rfl rfl
theorem mw_648 : (.methodLink RX7 241 yX7_allHeardIsSo : Cond) ∈ wt := in_wt 648 (by decide +kernel) (by decide +kernel)
theorem mw_650 : (.instanceMethod yX7_allHeardIsSo : Cond) ∈ wt := in_wt 650 (by decide +kernel) (by decide +kernel)
set_option maxRecDepth 100000 in
theorem mw_651 : (.code yX7_allHeardIsSo prog_1_method_48_code 5 (Option.some Jvm.ClassFile.FieldType.boolean) : Cond) ∈ wt := in_wt 651 rfl rfl
theorem mw_652 : (.methodLink RL 110 yX7_forget : Cond) ∈ wt := in_wt 652 (by decide +kernel) (by decide +kernel)
theorem mw_653 : (.instanceMethod yX7_forget : Cond) ∈ wt := in_wt 653 (by decide +kernel) (by decide +kernel)
theorem mw_654 : (.selects RX7 yX7_forget yX7_forget : Cond) ∈ wt := in_wt 654 (by decide +kernel) (by decide +kernel)
set_option maxRecDepth 100000 in
theorem mw_655 : (.code yX7_forget prog_1_method_25_code 2 (Option.some Jvm.ClassFile.FieldType.int) : Cond) ∈ wt := in_wt 655 rfl rfl
theorem mw_656 : (.methodLink RL 114 yX7_mark : Cond) ∈ wt := in_wt 656 (by decide +kernel) (by decide +kernel)
theorem mw_657 : (.instanceMethod yX7_mark : Cond) ∈ wt := in_wt 657 (by decide +kernel) (by decide +kernel)
theorem mw_658 : (.selects RX7 yX7_mark yX7_mark : Cond) ∈ wt := in_wt 658 (by decide +kernel) (by decide +kernel)
set_option maxRecDepth 100000 in
theorem mw_659 : (.code yX7_mark prog_1_method_26_code 3 (Option.some Jvm.ClassFile.FieldType.int) : Cond) ∈ wt := in_wt 659 rfl rfl
theorem mw_660 : (.constant RX7 244 (-1000000 : Int32) : Cond) ∈ wt := in_wt 660 (by decide +kernel) (by decide +kernel)
theorem mw_661 : (.methodLink RX7 245 yX7_markOne : Cond) ∈ wt := in_wt 661 (by decide +kernel) (by decide +kernel)
theorem mw_663 : (.instanceMethod yX7_markOne : Cond) ∈ wt := in_wt 663 (by decide +kernel) (by decide +kernel)
set_option maxRecDepth 100000 in
theorem mw_664 : (.code yX7_markOne prog_1_method_49_code 2 (Option.some Jvm.ClassFile.FieldType.int) : Cond) ∈ wt := in_wt 664 rfl rfl
theorem mw_665 : (.methodLink RX7 248 yX7_markPoet : Cond) ∈ wt := in_wt 665 (by decide +kernel) (by decide +kernel)
theorem mw_667 : (.instanceMethod yX7_markPoet : Cond) ∈ wt := in_wt 667 (by decide +kernel) (by decide +kernel)
set_option maxRecDepth 100000 in
theorem mw_668 : (.code yX7_markPoet prog_1_method_50_code 2 (Option.some Jvm.ClassFile.FieldType.int) : Cond) ∈ wt := in_wt 668 rfl rfl
theorem mw_669 : (.constantLong RX7 291 (10 : Int64) : Cond) ∈ wt := in_wt 669 (by decide +kernel) (by decide +kernel)
theorem mw_670 : (.methodLink RX7 293 yX1_rootOf : Cond) ∈ wt := in_wt 670 (by decide +kernel) (by decide +kernel)
theorem mw_671 : (.instanceMethod yX1_rootOf : Cond) ∈ wt := in_wt 671 (by decide +kernel) (by decide +kernel)
theorem mw_672 : (.selects RX1 yX1_rootOf yX1_rootOf : Cond) ∈ wt := in_wt 672 (by decide +kernel) (by decide +kernel)
set_option maxRecDepth 100000 in
theorem mw_673 : (.code yX1_rootOf prog_3_method_13_code 2 (Option.some Jvm.ClassFile.FieldType.int) : Cond) ∈ wt := in_wt 673 rfl rfl
theorem mw_674 : (.methodLink RX7 251 yX7_markBride : Cond) ∈ wt := in_wt 674 (by decide +kernel) (by decide +kernel)
theorem mw_676 : (.instanceMethod yX7_markBride : Cond) ∈ wt := in_wt 676 (by decide +kernel) (by decide +kernel)
set_option maxRecDepth 100000 in
theorem mw_677 : (.code yX7_markBride prog_1_method_51_code 2 (Option.some Jvm.ClassFile.FieldType.int) : Cond) ∈ wt := in_wt 677 rfl rfl
theorem mw_678 : (.constantLong RX7 296 (100 : Int64) : Cond) ∈ wt := in_wt 678 (by decide +kernel) (by decide +kernel)
theorem mw_679 : (.methodLink RX7 254 yX7_markWig : Cond) ∈ wt := in_wt 679 (by decide +kernel) (by decide +kernel)
theorem mw_681 : (.instanceMethod yX7_markWig : Cond) ∈ wt := in_wt 681 (by decide +kernel) (by decide +kernel)
set_option maxRecDepth 100000 in
theorem mw_682 : (.code yX7_markWig prog_1_method_52_code 2 (Option.some Jvm.ClassFile.FieldType.int) : Cond) ∈ wt := in_wt 682 rfl rfl
theorem mw_683 : (.constantLong RX7 298 (1000 : Int64) : Cond) ∈ wt := in_wt 683 (by decide +kernel) (by decide +kernel)
theorem mw_684 : (.methodLink RX7 257 yX7_markNun : Cond) ∈ wt := in_wt 684 (by decide +kernel) (by decide +kernel)
theorem mw_686 : (.instanceMethod yX7_markNun : Cond) ∈ wt := in_wt 686 (by decide +kernel) (by decide +kernel)
set_option maxRecDepth 100000 in
theorem mw_687 : (.code yX7_markNun prog_1_method_53_code 2 (Option.some Jvm.ClassFile.FieldType.int) : Cond) ∈ wt := in_wt 687 rfl rfl
theorem mw_688 : (.constantLong RX7 300 (10000 : Int64) : Cond) ∈ wt := in_wt 688 (by decide +kernel) (by decide +kernel)
theorem mw_689 : (.methodLink RX7 260 yX7_markBald : Cond) ∈ wt := in_wt 689 (by decide +kernel) (by decide +kernel)
theorem mw_691 : (.instanceMethod yX7_markBald : Cond) ∈ wt := in_wt 691 (by decide +kernel) (by decide +kernel)
set_option maxRecDepth 100000 in
theorem mw_692 : (.code yX7_markBald prog_1_method_54_code 2 (Option.some Jvm.ClassFile.FieldType.int) : Cond) ∈ wt := in_wt 692 rfl rfl
theorem mw_693 : (.constantLong RX7 302 (100000 : Int64) : Cond) ∈ wt := in_wt 693 (by decide +kernel) (by decide +kernel)
theorem mw_694 : (.methodLink RL 118 yX7_keep : Cond) ∈ wt := in_wt 694 (by decide +kernel) (by decide +kernel)
theorem mw_695 : (.instanceMethod yX7_keep : Cond) ∈ wt := in_wt 695 (by decide +kernel) (by decide +kernel)
theorem mw_696 : (.selects RX7 yX7_keep yX7_keep : Cond) ∈ wt := in_wt 696 (by decide +kernel) (by decide +kernel)
set_option maxRecDepth 100000 in
theorem mw_697 : (.code yX7_keep prog_1_method_27_code 2 (Option.some Jvm.ClassFile.FieldType.int) : Cond) ∈ wt := in_wt 697 rfl rfl
theorem mw_698 : (.methodLink RX7 263 yX5_copyFrom : Cond) ∈ wt := in_wt 698 (by decide +kernel) (by decide +kernel)
theorem mw_699 : (.instanceMethod yX5_copyFrom : Cond) ∈ wt := in_wt 699 (by decide +kernel) (by decide +kernel)
theorem mw_700 : (.selects RX5 yX5_copyFrom yX5_copyFrom : Cond) ∈ wt := in_wt 700 (by decide +kernel) (by decide +kernel)
set_option maxRecDepth 100000 in
theorem mw_701 : (.code yX5_copyFrom prog_7_method_6_code 3 (Option.none : Option Jvm.ClassFile.FieldType) : Cond) ∈ wt := in_wt 701 rfl rfl
theorem mw_702 : (.methodLink RL 122 yX7_back : Cond) ∈ wt := in_wt 702 (by decide +kernel) (by decide +kernel)
theorem mw_703 : (.instanceMethod yX7_back : Cond) ∈ wt := in_wt 703 (by decide +kernel) (by decide +kernel)
theorem mw_704 : (.selects RX7 yX7_back yX7_back : Cond) ∈ wt := in_wt 704 (by decide +kernel) (by decide +kernel)
set_option maxRecDepth 100000 in
theorem mw_705 : (.code yX7_back prog_1_method_28_code 2 (Option.some Jvm.ClassFile.FieldType.int) : Cond) ∈ wt := in_wt 705 rfl rfl
theorem mw_706 : (.methodLink RL 126 yX7_count : Cond) ∈ wt := in_wt 706 (by decide +kernel) (by decide +kernel)
theorem mw_707 : (.instanceMethod yX7_count : Cond) ∈ wt := in_wt 707 (by decide +kernel) (by decide +kernel)
theorem mw_708 : (.selects RX7 yX7_count yX7_count : Cond) ∈ wt := in_wt 708 (by decide +kernel) (by decide +kernel)
set_option maxRecDepth 100000 in
theorem mw_709 : (.code yX7_count prog_1_method_29_code 2 (Option.some Jvm.ClassFile.FieldType.int) : Cond) ∈ wt := in_wt 709 rfl rfl
theorem mw_710 : (.methodLink RL 130 yX7_trace : Cond) ∈ wt := in_wt 710 (by decide +kernel) (by decide +kernel)
theorem mw_711 : (.instanceMethod yX7_trace : Cond) ∈ wt := in_wt 711 (by decide +kernel) (by decide +kernel)
theorem mw_712 : (.selects RX7 yX7_trace yX7_trace : Cond) ∈ wt := in_wt 712 (by decide +kernel) (by decide +kernel)
set_option maxRecDepth 100000 in
theorem mw_713 : (.code yX7_trace prog_1_method_30_code 1 (Option.some Jvm.ClassFile.FieldType.long) : Cond) ∈ wt := in_wt 713 rfl rfl
theorem mw_714 : (.classLink RL 10 RX8 : Cond) ∈ wt := in_wt 714 (by decide +kernel) (by decide +kernel)
theorem mw_715 : (.instantiable RX8 31 : Cond) ∈ wt := in_wt 715 (by decide +kernel) (by decide +kernel)
theorem mw_716 : (.methodLink RL 12 yX8_init : Cond) ∈ wt := in_wt 716 (by decide +kernel) (by decide +kernel)
theorem mw_717 : (.instanceMethod yX8_init : Cond) ∈ wt := in_wt 717 (by decide +kernel) (by decide +kernel)
set_option maxRecDepth 100000 in
theorem mw_718 : (.code yX8_init prog_10_method_1_code 1 (Option.none : Option Jvm.ClassFile.FieldType) : Cond) ∈ wt := in_wt 718 rfl rfl
theorem mw_719 : (.methodLink RX8 1 Lib.objectInit : Cond) ∈ wt := in_wt 719 (by decide +kernel) (by decide +kernel)
theorem mw_720 : (.fieldLink RX8 57 "BarberJarsModel" "people" "I" : Cond) ∈ wt := in_wt 720 (by decide +kernel) (by decide +kernel)
theorem mw_721 : (.fieldLink RX8 7 "BarberJarsModel" "secrets" "[I" : Cond) ∈ wt := in_wt 721 (by decide +kernel) (by decide +kernel)
theorem mw_722 : (.fieldLink RX8 13 "BarberJarsModel" "weekMany" "[I" : Cond) ∈ wt := in_wt 722 (by decide +kernel) (by decide +kernel)
theorem mw_723 : (.fieldLink RX8 16 "BarberJarsModel" "weeks" "[I" : Cond) ∈ wt := in_wt 723 (by decide +kernel) (by decide +kernel)
theorem mw_724 : (.fieldLink RX8 19 "BarberJarsModel" "longest" "I" : Cond) ∈ wt := in_wt 724 (by decide +kernel) (by decide +kernel)
theorem mw_725 : (.fieldLink RX8 23 "BarberJarsModel" "st" "[I" : Cond) ∈ wt := in_wt 725 (by decide +kernel) (by decide +kernel)
theorem mw_726 : (.fieldLink RX8 26 "BarberJarsModel" "images" "[I" : Cond) ∈ wt := in_wt 726 (by decide +kernel) (by decide +kernel)
theorem mw_727 : (.fieldLink RX8 29 "BarberJarsModel" "isKept" "[Z" : Cond) ∈ wt := in_wt 727 (by decide +kernel) (by decide +kernel)
theorem mw_728 : (.fieldLink RX8 125 "BarberJarsModel" "seenMany" "I" : Cond) ∈ wt := in_wt 728 (by decide +kernel) (by decide +kernel)
theorem mw_729 : (.fieldLink RX8 33 "BarberJarsModel" "seen" "[I" : Cond) ∈ wt := in_wt 729 (by decide +kernel) (by decide +kernel)
theorem mw_730 : (.fieldLink RX8 128 "BarberJarsModel" "heardMany" "I" : Cond) ∈ wt := in_wt 730 (by decide +kernel) (by decide +kernel)
theorem mw_731 : (.fieldLink RX8 36 "BarberJarsModel" "heard" "[I" : Cond) ∈ wt := in_wt 731 (by decide +kernel) (by decide +kernel)
theorem mw_732 : (.fieldLink RX8 199 "BarberJarsModel" "trace" "J" : Cond) ∈ wt := in_wt 732 (by decide +kernel) (by decide +kernel)
theorem mw_733 : (.fieldLink RX8 39 "BarberJarsModel" "text" "[I" : Cond) ∈ wt := in_wt 733 (by decide +kernel) (by decide +kernel)
theorem mw_734 : (.fieldLink RX8 64 "BarberJarsModel" "texted" "I" : Cond) ∈ wt := in_wt 734 (by decide +kernel) (by decide +kernel)
theorem mw_735 : (.fieldLink RX8 67 "BarberJarsModel" "cursor" "I" : Cond) ∈ wt := in_wt 735 (by decide +kernel) (by decide +kernel)
theorem mw_736 : (.fieldLink RX8 74 "BarberJarsModel" "start" "I" : Cond) ∈ wt := in_wt 736 (by decide +kernel) (by decide +kernel)
theorem mw_737 : (.fieldLink RX8 80 "BarberJarsModel" "token" "I" : Cond) ∈ wt := in_wt 737 (by decide +kernel) (by decide +kernel)
theorem mw_738 : (.fieldLink RX8 77 "BarberJarsModel" "number" "I" : Cond) ∈ wt := in_wt 738 (by decide +kernel) (by decide +kernel)
theorem mw_739 : (.fieldLink RX8 90 "BarberJarsModel" "isWrong" "Z" : Cond) ∈ wt := in_wt 739 (by decide +kernel) (by decide +kernel)
theorem mw_740 : (.fieldLink RX8 116 "BarberJarsModel" "items" "I" : Cond) ∈ wt := in_wt 740 (by decide +kernel) (by decide +kernel)
theorem mw_741 : (.fieldLink RX8 97 "BarberJarsModel" "saidPeople" "I" : Cond) ∈ wt := in_wt 741 (by decide +kernel) (by decide +kernel)
theorem mw_742 : (.fieldLink RX8 42 "BarberJarsModel" "saidSecret" "[I" : Cond) ∈ wt := in_wt 742 (by decide +kernel) (by decide +kernel)
theorem mw_743 : (.fieldLink RX8 45 "BarberJarsModel" "saidMany" "[I" : Cond) ∈ wt := in_wt 743 (by decide +kernel) (by decide +kernel)
theorem mw_744 : (.fieldLink RX8 48 "BarberJarsModel" "saidWeek" "[I" : Cond) ∈ wt := in_wt 744 (by decide +kernel) (by decide +kernel)
theorem mw_745 : (.fieldLink RX8 104 "BarberJarsModel" "saidLongest" "I" : Cond) ∈ wt := in_wt 745 (by decide +kernel) (by decide +kernel)
theorem mw_746 : (.fieldLink RX8 107 "BarberJarsModel" "saidJar" "I" : Cond) ∈ wt := in_wt 746 (by decide +kernel) (by decide +kernel)
theorem mw_747 : (.fieldLink RX8 51 "BarberJarsModel" "tried" "[I" : Cond) ∈ wt := in_wt 747 (by decide +kernel) (by decide +kernel)
theorem mw_748 : (.fieldLink RX8 163 "BarberJarsModel" "begins" "I" : Cond) ∈ wt := in_wt 748 (by decide +kernel) (by decide +kernel)
theorem mw_749 : (.fieldLink RX8 166 "BarberJarsModel" "ends" "I" : Cond) ∈ wt := in_wt 749 (by decide +kernel) (by decide +kernel)
theorem mw_750 : (.fieldLink RX8 54 "BarberJarsModel" "nextOnes" "[I" : Cond) ∈ wt := in_wt 750 (by decide +kernel) (by decide +kernel)
theorem mw_814 : (.methodLink RL 17 yX8_type : Cond) ∈ wt := in_wt 814 (by decide +kernel) (by decide +kernel)
theorem mw_815 : (.instanceMethod yX8_type : Cond) ∈ wt := in_wt 815 (by decide +kernel) (by decide +kernel)
theorem mw_816 : (.selects RX8 yX8_type yX8_type : Cond) ∈ wt := in_wt 816 (by decide +kernel) (by decide +kernel)
set_option maxRecDepth 100000 in
theorem mw_817 : (.code yX8_type prog_10_method_9_code 2 (Option.some Jvm.ClassFile.FieldType.int) : Cond) ∈ wt := in_wt 817 rfl rfl
theorem mw_818 : (.methodLink RX8 60 yX8_in : Cond) ∈ wt := in_wt 818 (by decide +kernel) (by decide +kernel)
theorem mw_819 : (.static yX8_in : Cond) ∈ wt := in_wt 819 (by decide +kernel) (by decide +kernel)
set_option maxRecDepth 100000 in
theorem mw_820 : (.code yX8_in prog_10_method_3_code 3 (Option.some Jvm.ClassFile.FieldType.boolean) : Cond) ∈ wt := in_wt 820 rfl rfl
theorem mw_821 : (.methodLink RL 22 yX8_clear : Cond) ∈ wt := in_wt 821 (by decide +kernel) (by decide +kernel)
theorem mw_822 : (.instanceMethod yX8_clear : Cond) ∈ wt := in_wt 822 (by decide +kernel) (by decide +kernel)
theorem mw_823 : (.selects RX8 yX8_clear yX8_clear : Cond) ∈ wt := in_wt 823 (by decide +kernel) (by decide +kernel)
set_option maxRecDepth 100000 in
theorem mw_824 : (.code yX8_clear prog_10_method_10_code 2 (Option.some Jvm.ClassFile.FieldType.int) : Cond) ∈ wt := in_wt 824 rfl rfl
theorem mw_825 : (.methodLink RL 26 yX8_shop : Cond) ∈ wt := in_wt 825 (by decide +kernel) (by decide +kernel)
theorem mw_826 : (.instanceMethod yX8_shop : Cond) ∈ wt := in_wt 826 (by decide +kernel) (by decide +kernel)
theorem mw_827 : (.selects RX8 yX8_shop yX8_shop : Cond) ∈ wt := in_wt 827 (by decide +kernel) (by decide +kernel)
set_option maxRecDepth 100000 in
theorem mw_828 : (.code yX8_shop prog_10_method_19_code 1 (Option.some Jvm.ClassFile.FieldType.int) : Cond) ∈ wt := in_wt 828 rfl rfl
theorem mw_829 : (.methodLink RX8 94 yX8_next : Cond) ∈ wt := in_wt 829 (by decide +kernel) (by decide +kernel)
theorem mw_831 : (.instanceMethod yX8_next : Cond) ∈ wt := in_wt 831 (by decide +kernel) (by decide +kernel)
set_option maxRecDepth 100000 in
theorem mw_832 : (.code yX8_next prog_10_method_14_code 2 (Option.none : Option Jvm.ClassFile.FieldType) : Cond) ∈ wt := in_wt 832 rfl rfl
theorem mw_833 : (.methodLink RX8 70 yX8_letterAt : Cond) ∈ wt := in_wt 833 (by decide +kernel) (by decide +kernel)
theorem mw_835 : (.instanceMethod yX8_letterAt : Cond) ∈ wt := in_wt 835 (by decide +kernel) (by decide +kernel)
set_option maxRecDepth 100000 in
theorem mw_836 : (.code yX8_letterAt prog_10_method_11_code 2 (Option.some Jvm.ClassFile.FieldType.int) : Cond) ∈ wt := in_wt 836 rfl rfl
theorem mw_837 : (.methodLink RX8 83 yX8_isFigure : Cond) ∈ wt := in_wt 837 (by decide +kernel) (by decide +kernel)
theorem mw_838 : (.static yX8_isFigure : Cond) ∈ wt := in_wt 838 (by decide +kernel) (by decide +kernel)
set_option maxRecDepth 100000 in
theorem mw_839 : (.code yX8_isFigure prog_10_method_12_code 1 (Option.some Jvm.ClassFile.FieldType.boolean) : Cond) ∈ wt := in_wt 839 rfl rfl
theorem mw_840 : (.methodLink RX8 87 yX8_isLetter : Cond) ∈ wt := in_wt 840 (by decide +kernel) (by decide +kernel)
theorem mw_841 : (.static yX8_isLetter : Cond) ∈ wt := in_wt 841 (by decide +kernel) (by decide +kernel)
set_option maxRecDepth 100000 in
theorem mw_842 : (.code yX8_isLetter prog_10_method_13_code 1 (Option.some Jvm.ClassFile.FieldType.boolean) : Cond) ∈ wt := in_wt 842 rfl rfl
theorem mw_843 : (.methodLink RX8 119 yX8_readItem : Cond) ∈ wt := in_wt 843 (by decide +kernel) (by decide +kernel)
theorem mw_845 : (.instanceMethod yX8_readItem : Cond) ∈ wt := in_wt 845 (by decide +kernel) (by decide +kernel)
set_option maxRecDepth 100000 in
theorem mw_846 : (.code yX8_readItem prog_10_method_18_code 2 (Option.none : Option Jvm.ClassFile.FieldType) : Cond) ∈ wt := in_wt 846 rfl rfl
theorem mw_847 : (.methodLink RX8 110 yX8_mayBegin : Cond) ∈ wt := in_wt 847 (by decide +kernel) (by decide +kernel)
theorem mw_849 : (.instanceMethod yX8_mayBegin : Cond) ∈ wt := in_wt 849 (by decide +kernel) (by decide +kernel)
set_option maxRecDepth 100000 in
theorem mw_850 : (.code yX8_mayBegin prog_10_method_17_code 2 (Option.some Jvm.ClassFile.FieldType.boolean) : Cond) ∈ wt := in_wt 850 rfl rfl
theorem mw_851 : (.methodLink RX8 113 yX8_readOne : Cond) ∈ wt := in_wt 851 (by decide +kernel) (by decide +kernel)
theorem mw_853 : (.instanceMethod yX8_readOne : Cond) ∈ wt := in_wt 853 (by decide +kernel) (by decide +kernel)
set_option maxRecDepth 100000 in
theorem mw_854 : (.code yX8_readOne prog_10_method_16_code 3 (Option.none : Option Jvm.ClassFile.FieldType) : Cond) ∈ wt := in_wt 854 rfl rfl
theorem mw_855 : (.methodLink RX8 100 yX8_takesNumber : Cond) ∈ wt := in_wt 855 (by decide +kernel) (by decide +kernel)
theorem mw_857 : (.instanceMethod yX8_takesNumber : Cond) ∈ wt := in_wt 857 (by decide +kernel) (by decide +kernel)
set_option maxRecDepth 100000 in
theorem mw_858 : (.code yX8_takesNumber prog_10_method_15_code 5 (Option.some Jvm.ClassFile.FieldType.int) : Cond) ∈ wt := in_wt 858 rfl rfl
theorem mw_859 : (.methodLink RX8 122 yX8_settles : Cond) ∈ wt := in_wt 859 (by decide +kernel) (by decide +kernel)
theorem mw_861 : (.instanceMethod yX8_settles : Cond) ∈ wt := in_wt 861 (by decide +kernel) (by decide +kernel)
set_option maxRecDepth 100000 in
theorem mw_862 : (.code yX8_settles prog_10_method_20_code 2 (Option.none : Option Jvm.ClassFile.FieldType) : Cond) ∈ wt := in_wt 862 rfl rfl
theorem mw_863 : (.methodLink RL 31 yX8_one : Cond) ∈ wt := in_wt 863 (by decide +kernel) (by decide +kernel)
theorem mw_864 : (.instanceMethod yX8_one : Cond) ∈ wt := in_wt 864 (by decide +kernel) (by decide +kernel)
theorem mw_865 : (.selects RX8 yX8_one yX8_one : Cond) ∈ wt := in_wt 865 (by decide +kernel) (by decide +kernel)
set_option maxRecDepth 100000 in
theorem mw_866 : (.code yX8_one prog_10_method_24_code 3 (Option.some Jvm.ClassFile.FieldType.int) : Cond) ∈ wt := in_wt 866 rfl rfl
theorem mw_867 : (.methodLink RX8 134 yX8_isOne : Cond) ∈ wt := in_wt 867 (by decide +kernel) (by decide +kernel)
theorem mw_869 : (.instanceMethod yX8_isOne : Cond) ∈ wt := in_wt 869 (by decide +kernel) (by decide +kernel)
set_option maxRecDepth 100000 in
theorem mw_870 : (.code yX8_isOne prog_10_method_6_code 2 (Option.some Jvm.ClassFile.FieldType.boolean) : Cond) ∈ wt := in_wt 870 rfl rfl
theorem mw_871 : (.methodLink RX8 137 yX8_layersOf : Cond) ∈ wt := in_wt 871 (by decide +kernel) (by decide +kernel)
theorem mw_873 : (.instanceMethod yX8_layersOf : Cond) ∈ wt := in_wt 873 (by decide +kernel) (by decide +kernel)
set_option maxRecDepth 100000 in
theorem mw_874 : (.code yX8_layersOf prog_10_method_22_code 5 (Option.some Jvm.ClassFile.FieldType.int) : Cond) ∈ wt := in_wt 874 rfl rfl
theorem mw_875 : (.methodLink RX8 131 yX8_layerOf : Cond) ∈ wt := in_wt 875 (by decide +kernel) (by decide +kernel)
theorem mw_877 : (.instanceMethod yX8_layerOf : Cond) ∈ wt := in_wt 877 (by decide +kernel) (by decide +kernel)
set_option maxRecDepth 100000 in
theorem mw_878 : (.code yX8_layerOf prog_10_method_21_code 3 (Option.some Jvm.ClassFile.FieldType.int) : Cond) ∈ wt := in_wt 878 rfl rfl
theorem mw_879 : (.methodLink RL 35 yX8_week : Cond) ∈ wt := in_wt 879 (by decide +kernel) (by decide +kernel)
theorem mw_880 : (.instanceMethod yX8_week : Cond) ∈ wt := in_wt 880 (by decide +kernel) (by decide +kernel)
theorem mw_881 : (.selects RX8 yX8_week yX8_week : Cond) ∈ wt := in_wt 881 (by decide +kernel) (by decide +kernel)
set_option maxRecDepth 100000 in
theorem mw_882 : (.code yX8_week prog_10_method_25_code 3 (Option.some Jvm.ClassFile.FieldType.int) : Cond) ∈ wt := in_wt 882 rfl rfl
theorem mw_883 : (.methodLink RL 39 yX8_layer : Cond) ∈ wt := in_wt 883 (by decide +kernel) (by decide +kernel)
theorem mw_884 : (.instanceMethod yX8_layer : Cond) ∈ wt := in_wt 884 (by decide +kernel) (by decide +kernel)
theorem mw_885 : (.selects RX8 yX8_layer yX8_layer : Cond) ∈ wt := in_wt 885 (by decide +kernel) (by decide +kernel)
set_option maxRecDepth 100000 in
theorem mw_886 : (.code yX8_layer prog_10_method_26_code 3 (Option.some Jvm.ClassFile.FieldType.int) : Cond) ∈ wt := in_wt 886 rfl rfl
theorem mw_887 : (.methodLink RL 43 yX8_jar : Cond) ∈ wt := in_wt 887 (by decide +kernel) (by decide +kernel)
theorem mw_888 : (.instanceMethod yX8_jar : Cond) ∈ wt := in_wt 888 (by decide +kernel) (by decide +kernel)
theorem mw_889 : (.selects RX8 yX8_jar yX8_jar : Cond) ∈ wt := in_wt 889 (by decide +kernel) (by decide +kernel)
set_option maxRecDepth 100000 in
theorem mw_890 : (.code yX8_jar prog_10_method_27_code 3 (Option.some Jvm.ClassFile.FieldType.int) : Cond) ∈ wt := in_wt 890 rfl rfl
theorem mw_891 : (.methodLink RX8 140 yX8_isJar : Cond) ∈ wt := in_wt 891 (by decide +kernel) (by decide +kernel)
theorem mw_892 : (.static yX8_isJar : Cond) ∈ wt := in_wt 892 (by decide +kernel) (by decide +kernel)
set_option maxRecDepth 100000 in
theorem mw_893 : (.code yX8_isJar prog_10_method_8_code 1 (Option.some Jvm.ClassFile.FieldType.boolean) : Cond) ∈ wt := in_wt 893 rfl rfl
theorem mw_894 : (.methodLink RX8 143 yX8_isThought : Cond) ∈ wt := in_wt 894 (by decide +kernel) (by decide +kernel)
theorem mw_895 : (.static yX8_isThought : Cond) ∈ wt := in_wt 895 (by decide +kernel) (by decide +kernel)
set_option maxRecDepth 100000 in
theorem mw_896 : (.code yX8_isThought prog_10_method_7_code 1 (Option.some Jvm.ClassFile.FieldType.boolean) : Cond) ∈ wt := in_wt 896 rfl rfl
theorem mw_897 : (.methodLink RL 47 yX8_days : Cond) ∈ wt := in_wt 897 (by decide +kernel) (by decide +kernel)
theorem mw_898 : (.instanceMethod yX8_days : Cond) ∈ wt := in_wt 898 (by decide +kernel) (by decide +kernel)
theorem mw_899 : (.selects RX8 yX8_days yX8_days : Cond) ∈ wt := in_wt 899 (by decide +kernel) (by decide +kernel)
set_option maxRecDepth 100000 in
theorem mw_900 : (.code yX8_days prog_10_method_32_code 4 (Option.some Jvm.ClassFile.FieldType.int) : Cond) ∈ wt := in_wt 900 rfl rfl
theorem mw_901 : (.methodLink RX8 153 yX8_remembers : Cond) ∈ wt := in_wt 901 (by decide +kernel) (by decide +kernel)
theorem mw_903 : (.instanceMethod yX8_remembers : Cond) ∈ wt := in_wt 903 (by decide +kernel) (by decide +kernel)
set_option maxRecDepth 100000 in
theorem mw_904 : (.code yX8_remembers prog_10_method_28_code 3 (Option.none : Option Jvm.ClassFile.FieldType) : Cond) ∈ wt := in_wt 904 rfl rfl
theorem mw_905 : (.methodLink RX8 156 yX8_grows : Cond) ∈ wt := in_wt 905 (by decide +kernel) (by decide +kernel)
theorem mw_907 : (.instanceMethod yX8_grows : Cond) ∈ wt := in_wt 907 (by decide +kernel) (by decide +kernel)
set_option maxRecDepth 100000 in
theorem mw_908 : (.code yX8_grows prog_10_method_31_code 3 (Option.none : Option Jvm.ClassFile.FieldType) : Cond) ∈ wt := in_wt 908 rfl rfl
theorem mw_909 : (.methodLink RX8 146 yX8_thinks : Cond) ∈ wt := in_wt 909 (by decide +kernel) (by decide +kernel)
theorem mw_911 : (.instanceMethod yX8_thinks : Cond) ∈ wt := in_wt 911 (by decide +kernel) (by decide +kernel)
set_option maxRecDepth 100000 in
theorem mw_912 : (.code yX8_thinks prog_10_method_29_code 3 (Option.some Jvm.ClassFile.FieldType.int) : Cond) ∈ wt := in_wt 912 rfl rfl
theorem mw_913 : (.methodLink RX8 149 yX8_loses : Cond) ∈ wt := in_wt 913 (by decide +kernel) (by decide +kernel)
theorem mw_915 : (.instanceMethod yX8_loses : Cond) ∈ wt := in_wt 915 (by decide +kernel) (by decide +kernel)
set_option maxRecDepth 100000 in
theorem mw_916 : (.code yX8_loses prog_10_method_30_code 4 (Option.none : Option Jvm.ClassFile.FieldType) : Cond) ∈ wt := in_wt 916 rfl rfl
theorem mw_917 : (.methodLink RL 51 yX8_minds : Cond) ∈ wt := in_wt 917 (by decide +kernel) (by decide +kernel)
end
section
theorem mw_918 : (.instanceMethod yX8_minds : Cond) ∈ wt := in_wt 918 (by decide +kernel) (by decide +kernel)
theorem mw_919 : (.selects RX8 yX8_minds yX8_minds : Cond) ∈ wt := in_wt 919 (by decide +kernel) (by decide +kernel)
set_option maxRecDepth 100000 in
theorem mw_920 : (.code yX8_minds prog_10_method_33_code 4 (Option.some Jvm.ClassFile.FieldType.int) : Cond) ∈ wt := in_wt 920 rfl rfl
theorem mw_921 : (.methodLink RL 55 yX8_cuts : Cond) ∈ wt := in_wt 921 (by decide +kernel) (by decide +kernel)
theorem mw_922 : (.instanceMethod yX8_cuts : Cond) ∈ wt := in_wt 922 (by decide +kernel) (by decide +kernel)
theorem mw_923 : (.selects RX8 yX8_cuts yX8_cuts : Cond) ∈ wt := in_wt 923 (by decide +kernel) (by decide +kernel)
set_option maxRecDepth 100000 in
theorem mw_924 : (.code yX8_cuts prog_10_method_34_code 5 (Option.some Jvm.ClassFile.FieldType.int) : Cond) ∈ wt := in_wt 924 rfl rfl
theorem mw_925 : (.methodLink RL 59 yX8_changes : Cond) ∈ wt := in_wt 925 (by decide +kernel) (by decide +kernel)
theorem mw_926 : (.instanceMethod yX8_changes : Cond) ∈ wt := in_wt 926 (by decide +kernel) (by decide +kernel)
theorem mw_927 : (.selects RX8 yX8_changes yX8_changes : Cond) ∈ wt := in_wt 927 (by decide +kernel) (by decide +kernel)
set_option maxRecDepth 100000 in
theorem mw_928 : (.code yX8_changes prog_10_method_35_code 3 (Option.some Jvm.ClassFile.FieldType.int) : Cond) ∈ wt := in_wt 928 rfl rfl
theorem mw_929 : (.methodLink RL 63 yX8_empties : Cond) ∈ wt := in_wt 929 (by decide +kernel) (by decide +kernel)
theorem mw_930 : (.instanceMethod yX8_empties : Cond) ∈ wt := in_wt 930 (by decide +kernel) (by decide +kernel)
theorem mw_931 : (.selects RX8 yX8_empties yX8_empties : Cond) ∈ wt := in_wt 931 (by decide +kernel) (by decide +kernel)
set_option maxRecDepth 100000 in
theorem mw_932 : (.code yX8_empties prog_10_method_36_code 4 (Option.some Jvm.ClassFile.FieldType.int) : Cond) ∈ wt := in_wt 932 rfl rfl
theorem mw_933 : (.methodLink RX8 160 yX8_inJar : Cond) ∈ wt := in_wt 933 (by decide +kernel) (by decide +kernel)
theorem mw_935 : (.instanceMethod yX8_inJar : Cond) ∈ wt := in_wt 935 (by decide +kernel) (by decide +kernel)
set_option maxRecDepth 100000 in
theorem mw_936 : (.code yX8_inJar prog_10_method_23_code 4 (Option.some Jvm.ClassFile.FieldType.int) : Cond) ∈ wt := in_wt 936 rfl rfl
theorem mw_937 : (.methodLink RL 67 yX8_undo : Cond) ∈ wt := in_wt 937 (by decide +kernel) (by decide +kernel)
theorem mw_938 : (.instanceMethod yX8_undo : Cond) ∈ wt := in_wt 938 (by decide +kernel) (by decide +kernel)
theorem mw_939 : (.selects RX8 yX8_undo yX8_undo : Cond) ∈ wt := in_wt 939 (by decide +kernel) (by decide +kernel)
set_option maxRecDepth 100000 in
theorem mw_940 : (.code yX8_undo prog_10_method_37_code 3 (Option.some Jvm.ClassFile.FieldType.int) : Cond) ∈ wt := in_wt 940 rfl rfl
theorem mw_941 : (.methodLink RL 71 yX8_now : Cond) ∈ wt := in_wt 941 (by decide +kernel) (by decide +kernel)
theorem mw_942 : (.instanceMethod yX8_now : Cond) ∈ wt := in_wt 942 (by decide +kernel) (by decide +kernel)
theorem mw_943 : (.selects RX8 yX8_now yX8_now : Cond) ∈ wt := in_wt 943 (by decide +kernel) (by decide +kernel)
set_option maxRecDepth 100000 in
theorem mw_944 : (.code yX8_now prog_10_method_38_code 5 (Option.some Jvm.ClassFile.FieldType.int) : Cond) ∈ wt := in_wt 944 rfl rfl
theorem mw_945 : (.methodLink RL 75 yX8_reads : Cond) ∈ wt := in_wt 945 (by decide +kernel) (by decide +kernel)
theorem mw_946 : (.instanceMethod yX8_reads : Cond) ∈ wt := in_wt 946 (by decide +kernel) (by decide +kernel)
theorem mw_947 : (.selects RX8 yX8_reads yX8_reads : Cond) ∈ wt := in_wt 947 (by decide +kernel) (by decide +kernel)
set_option maxRecDepth 100000 in
theorem mw_948 : (.code yX8_reads prog_10_method_39_code 7 (Option.some Jvm.ClassFile.FieldType.int) : Cond) ∈ wt := in_wt 948 rfl rfl
theorem mw_949 : (.methodLink RL 80 yX8_plan : Cond) ∈ wt := in_wt 949 (by decide +kernel) (by decide +kernel)
theorem mw_950 : (.instanceMethod yX8_plan : Cond) ∈ wt := in_wt 950 (by decide +kernel) (by decide +kernel)
theorem mw_951 : (.selects RX8 yX8_plan yX8_plan : Cond) ∈ wt := in_wt 951 (by decide +kernel) (by decide +kernel)
set_option maxRecDepth 100000 in
theorem mw_952 : (.code yX8_plan prog_10_method_42_code 7 (Option.some Jvm.ClassFile.FieldType.int) : Cond) ∈ wt := in_wt 952 rfl rfl
theorem mw_953 : (.methodLink RX8 169 yX8_asItIs : Cond) ∈ wt := in_wt 953 (by decide +kernel) (by decide +kernel)
theorem mw_955 : (.instanceMethod yX8_asItIs : Cond) ∈ wt := in_wt 955 (by decide +kernel) (by decide +kernel)
set_option maxRecDepth 100000 in
theorem mw_956 : (.code yX8_asItIs prog_10_method_40_code 3 (Option.none : Option Jvm.ClassFile.FieldType) : Cond) ∈ wt := in_wt 956 rfl rfl
theorem mw_957 : (.methodLink RX8 172 yX8_growsTried : Cond) ∈ wt := in_wt 957 (by decide +kernel) (by decide +kernel)
theorem mw_959 : (.instanceMethod yX8_growsTried : Cond) ∈ wt := in_wt 959 (by decide +kernel) (by decide +kernel)
set_option maxRecDepth 100000 in
theorem mw_960 : (.code yX8_growsTried prog_10_method_41_code 2 (Option.none : Option Jvm.ClassFile.FieldType) : Cond) ∈ wt := in_wt 960 rfl rfl
theorem mw_961 : (.methodLink RL 85 yX8_least : Cond) ∈ wt := in_wt 961 (by decide +kernel) (by decide +kernel)
theorem mw_962 : (.instanceMethod yX8_least : Cond) ∈ wt := in_wt 962 (by decide +kernel) (by decide +kernel)
theorem mw_963 : (.selects RX8 yX8_least yX8_least : Cond) ∈ wt := in_wt 963 (by decide +kernel) (by decide +kernel)
set_option maxRecDepth 100000 in
theorem mw_964 : (.code yX8_least prog_10_method_44_code 7 (Option.some Jvm.ClassFile.FieldType.int) : Cond) ∈ wt := in_wt 964 rfl rfl
theorem mw_965 : (.methodLink RX8 175 yX8_has : Cond) ∈ wt := in_wt 965 (by decide +kernel) (by decide +kernel)
theorem mw_966 : (.static yX8_has : Cond) ∈ wt := in_wt 966 (by decide +kernel) (by decide +kernel)
set_option maxRecDepth 100000 in
theorem mw_967 : (.code yX8_has prog_10_method_4_code 2 (Option.some Jvm.ClassFile.FieldType.boolean) : Cond) ∈ wt := in_wt 967 rfl rfl
theorem mw_968 : (.methodLink RX8 179 yX8_isMost : Cond) ∈ wt := in_wt 968 (by decide +kernel) (by decide +kernel)
theorem mw_970 : (.instanceMethod yX8_isMost : Cond) ∈ wt := in_wt 970 (by decide +kernel) (by decide +kernel)
set_option maxRecDepth 100000 in
theorem mw_971 : (.code yX8_isMost prog_10_method_43_code 7 (Option.some Jvm.ClassFile.FieldType.boolean) : Cond) ∈ wt := in_wt 971 rfl rfl
theorem mw_972 : (.methodLink RX8 182 yX8_bits : Cond) ∈ wt := in_wt 972 (by decide +kernel) (by decide +kernel)
theorem mw_973 : (.static yX8_bits : Cond) ∈ wt := in_wt 973 (by decide +kernel) (by decide +kernel)
set_option maxRecDepth 100000 in
theorem mw_974 : (.code yX8_bits prog_10_method_5_code 3 (Option.some Jvm.ClassFile.FieldType.int) : Cond) ∈ wt := in_wt 974 rfl rfl
theorem mw_975 : (.methodLink RL 89 yX8_wig : Cond) ∈ wt := in_wt 975 (by decide +kernel) (by decide +kernel)
theorem mw_976 : (.instanceMethod yX8_wig : Cond) ∈ wt := in_wt 976 (by decide +kernel) (by decide +kernel)
theorem mw_977 : (.selects RX8 yX8_wig yX8_wig : Cond) ∈ wt := in_wt 977 (by decide +kernel) (by decide +kernel)
set_option maxRecDepth 100000 in
theorem mw_978 : (.code yX8_wig prog_10_method_46_code 5 (Option.some Jvm.ClassFile.FieldType.int) : Cond) ∈ wt := in_wt 978 rfl rfl
theorem mw_979 : (.methodLink RX8 185 yX8_thoughtsOf : Cond) ∈ wt := in_wt 979 (by decide +kernel) (by decide +kernel)
theorem mw_981 : (.instanceMethod yX8_thoughtsOf : Cond) ∈ wt := in_wt 981 (by decide +kernel) (by decide +kernel)
set_option maxRecDepth 100000 in
theorem mw_982 : (.code yX8_thoughtsOf prog_10_method_45_code 5 (Option.some Jvm.ClassFile.FieldType.int) : Cond) ∈ wt := in_wt 982 rfl rfl
theorem mw_983 : (.methodLink RL 93 yX8_odds : Cond) ∈ wt := in_wt 983 (by decide +kernel) (by decide +kernel)
theorem mw_984 : (.instanceMethod yX8_odds : Cond) ∈ wt := in_wt 984 (by decide +kernel) (by decide +kernel)
theorem mw_985 : (.selects RX8 yX8_odds yX8_odds : Cond) ∈ wt := in_wt 985 (by decide +kernel) (by decide +kernel)
set_option maxRecDepth 100000 in
theorem mw_986 : (.code yX8_odds prog_10_method_48_code 10 (Option.some Jvm.ClassFile.FieldType.int) : Cond) ∈ wt := in_wt 986 rfl rfl
theorem mw_987 : (.methodLink RX8 188 yX8_lowest : Cond) ∈ wt := in_wt 987 (by decide +kernel) (by decide +kernel)
theorem mw_988 : (.static yX8_lowest : Cond) ∈ wt := in_wt 988 (by decide +kernel) (by decide +kernel)
set_option maxRecDepth 100000 in
theorem mw_989 : (.code yX8_lowest prog_10_method_47_code 6 (Option.some Jvm.ClassFile.FieldType.int) : Cond) ∈ wt := in_wt 989 rfl rfl
theorem mw_990 : (.methodLink RL 97 yX8_saw : Cond) ∈ wt := in_wt 990 (by decide +kernel) (by decide +kernel)
theorem mw_991 : (.instanceMethod yX8_saw : Cond) ∈ wt := in_wt 991 (by decide +kernel) (by decide +kernel)
theorem mw_992 : (.selects RX8 yX8_saw yX8_saw : Cond) ∈ wt := in_wt 992 (by decide +kernel) (by decide +kernel)
set_option maxRecDepth 100000 in
theorem mw_993 : (.code yX8_saw prog_10_method_49_code 2 (Option.some Jvm.ClassFile.FieldType.int) : Cond) ∈ wt := in_wt 993 rfl rfl
theorem mw_994 : (.methodLink RL 101 yX8_lock : Cond) ∈ wt := in_wt 994 (by decide +kernel) (by decide +kernel)
theorem mw_995 : (.instanceMethod yX8_lock : Cond) ∈ wt := in_wt 995 (by decide +kernel) (by decide +kernel)
theorem mw_996 : (.selects RX8 yX8_lock yX8_lock : Cond) ∈ wt := in_wt 996 (by decide +kernel) (by decide +kernel)
set_option maxRecDepth 100000 in
theorem mw_997 : (.code yX8_lock prog_10_method_51_code 6 (Option.some Jvm.ClassFile.FieldType.int) : Cond) ∈ wt := in_wt 997 rfl rfl
theorem mw_998 : (.methodLink RX8 192 yX8_isLock : Cond) ∈ wt := in_wt 998 (by decide +kernel) (by decide +kernel)
theorem mw_1000 : (.instanceMethod yX8_isLock : Cond) ∈ wt := in_wt 1000 (by decide +kernel) (by decide +kernel)
set_option maxRecDepth 100000 in
theorem mw_1001 : (.code yX8_isLock prog_10_method_50_code 5 (Option.some Jvm.ClassFile.FieldType.boolean) : Cond) ∈ wt := in_wt 1001 rfl rfl
theorem mw_1002 : (.methodLink RL 105 yX8_hears : Cond) ∈ wt := in_wt 1002 (by decide +kernel) (by decide +kernel)
theorem mw_1003 : (.instanceMethod yX8_hears : Cond) ∈ wt := in_wt 1003 (by decide +kernel) (by decide +kernel)
theorem mw_1004 : (.selects RX8 yX8_hears yX8_hears : Cond) ∈ wt := in_wt 1004 (by decide +kernel) (by decide +kernel)
set_option maxRecDepth 100000 in
theorem mw_1005 : (.code yX8_hears prog_10_method_52_code 3 (Option.some Jvm.ClassFile.FieldType.int) : Cond) ∈ wt := in_wt 1005 rfl rfl
theorem mw_1006 : (.methodLink RL 109 yX8_sets : Cond) ∈ wt := in_wt 1006 (by decide +kernel) (by decide +kernel)
theorem mw_1007 : (.instanceMethod yX8_sets : Cond) ∈ wt := in_wt 1007 (by decide +kernel) (by decide +kernel)
theorem mw_1008 : (.selects RX8 yX8_sets yX8_sets : Cond) ∈ wt := in_wt 1008 (by decide +kernel) (by decide +kernel)
set_option maxRecDepth 100000 in
theorem mw_1009 : (.code yX8_sets prog_10_method_54_code 8 (Option.some Jvm.ClassFile.FieldType.int) : Cond) ∈ wt := in_wt 1009 rfl rfl
theorem mw_1010 : (.methodLink RX8 195 yX8_isHeard : Cond) ∈ wt := in_wt 1010 (by decide +kernel) (by decide +kernel)
theorem mw_1012 : (.instanceMethod yX8_isHeard : Cond) ∈ wt := in_wt 1012 (by decide +kernel) (by decide +kernel)
set_option maxRecDepth 100000 in
theorem mw_1013 : (.code yX8_isHeard prog_10_method_53_code 6 (Option.some Jvm.ClassFile.FieldType.boolean) : Cond) ∈ wt := in_wt 1013 rfl rfl
theorem mw_1014 : (.methodLink RL 113 yX8_forget : Cond) ∈ wt := in_wt 1014 (by decide +kernel) (by decide +kernel)
theorem mw_1015 : (.instanceMethod yX8_forget : Cond) ∈ wt := in_wt 1015 (by decide +kernel) (by decide +kernel)
theorem mw_1016 : (.selects RX8 yX8_forget yX8_forget : Cond) ∈ wt := in_wt 1016 (by decide +kernel) (by decide +kernel)
set_option maxRecDepth 100000 in
theorem mw_1017 : (.code yX8_forget prog_10_method_55_code 2 (Option.some Jvm.ClassFile.FieldType.int) : Cond) ∈ wt := in_wt 1017 rfl rfl
theorem mw_1018 : (.methodLink RL 117 yX8_mark : Cond) ∈ wt := in_wt 1018 (by decide +kernel) (by decide +kernel)
theorem mw_1019 : (.instanceMethod yX8_mark : Cond) ∈ wt := in_wt 1019 (by decide +kernel) (by decide +kernel)
theorem mw_1020 : (.selects RX8 yX8_mark yX8_mark : Cond) ∈ wt := in_wt 1020 (by decide +kernel) (by decide +kernel)
set_option maxRecDepth 100000 in
theorem mw_1021 : (.code yX8_mark prog_10_method_56_code 6 (Option.some Jvm.ClassFile.FieldType.int) : Cond) ∈ wt := in_wt 1021 rfl rfl
theorem mw_1022 : (.constant RX8 198 (-1000000 : Int32) : Cond) ∈ wt := in_wt 1022 (by decide +kernel) (by decide +kernel)
theorem mw_1023 : (.constantLong RX8 203 (11 : Int64) : Cond) ∈ wt := in_wt 1023 (by decide +kernel) (by decide +kernel)
theorem mw_1024 : (.constantLong RX8 205 (101 : Int64) : Cond) ∈ wt := in_wt 1024 (by decide +kernel) (by decide +kernel)
theorem mw_1025 : (.constantLong RX8 207 (1011 : Int64) : Cond) ∈ wt := in_wt 1025 (by decide +kernel) (by decide +kernel)
theorem mw_1026 : (.constantLong RX8 209 (10101 : Int64) : Cond) ∈ wt := in_wt 1026 (by decide +kernel) (by decide +kernel)
theorem mw_1027 : (.constantLong RX8 211 (100001 : Int64) : Cond) ∈ wt := in_wt 1027 (by decide +kernel) (by decide +kernel)
theorem mw_1028 : (.methodLink RL 121 yX8_keep : Cond) ∈ wt := in_wt 1028 (by decide +kernel) (by decide +kernel)
theorem mw_1029 : (.instanceMethod yX8_keep : Cond) ∈ wt := in_wt 1029 (by decide +kernel) (by decide +kernel)
theorem mw_1030 : (.selects RX8 yX8_keep yX8_keep : Cond) ∈ wt := in_wt 1030 (by decide +kernel) (by decide +kernel)
set_option maxRecDepth 100000 in
theorem mw_1031 : (.code yX8_keep prog_10_method_57_code 3 (Option.some Jvm.ClassFile.FieldType.int) : Cond) ∈ wt := in_wt 1031 rfl rfl
theorem mw_1032 : (.methodLink RL 125 yX8_back : Cond) ∈ wt := in_wt 1032 (by decide +kernel) (by decide +kernel)
theorem mw_1033 : (.instanceMethod yX8_back : Cond) ∈ wt := in_wt 1033 (by decide +kernel) (by decide +kernel)
theorem mw_1034 : (.selects RX8 yX8_back yX8_back : Cond) ∈ wt := in_wt 1034 (by decide +kernel) (by decide +kernel)
set_option maxRecDepth 100000 in
theorem mw_1035 : (.code yX8_back prog_10_method_58_code 3 (Option.some Jvm.ClassFile.FieldType.int) : Cond) ∈ wt := in_wt 1035 rfl rfl
theorem mw_1036 : (.methodLink RL 129 yX8_count : Cond) ∈ wt := in_wt 1036 (by decide +kernel) (by decide +kernel)
theorem mw_1037 : (.instanceMethod yX8_count : Cond) ∈ wt := in_wt 1037 (by decide +kernel) (by decide +kernel)
theorem mw_1038 : (.selects RX8 yX8_count yX8_count : Cond) ∈ wt := in_wt 1038 (by decide +kernel) (by decide +kernel)
set_option maxRecDepth 100000 in
theorem mw_1039 : (.code yX8_count prog_10_method_59_code 2 (Option.some Jvm.ClassFile.FieldType.int) : Cond) ∈ wt := in_wt 1039 rfl rfl
theorem mw_1040 : (.methodLink RL 134 yX8_trace : Cond) ∈ wt := in_wt 1040 (by decide +kernel) (by decide +kernel)
theorem mw_1041 : (.instanceMethod yX8_trace : Cond) ∈ wt := in_wt 1041 (by decide +kernel) (by decide +kernel)
theorem mw_1042 : (.selects RX8 yX8_trace yX8_trace : Cond) ∈ wt := in_wt 1042 (by decide +kernel) (by decide +kernel)
set_option maxRecDepth 100000 in
theorem mw_1043 : (.code yX8_trace prog_10_method_60_code 1 (Option.some Jvm.ClassFile.FieldType.long) : Cond) ∈ wt := in_wt 1043 rfl rfl
end
section
theorem dX0_init_0 : decode cX0_init 0 = .ok (.aload_n 0, 1) := by decide +kernel
theorem dX0_init_1 : decode cX0_init 1 = .ok (.invokespecial 3, 3) := by decide +kernel
theorem dX0_init_4 : decode cX0_init 4 = .ok (.aload_n 0, 1) := by decide +kernel
theorem dX0_init_5 : decode cX0_init 5 = .ok (.iconst 4, 1) := by decide +kernel
theorem dX0_init_6 : decode cX0_init 6 = .ok (.newarray .int, 2) := by decide +kernel
theorem dX0_init_8 : decode cX0_init 8 = .ok (.putfield 9, 3) := by decide +kernel
theorem dX0_init_11 : decode cX0_init 11 = .ok (.aload_n 0, 1) := by decide +kernel
theorem dX0_init_12 : decode cX0_init 12 = .ok (.iconst 4, 1) := by decide +kernel
theorem dX0_init_13 : decode cX0_init 13 = .ok (.newarray .int, 2) := by decide +kernel
theorem dX0_init_15 : decode cX0_init 15 = .ok (.putfield 15, 3) := by decide +kernel
theorem dX0_init_18 : decode cX0_init 18 = .ok (.aload_n 0, 1) := by decide +kernel
theorem dX0_init_19 : decode cX0_init 19 = .ok (.iconst 4, 1) := by decide +kernel
theorem dX0_init_20 : decode cX0_init 20 = .ok (.newarray .int, 2) := by decide +kernel
theorem dX0_init_22 : decode cX0_init 22 = .ok (.putfield 18, 3) := by decide +kernel
theorem dX0_init_25 : decode cX0_init 25 = .ok (.return_, 1) := by decide +kernel
theorem dX0_drop_0 : decode cX0_drop 0 = .ok (.aload_n 0, 1) := by decide +kernel
theorem dX0_drop_1 : decode cX0_drop 1 = .ok (.iconst 0, 1) := by decide +kernel
theorem dX0_drop_2 : decode cX0_drop 2 = .ok (.putfield 21, 3) := by decide +kernel
theorem dX0_drop_5 : decode cX0_drop 5 = .ok (.aload_n 0, 1) := by decide +kernel
theorem dX0_drop_6 : decode cX0_drop 6 = .ok (.iconst 0, 1) := by decide +kernel
theorem dX0_drop_7 : decode cX0_drop 7 = .ok (.putfield 25, 3) := by decide +kernel
theorem dX0_drop_10 : decode cX0_drop 10 = .ok (.return_, 1) := by decide +kernel
theorem dX0_fitAt_0 : decode cX0_fitAt 0 = .ok (.iload_n 3, 1) := by decide +kernel
theorem dX0_fitAt_1 : decode cX0_fitAt 1 = .ok (.aload_n 0, 1) := by decide +kernel
theorem dX0_fitAt_2 : decode cX0_fitAt 2 = .ok (.getfield 21, 3) := by decide +kernel
theorem dX0_fitAt_5 : decode cX0_fitAt 5 = .ok (.iadd, 1) := by decide +kernel
theorem dX0_fitAt_6 : decode cX0_fitAt 6 = .ok (.aload_n 1, 1) := by decide +kernel
theorem dX0_fitAt_7 : decode cX0_fitAt 7 = .ok (.getfield 28, 3) := by decide +kernel
theorem dX0_fitAt_10 : decode cX0_fitAt 10 = .ok (.iload_n 2, 1) := by decide +kernel
theorem dX0_fitAt_11 : decode cX0_fitAt 11 = .ok (.iaload, 1) := by decide +kernel
theorem dX0_fitAt_12 : decode cX0_fitAt 12 = .ok (.if_icmp .le 5, 3) := by decide +kernel
theorem dX0_fitAt_15 : decode cX0_fitAt 15 = .ok (.iconst 0, 1) := by decide +kernel
theorem dX0_fitAt_16 : decode cX0_fitAt 16 = .ok (.ireturn, 1) := by decide +kernel
theorem dX0_fitAt_17 : decode cX0_fitAt 17 = .ok (.iconst 0, 1) := by decide +kernel
theorem dX0_fitAt_18 : decode cX0_fitAt 18 = .ok (.istore 4, 2) := by decide +kernel
theorem dX0_fitAt_20 : decode cX0_fitAt 20 = .ok (.iload 4, 2) := by decide +kernel
theorem dX0_fitAt_22 : decode cX0_fitAt 22 = .ok (.aload_n 0, 1) := by decide +kernel
theorem dX0_fitAt_23 : decode cX0_fitAt 23 = .ok (.getfield 21, 3) := by decide +kernel
theorem dX0_fitAt_26 : decode cX0_fitAt 26 = .ok (.if_icmp .ge 30, 3) := by decide +kernel
theorem dX0_fitAt_29 : decode cX0_fitAt 29 = .ok (.aload_n 1, 1) := by decide +kernel
theorem dX0_fitAt_30 : decode cX0_fitAt 30 = .ok (.iload_n 2, 1) := by decide +kernel
theorem dX0_fitAt_31 : decode cX0_fitAt 31 = .ok (.iload_n 3, 1) := by decide +kernel
theorem dX0_fitAt_32 : decode cX0_fitAt 32 = .ok (.iload 4, 2) := by decide +kernel
theorem dX0_fitAt_34 : decode cX0_fitAt 34 = .ok (.iadd, 1) := by decide +kernel
theorem dX0_fitAt_35 : decode cX0_fitAt 35 = .ok (.invokevirtual 33, 3) := by decide +kernel
theorem dX0_fitAt_38 : decode cX0_fitAt 38 = .ok (.aload_n 0, 1) := by decide +kernel
theorem dX0_fitAt_39 : decode cX0_fitAt 39 = .ok (.getfield 9, 3) := by decide +kernel
theorem dX0_fitAt_42 : decode cX0_fitAt 42 = .ok (.iload 4, 2) := by decide +kernel
theorem dX0_fitAt_44 : decode cX0_fitAt 44 = .ok (.iaload, 1) := by decide +kernel
theorem dX0_fitAt_45 : decode cX0_fitAt 45 = .ok (.if_icmp .eq 5, 3) := by decide +kernel
theorem dX0_fitAt_48 : decode cX0_fitAt 48 = .ok (.iconst 0, 1) := by decide +kernel
theorem dX0_fitAt_49 : decode cX0_fitAt 49 = .ok (.ireturn, 1) := by decide +kernel
theorem dX0_fitAt_50 : decode cX0_fitAt 50 = .ok (.iinc 4 1, 3) := by decide +kernel
theorem dX0_fitAt_53 : decode cX0_fitAt 53 = .ok (.goto (-33), 3) := by decide +kernel
theorem dX0_fitAt_56 : decode cX0_fitAt 56 = .ok (.iconst 1, 1) := by decide +kernel
theorem dX0_fitAt_57 : decode cX0_fitAt 57 = .ok (.ireturn, 1) := by decide +kernel
theorem dX1_init_0 : decode cX1_init 0 = .ok (.aload_n 0, 1) := by decide +kernel
theorem dX1_init_1 : decode cX1_init 1 = .ok (.invokespecial 3, 3) := by decide +kernel
theorem dX1_init_4 : decode cX1_init 4 = .ok (.aload_n 0, 1) := by decide +kernel
theorem dX1_init_5 : decode cX1_init 5 = .ok (.iconst 5, 1) := by decide +kernel
theorem dX1_init_6 : decode cX1_init 6 = .ok (.newarray .int, 2) := by decide +kernel
theorem dX1_init_8 : decode cX1_init 8 = .ok (.putfield 9, 3) := by decide +kernel
theorem dX1_init_11 : decode cX1_init 11 = .ok (.aload_n 0, 1) := by decide +kernel
theorem dX1_init_12 : decode cX1_init 12 = .ok (.iconst 5, 1) := by decide +kernel
theorem dX1_init_13 : decode cX1_init 13 = .ok (.newarray .int, 2) := by decide +kernel
theorem dX1_init_15 : decode cX1_init 15 = .ok (.putfield 15, 3) := by decide +kernel
theorem dX1_init_18 : decode cX1_init 18 = .ok (.aload_n 0, 1) := by decide +kernel
theorem dX1_init_19 : decode cX1_init 19 = .ok (.bipush 60, 2) := by decide +kernel
theorem dX1_init_21 : decode cX1_init 21 = .ok (.newarray .int, 2) := by decide +kernel
theorem dX1_init_23 : decode cX1_init 23 = .ok (.putfield 18, 3) := by decide +kernel
theorem dX1_init_26 : decode cX1_init 26 = .ok (.aload_n 0, 1) := by decide +kernel
theorem dX1_init_27 : decode cX1_init 27 = .ok (.bipush 40, 2) := by decide +kernel
theorem dX1_init_29 : decode cX1_init 29 = .ok (.newarray .int, 2) := by decide +kernel
theorem dX1_init_31 : decode cX1_init 31 = .ok (.putfield 21, 3) := by decide +kernel
theorem dX1_init_34 : decode cX1_init 34 = .ok (.aload_n 0, 1) := by decide +kernel
theorem dX1_init_35 : decode cX1_init 35 = .ok (.getfield 15, 3) := by decide +kernel
theorem dX1_init_38 : decode cX1_init 38 = .ok (.bipush (-9), 2) := by decide +kernel
theorem dX1_init_40 : decode cX1_init 40 = .ok (.invokestatic 24, 3) := by decide +kernel
theorem dX1_init_43 : decode cX1_init 43 = .ok (.return_, 1) := by decide +kernel
theorem dX1_begin_0 : decode cX1_begin 0 = .ok (.aload_n 0, 1) := by decide +kernel
theorem dX1_begin_1 : decode cX1_begin 1 = .ok (.iconst 0, 1) := by decide +kernel
theorem dX1_begin_2 : decode cX1_begin 2 = .ok (.putfield 30, 3) := by decide +kernel
theorem dX1_begin_5 : decode cX1_begin 5 = .ok (.aload_n 0, 1) := by decide +kernel
theorem dX1_begin_6 : decode cX1_begin 6 = .ok (.iload_n 1, 1) := by decide +kernel
theorem dX1_begin_7 : decode cX1_begin 7 = .ok (.putfield 34, 3) := by decide +kernel
theorem dX1_begin_10 : decode cX1_begin 10 = .ok (.aload_n 0, 1) := by decide +kernel
theorem dX1_begin_11 : decode cX1_begin 11 = .ok (.getfield 9, 3) := by decide +kernel
theorem dX1_begin_14 : decode cX1_begin 14 = .ok (.iconst 0, 1) := by decide +kernel
theorem dX1_begin_15 : decode cX1_begin 15 = .ok (.invokestatic 24, 3) := by decide +kernel
theorem dX1_begin_18 : decode cX1_begin 18 = .ok (.aload_n 0, 1) := by decide +kernel
theorem dX1_begin_19 : decode cX1_begin 19 = .ok (.getfield 15, 3) := by decide +kernel
theorem dX1_begin_22 : decode cX1_begin 22 = .ok (.bipush (-9), 2) := by decide +kernel
theorem dX1_begin_24 : decode cX1_begin 24 = .ok (.invokestatic 24, 3) := by decide +kernel
theorem dX1_begin_27 : decode cX1_begin 27 = .ok (.aload_n 0, 1) := by decide +kernel
theorem dX1_begin_28 : decode cX1_begin 28 = .ok (.getfield 21, 3) := by decide +kernel
theorem dX1_begin_31 : decode cX1_begin 31 = .ok (.iconst 0, 1) := by decide +kernel
theorem dX1_begin_32 : decode cX1_begin 32 = .ok (.invokestatic 24, 3) := by decide +kernel
theorem dX1_begin_35 : decode cX1_begin 35 = .ok (.return_, 1) := by decide +kernel
theorem dX1_copyFrom_0 : decode cX1_copyFrom 0 = .ok (.aload_n 0, 1) := by decide +kernel
theorem dX1_copyFrom_1 : decode cX1_copyFrom 1 = .ok (.aload_n 1, 1) := by decide +kernel
theorem dX1_copyFrom_2 : decode cX1_copyFrom 2 = .ok (.getfield 30, 3) := by decide +kernel
theorem dX1_copyFrom_5 : decode cX1_copyFrom 5 = .ok (.putfield 30, 3) := by decide +kernel
theorem dX1_copyFrom_8 : decode cX1_copyFrom 8 = .ok (.aload_n 0, 1) := by decide +kernel
theorem dX1_copyFrom_9 : decode cX1_copyFrom 9 = .ok (.aload_n 1, 1) := by decide +kernel
theorem dX1_copyFrom_10 : decode cX1_copyFrom 10 = .ok (.getfield 34, 3) := by decide +kernel
theorem dX1_copyFrom_13 : decode cX1_copyFrom 13 = .ok (.putfield 34, 3) := by decide +kernel
theorem dX1_copyFrom_16 : decode cX1_copyFrom 16 = .ok (.aload_n 1, 1) := by decide +kernel
theorem dX1_copyFrom_17 : decode cX1_copyFrom 17 = .ok (.getfield 9, 3) := by decide +kernel
theorem dX1_copyFrom_20 : decode cX1_copyFrom 20 = .ok (.iconst 0, 1) := by decide +kernel
theorem dX1_copyFrom_21 : decode cX1_copyFrom 21 = .ok (.aload_n 0, 1) := by decide +kernel
theorem dX1_copyFrom_22 : decode cX1_copyFrom 22 = .ok (.getfield 9, 3) := by decide +kernel
theorem dX1_copyFrom_25 : decode cX1_copyFrom 25 = .ok (.iconst 0, 1) := by decide +kernel
theorem dX1_copyFrom_26 : decode cX1_copyFrom 26 = .ok (.aload_n 0, 1) := by decide +kernel
theorem dX1_copyFrom_27 : decode cX1_copyFrom 27 = .ok (.getfield 9, 3) := by decide +kernel
theorem dX1_copyFrom_30 : decode cX1_copyFrom 30 = .ok (.arraylength, 1) := by decide +kernel
theorem dX1_copyFrom_31 : decode cX1_copyFrom 31 = .ok (.invokestatic 37, 3) := by decide +kernel
theorem dX1_copyFrom_34 : decode cX1_copyFrom 34 = .ok (.aload_n 1, 1) := by decide +kernel
theorem dX1_copyFrom_35 : decode cX1_copyFrom 35 = .ok (.getfield 15, 3) := by decide +kernel
theorem dX1_copyFrom_38 : decode cX1_copyFrom 38 = .ok (.iconst 0, 1) := by decide +kernel
theorem dX1_copyFrom_39 : decode cX1_copyFrom 39 = .ok (.aload_n 0, 1) := by decide +kernel
theorem dX1_copyFrom_40 : decode cX1_copyFrom 40 = .ok (.getfield 15, 3) := by decide +kernel
theorem dX1_copyFrom_43 : decode cX1_copyFrom 43 = .ok (.iconst 0, 1) := by decide +kernel
theorem dX1_copyFrom_44 : decode cX1_copyFrom 44 = .ok (.aload_n 0, 1) := by decide +kernel
theorem dX1_copyFrom_45 : decode cX1_copyFrom 45 = .ok (.getfield 15, 3) := by decide +kernel
theorem dX1_copyFrom_48 : decode cX1_copyFrom 48 = .ok (.arraylength, 1) := by decide +kernel
theorem dX1_copyFrom_49 : decode cX1_copyFrom 49 = .ok (.invokestatic 37, 3) := by decide +kernel
theorem dX1_copyFrom_52 : decode cX1_copyFrom 52 = .ok (.aload_n 1, 1) := by decide +kernel
theorem dX1_copyFrom_53 : decode cX1_copyFrom 53 = .ok (.getfield 18, 3) := by decide +kernel
theorem dX1_copyFrom_56 : decode cX1_copyFrom 56 = .ok (.iconst 0, 1) := by decide +kernel
theorem dX1_copyFrom_57 : decode cX1_copyFrom 57 = .ok (.aload_n 0, 1) := by decide +kernel
theorem dX1_copyFrom_58 : decode cX1_copyFrom 58 = .ok (.getfield 18, 3) := by decide +kernel
theorem dX1_copyFrom_61 : decode cX1_copyFrom 61 = .ok (.iconst 0, 1) := by decide +kernel
theorem dX1_copyFrom_62 : decode cX1_copyFrom 62 = .ok (.aload_n 0, 1) := by decide +kernel
theorem dX1_copyFrom_63 : decode cX1_copyFrom 63 = .ok (.getfield 18, 3) := by decide +kernel
theorem dX1_copyFrom_66 : decode cX1_copyFrom 66 = .ok (.arraylength, 1) := by decide +kernel
theorem dX1_copyFrom_67 : decode cX1_copyFrom 67 = .ok (.invokestatic 37, 3) := by decide +kernel
theorem dX1_copyFrom_70 : decode cX1_copyFrom 70 = .ok (.aload_n 1, 1) := by decide +kernel
theorem dX1_copyFrom_71 : decode cX1_copyFrom 71 = .ok (.getfield 21, 3) := by decide +kernel
theorem dX1_copyFrom_74 : decode cX1_copyFrom 74 = .ok (.iconst 0, 1) := by decide +kernel
theorem dX1_copyFrom_75 : decode cX1_copyFrom 75 = .ok (.aload_n 0, 1) := by decide +kernel
theorem dX1_copyFrom_76 : decode cX1_copyFrom 76 = .ok (.getfield 21, 3) := by decide +kernel
theorem dX1_copyFrom_79 : decode cX1_copyFrom 79 = .ok (.iconst 0, 1) := by decide +kernel
theorem dX1_copyFrom_80 : decode cX1_copyFrom 80 = .ok (.aload_n 0, 1) := by decide +kernel
theorem dX1_copyFrom_81 : decode cX1_copyFrom 81 = .ok (.getfield 21, 3) := by decide +kernel
theorem dX1_copyFrom_84 : decode cX1_copyFrom 84 = .ok (.arraylength, 1) := by decide +kernel
theorem dX1_copyFrom_85 : decode cX1_copyFrom 85 = .ok (.invokestatic 37, 3) := by decide +kernel
theorem dX1_copyFrom_88 : decode cX1_copyFrom 88 = .ok (.return_, 1) := by decide +kernel
theorem dX1_layerAt_0 : decode cX1_layerAt 0 = .ok (.aload_n 0, 1) := by decide +kernel
theorem dX1_layerAt_1 : decode cX1_layerAt 1 = .ok (.getfield 18, 3) := by decide +kernel
theorem dX1_layerAt_4 : decode cX1_layerAt 4 = .ok (.iload_n 1, 1) := by decide +kernel
theorem dX1_layerAt_5 : decode cX1_layerAt 5 = .ok (.bipush 12, 2) := by decide +kernel
theorem dX1_layerAt_7 : decode cX1_layerAt 7 = .ok (.imul, 1) := by decide +kernel
theorem dX1_layerAt_8 : decode cX1_layerAt 8 = .ok (.iload_n 2, 1) := by decide +kernel
theorem dX1_layerAt_9 : decode cX1_layerAt 9 = .ok (.iadd, 1) := by decide +kernel
theorem dX1_layerAt_10 : decode cX1_layerAt 10 = .ok (.iaload, 1) := by decide +kernel
theorem dX1_layerAt_11 : decode cX1_layerAt 11 = .ok (.ireturn, 1) := by decide +kernel
theorem dX1_sweptOf_0 : decode cX1_sweptOf 0 = .ok (.aload_n 0, 1) := by decide +kernel
theorem dX1_sweptOf_1 : decode cX1_sweptOf 1 = .ok (.getfield 21, 3) := by decide +kernel
theorem dX1_sweptOf_4 : decode cX1_sweptOf 4 = .ok (.iload_n 1, 1) := by decide +kernel
theorem dX1_sweptOf_5 : decode cX1_sweptOf 5 = .ok (.bipush 10, 2) := by decide +kernel
theorem dX1_sweptOf_7 : decode cX1_sweptOf 7 = .ok (.imul, 1) := by decide +kernel
theorem dX1_sweptOf_8 : decode cX1_sweptOf 8 = .ok (.iload_n 2, 1) := by decide +kernel
theorem dX1_sweptOf_9 : decode cX1_sweptOf 9 = .ok (.iadd, 1) := by decide +kernel
theorem dX1_sweptOf_10 : decode cX1_sweptOf 10 = .ok (.iaload, 1) := by decide +kernel
theorem dX1_sweptOf_11 : decode cX1_sweptOf 11 = .ok (.ireturn, 1) := by decide +kernel
theorem dX1_thoughtAhead_0 : decode cX1_thoughtAhead 0 = .ok (.iload_n 3, 1) := by decide +kernel
theorem dX1_thoughtAhead_1 : decode cX1_thoughtAhead 1 = .ok (.ifCond .ne 21, 3) := by decide +kernel
theorem dX1_thoughtAhead_4 : decode cX1_thoughtAhead 4 = .ok (.aload_n 0, 1) := by decide +kernel
theorem dX1_thoughtAhead_5 : decode cX1_thoughtAhead 5 = .ok (.getfield 15, 3) := by decide +kernel
theorem dX1_thoughtAhead_8 : decode cX1_thoughtAhead 8 = .ok (.iload_n 2, 1) := by decide +kernel
theorem dX1_thoughtAhead_9 : decode cX1_thoughtAhead 9 = .ok (.iaload, 1) := by decide +kernel
theorem dX1_thoughtAhead_10 : decode cX1_thoughtAhead 10 = .ok (.bipush (-9), 2) := by decide +kernel
theorem dX1_thoughtAhead_12 : decode cX1_thoughtAhead 12 = .ok (.if_icmp .eq 10, 3) := by decide +kernel
theorem dX1_thoughtAhead_15 : decode cX1_thoughtAhead 15 = .ok (.aload_n 0, 1) := by decide +kernel
theorem dX1_thoughtAhead_16 : decode cX1_thoughtAhead 16 = .ok (.getfield 15, 3) := by decide +kernel
theorem dX1_thoughtAhead_19 : decode cX1_thoughtAhead 19 = .ok (.iload_n 2, 1) := by decide +kernel
theorem dX1_thoughtAhead_20 : decode cX1_thoughtAhead 20 = .ok (.iaload, 1) := by decide +kernel
theorem dX1_thoughtAhead_21 : decode cX1_thoughtAhead 21 = .ok (.ireturn, 1) := by decide +kernel
theorem dX1_thoughtAhead_22 : decode cX1_thoughtAhead 22 = .ok (.aload_n 1, 1) := by decide +kernel
theorem dX1_thoughtAhead_23 : decode cX1_thoughtAhead 23 = .ok (.iload_n 2, 1) := by decide +kernel
theorem dX1_thoughtAhead_24 : decode cX1_thoughtAhead 24 = .ok (.aload_n 0, 1) := by decide +kernel
theorem dX1_thoughtAhead_25 : decode cX1_thoughtAhead 25 = .ok (.getfield 30, 3) := by decide +kernel
theorem dX1_thoughtAhead_28 : decode cX1_thoughtAhead 28 = .ok (.iload_n 3, 1) := by decide +kernel
theorem dX1_thoughtAhead_29 : decode cX1_thoughtAhead 29 = .ok (.iadd, 1) := by decide +kernel
theorem dX1_thoughtAhead_30 : decode cX1_thoughtAhead 30 = .ok (.invokevirtual 43, 3) := by decide +kernel
theorem dX1_thoughtAhead_33 : decode cX1_thoughtAhead 33 = .ok (.ireturn, 1) := by decide +kernel
theorem dX1_passDay_0 : decode cX1_passDay 0 = .ok (.iconst 0, 1) := by decide +kernel
theorem dX1_passDay_1 : decode cX1_passDay 1 = .ok (.istore_n 2, 1) := by decide +kernel
theorem dX1_passDay_2 : decode cX1_passDay 2 = .ok (.iload_n 2, 1) := by decide +kernel
theorem dX1_passDay_3 : decode cX1_passDay 3 = .ok (.aload_n 1, 1) := by decide +kernel
theorem dX1_passDay_4 : decode cX1_passDay 4 = .ok (.getfield 49, 3) := by decide +kernel
theorem dX1_passDay_7 : decode cX1_passDay 7 = .ok (.if_icmp .ge 71, 3) := by decide +kernel
theorem dX1_passDay_10 : decode cX1_passDay 10 = .ok (.aload_n 0, 1) := by decide +kernel
theorem dX1_passDay_11 : decode cX1_passDay 11 = .ok (.aload_n 1, 1) := by decide +kernel
theorem dX1_passDay_12 : decode cX1_passDay 12 = .ok (.iload_n 2, 1) := by decide +kernel
theorem dX1_passDay_13 : decode cX1_passDay 13 = .ok (.iconst 0, 1) := by decide +kernel
theorem dX1_passDay_14 : decode cX1_passDay 14 = .ok (.invokevirtual 52, 3) := by decide +kernel
theorem dX1_passDay_17 : decode cX1_passDay 17 = .ok (.istore_n 3, 1) := by decide +kernel
theorem dX1_passDay_18 : decode cX1_passDay 18 = .ok (.aload_n 0, 1) := by decide +kernel
theorem dX1_passDay_19 : decode cX1_passDay 19 = .ok (.getfield 15, 3) := by decide +kernel
theorem dX1_passDay_22 : decode cX1_passDay 22 = .ok (.iload_n 2, 1) := by decide +kernel
theorem dX1_passDay_23 : decode cX1_passDay 23 = .ok (.bipush (-9), 2) := by decide +kernel
theorem dX1_passDay_25 : decode cX1_passDay 25 = .ok (.iastore, 1) := by decide +kernel
theorem dX1_passDay_26 : decode cX1_passDay 26 = .ok (.aload_n 0, 1) := by decide +kernel
theorem dX1_passDay_27 : decode cX1_passDay 27 = .ok (.getfield 9, 3) := by decide +kernel
theorem dX1_passDay_30 : decode cX1_passDay 30 = .ok (.iload_n 2, 1) := by decide +kernel
theorem dX1_passDay_31 : decode cX1_passDay 31 = .ok (.iaload, 1) := by decide +kernel
theorem dX1_passDay_32 : decode cX1_passDay 32 = .ok (.aload_n 1, 1) := by decide +kernel
theorem dX1_passDay_33 : decode cX1_passDay 33 = .ok (.getfield 56, 3) := by decide +kernel
theorem dX1_passDay_36 : decode cX1_passDay 36 = .ok (.if_icmp .lt 9, 3) := by decide +kernel
theorem dX1_passDay_39 : decode cX1_passDay 39 = .ok (.aload_n 0, 1) := by decide +kernel
theorem dX1_passDay_40 : decode cX1_passDay 40 = .ok (.iload_n 2, 1) := by decide +kernel
theorem dX1_passDay_41 : decode cX1_passDay 41 = .ok (.iconst 1, 1) := by decide +kernel
theorem dX1_passDay_42 : decode cX1_passDay 42 = .ok (.invokevirtual 59, 3) := by decide +kernel
theorem dX1_passDay_45 : decode cX1_passDay 45 = .ok (.aload_n 0, 1) := by decide +kernel
theorem dX1_passDay_46 : decode cX1_passDay 46 = .ok (.getfield 18, 3) := by decide +kernel
theorem dX1_passDay_49 : decode cX1_passDay 49 = .ok (.iload_n 2, 1) := by decide +kernel
theorem dX1_passDay_50 : decode cX1_passDay 50 = .ok (.bipush 12, 2) := by decide +kernel
theorem dX1_passDay_52 : decode cX1_passDay 52 = .ok (.imul, 1) := by decide +kernel
theorem dX1_passDay_53 : decode cX1_passDay 53 = .ok (.aload_n 0, 1) := by decide +kernel
theorem dX1_passDay_54 : decode cX1_passDay 54 = .ok (.getfield 9, 3) := by decide +kernel
theorem dX1_passDay_57 : decode cX1_passDay 57 = .ok (.iload_n 2, 1) := by decide +kernel
theorem dX1_passDay_58 : decode cX1_passDay 58 = .ok (.iaload, 1) := by decide +kernel
theorem dX1_passDay_59 : decode cX1_passDay 59 = .ok (.iadd, 1) := by decide +kernel
theorem dX1_passDay_60 : decode cX1_passDay 60 = .ok (.iload_n 3, 1) := by decide +kernel
theorem dX1_passDay_61 : decode cX1_passDay 61 = .ok (.iastore, 1) := by decide +kernel
theorem dX1_passDay_62 : decode cX1_passDay 62 = .ok (.aload_n 0, 1) := by decide +kernel
theorem dX1_passDay_63 : decode cX1_passDay 63 = .ok (.getfield 9, 3) := by decide +kernel
theorem dX1_passDay_66 : decode cX1_passDay 66 = .ok (.iload_n 2, 1) := by decide +kernel
theorem dX1_passDay_67 : decode cX1_passDay 67 = .ok (.dup2, 1) := by decide +kernel
theorem dX1_passDay_68 : decode cX1_passDay 68 = .ok (.iaload, 1) := by decide +kernel
theorem dX1_passDay_69 : decode cX1_passDay 69 = .ok (.iconst 1, 1) := by decide +kernel
theorem dX1_passDay_70 : decode cX1_passDay 70 = .ok (.iadd, 1) := by decide +kernel
theorem dX1_passDay_71 : decode cX1_passDay 71 = .ok (.iastore, 1) := by decide +kernel
theorem dX1_passDay_72 : decode cX1_passDay 72 = .ok (.iinc 2 1, 3) := by decide +kernel
theorem dX1_passDay_75 : decode cX1_passDay 75 = .ok (.goto (-73), 3) := by decide +kernel
theorem dX1_passDay_78 : decode cX1_passDay 78 = .ok (.aload_n 0, 1) := by decide +kernel
theorem dX1_passDay_79 : decode cX1_passDay 79 = .ok (.dup, 1) := by decide +kernel
theorem dX1_passDay_80 : decode cX1_passDay 80 = .ok (.getfield 30, 3) := by decide +kernel
theorem dX1_passDay_83 : decode cX1_passDay 83 = .ok (.iconst 1, 1) := by decide +kernel
theorem dX1_passDay_84 : decode cX1_passDay 84 = .ok (.iadd, 1) := by decide +kernel
theorem dX1_passDay_85 : decode cX1_passDay 85 = .ok (.putfield 30, 3) := by decide +kernel
theorem dX1_passDay_88 : decode cX1_passDay 88 = .ok (.return_, 1) := by decide +kernel
theorem dX1_sweep_0 : decode cX1_sweep 0 = .ok (.iconst 0, 1) := by decide +kernel
theorem dX1_sweep_1 : decode cX1_sweep 1 = .ok (.istore_n 3, 1) := by decide +kernel
theorem dX1_sweep_2 : decode cX1_sweep 2 = .ok (.iload_n 3, 1) := by decide +kernel
theorem dX1_sweep_3 : decode cX1_sweep 3 = .ok (.iload_n 2, 1) := by decide +kernel
theorem dX1_sweep_4 : decode cX1_sweep 4 = .ok (.if_icmp .ge 46, 3) := by decide +kernel
theorem dX1_sweep_7 : decode cX1_sweep 7 = .ok (.aload_n 0, 1) := by decide +kernel
theorem dX1_sweep_8 : decode cX1_sweep 8 = .ok (.getfield 34, 3) := by decide +kernel
theorem dX1_sweep_11 : decode cX1_sweep 11 = .ok (.bipush 10, 2) := by decide +kernel
theorem dX1_sweep_13 : decode cX1_sweep 13 = .ok (.imul, 1) := by decide +kernel
theorem dX1_sweep_14 : decode cX1_sweep 14 = .ok (.aload_n 0, 1) := by decide +kernel
theorem dX1_sweep_15 : decode cX1_sweep 15 = .ok (.iload_n 1, 1) := by decide +kernel
theorem dX1_sweep_16 : decode cX1_sweep 16 = .ok (.iload_n 3, 1) := by decide +kernel
theorem dX1_sweep_17 : decode cX1_sweep 17 = .ok (.invokevirtual 63, 3) := by decide +kernel
theorem dX1_sweep_20 : decode cX1_sweep 20 = .ok (.iadd, 1) := by decide +kernel
theorem dX1_sweep_21 : decode cX1_sweep 21 = .ok (.istore 4, 2) := by decide +kernel
theorem dX1_sweep_23 : decode cX1_sweep 23 = .ok (.aload_n 0, 1) := by decide +kernel
theorem dX1_sweep_24 : decode cX1_sweep 24 = .ok (.getfield 21, 3) := by decide +kernel
theorem dX1_sweep_27 : decode cX1_sweep 27 = .ok (.iload 4, 2) := by decide +kernel
theorem dX1_sweep_29 : decode cX1_sweep 29 = .ok (.aload_n 0, 1) := by decide +kernel
theorem dX1_sweep_30 : decode cX1_sweep 30 = .ok (.getfield 21, 3) := by decide +kernel
theorem dX1_sweep_33 : decode cX1_sweep 33 = .ok (.iload 4, 2) := by decide +kernel
theorem dX1_sweep_35 : decode cX1_sweep 35 = .ok (.iaload, 1) := by decide +kernel
theorem dX1_sweep_36 : decode cX1_sweep 36 = .ok (.iconst 1, 1) := by decide +kernel
theorem dX1_sweep_37 : decode cX1_sweep 37 = .ok (.iadd, 1) := by decide +kernel
theorem dX1_sweep_38 : decode cX1_sweep 38 = .ok (.bipush 99, 2) := by decide +kernel
theorem dX1_sweep_40 : decode cX1_sweep 40 = .ok (.invokestatic 66, 3) := by decide +kernel
theorem dX1_sweep_43 : decode cX1_sweep 43 = .ok (.iastore, 1) := by decide +kernel
theorem dX1_sweep_44 : decode cX1_sweep 44 = .ok (.iinc 3 1, 3) := by decide +kernel
theorem dX1_sweep_47 : decode cX1_sweep 47 = .ok (.goto (-45), 3) := by decide +kernel
theorem dX1_sweep_50 : decode cX1_sweep 50 = .ok (.aload_n 0, 1) := by decide +kernel
theorem dX1_sweep_51 : decode cX1_sweep 51 = .ok (.iload_n 1, 1) := by decide +kernel
theorem dX1_sweep_52 : decode cX1_sweep 52 = .ok (.iload_n 2, 1) := by decide +kernel
theorem dX1_sweep_53 : decode cX1_sweep 53 = .ok (.invokevirtual 59, 3) := by decide +kernel
theorem dX1_sweep_56 : decode cX1_sweep 56 = .ok (.return_, 1) := by decide +kernel
theorem dX1_dropTips_0 : decode cX1_dropTips 0 = .ok (.iload_n 1, 1) := by decide +kernel
theorem dX1_dropTips_1 : decode cX1_dropTips 1 = .ok (.bipush 12, 2) := by decide +kernel
theorem dX1_dropTips_3 : decode cX1_dropTips 3 = .ok (.imul, 1) := by decide +kernel
theorem dX1_dropTips_4 : decode cX1_dropTips 4 = .ok (.istore_n 3, 1) := by decide +kernel
theorem dX1_dropTips_5 : decode cX1_dropTips 5 = .ok (.aload_n 0, 1) := by decide +kernel
theorem dX1_dropTips_6 : decode cX1_dropTips 6 = .ok (.getfield 9, 3) := by decide +kernel
theorem dX1_dropTips_9 : decode cX1_dropTips 9 = .ok (.iload_n 1, 1) := by decide +kernel
theorem dX1_dropTips_10 : decode cX1_dropTips 10 = .ok (.dup2, 1) := by decide +kernel
theorem dX1_dropTips_11 : decode cX1_dropTips 11 = .ok (.iaload, 1) := by decide +kernel
theorem dX1_dropTips_12 : decode cX1_dropTips 12 = .ok (.iload_n 2, 1) := by decide +kernel
theorem dX1_dropTips_13 : decode cX1_dropTips 13 = .ok (.isub, 1) := by decide +kernel
theorem dX1_dropTips_14 : decode cX1_dropTips 14 = .ok (.iastore, 1) := by decide +kernel
theorem dX1_dropTips_15 : decode cX1_dropTips 15 = .ok (.iconst 0, 1) := by decide +kernel
theorem dX1_dropTips_16 : decode cX1_dropTips 16 = .ok (.istore 4, 2) := by decide +kernel
theorem dX1_dropTips_18 : decode cX1_dropTips 18 = .ok (.iload 4, 2) := by decide +kernel
theorem dX1_dropTips_20 : decode cX1_dropTips 20 = .ok (.aload_n 0, 1) := by decide +kernel
theorem dX1_dropTips_21 : decode cX1_dropTips 21 = .ok (.getfield 9, 3) := by decide +kernel
theorem dX1_dropTips_24 : decode cX1_dropTips 24 = .ok (.iload_n 1, 1) := by decide +kernel
theorem dX1_dropTips_25 : decode cX1_dropTips 25 = .ok (.iaload, 1) := by decide +kernel
theorem dX1_dropTips_26 : decode cX1_dropTips 26 = .ok (.if_icmp .ge 29, 3) := by decide +kernel
theorem dX1_dropTips_29 : decode cX1_dropTips 29 = .ok (.aload_n 0, 1) := by decide +kernel
theorem dX1_dropTips_30 : decode cX1_dropTips 30 = .ok (.getfield 18, 3) := by decide +kernel
theorem dX1_dropTips_33 : decode cX1_dropTips 33 = .ok (.iload_n 3, 1) := by decide +kernel
theorem dX1_dropTips_34 : decode cX1_dropTips 34 = .ok (.iload 4, 2) := by decide +kernel
theorem dX1_dropTips_36 : decode cX1_dropTips 36 = .ok (.iadd, 1) := by decide +kernel
theorem dX1_dropTips_37 : decode cX1_dropTips 37 = .ok (.aload_n 0, 1) := by decide +kernel
theorem dX1_dropTips_38 : decode cX1_dropTips 38 = .ok (.getfield 18, 3) := by decide +kernel
theorem dX1_dropTips_41 : decode cX1_dropTips 41 = .ok (.iload_n 3, 1) := by decide +kernel
theorem dX1_dropTips_42 : decode cX1_dropTips 42 = .ok (.iload_n 2, 1) := by decide +kernel
theorem dX1_dropTips_43 : decode cX1_dropTips 43 = .ok (.iadd, 1) := by decide +kernel
theorem dX1_dropTips_44 : decode cX1_dropTips 44 = .ok (.iload 4, 2) := by decide +kernel
theorem dX1_dropTips_46 : decode cX1_dropTips 46 = .ok (.iadd, 1) := by decide +kernel
theorem dX1_dropTips_47 : decode cX1_dropTips 47 = .ok (.iaload, 1) := by decide +kernel
theorem dX1_dropTips_48 : decode cX1_dropTips 48 = .ok (.iastore, 1) := by decide +kernel
theorem dX1_dropTips_49 : decode cX1_dropTips 49 = .ok (.iinc 4 1, 3) := by decide +kernel
theorem dX1_dropTips_52 : decode cX1_dropTips 52 = .ok (.goto (-34), 3) := by decide +kernel
theorem dX1_dropTips_55 : decode cX1_dropTips 55 = .ok (.return_, 1) := by decide +kernel
theorem dX1_pourOut_0 : decode cX1_pourOut 0 = .ok (.iconst 0, 1) := by decide +kernel
theorem dX1_pourOut_1 : decode cX1_pourOut 1 = .ok (.istore_n 2, 1) := by decide +kernel
theorem dX1_pourOut_2 : decode cX1_pourOut 2 = .ok (.iload_n 2, 1) := by decide +kernel
theorem dX1_pourOut_3 : decode cX1_pourOut 3 = .ok (.bipush 10, 2) := by decide +kernel
theorem dX1_pourOut_5 : decode cX1_pourOut 5 = .ok (.if_icmp .ge 21, 3) := by decide +kernel
theorem dX1_pourOut_8 : decode cX1_pourOut 8 = .ok (.aload_n 0, 1) := by decide +kernel
theorem dX1_pourOut_9 : decode cX1_pourOut 9 = .ok (.getfield 21, 3) := by decide +kernel
theorem dX1_pourOut_12 : decode cX1_pourOut 12 = .ok (.iload_n 1, 1) := by decide +kernel
theorem dX1_pourOut_13 : decode cX1_pourOut 13 = .ok (.bipush 10, 2) := by decide +kernel
theorem dX1_pourOut_15 : decode cX1_pourOut 15 = .ok (.imul, 1) := by decide +kernel
theorem dX1_pourOut_16 : decode cX1_pourOut 16 = .ok (.iload_n 2, 1) := by decide +kernel
theorem dX1_pourOut_17 : decode cX1_pourOut 17 = .ok (.iadd, 1) := by decide +kernel
theorem dX1_pourOut_18 : decode cX1_pourOut 18 = .ok (.iconst 0, 1) := by decide +kernel
theorem dX1_pourOut_19 : decode cX1_pourOut 19 = .ok (.iastore, 1) := by decide +kernel
theorem dX1_pourOut_20 : decode cX1_pourOut 20 = .ok (.iinc 2 1, 3) := by decide +kernel
theorem dX1_pourOut_23 : decode cX1_pourOut 23 = .ok (.goto (-21), 3) := by decide +kernel
theorem dX1_pourOut_26 : decode cX1_pourOut 26 = .ok (.return_, 1) := by decide +kernel
theorem dX1_layersOf_0 : decode cX1_layersOf 0 = .ok (.iconst 0, 1) := by decide +kernel
theorem dX1_layersOf_1 : decode cX1_layersOf 1 = .ok (.istore_n 3, 1) := by decide +kernel
theorem dX1_layersOf_2 : decode cX1_layersOf 2 = .ok (.iconst 0, 1) := by decide +kernel
theorem dX1_layersOf_3 : decode cX1_layersOf 3 = .ok (.istore 4, 2) := by decide +kernel
theorem dX1_layersOf_5 : decode cX1_layersOf 5 = .ok (.iload 4, 2) := by decide +kernel
theorem dX1_layersOf_7 : decode cX1_layersOf 7 = .ok (.aload_n 0, 1) := by decide +kernel
theorem dX1_layersOf_8 : decode cX1_layersOf 8 = .ok (.getfield 9, 3) := by decide +kernel
theorem dX1_layersOf_11 : decode cX1_layersOf 11 = .ok (.iload_n 1, 1) := by decide +kernel
theorem dX1_layersOf_12 : decode cX1_layersOf 12 = .ok (.iaload, 1) := by decide +kernel
theorem dX1_layersOf_13 : decode cX1_layersOf 13 = .ok (.if_icmp .ge 23, 3) := by decide +kernel
theorem dX1_layersOf_16 : decode cX1_layersOf 16 = .ok (.aload_n 0, 1) := by decide +kernel
theorem dX1_layersOf_17 : decode cX1_layersOf 17 = .ok (.iload_n 1, 1) := by decide +kernel
theorem dX1_layersOf_18 : decode cX1_layersOf 18 = .ok (.iload 4, 2) := by decide +kernel
theorem dX1_layersOf_20 : decode cX1_layersOf 20 = .ok (.invokevirtual 63, 3) := by decide +kernel
theorem dX1_layersOf_23 : decode cX1_layersOf 23 = .ok (.iload_n 2, 1) := by decide +kernel
theorem dX1_layersOf_24 : decode cX1_layersOf 24 = .ok (.if_icmp .ne 6, 3) := by decide +kernel
theorem dX1_layersOf_27 : decode cX1_layersOf 27 = .ok (.iinc 3 1, 3) := by decide +kernel
theorem dX1_layersOf_30 : decode cX1_layersOf 30 = .ok (.iinc 4 1, 3) := by decide +kernel
theorem dX1_layersOf_33 : decode cX1_layersOf 33 = .ok (.goto (-28), 3) := by decide +kernel
theorem dX1_layersOf_36 : decode cX1_layersOf 36 = .ok (.iload_n 3, 1) := by decide +kernel
theorem dX1_layersOf_37 : decode cX1_layersOf 37 = .ok (.ireturn, 1) := by decide +kernel
theorem dX1_thoughtsIn_0 : decode cX1_thoughtsIn 0 = .ok (.iconst 0, 1) := by decide +kernel
theorem dX1_thoughtsIn_1 : decode cX1_thoughtsIn 1 = .ok (.istore_n 2, 1) := by decide +kernel
theorem dX1_thoughtsIn_2 : decode cX1_thoughtsIn 2 = .ok (.iconst 0, 1) := by decide +kernel
theorem dX1_thoughtsIn_3 : decode cX1_thoughtsIn 3 = .ok (.istore_n 3, 1) := by decide +kernel
theorem dX1_thoughtsIn_4 : decode cX1_thoughtsIn 4 = .ok (.iload_n 3, 1) := by decide +kernel
theorem dX1_thoughtsIn_5 : decode cX1_thoughtsIn 5 = .ok (.aload_n 0, 1) := by decide +kernel
theorem dX1_thoughtsIn_6 : decode cX1_thoughtsIn 6 = .ok (.getfield 9, 3) := by decide +kernel
theorem dX1_thoughtsIn_9 : decode cX1_thoughtsIn 9 = .ok (.iload_n 1, 1) := by decide +kernel
theorem dX1_thoughtsIn_10 : decode cX1_thoughtsIn 10 = .ok (.iaload, 1) := by decide +kernel
theorem dX1_thoughtsIn_11 : decode cX1_thoughtsIn 11 = .ok (.if_icmp .ge 20, 3) := by decide +kernel
theorem dX1_thoughtsIn_14 : decode cX1_thoughtsIn 14 = .ok (.iload_n 2, 1) := by decide +kernel
theorem dX1_thoughtsIn_15 : decode cX1_thoughtsIn 15 = .ok (.iconst 1, 1) := by decide +kernel
theorem dX1_thoughtsIn_16 : decode cX1_thoughtsIn 16 = .ok (.aload_n 0, 1) := by decide +kernel
theorem dX1_thoughtsIn_17 : decode cX1_thoughtsIn 17 = .ok (.iload_n 1, 1) := by decide +kernel
theorem dX1_thoughtsIn_18 : decode cX1_thoughtsIn 18 = .ok (.iload_n 3, 1) := by decide +kernel
theorem dX1_thoughtsIn_19 : decode cX1_thoughtsIn 19 = .ok (.invokevirtual 63, 3) := by decide +kernel
theorem dX1_thoughtsIn_22 : decode cX1_thoughtsIn 22 = .ok (.ishl, 1) := by decide +kernel
theorem dX1_thoughtsIn_23 : decode cX1_thoughtsIn 23 = .ok (.ior, 1) := by decide +kernel
theorem dX1_thoughtsIn_24 : decode cX1_thoughtsIn 24 = .ok (.istore_n 2, 1) := by decide +kernel
theorem dX1_thoughtsIn_25 : decode cX1_thoughtsIn 25 = .ok (.iinc 3 1, 3) := by decide +kernel
theorem dX1_thoughtsIn_28 : decode cX1_thoughtsIn 28 = .ok (.goto (-24), 3) := by decide +kernel
theorem dX1_thoughtsIn_31 : decode cX1_thoughtsIn 31 = .ok (.iload_n 2, 1) := by decide +kernel
theorem dX1_thoughtsIn_32 : decode cX1_thoughtsIn 32 = .ok (.ireturn, 1) := by decide +kernel
theorem dX1_rootOf_0 : decode cX1_rootOf 0 = .ok (.aload_n 0, 1) := by decide +kernel
theorem dX1_rootOf_1 : decode cX1_rootOf 1 = .ok (.getfield 9, 3) := by decide +kernel
theorem dX1_rootOf_4 : decode cX1_rootOf 4 = .ok (.iload_n 1, 1) := by decide +kernel
theorem dX1_rootOf_5 : decode cX1_rootOf 5 = .ok (.iaload, 1) := by decide +kernel
theorem dX1_rootOf_6 : decode cX1_rootOf 6 = .ok (.ifCond .le 19, 3) := by decide +kernel
theorem dX1_rootOf_9 : decode cX1_rootOf 9 = .ok (.aload_n 0, 1) := by decide +kernel
theorem dX1_rootOf_10 : decode cX1_rootOf 10 = .ok (.iload_n 1, 1) := by decide +kernel
theorem dX1_rootOf_11 : decode cX1_rootOf 11 = .ok (.aload_n 0, 1) := by decide +kernel
theorem dX1_rootOf_12 : decode cX1_rootOf 12 = .ok (.getfield 9, 3) := by decide +kernel
theorem dX1_rootOf_15 : decode cX1_rootOf 15 = .ok (.iload_n 1, 1) := by decide +kernel
theorem dX1_rootOf_16 : decode cX1_rootOf 16 = .ok (.iaload, 1) := by decide +kernel
theorem dX1_rootOf_17 : decode cX1_rootOf 17 = .ok (.iconst 1, 1) := by decide +kernel
theorem dX1_rootOf_18 : decode cX1_rootOf 18 = .ok (.isub, 1) := by decide +kernel
theorem dX1_rootOf_19 : decode cX1_rootOf 19 = .ok (.invokevirtual 63, 3) := by decide +kernel
theorem dX1_rootOf_22 : decode cX1_rootOf 22 = .ok (.goto 4, 3) := by decide +kernel
theorem dX1_rootOf_25 : decode cX1_rootOf 25 = .ok (.iconst (-1), 1) := by decide +kernel
theorem dX1_rootOf_26 : decode cX1_rootOf 26 = .ok (.ireturn, 1) := by decide +kernel
theorem dX1_sweptInto_0 : decode cX1_sweptInto 0 = .ok (.iconst 0, 1) := by decide +kernel
theorem dX1_sweptInto_1 : decode cX1_sweptInto 1 = .ok (.istore_n 2, 1) := by decide +kernel
theorem dX1_sweptInto_2 : decode cX1_sweptInto 2 = .ok (.iconst 0, 1) := by decide +kernel
theorem dX1_sweptInto_3 : decode cX1_sweptInto 3 = .ok (.istore_n 3, 1) := by decide +kernel
theorem dX1_sweptInto_4 : decode cX1_sweptInto 4 = .ok (.iload_n 3, 1) := by decide +kernel
theorem dX1_sweptInto_5 : decode cX1_sweptInto 5 = .ok (.bipush 10, 2) := by decide +kernel
theorem dX1_sweptInto_7 : decode cX1_sweptInto 7 = .ok (.if_icmp .ge 18, 3) := by decide +kernel
theorem dX1_sweptInto_10 : decode cX1_sweptInto 10 = .ok (.iload_n 2, 1) := by decide +kernel
theorem dX1_sweptInto_11 : decode cX1_sweptInto 11 = .ok (.aload_n 0, 1) := by decide +kernel
theorem dX1_sweptInto_12 : decode cX1_sweptInto 12 = .ok (.iload_n 1, 1) := by decide +kernel
theorem dX1_sweptInto_13 : decode cX1_sweptInto 13 = .ok (.iload_n 3, 1) := by decide +kernel
theorem dX1_sweptInto_14 : decode cX1_sweptInto 14 = .ok (.invokevirtual 71, 3) := by decide +kernel
theorem dX1_sweptInto_17 : decode cX1_sweptInto 17 = .ok (.iadd, 1) := by decide +kernel
theorem dX1_sweptInto_18 : decode cX1_sweptInto 18 = .ok (.istore_n 2, 1) := by decide +kernel
theorem dX1_sweptInto_19 : decode cX1_sweptInto 19 = .ok (.iinc 3 1, 3) := by decide +kernel
theorem dX1_sweptInto_22 : decode cX1_sweptInto 22 = .ok (.goto (-18), 3) := by decide +kernel
theorem dX1_sweptInto_25 : decode cX1_sweptInto 25 = .ok (.iload_n 2, 1) := by decide +kernel
theorem dX1_sweptInto_26 : decode cX1_sweptInto 26 = .ok (.ireturn, 1) := by decide +kernel
theorem dX2_init_0 : decode cX2_init 0 = .ok (.aload_n 0, 1) := by decide +kernel
theorem dX2_init_1 : decode cX2_init 1 = .ok (.invokespecial 3, 3) := by decide +kernel
theorem dX2_init_4 : decode cX2_init 4 = .ok (.aload_n 0, 1) := by decide +kernel
theorem dX2_init_5 : decode cX2_init 5 = .ok (.new 9, 3) := by decide +kernel
theorem dX2_init_8 : decode cX2_init 8 = .ok (.dup, 1) := by decide +kernel
theorem dX2_init_9 : decode cX2_init 9 = .ok (.invokespecial 11, 3) := by decide +kernel
theorem dX2_init_12 : decode cX2_init 12 = .ok (.putfield 12, 3) := by decide +kernel
theorem dX2_init_15 : decode cX2_init 15 = .ok (.aload_n 0, 1) := by decide +kernel
theorem dX2_init_16 : decode cX2_init 16 = .ok (.aload_n 1, 1) := by decide +kernel
theorem dX2_init_17 : decode cX2_init 17 = .ok (.putfield 18, 3) := by decide +kernel
theorem dX2_init_20 : decode cX2_init 20 = .ok (.return_, 1) := by decide +kernel
theorem dX2_tellAll_0 : decode cX2_tellAll 0 = .ok (.aload_n 0, 1) := by decide +kernel
theorem dX2_tellAll_1 : decode cX2_tellAll 1 = .ok (.getfield 12, 3) := by decide +kernel
theorem dX2_tellAll_4 : decode cX2_tellAll 4 = .ok (.invokevirtual 22, 3) := by decide +kernel
theorem dX2_tellAll_7 : decode cX2_tellAll 7 = .ok (.aload_n 0, 1) := by decide +kernel
theorem dX2_tellAll_8 : decode cX2_tellAll 8 = .ok (.iconst 0, 1) := by decide +kernel
theorem dX2_tellAll_9 : decode cX2_tellAll 9 = .ok (.putfield 25, 3) := by decide +kernel
theorem dX2_tellAll_12 : decode cX2_tellAll 12 = .ok (.aload_n 0, 1) := by decide +kernel
theorem dX2_tellAll_13 : decode cX2_tellAll 13 = .ok (.iconst 0, 1) := by decide +kernel
theorem dX2_tellAll_14 : decode cX2_tellAll 14 = .ok (.putfield 29, 3) := by decide +kernel
theorem dX2_tellAll_17 : decode cX2_tellAll 17 = .ok (.aload_n 0, 1) := by decide +kernel
theorem dX2_tellAll_18 : decode cX2_tellAll 18 = .ok (.iconst 0, 1) := by decide +kernel
theorem dX2_tellAll_19 : decode cX2_tellAll 19 = .ok (.putfield 32, 3) := by decide +kernel
theorem dX2_tellAll_22 : decode cX2_tellAll 22 = .ok (.aload_n 0, 1) := by decide +kernel
theorem dX2_tellAll_23 : decode cX2_tellAll 23 = .ok (.invokevirtual 36, 3) := by decide +kernel
theorem dX2_tellAll_26 : decode cX2_tellAll 26 = .ok (.iconst 0, 1) := by decide +kernel
theorem dX2_tellAll_27 : decode cX2_tellAll 27 = .ok (.istore_n 1, 1) := by decide +kernel
theorem dX2_tellAll_28 : decode cX2_tellAll 28 = .ok (.iload_n 1, 1) := by decide +kernel
theorem dX2_tellAll_29 : decode cX2_tellAll 29 = .ok (.bipush 120, 2) := by decide +kernel
theorem dX2_tellAll_31 : decode cX2_tellAll 31 = .ok (.if_icmp .ge 43, 3) := by decide +kernel
theorem dX2_tellAll_34 : decode cX2_tellAll 34 = .ok (.aload_n 0, 1) := by decide +kernel
theorem dX2_tellAll_35 : decode cX2_tellAll 35 = .ok (.getfield 39, 3) := by decide +kernel
theorem dX2_tellAll_38 : decode cX2_tellAll 38 = .ok (.ifCond .eq 36, 3) := by decide +kernel
theorem dX2_tellAll_41 : decode cX2_tellAll 41 = .ok (.aload_n 0, 1) := by decide +kernel
theorem dX2_tellAll_42 : decode cX2_tellAll 42 = .ok (.invokevirtual 42, 3) := by decide +kernel
theorem dX2_tellAll_45 : decode cX2_tellAll 45 = .ok (.ifCond .eq 11, 3) := by decide +kernel
theorem dX2_tellAll_48 : decode cX2_tellAll 48 = .ok (.aload_n 0, 1) := by decide +kernel
theorem dX2_tellAll_49 : decode cX2_tellAll 49 = .ok (.getfield 39, 3) := by decide +kernel
theorem dX2_tellAll_52 : decode cX2_tellAll 52 = .ok (.iconst 3, 1) := by decide +kernel
theorem dX2_tellAll_53 : decode cX2_tellAll 53 = .ok (.if_icmp .eq 11, 3) := by decide +kernel
theorem dX2_tellAll_56 : decode cX2_tellAll 56 = .ok (.bipush (-10), 2) := by decide +kernel
theorem dX2_tellAll_58 : decode cX2_tellAll 58 = .ok (.aload_n 0, 1) := by decide +kernel
theorem dX2_tellAll_59 : decode cX2_tellAll 59 = .ok (.getfield 46, 3) := by decide +kernel
theorem dX2_tellAll_62 : decode cX2_tellAll 62 = .ok (.isub, 1) := by decide +kernel
theorem dX2_tellAll_63 : decode cX2_tellAll 63 = .ok (.ireturn, 1) := by decide +kernel
theorem dX2_tellAll_64 : decode cX2_tellAll 64 = .ok (.aload_n 0, 1) := by decide +kernel
theorem dX2_tellAll_65 : decode cX2_tellAll 65 = .ok (.invokevirtual 36, 3) := by decide +kernel
theorem dX2_tellAll_68 : decode cX2_tellAll 68 = .ok (.iinc 1 1, 3) := by decide +kernel
theorem dX2_tellAll_71 : decode cX2_tellAll 71 = .ok (.goto (-43), 3) := by decide +kernel
theorem dX2_tellAll_74 : decode cX2_tellAll 74 = .ok (.iload_n 1, 1) := by decide +kernel
theorem dX2_tellAll_75 : decode cX2_tellAll 75 = .ok (.ireturn, 1) := by decide +kernel
theorem dX2_tellItem_0 : decode cX2_tellItem 0 = .ok (.aload_n 0, 1) := by decide +kernel
theorem dX2_tellItem_1 : decode cX2_tellItem 1 = .ok (.getfield 49, 3) := by decide +kernel
theorem dX2_tellItem_4 : decode cX2_tellItem 4 = .ok (.istore_n 1, 1) := by decide +kernel
theorem dX2_tellItem_5 : decode cX2_tellItem 5 = .ok (.aload_n 0, 1) := by decide +kernel
theorem dX2_tellItem_6 : decode cX2_tellItem 6 = .ok (.getfield 39, 3) := by decide +kernel
theorem dX2_tellItem_9 : decode cX2_tellItem 9 = .ok (.iconst 1, 1) := by decide +kernel
theorem dX2_tellItem_10 : decode cX2_tellItem 10 = .ok (.if_icmp .ne 11, 3) := by decide +kernel
theorem dX2_tellItem_13 : decode cX2_tellItem 13 = .ok (.aload_n 0, 1) := by decide +kernel
theorem dX2_tellItem_14 : decode cX2_tellItem 14 = .ok (.iload_n 1, 1) := by decide +kernel
theorem dX2_tellItem_15 : decode cX2_tellItem 15 = .ok (.invokevirtual 52, 3) := by decide +kernel
theorem dX2_tellItem_18 : decode cX2_tellItem 18 = .ok (.ifCond .ne 5, 3) := by decide +kernel
theorem dX2_tellItem_21 : decode cX2_tellItem 21 = .ok (.iconst 0, 1) := by decide +kernel
theorem dX2_tellItem_22 : decode cX2_tellItem 22 = .ok (.ireturn, 1) := by decide +kernel
theorem dX2_tellItem_23 : decode cX2_tellItem 23 = .ok (.aload_n 0, 1) := by decide +kernel
theorem dX2_tellItem_24 : decode cX2_tellItem 24 = .ok (.invokevirtual 36, 3) := by decide +kernel
theorem dX2_tellItem_27 : decode cX2_tellItem 27 = .ok (.iload_n 1, 1) := by decide +kernel
theorem dX2_tellItem_28 : decode cX2_tellItem 28 = .ok (.lookupswitch 45 #[(109, 40), (112, 28)], 28) := by decide +kernel
theorem dX2_tellItem_56 : decode cX2_tellItem 56 = .ok (.aload_n 0, 1) := by decide +kernel
theorem dX2_tellItem_57 : decode cX2_tellItem 57 = .ok (.aload_n 0, 1) := by decide +kernel
theorem dX2_tellItem_58 : decode cX2_tellItem 58 = .ok (.getfield 12, 3) := by decide +kernel
theorem dX2_tellItem_61 : decode cX2_tellItem 61 = .ok (.getfield 56, 3) := by decide +kernel
theorem dX2_tellItem_64 : decode cX2_tellItem 64 = .ok (.invokevirtual 59, 3) := by decide +kernel
theorem dX2_tellItem_67 : decode cX2_tellItem 67 = .ok (.ireturn, 1) := by decide +kernel
theorem dX2_tellItem_68 : decode cX2_tellItem 68 = .ok (.aload_n 0, 1) := by decide +kernel
theorem dX2_tellItem_69 : decode cX2_tellItem 69 = .ok (.invokevirtual 62, 3) := by decide +kernel
theorem dX2_tellItem_72 : decode cX2_tellItem 72 = .ok (.ireturn, 1) := by decide +kernel
theorem dX2_tellItem_73 : decode cX2_tellItem 73 = .ok (.aload_n 0, 1) := by decide +kernel
theorem dX2_tellItem_74 : decode cX2_tellItem 74 = .ok (.invokevirtual 65, 3) := by decide +kernel
theorem dX2_tellItem_77 : decode cX2_tellItem 77 = .ok (.ireturn, 1) := by decide +kernel
theorem dX2_mayBegin_0 : decode cX2_mayBegin 0 = .ok (.iload_n 1, 1) := by decide +kernel
theorem dX2_mayBegin_1 : decode cX2_mayBegin 1 = .ok (.lookupswitch 78 #[(106, 65), (109, 52), (112, 35)], 35) := by decide +kernel
theorem dX2_mayBegin_36 : decode cX2_mayBegin 36 = .ok (.aload_n 0, 1) := by decide +kernel
theorem dX2_mayBegin_37 : decode cX2_mayBegin 37 = .ok (.getfield 12, 3) := by decide +kernel
theorem dX2_mayBegin_40 : decode cX2_mayBegin 40 = .ok (.getfield 56, 3) := by decide +kernel
theorem dX2_mayBegin_43 : decode cX2_mayBegin 43 = .ok (.iconst 5, 1) := by decide +kernel
theorem dX2_mayBegin_44 : decode cX2_mayBegin 44 = .ok (.if_icmp .ge 7, 3) := by decide +kernel
theorem dX2_mayBegin_47 : decode cX2_mayBegin 47 = .ok (.iconst 1, 1) := by decide +kernel
theorem dX2_mayBegin_48 : decode cX2_mayBegin 48 = .ok (.goto 4, 3) := by decide +kernel
theorem dX2_mayBegin_51 : decode cX2_mayBegin 51 = .ok (.iconst 0, 1) := by decide +kernel
theorem dX2_mayBegin_52 : decode cX2_mayBegin 52 = .ok (.ireturn, 1) := by decide +kernel
theorem dX2_mayBegin_53 : decode cX2_mayBegin 53 = .ok (.aload_n 0, 1) := by decide +kernel
theorem dX2_mayBegin_54 : decode cX2_mayBegin 54 = .ok (.getfield 25, 3) := by decide +kernel
theorem dX2_mayBegin_57 : decode cX2_mayBegin 57 = .ok (.ifCond .ne 7, 3) := by decide +kernel
theorem dX2_mayBegin_60 : decode cX2_mayBegin 60 = .ok (.iconst 1, 1) := by decide +kernel
theorem dX2_mayBegin_61 : decode cX2_mayBegin 61 = .ok (.goto 4, 3) := by decide +kernel
theorem dX2_mayBegin_64 : decode cX2_mayBegin 64 = .ok (.iconst 0, 1) := by decide +kernel
theorem dX2_mayBegin_65 : decode cX2_mayBegin 65 = .ok (.ireturn, 1) := by decide +kernel
theorem dX2_mayBegin_66 : decode cX2_mayBegin 66 = .ok (.aload_n 0, 1) := by decide +kernel
theorem dX2_mayBegin_67 : decode cX2_mayBegin 67 = .ok (.getfield 29, 3) := by decide +kernel
theorem dX2_mayBegin_70 : decode cX2_mayBegin 70 = .ok (.ifCond .ne 7, 3) := by decide +kernel
theorem dX2_mayBegin_73 : decode cX2_mayBegin 73 = .ok (.iconst 1, 1) := by decide +kernel
theorem dX2_mayBegin_74 : decode cX2_mayBegin 74 = .ok (.goto 4, 3) := by decide +kernel
theorem dX2_mayBegin_77 : decode cX2_mayBegin 77 = .ok (.iconst 0, 1) := by decide +kernel
theorem dX2_mayBegin_78 : decode cX2_mayBegin 78 = .ok (.ireturn, 1) := by decide +kernel
theorem dX2_mayBegin_79 : decode cX2_mayBegin 79 = .ok (.iconst 0, 1) := by decide +kernel
theorem dX2_mayBegin_80 : decode cX2_mayBegin 80 = .ok (.ireturn, 1) := by decide +kernel
theorem dX2_tellOne_0 : decode cX2_tellOne 0 = .ok (.aload_n 0, 1) := by decide +kernel
theorem dX2_tellOne_1 : decode cX2_tellOne 1 = .ok (.iconst 0, 1) := by decide +kernel
theorem dX2_tellOne_2 : decode cX2_tellOne 2 = .ok (.bipush 9, 2) := by decide +kernel
theorem dX2_tellOne_4 : decode cX2_tellOne 4 = .ok (.invokevirtual 68, 3) := by decide +kernel
theorem dX2_tellOne_7 : decode cX2_tellOne 7 = .ok (.ifCond .ne 5, 3) := by decide +kernel
theorem dX2_tellOne_10 : decode cX2_tellOne 10 = .ok (.iconst 0, 1) := by decide +kernel
theorem dX2_tellOne_11 : decode cX2_tellOne 11 = .ok (.ireturn, 1) := by decide +kernel
theorem dX2_tellOne_12 : decode cX2_tellOne 12 = .ok (.aload_n 0, 1) := by decide +kernel
theorem dX2_tellOne_13 : decode cX2_tellOne 13 = .ok (.getfield 12, 3) := by decide +kernel
theorem dX2_tellOne_16 : decode cX2_tellOne 16 = .ok (.getfield 72, 3) := by decide +kernel
theorem dX2_tellOne_19 : decode cX2_tellOne 19 = .ok (.iload_n 1, 1) := by decide +kernel
theorem dX2_tellOne_20 : decode cX2_tellOne 20 = .ok (.aload_n 0, 1) := by decide +kernel
theorem dX2_tellOne_21 : decode cX2_tellOne 21 = .ok (.getfield 49, 3) := by decide +kernel
theorem dX2_tellOne_24 : decode cX2_tellOne 24 = .ok (.iastore, 1) := by decide +kernel
theorem dX2_tellOne_25 : decode cX2_tellOne 25 = .ok (.aload_n 0, 1) := by decide +kernel
theorem dX2_tellOne_26 : decode cX2_tellOne 26 = .ok (.invokevirtual 36, 3) := by decide +kernel
theorem dX2_tellOne_29 : decode cX2_tellOne 29 = .ok (.iconst 0, 1) := by decide +kernel
theorem dX2_tellOne_30 : decode cX2_tellOne 30 = .ok (.istore_n 2, 1) := by decide +kernel
theorem dX2_tellOne_31 : decode cX2_tellOne 31 = .ok (.iload_n 2, 1) := by decide +kernel
theorem dX2_tellOne_32 : decode cX2_tellOne 32 = .ok (.bipush 7, 2) := by decide +kernel
theorem dX2_tellOne_34 : decode cX2_tellOne 34 = .ok (.if_icmp .ge 41, 3) := by decide +kernel
theorem dX2_tellOne_37 : decode cX2_tellOne 37 = .ok (.aload_n 0, 1) := by decide +kernel
theorem dX2_tellOne_38 : decode cX2_tellOne 38 = .ok (.iconst 0, 1) := by decide +kernel
theorem dX2_tellOne_39 : decode cX2_tellOne 39 = .ok (.bipush 9, 2) := by decide +kernel
theorem dX2_tellOne_41 : decode cX2_tellOne 41 = .ok (.invokevirtual 68, 3) := by decide +kernel
theorem dX2_tellOne_44 : decode cX2_tellOne 44 = .ok (.ifCond .eq 31, 3) := by decide +kernel
theorem dX2_tellOne_47 : decode cX2_tellOne 47 = .ok (.aload_n 0, 1) := by decide +kernel
theorem dX2_tellOne_48 : decode cX2_tellOne 48 = .ok (.getfield 12, 3) := by decide +kernel
theorem dX2_tellOne_51 : decode cX2_tellOne 51 = .ok (.getfield 76, 3) := by decide +kernel
theorem dX2_tellOne_54 : decode cX2_tellOne 54 = .ok (.iload_n 1, 1) := by decide +kernel
theorem dX2_tellOne_55 : decode cX2_tellOne 55 = .ok (.bipush 7, 2) := by decide +kernel
theorem dX2_tellOne_57 : decode cX2_tellOne 57 = .ok (.imul, 1) := by decide +kernel
theorem dX2_tellOne_58 : decode cX2_tellOne 58 = .ok (.iload_n 2, 1) := by decide +kernel
theorem dX2_tellOne_59 : decode cX2_tellOne 59 = .ok (.iadd, 1) := by decide +kernel
theorem dX2_tellOne_60 : decode cX2_tellOne 60 = .ok (.aload_n 0, 1) := by decide +kernel
theorem dX2_tellOne_61 : decode cX2_tellOne 61 = .ok (.getfield 49, 3) := by decide +kernel
theorem dX2_tellOne_64 : decode cX2_tellOne 64 = .ok (.iastore, 1) := by decide +kernel
theorem dX2_tellOne_65 : decode cX2_tellOne 65 = .ok (.iinc 2 1, 3) := by decide +kernel
theorem dX2_tellOne_68 : decode cX2_tellOne 68 = .ok (.aload_n 0, 1) := by decide +kernel
theorem dX2_tellOne_69 : decode cX2_tellOne 69 = .ok (.invokevirtual 36, 3) := by decide +kernel
theorem dX2_tellOne_72 : decode cX2_tellOne 72 = .ok (.goto (-41), 3) := by decide +kernel
theorem dX2_tellOne_75 : decode cX2_tellOne 75 = .ok (.aload_n 0, 1) := by decide +kernel
theorem dX2_tellOne_76 : decode cX2_tellOne 76 = .ok (.getfield 12, 3) := by decide +kernel
theorem dX2_tellOne_79 : decode cX2_tellOne 79 = .ok (.getfield 79, 3) := by decide +kernel
theorem dX2_tellOne_82 : decode cX2_tellOne 82 = .ok (.iload_n 1, 1) := by decide +kernel
theorem dX2_tellOne_83 : decode cX2_tellOne 83 = .ok (.iload_n 2, 1) := by decide +kernel
theorem dX2_tellOne_84 : decode cX2_tellOne 84 = .ok (.iastore, 1) := by decide +kernel
theorem dX2_tellOne_85 : decode cX2_tellOne 85 = .ok (.aload_n 0, 1) := by decide +kernel
theorem dX2_tellOne_86 : decode cX2_tellOne 86 = .ok (.getfield 12, 3) := by decide +kernel
theorem dX2_tellOne_89 : decode cX2_tellOne 89 = .ok (.dup, 1) := by decide +kernel
theorem dX2_tellOne_90 : decode cX2_tellOne 90 = .ok (.getfield 56, 3) := by decide +kernel
theorem dX2_tellOne_93 : decode cX2_tellOne 93 = .ok (.iconst 1, 1) := by decide +kernel
theorem dX2_tellOne_94 : decode cX2_tellOne 94 = .ok (.iadd, 1) := by decide +kernel
theorem dX2_tellOne_95 : decode cX2_tellOne 95 = .ok (.putfield 56, 3) := by decide +kernel
theorem dX2_tellOne_98 : decode cX2_tellOne 98 = .ok (.iload_n 2, 1) := by decide +kernel
theorem dX2_tellOne_99 : decode cX2_tellOne 99 = .ok (.ifCond .le 7, 3) := by decide +kernel
theorem dX2_tellOne_102 : decode cX2_tellOne 102 = .ok (.iconst 1, 1) := by decide +kernel
theorem dX2_tellOne_103 : decode cX2_tellOne 103 = .ok (.goto 4, 3) := by decide +kernel
theorem dX2_tellOne_106 : decode cX2_tellOne 106 = .ok (.iconst 0, 1) := by decide +kernel
theorem dX2_tellOne_107 : decode cX2_tellOne 107 = .ok (.ireturn, 1) := by decide +kernel
theorem dX2_tellLongest_0 : decode cX2_tellLongest 0 = .ok (.aload_n 0, 1) := by decide +kernel
theorem dX2_tellLongest_1 : decode cX2_tellLongest 1 = .ok (.iconst 1, 1) := by decide +kernel
theorem dX2_tellLongest_2 : decode cX2_tellLongest 2 = .ok (.bipush 12, 2) := by decide +kernel
theorem dX2_tellLongest_4 : decode cX2_tellLongest 4 = .ok (.invokevirtual 68, 3) := by decide +kernel
theorem dX2_tellLongest_7 : decode cX2_tellLongest 7 = .ok (.ifCond .ne 5, 3) := by decide +kernel
theorem dX2_tellLongest_10 : decode cX2_tellLongest 10 = .ok (.iconst 0, 1) := by decide +kernel
theorem dX2_tellLongest_11 : decode cX2_tellLongest 11 = .ok (.ireturn, 1) := by decide +kernel
theorem dX2_tellLongest_12 : decode cX2_tellLongest 12 = .ok (.aload_n 0, 1) := by decide +kernel
theorem dX2_tellLongest_13 : decode cX2_tellLongest 13 = .ok (.getfield 12, 3) := by decide +kernel
theorem dX2_tellLongest_16 : decode cX2_tellLongest 16 = .ok (.aload_n 0, 1) := by decide +kernel
theorem dX2_tellLongest_17 : decode cX2_tellLongest 17 = .ok (.getfield 49, 3) := by decide +kernel
theorem dX2_tellLongest_20 : decode cX2_tellLongest 20 = .ok (.putfield 82, 3) := by decide +kernel
theorem dX2_tellLongest_23 : decode cX2_tellLongest 23 = .ok (.aload_n 0, 1) := by decide +kernel
theorem dX2_tellLongest_24 : decode cX2_tellLongest 24 = .ok (.iconst 1, 1) := by decide +kernel
theorem dX2_tellLongest_25 : decode cX2_tellLongest 25 = .ok (.putfield 25, 3) := by decide +kernel
theorem dX2_tellLongest_28 : decode cX2_tellLongest 28 = .ok (.aload_n 0, 1) := by decide +kernel
theorem dX2_tellLongest_29 : decode cX2_tellLongest 29 = .ok (.invokevirtual 36, 3) := by decide +kernel
theorem dX2_tellLongest_32 : decode cX2_tellLongest 32 = .ok (.iconst 1, 1) := by decide +kernel
theorem dX2_tellLongest_33 : decode cX2_tellLongest 33 = .ok (.ireturn, 1) := by decide +kernel
theorem dX2_tellChair_0 : decode cX2_tellChair 0 = .ok (.aload_n 0, 1) := by decide +kernel
theorem dX2_tellChair_1 : decode cX2_tellChair 1 = .ok (.iconst 0, 1) := by decide +kernel
theorem dX2_tellChair_2 : decode cX2_tellChair 2 = .ok (.iconst 3, 1) := by decide +kernel
theorem dX2_tellChair_3 : decode cX2_tellChair 3 = .ok (.invokevirtual 68, 3) := by decide +kernel
theorem dX2_tellChair_6 : decode cX2_tellChair 6 = .ok (.ifCond .ne 5, 3) := by decide +kernel
theorem dX2_tellChair_9 : decode cX2_tellChair 9 = .ok (.iconst 0, 1) := by decide +kernel
theorem dX2_tellChair_10 : decode cX2_tellChair 10 = .ok (.ireturn, 1) := by decide +kernel
theorem dX2_tellChair_11 : decode cX2_tellChair 11 = .ok (.aload_n 0, 1) := by decide +kernel
theorem dX2_tellChair_12 : decode cX2_tellChair 12 = .ok (.getfield 12, 3) := by decide +kernel
theorem dX2_tellChair_15 : decode cX2_tellChair 15 = .ok (.aload_n 0, 1) := by decide +kernel
theorem dX2_tellChair_16 : decode cX2_tellChair 16 = .ok (.getfield 49, 3) := by decide +kernel
theorem dX2_tellChair_19 : decode cX2_tellChair 19 = .ok (.putfield 85, 3) := by decide +kernel
theorem dX2_tellChair_22 : decode cX2_tellChair 22 = .ok (.aload_n 0, 1) := by decide +kernel
theorem dX2_tellChair_23 : decode cX2_tellChair 23 = .ok (.iconst 1, 1) := by decide +kernel
theorem dX2_tellChair_24 : decode cX2_tellChair 24 = .ok (.putfield 29, 3) := by decide +kernel
theorem dX2_tellChair_27 : decode cX2_tellChair 27 = .ok (.aload_n 0, 1) := by decide +kernel
theorem dX2_tellChair_28 : decode cX2_tellChair 28 = .ok (.invokevirtual 36, 3) := by decide +kernel
theorem dX2_tellChair_31 : decode cX2_tellChair 31 = .ok (.iconst 1, 1) := by decide +kernel
theorem dX2_tellChair_32 : decode cX2_tellChair 32 = .ok (.ireturn, 1) := by decide +kernel
theorem dX2_isNumber_0 : decode cX2_isNumber 0 = .ok (.aload_n 0, 1) := by decide +kernel
theorem dX2_isNumber_1 : decode cX2_isNumber 1 = .ok (.getfield 39, 3) := by decide +kernel
theorem dX2_isNumber_4 : decode cX2_isNumber 4 = .ok (.iconst 2, 1) := by decide +kernel
theorem dX2_isNumber_5 : decode cX2_isNumber 5 = .ok (.if_icmp .ne 19, 3) := by decide +kernel
theorem dX2_isNumber_8 : decode cX2_isNumber 8 = .ok (.aload_n 0, 1) := by decide +kernel
theorem dX2_isNumber_9 : decode cX2_isNumber 9 = .ok (.getfield 49, 3) := by decide +kernel
theorem dX2_isNumber_12 : decode cX2_isNumber 12 = .ok (.iload_n 1, 1) := by decide +kernel
theorem dX2_isNumber_13 : decode cX2_isNumber 13 = .ok (.iload_n 2, 1) := by decide +kernel
theorem dX2_isNumber_14 : decode cX2_isNumber 14 = .ok (.invokestatic 88, 3) := by decide +kernel
theorem dX2_isNumber_17 : decode cX2_isNumber 17 = .ok (.ifCond .eq 7, 3) := by decide +kernel
theorem dX2_isNumber_20 : decode cX2_isNumber 20 = .ok (.iconst 1, 1) := by decide +kernel
theorem dX2_isNumber_21 : decode cX2_isNumber 21 = .ok (.goto 4, 3) := by decide +kernel
theorem dX2_isNumber_24 : decode cX2_isNumber 24 = .ok (.iconst 0, 1) := by decide +kernel
theorem dX2_isNumber_25 : decode cX2_isNumber 25 = .ok (.ireturn, 1) := by decide +kernel
theorem dX2_advance_0 : decode cX2_advance 0 = .ok (.aload_n 0, 1) := by decide +kernel
theorem dX2_advance_1 : decode cX2_advance 1 = .ok (.getfield 32, 3) := by decide +kernel
theorem dX2_advance_4 : decode cX2_advance 4 = .ok (.aload_n 0, 1) := by decide +kernel
theorem dX2_advance_5 : decode cX2_advance 5 = .ok (.getfield 18, 3) := by decide +kernel
theorem dX2_advance_8 : decode cX2_advance 8 = .ok (.getfield 92, 3) := by decide +kernel
theorem dX2_advance_11 : decode cX2_advance 11 = .ok (.if_icmp .ge 33, 3) := by decide +kernel
theorem dX2_advance_14 : decode cX2_advance 14 = .ok (.aload_n 0, 1) := by decide +kernel
theorem dX2_advance_15 : decode cX2_advance 15 = .ok (.getfield 18, 3) := by decide +kernel
theorem dX2_advance_18 : decode cX2_advance 18 = .ok (.getfield 97, 3) := by decide +kernel
theorem dX2_advance_21 : decode cX2_advance 21 = .ok (.aload_n 0, 1) := by decide +kernel
theorem dX2_advance_22 : decode cX2_advance 22 = .ok (.getfield 32, 3) := by decide +kernel
theorem dX2_advance_25 : decode cX2_advance 25 = .ok (.iaload, 1) := by decide +kernel
theorem dX2_advance_26 : decode cX2_advance 26 = .ok (.bipush 32, 2) := by decide +kernel
theorem dX2_advance_28 : decode cX2_advance 28 = .ok (.if_icmp .ne 16, 3) := by decide +kernel
theorem dX2_advance_31 : decode cX2_advance 31 = .ok (.aload_n 0, 1) := by decide +kernel
theorem dX2_advance_32 : decode cX2_advance 32 = .ok (.dup, 1) := by decide +kernel
theorem dX2_advance_33 : decode cX2_advance 33 = .ok (.getfield 32, 3) := by decide +kernel
theorem dX2_advance_36 : decode cX2_advance 36 = .ok (.iconst 1, 1) := by decide +kernel
theorem dX2_advance_37 : decode cX2_advance 37 = .ok (.iadd, 1) := by decide +kernel
theorem dX2_advance_38 : decode cX2_advance 38 = .ok (.putfield 32, 3) := by decide +kernel
theorem dX2_advance_41 : decode cX2_advance 41 = .ok (.goto (-41), 3) := by decide +kernel
theorem dX2_advance_44 : decode cX2_advance 44 = .ok (.aload_n 0, 1) := by decide +kernel
theorem dX2_advance_45 : decode cX2_advance 45 = .ok (.aload_n 0, 1) := by decide +kernel
theorem dX2_advance_46 : decode cX2_advance 46 = .ok (.getfield 32, 3) := by decide +kernel
theorem dX2_advance_49 : decode cX2_advance 49 = .ok (.putfield 46, 3) := by decide +kernel
theorem dX2_advance_52 : decode cX2_advance 52 = .ok (.aload_n 0, 1) := by decide +kernel
theorem dX2_advance_53 : decode cX2_advance 53 = .ok (.getfield 32, 3) := by decide +kernel
theorem dX2_advance_56 : decode cX2_advance 56 = .ok (.aload_n 0, 1) := by decide +kernel
theorem dX2_advance_57 : decode cX2_advance 57 = .ok (.getfield 18, 3) := by decide +kernel
theorem dX2_advance_60 : decode cX2_advance 60 = .ok (.getfield 92, 3) := by decide +kernel
theorem dX2_advance_63 : decode cX2_advance 63 = .ok (.if_icmp .lt 11, 3) := by decide +kernel
theorem dX2_advance_66 : decode cX2_advance 66 = .ok (.aload_n 0, 1) := by decide +kernel
theorem dX2_advance_67 : decode cX2_advance 67 = .ok (.iconst 0, 1) := by decide +kernel
theorem dX2_advance_68 : decode cX2_advance 68 = .ok (.putfield 39, 3) := by decide +kernel
theorem dX2_advance_71 : decode cX2_advance 71 = .ok (.goto 93, 3) := by decide +kernel
theorem dX2_advance_74 : decode cX2_advance 74 = .ok (.aload_n 0, 1) := by decide +kernel
theorem dX2_advance_75 : decode cX2_advance 75 = .ok (.getfield 18, 3) := by decide +kernel
theorem dX2_advance_78 : decode cX2_advance 78 = .ok (.getfield 97, 3) := by decide +kernel
theorem dX2_advance_81 : decode cX2_advance 81 = .ok (.aload_n 0, 1) := by decide +kernel
theorem dX2_advance_82 : decode cX2_advance 82 = .ok (.getfield 32, 3) := by decide +kernel
theorem dX2_advance_85 : decode cX2_advance 85 = .ok (.iaload, 1) := by decide +kernel
theorem dX2_advance_86 : decode cX2_advance 86 = .ok (.bipush 59, 2) := by decide +kernel
theorem dX2_advance_88 : decode cX2_advance 88 = .ok (.if_icmp .ne 21, 3) := by decide +kernel
theorem dX2_advance_91 : decode cX2_advance 91 = .ok (.aload_n 0, 1) := by decide +kernel
theorem dX2_advance_92 : decode cX2_advance 92 = .ok (.dup, 1) := by decide +kernel
theorem dX2_advance_93 : decode cX2_advance 93 = .ok (.getfield 32, 3) := by decide +kernel
theorem dX2_advance_96 : decode cX2_advance 96 = .ok (.iconst 1, 1) := by decide +kernel
theorem dX2_advance_97 : decode cX2_advance 97 = .ok (.iadd, 1) := by decide +kernel
theorem dX2_advance_98 : decode cX2_advance 98 = .ok (.putfield 32, 3) := by decide +kernel
theorem dX2_advance_101 : decode cX2_advance 101 = .ok (.aload_n 0, 1) := by decide +kernel
theorem dX2_advance_102 : decode cX2_advance 102 = .ok (.iconst 3, 1) := by decide +kernel
theorem dX2_advance_103 : decode cX2_advance 103 = .ok (.putfield 39, 3) := by decide +kernel
theorem dX2_advance_106 : decode cX2_advance 106 = .ok (.goto 58, 3) := by decide +kernel
theorem dX2_advance_109 : decode cX2_advance 109 = .ok (.aload_n 0, 1) := by decide +kernel
theorem dX2_advance_110 : decode cX2_advance 110 = .ok (.getfield 18, 3) := by decide +kernel
theorem dX2_advance_113 : decode cX2_advance 113 = .ok (.getfield 97, 3) := by decide +kernel
theorem dX2_advance_116 : decode cX2_advance 116 = .ok (.aload_n 0, 1) := by decide +kernel
theorem dX2_advance_117 : decode cX2_advance 117 = .ok (.getfield 32, 3) := by decide +kernel
theorem dX2_advance_120 : decode cX2_advance 120 = .ok (.iaload, 1) := by decide +kernel
theorem dX2_advance_121 : decode cX2_advance 121 = .ok (.invokestatic 100, 3) := by decide +kernel
theorem dX2_advance_124 : decode cX2_advance 124 = .ok (.ifCond .eq 10, 3) := by decide +kernel
theorem dX2_advance_127 : decode cX2_advance 127 = .ok (.aload_n 0, 1) := by decide +kernel
theorem dX2_advance_128 : decode cX2_advance 128 = .ok (.invokevirtual 103, 3) := by decide +kernel
theorem dX2_advance_131 : decode cX2_advance 131 = .ok (.goto 33, 3) := by decide +kernel
theorem dX2_advance_134 : decode cX2_advance 134 = .ok (.aload_n 0, 1) := by decide +kernel
theorem dX2_advance_135 : decode cX2_advance 135 = .ok (.getfield 18, 3) := by decide +kernel
theorem dX2_advance_138 : decode cX2_advance 138 = .ok (.getfield 97, 3) := by decide +kernel
theorem dX2_advance_141 : decode cX2_advance 141 = .ok (.aload_n 0, 1) := by decide +kernel
theorem dX2_advance_142 : decode cX2_advance 142 = .ok (.getfield 32, 3) := by decide +kernel
theorem dX2_advance_145 : decode cX2_advance 145 = .ok (.iaload, 1) := by decide +kernel
theorem dX2_advance_146 : decode cX2_advance 146 = .ok (.invokestatic 106, 3) := by decide +kernel
theorem dX2_advance_149 : decode cX2_advance 149 = .ok (.ifCond .eq 10, 3) := by decide +kernel
theorem dX2_advance_152 : decode cX2_advance 152 = .ok (.aload_n 0, 1) := by decide +kernel
theorem dX2_advance_153 : decode cX2_advance 153 = .ok (.invokevirtual 109, 3) := by decide +kernel
theorem dX2_advance_156 : decode cX2_advance 156 = .ok (.goto 8, 3) := by decide +kernel
theorem dX2_advance_159 : decode cX2_advance 159 = .ok (.aload_n 0, 1) := by decide +kernel
theorem dX2_advance_160 : decode cX2_advance 160 = .ok (.iconst 4, 1) := by decide +kernel
theorem dX2_advance_161 : decode cX2_advance 161 = .ok (.putfield 39, 3) := by decide +kernel
theorem dX2_advance_164 : decode cX2_advance 164 = .ok (.return_, 1) := by decide +kernel
theorem dX2_scanLetters_0 : decode cX2_scanLetters 0 = .ok (.aload_n 0, 1) := by decide +kernel
theorem dX2_scanLetters_1 : decode cX2_scanLetters 1 = .ok (.aload_n 0, 1) := by decide +kernel
theorem dX2_scanLetters_2 : decode cX2_scanLetters 2 = .ok (.getfield 18, 3) := by decide +kernel
theorem dX2_scanLetters_5 : decode cX2_scanLetters 5 = .ok (.getfield 97, 3) := by decide +kernel
theorem dX2_scanLetters_8 : decode cX2_scanLetters 8 = .ok (.aload_n 0, 1) := by decide +kernel
theorem dX2_scanLetters_9 : decode cX2_scanLetters 9 = .ok (.getfield 46, 3) := by decide +kernel
theorem dX2_scanLetters_12 : decode cX2_scanLetters 12 = .ok (.iaload, 1) := by decide +kernel
theorem dX2_scanLetters_13 : decode cX2_scanLetters 13 = .ok (.putfield 49, 3) := by decide +kernel
theorem dX2_scanLetters_16 : decode cX2_scanLetters 16 = .ok (.aload_n 0, 1) := by decide +kernel
theorem dX2_scanLetters_17 : decode cX2_scanLetters 17 = .ok (.getfield 32, 3) := by decide +kernel
theorem dX2_scanLetters_20 : decode cX2_scanLetters 20 = .ok (.aload_n 0, 1) := by decide +kernel
theorem dX2_scanLetters_21 : decode cX2_scanLetters 21 = .ok (.getfield 18, 3) := by decide +kernel
theorem dX2_scanLetters_24 : decode cX2_scanLetters 24 = .ok (.getfield 92, 3) := by decide +kernel
theorem dX2_scanLetters_27 : decode cX2_scanLetters 27 = .ok (.if_icmp .ge 34, 3) := by decide +kernel
theorem dX2_scanLetters_30 : decode cX2_scanLetters 30 = .ok (.aload_n 0, 1) := by decide +kernel
theorem dX2_scanLetters_31 : decode cX2_scanLetters 31 = .ok (.getfield 18, 3) := by decide +kernel
theorem dX2_scanLetters_34 : decode cX2_scanLetters 34 = .ok (.getfield 97, 3) := by decide +kernel
theorem dX2_scanLetters_37 : decode cX2_scanLetters 37 = .ok (.aload_n 0, 1) := by decide +kernel
theorem dX2_scanLetters_38 : decode cX2_scanLetters 38 = .ok (.getfield 32, 3) := by decide +kernel
theorem dX2_scanLetters_41 : decode cX2_scanLetters 41 = .ok (.iaload, 1) := by decide +kernel
theorem dX2_scanLetters_42 : decode cX2_scanLetters 42 = .ok (.invokestatic 100, 3) := by decide +kernel
theorem dX2_scanLetters_45 : decode cX2_scanLetters 45 = .ok (.ifCond .eq 16, 3) := by decide +kernel
theorem dX2_scanLetters_48 : decode cX2_scanLetters 48 = .ok (.aload_n 0, 1) := by decide +kernel
theorem dX2_scanLetters_49 : decode cX2_scanLetters 49 = .ok (.dup, 1) := by decide +kernel
theorem dX2_scanLetters_50 : decode cX2_scanLetters 50 = .ok (.getfield 32, 3) := by decide +kernel
theorem dX2_scanLetters_53 : decode cX2_scanLetters 53 = .ok (.iconst 1, 1) := by decide +kernel
theorem dX2_scanLetters_54 : decode cX2_scanLetters 54 = .ok (.iadd, 1) := by decide +kernel
theorem dX2_scanLetters_55 : decode cX2_scanLetters 55 = .ok (.putfield 32, 3) := by decide +kernel
theorem dX2_scanLetters_58 : decode cX2_scanLetters 58 = .ok (.goto (-42), 3) := by decide +kernel
theorem dX2_scanLetters_61 : decode cX2_scanLetters 61 = .ok (.aload_n 0, 1) := by decide +kernel
theorem dX2_scanLetters_62 : decode cX2_scanLetters 62 = .ok (.aload_n 0, 1) := by decide +kernel
theorem dX2_scanLetters_63 : decode cX2_scanLetters 63 = .ok (.getfield 32, 3) := by decide +kernel
theorem dX2_scanLetters_66 : decode cX2_scanLetters 66 = .ok (.aload_n 0, 1) := by decide +kernel
theorem dX2_scanLetters_67 : decode cX2_scanLetters 67 = .ok (.getfield 46, 3) := by decide +kernel
theorem dX2_scanLetters_70 : decode cX2_scanLetters 70 = .ok (.isub, 1) := by decide +kernel
theorem dX2_scanLetters_71 : decode cX2_scanLetters 71 = .ok (.iconst 1, 1) := by decide +kernel
theorem dX2_scanLetters_72 : decode cX2_scanLetters 72 = .ok (.if_icmp .ne 7, 3) := by decide +kernel
theorem dX2_scanLetters_75 : decode cX2_scanLetters 75 = .ok (.iconst 1, 1) := by decide +kernel
theorem dX2_scanLetters_76 : decode cX2_scanLetters 76 = .ok (.goto 4, 3) := by decide +kernel
theorem dX2_scanLetters_79 : decode cX2_scanLetters 79 = .ok (.iconst 4, 1) := by decide +kernel
theorem dX2_scanLetters_80 : decode cX2_scanLetters 80 = .ok (.putfield 39, 3) := by decide +kernel
theorem dX2_scanLetters_83 : decode cX2_scanLetters 83 = .ok (.return_, 1) := by decide +kernel
theorem dX2_scanNumber_0 : decode cX2_scanNumber 0 = .ok (.aload_n 0, 1) := by decide +kernel
theorem dX2_scanNumber_1 : decode cX2_scanNumber 1 = .ok (.iconst 0, 1) := by decide +kernel
theorem dX2_scanNumber_2 : decode cX2_scanNumber 2 = .ok (.putfield 49, 3) := by decide +kernel
theorem dX2_scanNumber_5 : decode cX2_scanNumber 5 = .ok (.aload_n 0, 1) := by decide +kernel
theorem dX2_scanNumber_6 : decode cX2_scanNumber 6 = .ok (.getfield 32, 3) := by decide +kernel
theorem dX2_scanNumber_9 : decode cX2_scanNumber 9 = .ok (.aload_n 0, 1) := by decide +kernel
theorem dX2_scanNumber_10 : decode cX2_scanNumber 10 = .ok (.getfield 18, 3) := by decide +kernel
theorem dX2_scanNumber_13 : decode cX2_scanNumber 13 = .ok (.getfield 92, 3) := by decide +kernel
theorem dX2_scanNumber_16 : decode cX2_scanNumber 16 = .ok (.if_icmp .ge 66, 3) := by decide +kernel
theorem dX2_scanNumber_19 : decode cX2_scanNumber 19 = .ok (.aload_n 0, 1) := by decide +kernel
theorem dX2_scanNumber_20 : decode cX2_scanNumber 20 = .ok (.getfield 18, 3) := by decide +kernel
theorem dX2_scanNumber_23 : decode cX2_scanNumber 23 = .ok (.getfield 97, 3) := by decide +kernel
theorem dX2_scanNumber_26 : decode cX2_scanNumber 26 = .ok (.aload_n 0, 1) := by decide +kernel
theorem dX2_scanNumber_27 : decode cX2_scanNumber 27 = .ok (.getfield 32, 3) := by decide +kernel
theorem dX2_scanNumber_30 : decode cX2_scanNumber 30 = .ok (.iaload, 1) := by decide +kernel
theorem dX2_scanNumber_31 : decode cX2_scanNumber 31 = .ok (.invokestatic 106, 3) := by decide +kernel
theorem dX2_scanNumber_34 : decode cX2_scanNumber 34 = .ok (.ifCond .eq 48, 3) := by decide +kernel
theorem dX2_scanNumber_37 : decode cX2_scanNumber 37 = .ok (.aload_n 0, 1) := by decide +kernel
theorem dX2_scanNumber_38 : decode cX2_scanNumber 38 = .ok (.aload_n 0, 1) := by decide +kernel
theorem dX2_scanNumber_39 : decode cX2_scanNumber 39 = .ok (.getfield 49, 3) := by decide +kernel
theorem dX2_scanNumber_42 : decode cX2_scanNumber 42 = .ok (.bipush 10, 2) := by decide +kernel
theorem dX2_scanNumber_44 : decode cX2_scanNumber 44 = .ok (.imul, 1) := by decide +kernel
theorem dX2_scanNumber_45 : decode cX2_scanNumber 45 = .ok (.aload_n 0, 1) := by decide +kernel
theorem dX2_scanNumber_46 : decode cX2_scanNumber 46 = .ok (.getfield 18, 3) := by decide +kernel
theorem dX2_scanNumber_49 : decode cX2_scanNumber 49 = .ok (.getfield 97, 3) := by decide +kernel
theorem dX2_scanNumber_52 : decode cX2_scanNumber 52 = .ok (.aload_n 0, 1) := by decide +kernel
theorem dX2_scanNumber_53 : decode cX2_scanNumber 53 = .ok (.getfield 32, 3) := by decide +kernel
theorem dX2_scanNumber_56 : decode cX2_scanNumber 56 = .ok (.iaload, 1) := by decide +kernel
theorem dX2_scanNumber_57 : decode cX2_scanNumber 57 = .ok (.iadd, 1) := by decide +kernel
theorem dX2_scanNumber_58 : decode cX2_scanNumber 58 = .ok (.bipush 48, 2) := by decide +kernel
theorem dX2_scanNumber_60 : decode cX2_scanNumber 60 = .ok (.isub, 1) := by decide +kernel
theorem dX2_scanNumber_61 : decode cX2_scanNumber 61 = .ok (.bipush 100, 2) := by decide +kernel
theorem dX2_scanNumber_63 : decode cX2_scanNumber 63 = .ok (.invokestatic 112, 3) := by decide +kernel
theorem dX2_scanNumber_66 : decode cX2_scanNumber 66 = .ok (.putfield 49, 3) := by decide +kernel
theorem dX2_scanNumber_69 : decode cX2_scanNumber 69 = .ok (.aload_n 0, 1) := by decide +kernel
theorem dX2_scanNumber_70 : decode cX2_scanNumber 70 = .ok (.dup, 1) := by decide +kernel
theorem dX2_scanNumber_71 : decode cX2_scanNumber 71 = .ok (.getfield 32, 3) := by decide +kernel
theorem dX2_scanNumber_74 : decode cX2_scanNumber 74 = .ok (.iconst 1, 1) := by decide +kernel
theorem dX2_scanNumber_75 : decode cX2_scanNumber 75 = .ok (.iadd, 1) := by decide +kernel
theorem dX2_scanNumber_76 : decode cX2_scanNumber 76 = .ok (.putfield 32, 3) := by decide +kernel
theorem dX2_scanNumber_79 : decode cX2_scanNumber 79 = .ok (.goto (-74), 3) := by decide +kernel
theorem dX2_scanNumber_82 : decode cX2_scanNumber 82 = .ok (.aload_n 0, 1) := by decide +kernel
theorem dX2_scanNumber_83 : decode cX2_scanNumber 83 = .ok (.getfield 18, 3) := by decide +kernel
theorem dX2_scanNumber_86 : decode cX2_scanNumber 86 = .ok (.getfield 97, 3) := by decide +kernel
theorem dX2_scanNumber_89 : decode cX2_scanNumber 89 = .ok (.aload_n 0, 1) := by decide +kernel
theorem dX2_scanNumber_90 : decode cX2_scanNumber 90 = .ok (.getfield 46, 3) := by decide +kernel
theorem dX2_scanNumber_93 : decode cX2_scanNumber 93 = .ok (.iaload, 1) := by decide +kernel
theorem dX2_scanNumber_94 : decode cX2_scanNumber 94 = .ok (.bipush 48, 2) := by decide +kernel
theorem dX2_scanNumber_96 : decode cX2_scanNumber 96 = .ok (.if_icmp .ne 20, 3) := by decide +kernel
theorem dX2_scanNumber_99 : decode cX2_scanNumber 99 = .ok (.aload_n 0, 1) := by decide +kernel
theorem dX2_scanNumber_100 : decode cX2_scanNumber 100 = .ok (.getfield 32, 3) := by decide +kernel
theorem dX2_scanNumber_103 : decode cX2_scanNumber 103 = .ok (.aload_n 0, 1) := by decide +kernel
theorem dX2_scanNumber_104 : decode cX2_scanNumber 104 = .ok (.getfield 46, 3) := by decide +kernel
theorem dX2_scanNumber_107 : decode cX2_scanNumber 107 = .ok (.isub, 1) := by decide +kernel
theorem dX2_scanNumber_108 : decode cX2_scanNumber 108 = .ok (.iconst 1, 1) := by decide +kernel
theorem dX2_scanNumber_109 : decode cX2_scanNumber 109 = .ok (.if_icmp .le 7, 3) := by decide +kernel
theorem dX2_scanNumber_112 : decode cX2_scanNumber 112 = .ok (.iconst 1, 1) := by decide +kernel
theorem dX2_scanNumber_113 : decode cX2_scanNumber 113 = .ok (.goto 4, 3) := by decide +kernel
theorem dX2_scanNumber_116 : decode cX2_scanNumber 116 = .ok (.iconst 0, 1) := by decide +kernel
theorem dX2_scanNumber_117 : decode cX2_scanNumber 117 = .ok (.istore_n 1, 1) := by decide +kernel
theorem dX2_scanNumber_118 : decode cX2_scanNumber 118 = .ok (.aload_n 0, 1) := by decide +kernel
theorem dX2_scanNumber_119 : decode cX2_scanNumber 119 = .ok (.iload_n 1, 1) := by decide +kernel
theorem dX2_scanNumber_120 : decode cX2_scanNumber 120 = .ok (.ifCond .ne 12, 3) := by decide +kernel
theorem dX2_scanNumber_123 : decode cX2_scanNumber 123 = .ok (.aload_n 0, 1) := by decide +kernel
theorem dX2_scanNumber_124 : decode cX2_scanNumber 124 = .ok (.getfield 49, 3) := by decide +kernel
theorem dX2_scanNumber_127 : decode cX2_scanNumber 127 = .ok (.bipush 99, 2) := by decide +kernel
theorem dX2_scanNumber_129 : decode cX2_scanNumber 129 = .ok (.if_icmp .le 7, 3) := by decide +kernel
theorem dX2_scanNumber_132 : decode cX2_scanNumber 132 = .ok (.iconst 4, 1) := by decide +kernel
theorem dX2_scanNumber_133 : decode cX2_scanNumber 133 = .ok (.goto 4, 3) := by decide +kernel
theorem dX2_scanNumber_136 : decode cX2_scanNumber 136 = .ok (.iconst 2, 1) := by decide +kernel
theorem dX2_scanNumber_137 : decode cX2_scanNumber 137 = .ok (.putfield 39, 3) := by decide +kernel
theorem dX2_scanNumber_140 : decode cX2_scanNumber 140 = .ok (.return_, 1) := by decide +kernel
theorem dX2_isSmallLetter_0 : decode cX2_isSmallLetter 0 = .ok (.bipush 97, 2) := by decide +kernel
theorem dX2_isSmallLetter_2 : decode cX2_isSmallLetter 2 = .ok (.iload_n 0, 1) := by decide +kernel
theorem dX2_isSmallLetter_3 : decode cX2_isSmallLetter 3 = .ok (.if_icmp .gt 13, 3) := by decide +kernel
theorem dX2_isSmallLetter_6 : decode cX2_isSmallLetter 6 = .ok (.iload_n 0, 1) := by decide +kernel
theorem dX2_isSmallLetter_7 : decode cX2_isSmallLetter 7 = .ok (.bipush 122, 2) := by decide +kernel
theorem dX2_isSmallLetter_9 : decode cX2_isSmallLetter 9 = .ok (.if_icmp .gt 7, 3) := by decide +kernel
theorem dX2_isSmallLetter_12 : decode cX2_isSmallLetter 12 = .ok (.iconst 1, 1) := by decide +kernel
theorem dX2_isSmallLetter_13 : decode cX2_isSmallLetter 13 = .ok (.goto 4, 3) := by decide +kernel
theorem dX2_isSmallLetter_16 : decode cX2_isSmallLetter 16 = .ok (.iconst 0, 1) := by decide +kernel
theorem dX2_isSmallLetter_17 : decode cX2_isSmallLetter 17 = .ok (.ireturn, 1) := by decide +kernel
theorem dX2_isDigit_0 : decode cX2_isDigit 0 = .ok (.bipush 48, 2) := by decide +kernel
theorem dX2_isDigit_2 : decode cX2_isDigit 2 = .ok (.iload_n 0, 1) := by decide +kernel
theorem dX2_isDigit_3 : decode cX2_isDigit 3 = .ok (.if_icmp .gt 13, 3) := by decide +kernel
theorem dX2_isDigit_6 : decode cX2_isDigit 6 = .ok (.iload_n 0, 1) := by decide +kernel
theorem dX2_isDigit_7 : decode cX2_isDigit 7 = .ok (.bipush 57, 2) := by decide +kernel
theorem dX2_isDigit_9 : decode cX2_isDigit 9 = .ok (.if_icmp .gt 7, 3) := by decide +kernel
theorem dX2_isDigit_12 : decode cX2_isDigit 12 = .ok (.iconst 1, 1) := by decide +kernel
theorem dX2_isDigit_13 : decode cX2_isDigit 13 = .ok (.goto 4, 3) := by decide +kernel
theorem dX2_isDigit_16 : decode cX2_isDigit 16 = .ok (.iconst 0, 1) := by decide +kernel
theorem dX2_isDigit_17 : decode cX2_isDigit 17 = .ok (.ireturn, 1) := by decide +kernel
theorem dX3_init_0 : decode cX3_init 0 = .ok (.aload_n 0, 1) := by decide +kernel
theorem dX3_init_1 : decode cX3_init 1 = .ok (.invokespecial 3, 3) := by decide +kernel
theorem dX3_init_4 : decode cX3_init 4 = .ok (.aload_n 0, 1) := by decide +kernel
theorem dX3_init_5 : decode cX3_init 5 = .ok (.bipush 10, 2) := by decide +kernel
theorem dX3_init_7 : decode cX3_init 7 = .ok (.newarray .int, 2) := by decide +kernel
theorem dX3_init_9 : decode cX3_init 9 = .ok (.putfield 9, 3) := by decide +kernel
theorem dX3_init_12 : decode cX3_init 12 = .ok (.aload_n 0, 1) := by decide +kernel
theorem dX3_init_13 : decode cX3_init 13 = .ok (.bipush 10, 2) := by decide +kernel
theorem dX3_init_15 : decode cX3_init 15 = .ok (.newarray .int, 2) := by decide +kernel
theorem dX3_init_17 : decode cX3_init 17 = .ok (.putfield 15, 3) := by decide +kernel
theorem dX3_init_20 : decode cX3_init 20 = .ok (.aload_n 0, 1) := by decide +kernel
theorem dX3_init_21 : decode cX3_init 21 = .ok (.bipush 32, 2) := by decide +kernel
theorem dX3_init_23 : decode cX3_init 23 = .ok (.newarray .int, 2) := by decide +kernel
theorem dX3_init_25 : decode cX3_init 25 = .ok (.putfield 18, 3) := by decide +kernel
theorem dX3_init_28 : decode cX3_init 28 = .ok (.aload_n 0, 1) := by decide +kernel
theorem dX3_init_29 : decode cX3_init 29 = .ok (.bipush 13, 2) := by decide +kernel
theorem dX3_init_31 : decode cX3_init 31 = .ok (.newarray .int, 2) := by decide +kernel
theorem dX3_init_33 : decode cX3_init 33 = .ok (.putfield 21, 3) := by decide +kernel
theorem dX3_init_36 : decode cX3_init 36 = .ok (.aload_n 0, 1) := by decide +kernel
theorem dX3_init_37 : decode cX3_init 37 = .ok (.bipush 13, 2) := by decide +kernel
theorem dX3_init_39 : decode cX3_init 39 = .ok (.newarray .int, 2) := by decide +kernel
theorem dX3_init_41 : decode cX3_init 41 = .ok (.putfield 24, 3) := by decide +kernel
theorem dX3_init_44 : decode cX3_init 44 = .ok (.return_, 1) := by decide +kernel
theorem dX3_grow_0 : decode cX3_grow 0 = .ok (.aload_n 0, 1) := by decide +kernel
theorem dX3_grow_1 : decode cX3_grow 1 = .ok (.aload_n 1, 1) := by decide +kernel
theorem dX3_grow_2 : decode cX3_grow 2 = .ok (.getfield 27, 3) := by decide +kernel
theorem dX3_grow_5 : decode cX3_grow 5 = .ok (.putfield 33, 3) := by decide +kernel
theorem dX3_grow_8 : decode cX3_grow 8 = .ok (.aload_n 0, 1) := by decide +kernel
theorem dX3_grow_9 : decode cX3_grow 9 = .ok (.aload_n 2, 1) := by decide +kernel
theorem dX3_grow_10 : decode cX3_grow 10 = .ok (.getfield 34, 3) := by decide +kernel
theorem dX3_grow_13 : decode cX3_grow 13 = .ok (.iload_n 3, 1) := by decide +kernel
theorem dX3_grow_14 : decode cX3_grow 14 = .ok (.iaload, 1) := by decide +kernel
theorem dX3_grow_15 : decode cX3_grow 15 = .ok (.putfield 39, 3) := by decide +kernel
theorem dX3_grow_18 : decode cX3_grow 18 = .ok (.aload_n 0, 1) := by decide +kernel
theorem dX3_grow_19 : decode cX3_grow 19 = .ok (.aload_n 0, 1) := by decide +kernel
theorem dX3_grow_20 : decode cX3_grow 20 = .ok (.getfield 39, 3) := by decide +kernel
theorem dX3_grow_23 : decode cX3_grow 23 = .ok (.iload 4, 2) := by decide +kernel
theorem dX3_grow_25 : decode cX3_grow 25 = .ok (.iadd, 1) := by decide +kernel
theorem dX3_grow_26 : decode cX3_grow 26 = .ok (.putfield 42, 3) := by decide +kernel
theorem dX3_grow_29 : decode cX3_grow 29 = .ok (.iconst 0, 1) := by decide +kernel
theorem dX3_grow_30 : decode cX3_grow 30 = .ok (.istore 5, 2) := by decide +kernel
theorem dX3_grow_32 : decode cX3_grow 32 = .ok (.iload 5, 2) := by decide +kernel
theorem dX3_grow_34 : decode cX3_grow 34 = .ok (.aload_n 0, 1) := by decide +kernel
theorem dX3_grow_35 : decode cX3_grow 35 = .ok (.getfield 39, 3) := by decide +kernel
theorem dX3_grow_38 : decode cX3_grow 38 = .ok (.if_icmp .ge 23, 3) := by decide +kernel
theorem dX3_grow_41 : decode cX3_grow 41 = .ok (.aload_n 0, 1) := by decide +kernel
theorem dX3_grow_42 : decode cX3_grow 42 = .ok (.getfield 18, 3) := by decide +kernel
theorem dX3_grow_45 : decode cX3_grow 45 = .ok (.iload 5, 2) := by decide +kernel
theorem dX3_grow_47 : decode cX3_grow 47 = .ok (.aload_n 2, 1) := by decide +kernel
theorem dX3_grow_48 : decode cX3_grow 48 = .ok (.iload_n 3, 1) := by decide +kernel
theorem dX3_grow_49 : decode cX3_grow 49 = .ok (.iload 5, 2) := by decide +kernel
theorem dX3_grow_51 : decode cX3_grow 51 = .ok (.invokevirtual 45, 3) := by decide +kernel
theorem dX3_grow_54 : decode cX3_grow 54 = .ok (.iastore, 1) := by decide +kernel
theorem dX3_grow_55 : decode cX3_grow 55 = .ok (.iinc 5 1, 3) := by decide +kernel
theorem dX3_grow_58 : decode cX3_grow 58 = .ok (.goto (-26), 3) := by decide +kernel
theorem dX3_grow_61 : decode cX3_grow 61 = .ok (.iconst 0, 1) := by decide +kernel
theorem dX3_grow_62 : decode cX3_grow 62 = .ok (.istore 5, 2) := by decide +kernel
theorem dX3_grow_64 : decode cX3_grow 64 = .ok (.iload 5, 2) := by decide +kernel
theorem dX3_grow_66 : decode cX3_grow 66 = .ok (.iload 4, 2) := by decide +kernel
theorem dX3_grow_68 : decode cX3_grow 68 = .ok (.if_icmp .ge 29, 3) := by decide +kernel
theorem dX3_grow_71 : decode cX3_grow 71 = .ok (.aload_n 0, 1) := by decide +kernel
theorem dX3_grow_72 : decode cX3_grow 72 = .ok (.getfield 18, 3) := by decide +kernel
theorem dX3_grow_75 : decode cX3_grow 75 = .ok (.aload_n 0, 1) := by decide +kernel
theorem dX3_grow_76 : decode cX3_grow 76 = .ok (.getfield 39, 3) := by decide +kernel
theorem dX3_grow_79 : decode cX3_grow 79 = .ok (.iload 5, 2) := by decide +kernel
theorem dX3_grow_81 : decode cX3_grow 81 = .ok (.iadd, 1) := by decide +kernel
theorem dX3_grow_82 : decode cX3_grow 82 = .ok (.aload_n 2, 1) := by decide +kernel
theorem dX3_grow_83 : decode cX3_grow 83 = .ok (.aload_n 1, 1) := by decide +kernel
theorem dX3_grow_84 : decode cX3_grow 84 = .ok (.iload_n 3, 1) := by decide +kernel
theorem dX3_grow_85 : decode cX3_grow 85 = .ok (.iload 5, 2) := by decide +kernel
theorem dX3_grow_87 : decode cX3_grow 87 = .ok (.invokevirtual 49, 3) := by decide +kernel
theorem dX3_grow_90 : decode cX3_grow 90 = .ok (.iastore, 1) := by decide +kernel
theorem dX3_grow_91 : decode cX3_grow 91 = .ok (.iinc 5 1, 3) := by decide +kernel
theorem dX3_grow_94 : decode cX3_grow 94 = .ok (.goto (-30), 3) := by decide +kernel
theorem dX3_grow_97 : decode cX3_grow 97 = .ok (.return_, 1) := by decide +kernel
theorem dX3_firstFailingEvening_0 : decode cX3_firstFailingEvening 0 = .ok (.aload_n 0, 1) := by decide +kernel
theorem dX3_firstFailingEvening_1 : decode cX3_firstFailingEvening 1 = .ok (.getfield 21, 3) := by decide +kernel
theorem dX3_firstFailingEvening_4 : decode cX3_firstFailingEvening 4 = .ok (.sipush 1000, 3) := by decide +kernel
theorem dX3_firstFailingEvening_7 : decode cX3_firstFailingEvening 7 = .ok (.invokestatic 53, 3) := by decide +kernel
theorem dX3_firstFailingEvening_10 : decode cX3_firstFailingEvening 10 = .ok (.aload_n 0, 1) := by decide +kernel
theorem dX3_firstFailingEvening_11 : decode cX3_firstFailingEvening 11 = .ok (.getfield 21, 3) := by decide +kernel
theorem dX3_firstFailingEvening_14 : decode cX3_firstFailingEvening 14 = .ok (.aload_n 0, 1) := by decide +kernel
theorem dX3_firstFailingEvening_15 : decode cX3_firstFailingEvening 15 = .ok (.getfield 39, 3) := by decide +kernel
theorem dX3_firstFailingEvening_18 : decode cX3_firstFailingEvening 18 = .ok (.iconst 0, 1) := by decide +kernel
theorem dX3_firstFailingEvening_19 : decode cX3_firstFailingEvening 19 = .ok (.iastore, 1) := by decide +kernel
theorem dX3_firstFailingEvening_20 : decode cX3_firstFailingEvening 20 = .ok (.iconst 1, 1) := by decide +kernel
theorem dX3_firstFailingEvening_21 : decode cX3_firstFailingEvening 21 = .ok (.istore 4, 2) := by decide +kernel
theorem dX3_firstFailingEvening_23 : decode cX3_firstFailingEvening 23 = .ok (.iload 4, 2) := by decide +kernel
theorem dX3_firstFailingEvening_25 : decode cX3_firstFailingEvening 25 = .ok (.iload_n 2, 1) := by decide +kernel
theorem dX3_firstFailingEvening_26 : decode cX3_firstFailingEvening 26 = .ok (.if_icmp .gt 90, 3) := by decide +kernel
theorem dX3_firstFailingEvening_29 : decode cX3_firstFailingEvening 29 = .ok (.aload_n 0, 1) := by decide +kernel
theorem dX3_firstFailingEvening_30 : decode cX3_firstFailingEvening 30 = .ok (.getfield 24, 3) := by decide +kernel
theorem dX3_firstFailingEvening_33 : decode cX3_firstFailingEvening 33 = .ok (.sipush 1000, 3) := by decide +kernel
theorem dX3_firstFailingEvening_36 : decode cX3_firstFailingEvening 36 = .ok (.invokestatic 53, 3) := by decide +kernel
theorem dX3_firstFailingEvening_39 : decode cX3_firstFailingEvening 39 = .ok (.iconst 0, 1) := by decide +kernel
theorem dX3_firstFailingEvening_40 : decode cX3_firstFailingEvening 40 = .ok (.istore 5, 2) := by decide +kernel
theorem dX3_firstFailingEvening_42 : decode cX3_firstFailingEvening 42 = .ok (.iload 5, 2) := by decide +kernel
theorem dX3_firstFailingEvening_44 : decode cX3_firstFailingEvening 44 = .ok (.bipush 12, 2) := by decide +kernel
theorem dX3_firstFailingEvening_46 : decode cX3_firstFailingEvening 46 = .ok (.if_icmp .gt 32, 3) := by decide +kernel
theorem dX3_firstFailingEvening_49 : decode cX3_firstFailingEvening 49 = .ok (.aload_n 0, 1) := by decide +kernel
theorem dX3_firstFailingEvening_50 : decode cX3_firstFailingEvening 50 = .ok (.getfield 21, 3) := by decide +kernel
theorem dX3_firstFailingEvening_53 : decode cX3_firstFailingEvening 53 = .ok (.iload 5, 2) := by decide +kernel
theorem dX3_firstFailingEvening_55 : decode cX3_firstFailingEvening 55 = .ok (.iaload, 1) := by decide +kernel
theorem dX3_firstFailingEvening_56 : decode cX3_firstFailingEvening 56 = .ok (.sipush 1000, 3) := by decide +kernel
theorem dX3_firstFailingEvening_59 : decode cX3_firstFailingEvening 59 = .ok (.if_icmp .ge 13, 3) := by decide +kernel
theorem dX3_firstFailingEvening_62 : decode cX3_firstFailingEvening 62 = .ok (.aload_n 0, 1) := by decide +kernel
theorem dX3_firstFailingEvening_63 : decode cX3_firstFailingEvening 63 = .ok (.iload 4, 2) := by decide +kernel
theorem dX3_firstFailingEvening_65 : decode cX3_firstFailingEvening 65 = .ok (.iload 5, 2) := by decide +kernel
theorem dX3_firstFailingEvening_67 : decode cX3_firstFailingEvening 67 = .ok (.iload_n 1, 1) := by decide +kernel
theorem dX3_firstFailingEvening_68 : decode cX3_firstFailingEvening 68 = .ok (.iload_n 3, 1) := by decide +kernel
theorem dX3_firstFailingEvening_69 : decode cX3_firstFailingEvening 69 = .ok (.invokevirtual 59, 3) := by decide +kernel
theorem dX3_firstFailingEvening_72 : decode cX3_firstFailingEvening 72 = .ok (.iinc 5 1, 3) := by decide +kernel
theorem dX3_firstFailingEvening_75 : decode cX3_firstFailingEvening 75 = .ok (.goto (-33), 3) := by decide +kernel
theorem dX3_firstFailingEvening_78 : decode cX3_firstFailingEvening 78 = .ok (.aload_n 0, 1) := by decide +kernel
theorem dX3_firstFailingEvening_79 : decode cX3_firstFailingEvening 79 = .ok (.getfield 21, 3) := by decide +kernel
theorem dX3_firstFailingEvening_82 : decode cX3_firstFailingEvening 82 = .ok (.astore 5, 2) := by decide +kernel
theorem dX3_firstFailingEvening_84 : decode cX3_firstFailingEvening 84 = .ok (.aload_n 0, 1) := by decide +kernel
theorem dX3_firstFailingEvening_85 : decode cX3_firstFailingEvening 85 = .ok (.aload_n 0, 1) := by decide +kernel
theorem dX3_firstFailingEvening_86 : decode cX3_firstFailingEvening 86 = .ok (.getfield 24, 3) := by decide +kernel
theorem dX3_firstFailingEvening_89 : decode cX3_firstFailingEvening 89 = .ok (.putfield 21, 3) := by decide +kernel
theorem dX3_firstFailingEvening_92 : decode cX3_firstFailingEvening 92 = .ok (.aload_n 0, 1) := by decide +kernel
theorem dX3_firstFailingEvening_93 : decode cX3_firstFailingEvening 93 = .ok (.aload 5, 2) := by decide +kernel
theorem dX3_firstFailingEvening_95 : decode cX3_firstFailingEvening 95 = .ok (.putfield 24, 3) := by decide +kernel
theorem dX3_firstFailingEvening_98 : decode cX3_firstFailingEvening 98 = .ok (.aload_n 0, 1) := by decide +kernel
theorem dX3_firstFailingEvening_99 : decode cX3_firstFailingEvening 99 = .ok (.invokevirtual 63, 3) := by decide +kernel
theorem dX3_firstFailingEvening_102 : decode cX3_firstFailingEvening 102 = .ok (.bipush (-9), 2) := by decide +kernel
theorem dX3_firstFailingEvening_104 : decode cX3_firstFailingEvening 104 = .ok (.if_icmp .ne 6, 3) := by decide +kernel
theorem dX3_firstFailingEvening_107 : decode cX3_firstFailingEvening 107 = .ok (.iload 4, 2) := by decide +kernel
theorem dX3_firstFailingEvening_109 : decode cX3_firstFailingEvening 109 = .ok (.ireturn, 1) := by decide +kernel
theorem dX3_firstFailingEvening_110 : decode cX3_firstFailingEvening 110 = .ok (.iinc 4 1, 3) := by decide +kernel
theorem dX3_firstFailingEvening_113 : decode cX3_firstFailingEvening 113 = .ok (.goto (-90), 3) := by decide +kernel
theorem dX3_firstFailingEvening_116 : decode cX3_firstFailingEvening 116 = .ok (.bipush (-9), 2) := by decide +kernel
theorem dX3_firstFailingEvening_118 : decode cX3_firstFailingEvening 118 = .ok (.ireturn, 1) := by decide +kernel
theorem dX3_spend_0 : decode cX3_spend 0 = .ok (.iload_n 2, 1) := by decide +kernel
theorem dX3_spend_1 : decode cX3_spend 1 = .ok (.iconst 1, 1) := by decide +kernel
theorem dX3_spend_2 : decode cX3_spend 2 = .ok (.iadd, 1) := by decide +kernel
theorem dX3_spend_3 : decode cX3_spend 3 = .ok (.aload_n 0, 1) := by decide +kernel
theorem dX3_spend_4 : decode cX3_spend 4 = .ok (.getfield 33, 3) := by decide +kernel
theorem dX3_spend_7 : decode cX3_spend 7 = .ok (.invokestatic 67, 3) := by decide +kernel
theorem dX3_spend_10 : decode cX3_spend 10 = .ok (.istore 5, 2) := by decide +kernel
theorem dX3_spend_12 : decode cX3_spend 12 = .ok (.aload_n 0, 1) := by decide +kernel
theorem dX3_spend_13 : decode cX3_spend 13 = .ok (.getfield 39, 3) := by decide +kernel
theorem dX3_spend_16 : decode cX3_spend 16 = .ok (.iload_n 1, 1) := by decide +kernel
theorem dX3_spend_17 : decode cX3_spend 17 = .ok (.iadd, 1) := by decide +kernel
theorem dX3_spend_18 : decode cX3_spend 18 = .ok (.istore 6, 2) := by decide +kernel
theorem dX3_spend_20 : decode cX3_spend 20 = .ok (.iload 5, 2) := by decide +kernel
theorem dX3_spend_22 : decode cX3_spend 22 = .ok (.istore 7, 2) := by decide +kernel
theorem dX3_spend_24 : decode cX3_spend 24 = .ok (.iload 7, 2) := by decide +kernel
theorem dX3_spend_26 : decode cX3_spend 26 = .ok (.ifCond .lt 80, 3) := by decide +kernel
theorem dX3_spend_29 : decode cX3_spend 29 = .ok (.iload 7, 2) := by decide +kernel
theorem dX3_spend_31 : decode cX3_spend 31 = .ok (.iload 5, 2) := by decide +kernel
theorem dX3_spend_33 : decode cX3_spend 33 = .ok (.if_icmp .ge 20, 3) := by decide +kernel
theorem dX3_spend_36 : decode cX3_spend 36 = .ok (.aload_n 0, 1) := by decide +kernel
theorem dX3_spend_37 : decode cX3_spend 37 = .ok (.getfield 18, 3) := by decide +kernel
theorem dX3_spend_40 : decode cX3_spend 40 = .ok (.iload 6, 2) := by decide +kernel
theorem dX3_spend_42 : decode cX3_spend 42 = .ok (.iload 7, 2) := by decide +kernel
theorem dX3_spend_44 : decode cX3_spend 44 = .ok (.isub, 1) := by decide +kernel
theorem dX3_spend_45 : decode cX3_spend 45 = .ok (.iconst 1, 1) := by decide +kernel
theorem dX3_spend_46 : decode cX3_spend 46 = .ok (.isub, 1) := by decide +kernel
theorem dX3_spend_47 : decode cX3_spend 47 = .ok (.iaload, 1) := by decide +kernel
theorem dX3_spend_48 : decode cX3_spend 48 = .ok (.iload_n 3, 1) := by decide +kernel
theorem dX3_spend_49 : decode cX3_spend 49 = .ok (.if_icmp .ne 4, 3) := by decide +kernel
theorem dX3_spend_52 : decode cX3_spend 52 = .ok (.return_, 1) := by decide +kernel
theorem dX3_spend_53 : decode cX3_spend 53 = .ok (.iload 7, 2) := by decide +kernel
theorem dX3_spend_55 : decode cX3_spend 55 = .ok (.iload 4, 2) := by decide +kernel
theorem dX3_spend_57 : decode cX3_spend 57 = .ok (.if_icmp .gt 43, 3) := by decide +kernel
theorem dX3_spend_60 : decode cX3_spend 60 = .ok (.iload 7, 2) := by decide +kernel
theorem dX3_spend_62 : decode cX3_spend 62 = .ok (.iload 5, 2) := by decide +kernel
theorem dX3_spend_64 : decode cX3_spend 64 = .ok (.if_icmp .ge 7, 3) := by decide +kernel
theorem dX3_spend_67 : decode cX3_spend 67 = .ok (.iconst 1, 1) := by decide +kernel
theorem dX3_spend_68 : decode cX3_spend 68 = .ok (.goto 4, 3) := by decide +kernel
theorem dX3_spend_71 : decode cX3_spend 71 = .ok (.iconst 0, 1) := by decide +kernel
theorem dX3_spend_72 : decode cX3_spend 72 = .ok (.istore 8, 2) := by decide +kernel
theorem dX3_spend_74 : decode cX3_spend 74 = .ok (.aload_n 0, 1) := by decide +kernel
theorem dX3_spend_75 : decode cX3_spend 75 = .ok (.getfield 24, 3) := by decide +kernel
theorem dX3_spend_78 : decode cX3_spend 78 = .ok (.iload 7, 2) := by decide +kernel
theorem dX3_spend_80 : decode cX3_spend 80 = .ok (.aload_n 0, 1) := by decide +kernel
theorem dX3_spend_81 : decode cX3_spend 81 = .ok (.getfield 24, 3) := by decide +kernel
theorem dX3_spend_84 : decode cX3_spend 84 = .ok (.iload 7, 2) := by decide +kernel
theorem dX3_spend_86 : decode cX3_spend 86 = .ok (.iaload, 1) := by decide +kernel
theorem dX3_spend_87 : decode cX3_spend 87 = .ok (.aload_n 0, 1) := by decide +kernel
theorem dX3_spend_88 : decode cX3_spend 88 = .ok (.getfield 21, 3) := by decide +kernel
theorem dX3_spend_91 : decode cX3_spend 91 = .ok (.iload_n 2, 1) := by decide +kernel
theorem dX3_spend_92 : decode cX3_spend 92 = .ok (.iaload, 1) := by decide +kernel
theorem dX3_spend_93 : decode cX3_spend 93 = .ok (.iload 8, 2) := by decide +kernel
theorem dX3_spend_95 : decode cX3_spend 95 = .ok (.iadd, 1) := by decide +kernel
theorem dX3_spend_96 : decode cX3_spend 96 = .ok (.invokestatic 67, 3) := by decide +kernel
theorem dX3_spend_99 : decode cX3_spend 99 = .ok (.iastore, 1) := by decide +kernel
theorem dX3_spend_100 : decode cX3_spend 100 = .ok (.iinc 7 (-1), 3) := by decide +kernel
theorem dX3_spend_103 : decode cX3_spend 103 = .ok (.goto (-79), 3) := by decide +kernel
theorem dX3_spend_106 : decode cX3_spend 106 = .ok (.return_, 1) := by decide +kernel
theorem dX3_fewestCuts_0 : decode cX3_fewestCuts 0 = .ok (.sipush 1000, 3) := by decide +kernel
theorem dX3_fewestCuts_3 : decode cX3_fewestCuts 3 = .ok (.istore_n 1, 1) := by decide +kernel
theorem dX3_fewestCuts_4 : decode cX3_fewestCuts 4 = .ok (.iconst 0, 1) := by decide +kernel
theorem dX3_fewestCuts_5 : decode cX3_fewestCuts 5 = .ok (.istore_n 2, 1) := by decide +kernel
theorem dX3_fewestCuts_6 : decode cX3_fewestCuts 6 = .ok (.iload_n 2, 1) := by decide +kernel
theorem dX3_fewestCuts_7 : decode cX3_fewestCuts 7 = .ok (.bipush 12, 2) := by decide +kernel
theorem dX3_fewestCuts_9 : decode cX3_fewestCuts 9 = .ok (.if_icmp .gt 20, 3) := by decide +kernel
theorem dX3_fewestCuts_12 : decode cX3_fewestCuts 12 = .ok (.iload_n 1, 1) := by decide +kernel
theorem dX3_fewestCuts_13 : decode cX3_fewestCuts 13 = .ok (.aload_n 0, 1) := by decide +kernel
theorem dX3_fewestCuts_14 : decode cX3_fewestCuts 14 = .ok (.getfield 21, 3) := by decide +kernel
theorem dX3_fewestCuts_17 : decode cX3_fewestCuts 17 = .ok (.iload_n 2, 1) := by decide +kernel
theorem dX3_fewestCuts_18 : decode cX3_fewestCuts 18 = .ok (.iaload, 1) := by decide +kernel
theorem dX3_fewestCuts_19 : decode cX3_fewestCuts 19 = .ok (.invokestatic 67, 3) := by decide +kernel
theorem dX3_fewestCuts_22 : decode cX3_fewestCuts 22 = .ok (.istore_n 1, 1) := by decide +kernel
theorem dX3_fewestCuts_23 : decode cX3_fewestCuts 23 = .ok (.iinc 2 1, 3) := by decide +kernel
theorem dX3_fewestCuts_26 : decode cX3_fewestCuts 26 = .ok (.goto (-20), 3) := by decide +kernel
theorem dX3_fewestCuts_29 : decode cX3_fewestCuts 29 = .ok (.iload_n 1, 1) := by decide +kernel
theorem dX3_fewestCuts_30 : decode cX3_fewestCuts 30 = .ok (.sipush 1000, 3) := by decide +kernel
theorem dX3_fewestCuts_33 : decode cX3_fewestCuts 33 = .ok (.if_icmp .ge 7, 3) := by decide +kernel
theorem dX3_fewestCuts_36 : decode cX3_fewestCuts 36 = .ok (.iload_n 1, 1) := by decide +kernel
theorem dX3_fewestCuts_37 : decode cX3_fewestCuts 37 = .ok (.goto 5, 3) := by decide +kernel
theorem dX3_fewestCuts_40 : decode cX3_fewestCuts 40 = .ok (.bipush (-9), 2) := by decide +kernel
theorem dX3_fewestCuts_42 : decode cX3_fewestCuts 42 = .ok (.ireturn, 1) := by decide +kernel
theorem dX3_fewestDays_0 : decode cX3_fewestDays 0 = .ok (.aload_n 0, 1) := by decide +kernel
theorem dX3_fewestDays_1 : decode cX3_fewestDays 1 = .ok (.invokevirtual 72, 3) := by decide +kernel
theorem dX3_fewestDays_4 : decode cX3_fewestDays 4 = .ok (.iconst 0, 1) := by decide +kernel
theorem dX3_fewestDays_5 : decode cX3_fewestDays 5 = .ok (.istore_n 2, 1) := by decide +kernel
theorem dX3_fewestDays_6 : decode cX3_fewestDays 6 = .ok (.iload_n 2, 1) := by decide +kernel
theorem dX3_fewestDays_7 : decode cX3_fewestDays 7 = .ok (.aload_n 0, 1) := by decide +kernel
theorem dX3_fewestDays_8 : decode cX3_fewestDays 8 = .ok (.getfield 42, 3) := by decide +kernel
theorem dX3_fewestDays_11 : decode cX3_fewestDays 11 = .ok (.aload_n 0, 1) := by decide +kernel
theorem dX3_fewestDays_12 : decode cX3_fewestDays 12 = .ok (.getfield 39, 3) := by decide +kernel
theorem dX3_fewestDays_15 : decode cX3_fewestDays 15 = .ok (.isub, 1) := by decide +kernel
theorem dX3_fewestDays_16 : decode cX3_fewestDays 16 = .ok (.if_icmp .gt 20, 3) := by decide +kernel
theorem dX3_fewestDays_19 : decode cX3_fewestDays 19 = .ok (.aload_n 0, 1) := by decide +kernel
theorem dX3_fewestDays_20 : decode cX3_fewestDays 20 = .ok (.iload_n 1, 1) := by decide +kernel
theorem dX3_fewestDays_21 : decode cX3_fewestDays 21 = .ok (.iload_n 2, 1) := by decide +kernel
theorem dX3_fewestDays_22 : decode cX3_fewestDays 22 = .ok (.invokevirtual 75, 3) := by decide +kernel
theorem dX3_fewestDays_25 : decode cX3_fewestDays 25 = .ok (.ifCond .eq 5, 3) := by decide +kernel
theorem dX3_fewestDays_28 : decode cX3_fewestDays 28 = .ok (.iload_n 2, 1) := by decide +kernel
theorem dX3_fewestDays_29 : decode cX3_fewestDays 29 = .ok (.ireturn, 1) := by decide +kernel
theorem dX3_fewestDays_30 : decode cX3_fewestDays 30 = .ok (.iinc 2 1, 3) := by decide +kernel
theorem dX3_fewestDays_33 : decode cX3_fewestDays 33 = .ok (.goto (-27), 3) := by decide +kernel
theorem dX3_fewestDays_36 : decode cX3_fewestDays 36 = .ok (.bipush (-9), 2) := by decide +kernel
theorem dX3_fewestDays_38 : decode cX3_fewestDays 38 = .ok (.ireturn, 1) := by decide +kernel
theorem dX3_countWhatIsLeft_0 : decode cX3_countWhatIsLeft 0 = .ok (.aload_n 0, 1) := by decide +kernel
theorem dX3_countWhatIsLeft_1 : decode cX3_countWhatIsLeft 1 = .ok (.getfield 9, 3) := by decide +kernel
theorem dX3_countWhatIsLeft_4 : decode cX3_countWhatIsLeft 4 = .ok (.iconst 0, 1) := by decide +kernel
theorem dX3_countWhatIsLeft_5 : decode cX3_countWhatIsLeft 5 = .ok (.invokestatic 53, 3) := by decide +kernel
theorem dX3_countWhatIsLeft_8 : decode cX3_countWhatIsLeft 8 = .ok (.aload_n 0, 1) := by decide +kernel
theorem dX3_countWhatIsLeft_9 : decode cX3_countWhatIsLeft 9 = .ok (.getfield 15, 3) := by decide +kernel
theorem dX3_countWhatIsLeft_12 : decode cX3_countWhatIsLeft 12 = .ok (.iconst 0, 1) := by decide +kernel
theorem dX3_countWhatIsLeft_13 : decode cX3_countWhatIsLeft 13 = .ok (.invokestatic 53, 3) := by decide +kernel
theorem dX3_countWhatIsLeft_16 : decode cX3_countWhatIsLeft 16 = .ok (.aload_n 0, 1) := by decide +kernel
theorem dX3_countWhatIsLeft_17 : decode cX3_countWhatIsLeft 17 = .ok (.getfield 42, 3) := by decide +kernel
theorem dX3_countWhatIsLeft_20 : decode cX3_countWhatIsLeft 20 = .ok (.aload_n 0, 1) := by decide +kernel
theorem dX3_countWhatIsLeft_21 : decode cX3_countWhatIsLeft 21 = .ok (.getfield 42, 3) := by decide +kernel
theorem dX3_countWhatIsLeft_24 : decode cX3_countWhatIsLeft 24 = .ok (.aload_n 0, 1) := by decide +kernel
theorem dX3_countWhatIsLeft_25 : decode cX3_countWhatIsLeft 25 = .ok (.getfield 33, 3) := by decide +kernel
theorem dX3_countWhatIsLeft_28 : decode cX3_countWhatIsLeft 28 = .ok (.invokestatic 67, 3) := by decide +kernel
theorem dX3_countWhatIsLeft_31 : decode cX3_countWhatIsLeft 31 = .ok (.isub, 1) := by decide +kernel
theorem dX3_countWhatIsLeft_32 : decode cX3_countWhatIsLeft 32 = .ok (.istore_n 1, 1) := by decide +kernel
theorem dX3_countWhatIsLeft_33 : decode cX3_countWhatIsLeft 33 = .ok (.iload_n 1, 1) := by decide +kernel
theorem dX3_countWhatIsLeft_34 : decode cX3_countWhatIsLeft 34 = .ok (.aload_n 0, 1) := by decide +kernel
theorem dX3_countWhatIsLeft_35 : decode cX3_countWhatIsLeft 35 = .ok (.getfield 42, 3) := by decide +kernel
theorem dX3_countWhatIsLeft_38 : decode cX3_countWhatIsLeft 38 = .ok (.if_icmp .ge 47, 3) := by decide +kernel
theorem dX3_countWhatIsLeft_41 : decode cX3_countWhatIsLeft 41 = .ok (.aload_n 0, 1) := by decide +kernel
theorem dX3_countWhatIsLeft_42 : decode cX3_countWhatIsLeft 42 = .ok (.getfield 9, 3) := by decide +kernel
theorem dX3_countWhatIsLeft_45 : decode cX3_countWhatIsLeft 45 = .ok (.aload_n 0, 1) := by decide +kernel
theorem dX3_countWhatIsLeft_46 : decode cX3_countWhatIsLeft 46 = .ok (.getfield 18, 3) := by decide +kernel
theorem dX3_countWhatIsLeft_49 : decode cX3_countWhatIsLeft 49 = .ok (.iload_n 1, 1) := by decide +kernel
theorem dX3_countWhatIsLeft_50 : decode cX3_countWhatIsLeft 50 = .ok (.iaload, 1) := by decide +kernel
theorem dX3_countWhatIsLeft_51 : decode cX3_countWhatIsLeft 51 = .ok (.dup2, 1) := by decide +kernel
theorem dX3_countWhatIsLeft_52 : decode cX3_countWhatIsLeft 52 = .ok (.iaload, 1) := by decide +kernel
theorem dX3_countWhatIsLeft_53 : decode cX3_countWhatIsLeft 53 = .ok (.iconst 1, 1) := by decide +kernel
theorem dX3_countWhatIsLeft_54 : decode cX3_countWhatIsLeft 54 = .ok (.iadd, 1) := by decide +kernel
theorem dX3_countWhatIsLeft_55 : decode cX3_countWhatIsLeft 55 = .ok (.iastore, 1) := by decide +kernel
theorem dX3_countWhatIsLeft_56 : decode cX3_countWhatIsLeft 56 = .ok (.iload_n 1, 1) := by decide +kernel
theorem dX3_countWhatIsLeft_57 : decode cX3_countWhatIsLeft 57 = .ok (.aload_n 0, 1) := by decide +kernel
theorem dX3_countWhatIsLeft_58 : decode cX3_countWhatIsLeft 58 = .ok (.getfield 39, 3) := by decide +kernel
theorem dX3_countWhatIsLeft_61 : decode cX3_countWhatIsLeft 61 = .ok (.if_icmp .lt 18, 3) := by decide +kernel
theorem dX3_countWhatIsLeft_64 : decode cX3_countWhatIsLeft 64 = .ok (.aload_n 0, 1) := by decide +kernel
theorem dX3_countWhatIsLeft_65 : decode cX3_countWhatIsLeft 65 = .ok (.getfield 15, 3) := by decide +kernel
theorem dX3_countWhatIsLeft_68 : decode cX3_countWhatIsLeft 68 = .ok (.aload_n 0, 1) := by decide +kernel
theorem dX3_countWhatIsLeft_69 : decode cX3_countWhatIsLeft 69 = .ok (.getfield 18, 3) := by decide +kernel
theorem dX3_countWhatIsLeft_72 : decode cX3_countWhatIsLeft 72 = .ok (.iload_n 1, 1) := by decide +kernel
theorem dX3_countWhatIsLeft_73 : decode cX3_countWhatIsLeft 73 = .ok (.iaload, 1) := by decide +kernel
theorem dX3_countWhatIsLeft_74 : decode cX3_countWhatIsLeft 74 = .ok (.dup2, 1) := by decide +kernel
theorem dX3_countWhatIsLeft_75 : decode cX3_countWhatIsLeft 75 = .ok (.iaload, 1) := by decide +kernel
theorem dX3_countWhatIsLeft_76 : decode cX3_countWhatIsLeft 76 = .ok (.iconst 1, 1) := by decide +kernel
theorem dX3_countWhatIsLeft_77 : decode cX3_countWhatIsLeft 77 = .ok (.iadd, 1) := by decide +kernel
theorem dX3_countWhatIsLeft_78 : decode cX3_countWhatIsLeft 78 = .ok (.iastore, 1) := by decide +kernel
theorem dX3_countWhatIsLeft_79 : decode cX3_countWhatIsLeft 79 = .ok (.iinc 1 1, 3) := by decide +kernel
theorem dX3_countWhatIsLeft_82 : decode cX3_countWhatIsLeft 82 = .ok (.goto (-49), 3) := by decide +kernel
theorem dX3_countWhatIsLeft_85 : decode cX3_countWhatIsLeft 85 = .ok (.return_, 1) := by decide +kernel
theorem dX3_suffices_0 : decode cX3_suffices 0 = .ok (.aload_n 0, 1) := by decide +kernel
theorem dX3_suffices_1 : decode cX3_suffices 1 = .ok (.getfield 9, 3) := by decide +kernel
theorem dX3_suffices_4 : decode cX3_suffices 4 = .ok (.iload_n 1, 1) := by decide +kernel
theorem dX3_suffices_5 : decode cX3_suffices 5 = .ok (.iaload, 1) := by decide +kernel
theorem dX3_suffices_6 : decode cX3_suffices 6 = .ok (.iload_n 2, 1) := by decide +kernel
theorem dX3_suffices_7 : decode cX3_suffices 7 = .ok (.iadd, 1) := by decide +kernel
theorem dX3_suffices_8 : decode cX3_suffices 8 = .ok (.istore_n 3, 1) := by decide +kernel
theorem dX3_suffices_9 : decode cX3_suffices 9 = .ok (.iconst 0, 1) := by decide +kernel
theorem dX3_suffices_10 : decode cX3_suffices 10 = .ok (.istore 4, 2) := by decide +kernel
theorem dX3_suffices_12 : decode cX3_suffices 12 = .ok (.iconst 0, 1) := by decide +kernel
theorem dX3_suffices_13 : decode cX3_suffices 13 = .ok (.istore 5, 2) := by decide +kernel
theorem dX3_suffices_15 : decode cX3_suffices 15 = .ok (.iconst 0, 1) := by decide +kernel
theorem dX3_suffices_16 : decode cX3_suffices 16 = .ok (.istore 6, 2) := by decide +kernel
theorem dX3_suffices_18 : decode cX3_suffices 18 = .ok (.iload 6, 2) := by decide +kernel
theorem dX3_suffices_20 : decode cX3_suffices 20 = .ok (.bipush 10, 2) := by decide +kernel
theorem dX3_suffices_22 : decode cX3_suffices 22 = .ok (.if_icmp .ge 65, 3) := by decide +kernel
theorem dX3_suffices_25 : decode cX3_suffices 25 = .ok (.iload 6, 2) := by decide +kernel
theorem dX3_suffices_27 : decode cX3_suffices 27 = .ok (.iload_n 1, 1) := by decide +kernel
theorem dX3_suffices_28 : decode cX3_suffices 28 = .ok (.if_icmp .eq 53, 3) := by decide +kernel
theorem dX3_suffices_31 : decode cX3_suffices 31 = .ok (.iconst 0, 1) := by decide +kernel
theorem dX3_suffices_32 : decode cX3_suffices 32 = .ok (.aload_n 0, 1) := by decide +kernel
theorem dX3_suffices_33 : decode cX3_suffices 33 = .ok (.getfield 9, 3) := by decide +kernel
theorem dX3_suffices_36 : decode cX3_suffices 36 = .ok (.iload 6, 2) := by decide +kernel
theorem dX3_suffices_38 : decode cX3_suffices 38 = .ok (.iaload, 1) := by decide +kernel
theorem dX3_suffices_39 : decode cX3_suffices 39 = .ok (.iload_n 3, 1) := by decide +kernel
theorem dX3_suffices_40 : decode cX3_suffices 40 = .ok (.isub, 1) := by decide +kernel
theorem dX3_suffices_41 : decode cX3_suffices 41 = .ok (.iconst 1, 1) := by decide +kernel
theorem dX3_suffices_42 : decode cX3_suffices 42 = .ok (.iadd, 1) := by decide +kernel
theorem dX3_suffices_43 : decode cX3_suffices 43 = .ok (.invokestatic 79, 3) := by decide +kernel
theorem dX3_suffices_46 : decode cX3_suffices 46 = .ok (.istore 7, 2) := by decide +kernel
theorem dX3_suffices_48 : decode cX3_suffices 48 = .ok (.iload 7, 2) := by decide +kernel
theorem dX3_suffices_50 : decode cX3_suffices 50 = .ok (.aload_n 0, 1) := by decide +kernel
theorem dX3_suffices_51 : decode cX3_suffices 51 = .ok (.getfield 15, 3) := by decide +kernel
theorem dX3_suffices_54 : decode cX3_suffices 54 = .ok (.iload 6, 2) := by decide +kernel
theorem dX3_suffices_56 : decode cX3_suffices 56 = .ok (.iaload, 1) := by decide +kernel
theorem dX3_suffices_57 : decode cX3_suffices 57 = .ok (.if_icmp .le 5, 3) := by decide +kernel
theorem dX3_suffices_60 : decode cX3_suffices 60 = .ok (.iconst 0, 1) := by decide +kernel
theorem dX3_suffices_61 : decode cX3_suffices 61 = .ok (.ireturn, 1) := by decide +kernel
theorem dX3_suffices_62 : decode cX3_suffices 62 = .ok (.iload 4, 2) := by decide +kernel
theorem dX3_suffices_64 : decode cX3_suffices 64 = .ok (.iload 7, 2) := by decide +kernel
theorem dX3_suffices_66 : decode cX3_suffices 66 = .ok (.iadd, 1) := by decide +kernel
theorem dX3_suffices_67 : decode cX3_suffices 67 = .ok (.istore 4, 2) := by decide +kernel
theorem dX3_suffices_69 : decode cX3_suffices 69 = .ok (.iload 5, 2) := by decide +kernel
theorem dX3_suffices_71 : decode cX3_suffices 71 = .ok (.aload_n 0, 1) := by decide +kernel
theorem dX3_suffices_72 : decode cX3_suffices 72 = .ok (.getfield 15, 3) := by decide +kernel
theorem dX3_suffices_75 : decode cX3_suffices 75 = .ok (.iload 6, 2) := by decide +kernel
theorem dX3_suffices_77 : decode cX3_suffices 77 = .ok (.iaload, 1) := by decide +kernel
theorem dX3_suffices_78 : decode cX3_suffices 78 = .ok (.iadd, 1) := by decide +kernel
theorem dX3_suffices_79 : decode cX3_suffices 79 = .ok (.istore 5, 2) := by decide +kernel
theorem dX3_suffices_81 : decode cX3_suffices 81 = .ok (.iinc 6 1, 3) := by decide +kernel
theorem dX3_suffices_84 : decode cX3_suffices 84 = .ok (.goto (-66), 3) := by decide +kernel
theorem dX3_suffices_87 : decode cX3_suffices 87 = .ok (.iload 4, 2) := by decide +kernel
theorem dX3_suffices_89 : decode cX3_suffices 89 = .ok (.iload_n 2, 1) := by decide +kernel
theorem dX3_suffices_90 : decode cX3_suffices 90 = .ok (.if_icmp .gt 13, 3) := by decide +kernel
theorem dX3_suffices_93 : decode cX3_suffices 93 = .ok (.iload_n 2, 1) := by decide +kernel
theorem dX3_suffices_94 : decode cX3_suffices 94 = .ok (.iload 5, 2) := by decide +kernel
theorem dX3_suffices_96 : decode cX3_suffices 96 = .ok (.if_icmp .gt 7, 3) := by decide +kernel
theorem dX3_suffices_99 : decode cX3_suffices 99 = .ok (.iconst 1, 1) := by decide +kernel
theorem dX3_suffices_100 : decode cX3_suffices 100 = .ok (.goto 4, 3) := by decide +kernel
theorem dX3_suffices_103 : decode cX3_suffices 103 = .ok (.iconst 0, 1) := by decide +kernel
theorem dX3_suffices_104 : decode cX3_suffices 104 = .ok (.ireturn, 1) := by decide +kernel
theorem dX4_init_0 : decode cX4_init 0 = .ok (.aload_n 0, 1) := by decide +kernel
theorem dX4_init_1 : decode cX4_init 1 = .ok (.invokespecial 3, 3) := by decide +kernel
theorem dX4_init_4 : decode cX4_init 4 = .ok (.aload_n 0, 1) := by decide +kernel
theorem dX4_init_5 : decode cX4_init 5 = .ok (.bipush 120, 2) := by decide +kernel
theorem dX4_init_7 : decode cX4_init 7 = .ok (.newarray .int, 2) := by decide +kernel
theorem dX4_init_9 : decode cX4_init 9 = .ok (.putfield 9, 3) := by decide +kernel
theorem dX4_init_12 : decode cX4_init 12 = .ok (.return_, 1) := by decide +kernel
theorem dX5_init_0 : decode cX5_init 0 = .ok (.aload_n 0, 1) := by decide +kernel
theorem dX5_init_1 : decode cX5_init 1 = .ok (.invokespecial 3, 3) := by decide +kernel
theorem dX5_init_4 : decode cX5_init 4 = .ok (.aload_n 0, 1) := by decide +kernel
theorem dX5_init_5 : decode cX5_init 5 = .ok (.new 9, 3) := by decide +kernel
theorem dX5_init_8 : decode cX5_init 8 = .ok (.dup, 1) := by decide +kernel
theorem dX5_init_9 : decode cX5_init 9 = .ok (.invokespecial 11, 3) := by decide +kernel
theorem dX5_init_12 : decode cX5_init 12 = .ok (.putfield 12, 3) := by decide +kernel
theorem dX5_init_15 : decode cX5_init 15 = .ok (.aload_n 0, 1) := by decide +kernel
theorem dX5_init_16 : decode cX5_init 16 = .ok (.bipush 10, 2) := by decide +kernel
theorem dX5_init_18 : decode cX5_init 18 = .ok (.anewarray 9, 3) := by decide +kernel
theorem dX5_init_21 : decode cX5_init 21 = .ok (.putfield 18, 3) := by decide +kernel
theorem dX5_init_24 : decode cX5_init 24 = .ok (.iconst 0, 1) := by decide +kernel
theorem dX5_init_25 : decode cX5_init 25 = .ok (.istore_n 1, 1) := by decide +kernel
theorem dX5_init_26 : decode cX5_init 26 = .ok (.iload_n 1, 1) := by decide +kernel
theorem dX5_init_27 : decode cX5_init 27 = .ok (.bipush 10, 2) := by decide +kernel
theorem dX5_init_29 : decode cX5_init 29 = .ok (.if_icmp .ge 22, 3) := by decide +kernel
theorem dX5_init_32 : decode cX5_init 32 = .ok (.aload_n 0, 1) := by decide +kernel
theorem dX5_init_33 : decode cX5_init 33 = .ok (.getfield 18, 3) := by decide +kernel
theorem dX5_init_36 : decode cX5_init 36 = .ok (.iload_n 1, 1) := by decide +kernel
theorem dX5_init_37 : decode cX5_init 37 = .ok (.new 9, 3) := by decide +kernel
theorem dX5_init_40 : decode cX5_init 40 = .ok (.dup, 1) := by decide +kernel
theorem dX5_init_41 : decode cX5_init 41 = .ok (.invokespecial 11, 3) := by decide +kernel
theorem dX5_init_44 : decode cX5_init 44 = .ok (.aastore, 1) := by decide +kernel
theorem dX5_init_45 : decode cX5_init 45 = .ok (.iinc 1 1, 3) := by decide +kernel
theorem dX5_init_48 : decode cX5_init 48 = .ok (.goto (-22), 3) := by decide +kernel
theorem dX5_init_51 : decode cX5_init 51 = .ok (.return_, 1) := by decide +kernel
theorem dX5_begin_0 : decode cX5_begin 0 = .ok (.aload_n 0, 1) := by decide +kernel
theorem dX5_begin_1 : decode cX5_begin 1 = .ok (.getfield 12, 3) := by decide +kernel
theorem dX5_begin_4 : decode cX5_begin 4 = .ok (.iload_n 1, 1) := by decide +kernel
theorem dX5_begin_5 : decode cX5_begin 5 = .ok (.invokevirtual 22, 3) := by decide +kernel
theorem dX5_begin_8 : decode cX5_begin 8 = .ok (.aload_n 0, 1) := by decide +kernel
theorem dX5_begin_9 : decode cX5_begin 9 = .ok (.iconst 0, 1) := by decide +kernel
theorem dX5_begin_10 : decode cX5_begin 10 = .ok (.putfield 26, 3) := by decide +kernel
theorem dX5_begin_13 : decode cX5_begin 13 = .ok (.return_, 1) := by decide +kernel
theorem dX5_remember_0 : decode cX5_remember 0 = .ok (.aload_n 0, 1) := by decide +kernel
theorem dX5_remember_1 : decode cX5_remember 1 = .ok (.getfield 26, 3) := by decide +kernel
theorem dX5_remember_4 : decode cX5_remember 4 = .ok (.bipush 10, 2) := by decide +kernel
theorem dX5_remember_6 : decode cX5_remember 6 = .ok (.if_icmp .lt 7, 3) := by decide +kernel
theorem dX5_remember_9 : decode cX5_remember 9 = .ok (.aload_n 0, 1) := by decide +kernel
theorem dX5_remember_10 : decode cX5_remember 10 = .ok (.invokevirtual 30, 3) := by decide +kernel
theorem dX5_remember_13 : decode cX5_remember 13 = .ok (.aload_n 0, 1) := by decide +kernel
theorem dX5_remember_14 : decode cX5_remember 14 = .ok (.getfield 18, 3) := by decide +kernel
theorem dX5_remember_17 : decode cX5_remember 17 = .ok (.aload_n 0, 1) := by decide +kernel
theorem dX5_remember_18 : decode cX5_remember 18 = .ok (.getfield 26, 3) := by decide +kernel
theorem dX5_remember_21 : decode cX5_remember 21 = .ok (.aaload, 1) := by decide +kernel
theorem dX5_remember_22 : decode cX5_remember 22 = .ok (.aload_n 0, 1) := by decide +kernel
theorem dX5_remember_23 : decode cX5_remember 23 = .ok (.getfield 12, 3) := by decide +kernel
theorem dX5_remember_26 : decode cX5_remember 26 = .ok (.invokevirtual 33, 3) := by decide +kernel
theorem dX5_remember_29 : decode cX5_remember 29 = .ok (.aload_n 0, 1) := by decide +kernel
theorem dX5_remember_30 : decode cX5_remember 30 = .ok (.dup, 1) := by decide +kernel
theorem dX5_remember_31 : decode cX5_remember 31 = .ok (.getfield 26, 3) := by decide +kernel
theorem dX5_remember_34 : decode cX5_remember 34 = .ok (.iconst 1, 1) := by decide +kernel
theorem dX5_remember_35 : decode cX5_remember 35 = .ok (.iadd, 1) := by decide +kernel
theorem dX5_remember_36 : decode cX5_remember 36 = .ok (.putfield 26, 3) := by decide +kernel
theorem dX5_remember_39 : decode cX5_remember 39 = .ok (.return_, 1) := by decide +kernel
theorem dX5_loseOldest_0 : decode cX5_loseOldest 0 = .ok (.aload_n 0, 1) := by decide +kernel
theorem dX5_loseOldest_1 : decode cX5_loseOldest 1 = .ok (.getfield 18, 3) := by decide +kernel
theorem dX5_loseOldest_4 : decode cX5_loseOldest 4 = .ok (.iconst 0, 1) := by decide +kernel
theorem dX5_loseOldest_5 : decode cX5_loseOldest 5 = .ok (.aaload, 1) := by decide +kernel
theorem dX5_loseOldest_6 : decode cX5_loseOldest 6 = .ok (.astore_n 1, 1) := by decide +kernel
theorem dX5_loseOldest_7 : decode cX5_loseOldest 7 = .ok (.iconst 1, 1) := by decide +kernel
theorem dX5_loseOldest_8 : decode cX5_loseOldest 8 = .ok (.istore_n 2, 1) := by decide +kernel
theorem dX5_loseOldest_9 : decode cX5_loseOldest 9 = .ok (.iload_n 2, 1) := by decide +kernel
theorem dX5_loseOldest_10 : decode cX5_loseOldest 10 = .ok (.bipush 10, 2) := by decide +kernel
theorem dX5_loseOldest_12 : decode cX5_loseOldest 12 = .ok (.if_icmp .ge 23, 3) := by decide +kernel
theorem dX5_loseOldest_15 : decode cX5_loseOldest 15 = .ok (.aload_n 0, 1) := by decide +kernel
theorem dX5_loseOldest_16 : decode cX5_loseOldest 16 = .ok (.getfield 18, 3) := by decide +kernel
theorem dX5_loseOldest_19 : decode cX5_loseOldest 19 = .ok (.iload_n 2, 1) := by decide +kernel
theorem dX5_loseOldest_20 : decode cX5_loseOldest 20 = .ok (.iconst 1, 1) := by decide +kernel
theorem dX5_loseOldest_21 : decode cX5_loseOldest 21 = .ok (.isub, 1) := by decide +kernel
theorem dX5_loseOldest_22 : decode cX5_loseOldest 22 = .ok (.aload_n 0, 1) := by decide +kernel
theorem dX5_loseOldest_23 : decode cX5_loseOldest 23 = .ok (.getfield 18, 3) := by decide +kernel
theorem dX5_loseOldest_26 : decode cX5_loseOldest 26 = .ok (.iload_n 2, 1) := by decide +kernel
theorem dX5_loseOldest_27 : decode cX5_loseOldest 27 = .ok (.aaload, 1) := by decide +kernel
theorem dX5_loseOldest_28 : decode cX5_loseOldest 28 = .ok (.aastore, 1) := by decide +kernel
theorem dX5_loseOldest_29 : decode cX5_loseOldest 29 = .ok (.iinc 2 1, 3) := by decide +kernel
theorem dX5_loseOldest_32 : decode cX5_loseOldest 32 = .ok (.goto (-23), 3) := by decide +kernel
theorem dX5_loseOldest_35 : decode cX5_loseOldest 35 = .ok (.aload_n 0, 1) := by decide +kernel
theorem dX5_loseOldest_36 : decode cX5_loseOldest 36 = .ok (.getfield 18, 3) := by decide +kernel
theorem dX5_loseOldest_39 : decode cX5_loseOldest 39 = .ok (.bipush 9, 2) := by decide +kernel
theorem dX5_loseOldest_41 : decode cX5_loseOldest 41 = .ok (.aload_n 1, 1) := by decide +kernel
theorem dX5_loseOldest_42 : decode cX5_loseOldest 42 = .ok (.aastore, 1) := by decide +kernel
theorem dX5_loseOldest_43 : decode cX5_loseOldest 43 = .ok (.aload_n 0, 1) := by decide +kernel
theorem dX5_loseOldest_44 : decode cX5_loseOldest 44 = .ok (.bipush 9, 2) := by decide +kernel
theorem dX5_loseOldest_46 : decode cX5_loseOldest 46 = .ok (.putfield 26, 3) := by decide +kernel
theorem dX5_loseOldest_49 : decode cX5_loseOldest 49 = .ok (.return_, 1) := by decide +kernel
theorem dX5_goBack_0 : decode cX5_goBack 0 = .ok (.aload_n 0, 1) := by decide +kernel
theorem dX5_goBack_1 : decode cX5_goBack 1 = .ok (.getfield 26, 3) := by decide +kernel
theorem dX5_goBack_4 : decode cX5_goBack 4 = .ok (.ifCond .le 29, 3) := by decide +kernel
theorem dX5_goBack_7 : decode cX5_goBack 7 = .ok (.aload_n 0, 1) := by decide +kernel
theorem dX5_goBack_8 : decode cX5_goBack 8 = .ok (.dup, 1) := by decide +kernel
theorem dX5_goBack_9 : decode cX5_goBack 9 = .ok (.getfield 26, 3) := by decide +kernel
theorem dX5_goBack_12 : decode cX5_goBack 12 = .ok (.iconst 1, 1) := by decide +kernel
theorem dX5_goBack_13 : decode cX5_goBack 13 = .ok (.isub, 1) := by decide +kernel
theorem dX5_goBack_14 : decode cX5_goBack 14 = .ok (.putfield 26, 3) := by decide +kernel
theorem dX5_goBack_17 : decode cX5_goBack 17 = .ok (.aload_n 0, 1) := by decide +kernel
theorem dX5_goBack_18 : decode cX5_goBack 18 = .ok (.getfield 12, 3) := by decide +kernel
theorem dX5_goBack_21 : decode cX5_goBack 21 = .ok (.aload_n 0, 1) := by decide +kernel
theorem dX5_goBack_22 : decode cX5_goBack 22 = .ok (.getfield 18, 3) := by decide +kernel
theorem dX5_goBack_25 : decode cX5_goBack 25 = .ok (.aload_n 0, 1) := by decide +kernel
theorem dX5_goBack_26 : decode cX5_goBack 26 = .ok (.getfield 26, 3) := by decide +kernel
theorem dX5_goBack_29 : decode cX5_goBack 29 = .ok (.aaload, 1) := by decide +kernel
theorem dX5_goBack_30 : decode cX5_goBack 30 = .ok (.invokevirtual 33, 3) := by decide +kernel
theorem dX5_goBack_33 : decode cX5_goBack 33 = .ok (.return_, 1) := by decide +kernel
end
section
theorem dX5_copyFrom_0 : decode cX5_copyFrom 0 = .ok (.aload_n 0, 1) := by decide +kernel
theorem dX5_copyFrom_1 : decode cX5_copyFrom 1 = .ok (.getfield 12, 3) := by decide +kernel
theorem dX5_copyFrom_4 : decode cX5_copyFrom 4 = .ok (.aload_n 1, 1) := by decide +kernel
theorem dX5_copyFrom_5 : decode cX5_copyFrom 5 = .ok (.getfield 12, 3) := by decide +kernel
theorem dX5_copyFrom_8 : decode cX5_copyFrom 8 = .ok (.invokevirtual 33, 3) := by decide +kernel
theorem dX5_copyFrom_11 : decode cX5_copyFrom 11 = .ok (.aload_n 0, 1) := by decide +kernel
theorem dX5_copyFrom_12 : decode cX5_copyFrom 12 = .ok (.aload_n 1, 1) := by decide +kernel
theorem dX5_copyFrom_13 : decode cX5_copyFrom 13 = .ok (.getfield 26, 3) := by decide +kernel
theorem dX5_copyFrom_16 : decode cX5_copyFrom 16 = .ok (.putfield 26, 3) := by decide +kernel
theorem dX5_copyFrom_19 : decode cX5_copyFrom 19 = .ok (.iconst 0, 1) := by decide +kernel
theorem dX5_copyFrom_20 : decode cX5_copyFrom 20 = .ok (.istore_n 2, 1) := by decide +kernel
theorem dX5_copyFrom_21 : decode cX5_copyFrom 21 = .ok (.iload_n 2, 1) := by decide +kernel
theorem dX5_copyFrom_22 : decode cX5_copyFrom 22 = .ok (.aload_n 0, 1) := by decide +kernel
theorem dX5_copyFrom_23 : decode cX5_copyFrom 23 = .ok (.getfield 26, 3) := by decide +kernel
theorem dX5_copyFrom_26 : decode cX5_copyFrom 26 = .ok (.if_icmp .ge 24, 3) := by decide +kernel
theorem dX5_copyFrom_29 : decode cX5_copyFrom 29 = .ok (.aload_n 0, 1) := by decide +kernel
theorem dX5_copyFrom_30 : decode cX5_copyFrom 30 = .ok (.getfield 18, 3) := by decide +kernel
theorem dX5_copyFrom_33 : decode cX5_copyFrom 33 = .ok (.iload_n 2, 1) := by decide +kernel
theorem dX5_copyFrom_34 : decode cX5_copyFrom 34 = .ok (.aaload, 1) := by decide +kernel
theorem dX5_copyFrom_35 : decode cX5_copyFrom 35 = .ok (.aload_n 1, 1) := by decide +kernel
theorem dX5_copyFrom_36 : decode cX5_copyFrom 36 = .ok (.getfield 18, 3) := by decide +kernel
theorem dX5_copyFrom_39 : decode cX5_copyFrom 39 = .ok (.iload_n 2, 1) := by decide +kernel
theorem dX5_copyFrom_40 : decode cX5_copyFrom 40 = .ok (.aaload, 1) := by decide +kernel
theorem dX5_copyFrom_41 : decode cX5_copyFrom 41 = .ok (.invokevirtual 33, 3) := by decide +kernel
theorem dX5_copyFrom_44 : decode cX5_copyFrom 44 = .ok (.iinc 2 1, 3) := by decide +kernel
theorem dX5_copyFrom_47 : decode cX5_copyFrom 47 = .ok (.goto (-26), 3) := by decide +kernel
theorem dX5_copyFrom_50 : decode cX5_copyFrom 50 = .ok (.return_, 1) := by decide +kernel
theorem dX6_init_0 : decode cX6_init 0 = .ok (.aload_n 0, 1) := by decide +kernel
theorem dX6_init_1 : decode cX6_init 1 = .ok (.invokespecial 3, 3) := by decide +kernel
theorem dX6_init_4 : decode cX6_init 4 = .ok (.aload_n 0, 1) := by decide +kernel
theorem dX6_init_5 : decode cX6_init 5 = .ok (.iconst 5, 1) := by decide +kernel
theorem dX6_init_6 : decode cX6_init 6 = .ok (.newarray .int, 2) := by decide +kernel
theorem dX6_init_8 : decode cX6_init 8 = .ok (.putfield 9, 3) := by decide +kernel
theorem dX6_init_11 : decode cX6_init 11 = .ok (.aload_n 0, 1) := by decide +kernel
theorem dX6_init_12 : decode cX6_init 12 = .ok (.iconst 5, 1) := by decide +kernel
theorem dX6_init_13 : decode cX6_init 13 = .ok (.newarray .int, 2) := by decide +kernel
theorem dX6_init_15 : decode cX6_init 15 = .ok (.putfield 15, 3) := by decide +kernel
theorem dX6_init_18 : decode cX6_init 18 = .ok (.aload_n 0, 1) := by decide +kernel
theorem dX6_init_19 : decode cX6_init 19 = .ok (.bipush 35, 2) := by decide +kernel
theorem dX6_init_21 : decode cX6_init 21 = .ok (.newarray .int, 2) := by decide +kernel
theorem dX6_init_23 : decode cX6_init 23 = .ok (.putfield 18, 3) := by decide +kernel
theorem dX6_init_26 : decode cX6_init 26 = .ok (.aload_n 0, 1) := by decide +kernel
theorem dX6_init_27 : decode cX6_init 27 = .ok (.bipush 12, 2) := by decide +kernel
theorem dX6_init_29 : decode cX6_init 29 = .ok (.putfield 21, 3) := by decide +kernel
theorem dX6_init_32 : decode cX6_init 32 = .ok (.return_, 1) := by decide +kernel
theorem dX6_begin_0 : decode cX6_begin 0 = .ok (.aload_n 0, 1) := by decide +kernel
theorem dX6_begin_1 : decode cX6_begin 1 = .ok (.iconst 0, 1) := by decide +kernel
theorem dX6_begin_2 : decode cX6_begin 2 = .ok (.putfield 25, 3) := by decide +kernel
theorem dX6_begin_5 : decode cX6_begin 5 = .ok (.aload_n 0, 1) := by decide +kernel
theorem dX6_begin_6 : decode cX6_begin 6 = .ok (.bipush 12, 2) := by decide +kernel
theorem dX6_begin_8 : decode cX6_begin 8 = .ok (.putfield 21, 3) := by decide +kernel
theorem dX6_begin_11 : decode cX6_begin 11 = .ok (.aload_n 0, 1) := by decide +kernel
theorem dX6_begin_12 : decode cX6_begin 12 = .ok (.iconst 0, 1) := by decide +kernel
theorem dX6_begin_13 : decode cX6_begin 13 = .ok (.putfield 28, 3) := by decide +kernel
theorem dX6_begin_16 : decode cX6_begin 16 = .ok (.return_, 1) := by decide +kernel
theorem dX6_copyFrom_0 : decode cX6_copyFrom 0 = .ok (.aload_n 0, 1) := by decide +kernel
theorem dX6_copyFrom_1 : decode cX6_copyFrom 1 = .ok (.aload_n 1, 1) := by decide +kernel
theorem dX6_copyFrom_2 : decode cX6_copyFrom 2 = .ok (.getfield 25, 3) := by decide +kernel
theorem dX6_copyFrom_5 : decode cX6_copyFrom 5 = .ok (.putfield 25, 3) := by decide +kernel
theorem dX6_copyFrom_8 : decode cX6_copyFrom 8 = .ok (.aload_n 0, 1) := by decide +kernel
theorem dX6_copyFrom_9 : decode cX6_copyFrom 9 = .ok (.aload_n 1, 1) := by decide +kernel
theorem dX6_copyFrom_10 : decode cX6_copyFrom 10 = .ok (.getfield 21, 3) := by decide +kernel
theorem dX6_copyFrom_13 : decode cX6_copyFrom 13 = .ok (.putfield 21, 3) := by decide +kernel
theorem dX6_copyFrom_16 : decode cX6_copyFrom 16 = .ok (.aload_n 0, 1) := by decide +kernel
theorem dX6_copyFrom_17 : decode cX6_copyFrom 17 = .ok (.aload_n 1, 1) := by decide +kernel
theorem dX6_copyFrom_18 : decode cX6_copyFrom 18 = .ok (.getfield 28, 3) := by decide +kernel
theorem dX6_copyFrom_21 : decode cX6_copyFrom 21 = .ok (.putfield 28, 3) := by decide +kernel
theorem dX6_copyFrom_24 : decode cX6_copyFrom 24 = .ok (.aload_n 1, 1) := by decide +kernel
theorem dX6_copyFrom_25 : decode cX6_copyFrom 25 = .ok (.getfield 9, 3) := by decide +kernel
theorem dX6_copyFrom_28 : decode cX6_copyFrom 28 = .ok (.iconst 0, 1) := by decide +kernel
theorem dX6_copyFrom_29 : decode cX6_copyFrom 29 = .ok (.aload_n 0, 1) := by decide +kernel
theorem dX6_copyFrom_30 : decode cX6_copyFrom 30 = .ok (.getfield 9, 3) := by decide +kernel
theorem dX6_copyFrom_33 : decode cX6_copyFrom 33 = .ok (.iconst 0, 1) := by decide +kernel
theorem dX6_copyFrom_34 : decode cX6_copyFrom 34 = .ok (.aload_n 0, 1) := by decide +kernel
theorem dX6_copyFrom_35 : decode cX6_copyFrom 35 = .ok (.getfield 9, 3) := by decide +kernel
theorem dX6_copyFrom_38 : decode cX6_copyFrom 38 = .ok (.arraylength, 1) := by decide +kernel
theorem dX6_copyFrom_39 : decode cX6_copyFrom 39 = .ok (.invokestatic 31, 3) := by decide +kernel
theorem dX6_copyFrom_42 : decode cX6_copyFrom 42 = .ok (.aload_n 1, 1) := by decide +kernel
theorem dX6_copyFrom_43 : decode cX6_copyFrom 43 = .ok (.getfield 15, 3) := by decide +kernel
theorem dX6_copyFrom_46 : decode cX6_copyFrom 46 = .ok (.iconst 0, 1) := by decide +kernel
theorem dX6_copyFrom_47 : decode cX6_copyFrom 47 = .ok (.aload_n 0, 1) := by decide +kernel
theorem dX6_copyFrom_48 : decode cX6_copyFrom 48 = .ok (.getfield 15, 3) := by decide +kernel
theorem dX6_copyFrom_51 : decode cX6_copyFrom 51 = .ok (.iconst 0, 1) := by decide +kernel
theorem dX6_copyFrom_52 : decode cX6_copyFrom 52 = .ok (.aload_n 0, 1) := by decide +kernel
theorem dX6_copyFrom_53 : decode cX6_copyFrom 53 = .ok (.getfield 15, 3) := by decide +kernel
theorem dX6_copyFrom_56 : decode cX6_copyFrom 56 = .ok (.arraylength, 1) := by decide +kernel
theorem dX6_copyFrom_57 : decode cX6_copyFrom 57 = .ok (.invokestatic 31, 3) := by decide +kernel
theorem dX6_copyFrom_60 : decode cX6_copyFrom 60 = .ok (.aload_n 1, 1) := by decide +kernel
theorem dX6_copyFrom_61 : decode cX6_copyFrom 61 = .ok (.getfield 18, 3) := by decide +kernel
theorem dX6_copyFrom_64 : decode cX6_copyFrom 64 = .ok (.iconst 0, 1) := by decide +kernel
theorem dX6_copyFrom_65 : decode cX6_copyFrom 65 = .ok (.aload_n 0, 1) := by decide +kernel
theorem dX6_copyFrom_66 : decode cX6_copyFrom 66 = .ok (.getfield 18, 3) := by decide +kernel
theorem dX6_copyFrom_69 : decode cX6_copyFrom 69 = .ok (.iconst 0, 1) := by decide +kernel
theorem dX6_copyFrom_70 : decode cX6_copyFrom 70 = .ok (.aload_n 0, 1) := by decide +kernel
theorem dX6_copyFrom_71 : decode cX6_copyFrom 71 = .ok (.getfield 18, 3) := by decide +kernel
theorem dX6_copyFrom_74 : decode cX6_copyFrom 74 = .ok (.arraylength, 1) := by decide +kernel
theorem dX6_copyFrom_75 : decode cX6_copyFrom 75 = .ok (.invokestatic 31, 3) := by decide +kernel
theorem dX6_copyFrom_78 : decode cX6_copyFrom 78 = .ok (.return_, 1) := by decide +kernel
theorem dX6_usualThought_0 : decode cX6_usualThought 0 = .ok (.aload_n 0, 1) := by decide +kernel
theorem dX6_usualThought_1 : decode cX6_usualThought 1 = .ok (.getfield 15, 3) := by decide +kernel
theorem dX6_usualThought_4 : decode cX6_usualThought 4 = .ok (.iload_n 1, 1) := by decide +kernel
theorem dX6_usualThought_5 : decode cX6_usualThought 5 = .ok (.iaload, 1) := by decide +kernel
theorem dX6_usualThought_6 : decode cX6_usualThought 6 = .ok (.istore_n 3, 1) := by decide +kernel
theorem dX6_usualThought_7 : decode cX6_usualThought 7 = .ok (.iload_n 3, 1) := by decide +kernel
theorem dX6_usualThought_8 : decode cX6_usualThought 8 = .ok (.ifCond .le 19, 3) := by decide +kernel
theorem dX6_usualThought_11 : decode cX6_usualThought 11 = .ok (.aload_n 0, 1) := by decide +kernel
theorem dX6_usualThought_12 : decode cX6_usualThought 12 = .ok (.getfield 18, 3) := by decide +kernel
theorem dX6_usualThought_15 : decode cX6_usualThought 15 = .ok (.iload_n 1, 1) := by decide +kernel
theorem dX6_usualThought_16 : decode cX6_usualThought 16 = .ok (.bipush 7, 2) := by decide +kernel
theorem dX6_usualThought_18 : decode cX6_usualThought 18 = .ok (.imul, 1) := by decide +kernel
theorem dX6_usualThought_19 : decode cX6_usualThought 19 = .ok (.iload_n 2, 1) := by decide +kernel
theorem dX6_usualThought_20 : decode cX6_usualThought 20 = .ok (.iload_n 3, 1) := by decide +kernel
theorem dX6_usualThought_21 : decode cX6_usualThought 21 = .ok (.irem, 1) := by decide +kernel
theorem dX6_usualThought_22 : decode cX6_usualThought 22 = .ok (.iadd, 1) := by decide +kernel
theorem dX6_usualThought_23 : decode cX6_usualThought 23 = .ok (.iaload, 1) := by decide +kernel
theorem dX6_usualThought_24 : decode cX6_usualThought 24 = .ok (.goto 4, 3) := by decide +kernel
theorem dX6_usualThought_27 : decode cX6_usualThought 27 = .ok (.iconst 0, 1) := by decide +kernel
theorem dX6_usualThought_28 : decode cX6_usualThought 28 = .ok (.ireturn, 1) := by decide +kernel
theorem dX7_init_0 : decode cX7_init 0 = .ok (.aload_n 0, 1) := by decide +kernel
theorem dX7_init_1 : decode cX7_init 1 = .ok (.invokespecial 1, 3) := by decide +kernel
theorem dX7_init_4 : decode cX7_init 4 = .ok (.aload_n 0, 1) := by decide +kernel
theorem dX7_init_5 : decode cX7_init 5 = .ok (.new 7, 3) := by decide +kernel
theorem dX7_init_8 : decode cX7_init 8 = .ok (.dup, 1) := by decide +kernel
theorem dX7_init_9 : decode cX7_init 9 = .ok (.invokespecial 9, 3) := by decide +kernel
theorem dX7_init_12 : decode cX7_init 12 = .ok (.putfield 10, 3) := by decide +kernel
theorem dX7_init_15 : decode cX7_init 15 = .ok (.aload_n 0, 1) := by decide +kernel
theorem dX7_init_16 : decode cX7_init 16 = .ok (.new 16, 3) := by decide +kernel
theorem dX7_init_19 : decode cX7_init 19 = .ok (.dup, 1) := by decide +kernel
theorem dX7_init_20 : decode cX7_init 20 = .ok (.aload_n 0, 1) := by decide +kernel
theorem dX7_init_21 : decode cX7_init 21 = .ok (.getfield 10, 3) := by decide +kernel
theorem dX7_init_24 : decode cX7_init 24 = .ok (.invokespecial 18, 3) := by decide +kernel
theorem dX7_init_27 : decode cX7_init 27 = .ok (.putfield 21, 3) := by decide +kernel
theorem dX7_init_30 : decode cX7_init 30 = .ok (.aload_n 0, 1) := by decide +kernel
theorem dX7_init_31 : decode cX7_init 31 = .ok (.new 25, 3) := by decide +kernel
theorem dX7_init_34 : decode cX7_init 34 = .ok (.dup, 1) := by decide +kernel
theorem dX7_init_35 : decode cX7_init 35 = .ok (.invokespecial 27, 3) := by decide +kernel
theorem dX7_init_38 : decode cX7_init 38 = .ok (.putfield 28, 3) := by decide +kernel
theorem dX7_init_41 : decode cX7_init 41 = .ok (.aload_n 0, 1) := by decide +kernel
theorem dX7_init_42 : decode cX7_init 42 = .ok (.iconst 2, 1) := by decide +kernel
theorem dX7_init_43 : decode cX7_init 43 = .ok (.anewarray 25, 3) := by decide +kernel
theorem dX7_init_46 : decode cX7_init 46 = .ok (.putfield 32, 3) := by decide +kernel
theorem dX7_init_49 : decode cX7_init 49 = .ok (.iconst 0, 1) := by decide +kernel
theorem dX7_init_50 : decode cX7_init 50 = .ok (.istore_n 1, 1) := by decide +kernel
theorem dX7_init_51 : decode cX7_init 51 = .ok (.iload_n 1, 1) := by decide +kernel
theorem dX7_init_52 : decode cX7_init 52 = .ok (.iconst 2, 1) := by decide +kernel
theorem dX7_init_53 : decode cX7_init 53 = .ok (.if_icmp .ge 22, 3) := by decide +kernel
theorem dX7_init_56 : decode cX7_init 56 = .ok (.aload_n 0, 1) := by decide +kernel
theorem dX7_init_57 : decode cX7_init 57 = .ok (.getfield 32, 3) := by decide +kernel
theorem dX7_init_60 : decode cX7_init 60 = .ok (.iload_n 1, 1) := by decide +kernel
theorem dX7_init_61 : decode cX7_init 61 = .ok (.new 25, 3) := by decide +kernel
theorem dX7_init_64 : decode cX7_init 64 = .ok (.dup, 1) := by decide +kernel
theorem dX7_init_65 : decode cX7_init 65 = .ok (.invokespecial 27, 3) := by decide +kernel
theorem dX7_init_68 : decode cX7_init 68 = .ok (.aastore, 1) := by decide +kernel
theorem dX7_init_69 : decode cX7_init 69 = .ok (.iinc 1 1, 3) := by decide +kernel
theorem dX7_init_72 : decode cX7_init 72 = .ok (.goto (-21), 3) := by decide +kernel
theorem dX7_init_75 : decode cX7_init 75 = .ok (.aload_n 0, 1) := by decide +kernel
theorem dX7_init_76 : decode cX7_init 76 = .ok (.iconst 2, 1) := by decide +kernel
theorem dX7_init_77 : decode cX7_init 77 = .ok (.newarray .boolean, 2) := by decide +kernel
theorem dX7_init_79 : decode cX7_init 79 = .ok (.putfield 36, 3) := by decide +kernel
theorem dX7_init_82 : decode cX7_init 82 = .ok (.aload_n 0, 1) := by decide +kernel
theorem dX7_init_83 : decode cX7_init 83 = .ok (.new 40, 3) := by decide +kernel
theorem dX7_init_86 : decode cX7_init 86 = .ok (.dup, 1) := by decide +kernel
theorem dX7_init_87 : decode cX7_init 87 = .ok (.invokespecial 42, 3) := by decide +kernel
theorem dX7_init_90 : decode cX7_init 90 = .ok (.putfield 43, 3) := by decide +kernel
theorem dX7_init_93 : decode cX7_init 93 = .ok (.aload_n 0, 1) := by decide +kernel
theorem dX7_init_94 : decode cX7_init 94 = .ok (.new 47, 3) := by decide +kernel
theorem dX7_init_97 : decode cX7_init 97 = .ok (.dup, 1) := by decide +kernel
theorem dX7_init_98 : decode cX7_init 98 = .ok (.invokespecial 49, 3) := by decide +kernel
theorem dX7_init_101 : decode cX7_init 101 = .ok (.putfield 50, 3) := by decide +kernel
theorem dX7_init_104 : decode cX7_init 104 = .ok (.aload_n 0, 1) := by decide +kernel
theorem dX7_init_105 : decode cX7_init 105 = .ok (.new 54, 3) := by decide +kernel
theorem dX7_init_108 : decode cX7_init 108 = .ok (.dup, 1) := by decide +kernel
theorem dX7_init_109 : decode cX7_init 109 = .ok (.invokespecial 56, 3) := by decide +kernel
theorem dX7_init_112 : decode cX7_init 112 = .ok (.putfield 57, 3) := by decide +kernel
theorem dX7_init_115 : decode cX7_init 115 = .ok (.aload_n 0, 1) := by decide +kernel
theorem dX7_init_116 : decode cX7_init 116 = .ok (.bipush 10, 2) := by decide +kernel
theorem dX7_init_118 : decode cX7_init 118 = .ok (.newarray .int, 2) := by decide +kernel
theorem dX7_init_120 : decode cX7_init 120 = .ok (.putfield 61, 3) := by decide +kernel
theorem dX7_init_123 : decode cX7_init 123 = .ok (.aload_n 0, 1) := by decide +kernel
theorem dX7_init_124 : decode cX7_init 124 = .ok (.bipush 20, 2) := by decide +kernel
theorem dX7_init_126 : decode cX7_init 126 = .ok (.newarray .int, 2) := by decide +kernel
theorem dX7_init_128 : decode cX7_init 128 = .ok (.putfield 65, 3) := by decide +kernel
theorem dX7_init_131 : decode cX7_init 131 = .ok (.return_, 1) := by decide +kernel
theorem dX7_type_0 : decode cX7_type 0 = .ok (.iload_n 1, 1) := by decide +kernel
theorem dX7_type_1 : decode cX7_type 1 = .ok (.iconst 0, 1) := by decide +kernel
theorem dX7_type_2 : decode cX7_type 2 = .ok (.sipush 255, 3) := by decide +kernel
theorem dX7_type_5 : decode cX7_type 5 = .ok (.invokestatic 68, 3) := by decide +kernel
theorem dX7_type_8 : decode cX7_type 8 = .ok (.ifCond .ne 5, 3) := by decide +kernel
theorem dX7_type_11 : decode cX7_type 11 = .ok (.iconst (-1), 1) := by decide +kernel
theorem dX7_type_12 : decode cX7_type 12 = .ok (.ireturn, 1) := by decide +kernel
theorem dX7_type_13 : decode cX7_type 13 = .ok (.aload_n 0, 1) := by decide +kernel
theorem dX7_type_14 : decode cX7_type 14 = .ok (.getfield 10, 3) := by decide +kernel
theorem dX7_type_17 : decode cX7_type 17 = .ok (.getfield 72, 3) := by decide +kernel
theorem dX7_type_20 : decode cX7_type 20 = .ok (.bipush 120, 2) := by decide +kernel
theorem dX7_type_22 : decode cX7_type 22 = .ok (.if_icmp .lt 6, 3) := by decide +kernel
theorem dX7_type_25 : decode cX7_type 25 = .ok (.bipush (-3), 2) := by decide +kernel
theorem dX7_type_27 : decode cX7_type 27 = .ok (.ireturn, 1) := by decide +kernel
theorem dX7_type_28 : decode cX7_type 28 = .ok (.aload_n 0, 1) := by decide +kernel
theorem dX7_type_29 : decode cX7_type 29 = .ok (.getfield 10, 3) := by decide +kernel
theorem dX7_type_32 : decode cX7_type 32 = .ok (.getfield 76, 3) := by decide +kernel
theorem dX7_type_35 : decode cX7_type 35 = .ok (.aload_n 0, 1) := by decide +kernel
theorem dX7_type_36 : decode cX7_type 36 = .ok (.getfield 10, 3) := by decide +kernel
theorem dX7_type_39 : decode cX7_type 39 = .ok (.getfield 72, 3) := by decide +kernel
theorem dX7_type_42 : decode cX7_type 42 = .ok (.iload_n 1, 1) := by decide +kernel
theorem dX7_type_43 : decode cX7_type 43 = .ok (.iastore, 1) := by decide +kernel
theorem dX7_type_44 : decode cX7_type 44 = .ok (.aload_n 0, 1) := by decide +kernel
theorem dX7_type_45 : decode cX7_type 45 = .ok (.getfield 10, 3) := by decide +kernel
theorem dX7_type_48 : decode cX7_type 48 = .ok (.dup, 1) := by decide +kernel
theorem dX7_type_49 : decode cX7_type 49 = .ok (.getfield 72, 3) := by decide +kernel
theorem dX7_type_52 : decode cX7_type 52 = .ok (.iconst 1, 1) := by decide +kernel
theorem dX7_type_53 : decode cX7_type 53 = .ok (.iadd, 1) := by decide +kernel
theorem dX7_type_54 : decode cX7_type 54 = .ok (.putfield 72, 3) := by decide +kernel
theorem dX7_type_57 : decode cX7_type 57 = .ok (.aload_n 0, 1) := by decide +kernel
theorem dX7_type_58 : decode cX7_type 58 = .ok (.getfield 10, 3) := by decide +kernel
theorem dX7_type_61 : decode cX7_type 61 = .ok (.getfield 72, 3) := by decide +kernel
theorem dX7_type_64 : decode cX7_type 64 = .ok (.ireturn, 1) := by decide +kernel
theorem dX7_clear_0 : decode cX7_clear 0 = .ok (.aload_n 0, 1) := by decide +kernel
theorem dX7_clear_1 : decode cX7_clear 1 = .ok (.getfield 10, 3) := by decide +kernel
theorem dX7_clear_4 : decode cX7_clear 4 = .ok (.getfield 72, 3) := by decide +kernel
theorem dX7_clear_7 : decode cX7_clear 7 = .ok (.istore_n 1, 1) := by decide +kernel
theorem dX7_clear_8 : decode cX7_clear 8 = .ok (.aload_n 0, 1) := by decide +kernel
theorem dX7_clear_9 : decode cX7_clear 9 = .ok (.getfield 10, 3) := by decide +kernel
theorem dX7_clear_12 : decode cX7_clear 12 = .ok (.iconst 0, 1) := by decide +kernel
theorem dX7_clear_13 : decode cX7_clear 13 = .ok (.putfield 72, 3) := by decide +kernel
theorem dX7_clear_16 : decode cX7_clear 16 = .ok (.iload_n 1, 1) := by decide +kernel
theorem dX7_clear_17 : decode cX7_clear 17 = .ok (.ireturn, 1) := by decide +kernel
theorem dX7_shop_0 : decode cX7_shop 0 = .ok (.aload_n 0, 1) := by decide +kernel
theorem dX7_shop_1 : decode cX7_shop 1 = .ok (.getfield 21, 3) := by decide +kernel
theorem dX7_shop_4 : decode cX7_shop 4 = .ok (.invokevirtual 79, 3) := by decide +kernel
theorem dX7_shop_7 : decode cX7_shop 7 = .ok (.istore_n 1, 1) := by decide +kernel
theorem dX7_shop_8 : decode cX7_shop 8 = .ok (.iload_n 1, 1) := by decide +kernel
theorem dX7_shop_9 : decode cX7_shop 9 = .ok (.ifCond .ge 5, 3) := by decide +kernel
theorem dX7_shop_12 : decode cX7_shop 12 = .ok (.iload_n 1, 1) := by decide +kernel
theorem dX7_shop_13 : decode cX7_shop 13 = .ok (.ireturn, 1) := by decide +kernel
theorem dX7_shop_14 : decode cX7_shop 14 = .ok (.aload_n 0, 1) := by decide +kernel
theorem dX7_shop_15 : decode cX7_shop 15 = .ok (.getfield 57, 3) := by decide +kernel
theorem dX7_shop_18 : decode cX7_shop 18 = .ok (.aload_n 0, 1) := by decide +kernel
theorem dX7_shop_19 : decode cX7_shop 19 = .ok (.getfield 21, 3) := by decide +kernel
theorem dX7_shop_22 : decode cX7_shop 22 = .ok (.getfield 83, 3) := by decide +kernel
theorem dX7_shop_25 : decode cX7_shop 25 = .ok (.invokevirtual 86, 3) := by decide +kernel
theorem dX7_shop_28 : decode cX7_shop 28 = .ok (.aload_n 0, 1) := by decide +kernel
theorem dX7_shop_29 : decode cX7_shop 29 = .ok (.getfield 10, 3) := by decide +kernel
theorem dX7_shop_32 : decode cX7_shop 32 = .ok (.iconst 0, 1) := by decide +kernel
theorem dX7_shop_33 : decode cX7_shop 33 = .ok (.putfield 72, 3) := by decide +kernel
theorem dX7_shop_36 : decode cX7_shop 36 = .ok (.aload_n 0, 1) := by decide +kernel
theorem dX7_shop_37 : decode cX7_shop 37 = .ok (.getfield 28, 3) := by decide +kernel
theorem dX7_shop_40 : decode cX7_shop 40 = .ok (.aload_n 0, 1) := by decide +kernel
theorem dX7_shop_41 : decode cX7_shop 41 = .ok (.getfield 57, 3) := by decide +kernel
theorem dX7_shop_44 : decode cX7_shop 44 = .ok (.getfield 90, 3) := by decide +kernel
theorem dX7_shop_47 : decode cX7_shop 47 = .ok (.invokevirtual 93, 3) := by decide +kernel
theorem dX7_shop_50 : decode cX7_shop 50 = .ok (.aload_n 0, 1) := by decide +kernel
theorem dX7_shop_51 : decode cX7_shop 51 = .ok (.getfield 43, 3) := by decide +kernel
theorem dX7_shop_54 : decode cX7_shop 54 = .ok (.invokevirtual 97, 3) := by decide +kernel
theorem dX7_shop_57 : decode cX7_shop 57 = .ok (.iconst 0, 1) := by decide +kernel
theorem dX7_shop_58 : decode cX7_shop 58 = .ok (.istore_n 2, 1) := by decide +kernel
theorem dX7_shop_59 : decode cX7_shop 59 = .ok (.iload_n 2, 1) := by decide +kernel
theorem dX7_shop_60 : decode cX7_shop 60 = .ok (.iconst 2, 1) := by decide +kernel
theorem dX7_shop_61 : decode cX7_shop 61 = .ok (.if_icmp .ge 16, 3) := by decide +kernel
theorem dX7_shop_64 : decode cX7_shop 64 = .ok (.aload_n 0, 1) := by decide +kernel
theorem dX7_shop_65 : decode cX7_shop 65 = .ok (.getfield 36, 3) := by decide +kernel
theorem dX7_shop_68 : decode cX7_shop 68 = .ok (.iload_n 2, 1) := by decide +kernel
theorem dX7_shop_69 : decode cX7_shop 69 = .ok (.iconst 0, 1) := by decide +kernel
theorem dX7_shop_70 : decode cX7_shop 70 = .ok (.bastore, 1) := by decide +kernel
theorem dX7_shop_71 : decode cX7_shop 71 = .ok (.iinc 2 1, 3) := by decide +kernel
theorem dX7_shop_74 : decode cX7_shop 74 = .ok (.goto (-15), 3) := by decide +kernel
theorem dX7_shop_77 : decode cX7_shop 77 = .ok (.iload_n 1, 1) := by decide +kernel
theorem dX7_shop_78 : decode cX7_shop 78 = .ok (.ireturn, 1) := by decide +kernel
theorem dX7_one_0 : decode cX7_one 0 = .ok (.aload_n 0, 1) := by decide +kernel
theorem dX7_one_1 : decode cX7_one 1 = .ok (.iload_n 1, 1) := by decide +kernel
theorem dX7_one_2 : decode cX7_one 2 = .ok (.invokevirtual 100, 3) := by decide +kernel
theorem dX7_one_5 : decode cX7_one 5 = .ok (.ifCond .ne 5, 3) := by decide +kernel
theorem dX7_one_8 : decode cX7_one 8 = .ok (.iconst (-1), 1) := by decide +kernel
theorem dX7_one_9 : decode cX7_one 9 = .ok (.ireturn, 1) := by decide +kernel
theorem dX7_one_10 : decode cX7_one 10 = .ok (.aload_n 0, 1) := by decide +kernel
theorem dX7_one_11 : decode cX7_one 11 = .ok (.getfield 28, 3) := by decide +kernel
theorem dX7_one_14 : decode cX7_one 14 = .ok (.getfield 104, 3) := by decide +kernel
theorem dX7_one_17 : decode cX7_one 17 = .ok (.astore_n 3, 1) := by decide +kernel
theorem dX7_one_18 : decode cX7_one 18 = .ok (.iload_n 2, 1) := by decide +kernel
theorem dX7_one_19 : decode cX7_one 19 = .ok (.tableswitch 82 0 4 #[33, 43, 53, 60, 67], 33) := by decide +kernel
theorem dX7_one_52 : decode cX7_one 52 = .ok (.aload_n 0, 1) := by decide +kernel
theorem dX7_one_53 : decode cX7_one 53 = .ok (.getfield 57, 3) := by decide +kernel
theorem dX7_one_56 : decode cX7_one 56 = .ok (.getfield 108, 3) := by decide +kernel
theorem dX7_one_59 : decode cX7_one 59 = .ok (.iload_n 1, 1) := by decide +kernel
theorem dX7_one_60 : decode cX7_one 60 = .ok (.iaload, 1) := by decide +kernel
theorem dX7_one_61 : decode cX7_one 61 = .ok (.ireturn, 1) := by decide +kernel
theorem dX7_one_62 : decode cX7_one 62 = .ok (.aload_n 0, 1) := by decide +kernel
theorem dX7_one_63 : decode cX7_one 63 = .ok (.getfield 57, 3) := by decide +kernel
theorem dX7_one_66 : decode cX7_one 66 = .ok (.getfield 111, 3) := by decide +kernel
theorem dX7_one_69 : decode cX7_one 69 = .ok (.iload_n 1, 1) := by decide +kernel
theorem dX7_one_70 : decode cX7_one 70 = .ok (.iaload, 1) := by decide +kernel
theorem dX7_one_71 : decode cX7_one 71 = .ok (.ireturn, 1) := by decide +kernel
theorem dX7_one_72 : decode cX7_one 72 = .ok (.aload_n 3, 1) := by decide +kernel
theorem dX7_one_73 : decode cX7_one 73 = .ok (.getfield 114, 3) := by decide +kernel
theorem dX7_one_76 : decode cX7_one 76 = .ok (.iload_n 1, 1) := by decide +kernel
theorem dX7_one_77 : decode cX7_one 77 = .ok (.iaload, 1) := by decide +kernel
theorem dX7_one_78 : decode cX7_one 78 = .ok (.ireturn, 1) := by decide +kernel
theorem dX7_one_79 : decode cX7_one 79 = .ok (.aload_n 3, 1) := by decide +kernel
theorem dX7_one_80 : decode cX7_one 80 = .ok (.getfield 119, 3) := by decide +kernel
theorem dX7_one_83 : decode cX7_one 83 = .ok (.iload_n 1, 1) := by decide +kernel
theorem dX7_one_84 : decode cX7_one 84 = .ok (.iaload, 1) := by decide +kernel
theorem dX7_one_85 : decode cX7_one 85 = .ok (.ireturn, 1) := by decide +kernel
theorem dX7_one_86 : decode cX7_one 86 = .ok (.aload_n 3, 1) := by decide +kernel
theorem dX7_one_87 : decode cX7_one 87 = .ok (.iload_n 1, 1) := by decide +kernel
theorem dX7_one_88 : decode cX7_one 88 = .ok (.aload_n 0, 1) := by decide +kernel
theorem dX7_one_89 : decode cX7_one 89 = .ok (.getfield 57, 3) := by decide +kernel
theorem dX7_one_92 : decode cX7_one 92 = .ok (.getfield 108, 3) := by decide +kernel
theorem dX7_one_95 : decode cX7_one 95 = .ok (.iload_n 1, 1) := by decide +kernel
theorem dX7_one_96 : decode cX7_one 96 = .ok (.iaload, 1) := by decide +kernel
theorem dX7_one_97 : decode cX7_one 97 = .ok (.invokevirtual 122, 3) := by decide +kernel
theorem dX7_one_100 : decode cX7_one 100 = .ok (.ireturn, 1) := by decide +kernel
theorem dX7_one_101 : decode cX7_one 101 = .ok (.iconst (-1), 1) := by decide +kernel
theorem dX7_one_102 : decode cX7_one 102 = .ok (.ireturn, 1) := by decide +kernel
theorem dX7_week_0 : decode cX7_week 0 = .ok (.aload_n 0, 1) := by decide +kernel
theorem dX7_week_1 : decode cX7_week 1 = .ok (.iload_n 1, 1) := by decide +kernel
theorem dX7_week_2 : decode cX7_week 2 = .ok (.invokevirtual 100, 3) := by decide +kernel
theorem dX7_week_5 : decode cX7_week 5 = .ok (.ifCond .eq 13, 3) := by decide +kernel
theorem dX7_week_8 : decode cX7_week 8 = .ok (.iload_n 2, 1) := by decide +kernel
theorem dX7_week_9 : decode cX7_week 9 = .ok (.iconst 0, 1) := by decide +kernel
theorem dX7_week_10 : decode cX7_week 10 = .ok (.bipush 6, 2) := by decide +kernel
theorem dX7_week_12 : decode cX7_week 12 = .ok (.invokestatic 68, 3) := by decide +kernel
theorem dX7_week_15 : decode cX7_week 15 = .ok (.ifCond .ne 5, 3) := by decide +kernel
theorem dX7_week_18 : decode cX7_week 18 = .ok (.iconst (-1), 1) := by decide +kernel
theorem dX7_week_19 : decode cX7_week 19 = .ok (.ireturn, 1) := by decide +kernel
theorem dX7_week_20 : decode cX7_week 20 = .ok (.iload_n 2, 1) := by decide +kernel
theorem dX7_week_21 : decode cX7_week 21 = .ok (.aload_n 0, 1) := by decide +kernel
theorem dX7_week_22 : decode cX7_week 22 = .ok (.getfield 57, 3) := by decide +kernel
theorem dX7_week_25 : decode cX7_week 25 = .ok (.getfield 111, 3) := by decide +kernel
theorem dX7_week_28 : decode cX7_week 28 = .ok (.iload_n 1, 1) := by decide +kernel
theorem dX7_week_29 : decode cX7_week 29 = .ok (.iaload, 1) := by decide +kernel
theorem dX7_week_30 : decode cX7_week 30 = .ok (.if_icmp .ge 20, 3) := by decide +kernel
theorem dX7_week_33 : decode cX7_week 33 = .ok (.aload_n 0, 1) := by decide +kernel
theorem dX7_week_34 : decode cX7_week 34 = .ok (.getfield 57, 3) := by decide +kernel
theorem dX7_week_37 : decode cX7_week 37 = .ok (.getfield 126, 3) := by decide +kernel
theorem dX7_week_40 : decode cX7_week 40 = .ok (.iload_n 1, 1) := by decide +kernel
theorem dX7_week_41 : decode cX7_week 41 = .ok (.bipush 7, 2) := by decide +kernel
theorem dX7_week_43 : decode cX7_week 43 = .ok (.imul, 1) := by decide +kernel
theorem dX7_week_44 : decode cX7_week 44 = .ok (.iload_n 2, 1) := by decide +kernel
theorem dX7_week_45 : decode cX7_week 45 = .ok (.iadd, 1) := by decide +kernel
theorem dX7_week_46 : decode cX7_week 46 = .ok (.iaload, 1) := by decide +kernel
theorem dX7_week_47 : decode cX7_week 47 = .ok (.goto 5, 3) := by decide +kernel
theorem dX7_week_50 : decode cX7_week 50 = .ok (.bipush (-9), 2) := by decide +kernel
theorem dX7_week_52 : decode cX7_week 52 = .ok (.ireturn, 1) := by decide +kernel
theorem dX7_layer_0 : decode cX7_layer 0 = .ok (.aload_n 0, 1) := by decide +kernel
theorem dX7_layer_1 : decode cX7_layer 1 = .ok (.iload_n 1, 1) := by decide +kernel
theorem dX7_layer_2 : decode cX7_layer 2 = .ok (.invokevirtual 100, 3) := by decide +kernel
theorem dX7_layer_5 : decode cX7_layer 5 = .ok (.ifCond .eq 13, 3) := by decide +kernel
theorem dX7_layer_8 : decode cX7_layer 8 = .ok (.iload_n 2, 1) := by decide +kernel
theorem dX7_layer_9 : decode cX7_layer 9 = .ok (.iconst 0, 1) := by decide +kernel
theorem dX7_layer_10 : decode cX7_layer 10 = .ok (.bipush 11, 2) := by decide +kernel
theorem dX7_layer_12 : decode cX7_layer 12 = .ok (.invokestatic 68, 3) := by decide +kernel
theorem dX7_layer_15 : decode cX7_layer 15 = .ok (.ifCond .ne 5, 3) := by decide +kernel
theorem dX7_layer_18 : decode cX7_layer 18 = .ok (.iconst (-1), 1) := by decide +kernel
theorem dX7_layer_19 : decode cX7_layer 19 = .ok (.ireturn, 1) := by decide +kernel
theorem dX7_layer_20 : decode cX7_layer 20 = .ok (.iload_n 2, 1) := by decide +kernel
theorem dX7_layer_21 : decode cX7_layer 21 = .ok (.aload_n 0, 1) := by decide +kernel
theorem dX7_layer_22 : decode cX7_layer 22 = .ok (.getfield 28, 3) := by decide +kernel
theorem dX7_layer_25 : decode cX7_layer 25 = .ok (.getfield 104, 3) := by decide +kernel
theorem dX7_layer_28 : decode cX7_layer 28 = .ok (.getfield 114, 3) := by decide +kernel
theorem dX7_layer_31 : decode cX7_layer 31 = .ok (.iload_n 1, 1) := by decide +kernel
theorem dX7_layer_32 : decode cX7_layer 32 = .ok (.iaload, 1) := by decide +kernel
theorem dX7_layer_33 : decode cX7_layer 33 = .ok (.if_icmp .ge 18, 3) := by decide +kernel
theorem dX7_layer_36 : decode cX7_layer 36 = .ok (.aload_n 0, 1) := by decide +kernel
theorem dX7_layer_37 : decode cX7_layer 37 = .ok (.getfield 28, 3) := by decide +kernel
theorem dX7_layer_40 : decode cX7_layer 40 = .ok (.getfield 104, 3) := by decide +kernel
theorem dX7_layer_43 : decode cX7_layer 43 = .ok (.iload_n 1, 1) := by decide +kernel
theorem dX7_layer_44 : decode cX7_layer 44 = .ok (.iload_n 2, 1) := by decide +kernel
theorem dX7_layer_45 : decode cX7_layer 45 = .ok (.invokevirtual 129, 3) := by decide +kernel
theorem dX7_layer_48 : decode cX7_layer 48 = .ok (.goto 5, 3) := by decide +kernel
theorem dX7_layer_51 : decode cX7_layer 51 = .ok (.bipush (-9), 2) := by decide +kernel
theorem dX7_layer_53 : decode cX7_layer 53 = .ok (.ireturn, 1) := by decide +kernel
theorem dX7_jar_0 : decode cX7_jar 0 = .ok (.iload_n 1, 1) := by decide +kernel
theorem dX7_jar_1 : decode cX7_jar 1 = .ok (.invokestatic 132, 3) := by decide +kernel
theorem dX7_jar_4 : decode cX7_jar 4 = .ok (.ifCond .eq 10, 3) := by decide +kernel
theorem dX7_jar_7 : decode cX7_jar 7 = .ok (.iload_n 2, 1) := by decide +kernel
theorem dX7_jar_8 : decode cX7_jar 8 = .ok (.invokestatic 135, 3) := by decide +kernel
theorem dX7_jar_11 : decode cX7_jar 11 = .ok (.ifCond .ne 5, 3) := by decide +kernel
theorem dX7_jar_14 : decode cX7_jar 14 = .ok (.iconst (-1), 1) := by decide +kernel
theorem dX7_jar_15 : decode cX7_jar 15 = .ok (.ireturn, 1) := by decide +kernel
theorem dX7_jar_16 : decode cX7_jar 16 = .ok (.aload_n 0, 1) := by decide +kernel
theorem dX7_jar_17 : decode cX7_jar 17 = .ok (.getfield 28, 3) := by decide +kernel
theorem dX7_jar_20 : decode cX7_jar 20 = .ok (.getfield 104, 3) := by decide +kernel
theorem dX7_jar_23 : decode cX7_jar 23 = .ok (.iload_n 1, 1) := by decide +kernel
theorem dX7_jar_24 : decode cX7_jar 24 = .ok (.iload_n 2, 1) := by decide +kernel
theorem dX7_jar_25 : decode cX7_jar 25 = .ok (.invokevirtual 138, 3) := by decide +kernel
theorem dX7_jar_28 : decode cX7_jar 28 = .ok (.ireturn, 1) := by decide +kernel
theorem dX7_days_0 : decode cX7_days 0 = .ok (.iload_n 1, 1) := by decide +kernel
theorem dX7_days_1 : decode cX7_days 1 = .ok (.iconst 1, 1) := by decide +kernel
theorem dX7_days_2 : decode cX7_days 2 = .ok (.bipush 9, 2) := by decide +kernel
theorem dX7_days_4 : decode cX7_days 4 = .ok (.invokestatic 68, 3) := by decide +kernel
theorem dX7_days_7 : decode cX7_days 7 = .ok (.ifCond .ne 5, 3) := by decide +kernel
theorem dX7_days_10 : decode cX7_days 10 = .ok (.iconst (-1), 1) := by decide +kernel
theorem dX7_days_11 : decode cX7_days 11 = .ok (.ireturn, 1) := by decide +kernel
theorem dX7_days_12 : decode cX7_days 12 = .ok (.aload_n 0, 1) := by decide +kernel
theorem dX7_days_13 : decode cX7_days 13 = .ok (.getfield 28, 3) := by decide +kernel
theorem dX7_days_16 : decode cX7_days 16 = .ok (.getfield 104, 3) := by decide +kernel
theorem dX7_days_19 : decode cX7_days 19 = .ok (.getfield 141, 3) := by decide +kernel
theorem dX7_days_22 : decode cX7_days 22 = .ok (.iload_n 1, 1) := by decide +kernel
theorem dX7_days_23 : decode cX7_days 23 = .ok (.iadd, 1) := by decide +kernel
theorem dX7_days_24 : decode cX7_days 24 = .ok (.sipush 999, 3) := by decide +kernel
theorem dX7_days_27 : decode cX7_days 27 = .ok (.if_icmp .le 6, 3) := by decide +kernel
theorem dX7_days_30 : decode cX7_days 30 = .ok (.bipush (-2), 2) := by decide +kernel
theorem dX7_days_32 : decode cX7_days 32 = .ok (.ireturn, 1) := by decide +kernel
theorem dX7_days_33 : decode cX7_days 33 = .ok (.aload_n 0, 1) := by decide +kernel
theorem dX7_days_34 : decode cX7_days 34 = .ok (.getfield 28, 3) := by decide +kernel
theorem dX7_days_37 : decode cX7_days 37 = .ok (.invokevirtual 144, 3) := by decide +kernel
theorem dX7_days_40 : decode cX7_days 40 = .ok (.iconst 0, 1) := by decide +kernel
theorem dX7_days_41 : decode cX7_days 41 = .ok (.istore_n 2, 1) := by decide +kernel
theorem dX7_days_42 : decode cX7_days 42 = .ok (.iload_n 2, 1) := by decide +kernel
theorem dX7_days_43 : decode cX7_days 43 = .ok (.iload_n 1, 1) := by decide +kernel
theorem dX7_days_44 : decode cX7_days 44 = .ok (.if_icmp .ge 23, 3) := by decide +kernel
theorem dX7_days_47 : decode cX7_days 47 = .ok (.aload_n 0, 1) := by decide +kernel
theorem dX7_days_48 : decode cX7_days 48 = .ok (.getfield 28, 3) := by decide +kernel
theorem dX7_days_51 : decode cX7_days 51 = .ok (.getfield 104, 3) := by decide +kernel
theorem dX7_days_54 : decode cX7_days 54 = .ok (.aload_n 0, 1) := by decide +kernel
theorem dX7_days_55 : decode cX7_days 55 = .ok (.getfield 57, 3) := by decide +kernel
theorem dX7_days_58 : decode cX7_days 58 = .ok (.invokevirtual 147, 3) := by decide +kernel
theorem dX7_days_61 : decode cX7_days 61 = .ok (.iinc 2 1, 3) := by decide +kernel
theorem dX7_days_64 : decode cX7_days 64 = .ok (.goto (-22), 3) := by decide +kernel
theorem dX7_days_67 : decode cX7_days 67 = .ok (.aload_n 0, 1) := by decide +kernel
theorem dX7_days_68 : decode cX7_days 68 = .ok (.getfield 28, 3) := by decide +kernel
theorem dX7_days_71 : decode cX7_days 71 = .ok (.getfield 104, 3) := by decide +kernel
theorem dX7_days_74 : decode cX7_days 74 = .ok (.getfield 141, 3) := by decide +kernel
theorem dX7_days_77 : decode cX7_days 77 = .ok (.ireturn, 1) := by decide +kernel
theorem dX7_minds_0 : decode cX7_minds 0 = .ok (.aload_n 0, 1) := by decide +kernel
theorem dX7_minds_1 : decode cX7_minds 1 = .ok (.iload_n 1, 1) := by decide +kernel
theorem dX7_minds_2 : decode cX7_minds 2 = .ok (.invokevirtual 100, 3) := by decide +kernel
theorem dX7_minds_5 : decode cX7_minds 5 = .ok (.ifCond .eq 10, 3) := by decide +kernel
theorem dX7_minds_8 : decode cX7_minds 8 = .ok (.iload_n 2, 1) := by decide +kernel
theorem dX7_minds_9 : decode cX7_minds 9 = .ok (.invokestatic 135, 3) := by decide +kernel
theorem dX7_minds_12 : decode cX7_minds 12 = .ok (.ifCond .ne 5, 3) := by decide +kernel
theorem dX7_minds_15 : decode cX7_minds 15 = .ok (.iconst (-1), 1) := by decide +kernel
theorem dX7_minds_16 : decode cX7_minds 16 = .ok (.ireturn, 1) := by decide +kernel
theorem dX7_minds_17 : decode cX7_minds 17 = .ok (.aload_n 0, 1) := by decide +kernel
theorem dX7_minds_18 : decode cX7_minds 18 = .ok (.getfield 28, 3) := by decide +kernel
theorem dX7_minds_21 : decode cX7_minds 21 = .ok (.getfield 104, 3) := by decide +kernel
theorem dX7_minds_24 : decode cX7_minds 24 = .ok (.getfield 119, 3) := by decide +kernel
theorem dX7_minds_27 : decode cX7_minds 27 = .ok (.iload_n 1, 1) := by decide +kernel
theorem dX7_minds_28 : decode cX7_minds 28 = .ok (.iaload, 1) := by decide +kernel
theorem dX7_minds_29 : decode cX7_minds 29 = .ok (.istore_n 3, 1) := by decide +kernel
theorem dX7_minds_30 : decode cX7_minds 30 = .ok (.iload_n 3, 1) := by decide +kernel
theorem dX7_minds_31 : decode cX7_minds 31 = .ok (.iload_n 2, 1) := by decide +kernel
theorem dX7_minds_32 : decode cX7_minds 32 = .ok (.if_icmp .ne 6, 3) := by decide +kernel
theorem dX7_minds_35 : decode cX7_minds 35 = .ok (.bipush (-2), 2) := by decide +kernel
theorem dX7_minds_37 : decode cX7_minds 37 = .ok (.ireturn, 1) := by decide +kernel
theorem dX7_minds_38 : decode cX7_minds 38 = .ok (.aload_n 0, 1) := by decide +kernel
theorem dX7_minds_39 : decode cX7_minds 39 = .ok (.getfield 28, 3) := by decide +kernel
theorem dX7_minds_42 : decode cX7_minds 42 = .ok (.invokevirtual 144, 3) := by decide +kernel
theorem dX7_minds_45 : decode cX7_minds 45 = .ok (.aload_n 0, 1) := by decide +kernel
theorem dX7_minds_46 : decode cX7_minds 46 = .ok (.getfield 28, 3) := by decide +kernel
theorem dX7_minds_49 : decode cX7_minds 49 = .ok (.getfield 104, 3) := by decide +kernel
theorem dX7_minds_52 : decode cX7_minds 52 = .ok (.getfield 119, 3) := by decide +kernel
theorem dX7_minds_55 : decode cX7_minds 55 = .ok (.iload_n 1, 1) := by decide +kernel
theorem dX7_minds_56 : decode cX7_minds 56 = .ok (.iload_n 2, 1) := by decide +kernel
theorem dX7_minds_57 : decode cX7_minds 57 = .ok (.iastore, 1) := by decide +kernel
theorem dX7_minds_58 : decode cX7_minds 58 = .ok (.iload_n 3, 1) := by decide +kernel
theorem dX7_minds_59 : decode cX7_minds 59 = .ok (.ireturn, 1) := by decide +kernel
theorem dX7_cuts_0 : decode cX7_cuts 0 = .ok (.aload_n 0, 1) := by decide +kernel
theorem dX7_cuts_1 : decode cX7_cuts 1 = .ok (.iload_n 1, 1) := by decide +kernel
theorem dX7_cuts_2 : decode cX7_cuts 2 = .ok (.invokevirtual 100, 3) := by decide +kernel
theorem dX7_cuts_5 : decode cX7_cuts 5 = .ok (.ifCond .eq 13, 3) := by decide +kernel
theorem dX7_cuts_8 : decode cX7_cuts 8 = .ok (.iload_n 2, 1) := by decide +kernel
theorem dX7_cuts_9 : decode cX7_cuts 9 = .ok (.iconst 1, 1) := by decide +kernel
theorem dX7_cuts_10 : decode cX7_cuts 10 = .ok (.bipush 12, 2) := by decide +kernel
theorem dX7_cuts_12 : decode cX7_cuts 12 = .ok (.invokestatic 68, 3) := by decide +kernel
theorem dX7_cuts_15 : decode cX7_cuts 15 = .ok (.ifCond .ne 5, 3) := by decide +kernel
theorem dX7_cuts_18 : decode cX7_cuts 18 = .ok (.iconst (-1), 1) := by decide +kernel
theorem dX7_cuts_19 : decode cX7_cuts 19 = .ok (.ireturn, 1) := by decide +kernel
theorem dX7_cuts_20 : decode cX7_cuts 20 = .ok (.iload_n 2, 1) := by decide +kernel
theorem dX7_cuts_21 : decode cX7_cuts 21 = .ok (.aload_n 0, 1) := by decide +kernel
theorem dX7_cuts_22 : decode cX7_cuts 22 = .ok (.getfield 28, 3) := by decide +kernel
theorem dX7_cuts_25 : decode cX7_cuts 25 = .ok (.getfield 104, 3) := by decide +kernel
theorem dX7_cuts_28 : decode cX7_cuts 28 = .ok (.getfield 114, 3) := by decide +kernel
theorem dX7_cuts_31 : decode cX7_cuts 31 = .ok (.iload_n 1, 1) := by decide +kernel
theorem dX7_cuts_32 : decode cX7_cuts 32 = .ok (.iaload, 1) := by decide +kernel
theorem dX7_cuts_33 : decode cX7_cuts 33 = .ok (.if_icmp .le 6, 3) := by decide +kernel
theorem dX7_cuts_36 : decode cX7_cuts 36 = .ok (.bipush (-2), 2) := by decide +kernel
theorem dX7_cuts_38 : decode cX7_cuts 38 = .ok (.ireturn, 1) := by decide +kernel
theorem dX7_cuts_39 : decode cX7_cuts 39 = .ok (.aload_n 0, 1) := by decide +kernel
theorem dX7_cuts_40 : decode cX7_cuts 40 = .ok (.getfield 28, 3) := by decide +kernel
theorem dX7_cuts_43 : decode cX7_cuts 43 = .ok (.invokevirtual 144, 3) := by decide +kernel
theorem dX7_cuts_46 : decode cX7_cuts 46 = .ok (.aload_n 0, 1) := by decide +kernel
theorem dX7_cuts_47 : decode cX7_cuts 47 = .ok (.getfield 28, 3) := by decide +kernel
theorem dX7_cuts_50 : decode cX7_cuts 50 = .ok (.getfield 104, 3) := by decide +kernel
theorem dX7_cuts_53 : decode cX7_cuts 53 = .ok (.iload_n 1, 1) := by decide +kernel
theorem dX7_cuts_54 : decode cX7_cuts 54 = .ok (.iload_n 2, 1) := by decide +kernel
theorem dX7_cuts_55 : decode cX7_cuts 55 = .ok (.invokevirtual 150, 3) := by decide +kernel
theorem dX7_cuts_58 : decode cX7_cuts 58 = .ok (.aload_n 0, 1) := by decide +kernel
theorem dX7_cuts_59 : decode cX7_cuts 59 = .ok (.getfield 28, 3) := by decide +kernel
theorem dX7_cuts_62 : decode cX7_cuts 62 = .ok (.getfield 104, 3) := by decide +kernel
theorem dX7_cuts_65 : decode cX7_cuts 65 = .ok (.getfield 114, 3) := by decide +kernel
theorem dX7_cuts_68 : decode cX7_cuts 68 = .ok (.iload_n 1, 1) := by decide +kernel
theorem dX7_cuts_69 : decode cX7_cuts 69 = .ok (.iaload, 1) := by decide +kernel
theorem dX7_cuts_70 : decode cX7_cuts 70 = .ok (.ireturn, 1) := by decide +kernel
theorem dX7_changes_0 : decode cX7_changes 0 = .ok (.iload_n 1, 1) := by decide +kernel
theorem dX7_changes_1 : decode cX7_changes 1 = .ok (.invokestatic 132, 3) := by decide +kernel
theorem dX7_changes_4 : decode cX7_changes 4 = .ok (.ifCond .ne 5, 3) := by decide +kernel
theorem dX7_changes_7 : decode cX7_changes 7 = .ok (.iconst (-1), 1) := by decide +kernel
theorem dX7_changes_8 : decode cX7_changes 8 = .ok (.ireturn, 1) := by decide +kernel
theorem dX7_changes_9 : decode cX7_changes 9 = .ok (.aload_n 0, 1) := by decide +kernel
theorem dX7_changes_10 : decode cX7_changes 10 = .ok (.getfield 28, 3) := by decide +kernel
theorem dX7_changes_13 : decode cX7_changes 13 = .ok (.getfield 104, 3) := by decide +kernel
theorem dX7_changes_16 : decode cX7_changes 16 = .ok (.getfield 154, 3) := by decide +kernel
theorem dX7_changes_19 : decode cX7_changes 19 = .ok (.istore_n 2, 1) := by decide +kernel
theorem dX7_changes_20 : decode cX7_changes 20 = .ok (.iload_n 2, 1) := by decide +kernel
theorem dX7_changes_21 : decode cX7_changes 21 = .ok (.iload_n 1, 1) := by decide +kernel
theorem dX7_changes_22 : decode cX7_changes 22 = .ok (.if_icmp .ne 6, 3) := by decide +kernel
theorem dX7_changes_25 : decode cX7_changes 25 = .ok (.bipush (-2), 2) := by decide +kernel
theorem dX7_changes_27 : decode cX7_changes 27 = .ok (.ireturn, 1) := by decide +kernel
theorem dX7_changes_28 : decode cX7_changes 28 = .ok (.aload_n 0, 1) := by decide +kernel
theorem dX7_changes_29 : decode cX7_changes 29 = .ok (.getfield 28, 3) := by decide +kernel
theorem dX7_changes_32 : decode cX7_changes 32 = .ok (.invokevirtual 144, 3) := by decide +kernel
theorem dX7_changes_35 : decode cX7_changes 35 = .ok (.aload_n 0, 1) := by decide +kernel
theorem dX7_changes_36 : decode cX7_changes 36 = .ok (.getfield 28, 3) := by decide +kernel
theorem dX7_changes_39 : decode cX7_changes 39 = .ok (.getfield 104, 3) := by decide +kernel
theorem dX7_changes_42 : decode cX7_changes 42 = .ok (.iload_n 1, 1) := by decide +kernel
theorem dX7_changes_43 : decode cX7_changes 43 = .ok (.putfield 154, 3) := by decide +kernel
theorem dX7_changes_46 : decode cX7_changes 46 = .ok (.iload_n 2, 1) := by decide +kernel
theorem dX7_changes_47 : decode cX7_changes 47 = .ok (.ireturn, 1) := by decide +kernel
theorem dX7_empties_0 : decode cX7_empties 0 = .ok (.iload_n 1, 1) := by decide +kernel
theorem dX7_empties_1 : decode cX7_empties 1 = .ok (.invokestatic 132, 3) := by decide +kernel
theorem dX7_empties_4 : decode cX7_empties 4 = .ok (.ifCond .ne 5, 3) := by decide +kernel
theorem dX7_empties_7 : decode cX7_empties 7 = .ok (.iconst (-1), 1) := by decide +kernel
theorem dX7_empties_8 : decode cX7_empties 8 = .ok (.ireturn, 1) := by decide +kernel
theorem dX7_empties_9 : decode cX7_empties 9 = .ok (.aload_n 0, 1) := by decide +kernel
theorem dX7_empties_10 : decode cX7_empties 10 = .ok (.getfield 28, 3) := by decide +kernel
theorem dX7_empties_13 : decode cX7_empties 13 = .ok (.getfield 104, 3) := by decide +kernel
theorem dX7_empties_16 : decode cX7_empties 16 = .ok (.iload_n 1, 1) := by decide +kernel
theorem dX7_empties_17 : decode cX7_empties 17 = .ok (.invokevirtual 155, 3) := by decide +kernel
theorem dX7_empties_20 : decode cX7_empties 20 = .ok (.istore_n 2, 1) := by decide +kernel
theorem dX7_empties_21 : decode cX7_empties 21 = .ok (.iload_n 2, 1) := by decide +kernel
theorem dX7_empties_22 : decode cX7_empties 22 = .ok (.ifCond .ne 6, 3) := by decide +kernel
theorem dX7_empties_25 : decode cX7_empties 25 = .ok (.bipush (-2), 2) := by decide +kernel
theorem dX7_empties_27 : decode cX7_empties 27 = .ok (.ireturn, 1) := by decide +kernel
theorem dX7_empties_28 : decode cX7_empties 28 = .ok (.aload_n 0, 1) := by decide +kernel
theorem dX7_empties_29 : decode cX7_empties 29 = .ok (.getfield 28, 3) := by decide +kernel
theorem dX7_empties_32 : decode cX7_empties 32 = .ok (.invokevirtual 144, 3) := by decide +kernel
theorem dX7_empties_35 : decode cX7_empties 35 = .ok (.aload_n 0, 1) := by decide +kernel
theorem dX7_empties_36 : decode cX7_empties 36 = .ok (.getfield 28, 3) := by decide +kernel
theorem dX7_empties_39 : decode cX7_empties 39 = .ok (.getfield 104, 3) := by decide +kernel
theorem dX7_empties_42 : decode cX7_empties 42 = .ok (.iload_n 1, 1) := by decide +kernel
theorem dX7_empties_43 : decode cX7_empties 43 = .ok (.invokevirtual 159, 3) := by decide +kernel
theorem dX7_empties_46 : decode cX7_empties 46 = .ok (.iload_n 2, 1) := by decide +kernel
theorem dX7_empties_47 : decode cX7_empties 47 = .ok (.ireturn, 1) := by decide +kernel
theorem dX7_undo_0 : decode cX7_undo 0 = .ok (.aload_n 0, 1) := by decide +kernel
theorem dX7_undo_1 : decode cX7_undo 1 = .ok (.getfield 28, 3) := by decide +kernel
theorem dX7_undo_4 : decode cX7_undo 4 = .ok (.getfield 162, 3) := by decide +kernel
theorem dX7_undo_7 : decode cX7_undo 7 = .ok (.ifCond .ne 6, 3) := by decide +kernel
theorem dX7_undo_10 : decode cX7_undo 10 = .ok (.bipush (-2), 2) := by decide +kernel
theorem dX7_undo_12 : decode cX7_undo 12 = .ok (.ireturn, 1) := by decide +kernel
theorem dX7_undo_13 : decode cX7_undo 13 = .ok (.aload_n 0, 1) := by decide +kernel
theorem dX7_undo_14 : decode cX7_undo 14 = .ok (.getfield 28, 3) := by decide +kernel
theorem dX7_undo_17 : decode cX7_undo 17 = .ok (.invokevirtual 165, 3) := by decide +kernel
theorem dX7_undo_20 : decode cX7_undo 20 = .ok (.aload_n 0, 1) := by decide +kernel
theorem dX7_undo_21 : decode cX7_undo 21 = .ok (.getfield 28, 3) := by decide +kernel
theorem dX7_undo_24 : decode cX7_undo 24 = .ok (.getfield 162, 3) := by decide +kernel
theorem dX7_undo_27 : decode cX7_undo 27 = .ok (.ireturn, 1) := by decide +kernel
theorem dX7_now_0 : decode cX7_now 0 = .ok (.aload_n 0, 1) := by decide +kernel
theorem dX7_now_1 : decode cX7_now 1 = .ok (.getfield 28, 3) := by decide +kernel
theorem dX7_now_4 : decode cX7_now 4 = .ok (.getfield 104, 3) := by decide +kernel
theorem dX7_now_7 : decode cX7_now 7 = .ok (.astore_n 2, 1) := by decide +kernel
theorem dX7_now_8 : decode cX7_now 8 = .ok (.iload_n 1, 1) := by decide +kernel
theorem dX7_now_9 : decode cX7_now 9 = .ok (.tableswitch 51 0 3 #[31, 36, 41, 46], 31) := by decide +kernel
theorem dX7_now_40 : decode cX7_now 40 = .ok (.aload_n 2, 1) := by decide +kernel
theorem dX7_now_41 : decode cX7_now 41 = .ok (.getfield 141, 3) := by decide +kernel
theorem dX7_now_44 : decode cX7_now 44 = .ok (.ireturn, 1) := by decide +kernel
theorem dX7_now_45 : decode cX7_now 45 = .ok (.aload_n 2, 1) := by decide +kernel
theorem dX7_now_46 : decode cX7_now 46 = .ok (.getfield 154, 3) := by decide +kernel
theorem dX7_now_49 : decode cX7_now 49 = .ok (.ireturn, 1) := by decide +kernel
theorem dX7_now_50 : decode cX7_now 50 = .ok (.aload_n 0, 1) := by decide +kernel
theorem dX7_now_51 : decode cX7_now 51 = .ok (.invokevirtual 168, 3) := by decide +kernel
theorem dX7_now_54 : decode cX7_now 54 = .ok (.ireturn, 1) := by decide +kernel
theorem dX7_now_55 : decode cX7_now 55 = .ok (.aload_n 0, 1) := by decide +kernel
theorem dX7_now_56 : decode cX7_now 56 = .ok (.invokevirtual 171, 3) := by decide +kernel
theorem dX7_now_59 : decode cX7_now 59 = .ok (.ireturn, 1) := by decide +kernel
theorem dX7_now_60 : decode cX7_now 60 = .ok (.iconst (-1), 1) := by decide +kernel
theorem dX7_now_61 : decode cX7_now 61 = .ok (.ireturn, 1) := by decide +kernel
theorem dX7_reads_0 : decode cX7_reads 0 = .ok (.iload_n 1, 1) := by decide +kernel
theorem dX7_reads_1 : decode cX7_reads 1 = .ok (.invokestatic 132, 3) := by decide +kernel
theorem dX7_reads_4 : decode cX7_reads 4 = .ok (.ifCond .ne 5, 3) := by decide +kernel
theorem dX7_reads_7 : decode cX7_reads 7 = .ok (.iconst (-1), 1) := by decide +kernel
theorem dX7_reads_8 : decode cX7_reads 8 = .ok (.ireturn, 1) := by decide +kernel
theorem dX7_reads_9 : decode cX7_reads 9 = .ok (.iload_n 2, 1) := by decide +kernel
theorem dX7_reads_10 : decode cX7_reads 10 = .ok (.lookupswitch 38 #[(0, 26), (1, 32)], 26) := by decide +kernel
theorem dX7_reads_36 : decode cX7_reads 36 = .ok (.aload_n 0, 1) := by decide +kernel
theorem dX7_reads_37 : decode cX7_reads 37 = .ok (.iload_n 1, 1) := by decide +kernel
theorem dX7_reads_38 : decode cX7_reads 38 = .ok (.invokevirtual 174, 3) := by decide +kernel
theorem dX7_reads_41 : decode cX7_reads 41 = .ok (.ireturn, 1) := by decide +kernel
theorem dX7_reads_42 : decode cX7_reads 42 = .ok (.aload_n 0, 1) := by decide +kernel
theorem dX7_reads_43 : decode cX7_reads 43 = .ok (.iload_n 1, 1) := by decide +kernel
theorem dX7_reads_44 : decode cX7_reads 44 = .ok (.invokevirtual 177, 3) := by decide +kernel
theorem dX7_reads_47 : decode cX7_reads 47 = .ok (.ireturn, 1) := by decide +kernel
theorem dX7_reads_48 : decode cX7_reads 48 = .ok (.iconst (-1), 1) := by decide +kernel
theorem dX7_reads_49 : decode cX7_reads 49 = .ok (.ireturn, 1) := by decide +kernel
theorem dX7_plan_0 : decode cX7_plan 0 = .ok (.aload_n 0, 1) := by decide +kernel
theorem dX7_plan_1 : decode cX7_plan 1 = .ok (.iload_n 1, 1) := by decide +kernel
theorem dX7_plan_2 : decode cX7_plan 2 = .ok (.invokevirtual 100, 3) := by decide +kernel
theorem dX7_plan_5 : decode cX7_plan 5 = .ok (.ifCond .eq 33, 3) := by decide +kernel
theorem dX7_plan_8 : decode cX7_plan 8 = .ok (.iload_n 2, 1) := by decide +kernel
theorem dX7_plan_9 : decode cX7_plan 9 = .ok (.iconst 1, 1) := by decide +kernel
theorem dX7_plan_10 : decode cX7_plan 10 = .ok (.bipush 20, 2) := by decide +kernel
theorem dX7_plan_12 : decode cX7_plan 12 = .ok (.invokestatic 68, 3) := by decide +kernel
theorem dX7_plan_15 : decode cX7_plan 15 = .ok (.ifCond .eq 23, 3) := by decide +kernel
theorem dX7_plan_18 : decode cX7_plan 18 = .ok (.iload_n 3, 1) := by decide +kernel
theorem dX7_plan_19 : decode cX7_plan 19 = .ok (.iconst 1, 1) := by decide +kernel
theorem dX7_plan_20 : decode cX7_plan 20 = .ok (.bipush 12, 2) := by decide +kernel
theorem dX7_plan_22 : decode cX7_plan 22 = .ok (.invokestatic 68, 3) := by decide +kernel
theorem dX7_plan_25 : decode cX7_plan 25 = .ok (.ifCond .eq 13, 3) := by decide +kernel
theorem dX7_plan_28 : decode cX7_plan 28 = .ok (.iload 4, 2) := by decide +kernel
theorem dX7_plan_30 : decode cX7_plan 30 = .ok (.iconst 0, 1) := by decide +kernel
theorem dX7_plan_31 : decode cX7_plan 31 = .ok (.iconst 1, 1) := by decide +kernel
theorem dX7_plan_32 : decode cX7_plan 32 = .ok (.invokestatic 68, 3) := by decide +kernel
theorem dX7_plan_35 : decode cX7_plan 35 = .ok (.ifCond .ne 5, 3) := by decide +kernel
theorem dX7_plan_38 : decode cX7_plan 38 = .ok (.iconst (-1), 1) := by decide +kernel
theorem dX7_plan_39 : decode cX7_plan 39 = .ok (.ireturn, 1) := by decide +kernel
theorem dX7_plan_40 : decode cX7_plan 40 = .ok (.aload_n 0, 1) := by decide +kernel
theorem dX7_plan_41 : decode cX7_plan 41 = .ok (.getfield 50, 3) := by decide +kernel
theorem dX7_plan_44 : decode cX7_plan 44 = .ok (.aload_n 0, 1) := by decide +kernel
theorem dX7_plan_45 : decode cX7_plan 45 = .ok (.getfield 57, 3) := by decide +kernel
theorem dX7_plan_48 : decode cX7_plan 48 = .ok (.aload_n 0, 1) := by decide +kernel
theorem dX7_plan_49 : decode cX7_plan 49 = .ok (.getfield 28, 3) := by decide +kernel
theorem dX7_plan_52 : decode cX7_plan 52 = .ok (.getfield 104, 3) := by decide +kernel
theorem dX7_plan_55 : decode cX7_plan 55 = .ok (.iload_n 1, 1) := by decide +kernel
theorem dX7_plan_56 : decode cX7_plan 56 = .ok (.iload_n 2, 1) := by decide +kernel
theorem dX7_plan_57 : decode cX7_plan 57 = .ok (.invokevirtual 180, 3) := by decide +kernel
theorem dX7_plan_60 : decode cX7_plan 60 = .ok (.aload_n 0, 1) := by decide +kernel
theorem dX7_plan_61 : decode cX7_plan 61 = .ok (.getfield 50, 3) := by decide +kernel
theorem dX7_plan_64 : decode cX7_plan 64 = .ok (.aload_n 0, 1) := by decide +kernel
theorem dX7_plan_65 : decode cX7_plan 65 = .ok (.getfield 57, 3) := by decide +kernel
theorem dX7_plan_68 : decode cX7_plan 68 = .ok (.getfield 108, 3) := by decide +kernel
theorem dX7_plan_71 : decode cX7_plan 71 = .ok (.iload_n 1, 1) := by decide +kernel
theorem dX7_plan_72 : decode cX7_plan 72 = .ok (.iaload, 1) := by decide +kernel
theorem dX7_plan_73 : decode cX7_plan 73 = .ok (.iload_n 2, 1) := by decide +kernel
theorem dX7_plan_74 : decode cX7_plan 74 = .ok (.iload_n 3, 1) := by decide +kernel
theorem dX7_plan_75 : decode cX7_plan 75 = .ok (.invokevirtual 184, 3) := by decide +kernel
theorem dX7_plan_78 : decode cX7_plan 78 = .ok (.istore 5, 2) := by decide +kernel
theorem dX7_plan_80 : decode cX7_plan 80 = .ok (.iload 4, 2) := by decide +kernel
theorem dX7_plan_82 : decode cX7_plan 82 = .ok (.iconst 1, 1) := by decide +kernel
theorem dX7_plan_83 : decode cX7_plan 83 = .ok (.if_icmp .ne 6, 3) := by decide +kernel
theorem dX7_plan_86 : decode cX7_plan 86 = .ok (.iload 5, 2) := by decide +kernel
theorem dX7_plan_88 : decode cX7_plan 88 = .ok (.ireturn, 1) := by decide +kernel
theorem dX7_plan_89 : decode cX7_plan 89 = .ok (.iload 5, 2) := by decide +kernel
theorem dX7_plan_91 : decode cX7_plan 91 = .ok (.bipush (-9), 2) := by decide +kernel
theorem dX7_plan_93 : decode cX7_plan 93 = .ok (.if_icmp .ne 13, 3) := by decide +kernel
theorem dX7_plan_96 : decode cX7_plan 96 = .ok (.aload_n 0, 1) := by decide +kernel
theorem dX7_plan_97 : decode cX7_plan 97 = .ok (.getfield 50, 3) := by decide +kernel
theorem dX7_plan_100 : decode cX7_plan 100 = .ok (.invokevirtual 188, 3) := by decide +kernel
theorem dX7_plan_103 : decode cX7_plan 103 = .ok (.goto 5, 3) := by decide +kernel
theorem dX7_plan_106 : decode cX7_plan 106 = .ok (.bipush (-9), 2) := by decide +kernel
theorem dX7_plan_108 : decode cX7_plan 108 = .ok (.ireturn, 1) := by decide +kernel
theorem dX7_least_0 : decode cX7_least 0 = .ok (.aload_n 0, 1) := by decide +kernel
theorem dX7_least_1 : decode cX7_least 1 = .ok (.iload_n 1, 1) := by decide +kernel
theorem dX7_least_2 : decode cX7_least 2 = .ok (.invokevirtual 100, 3) := by decide +kernel
theorem dX7_least_5 : decode cX7_least 5 = .ok (.ifCond .eq 20, 3) := by decide +kernel
theorem dX7_least_8 : decode cX7_least 8 = .ok (.iload_n 2, 1) := by decide +kernel
theorem dX7_least_9 : decode cX7_least 9 = .ok (.invokestatic 135, 3) := by decide +kernel
theorem dX7_least_12 : decode cX7_least 12 = .ok (.ifCond .eq 13, 3) := by decide +kernel
theorem dX7_least_15 : decode cX7_least 15 = .ok (.iload_n 3, 1) := by decide +kernel
theorem dX7_least_16 : decode cX7_least 16 = .ok (.iconst 1, 1) := by decide +kernel
theorem dX7_least_17 : decode cX7_least 17 = .ok (.bipush 8, 2) := by decide +kernel
theorem dX7_least_19 : decode cX7_least 19 = .ok (.invokestatic 68, 3) := by decide +kernel
theorem dX7_least_22 : decode cX7_least 22 = .ok (.ifCond .ne 5, 3) := by decide +kernel
theorem dX7_least_25 : decode cX7_least 25 = .ok (.iconst (-1), 1) := by decide +kernel
theorem dX7_least_26 : decode cX7_least 26 = .ok (.ireturn, 1) := by decide +kernel
theorem dX7_least_27 : decode cX7_least 27 = .ok (.aload_n 0, 1) := by decide +kernel
theorem dX7_least_28 : decode cX7_least 28 = .ok (.getfield 50, 3) := by decide +kernel
theorem dX7_least_31 : decode cX7_least 31 = .ok (.aload_n 0, 1) := by decide +kernel
theorem dX7_least_32 : decode cX7_least 32 = .ok (.getfield 57, 3) := by decide +kernel
theorem dX7_least_35 : decode cX7_least 35 = .ok (.aload_n 0, 1) := by decide +kernel
theorem dX7_least_36 : decode cX7_least 36 = .ok (.getfield 28, 3) := by decide +kernel
theorem dX7_least_39 : decode cX7_least 39 = .ok (.getfield 104, 3) := by decide +kernel
theorem dX7_least_42 : decode cX7_least 42 = .ok (.iload_n 1, 1) := by decide +kernel
theorem dX7_least_43 : decode cX7_least 43 = .ok (.iload_n 3, 1) := by decide +kernel
theorem dX7_least_44 : decode cX7_least 44 = .ok (.invokevirtual 180, 3) := by decide +kernel
theorem dX7_least_47 : decode cX7_least 47 = .ok (.aload_n 0, 1) := by decide +kernel
theorem dX7_least_48 : decode cX7_least 48 = .ok (.getfield 50, 3) := by decide +kernel
theorem dX7_least_51 : decode cX7_least 51 = .ok (.iload_n 2, 1) := by decide +kernel
theorem dX7_least_52 : decode cX7_least 52 = .ok (.invokevirtual 191, 3) := by decide +kernel
theorem dX7_least_55 : decode cX7_least 55 = .ok (.ireturn, 1) := by decide +kernel
theorem dX7_wig_0 : decode cX7_wig 0 = .ok (.iload_n 1, 1) := by decide +kernel
theorem dX7_wig_1 : decode cX7_wig 1 = .ok (.iconst 0, 1) := by decide +kernel
theorem dX7_wig_2 : decode cX7_wig 2 = .ok (.sipush 1023, 3) := by decide +kernel
theorem dX7_wig_5 : decode cX7_wig 5 = .ok (.invokestatic 68, 3) := by decide +kernel
theorem dX7_wig_8 : decode cX7_wig 8 = .ok (.ifCond .ne 5, 3) := by decide +kernel
theorem dX7_wig_11 : decode cX7_wig 11 = .ok (.iconst (-1), 1) := by decide +kernel
theorem dX7_wig_12 : decode cX7_wig 12 = .ok (.ireturn, 1) := by decide +kernel
theorem dX7_wig_13 : decode cX7_wig 13 = .ok (.iconst 0, 1) := by decide +kernel
theorem dX7_wig_14 : decode cX7_wig 14 = .ok (.istore_n 2, 1) := by decide +kernel
theorem dX7_wig_15 : decode cX7_wig 15 = .ok (.iload_n 2, 1) := by decide +kernel
theorem dX7_wig_16 : decode cX7_wig 16 = .ok (.aload_n 0, 1) := by decide +kernel
theorem dX7_wig_17 : decode cX7_wig 17 = .ok (.getfield 57, 3) := by decide +kernel
theorem dX7_wig_20 : decode cX7_wig 20 = .ok (.getfield 194, 3) := by decide +kernel
theorem dX7_wig_23 : decode cX7_wig 23 = .ok (.if_icmp .ge 26, 3) := by decide +kernel
theorem dX7_wig_26 : decode cX7_wig 26 = .ok (.aload_n 0, 1) := by decide +kernel
theorem dX7_wig_27 : decode cX7_wig 27 = .ok (.getfield 65, 3) := by decide +kernel
theorem dX7_wig_30 : decode cX7_wig 30 = .ok (.iload_n 2, 1) := by decide +kernel
theorem dX7_wig_31 : decode cX7_wig 31 = .ok (.aload_n 0, 1) := by decide +kernel
theorem dX7_wig_32 : decode cX7_wig 32 = .ok (.getfield 28, 3) := by decide +kernel
theorem dX7_wig_35 : decode cX7_wig 35 = .ok (.getfield 104, 3) := by decide +kernel
theorem dX7_wig_38 : decode cX7_wig 38 = .ok (.iload_n 2, 1) := by decide +kernel
theorem dX7_wig_39 : decode cX7_wig 39 = .ok (.invokevirtual 197, 3) := by decide +kernel
theorem dX7_wig_42 : decode cX7_wig 42 = .ok (.iastore, 1) := by decide +kernel
theorem dX7_wig_43 : decode cX7_wig 43 = .ok (.iinc 2 1, 3) := by decide +kernel
theorem dX7_wig_46 : decode cX7_wig 46 = .ok (.goto (-31), 3) := by decide +kernel
theorem dX7_wig_49 : decode cX7_wig 49 = .ok (.bipush (-9), 2) := by decide +kernel
theorem dX7_wig_51 : decode cX7_wig 51 = .ok (.istore_n 2, 1) := by decide +kernel
theorem dX7_wig_52 : decode cX7_wig 52 = .ok (.bipush 6, 2) := by decide +kernel
theorem dX7_wig_54 : decode cX7_wig 54 = .ok (.istore_n 3, 1) := by decide +kernel
theorem dX7_wig_55 : decode cX7_wig 55 = .ok (.iconst 0, 1) := by decide +kernel
theorem dX7_wig_56 : decode cX7_wig 56 = .ok (.istore 4, 2) := by decide +kernel
theorem dX7_wig_58 : decode cX7_wig 58 = .ok (.iload 4, 2) := by decide +kernel
theorem dX7_wig_60 : decode cX7_wig 60 = .ok (.iconst 1, 1) := by decide +kernel
theorem dX7_wig_61 : decode cX7_wig 61 = .ok (.aload_n 0, 1) := by decide +kernel
theorem dX7_wig_62 : decode cX7_wig 62 = .ok (.getfield 57, 3) := by decide +kernel
theorem dX7_wig_65 : decode cX7_wig 65 = .ok (.getfield 194, 3) := by decide +kernel
theorem dX7_wig_68 : decode cX7_wig 68 = .ok (.ishl, 1) := by decide +kernel
theorem dX7_wig_69 : decode cX7_wig 69 = .ok (.if_icmp .ge 40, 3) := by decide +kernel
theorem dX7_wig_72 : decode cX7_wig 72 = .ok (.iload 4, 2) := by decide +kernel
theorem dX7_wig_74 : decode cX7_wig 74 = .ok (.invokestatic 200, 3) := by decide +kernel
theorem dX7_wig_77 : decode cX7_wig 77 = .ok (.istore 5, 2) := by decide +kernel
theorem dX7_wig_79 : decode cX7_wig 79 = .ok (.iload 5, 2) := by decide +kernel
theorem dX7_wig_81 : decode cX7_wig 81 = .ok (.iload_n 3, 1) := by decide +kernel
theorem dX7_wig_82 : decode cX7_wig 82 = .ok (.if_icmp .ge 21, 3) := by decide +kernel
theorem dX7_wig_85 : decode cX7_wig 85 = .ok (.aload_n 0, 1) := by decide +kernel
theorem dX7_wig_86 : decode cX7_wig 86 = .ok (.iload 4, 2) := by decide +kernel
theorem dX7_wig_88 : decode cX7_wig 88 = .ok (.invokevirtual 205, 3) := by decide +kernel
theorem dX7_wig_91 : decode cX7_wig 91 = .ok (.iload_n 1, 1) := by decide +kernel
theorem dX7_wig_92 : decode cX7_wig 92 = .ok (.iand, 1) := by decide +kernel
theorem dX7_wig_93 : decode cX7_wig 93 = .ok (.iload_n 1, 1) := by decide +kernel
theorem dX7_wig_94 : decode cX7_wig 94 = .ok (.if_icmp .ne 9, 3) := by decide +kernel
theorem dX7_wig_97 : decode cX7_wig 97 = .ok (.iload 4, 2) := by decide +kernel
theorem dX7_wig_99 : decode cX7_wig 99 = .ok (.istore_n 2, 1) := by decide +kernel
theorem dX7_wig_100 : decode cX7_wig 100 = .ok (.iload 5, 2) := by decide +kernel
theorem dX7_wig_102 : decode cX7_wig 102 = .ok (.istore_n 3, 1) := by decide +kernel
theorem dX7_wig_103 : decode cX7_wig 103 = .ok (.iinc 4 1, 3) := by decide +kernel
theorem dX7_wig_106 : decode cX7_wig 106 = .ok (.goto (-48), 3) := by decide +kernel
theorem dX7_wig_109 : decode cX7_wig 109 = .ok (.iload_n 2, 1) := by decide +kernel
theorem dX7_wig_110 : decode cX7_wig 110 = .ok (.ireturn, 1) := by decide +kernel
theorem dX7_odds_0 : decode cX7_odds 0 = .ok (.iload_n 1, 1) := by decide +kernel
theorem dX7_odds_1 : decode cX7_odds 1 = .ok (.iconst 0, 1) := by decide +kernel
theorem dX7_odds_2 : decode cX7_odds 2 = .ok (.bipush 10, 2) := by decide +kernel
theorem dX7_odds_4 : decode cX7_odds 4 = .ok (.invokestatic 68, 3) := by decide +kernel
theorem dX7_odds_7 : decode cX7_odds 7 = .ok (.ifCond .eq 33, 3) := by decide +kernel
theorem dX7_odds_10 : decode cX7_odds 10 = .ok (.iload_n 2, 1) := by decide +kernel
theorem dX7_odds_11 : decode cX7_odds 11 = .ok (.iconst 0, 1) := by decide +kernel
theorem dX7_odds_12 : decode cX7_odds 12 = .ok (.bipush 7, 2) := by decide +kernel
theorem dX7_odds_14 : decode cX7_odds 14 = .ok (.invokestatic 68, 3) := by decide +kernel
theorem dX7_odds_17 : decode cX7_odds 17 = .ok (.ifCond .eq 23, 3) := by decide +kernel
theorem dX7_odds_20 : decode cX7_odds 20 = .ok (.iload_n 3, 1) := by decide +kernel
theorem dX7_odds_21 : decode cX7_odds 21 = .ok (.iconst 0, 1) := by decide +kernel
theorem dX7_odds_22 : decode cX7_odds 22 = .ok (.bipush 7, 2) := by decide +kernel
theorem dX7_odds_24 : decode cX7_odds 24 = .ok (.invokestatic 68, 3) := by decide +kernel
theorem dX7_odds_27 : decode cX7_odds 27 = .ok (.ifCond .eq 13, 3) := by decide +kernel
theorem dX7_odds_30 : decode cX7_odds 30 = .ok (.iload 4, 2) := by decide +kernel
theorem dX7_odds_32 : decode cX7_odds 32 = .ok (.iconst 0, 1) := by decide +kernel
theorem dX7_odds_33 : decode cX7_odds 33 = .ok (.iconst 1, 1) := by decide +kernel
theorem dX7_odds_34 : decode cX7_odds 34 = .ok (.invokestatic 68, 3) := by decide +kernel
theorem dX7_odds_37 : decode cX7_odds 37 = .ok (.ifCond .ne 5, 3) := by decide +kernel
theorem dX7_odds_40 : decode cX7_odds 40 = .ok (.iconst (-1), 1) := by decide +kernel
theorem dX7_odds_41 : decode cX7_odds 41 = .ok (.ireturn, 1) := by decide +kernel
theorem dX7_odds_42 : decode cX7_odds 42 = .ok (.iconst 0, 1) := by decide +kernel
theorem dX7_odds_43 : decode cX7_odds 43 = .ok (.istore 5, 2) := by decide +kernel
theorem dX7_odds_45 : decode cX7_odds 45 = .ok (.iload_n 2, 1) := by decide +kernel
theorem dX7_odds_46 : decode cX7_odds 46 = .ok (.iload_n 3, 1) := by decide +kernel
theorem dX7_odds_47 : decode cX7_odds 47 = .ok (.if_icmp .gt 27, 3) := by decide +kernel
theorem dX7_odds_50 : decode cX7_odds 50 = .ok (.iload_n 3, 1) := by decide +kernel
theorem dX7_odds_51 : decode cX7_odds 51 = .ok (.iload_n 2, 1) := by decide +kernel
theorem dX7_odds_52 : decode cX7_odds 52 = .ok (.invokestatic 208, 3) := by decide +kernel
theorem dX7_odds_55 : decode cX7_odds 55 = .ok (.iload_n 1, 1) := by decide +kernel
theorem dX7_odds_56 : decode cX7_odds 56 = .ok (.iload_n 2, 1) := by decide +kernel
theorem dX7_odds_57 : decode cX7_odds 57 = .ok (.invokestatic 211, 3) := by decide +kernel
theorem dX7_odds_60 : decode cX7_odds 60 = .ok (.imul, 1) := by decide +kernel
theorem dX7_odds_61 : decode cX7_odds 61 = .ok (.bipush 10, 2) := by decide +kernel
theorem dX7_odds_63 : decode cX7_odds 63 = .ok (.iload_n 1, 1) := by decide +kernel
theorem dX7_odds_64 : decode cX7_odds 64 = .ok (.isub, 1) := by decide +kernel
theorem dX7_odds_65 : decode cX7_odds 65 = .ok (.iload_n 3, 1) := by decide +kernel
theorem dX7_odds_66 : decode cX7_odds 66 = .ok (.iload_n 2, 1) := by decide +kernel
theorem dX7_odds_67 : decode cX7_odds 67 = .ok (.isub, 1) := by decide +kernel
theorem dX7_odds_68 : decode cX7_odds 68 = .ok (.invokestatic 211, 3) := by decide +kernel
theorem dX7_odds_71 : decode cX7_odds 71 = .ok (.imul, 1) := by decide +kernel
theorem dX7_odds_72 : decode cX7_odds 72 = .ok (.istore 5, 2) := by decide +kernel
theorem dX7_odds_74 : decode cX7_odds 74 = .ok (.bipush 10, 2) := by decide +kernel
theorem dX7_odds_76 : decode cX7_odds 76 = .ok (.iload_n 3, 1) := by decide +kernel
theorem dX7_odds_77 : decode cX7_odds 77 = .ok (.invokestatic 211, 3) := by decide +kernel
theorem dX7_odds_80 : decode cX7_odds 80 = .ok (.istore 6, 2) := by decide +kernel
theorem dX7_odds_82 : decode cX7_odds 82 = .ok (.iload 5, 2) := by decide +kernel
theorem dX7_odds_84 : decode cX7_odds 84 = .ok (.iload 6, 2) := by decide +kernel
theorem dX7_odds_86 : decode cX7_odds 86 = .ok (.invokestatic 214, 3) := by decide +kernel
theorem dX7_odds_89 : decode cX7_odds 89 = .ok (.istore 7, 2) := by decide +kernel
theorem dX7_odds_91 : decode cX7_odds 91 = .ok (.iload 7, 2) := by decide +kernel
theorem dX7_odds_93 : decode cX7_odds 93 = .ok (.ifCond .gt 5, 3) := by decide +kernel
theorem dX7_odds_96 : decode cX7_odds 96 = .ok (.iconst (-1), 1) := by decide +kernel
theorem dX7_odds_97 : decode cX7_odds 97 = .ok (.ireturn, 1) := by decide +kernel
theorem dX7_odds_98 : decode cX7_odds 98 = .ok (.iload 4, 2) := by decide +kernel
theorem dX7_odds_100 : decode cX7_odds 100 = .ok (.ifCond .ne 8, 3) := by decide +kernel
theorem dX7_odds_103 : decode cX7_odds 103 = .ok (.iload 5, 2) := by decide +kernel
theorem dX7_odds_105 : decode cX7_odds 105 = .ok (.goto 5, 3) := by decide +kernel
theorem dX7_odds_108 : decode cX7_odds 108 = .ok (.iload 6, 2) := by decide +kernel
theorem dX7_odds_110 : decode cX7_odds 110 = .ok (.iload 7, 2) := by decide +kernel
theorem dX7_odds_112 : decode cX7_odds 112 = .ok (.idiv, 1) := by decide +kernel
theorem dX7_odds_113 : decode cX7_odds 113 = .ok (.ireturn, 1) := by decide +kernel
theorem dX7_saw_0 : decode cX7_saw 0 = .ok (.iload_n 1, 1) := by decide +kernel
theorem dX7_saw_1 : decode cX7_saw 1 = .ok (.invokestatic 135, 3) := by decide +kernel
theorem dX7_saw_4 : decode cX7_saw 4 = .ok (.ifCond .ne 5, 3) := by decide +kernel
theorem dX7_saw_7 : decode cX7_saw 7 = .ok (.iconst (-1), 1) := by decide +kernel
theorem dX7_saw_8 : decode cX7_saw 8 = .ok (.ireturn, 1) := by decide +kernel
theorem dX7_saw_9 : decode cX7_saw 9 = .ok (.aload_n 0, 1) := by decide +kernel
theorem dX7_saw_10 : decode cX7_saw 10 = .ok (.getfield 43, 3) := by decide +kernel
theorem dX7_saw_13 : decode cX7_saw 13 = .ok (.getfield 217, 3) := by decide +kernel
theorem dX7_saw_16 : decode cX7_saw 16 = .ok (.iconst 4, 1) := by decide +kernel
theorem dX7_saw_17 : decode cX7_saw 17 = .ok (.if_icmp .lt 6, 3) := by decide +kernel
theorem dX7_saw_20 : decode cX7_saw 20 = .ok (.bipush (-3), 2) := by decide +kernel
theorem dX7_saw_22 : decode cX7_saw 22 = .ok (.ireturn, 1) := by decide +kernel
theorem dX7_saw_23 : decode cX7_saw 23 = .ok (.aload_n 0, 1) := by decide +kernel
theorem dX7_saw_24 : decode cX7_saw 24 = .ok (.getfield 43, 3) := by decide +kernel
theorem dX7_saw_27 : decode cX7_saw 27 = .ok (.getfield 220, 3) := by decide +kernel
theorem dX7_saw_30 : decode cX7_saw 30 = .ok (.aload_n 0, 1) := by decide +kernel
theorem dX7_saw_31 : decode cX7_saw 31 = .ok (.getfield 43, 3) := by decide +kernel
theorem dX7_saw_34 : decode cX7_saw 34 = .ok (.getfield 217, 3) := by decide +kernel
theorem dX7_saw_37 : decode cX7_saw 37 = .ok (.iload_n 1, 1) := by decide +kernel
theorem dX7_saw_38 : decode cX7_saw 38 = .ok (.iastore, 1) := by decide +kernel
theorem dX7_saw_39 : decode cX7_saw 39 = .ok (.aload_n 0, 1) := by decide +kernel
theorem dX7_saw_40 : decode cX7_saw 40 = .ok (.getfield 43, 3) := by decide +kernel
theorem dX7_saw_43 : decode cX7_saw 43 = .ok (.dup, 1) := by decide +kernel
theorem dX7_saw_44 : decode cX7_saw 44 = .ok (.getfield 217, 3) := by decide +kernel
theorem dX7_saw_47 : decode cX7_saw 47 = .ok (.iconst 1, 1) := by decide +kernel
theorem dX7_saw_48 : decode cX7_saw 48 = .ok (.iadd, 1) := by decide +kernel
theorem dX7_saw_49 : decode cX7_saw 49 = .ok (.putfield 217, 3) := by decide +kernel
theorem dX7_saw_52 : decode cX7_saw 52 = .ok (.aload_n 0, 1) := by decide +kernel
theorem dX7_saw_53 : decode cX7_saw 53 = .ok (.getfield 43, 3) := by decide +kernel
theorem dX7_saw_56 : decode cX7_saw 56 = .ok (.getfield 217, 3) := by decide +kernel
theorem dX7_saw_59 : decode cX7_saw 59 = .ok (.ireturn, 1) := by decide +kernel
theorem dX7_lock_0 : decode cX7_lock 0 = .ok (.iload_n 1, 1) := by decide +kernel
theorem dX7_lock_1 : decode cX7_lock 1 = .ok (.lookupswitch 37 #[(0, 27), (1, 32)], 27) := by decide +kernel
theorem dX7_lock_28 : decode cX7_lock 28 = .ok (.aload_n 0, 1) := by decide +kernel
theorem dX7_lock_29 : decode cX7_lock 29 = .ok (.invokevirtual 223, 3) := by decide +kernel
theorem dX7_lock_32 : decode cX7_lock 32 = .ok (.ireturn, 1) := by decide +kernel
theorem dX7_lock_33 : decode cX7_lock 33 = .ok (.aload_n 0, 1) := by decide +kernel
theorem dX7_lock_34 : decode cX7_lock 34 = .ok (.invokevirtual 226, 3) := by decide +kernel
theorem dX7_lock_37 : decode cX7_lock 37 = .ok (.ireturn, 1) := by decide +kernel
theorem dX7_lock_38 : decode cX7_lock 38 = .ok (.iconst (-1), 1) := by decide +kernel
theorem dX7_lock_39 : decode cX7_lock 39 = .ok (.ireturn, 1) := by decide +kernel
theorem dX7_hears_0 : decode cX7_hears 0 = .ok (.iload_n 1, 1) := by decide +kernel
theorem dX7_hears_1 : decode cX7_hears 1 = .ok (.invokestatic 135, 3) := by decide +kernel
theorem dX7_hears_4 : decode cX7_hears 4 = .ok (.ifCond .eq 13, 3) := by decide +kernel
theorem dX7_hears_7 : decode cX7_hears 7 = .ok (.iload_n 2, 1) := by decide +kernel
theorem dX7_hears_8 : decode cX7_hears 8 = .ok (.iconst 0, 1) := by decide +kernel
theorem dX7_hears_9 : decode cX7_hears 9 = .ok (.bipush 60, 2) := by decide +kernel
theorem dX7_hears_11 : decode cX7_hears 11 = .ok (.invokestatic 68, 3) := by decide +kernel
theorem dX7_hears_14 : decode cX7_hears 14 = .ok (.ifCond .ne 5, 3) := by decide +kernel
theorem dX7_hears_17 : decode cX7_hears 17 = .ok (.iconst (-1), 1) := by decide +kernel
theorem dX7_hears_18 : decode cX7_hears 18 = .ok (.ireturn, 1) := by decide +kernel
theorem dX7_hears_19 : decode cX7_hears 19 = .ok (.aload_n 0, 1) := by decide +kernel
theorem dX7_hears_20 : decode cX7_hears 20 = .ok (.getfield 43, 3) := by decide +kernel
theorem dX7_hears_23 : decode cX7_hears 23 = .ok (.getfield 229, 3) := by decide +kernel
theorem dX7_hears_26 : decode cX7_hears 26 = .ok (.iconst 4, 1) := by decide +kernel
theorem dX7_hears_27 : decode cX7_hears 27 = .ok (.if_icmp .lt 6, 3) := by decide +kernel
theorem dX7_hears_30 : decode cX7_hears 30 = .ok (.bipush (-3), 2) := by decide +kernel
theorem dX7_hears_32 : decode cX7_hears 32 = .ok (.ireturn, 1) := by decide +kernel
theorem dX7_hears_33 : decode cX7_hears 33 = .ok (.aload_n 0, 1) := by decide +kernel
theorem dX7_hears_34 : decode cX7_hears 34 = .ok (.getfield 43, 3) := by decide +kernel
theorem dX7_hears_37 : decode cX7_hears 37 = .ok (.getfield 232, 3) := by decide +kernel
theorem dX7_hears_40 : decode cX7_hears 40 = .ok (.aload_n 0, 1) := by decide +kernel
theorem dX7_hears_41 : decode cX7_hears 41 = .ok (.getfield 43, 3) := by decide +kernel
theorem dX7_hears_44 : decode cX7_hears 44 = .ok (.getfield 229, 3) := by decide +kernel
theorem dX7_hears_47 : decode cX7_hears 47 = .ok (.iload_n 1, 1) := by decide +kernel
theorem dX7_hears_48 : decode cX7_hears 48 = .ok (.iastore, 1) := by decide +kernel
theorem dX7_hears_49 : decode cX7_hears 49 = .ok (.aload_n 0, 1) := by decide +kernel
theorem dX7_hears_50 : decode cX7_hears 50 = .ok (.getfield 43, 3) := by decide +kernel
theorem dX7_hears_53 : decode cX7_hears 53 = .ok (.getfield 235, 3) := by decide +kernel
theorem dX7_hears_56 : decode cX7_hears 56 = .ok (.aload_n 0, 1) := by decide +kernel
theorem dX7_hears_57 : decode cX7_hears 57 = .ok (.getfield 43, 3) := by decide +kernel
theorem dX7_hears_60 : decode cX7_hears 60 = .ok (.getfield 229, 3) := by decide +kernel
theorem dX7_hears_63 : decode cX7_hears 63 = .ok (.iload_n 2, 1) := by decide +kernel
theorem dX7_hears_64 : decode cX7_hears 64 = .ok (.iastore, 1) := by decide +kernel
theorem dX7_hears_65 : decode cX7_hears 65 = .ok (.aload_n 0, 1) := by decide +kernel
theorem dX7_hears_66 : decode cX7_hears 66 = .ok (.getfield 43, 3) := by decide +kernel
theorem dX7_hears_69 : decode cX7_hears 69 = .ok (.dup, 1) := by decide +kernel
theorem dX7_hears_70 : decode cX7_hears 70 = .ok (.getfield 229, 3) := by decide +kernel
theorem dX7_hears_73 : decode cX7_hears 73 = .ok (.iconst 1, 1) := by decide +kernel
theorem dX7_hears_74 : decode cX7_hears 74 = .ok (.iadd, 1) := by decide +kernel
theorem dX7_hears_75 : decode cX7_hears 75 = .ok (.putfield 229, 3) := by decide +kernel
theorem dX7_hears_78 : decode cX7_hears 78 = .ok (.aload_n 0, 1) := by decide +kernel
theorem dX7_hears_79 : decode cX7_hears 79 = .ok (.getfield 43, 3) := by decide +kernel
theorem dX7_hears_82 : decode cX7_hears 82 = .ok (.getfield 229, 3) := by decide +kernel
theorem dX7_hears_85 : decode cX7_hears 85 = .ok (.ireturn, 1) := by decide +kernel
theorem dX7_sets_0 : decode cX7_sets 0 = .ok (.iload_n 1, 1) := by decide +kernel
theorem dX7_sets_1 : decode cX7_sets 1 = .ok (.iconst 0, 1) := by decide +kernel
theorem dX7_sets_2 : decode cX7_sets 2 = .ok (.iconst 3, 1) := by decide +kernel
theorem dX7_sets_3 : decode cX7_sets 3 = .ok (.invokestatic 68, 3) := by decide +kernel
theorem dX7_sets_6 : decode cX7_sets 6 = .ok (.ifCond .ne 5, 3) := by decide +kernel
theorem dX7_sets_9 : decode cX7_sets 9 = .ok (.iconst (-1), 1) := by decide +kernel
theorem dX7_sets_10 : decode cX7_sets 10 = .ok (.ireturn, 1) := by decide +kernel
theorem dX7_sets_11 : decode cX7_sets 11 = .ok (.aload_n 0, 1) := by decide +kernel
theorem dX7_sets_12 : decode cX7_sets 12 = .ok (.invokevirtual 238, 3) := by decide +kernel
theorem dX7_sets_15 : decode cX7_sets 15 = .ok (.iconst 1, 1) := by decide +kernel
theorem dX7_sets_16 : decode cX7_sets 16 = .ok (.aload_n 0, 1) := by decide +kernel
theorem dX7_sets_17 : decode cX7_sets 17 = .ok (.getfield 57, 3) := by decide +kernel
theorem dX7_sets_20 : decode cX7_sets 20 = .ok (.getfield 194, 3) := by decide +kernel
theorem dX7_sets_23 : decode cX7_sets 23 = .ok (.ishl, 1) := by decide +kernel
theorem dX7_sets_24 : decode cX7_sets 24 = .ok (.iconst 1, 1) := by decide +kernel
theorem dX7_sets_25 : decode cX7_sets 25 = .ok (.isub, 1) := by decide +kernel
theorem dX7_sets_26 : decode cX7_sets 26 = .ok (.istore_n 2, 1) := by decide +kernel
theorem dX7_sets_27 : decode cX7_sets 27 = .ok (.iconst 0, 1) := by decide +kernel
theorem dX7_sets_28 : decode cX7_sets 28 = .ok (.istore_n 3, 1) := by decide +kernel
theorem dX7_sets_29 : decode cX7_sets 29 = .ok (.bipush (-9), 2) := by decide +kernel
theorem dX7_sets_31 : decode cX7_sets 31 = .ok (.istore 4, 2) := by decide +kernel
theorem dX7_sets_33 : decode cX7_sets 33 = .ok (.iload_n 2, 1) := by decide +kernel
theorem dX7_sets_34 : decode cX7_sets 34 = .ok (.istore 5, 2) := by decide +kernel
theorem dX7_sets_36 : decode cX7_sets 36 = .ok (.iconst 0, 1) := by decide +kernel
theorem dX7_sets_37 : decode cX7_sets 37 = .ok (.istore 6, 2) := by decide +kernel
theorem dX7_sets_39 : decode cX7_sets 39 = .ok (.iconst 0, 1) := by decide +kernel
theorem dX7_sets_40 : decode cX7_sets 40 = .ok (.istore 7, 2) := by decide +kernel
theorem dX7_sets_42 : decode cX7_sets 42 = .ok (.iload 7, 2) := by decide +kernel
theorem dX7_sets_44 : decode cX7_sets 44 = .ok (.iload_n 2, 1) := by decide +kernel
theorem dX7_sets_45 : decode cX7_sets 45 = .ok (.if_icmp .gt 48, 3) := by decide +kernel
theorem dX7_sets_48 : decode cX7_sets 48 = .ok (.aload_n 0, 1) := by decide +kernel
theorem dX7_sets_49 : decode cX7_sets 49 = .ok (.iload 7, 2) := by decide +kernel
theorem dX7_sets_51 : decode cX7_sets 51 = .ok (.invokevirtual 241, 3) := by decide +kernel
theorem dX7_sets_54 : decode cX7_sets 54 = .ok (.ifCond .eq 33, 3) := by decide +kernel
theorem dX7_sets_57 : decode cX7_sets 57 = .ok (.iload_n 3, 1) := by decide +kernel
theorem dX7_sets_58 : decode cX7_sets 58 = .ok (.ifCond .ne 8, 3) := by decide +kernel
theorem dX7_sets_61 : decode cX7_sets 61 = .ok (.iload 7, 2) := by decide +kernel
theorem dX7_sets_63 : decode cX7_sets 63 = .ok (.goto 5, 3) := by decide +kernel
theorem dX7_sets_66 : decode cX7_sets 66 = .ok (.iload 4, 2) := by decide +kernel
theorem dX7_sets_68 : decode cX7_sets 68 = .ok (.istore 4, 2) := by decide +kernel
theorem dX7_sets_70 : decode cX7_sets 70 = .ok (.iload 5, 2) := by decide +kernel
theorem dX7_sets_72 : decode cX7_sets 72 = .ok (.iload 7, 2) := by decide +kernel
theorem dX7_sets_74 : decode cX7_sets 74 = .ok (.iand, 1) := by decide +kernel
theorem dX7_sets_75 : decode cX7_sets 75 = .ok (.istore 5, 2) := by decide +kernel
theorem dX7_sets_77 : decode cX7_sets 77 = .ok (.iload 6, 2) := by decide +kernel
theorem dX7_sets_79 : decode cX7_sets 79 = .ok (.iload 7, 2) := by decide +kernel
theorem dX7_sets_81 : decode cX7_sets 81 = .ok (.ior, 1) := by decide +kernel
theorem dX7_sets_82 : decode cX7_sets 82 = .ok (.istore 6, 2) := by decide +kernel
theorem dX7_sets_84 : decode cX7_sets 84 = .ok (.iinc 3 1, 3) := by decide +kernel
theorem dX7_sets_87 : decode cX7_sets 87 = .ok (.iinc 7 1, 3) := by decide +kernel
theorem dX7_sets_90 : decode cX7_sets 90 = .ok (.goto (-48), 3) := by decide +kernel
theorem dX7_sets_93 : decode cX7_sets 93 = .ok (.iload_n 1, 1) := by decide +kernel
theorem dX7_sets_94 : decode cX7_sets 94 = .ok (.ifCond .ne 5, 3) := by decide +kernel
theorem dX7_sets_97 : decode cX7_sets 97 = .ok (.iload_n 3, 1) := by decide +kernel
theorem dX7_sets_98 : decode cX7_sets 98 = .ok (.ireturn, 1) := by decide +kernel
theorem dX7_sets_99 : decode cX7_sets 99 = .ok (.iload_n 3, 1) := by decide +kernel
theorem dX7_sets_100 : decode cX7_sets 100 = .ok (.ifCond .eq 8, 3) := by decide +kernel
theorem dX7_sets_103 : decode cX7_sets 103 = .ok (.iload_n 1, 1) := by decide +kernel
theorem dX7_sets_104 : decode cX7_sets 104 = .ok (.iconst 1, 1) := by decide +kernel
theorem dX7_sets_105 : decode cX7_sets 105 = .ok (.if_icmp .ne 6, 3) := by decide +kernel
theorem dX7_sets_108 : decode cX7_sets 108 = .ok (.iload 4, 2) := by decide +kernel
theorem dX7_sets_110 : decode cX7_sets 110 = .ok (.ireturn, 1) := by decide +kernel
theorem dX7_sets_111 : decode cX7_sets 111 = .ok (.iload_n 1, 1) := by decide +kernel
theorem dX7_sets_112 : decode cX7_sets 112 = .ok (.iconst 2, 1) := by decide +kernel
theorem dX7_sets_113 : decode cX7_sets 113 = .ok (.if_icmp .ne 8, 3) := by decide +kernel
theorem dX7_sets_116 : decode cX7_sets 116 = .ok (.iload 5, 2) := by decide +kernel
theorem dX7_sets_118 : decode cX7_sets 118 = .ok (.goto 9, 3) := by decide +kernel
theorem dX7_sets_121 : decode cX7_sets 121 = .ok (.iload_n 2, 1) := by decide +kernel
theorem dX7_sets_122 : decode cX7_sets 122 = .ok (.iload 6, 2) := by decide +kernel
theorem dX7_sets_124 : decode cX7_sets 124 = .ok (.iconst (-1), 1) := by decide +kernel
theorem dX7_sets_125 : decode cX7_sets 125 = .ok (.ixor, 1) := by decide +kernel
theorem dX7_sets_126 : decode cX7_sets 126 = .ok (.iand, 1) := by decide +kernel
theorem dX7_sets_127 : decode cX7_sets 127 = .ok (.ireturn, 1) := by decide +kernel
theorem dX7_forget_0 : decode cX7_forget 0 = .ok (.aload_n 0, 1) := by decide +kernel
theorem dX7_forget_1 : decode cX7_forget 1 = .ok (.getfield 43, 3) := by decide +kernel
theorem dX7_forget_4 : decode cX7_forget 4 = .ok (.getfield 217, 3) := by decide +kernel
theorem dX7_forget_7 : decode cX7_forget 7 = .ok (.aload_n 0, 1) := by decide +kernel
theorem dX7_forget_8 : decode cX7_forget 8 = .ok (.getfield 43, 3) := by decide +kernel
theorem dX7_forget_11 : decode cX7_forget 11 = .ok (.getfield 229, 3) := by decide +kernel
theorem dX7_forget_14 : decode cX7_forget 14 = .ok (.iadd, 1) := by decide +kernel
theorem dX7_forget_15 : decode cX7_forget 15 = .ok (.istore_n 1, 1) := by decide +kernel
theorem dX7_forget_16 : decode cX7_forget 16 = .ok (.aload_n 0, 1) := by decide +kernel
theorem dX7_forget_17 : decode cX7_forget 17 = .ok (.getfield 43, 3) := by decide +kernel
theorem dX7_forget_20 : decode cX7_forget 20 = .ok (.invokevirtual 97, 3) := by decide +kernel
theorem dX7_forget_23 : decode cX7_forget 23 = .ok (.iload_n 1, 1) := by decide +kernel
theorem dX7_forget_24 : decode cX7_forget 24 = .ok (.ireturn, 1) := by decide +kernel
theorem dX7_mark_0 : decode cX7_mark 0 = .ok (.aload_n 0, 1) := by decide +kernel
theorem dX7_mark_1 : decode cX7_mark 1 = .ok (.iload_n 2, 1) := by decide +kernel
theorem dX7_mark_2 : decode cX7_mark 2 = .ok (.invokevirtual 100, 3) := by decide +kernel
theorem dX7_mark_5 : decode cX7_mark 5 = .ok (.ifCond .ne 6, 3) := by decide +kernel
theorem dX7_mark_8 : decode cX7_mark 8 = .ok (.ldc 244, 2) := by decide +kernel
theorem dX7_mark_10 : decode cX7_mark 10 = .ok (.ireturn, 1) := by decide +kernel
theorem dX7_mark_11 : decode cX7_mark 11 = .ok (.iload_n 1, 1) := by decide +kernel
theorem dX7_mark_12 : decode cX7_mark 12 = .ok (.tableswitch 76 0 5 #[40, 46, 52, 58, 64, 70], 40) := by decide +kernel
theorem dX7_mark_52 : decode cX7_mark 52 = .ok (.aload_n 0, 1) := by decide +kernel
theorem dX7_mark_53 : decode cX7_mark 53 = .ok (.iload_n 2, 1) := by decide +kernel
theorem dX7_mark_54 : decode cX7_mark 54 = .ok (.invokevirtual 245, 3) := by decide +kernel
theorem dX7_mark_57 : decode cX7_mark 57 = .ok (.ireturn, 1) := by decide +kernel
theorem dX7_mark_58 : decode cX7_mark 58 = .ok (.aload_n 0, 1) := by decide +kernel
theorem dX7_mark_59 : decode cX7_mark 59 = .ok (.iload_n 2, 1) := by decide +kernel
theorem dX7_mark_60 : decode cX7_mark 60 = .ok (.invokevirtual 248, 3) := by decide +kernel
theorem dX7_mark_63 : decode cX7_mark 63 = .ok (.ireturn, 1) := by decide +kernel
theorem dX7_mark_64 : decode cX7_mark 64 = .ok (.aload_n 0, 1) := by decide +kernel
theorem dX7_mark_65 : decode cX7_mark 65 = .ok (.iload_n 2, 1) := by decide +kernel
theorem dX7_mark_66 : decode cX7_mark 66 = .ok (.invokevirtual 251, 3) := by decide +kernel
theorem dX7_mark_69 : decode cX7_mark 69 = .ok (.ireturn, 1) := by decide +kernel
theorem dX7_mark_70 : decode cX7_mark 70 = .ok (.aload_n 0, 1) := by decide +kernel
theorem dX7_mark_71 : decode cX7_mark 71 = .ok (.iload_n 2, 1) := by decide +kernel
theorem dX7_mark_72 : decode cX7_mark 72 = .ok (.invokevirtual 254, 3) := by decide +kernel
theorem dX7_mark_75 : decode cX7_mark 75 = .ok (.ireturn, 1) := by decide +kernel
theorem dX7_mark_76 : decode cX7_mark 76 = .ok (.aload_n 0, 1) := by decide +kernel
theorem dX7_mark_77 : decode cX7_mark 77 = .ok (.iload_n 2, 1) := by decide +kernel
theorem dX7_mark_78 : decode cX7_mark 78 = .ok (.invokevirtual 257, 3) := by decide +kernel
theorem dX7_mark_81 : decode cX7_mark 81 = .ok (.ireturn, 1) := by decide +kernel
theorem dX7_mark_82 : decode cX7_mark 82 = .ok (.aload_n 0, 1) := by decide +kernel
theorem dX7_mark_83 : decode cX7_mark 83 = .ok (.iload_n 2, 1) := by decide +kernel
theorem dX7_mark_84 : decode cX7_mark 84 = .ok (.invokevirtual 260, 3) := by decide +kernel
theorem dX7_mark_87 : decode cX7_mark 87 = .ok (.ireturn, 1) := by decide +kernel
theorem dX7_mark_88 : decode cX7_mark 88 = .ok (.ldc 244, 2) := by decide +kernel
theorem dX7_mark_90 : decode cX7_mark 90 = .ok (.ireturn, 1) := by decide +kernel
theorem dX7_keep_0 : decode cX7_keep 0 = .ok (.iload_n 1, 1) := by decide +kernel
theorem dX7_keep_1 : decode cX7_keep 1 = .ok (.iconst 0, 1) := by decide +kernel
theorem dX7_keep_2 : decode cX7_keep 2 = .ok (.iconst 1, 1) := by decide +kernel
theorem dX7_keep_3 : decode cX7_keep 3 = .ok (.invokestatic 68, 3) := by decide +kernel
theorem dX7_keep_6 : decode cX7_keep 6 = .ok (.ifCond .ne 5, 3) := by decide +kernel
theorem dX7_keep_9 : decode cX7_keep 9 = .ok (.iconst (-1), 1) := by decide +kernel
theorem dX7_keep_10 : decode cX7_keep 10 = .ok (.ireturn, 1) := by decide +kernel
theorem dX7_keep_11 : decode cX7_keep 11 = .ok (.aload_n 0, 1) := by decide +kernel
theorem dX7_keep_12 : decode cX7_keep 12 = .ok (.getfield 32, 3) := by decide +kernel
theorem dX7_keep_15 : decode cX7_keep 15 = .ok (.iload_n 1, 1) := by decide +kernel
theorem dX7_keep_16 : decode cX7_keep 16 = .ok (.aaload, 1) := by decide +kernel
theorem dX7_keep_17 : decode cX7_keep 17 = .ok (.aload_n 0, 1) := by decide +kernel
theorem dX7_keep_18 : decode cX7_keep 18 = .ok (.getfield 28, 3) := by decide +kernel
theorem dX7_keep_21 : decode cX7_keep 21 = .ok (.invokevirtual 263, 3) := by decide +kernel
theorem dX7_keep_24 : decode cX7_keep 24 = .ok (.aload_n 0, 1) := by decide +kernel
theorem dX7_keep_25 : decode cX7_keep 25 = .ok (.getfield 36, 3) := by decide +kernel
theorem dX7_keep_28 : decode cX7_keep 28 = .ok (.iload_n 1, 1) := by decide +kernel
theorem dX7_keep_29 : decode cX7_keep 29 = .ok (.iconst 1, 1) := by decide +kernel
theorem dX7_keep_30 : decode cX7_keep 30 = .ok (.bastore, 1) := by decide +kernel
theorem dX7_keep_31 : decode cX7_keep 31 = .ok (.aload_n 0, 1) := by decide +kernel
theorem dX7_keep_32 : decode cX7_keep 32 = .ok (.getfield 28, 3) := by decide +kernel
theorem dX7_keep_35 : decode cX7_keep 35 = .ok (.getfield 104, 3) := by decide +kernel
theorem dX7_keep_38 : decode cX7_keep 38 = .ok (.getfield 141, 3) := by decide +kernel
theorem dX7_keep_41 : decode cX7_keep 41 = .ok (.ireturn, 1) := by decide +kernel
theorem dX7_back_0 : decode cX7_back 0 = .ok (.iload_n 1, 1) := by decide +kernel
theorem dX7_back_1 : decode cX7_back 1 = .ok (.iconst 0, 1) := by decide +kernel
theorem dX7_back_2 : decode cX7_back 2 = .ok (.iconst 1, 1) := by decide +kernel
theorem dX7_back_3 : decode cX7_back 3 = .ok (.invokestatic 68, 3) := by decide +kernel
theorem dX7_back_6 : decode cX7_back 6 = .ok (.ifCond .ne 5, 3) := by decide +kernel
theorem dX7_back_9 : decode cX7_back 9 = .ok (.iconst (-1), 1) := by decide +kernel
theorem dX7_back_10 : decode cX7_back 10 = .ok (.ireturn, 1) := by decide +kernel
theorem dX7_back_11 : decode cX7_back 11 = .ok (.aload_n 0, 1) := by decide +kernel
theorem dX7_back_12 : decode cX7_back 12 = .ok (.getfield 36, 3) := by decide +kernel
theorem dX7_back_15 : decode cX7_back 15 = .ok (.iload_n 1, 1) := by decide +kernel
theorem dX7_back_16 : decode cX7_back 16 = .ok (.baload, 1) := by decide +kernel
theorem dX7_back_17 : decode cX7_back 17 = .ok (.ifCond .ne 6, 3) := by decide +kernel
theorem dX7_back_20 : decode cX7_back 20 = .ok (.bipush (-2), 2) := by decide +kernel
theorem dX7_back_22 : decode cX7_back 22 = .ok (.ireturn, 1) := by decide +kernel
theorem dX7_back_23 : decode cX7_back 23 = .ok (.aload_n 0, 1) := by decide +kernel
theorem dX7_back_24 : decode cX7_back 24 = .ok (.getfield 28, 3) := by decide +kernel
theorem dX7_back_27 : decode cX7_back 27 = .ok (.aload_n 0, 1) := by decide +kernel
theorem dX7_back_28 : decode cX7_back 28 = .ok (.getfield 32, 3) := by decide +kernel
theorem dX7_back_31 : decode cX7_back 31 = .ok (.iload_n 1, 1) := by decide +kernel
theorem dX7_back_32 : decode cX7_back 32 = .ok (.aaload, 1) := by decide +kernel
theorem dX7_back_33 : decode cX7_back 33 = .ok (.invokevirtual 263, 3) := by decide +kernel
theorem dX7_back_36 : decode cX7_back 36 = .ok (.aload_n 0, 1) := by decide +kernel
theorem dX7_back_37 : decode cX7_back 37 = .ok (.getfield 28, 3) := by decide +kernel
theorem dX7_back_40 : decode cX7_back 40 = .ok (.getfield 104, 3) := by decide +kernel
theorem dX7_back_43 : decode cX7_back 43 = .ok (.getfield 141, 3) := by decide +kernel
theorem dX7_back_46 : decode cX7_back 46 = .ok (.ireturn, 1) := by decide +kernel
theorem dX7_count_0 : decode cX7_count 0 = .ok (.iload_n 1, 1) := by decide +kernel
theorem dX7_count_1 : decode cX7_count 1 = .ok (.tableswitch 87 0 5 #[39, 47, 55, 63, 71, 79], 39) := by decide +kernel
theorem dX7_count_40 : decode cX7_count 40 = .ok (.aload_n 0, 1) := by decide +kernel
theorem dX7_count_41 : decode cX7_count 41 = .ok (.getfield 57, 3) := by decide +kernel
theorem dX7_count_44 : decode cX7_count 44 = .ok (.getfield 194, 3) := by decide +kernel
theorem dX7_count_47 : decode cX7_count 47 = .ok (.ireturn, 1) := by decide +kernel
theorem dX7_count_48 : decode cX7_count 48 = .ok (.aload_n 0, 1) := by decide +kernel
theorem dX7_count_49 : decode cX7_count 49 = .ok (.getfield 57, 3) := by decide +kernel
theorem dX7_count_52 : decode cX7_count 52 = .ok (.getfield 266, 3) := by decide +kernel
theorem dX7_count_55 : decode cX7_count 55 = .ok (.ireturn, 1) := by decide +kernel
theorem dX7_count_56 : decode cX7_count 56 = .ok (.aload_n 0, 1) := by decide +kernel
theorem dX7_count_57 : decode cX7_count 57 = .ok (.getfield 43, 3) := by decide +kernel
theorem dX7_count_60 : decode cX7_count 60 = .ok (.getfield 217, 3) := by decide +kernel
theorem dX7_count_63 : decode cX7_count 63 = .ok (.ireturn, 1) := by decide +kernel
theorem dX7_count_64 : decode cX7_count 64 = .ok (.aload_n 0, 1) := by decide +kernel
theorem dX7_count_65 : decode cX7_count 65 = .ok (.getfield 43, 3) := by decide +kernel
theorem dX7_count_68 : decode cX7_count 68 = .ok (.getfield 229, 3) := by decide +kernel
theorem dX7_count_71 : decode cX7_count 71 = .ok (.ireturn, 1) := by decide +kernel
theorem dX7_count_72 : decode cX7_count 72 = .ok (.aload_n 0, 1) := by decide +kernel
theorem dX7_count_73 : decode cX7_count 73 = .ok (.getfield 28, 3) := by decide +kernel
theorem dX7_count_76 : decode cX7_count 76 = .ok (.getfield 162, 3) := by decide +kernel
theorem dX7_count_79 : decode cX7_count 79 = .ok (.ireturn, 1) := by decide +kernel
theorem dX7_count_80 : decode cX7_count 80 = .ok (.aload_n 0, 1) := by decide +kernel
theorem dX7_count_81 : decode cX7_count 81 = .ok (.getfield 10, 3) := by decide +kernel
theorem dX7_count_84 : decode cX7_count 84 = .ok (.getfield 72, 3) := by decide +kernel
theorem dX7_count_87 : decode cX7_count 87 = .ok (.ireturn, 1) := by decide +kernel
theorem dX7_count_88 : decode cX7_count 88 = .ok (.iconst (-1), 1) := by decide +kernel
theorem dX7_count_89 : decode cX7_count 89 = .ok (.ireturn, 1) := by decide +kernel
theorem dX7_trace_0 : decode cX7_trace 0 = .ok (.aload_n 0, 1) := by decide +kernel
theorem dX7_trace_1 : decode cX7_trace 1 = .ok (.getfield 269, 3) := by decide +kernel
theorem dX7_trace_4 : decode cX7_trace 4 = .ok (.lreturn, 1) := by decide +kernel
theorem dX7_within_0 : decode cX7_within 0 = .ok (.iload_n 1, 1) := by decide +kernel
theorem dX7_within_1 : decode cX7_within 1 = .ok (.iload_n 0, 1) := by decide +kernel
theorem dX7_within_2 : decode cX7_within 2 = .ok (.if_icmp .gt 12, 3) := by decide +kernel
theorem dX7_within_5 : decode cX7_within 5 = .ok (.iload_n 0, 1) := by decide +kernel
theorem dX7_within_6 : decode cX7_within 6 = .ok (.iload_n 2, 1) := by decide +kernel
theorem dX7_within_7 : decode cX7_within 7 = .ok (.if_icmp .gt 7, 3) := by decide +kernel
theorem dX7_within_10 : decode cX7_within 10 = .ok (.iconst 1, 1) := by decide +kernel
theorem dX7_within_11 : decode cX7_within 11 = .ok (.goto 4, 3) := by decide +kernel
theorem dX7_within_14 : decode cX7_within 14 = .ok (.iconst 0, 1) := by decide +kernel
theorem dX7_within_15 : decode cX7_within 15 = .ok (.ireturn, 1) := by decide +kernel
theorem dX7_isThought_0 : decode cX7_isThought 0 = .ok (.iload_n 0, 1) := by decide +kernel
theorem dX7_isThought_1 : decode cX7_isThought 1 = .ok (.iconst 0, 1) := by decide +kernel
theorem dX7_isThought_2 : decode cX7_isThought 2 = .ok (.bipush 9, 2) := by decide +kernel
theorem dX7_isThought_4 : decode cX7_isThought 4 = .ok (.invokestatic 68, 3) := by decide +kernel
theorem dX7_isThought_7 : decode cX7_isThought 7 = .ok (.ireturn, 1) := by decide +kernel
theorem dX7_isJar_0 : decode cX7_isJar 0 = .ok (.iload_n 0, 1) := by decide +kernel
theorem dX7_isJar_1 : decode cX7_isJar 1 = .ok (.iconst 0, 1) := by decide +kernel
theorem dX7_isJar_2 : decode cX7_isJar 2 = .ok (.iconst 3, 1) := by decide +kernel
theorem dX7_isJar_3 : decode cX7_isJar 3 = .ok (.invokestatic 68, 3) := by decide +kernel
theorem dX7_isJar_6 : decode cX7_isJar 6 = .ok (.ireturn, 1) := by decide +kernel
theorem dX7_isOne_0 : decode cX7_isOne 0 = .ok (.iload_n 1, 1) := by decide +kernel
theorem dX7_isOne_1 : decode cX7_isOne 1 = .ok (.iconst 0, 1) := by decide +kernel
theorem dX7_isOne_2 : decode cX7_isOne 2 = .ok (.aload_n 0, 1) := by decide +kernel
theorem dX7_isOne_3 : decode cX7_isOne 3 = .ok (.getfield 57, 3) := by decide +kernel
theorem dX7_isOne_6 : decode cX7_isOne 6 = .ok (.getfield 194, 3) := by decide +kernel
theorem dX7_isOne_9 : decode cX7_isOne 9 = .ok (.iconst 1, 1) := by decide +kernel
theorem dX7_isOne_10 : decode cX7_isOne 10 = .ok (.isub, 1) := by decide +kernel
theorem dX7_isOne_11 : decode cX7_isOne 11 = .ok (.invokestatic 68, 3) := by decide +kernel
theorem dX7_isOne_14 : decode cX7_isOne 14 = .ok (.ireturn, 1) := by decide +kernel
theorem dX7_has_0 : decode cX7_has 0 = .ok (.iload_n 0, 1) := by decide +kernel
theorem dX7_has_1 : decode cX7_has 1 = .ok (.iload_n 1, 1) := by decide +kernel
theorem dX7_has_2 : decode cX7_has 2 = .ok (.ishr, 1) := by decide +kernel
theorem dX7_has_3 : decode cX7_has 3 = .ok (.iconst 1, 1) := by decide +kernel
theorem dX7_has_4 : decode cX7_has 4 = .ok (.iand, 1) := by decide +kernel
theorem dX7_has_5 : decode cX7_has 5 = .ok (.ifCond .eq 7, 3) := by decide +kernel
theorem dX7_has_8 : decode cX7_has 8 = .ok (.iconst 1, 1) := by decide +kernel
theorem dX7_has_9 : decode cX7_has 9 = .ok (.goto 4, 3) := by decide +kernel
theorem dX7_has_12 : decode cX7_has 12 = .ok (.iconst 0, 1) := by decide +kernel
theorem dX7_has_13 : decode cX7_has 13 = .ok (.ireturn, 1) := by decide +kernel
theorem dX7_mostOf_0 : decode cX7_mostOf 0 = .ok (.bipush (-9), 2) := by decide +kernel
theorem dX7_mostOf_2 : decode cX7_mostOf 2 = .ok (.istore_n 1, 1) := by decide +kernel
theorem dX7_mostOf_3 : decode cX7_mostOf 3 = .ok (.iconst 0, 1) := by decide +kernel
theorem dX7_mostOf_4 : decode cX7_mostOf 4 = .ok (.istore_n 2, 1) := by decide +kernel
theorem dX7_mostOf_5 : decode cX7_mostOf 5 = .ok (.iconst 0, 1) := by decide +kernel
theorem dX7_mostOf_6 : decode cX7_mostOf 6 = .ok (.istore_n 3, 1) := by decide +kernel
theorem dX7_mostOf_7 : decode cX7_mostOf 7 = .ok (.iload_n 3, 1) := by decide +kernel
theorem dX7_mostOf_8 : decode cX7_mostOf 8 = .ok (.aload_n 0, 1) := by decide +kernel
theorem dX7_mostOf_9 : decode cX7_mostOf 9 = .ok (.arraylength, 1) := by decide +kernel
theorem dX7_mostOf_10 : decode cX7_mostOf 10 = .ok (.if_icmp .ge 22, 3) := by decide +kernel
theorem dX7_mostOf_13 : decode cX7_mostOf 13 = .ok (.aload_n 0, 1) := by decide +kernel
theorem dX7_mostOf_14 : decode cX7_mostOf 14 = .ok (.iload_n 3, 1) := by decide +kernel
theorem dX7_mostOf_15 : decode cX7_mostOf 15 = .ok (.iaload, 1) := by decide +kernel
theorem dX7_mostOf_16 : decode cX7_mostOf 16 = .ok (.iload_n 2, 1) := by decide +kernel
theorem dX7_mostOf_17 : decode cX7_mostOf 17 = .ok (.if_icmp .le 9, 3) := by decide +kernel
theorem dX7_mostOf_20 : decode cX7_mostOf 20 = .ok (.aload_n 0, 1) := by decide +kernel
theorem dX7_mostOf_21 : decode cX7_mostOf 21 = .ok (.iload_n 3, 1) := by decide +kernel
theorem dX7_mostOf_22 : decode cX7_mostOf 22 = .ok (.iaload, 1) := by decide +kernel
theorem dX7_mostOf_23 : decode cX7_mostOf 23 = .ok (.istore_n 2, 1) := by decide +kernel
theorem dX7_mostOf_24 : decode cX7_mostOf 24 = .ok (.iload_n 3, 1) := by decide +kernel
theorem dX7_mostOf_25 : decode cX7_mostOf 25 = .ok (.istore_n 1, 1) := by decide +kernel
theorem dX7_mostOf_26 : decode cX7_mostOf 26 = .ok (.iinc 3 1, 3) := by decide +kernel
theorem dX7_mostOf_29 : decode cX7_mostOf 29 = .ok (.goto (-22), 3) := by decide +kernel
theorem dX7_mostOf_32 : decode cX7_mostOf 32 = .ok (.iload_n 1, 1) := by decide +kernel
theorem dX7_mostOf_33 : decode cX7_mostOf 33 = .ok (.ireturn, 1) := by decide +kernel
theorem dX7_mostIn_0 : decode cX7_mostIn 0 = .ok (.iconst 0, 1) := by decide +kernel
theorem dX7_mostIn_1 : decode cX7_mostIn 1 = .ok (.istore_n 2, 1) := by decide +kernel
theorem dX7_mostIn_2 : decode cX7_mostIn 2 = .ok (.iload_n 2, 1) := by decide +kernel
theorem dX7_mostIn_3 : decode cX7_mostIn 3 = .ok (.bipush 10, 2) := by decide +kernel
theorem dX7_mostIn_5 : decode cX7_mostIn 5 = .ok (.if_icmp .ge 27, 3) := by decide +kernel
theorem dX7_mostIn_8 : decode cX7_mostIn 8 = .ok (.aload_n 0, 1) := by decide +kernel
theorem dX7_mostIn_9 : decode cX7_mostIn 9 = .ok (.getfield 61, 3) := by decide +kernel
theorem dX7_mostIn_12 : decode cX7_mostIn 12 = .ok (.iload_n 2, 1) := by decide +kernel
theorem dX7_mostIn_13 : decode cX7_mostIn 13 = .ok (.aload_n 0, 1) := by decide +kernel
theorem dX7_mostIn_14 : decode cX7_mostIn 14 = .ok (.getfield 28, 3) := by decide +kernel
theorem dX7_mostIn_17 : decode cX7_mostIn 17 = .ok (.getfield 104, 3) := by decide +kernel
theorem dX7_mostIn_20 : decode cX7_mostIn 20 = .ok (.iload_n 1, 1) := by decide +kernel
theorem dX7_mostIn_21 : decode cX7_mostIn 21 = .ok (.iload_n 2, 1) := by decide +kernel
theorem dX7_mostIn_22 : decode cX7_mostIn 22 = .ok (.invokevirtual 138, 3) := by decide +kernel
theorem dX7_mostIn_25 : decode cX7_mostIn 25 = .ok (.iastore, 1) := by decide +kernel
theorem dX7_mostIn_26 : decode cX7_mostIn 26 = .ok (.iinc 2 1, 3) := by decide +kernel
theorem dX7_mostIn_29 : decode cX7_mostIn 29 = .ok (.goto (-27), 3) := by decide +kernel
theorem dX7_mostIn_32 : decode cX7_mostIn 32 = .ok (.aload_n 0, 1) := by decide +kernel
theorem dX7_mostIn_33 : decode cX7_mostIn 33 = .ok (.getfield 61, 3) := by decide +kernel
theorem dX7_mostIn_36 : decode cX7_mostIn 36 = .ok (.invokestatic 273, 3) := by decide +kernel
theorem dX7_mostIn_39 : decode cX7_mostIn 39 = .ok (.ireturn, 1) := by decide +kernel
theorem dX7_layersOfAll_0 : decode cX7_layersOfAll 0 = .ok (.iconst 0, 1) := by decide +kernel
theorem dX7_layersOfAll_1 : decode cX7_layersOfAll 1 = .ok (.istore_n 1, 1) := by decide +kernel
theorem dX7_layersOfAll_2 : decode cX7_layersOfAll 2 = .ok (.iconst 0, 1) := by decide +kernel
theorem dX7_layersOfAll_3 : decode cX7_layersOfAll 3 = .ok (.istore_n 2, 1) := by decide +kernel
theorem dX7_layersOfAll_4 : decode cX7_layersOfAll 4 = .ok (.iload_n 2, 1) := by decide +kernel
theorem dX7_layersOfAll_5 : decode cX7_layersOfAll 5 = .ok (.aload_n 0, 1) := by decide +kernel
theorem dX7_layersOfAll_6 : decode cX7_layersOfAll 6 = .ok (.getfield 57, 3) := by decide +kernel
theorem dX7_layersOfAll_9 : decode cX7_layersOfAll 9 = .ok (.getfield 194, 3) := by decide +kernel
theorem dX7_layersOfAll_12 : decode cX7_layersOfAll 12 = .ok (.if_icmp .ge 24, 3) := by decide +kernel
theorem dX7_layersOfAll_15 : decode cX7_layersOfAll 15 = .ok (.iload_n 1, 1) := by decide +kernel
theorem dX7_layersOfAll_16 : decode cX7_layersOfAll 16 = .ok (.aload_n 0, 1) := by decide +kernel
theorem dX7_layersOfAll_17 : decode cX7_layersOfAll 17 = .ok (.getfield 28, 3) := by decide +kernel
theorem dX7_layersOfAll_20 : decode cX7_layersOfAll 20 = .ok (.getfield 104, 3) := by decide +kernel
theorem dX7_layersOfAll_23 : decode cX7_layersOfAll 23 = .ok (.getfield 114, 3) := by decide +kernel
theorem dX7_layersOfAll_26 : decode cX7_layersOfAll 26 = .ok (.iload_n 2, 1) := by decide +kernel
theorem dX7_layersOfAll_27 : decode cX7_layersOfAll 27 = .ok (.iaload, 1) := by decide +kernel
theorem dX7_layersOfAll_28 : decode cX7_layersOfAll 28 = .ok (.iadd, 1) := by decide +kernel
theorem dX7_layersOfAll_29 : decode cX7_layersOfAll 29 = .ok (.istore_n 1, 1) := by decide +kernel
theorem dX7_layersOfAll_30 : decode cX7_layersOfAll 30 = .ok (.iinc 2 1, 3) := by decide +kernel
theorem dX7_layersOfAll_33 : decode cX7_layersOfAll 33 = .ok (.goto (-29), 3) := by decide +kernel
theorem dX7_layersOfAll_36 : decode cX7_layersOfAll 36 = .ok (.iload_n 1, 1) := by decide +kernel
theorem dX7_layersOfAll_37 : decode cX7_layersOfAll 37 = .ok (.ireturn, 1) := by decide +kernel
theorem dX7_sweptIntoAll_0 : decode cX7_sweptIntoAll 0 = .ok (.iconst 0, 1) := by decide +kernel
theorem dX7_sweptIntoAll_1 : decode cX7_sweptIntoAll 1 = .ok (.istore_n 1, 1) := by decide +kernel
theorem dX7_sweptIntoAll_2 : decode cX7_sweptIntoAll 2 = .ok (.iconst 0, 1) := by decide +kernel
theorem dX7_sweptIntoAll_3 : decode cX7_sweptIntoAll 3 = .ok (.istore_n 2, 1) := by decide +kernel
theorem dX7_sweptIntoAll_4 : decode cX7_sweptIntoAll 4 = .ok (.iload_n 2, 1) := by decide +kernel
theorem dX7_sweptIntoAll_5 : decode cX7_sweptIntoAll 5 = .ok (.iconst 4, 1) := by decide +kernel
theorem dX7_sweptIntoAll_6 : decode cX7_sweptIntoAll 6 = .ok (.if_icmp .ge 23, 3) := by decide +kernel
theorem dX7_sweptIntoAll_9 : decode cX7_sweptIntoAll 9 = .ok (.iload_n 1, 1) := by decide +kernel
theorem dX7_sweptIntoAll_10 : decode cX7_sweptIntoAll 10 = .ok (.aload_n 0, 1) := by decide +kernel
theorem dX7_sweptIntoAll_11 : decode cX7_sweptIntoAll 11 = .ok (.getfield 28, 3) := by decide +kernel
theorem dX7_sweptIntoAll_14 : decode cX7_sweptIntoAll 14 = .ok (.getfield 104, 3) := by decide +kernel
theorem dX7_sweptIntoAll_17 : decode cX7_sweptIntoAll 17 = .ok (.iload_n 2, 1) := by decide +kernel
theorem dX7_sweptIntoAll_18 : decode cX7_sweptIntoAll 18 = .ok (.invokevirtual 155, 3) := by decide +kernel
theorem dX7_sweptIntoAll_21 : decode cX7_sweptIntoAll 21 = .ok (.iadd, 1) := by decide +kernel
theorem dX7_sweptIntoAll_22 : decode cX7_sweptIntoAll 22 = .ok (.istore_n 1, 1) := by decide +kernel
theorem dX7_sweptIntoAll_23 : decode cX7_sweptIntoAll 23 = .ok (.iinc 2 1, 3) := by decide +kernel
theorem dX7_sweptIntoAll_26 : decode cX7_sweptIntoAll 26 = .ok (.goto (-22), 3) := by decide +kernel
theorem dX7_sweptIntoAll_29 : decode cX7_sweptIntoAll 29 = .ok (.iload_n 1, 1) := by decide +kernel
theorem dX7_sweptIntoAll_30 : decode cX7_sweptIntoAll 30 = .ok (.ireturn, 1) := by decide +kernel
theorem dX7_blushes_0 : decode cX7_blushes 0 = .ok (.iconst 0, 1) := by decide +kernel
theorem dX7_blushes_1 : decode cX7_blushes 1 = .ok (.istore_n 2, 1) := by decide +kernel
theorem dX7_blushes_2 : decode cX7_blushes 2 = .ok (.iconst 0, 1) := by decide +kernel
theorem dX7_blushes_3 : decode cX7_blushes 3 = .ok (.istore_n 3, 1) := by decide +kernel
theorem dX7_blushes_4 : decode cX7_blushes 4 = .ok (.iload_n 3, 1) := by decide +kernel
theorem dX7_blushes_5 : decode cX7_blushes 5 = .ok (.aload_n 0, 1) := by decide +kernel
theorem dX7_blushes_6 : decode cX7_blushes 6 = .ok (.getfield 57, 3) := by decide +kernel
theorem dX7_blushes_9 : decode cX7_blushes 9 = .ok (.getfield 194, 3) := by decide +kernel
theorem dX7_blushes_12 : decode cX7_blushes 12 = .ok (.if_icmp .ge 38, 3) := by decide +kernel
theorem dX7_blushes_15 : decode cX7_blushes 15 = .ok (.aload_n 0, 1) := by decide +kernel
theorem dX7_blushes_16 : decode cX7_blushes 16 = .ok (.getfield 28, 3) := by decide +kernel
theorem dX7_blushes_19 : decode cX7_blushes 19 = .ok (.getfield 104, 3) := by decide +kernel
theorem dX7_blushes_22 : decode cX7_blushes 22 = .ok (.iload_n 1, 1) := by decide +kernel
theorem dX7_blushes_23 : decode cX7_blushes 23 = .ok (.aload_n 0, 1) := by decide +kernel
theorem dX7_blushes_24 : decode cX7_blushes 24 = .ok (.getfield 57, 3) := by decide +kernel
theorem dX7_blushes_27 : decode cX7_blushes 27 = .ok (.getfield 108, 3) := by decide +kernel
theorem dX7_blushes_30 : decode cX7_blushes 30 = .ok (.iload_n 3, 1) := by decide +kernel
theorem dX7_blushes_31 : decode cX7_blushes 31 = .ok (.iaload, 1) := by decide +kernel
theorem dX7_blushes_32 : decode cX7_blushes 32 = .ok (.invokevirtual 138, 3) := by decide +kernel
theorem dX7_blushes_35 : decode cX7_blushes 35 = .ok (.ifCond .le 9, 3) := by decide +kernel
theorem dX7_blushes_38 : decode cX7_blushes 38 = .ok (.iload_n 2, 1) := by decide +kernel
theorem dX7_blushes_39 : decode cX7_blushes 39 = .ok (.iconst 1, 1) := by decide +kernel
theorem dX7_blushes_40 : decode cX7_blushes 40 = .ok (.iload_n 3, 1) := by decide +kernel
theorem dX7_blushes_41 : decode cX7_blushes 41 = .ok (.ishl, 1) := by decide +kernel
theorem dX7_blushes_42 : decode cX7_blushes 42 = .ok (.ior, 1) := by decide +kernel
theorem dX7_blushes_43 : decode cX7_blushes 43 = .ok (.istore_n 2, 1) := by decide +kernel
theorem dX7_blushes_44 : decode cX7_blushes 44 = .ok (.iinc 3 1, 3) := by decide +kernel
theorem dX7_blushes_47 : decode cX7_blushes 47 = .ok (.goto (-43), 3) := by decide +kernel
theorem dX7_blushes_50 : decode cX7_blushes 50 = .ok (.iload_n 2, 1) := by decide +kernel
theorem dX7_blushes_51 : decode cX7_blushes 51 = .ok (.ireturn, 1) := by decide +kernel
theorem dX7_thoughtsOf_0 : decode cX7_thoughtsOf 0 = .ok (.iconst 0, 1) := by decide +kernel
theorem dX7_thoughtsOf_1 : decode cX7_thoughtsOf 1 = .ok (.istore_n 2, 1) := by decide +kernel
theorem dX7_thoughtsOf_2 : decode cX7_thoughtsOf 2 = .ok (.iconst 0, 1) := by decide +kernel
theorem dX7_thoughtsOf_3 : decode cX7_thoughtsOf 3 = .ok (.istore_n 3, 1) := by decide +kernel
theorem dX7_thoughtsOf_4 : decode cX7_thoughtsOf 4 = .ok (.iload_n 3, 1) := by decide +kernel
theorem dX7_thoughtsOf_5 : decode cX7_thoughtsOf 5 = .ok (.aload_n 0, 1) := by decide +kernel
theorem dX7_thoughtsOf_6 : decode cX7_thoughtsOf 6 = .ok (.getfield 57, 3) := by decide +kernel
theorem dX7_thoughtsOf_9 : decode cX7_thoughtsOf 9 = .ok (.getfield 194, 3) := by decide +kernel
theorem dX7_thoughtsOf_12 : decode cX7_thoughtsOf 12 = .ok (.if_icmp .ge 26, 3) := by decide +kernel
theorem dX7_thoughtsOf_15 : decode cX7_thoughtsOf 15 = .ok (.iload_n 1, 1) := by decide +kernel
theorem dX7_thoughtsOf_16 : decode cX7_thoughtsOf 16 = .ok (.iload_n 3, 1) := by decide +kernel
theorem dX7_thoughtsOf_17 : decode cX7_thoughtsOf 17 = .ok (.invokestatic 277, 3) := by decide +kernel
theorem dX7_thoughtsOf_20 : decode cX7_thoughtsOf 20 = .ok (.ifCond .eq 12, 3) := by decide +kernel
theorem dX7_thoughtsOf_23 : decode cX7_thoughtsOf 23 = .ok (.iload_n 2, 1) := by decide +kernel
theorem dX7_thoughtsOf_24 : decode cX7_thoughtsOf 24 = .ok (.aload_n 0, 1) := by decide +kernel
theorem dX7_thoughtsOf_25 : decode cX7_thoughtsOf 25 = .ok (.getfield 65, 3) := by decide +kernel
theorem dX7_thoughtsOf_28 : decode cX7_thoughtsOf 28 = .ok (.iload_n 3, 1) := by decide +kernel
theorem dX7_thoughtsOf_29 : decode cX7_thoughtsOf 29 = .ok (.iaload, 1) := by decide +kernel
theorem dX7_thoughtsOf_30 : decode cX7_thoughtsOf 30 = .ok (.ior, 1) := by decide +kernel
theorem dX7_thoughtsOf_31 : decode cX7_thoughtsOf 31 = .ok (.istore_n 2, 1) := by decide +kernel
theorem dX7_thoughtsOf_32 : decode cX7_thoughtsOf 32 = .ok (.iinc 3 1, 3) := by decide +kernel
theorem dX7_thoughtsOf_35 : decode cX7_thoughtsOf 35 = .ok (.goto (-31), 3) := by decide +kernel
theorem dX7_thoughtsOf_38 : decode cX7_thoughtsOf 38 = .ok (.iload_n 2, 1) := by decide +kernel
theorem dX7_thoughtsOf_39 : decode cX7_thoughtsOf 39 = .ok (.ireturn, 1) := by decide +kernel
theorem dX7_power_0 : decode cX7_power 0 = .ok (.iconst 1, 1) := by decide +kernel
theorem dX7_power_1 : decode cX7_power 1 = .ok (.istore_n 2, 1) := by decide +kernel
theorem dX7_power_2 : decode cX7_power 2 = .ok (.iconst 0, 1) := by decide +kernel
theorem dX7_power_3 : decode cX7_power 3 = .ok (.istore_n 3, 1) := by decide +kernel
theorem dX7_power_4 : decode cX7_power 4 = .ok (.iload_n 3, 1) := by decide +kernel
theorem dX7_power_5 : decode cX7_power 5 = .ok (.iload_n 1, 1) := by decide +kernel
theorem dX7_power_6 : decode cX7_power 6 = .ok (.if_icmp .ge 13, 3) := by decide +kernel
theorem dX7_power_9 : decode cX7_power 9 = .ok (.iload_n 2, 1) := by decide +kernel
theorem dX7_power_10 : decode cX7_power 10 = .ok (.iload_n 0, 1) := by decide +kernel
theorem dX7_power_11 : decode cX7_power 11 = .ok (.imul, 1) := by decide +kernel
theorem dX7_power_12 : decode cX7_power 12 = .ok (.istore_n 2, 1) := by decide +kernel
theorem dX7_power_13 : decode cX7_power 13 = .ok (.iinc 3 1, 3) := by decide +kernel
theorem dX7_power_16 : decode cX7_power 16 = .ok (.goto (-12), 3) := by decide +kernel
theorem dX7_power_19 : decode cX7_power 19 = .ok (.iload_n 2, 1) := by decide +kernel
theorem dX7_power_20 : decode cX7_power 20 = .ok (.ireturn, 1) := by decide +kernel
theorem dX7_choose_0 : decode cX7_choose 0 = .ok (.iconst 1, 1) := by decide +kernel
theorem dX7_choose_1 : decode cX7_choose 1 = .ok (.istore_n 2, 1) := by decide +kernel
theorem dX7_choose_2 : decode cX7_choose 2 = .ok (.iconst 1, 1) := by decide +kernel
theorem dX7_choose_3 : decode cX7_choose 3 = .ok (.istore_n 3, 1) := by decide +kernel
theorem dX7_choose_4 : decode cX7_choose 4 = .ok (.iload_n 3, 1) := by decide +kernel
theorem dX7_choose_5 : decode cX7_choose 5 = .ok (.iload_n 1, 1) := by decide +kernel
theorem dX7_choose_6 : decode cX7_choose 6 = .ok (.if_icmp .gt 19, 3) := by decide +kernel
theorem dX7_choose_9 : decode cX7_choose 9 = .ok (.iload_n 2, 1) := by decide +kernel
theorem dX7_choose_10 : decode cX7_choose 10 = .ok (.iload_n 0, 1) := by decide +kernel
theorem dX7_choose_11 : decode cX7_choose 11 = .ok (.iload_n 1, 1) := by decide +kernel
theorem dX7_choose_12 : decode cX7_choose 12 = .ok (.isub, 1) := by decide +kernel
theorem dX7_choose_13 : decode cX7_choose 13 = .ok (.iload_n 3, 1) := by decide +kernel
theorem dX7_choose_14 : decode cX7_choose 14 = .ok (.iadd, 1) := by decide +kernel
theorem dX7_choose_15 : decode cX7_choose 15 = .ok (.imul, 1) := by decide +kernel
theorem dX7_choose_16 : decode cX7_choose 16 = .ok (.iload_n 3, 1) := by decide +kernel
theorem dX7_choose_17 : decode cX7_choose 17 = .ok (.idiv, 1) := by decide +kernel
theorem dX7_choose_18 : decode cX7_choose 18 = .ok (.istore_n 2, 1) := by decide +kernel
theorem dX7_choose_19 : decode cX7_choose 19 = .ok (.iinc 3 1, 3) := by decide +kernel
theorem dX7_choose_22 : decode cX7_choose 22 = .ok (.goto (-18), 3) := by decide +kernel
end
section
theorem dX7_choose_25 : decode cX7_choose 25 = .ok (.iload_n 2, 1) := by decide +kernel
theorem dX7_choose_26 : decode cX7_choose 26 = .ok (.ireturn, 1) := by decide +kernel
theorem dX7_commonDivisor_0 : decode cX7_commonDivisor 0 = .ok (.iload_n 0, 1) := by decide +kernel
theorem dX7_commonDivisor_1 : decode cX7_commonDivisor 1 = .ok (.istore_n 2, 1) := by decide +kernel
theorem dX7_commonDivisor_2 : decode cX7_commonDivisor 2 = .ok (.iload_n 1, 1) := by decide +kernel
theorem dX7_commonDivisor_3 : decode cX7_commonDivisor 3 = .ok (.istore_n 3, 1) := by decide +kernel
theorem dX7_commonDivisor_4 : decode cX7_commonDivisor 4 = .ok (.iconst 0, 1) := by decide +kernel
theorem dX7_commonDivisor_5 : decode cX7_commonDivisor 5 = .ok (.istore 4, 2) := by decide +kernel
theorem dX7_commonDivisor_7 : decode cX7_commonDivisor 7 = .ok (.iload 4, 2) := by decide +kernel
theorem dX7_commonDivisor_9 : decode cX7_commonDivisor 9 = .ok (.bipush 64, 2) := by decide +kernel
theorem dX7_commonDivisor_11 : decode cX7_commonDivisor 11 = .ok (.if_icmp .ge 23, 3) := by decide +kernel
theorem dX7_commonDivisor_14 : decode cX7_commonDivisor 14 = .ok (.iload_n 3, 1) := by decide +kernel
theorem dX7_commonDivisor_15 : decode cX7_commonDivisor 15 = .ok (.ifCond .eq 19, 3) := by decide +kernel
theorem dX7_commonDivisor_18 : decode cX7_commonDivisor 18 = .ok (.iload_n 2, 1) := by decide +kernel
theorem dX7_commonDivisor_19 : decode cX7_commonDivisor 19 = .ok (.iload_n 3, 1) := by decide +kernel
theorem dX7_commonDivisor_20 : decode cX7_commonDivisor 20 = .ok (.irem, 1) := by decide +kernel
theorem dX7_commonDivisor_21 : decode cX7_commonDivisor 21 = .ok (.istore 5, 2) := by decide +kernel
theorem dX7_commonDivisor_23 : decode cX7_commonDivisor 23 = .ok (.iload_n 3, 1) := by decide +kernel
theorem dX7_commonDivisor_24 : decode cX7_commonDivisor 24 = .ok (.istore_n 2, 1) := by decide +kernel
theorem dX7_commonDivisor_25 : decode cX7_commonDivisor 25 = .ok (.iload 5, 2) := by decide +kernel
theorem dX7_commonDivisor_27 : decode cX7_commonDivisor 27 = .ok (.istore_n 3, 1) := by decide +kernel
theorem dX7_commonDivisor_28 : decode cX7_commonDivisor 28 = .ok (.iinc 4 1, 3) := by decide +kernel
theorem dX7_commonDivisor_31 : decode cX7_commonDivisor 31 = .ok (.goto (-24), 3) := by decide +kernel
theorem dX7_commonDivisor_34 : decode cX7_commonDivisor 34 = .ok (.iload_n 2, 1) := by decide +kernel
theorem dX7_commonDivisor_35 : decode cX7_commonDivisor 35 = .ok (.ireturn, 1) := by decide +kernel
theorem dX7_whoseLock_0 : decode cX7_whoseLock 0 = .ok (.iconst 0, 1) := by decide +kernel
theorem dX7_whoseLock_1 : decode cX7_whoseLock 1 = .ok (.istore_n 1, 1) := by decide +kernel
theorem dX7_whoseLock_2 : decode cX7_whoseLock 2 = .ok (.iconst 0, 1) := by decide +kernel
theorem dX7_whoseLock_3 : decode cX7_whoseLock 3 = .ok (.istore_n 2, 1) := by decide +kernel
theorem dX7_whoseLock_4 : decode cX7_whoseLock 4 = .ok (.iload_n 2, 1) := by decide +kernel
theorem dX7_whoseLock_5 : decode cX7_whoseLock 5 = .ok (.aload_n 0, 1) := by decide +kernel
theorem dX7_whoseLock_6 : decode cX7_whoseLock 6 = .ok (.getfield 57, 3) := by decide +kernel
theorem dX7_whoseLock_9 : decode cX7_whoseLock 9 = .ok (.getfield 194, 3) := by decide +kernel
theorem dX7_whoseLock_12 : decode cX7_whoseLock 12 = .ok (.if_icmp .ge 58, 3) := by decide +kernel
theorem dX7_whoseLock_15 : decode cX7_whoseLock 15 = .ok (.iconst 0, 1) := by decide +kernel
theorem dX7_whoseLock_16 : decode cX7_whoseLock 16 = .ok (.istore_n 3, 1) := by decide +kernel
theorem dX7_whoseLock_17 : decode cX7_whoseLock 17 = .ok (.iload_n 3, 1) := by decide +kernel
theorem dX7_whoseLock_18 : decode cX7_whoseLock 18 = .ok (.aload_n 0, 1) := by decide +kernel
theorem dX7_whoseLock_19 : decode cX7_whoseLock 19 = .ok (.getfield 28, 3) := by decide +kernel
theorem dX7_whoseLock_22 : decode cX7_whoseLock 22 = .ok (.getfield 104, 3) := by decide +kernel
theorem dX7_whoseLock_25 : decode cX7_whoseLock 25 = .ok (.getfield 114, 3) := by decide +kernel
theorem dX7_whoseLock_28 : decode cX7_whoseLock 28 = .ok (.iload_n 2, 1) := by decide +kernel
theorem dX7_whoseLock_29 : decode cX7_whoseLock 29 = .ok (.iaload, 1) := by decide +kernel
theorem dX7_whoseLock_30 : decode cX7_whoseLock 30 = .ok (.if_icmp .gt 34, 3) := by decide +kernel
theorem dX7_whoseLock_33 : decode cX7_whoseLock 33 = .ok (.aload_n 0, 1) := by decide +kernel
theorem dX7_whoseLock_34 : decode cX7_whoseLock 34 = .ok (.getfield 43, 3) := by decide +kernel
theorem dX7_whoseLock_37 : decode cX7_whoseLock 37 = .ok (.aload_n 0, 1) := by decide +kernel
theorem dX7_whoseLock_38 : decode cX7_whoseLock 38 = .ok (.getfield 28, 3) := by decide +kernel
theorem dX7_whoseLock_41 : decode cX7_whoseLock 41 = .ok (.getfield 104, 3) := by decide +kernel
theorem dX7_whoseLock_44 : decode cX7_whoseLock 44 = .ok (.iload_n 2, 1) := by decide +kernel
theorem dX7_whoseLock_45 : decode cX7_whoseLock 45 = .ok (.iload_n 3, 1) := by decide +kernel
theorem dX7_whoseLock_46 : decode cX7_whoseLock 46 = .ok (.invokevirtual 281, 3) := by decide +kernel
theorem dX7_whoseLock_49 : decode cX7_whoseLock 49 = .ok (.ifCond .eq 9, 3) := by decide +kernel
theorem dX7_whoseLock_52 : decode cX7_whoseLock 52 = .ok (.iload_n 1, 1) := by decide +kernel
theorem dX7_whoseLock_53 : decode cX7_whoseLock 53 = .ok (.iconst 1, 1) := by decide +kernel
theorem dX7_whoseLock_54 : decode cX7_whoseLock 54 = .ok (.iload_n 2, 1) := by decide +kernel
theorem dX7_whoseLock_55 : decode cX7_whoseLock 55 = .ok (.ishl, 1) := by decide +kernel
theorem dX7_whoseLock_56 : decode cX7_whoseLock 56 = .ok (.ior, 1) := by decide +kernel
theorem dX7_whoseLock_57 : decode cX7_whoseLock 57 = .ok (.istore_n 1, 1) := by decide +kernel
theorem dX7_whoseLock_58 : decode cX7_whoseLock 58 = .ok (.iinc 3 1, 3) := by decide +kernel
theorem dX7_whoseLock_61 : decode cX7_whoseLock 61 = .ok (.goto (-44), 3) := by decide +kernel
theorem dX7_whoseLock_64 : decode cX7_whoseLock 64 = .ok (.iinc 2 1, 3) := by decide +kernel
theorem dX7_whoseLock_67 : decode cX7_whoseLock 67 = .ok (.goto (-63), 3) := by decide +kernel
theorem dX7_whoseLock_70 : decode cX7_whoseLock 70 = .ok (.iload_n 1, 1) := by decide +kernel
theorem dX7_whoseLock_71 : decode cX7_whoseLock 71 = .ok (.ireturn, 1) := by decide +kernel
theorem dX7_nextInLock_0 : decode cX7_nextInLock 0 = .ok (.aload_n 0, 1) := by decide +kernel
theorem dX7_nextInLock_1 : decode cX7_nextInLock 1 = .ok (.getfield 61, 3) := by decide +kernel
theorem dX7_nextInLock_4 : decode cX7_nextInLock 4 = .ok (.iconst 0, 1) := by decide +kernel
theorem dX7_nextInLock_5 : decode cX7_nextInLock 5 = .ok (.invokestatic 285, 3) := by decide +kernel
theorem dX7_nextInLock_8 : decode cX7_nextInLock 8 = .ok (.iconst 0, 1) := by decide +kernel
theorem dX7_nextInLock_9 : decode cX7_nextInLock 9 = .ok (.istore_n 1, 1) := by decide +kernel
theorem dX7_nextInLock_10 : decode cX7_nextInLock 10 = .ok (.iload_n 1, 1) := by decide +kernel
theorem dX7_nextInLock_11 : decode cX7_nextInLock 11 = .ok (.aload_n 0, 1) := by decide +kernel
theorem dX7_nextInLock_12 : decode cX7_nextInLock 12 = .ok (.getfield 57, 3) := by decide +kernel
theorem dX7_nextInLock_15 : decode cX7_nextInLock 15 = .ok (.getfield 194, 3) := by decide +kernel
theorem dX7_nextInLock_18 : decode cX7_nextInLock 18 = .ok (.if_icmp .ge 91, 3) := by decide +kernel
theorem dX7_nextInLock_21 : decode cX7_nextInLock 21 = .ok (.aload_n 0, 1) := by decide +kernel
theorem dX7_nextInLock_22 : decode cX7_nextInLock 22 = .ok (.getfield 28, 3) := by decide +kernel
theorem dX7_nextInLock_25 : decode cX7_nextInLock 25 = .ok (.getfield 104, 3) := by decide +kernel
theorem dX7_nextInLock_28 : decode cX7_nextInLock 28 = .ok (.getfield 114, 3) := by decide +kernel
theorem dX7_nextInLock_31 : decode cX7_nextInLock 31 = .ok (.iload_n 1, 1) := by decide +kernel
theorem dX7_nextInLock_32 : decode cX7_nextInLock 32 = .ok (.iaload, 1) := by decide +kernel
theorem dX7_nextInLock_33 : decode cX7_nextInLock 33 = .ok (.istore_n 2, 1) := by decide +kernel
theorem dX7_nextInLock_34 : decode cX7_nextInLock 34 = .ok (.iconst 0, 1) := by decide +kernel
theorem dX7_nextInLock_35 : decode cX7_nextInLock 35 = .ok (.istore_n 3, 1) := by decide +kernel
theorem dX7_nextInLock_36 : decode cX7_nextInLock 36 = .ok (.iload_n 3, 1) := by decide +kernel
theorem dX7_nextInLock_37 : decode cX7_nextInLock 37 = .ok (.aload_n 0, 1) := by decide +kernel
theorem dX7_nextInLock_38 : decode cX7_nextInLock 38 = .ok (.getfield 43, 3) := by decide +kernel
theorem dX7_nextInLock_41 : decode cX7_nextInLock 41 = .ok (.getfield 217, 3) := by decide +kernel
theorem dX7_nextInLock_44 : decode cX7_nextInLock 44 = .ok (.iadd, 1) := by decide +kernel
theorem dX7_nextInLock_45 : decode cX7_nextInLock 45 = .ok (.iload_n 2, 1) := by decide +kernel
theorem dX7_nextInLock_46 : decode cX7_nextInLock 46 = .ok (.if_icmp .ge 57, 3) := by decide +kernel
theorem dX7_nextInLock_49 : decode cX7_nextInLock 49 = .ok (.aload_n 0, 1) := by decide +kernel
theorem dX7_nextInLock_50 : decode cX7_nextInLock 50 = .ok (.getfield 43, 3) := by decide +kernel
theorem dX7_nextInLock_53 : decode cX7_nextInLock 53 = .ok (.aload_n 0, 1) := by decide +kernel
theorem dX7_nextInLock_54 : decode cX7_nextInLock 54 = .ok (.getfield 28, 3) := by decide +kernel
theorem dX7_nextInLock_57 : decode cX7_nextInLock 57 = .ok (.getfield 104, 3) := by decide +kernel
theorem dX7_nextInLock_60 : decode cX7_nextInLock 60 = .ok (.iload_n 1, 1) := by decide +kernel
theorem dX7_nextInLock_61 : decode cX7_nextInLock 61 = .ok (.iload_n 3, 1) := by decide +kernel
theorem dX7_nextInLock_62 : decode cX7_nextInLock 62 = .ok (.invokevirtual 281, 3) := by decide +kernel
theorem dX7_nextInLock_65 : decode cX7_nextInLock 65 = .ok (.ifCond .eq 32, 3) := by decide +kernel
theorem dX7_nextInLock_68 : decode cX7_nextInLock 68 = .ok (.aload_n 0, 1) := by decide +kernel
theorem dX7_nextInLock_69 : decode cX7_nextInLock 69 = .ok (.getfield 61, 3) := by decide +kernel
theorem dX7_nextInLock_72 : decode cX7_nextInLock 72 = .ok (.aload_n 0, 1) := by decide +kernel
theorem dX7_nextInLock_73 : decode cX7_nextInLock 73 = .ok (.getfield 28, 3) := by decide +kernel
theorem dX7_nextInLock_76 : decode cX7_nextInLock 76 = .ok (.getfield 104, 3) := by decide +kernel
theorem dX7_nextInLock_79 : decode cX7_nextInLock 79 = .ok (.iload_n 1, 1) := by decide +kernel
theorem dX7_nextInLock_80 : decode cX7_nextInLock 80 = .ok (.iload_n 3, 1) := by decide +kernel
theorem dX7_nextInLock_81 : decode cX7_nextInLock 81 = .ok (.aload_n 0, 1) := by decide +kernel
theorem dX7_nextInLock_82 : decode cX7_nextInLock 82 = .ok (.getfield 43, 3) := by decide +kernel
theorem dX7_nextInLock_85 : decode cX7_nextInLock 85 = .ok (.getfield 217, 3) := by decide +kernel
theorem dX7_nextInLock_88 : decode cX7_nextInLock 88 = .ok (.iadd, 1) := by decide +kernel
theorem dX7_nextInLock_89 : decode cX7_nextInLock 89 = .ok (.invokevirtual 129, 3) := by decide +kernel
theorem dX7_nextInLock_92 : decode cX7_nextInLock 92 = .ok (.dup2, 1) := by decide +kernel
theorem dX7_nextInLock_93 : decode cX7_nextInLock 93 = .ok (.iaload, 1) := by decide +kernel
theorem dX7_nextInLock_94 : decode cX7_nextInLock 94 = .ok (.iconst 1, 1) := by decide +kernel
theorem dX7_nextInLock_95 : decode cX7_nextInLock 95 = .ok (.iadd, 1) := by decide +kernel
theorem dX7_nextInLock_96 : decode cX7_nextInLock 96 = .ok (.iastore, 1) := by decide +kernel
theorem dX7_nextInLock_97 : decode cX7_nextInLock 97 = .ok (.iinc 3 1, 3) := by decide +kernel
theorem dX7_nextInLock_100 : decode cX7_nextInLock 100 = .ok (.goto (-64), 3) := by decide +kernel
theorem dX7_nextInLock_103 : decode cX7_nextInLock 103 = .ok (.iinc 1 1, 3) := by decide +kernel
theorem dX7_nextInLock_106 : decode cX7_nextInLock 106 = .ok (.goto (-96), 3) := by decide +kernel
theorem dX7_nextInLock_109 : decode cX7_nextInLock 109 = .ok (.aload_n 0, 1) := by decide +kernel
theorem dX7_nextInLock_110 : decode cX7_nextInLock 110 = .ok (.getfield 61, 3) := by decide +kernel
theorem dX7_nextInLock_113 : decode cX7_nextInLock 113 = .ok (.invokestatic 273, 3) := by decide +kernel
theorem dX7_nextInLock_116 : decode cX7_nextInLock 116 = .ok (.ireturn, 1) := by decide +kernel
theorem dX7_shareOutHeard_0 : decode cX7_shareOutHeard 0 = .ok (.iconst 0, 1) := by decide +kernel
theorem dX7_shareOutHeard_1 : decode cX7_shareOutHeard 1 = .ok (.istore_n 1, 1) := by decide +kernel
theorem dX7_shareOutHeard_2 : decode cX7_shareOutHeard 2 = .ok (.iload_n 1, 1) := by decide +kernel
theorem dX7_shareOutHeard_3 : decode cX7_shareOutHeard 3 = .ok (.aload_n 0, 1) := by decide +kernel
theorem dX7_shareOutHeard_4 : decode cX7_shareOutHeard 4 = .ok (.getfield 43, 3) := by decide +kernel
theorem dX7_shareOutHeard_7 : decode cX7_shareOutHeard 7 = .ok (.getfield 229, 3) := by decide +kernel
theorem dX7_shareOutHeard_10 : decode cX7_shareOutHeard 10 = .ok (.if_icmp .ge 58, 3) := by decide +kernel
theorem dX7_shareOutHeard_13 : decode cX7_shareOutHeard 13 = .ok (.iconst 0, 1) := by decide +kernel
theorem dX7_shareOutHeard_14 : decode cX7_shareOutHeard 14 = .ok (.istore_n 2, 1) := by decide +kernel
theorem dX7_shareOutHeard_15 : decode cX7_shareOutHeard 15 = .ok (.iload_n 2, 1) := by decide +kernel
theorem dX7_shareOutHeard_16 : decode cX7_shareOutHeard 16 = .ok (.aload_n 0, 1) := by decide +kernel
theorem dX7_shareOutHeard_17 : decode cX7_shareOutHeard 17 = .ok (.getfield 57, 3) := by decide +kernel
theorem dX7_shareOutHeard_20 : decode cX7_shareOutHeard 20 = .ok (.getfield 194, 3) := by decide +kernel
theorem dX7_shareOutHeard_23 : decode cX7_shareOutHeard 23 = .ok (.if_icmp .ge 39, 3) := by decide +kernel
theorem dX7_shareOutHeard_26 : decode cX7_shareOutHeard 26 = .ok (.aload_n 0, 1) := by decide +kernel
theorem dX7_shareOutHeard_27 : decode cX7_shareOutHeard 27 = .ok (.getfield 65, 3) := by decide +kernel
theorem dX7_shareOutHeard_30 : decode cX7_shareOutHeard 30 = .ok (.iload_n 1, 1) := by decide +kernel
theorem dX7_shareOutHeard_31 : decode cX7_shareOutHeard 31 = .ok (.iconst 5, 1) := by decide +kernel
theorem dX7_shareOutHeard_32 : decode cX7_shareOutHeard 32 = .ok (.imul, 1) := by decide +kernel
theorem dX7_shareOutHeard_33 : decode cX7_shareOutHeard 33 = .ok (.iload_n 2, 1) := by decide +kernel
theorem dX7_shareOutHeard_34 : decode cX7_shareOutHeard 34 = .ok (.iadd, 1) := by decide +kernel
theorem dX7_shareOutHeard_35 : decode cX7_shareOutHeard 35 = .ok (.aload_n 0, 1) := by decide +kernel
theorem dX7_shareOutHeard_36 : decode cX7_shareOutHeard 36 = .ok (.getfield 28, 3) := by decide +kernel
theorem dX7_shareOutHeard_39 : decode cX7_shareOutHeard 39 = .ok (.getfield 104, 3) := by decide +kernel
theorem dX7_shareOutHeard_42 : decode cX7_shareOutHeard 42 = .ok (.iload_n 2, 1) := by decide +kernel
theorem dX7_shareOutHeard_43 : decode cX7_shareOutHeard 43 = .ok (.aload_n 0, 1) := by decide +kernel
theorem dX7_shareOutHeard_44 : decode cX7_shareOutHeard 44 = .ok (.getfield 43, 3) := by decide +kernel
theorem dX7_shareOutHeard_47 : decode cX7_shareOutHeard 47 = .ok (.getfield 232, 3) := by decide +kernel
theorem dX7_shareOutHeard_50 : decode cX7_shareOutHeard 50 = .ok (.iload_n 1, 1) := by decide +kernel
theorem dX7_shareOutHeard_51 : decode cX7_shareOutHeard 51 = .ok (.iaload, 1) := by decide +kernel
theorem dX7_shareOutHeard_52 : decode cX7_shareOutHeard 52 = .ok (.invokevirtual 122, 3) := by decide +kernel
theorem dX7_shareOutHeard_55 : decode cX7_shareOutHeard 55 = .ok (.iastore, 1) := by decide +kernel
theorem dX7_shareOutHeard_56 : decode cX7_shareOutHeard 56 = .ok (.iinc 2 1, 3) := by decide +kernel
theorem dX7_shareOutHeard_59 : decode cX7_shareOutHeard 59 = .ok (.goto (-44), 3) := by decide +kernel
theorem dX7_shareOutHeard_62 : decode cX7_shareOutHeard 62 = .ok (.iinc 1 1, 3) := by decide +kernel
theorem dX7_shareOutHeard_65 : decode cX7_shareOutHeard 65 = .ok (.goto (-63), 3) := by decide +kernel
theorem dX7_shareOutHeard_68 : decode cX7_shareOutHeard 68 = .ok (.return_, 1) := by decide +kernel
theorem dX7_allHeardIsSo_0 : decode cX7_allHeardIsSo 0 = .ok (.iconst 0, 1) := by decide +kernel
theorem dX7_allHeardIsSo_1 : decode cX7_allHeardIsSo 1 = .ok (.istore_n 2, 1) := by decide +kernel
theorem dX7_allHeardIsSo_2 : decode cX7_allHeardIsSo 2 = .ok (.iload_n 2, 1) := by decide +kernel
theorem dX7_allHeardIsSo_3 : decode cX7_allHeardIsSo 3 = .ok (.aload_n 0, 1) := by decide +kernel
theorem dX7_allHeardIsSo_4 : decode cX7_allHeardIsSo 4 = .ok (.getfield 43, 3) := by decide +kernel
theorem dX7_allHeardIsSo_7 : decode cX7_allHeardIsSo 7 = .ok (.getfield 229, 3) := by decide +kernel
theorem dX7_allHeardIsSo_10 : decode cX7_allHeardIsSo 10 = .ok (.if_icmp .ge 70, 3) := by decide +kernel
theorem dX7_allHeardIsSo_13 : decode cX7_allHeardIsSo 13 = .ok (.iconst 0, 1) := by decide +kernel
theorem dX7_allHeardIsSo_14 : decode cX7_allHeardIsSo 14 = .ok (.istore_n 3, 1) := by decide +kernel
theorem dX7_allHeardIsSo_15 : decode cX7_allHeardIsSo 15 = .ok (.iconst 0, 1) := by decide +kernel
theorem dX7_allHeardIsSo_16 : decode cX7_allHeardIsSo 16 = .ok (.istore 4, 2) := by decide +kernel
theorem dX7_allHeardIsSo_18 : decode cX7_allHeardIsSo 18 = .ok (.iload 4, 2) := by decide +kernel
theorem dX7_allHeardIsSo_20 : decode cX7_allHeardIsSo 20 = .ok (.aload_n 0, 1) := by decide +kernel
theorem dX7_allHeardIsSo_21 : decode cX7_allHeardIsSo 21 = .ok (.getfield 57, 3) := by decide +kernel
theorem dX7_allHeardIsSo_24 : decode cX7_allHeardIsSo 24 = .ok (.getfield 194, 3) := by decide +kernel
theorem dX7_allHeardIsSo_27 : decode cX7_allHeardIsSo 27 = .ok (.if_icmp .ge 32, 3) := by decide +kernel
theorem dX7_allHeardIsSo_30 : decode cX7_allHeardIsSo 30 = .ok (.iload_n 1, 1) := by decide +kernel
theorem dX7_allHeardIsSo_31 : decode cX7_allHeardIsSo 31 = .ok (.iload 4, 2) := by decide +kernel
theorem dX7_allHeardIsSo_33 : decode cX7_allHeardIsSo 33 = .ok (.invokestatic 277, 3) := by decide +kernel
theorem dX7_allHeardIsSo_36 : decode cX7_allHeardIsSo 36 = .ok (.ifCond .eq 17, 3) := by decide +kernel
theorem dX7_allHeardIsSo_39 : decode cX7_allHeardIsSo 39 = .ok (.iload_n 3, 1) := by decide +kernel
theorem dX7_allHeardIsSo_40 : decode cX7_allHeardIsSo 40 = .ok (.aload_n 0, 1) := by decide +kernel
theorem dX7_allHeardIsSo_41 : decode cX7_allHeardIsSo 41 = .ok (.getfield 65, 3) := by decide +kernel
theorem dX7_allHeardIsSo_44 : decode cX7_allHeardIsSo 44 = .ok (.iload_n 2, 1) := by decide +kernel
theorem dX7_allHeardIsSo_45 : decode cX7_allHeardIsSo 45 = .ok (.iconst 5, 1) := by decide +kernel
theorem dX7_allHeardIsSo_46 : decode cX7_allHeardIsSo 46 = .ok (.imul, 1) := by decide +kernel
theorem dX7_allHeardIsSo_47 : decode cX7_allHeardIsSo 47 = .ok (.iload 4, 2) := by decide +kernel
theorem dX7_allHeardIsSo_49 : decode cX7_allHeardIsSo 49 = .ok (.iadd, 1) := by decide +kernel
theorem dX7_allHeardIsSo_50 : decode cX7_allHeardIsSo 50 = .ok (.iaload, 1) := by decide +kernel
theorem dX7_allHeardIsSo_51 : decode cX7_allHeardIsSo 51 = .ok (.iadd, 1) := by decide +kernel
theorem dX7_allHeardIsSo_52 : decode cX7_allHeardIsSo 52 = .ok (.istore_n 3, 1) := by decide +kernel
theorem dX7_allHeardIsSo_53 : decode cX7_allHeardIsSo 53 = .ok (.iinc 4 1, 3) := by decide +kernel
theorem dX7_allHeardIsSo_56 : decode cX7_allHeardIsSo 56 = .ok (.goto (-38), 3) := by decide +kernel
theorem dX7_allHeardIsSo_59 : decode cX7_allHeardIsSo 59 = .ok (.iload_n 3, 1) := by decide +kernel
theorem dX7_allHeardIsSo_60 : decode cX7_allHeardIsSo 60 = .ok (.aload_n 0, 1) := by decide +kernel
theorem dX7_allHeardIsSo_61 : decode cX7_allHeardIsSo 61 = .ok (.getfield 43, 3) := by decide +kernel
theorem dX7_allHeardIsSo_64 : decode cX7_allHeardIsSo 64 = .ok (.getfield 235, 3) := by decide +kernel
theorem dX7_allHeardIsSo_67 : decode cX7_allHeardIsSo 67 = .ok (.iload_n 2, 1) := by decide +kernel
theorem dX7_allHeardIsSo_68 : decode cX7_allHeardIsSo 68 = .ok (.iaload, 1) := by decide +kernel
theorem dX7_allHeardIsSo_69 : decode cX7_allHeardIsSo 69 = .ok (.if_icmp .eq 5, 3) := by decide +kernel
theorem dX7_allHeardIsSo_72 : decode cX7_allHeardIsSo 72 = .ok (.iconst 0, 1) := by decide +kernel
theorem dX7_allHeardIsSo_73 : decode cX7_allHeardIsSo 73 = .ok (.ireturn, 1) := by decide +kernel
theorem dX7_allHeardIsSo_74 : decode cX7_allHeardIsSo 74 = .ok (.iinc 2 1, 3) := by decide +kernel
theorem dX7_allHeardIsSo_77 : decode cX7_allHeardIsSo 77 = .ok (.goto (-75), 3) := by decide +kernel
theorem dX7_allHeardIsSo_80 : decode cX7_allHeardIsSo 80 = .ok (.iconst 1, 1) := by decide +kernel
theorem dX7_allHeardIsSo_81 : decode cX7_allHeardIsSo 81 = .ok (.ireturn, 1) := by decide +kernel
theorem dX7_markOne_0 : decode cX7_markOne 0 = .ok (.aload_n 0, 1) := by decide +kernel
theorem dX7_markOne_1 : decode cX7_markOne 1 = .ok (.dup, 1) := by decide +kernel
theorem dX7_markOne_2 : decode cX7_markOne 2 = .ok (.getfield 269, 3) := by decide +kernel
theorem dX7_markOne_5 : decode cX7_markOne 5 = .ok (.lconst 1, 1) := by decide +kernel
theorem dX7_markOne_6 : decode cX7_markOne 6 = .ok (.ladd, 1) := by decide +kernel
theorem dX7_markOne_7 : decode cX7_markOne 7 = .ok (.putfield 269, 3) := by decide +kernel
theorem dX7_markOne_10 : decode cX7_markOne 10 = .ok (.aload_n 0, 1) := by decide +kernel
theorem dX7_markOne_11 : decode cX7_markOne 11 = .ok (.getfield 28, 3) := by decide +kernel
theorem dX7_markOne_14 : decode cX7_markOne 14 = .ok (.getfield 104, 3) := by decide +kernel
theorem dX7_markOne_17 : decode cX7_markOne 17 = .ok (.getfield 114, 3) := by decide +kernel
theorem dX7_markOne_20 : decode cX7_markOne 20 = .ok (.iload_n 1, 1) := by decide +kernel
theorem dX7_markOne_21 : decode cX7_markOne 21 = .ok (.iaload, 1) := by decide +kernel
theorem dX7_markOne_22 : decode cX7_markOne 22 = .ok (.ireturn, 1) := by decide +kernel
theorem dX7_markPoet_0 : decode cX7_markPoet 0 = .ok (.aload_n 0, 1) := by decide +kernel
theorem dX7_markPoet_1 : decode cX7_markPoet 1 = .ok (.dup, 1) := by decide +kernel
theorem dX7_markPoet_2 : decode cX7_markPoet 2 = .ok (.getfield 269, 3) := by decide +kernel
theorem dX7_markPoet_5 : decode cX7_markPoet 5 = .ok (.ldc2_w 291, 3) := by decide +kernel
theorem dX7_markPoet_8 : decode cX7_markPoet 8 = .ok (.ladd, 1) := by decide +kernel
theorem dX7_markPoet_9 : decode cX7_markPoet 9 = .ok (.putfield 269, 3) := by decide +kernel
theorem dX7_markPoet_12 : decode cX7_markPoet 12 = .ok (.aload_n 0, 1) := by decide +kernel
theorem dX7_markPoet_13 : decode cX7_markPoet 13 = .ok (.iload_n 1, 1) := by decide +kernel
theorem dX7_markPoet_14 : decode cX7_markPoet 14 = .ok (.invokevirtual 245, 3) := by decide +kernel
theorem dX7_markPoet_17 : decode cX7_markPoet 17 = .ok (.aload_n 0, 1) := by decide +kernel
theorem dX7_markPoet_18 : decode cX7_markPoet 18 = .ok (.getfield 28, 3) := by decide +kernel
theorem dX7_markPoet_21 : decode cX7_markPoet 21 = .ok (.getfield 104, 3) := by decide +kernel
theorem dX7_markPoet_24 : decode cX7_markPoet 24 = .ok (.iload_n 1, 1) := by decide +kernel
theorem dX7_markPoet_25 : decode cX7_markPoet 25 = .ok (.invokevirtual 293, 3) := by decide +kernel
theorem dX7_markPoet_28 : decode cX7_markPoet 28 = .ok (.iadd, 1) := by decide +kernel
theorem dX7_markPoet_29 : decode cX7_markPoet 29 = .ok (.ireturn, 1) := by decide +kernel
theorem dX7_markBride_0 : decode cX7_markBride 0 = .ok (.aload_n 0, 1) := by decide +kernel
theorem dX7_markBride_1 : decode cX7_markBride 1 = .ok (.dup, 1) := by decide +kernel
theorem dX7_markBride_2 : decode cX7_markBride 2 = .ok (.getfield 269, 3) := by decide +kernel
theorem dX7_markBride_5 : decode cX7_markBride 5 = .ok (.ldc2_w 296, 3) := by decide +kernel
theorem dX7_markBride_8 : decode cX7_markBride 8 = .ok (.ladd, 1) := by decide +kernel
theorem dX7_markBride_9 : decode cX7_markBride 9 = .ok (.putfield 269, 3) := by decide +kernel
theorem dX7_markBride_12 : decode cX7_markBride 12 = .ok (.aload_n 0, 1) := by decide +kernel
theorem dX7_markBride_13 : decode cX7_markBride 13 = .ok (.iload_n 1, 1) := by decide +kernel
theorem dX7_markBride_14 : decode cX7_markBride 14 = .ok (.invokevirtual 245, 3) := by decide +kernel
theorem dX7_markBride_17 : decode cX7_markBride 17 = .ok (.aload_n 0, 1) := by decide +kernel
theorem dX7_markBride_18 : decode cX7_markBride 18 = .ok (.getfield 57, 3) := by decide +kernel
theorem dX7_markBride_21 : decode cX7_markBride 21 = .ok (.getfield 108, 3) := by decide +kernel
theorem dX7_markBride_24 : decode cX7_markBride 24 = .ok (.iload_n 1, 1) := by decide +kernel
theorem dX7_markBride_25 : decode cX7_markBride 25 = .ok (.iaload, 1) := by decide +kernel
theorem dX7_markBride_26 : decode cX7_markBride 26 = .ok (.isub, 1) := by decide +kernel
theorem dX7_markBride_27 : decode cX7_markBride 27 = .ok (.ireturn, 1) := by decide +kernel
theorem dX7_markWig_0 : decode cX7_markWig 0 = .ok (.aload_n 0, 1) := by decide +kernel
theorem dX7_markWig_1 : decode cX7_markWig 1 = .ok (.dup, 1) := by decide +kernel
theorem dX7_markWig_2 : decode cX7_markWig 2 = .ok (.getfield 269, 3) := by decide +kernel
theorem dX7_markWig_5 : decode cX7_markWig 5 = .ok (.ldc2_w 298, 3) := by decide +kernel
theorem dX7_markWig_8 : decode cX7_markWig 8 = .ok (.ladd, 1) := by decide +kernel
theorem dX7_markWig_9 : decode cX7_markWig 9 = .ok (.putfield 269, 3) := by decide +kernel
theorem dX7_markWig_12 : decode cX7_markWig 12 = .ok (.aload_n 0, 1) := by decide +kernel
theorem dX7_markWig_13 : decode cX7_markWig 13 = .ok (.iload_n 1, 1) := by decide +kernel
theorem dX7_markWig_14 : decode cX7_markWig 14 = .ok (.invokevirtual 248, 3) := by decide +kernel
theorem dX7_markWig_17 : decode cX7_markWig 17 = .ok (.iconst 2, 1) := by decide +kernel
theorem dX7_markWig_18 : decode cX7_markWig 18 = .ok (.imul, 1) := by decide +kernel
theorem dX7_markWig_19 : decode cX7_markWig 19 = .ok (.ireturn, 1) := by decide +kernel
theorem dX7_markNun_0 : decode cX7_markNun 0 = .ok (.aload_n 0, 1) := by decide +kernel
theorem dX7_markNun_1 : decode cX7_markNun 1 = .ok (.dup, 1) := by decide +kernel
theorem dX7_markNun_2 : decode cX7_markNun 2 = .ok (.getfield 269, 3) := by decide +kernel
theorem dX7_markNun_5 : decode cX7_markNun 5 = .ok (.ldc2_w 300, 3) := by decide +kernel
theorem dX7_markNun_8 : decode cX7_markNun 8 = .ok (.ladd, 1) := by decide +kernel
theorem dX7_markNun_9 : decode cX7_markNun 9 = .ok (.putfield 269, 3) := by decide +kernel
theorem dX7_markNun_12 : decode cX7_markNun 12 = .ok (.aload_n 0, 1) := by decide +kernel
theorem dX7_markNun_13 : decode cX7_markNun 13 = .ok (.iload_n 1, 1) := by decide +kernel
theorem dX7_markNun_14 : decode cX7_markNun 14 = .ok (.invokevirtual 251, 3) := by decide +kernel
theorem dX7_markNun_17 : decode cX7_markNun 17 = .ok (.iload_n 1, 1) := by decide +kernel
theorem dX7_markNun_18 : decode cX7_markNun 18 = .ok (.iadd, 1) := by decide +kernel
theorem dX7_markNun_19 : decode cX7_markNun 19 = .ok (.ireturn, 1) := by decide +kernel
theorem dX7_markBald_0 : decode cX7_markBald 0 = .ok (.aload_n 0, 1) := by decide +kernel
theorem dX7_markBald_1 : decode cX7_markBald 1 = .ok (.dup, 1) := by decide +kernel
theorem dX7_markBald_2 : decode cX7_markBald 2 = .ok (.getfield 269, 3) := by decide +kernel
theorem dX7_markBald_5 : decode cX7_markBald 5 = .ok (.ldc2_w 302, 3) := by decide +kernel
theorem dX7_markBald_8 : decode cX7_markBald 8 = .ok (.ladd, 1) := by decide +kernel
theorem dX7_markBald_9 : decode cX7_markBald 9 = .ok (.putfield 269, 3) := by decide +kernel
theorem dX7_markBald_12 : decode cX7_markBald 12 = .ok (.aload_n 0, 1) := by decide +kernel
theorem dX7_markBald_13 : decode cX7_markBald 13 = .ok (.iload_n 1, 1) := by decide +kernel
theorem dX7_markBald_14 : decode cX7_markBald 14 = .ok (.invokevirtual 245, 3) := by decide +kernel
theorem dX7_markBald_17 : decode cX7_markBald 17 = .ok (.aload_n 0, 1) := by decide +kernel
theorem dX7_markBald_18 : decode cX7_markBald 18 = .ok (.getfield 28, 3) := by decide +kernel
theorem dX7_markBald_21 : decode cX7_markBald 21 = .ok (.getfield 104, 3) := by decide +kernel
theorem dX7_markBald_24 : decode cX7_markBald 24 = .ok (.getfield 141, 3) := by decide +kernel
theorem dX7_markBald_27 : decode cX7_markBald 27 = .ok (.iadd, 1) := by decide +kernel
theorem dX7_markBald_28 : decode cX7_markBald 28 = .ok (.ireturn, 1) := by decide +kernel
theorem dX8_init_0 : decode cX8_init 0 = .ok (.aload_n 0, 1) := by decide +kernel
theorem dX8_init_1 : decode cX8_init 1 = .ok (.invokespecial 1, 3) := by decide +kernel
theorem dX8_init_4 : decode cX8_init 4 = .ok (.aload_n 0, 1) := by decide +kernel
theorem dX8_init_5 : decode cX8_init 5 = .ok (.iconst 5, 1) := by decide +kernel
theorem dX8_init_6 : decode cX8_init 6 = .ok (.newarray .int, 2) := by decide +kernel
theorem dX8_init_8 : decode cX8_init 8 = .ok (.putfield 7, 3) := by decide +kernel
theorem dX8_init_11 : decode cX8_init 11 = .ok (.aload_n 0, 1) := by decide +kernel
theorem dX8_init_12 : decode cX8_init 12 = .ok (.iconst 5, 1) := by decide +kernel
theorem dX8_init_13 : decode cX8_init 13 = .ok (.newarray .int, 2) := by decide +kernel
theorem dX8_init_15 : decode cX8_init 15 = .ok (.putfield 13, 3) := by decide +kernel
theorem dX8_init_18 : decode cX8_init 18 = .ok (.aload_n 0, 1) := by decide +kernel
theorem dX8_init_19 : decode cX8_init 19 = .ok (.bipush 35, 2) := by decide +kernel
theorem dX8_init_21 : decode cX8_init 21 = .ok (.newarray .int, 2) := by decide +kernel
theorem dX8_init_23 : decode cX8_init 23 = .ok (.putfield 16, 3) := by decide +kernel
theorem dX8_init_26 : decode cX8_init 26 = .ok (.aload_n 0, 1) := by decide +kernel
theorem dX8_init_27 : decode cX8_init 27 = .ok (.bipush 12, 2) := by decide +kernel
theorem dX8_init_29 : decode cX8_init 29 = .ok (.putfield 19, 3) := by decide +kernel
theorem dX8_init_32 : decode cX8_init 32 = .ok (.aload_n 0, 1) := by decide +kernel
theorem dX8_init_33 : decode cX8_init 33 = .ok (.sipush 1233, 3) := by decide +kernel
theorem dX8_init_36 : decode cX8_init 36 = .ok (.newarray .int, 2) := by decide +kernel
theorem dX8_init_38 : decode cX8_init 38 = .ok (.putfield 23, 3) := by decide +kernel
theorem dX8_init_41 : decode cX8_init 41 = .ok (.aload_n 0, 1) := by decide +kernel
theorem dX8_init_42 : decode cX8_init 42 = .ok (.sipush 2466, 3) := by decide +kernel
theorem dX8_init_45 : decode cX8_init 45 = .ok (.newarray .int, 2) := by decide +kernel
theorem dX8_init_47 : decode cX8_init 47 = .ok (.putfield 26, 3) := by decide +kernel
theorem dX8_init_50 : decode cX8_init 50 = .ok (.aload_n 0, 1) := by decide +kernel
theorem dX8_init_51 : decode cX8_init 51 = .ok (.iconst 2, 1) := by decide +kernel
theorem dX8_init_52 : decode cX8_init 52 = .ok (.newarray .boolean, 2) := by decide +kernel
theorem dX8_init_54 : decode cX8_init 54 = .ok (.putfield 29, 3) := by decide +kernel
theorem dX8_init_57 : decode cX8_init 57 = .ok (.aload_n 0, 1) := by decide +kernel
theorem dX8_init_58 : decode cX8_init 58 = .ok (.iconst 4, 1) := by decide +kernel
theorem dX8_init_59 : decode cX8_init 59 = .ok (.newarray .int, 2) := by decide +kernel
theorem dX8_init_61 : decode cX8_init 61 = .ok (.putfield 33, 3) := by decide +kernel
theorem dX8_init_64 : decode cX8_init 64 = .ok (.aload_n 0, 1) := by decide +kernel
theorem dX8_init_65 : decode cX8_init 65 = .ok (.bipush 8, 2) := by decide +kernel
theorem dX8_init_67 : decode cX8_init 67 = .ok (.newarray .int, 2) := by decide +kernel
theorem dX8_init_69 : decode cX8_init 69 = .ok (.putfield 36, 3) := by decide +kernel
theorem dX8_init_72 : decode cX8_init 72 = .ok (.aload_n 0, 1) := by decide +kernel
theorem dX8_init_73 : decode cX8_init 73 = .ok (.bipush 120, 2) := by decide +kernel
theorem dX8_init_75 : decode cX8_init 75 = .ok (.newarray .int, 2) := by decide +kernel
theorem dX8_init_77 : decode cX8_init 77 = .ok (.putfield 39, 3) := by decide +kernel
theorem dX8_init_80 : decode cX8_init 80 = .ok (.aload_n 0, 1) := by decide +kernel
theorem dX8_init_81 : decode cX8_init 81 = .ok (.iconst 5, 1) := by decide +kernel
theorem dX8_init_82 : decode cX8_init 82 = .ok (.newarray .int, 2) := by decide +kernel
theorem dX8_init_84 : decode cX8_init 84 = .ok (.putfield 42, 3) := by decide +kernel
theorem dX8_init_87 : decode cX8_init 87 = .ok (.aload_n 0, 1) := by decide +kernel
theorem dX8_init_88 : decode cX8_init 88 = .ok (.iconst 5, 1) := by decide +kernel
theorem dX8_init_89 : decode cX8_init 89 = .ok (.newarray .int, 2) := by decide +kernel
theorem dX8_init_91 : decode cX8_init 91 = .ok (.putfield 45, 3) := by decide +kernel
theorem dX8_init_94 : decode cX8_init 94 = .ok (.aload_n 0, 1) := by decide +kernel
theorem dX8_init_95 : decode cX8_init 95 = .ok (.bipush 35, 2) := by decide +kernel
theorem dX8_init_97 : decode cX8_init 97 = .ok (.newarray .int, 2) := by decide +kernel
theorem dX8_init_99 : decode cX8_init 99 = .ok (.putfield 48, 3) := by decide +kernel
theorem dX8_init_102 : decode cX8_init 102 = .ok (.aload_n 0, 1) := by decide +kernel
theorem dX8_init_103 : decode cX8_init 103 = .ok (.bipush 40, 2) := by decide +kernel
theorem dX8_init_105 : decode cX8_init 105 = .ok (.newarray .int, 2) := by decide +kernel
theorem dX8_init_107 : decode cX8_init 107 = .ok (.putfield 51, 3) := by decide +kernel
theorem dX8_init_110 : decode cX8_init 110 = .ok (.aload_n 0, 1) := by decide +kernel
theorem dX8_init_111 : decode cX8_init 111 = .ok (.bipush 10, 2) := by decide +kernel
theorem dX8_init_113 : decode cX8_init 113 = .ok (.newarray .int, 2) := by decide +kernel
theorem dX8_init_115 : decode cX8_init 115 = .ok (.putfield 54, 3) := by decide +kernel
theorem dX8_init_118 : decode cX8_init 118 = .ok (.return_, 1) := by decide +kernel
theorem dX8_in_0 : decode cX8_in 0 = .ok (.iload_n 0, 1) := by decide +kernel
theorem dX8_in_1 : decode cX8_in 1 = .ok (.iload_n 1, 1) := by decide +kernel
theorem dX8_in_2 : decode cX8_in 2 = .ok (.if_icmp .lt 12, 3) := by decide +kernel
theorem dX8_in_5 : decode cX8_in 5 = .ok (.iload_n 0, 1) := by decide +kernel
theorem dX8_in_6 : decode cX8_in 6 = .ok (.iload_n 2, 1) := by decide +kernel
theorem dX8_in_7 : decode cX8_in 7 = .ok (.if_icmp .gt 7, 3) := by decide +kernel
theorem dX8_in_10 : decode cX8_in 10 = .ok (.iconst 1, 1) := by decide +kernel
theorem dX8_in_11 : decode cX8_in 11 = .ok (.goto 4, 3) := by decide +kernel
theorem dX8_in_14 : decode cX8_in 14 = .ok (.iconst 0, 1) := by decide +kernel
theorem dX8_in_15 : decode cX8_in 15 = .ok (.ireturn, 1) := by decide +kernel
theorem dX8_has_0 : decode cX8_has 0 = .ok (.iload_n 0, 1) := by decide +kernel
theorem dX8_has_1 : decode cX8_has 1 = .ok (.iload_n 1, 1) := by decide +kernel
theorem dX8_has_2 : decode cX8_has 2 = .ok (.ishr, 1) := by decide +kernel
theorem dX8_has_3 : decode cX8_has 3 = .ok (.iconst 1, 1) := by decide +kernel
theorem dX8_has_4 : decode cX8_has 4 = .ok (.iand, 1) := by decide +kernel
theorem dX8_has_5 : decode cX8_has 5 = .ok (.iconst 1, 1) := by decide +kernel
theorem dX8_has_6 : decode cX8_has 6 = .ok (.if_icmp .ne 7, 3) := by decide +kernel
theorem dX8_has_9 : decode cX8_has 9 = .ok (.iconst 1, 1) := by decide +kernel
theorem dX8_has_10 : decode cX8_has 10 = .ok (.goto 4, 3) := by decide +kernel
theorem dX8_has_13 : decode cX8_has 13 = .ok (.iconst 0, 1) := by decide +kernel
theorem dX8_has_14 : decode cX8_has 14 = .ok (.ireturn, 1) := by decide +kernel
theorem dX8_bits_0 : decode cX8_bits 0 = .ok (.iconst 0, 1) := by decide +kernel
theorem dX8_bits_1 : decode cX8_bits 1 = .ok (.istore_n 1, 1) := by decide +kernel
theorem dX8_bits_2 : decode cX8_bits 2 = .ok (.iconst 0, 1) := by decide +kernel
theorem dX8_bits_3 : decode cX8_bits 3 = .ok (.istore_n 2, 1) := by decide +kernel
theorem dX8_bits_4 : decode cX8_bits 4 = .ok (.iload_n 2, 1) := by decide +kernel
theorem dX8_bits_5 : decode cX8_bits 5 = .ok (.bipush 10, 2) := by decide +kernel
theorem dX8_bits_7 : decode cX8_bits 7 = .ok (.if_icmp .ge 17, 3) := by decide +kernel
theorem dX8_bits_10 : decode cX8_bits 10 = .ok (.iload_n 1, 1) := by decide +kernel
theorem dX8_bits_11 : decode cX8_bits 11 = .ok (.iload_n 0, 1) := by decide +kernel
theorem dX8_bits_12 : decode cX8_bits 12 = .ok (.iload_n 2, 1) := by decide +kernel
theorem dX8_bits_13 : decode cX8_bits 13 = .ok (.ishr, 1) := by decide +kernel
theorem dX8_bits_14 : decode cX8_bits 14 = .ok (.iconst 1, 1) := by decide +kernel
theorem dX8_bits_15 : decode cX8_bits 15 = .ok (.iand, 1) := by decide +kernel
theorem dX8_bits_16 : decode cX8_bits 16 = .ok (.iadd, 1) := by decide +kernel
theorem dX8_bits_17 : decode cX8_bits 17 = .ok (.istore_n 1, 1) := by decide +kernel
theorem dX8_bits_18 : decode cX8_bits 18 = .ok (.iinc 2 1, 3) := by decide +kernel
theorem dX8_bits_21 : decode cX8_bits 21 = .ok (.goto (-17), 3) := by decide +kernel
theorem dX8_bits_24 : decode cX8_bits 24 = .ok (.iload_n 1, 1) := by decide +kernel
theorem dX8_bits_25 : decode cX8_bits 25 = .ok (.ireturn, 1) := by decide +kernel
theorem dX8_isOne_0 : decode cX8_isOne 0 = .ok (.iload_n 1, 1) := by decide +kernel
theorem dX8_isOne_1 : decode cX8_isOne 1 = .ok (.iconst 0, 1) := by decide +kernel
theorem dX8_isOne_2 : decode cX8_isOne 2 = .ok (.aload_n 0, 1) := by decide +kernel
theorem dX8_isOne_3 : decode cX8_isOne 3 = .ok (.getfield 57, 3) := by decide +kernel
theorem dX8_isOne_6 : decode cX8_isOne 6 = .ok (.iconst 1, 1) := by decide +kernel
theorem dX8_isOne_7 : decode cX8_isOne 7 = .ok (.isub, 1) := by decide +kernel
theorem dX8_isOne_8 : decode cX8_isOne 8 = .ok (.invokestatic 60, 3) := by decide +kernel
theorem dX8_isOne_11 : decode cX8_isOne 11 = .ok (.ireturn, 1) := by decide +kernel
theorem dX8_isThought_0 : decode cX8_isThought 0 = .ok (.iload_n 0, 1) := by decide +kernel
theorem dX8_isThought_1 : decode cX8_isThought 1 = .ok (.iconst 0, 1) := by decide +kernel
theorem dX8_isThought_2 : decode cX8_isThought 2 = .ok (.bipush 9, 2) := by decide +kernel
theorem dX8_isThought_4 : decode cX8_isThought 4 = .ok (.invokestatic 60, 3) := by decide +kernel
theorem dX8_isThought_7 : decode cX8_isThought 7 = .ok (.ireturn, 1) := by decide +kernel
theorem dX8_isJar_0 : decode cX8_isJar 0 = .ok (.iload_n 0, 1) := by decide +kernel
theorem dX8_isJar_1 : decode cX8_isJar 1 = .ok (.iconst 0, 1) := by decide +kernel
theorem dX8_isJar_2 : decode cX8_isJar 2 = .ok (.iconst 3, 1) := by decide +kernel
theorem dX8_isJar_3 : decode cX8_isJar 3 = .ok (.invokestatic 60, 3) := by decide +kernel
theorem dX8_isJar_6 : decode cX8_isJar 6 = .ok (.ireturn, 1) := by decide +kernel
theorem dX8_type_0 : decode cX8_type 0 = .ok (.iload_n 1, 1) := by decide +kernel
theorem dX8_type_1 : decode cX8_type 1 = .ok (.iconst 0, 1) := by decide +kernel
theorem dX8_type_2 : decode cX8_type 2 = .ok (.sipush 255, 3) := by decide +kernel
theorem dX8_type_5 : decode cX8_type 5 = .ok (.invokestatic 60, 3) := by decide +kernel
theorem dX8_type_8 : decode cX8_type 8 = .ok (.ifCond .ne 5, 3) := by decide +kernel
theorem dX8_type_11 : decode cX8_type 11 = .ok (.iconst (-1), 1) := by decide +kernel
theorem dX8_type_12 : decode cX8_type 12 = .ok (.ireturn, 1) := by decide +kernel
theorem dX8_type_13 : decode cX8_type 13 = .ok (.aload_n 0, 1) := by decide +kernel
theorem dX8_type_14 : decode cX8_type 14 = .ok (.getfield 64, 3) := by decide +kernel
theorem dX8_type_17 : decode cX8_type 17 = .ok (.bipush 120, 2) := by decide +kernel
theorem dX8_type_19 : decode cX8_type 19 = .ok (.if_icmp .ne 6, 3) := by decide +kernel
theorem dX8_type_22 : decode cX8_type 22 = .ok (.bipush (-3), 2) := by decide +kernel
theorem dX8_type_24 : decode cX8_type 24 = .ok (.ireturn, 1) := by decide +kernel
theorem dX8_type_25 : decode cX8_type 25 = .ok (.aload_n 0, 1) := by decide +kernel
theorem dX8_type_26 : decode cX8_type 26 = .ok (.getfield 39, 3) := by decide +kernel
theorem dX8_type_29 : decode cX8_type 29 = .ok (.aload_n 0, 1) := by decide +kernel
theorem dX8_type_30 : decode cX8_type 30 = .ok (.getfield 64, 3) := by decide +kernel
theorem dX8_type_33 : decode cX8_type 33 = .ok (.iload_n 1, 1) := by decide +kernel
theorem dX8_type_34 : decode cX8_type 34 = .ok (.iastore, 1) := by decide +kernel
theorem dX8_type_35 : decode cX8_type 35 = .ok (.aload_n 0, 1) := by decide +kernel
theorem dX8_type_36 : decode cX8_type 36 = .ok (.dup, 1) := by decide +kernel
theorem dX8_type_37 : decode cX8_type 37 = .ok (.getfield 64, 3) := by decide +kernel
theorem dX8_type_40 : decode cX8_type 40 = .ok (.iconst 1, 1) := by decide +kernel
theorem dX8_type_41 : decode cX8_type 41 = .ok (.iadd, 1) := by decide +kernel
theorem dX8_type_42 : decode cX8_type 42 = .ok (.putfield 64, 3) := by decide +kernel
theorem dX8_type_45 : decode cX8_type 45 = .ok (.aload_n 0, 1) := by decide +kernel
theorem dX8_type_46 : decode cX8_type 46 = .ok (.getfield 64, 3) := by decide +kernel
theorem dX8_type_49 : decode cX8_type 49 = .ok (.ireturn, 1) := by decide +kernel
theorem dX8_clear_0 : decode cX8_clear 0 = .ok (.aload_n 0, 1) := by decide +kernel
theorem dX8_clear_1 : decode cX8_clear 1 = .ok (.getfield 64, 3) := by decide +kernel
theorem dX8_clear_4 : decode cX8_clear 4 = .ok (.istore_n 1, 1) := by decide +kernel
theorem dX8_clear_5 : decode cX8_clear 5 = .ok (.aload_n 0, 1) := by decide +kernel
theorem dX8_clear_6 : decode cX8_clear 6 = .ok (.iconst 0, 1) := by decide +kernel
theorem dX8_clear_7 : decode cX8_clear 7 = .ok (.putfield 64, 3) := by decide +kernel
theorem dX8_clear_10 : decode cX8_clear 10 = .ok (.iload_n 1, 1) := by decide +kernel
theorem dX8_clear_11 : decode cX8_clear 11 = .ok (.ireturn, 1) := by decide +kernel
theorem dX8_letterAt_0 : decode cX8_letterAt 0 = .ok (.iload_n 1, 1) := by decide +kernel
theorem dX8_letterAt_1 : decode cX8_letterAt 1 = .ok (.aload_n 0, 1) := by decide +kernel
theorem dX8_letterAt_2 : decode cX8_letterAt 2 = .ok (.getfield 64, 3) := by decide +kernel
theorem dX8_letterAt_5 : decode cX8_letterAt 5 = .ok (.if_icmp .ge 12, 3) := by decide +kernel
theorem dX8_letterAt_8 : decode cX8_letterAt 8 = .ok (.aload_n 0, 1) := by decide +kernel
theorem dX8_letterAt_9 : decode cX8_letterAt 9 = .ok (.getfield 39, 3) := by decide +kernel
theorem dX8_letterAt_12 : decode cX8_letterAt 12 = .ok (.iload_n 1, 1) := by decide +kernel
theorem dX8_letterAt_13 : decode cX8_letterAt 13 = .ok (.iaload, 1) := by decide +kernel
theorem dX8_letterAt_14 : decode cX8_letterAt 14 = .ok (.goto 4, 3) := by decide +kernel
theorem dX8_letterAt_17 : decode cX8_letterAt 17 = .ok (.iconst (-1), 1) := by decide +kernel
theorem dX8_letterAt_18 : decode cX8_letterAt 18 = .ok (.ireturn, 1) := by decide +kernel
theorem dX8_isFigure_0 : decode cX8_isFigure 0 = .ok (.iload_n 0, 1) := by decide +kernel
theorem dX8_isFigure_1 : decode cX8_isFigure 1 = .ok (.bipush 48, 2) := by decide +kernel
theorem dX8_isFigure_3 : decode cX8_isFigure 3 = .ok (.bipush 57, 2) := by decide +kernel
theorem dX8_isFigure_5 : decode cX8_isFigure 5 = .ok (.invokestatic 60, 3) := by decide +kernel
theorem dX8_isFigure_8 : decode cX8_isFigure 8 = .ok (.ireturn, 1) := by decide +kernel
theorem dX8_isLetter_0 : decode cX8_isLetter 0 = .ok (.iload_n 0, 1) := by decide +kernel
theorem dX8_isLetter_1 : decode cX8_isLetter 1 = .ok (.bipush 97, 2) := by decide +kernel
theorem dX8_isLetter_3 : decode cX8_isLetter 3 = .ok (.bipush 122, 2) := by decide +kernel
theorem dX8_isLetter_5 : decode cX8_isLetter 5 = .ok (.invokestatic 60, 3) := by decide +kernel
theorem dX8_isLetter_8 : decode cX8_isLetter 8 = .ok (.ireturn, 1) := by decide +kernel
theorem dX8_next_0 : decode cX8_next 0 = .ok (.aload_n 0, 1) := by decide +kernel
theorem dX8_next_1 : decode cX8_next 1 = .ok (.aload_n 0, 1) := by decide +kernel
theorem dX8_next_2 : decode cX8_next 2 = .ok (.getfield 67, 3) := by decide +kernel
theorem dX8_next_5 : decode cX8_next 5 = .ok (.invokevirtual 70, 3) := by decide +kernel
theorem dX8_next_8 : decode cX8_next 8 = .ok (.bipush 32, 2) := by decide +kernel
theorem dX8_next_10 : decode cX8_next 10 = .ok (.if_icmp .ne 16, 3) := by decide +kernel
theorem dX8_next_13 : decode cX8_next 13 = .ok (.aload_n 0, 1) := by decide +kernel
theorem dX8_next_14 : decode cX8_next 14 = .ok (.dup, 1) := by decide +kernel
theorem dX8_next_15 : decode cX8_next 15 = .ok (.getfield 67, 3) := by decide +kernel
theorem dX8_next_18 : decode cX8_next 18 = .ok (.iconst 1, 1) := by decide +kernel
theorem dX8_next_19 : decode cX8_next 19 = .ok (.iadd, 1) := by decide +kernel
theorem dX8_next_20 : decode cX8_next 20 = .ok (.putfield 67, 3) := by decide +kernel
theorem dX8_next_23 : decode cX8_next 23 = .ok (.goto (-23), 3) := by decide +kernel
theorem dX8_next_26 : decode cX8_next 26 = .ok (.aload_n 0, 1) := by decide +kernel
theorem dX8_next_27 : decode cX8_next 27 = .ok (.aload_n 0, 1) := by decide +kernel
theorem dX8_next_28 : decode cX8_next 28 = .ok (.getfield 67, 3) := by decide +kernel
theorem dX8_next_31 : decode cX8_next 31 = .ok (.putfield 74, 3) := by decide +kernel
theorem dX8_next_34 : decode cX8_next 34 = .ok (.aload_n 0, 1) := by decide +kernel
theorem dX8_next_35 : decode cX8_next 35 = .ok (.aload_n 0, 1) := by decide +kernel
theorem dX8_next_36 : decode cX8_next 36 = .ok (.getfield 67, 3) := by decide +kernel
theorem dX8_next_39 : decode cX8_next 39 = .ok (.invokevirtual 70, 3) := by decide +kernel
theorem dX8_next_42 : decode cX8_next 42 = .ok (.istore_n 1, 1) := by decide +kernel
theorem dX8_next_43 : decode cX8_next 43 = .ok (.aload_n 0, 1) := by decide +kernel
theorem dX8_next_44 : decode cX8_next 44 = .ok (.iconst 0, 1) := by decide +kernel
theorem dX8_next_45 : decode cX8_next 45 = .ok (.putfield 77, 3) := by decide +kernel
theorem dX8_next_48 : decode cX8_next 48 = .ok (.iload_n 1, 1) := by decide +kernel
theorem dX8_next_49 : decode cX8_next 49 = .ok (.ifCond .ge 11, 3) := by decide +kernel
theorem dX8_next_52 : decode cX8_next 52 = .ok (.aload_n 0, 1) := by decide +kernel
theorem dX8_next_53 : decode cX8_next 53 = .ok (.iconst 0, 1) := by decide +kernel
theorem dX8_next_54 : decode cX8_next 54 = .ok (.putfield 80, 3) := by decide +kernel
theorem dX8_next_57 : decode cX8_next 57 = .ok (.goto 205, 3) := by decide +kernel
theorem dX8_next_60 : decode cX8_next 60 = .ok (.iload_n 1, 1) := by decide +kernel
theorem dX8_next_61 : decode cX8_next 61 = .ok (.invokestatic 83, 3) := by decide +kernel
theorem dX8_next_64 : decode cX8_next 64 = .ok (.ifCond .eq 109, 3) := by decide +kernel
theorem dX8_next_67 : decode cX8_next 67 = .ok (.aload_n 0, 1) := by decide +kernel
theorem dX8_next_68 : decode cX8_next 68 = .ok (.aload_n 0, 1) := by decide +kernel
theorem dX8_next_69 : decode cX8_next 69 = .ok (.getfield 67, 3) := by decide +kernel
theorem dX8_next_72 : decode cX8_next 72 = .ok (.invokevirtual 70, 3) := by decide +kernel
theorem dX8_next_75 : decode cX8_next 75 = .ok (.invokestatic 83, 3) := by decide +kernel
theorem dX8_next_78 : decode cX8_next 78 = .ok (.ifCond .eq 55, 3) := by decide +kernel
theorem dX8_next_81 : decode cX8_next 81 = .ok (.aload_n 0, 1) := by decide +kernel
theorem dX8_next_82 : decode cX8_next 82 = .ok (.aload_n 0, 1) := by decide +kernel
theorem dX8_next_83 : decode cX8_next 83 = .ok (.getfield 77, 3) := by decide +kernel
theorem dX8_next_86 : decode cX8_next 86 = .ok (.bipush 99, 2) := by decide +kernel
theorem dX8_next_88 : decode cX8_next 88 = .ok (.if_icmp .le 10, 3) := by decide +kernel
theorem dX8_next_91 : decode cX8_next 91 = .ok (.aload_n 0, 1) := by decide +kernel
theorem dX8_next_92 : decode cX8_next 92 = .ok (.getfield 77, 3) := by decide +kernel
theorem dX8_next_95 : decode cX8_next 95 = .ok (.goto 22, 3) := by decide +kernel
theorem dX8_next_98 : decode cX8_next 98 = .ok (.bipush 10, 2) := by decide +kernel
theorem dX8_next_100 : decode cX8_next 100 = .ok (.aload_n 0, 1) := by decide +kernel
theorem dX8_next_101 : decode cX8_next 101 = .ok (.getfield 77, 3) := by decide +kernel
theorem dX8_next_104 : decode cX8_next 104 = .ok (.imul, 1) := by decide +kernel
theorem dX8_next_105 : decode cX8_next 105 = .ok (.aload_n 0, 1) := by decide +kernel
theorem dX8_next_106 : decode cX8_next 106 = .ok (.aload_n 0, 1) := by decide +kernel
theorem dX8_next_107 : decode cX8_next 107 = .ok (.getfield 67, 3) := by decide +kernel
theorem dX8_next_110 : decode cX8_next 110 = .ok (.invokevirtual 70, 3) := by decide +kernel
theorem dX8_next_113 : decode cX8_next 113 = .ok (.iadd, 1) := by decide +kernel
theorem dX8_next_114 : decode cX8_next 114 = .ok (.bipush 48, 2) := by decide +kernel
theorem dX8_next_116 : decode cX8_next 116 = .ok (.isub, 1) := by decide +kernel
theorem dX8_next_117 : decode cX8_next 117 = .ok (.putfield 77, 3) := by decide +kernel
theorem dX8_next_120 : decode cX8_next 120 = .ok (.aload_n 0, 1) := by decide +kernel
theorem dX8_next_121 : decode cX8_next 121 = .ok (.dup, 1) := by decide +kernel
theorem dX8_next_122 : decode cX8_next 122 = .ok (.getfield 67, 3) := by decide +kernel
theorem dX8_next_125 : decode cX8_next 125 = .ok (.iconst 1, 1) := by decide +kernel
theorem dX8_next_126 : decode cX8_next 126 = .ok (.iadd, 1) := by decide +kernel
theorem dX8_next_127 : decode cX8_next 127 = .ok (.putfield 67, 3) := by decide +kernel
theorem dX8_next_130 : decode cX8_next 130 = .ok (.goto (-63), 3) := by decide +kernel
theorem dX8_next_133 : decode cX8_next 133 = .ok (.aload_n 0, 1) := by decide +kernel
theorem dX8_next_134 : decode cX8_next 134 = .ok (.aload_n 0, 1) := by decide +kernel
theorem dX8_next_135 : decode cX8_next 135 = .ok (.getfield 77, 3) := by decide +kernel
theorem dX8_next_138 : decode cX8_next 138 = .ok (.bipush 99, 2) := by decide +kernel
theorem dX8_next_140 : decode cX8_next 140 = .ok (.if_icmp .gt 22, 3) := by decide +kernel
theorem dX8_next_143 : decode cX8_next 143 = .ok (.iload_n 1, 1) := by decide +kernel
theorem dX8_next_144 : decode cX8_next 144 = .ok (.bipush 48, 2) := by decide +kernel
theorem dX8_next_146 : decode cX8_next 146 = .ok (.if_icmp .ne 20, 3) := by decide +kernel
theorem dX8_next_149 : decode cX8_next 149 = .ok (.aload_n 0, 1) := by decide +kernel
theorem dX8_next_150 : decode cX8_next 150 = .ok (.getfield 67, 3) := by decide +kernel
theorem dX8_next_153 : decode cX8_next 153 = .ok (.aload_n 0, 1) := by decide +kernel
theorem dX8_next_154 : decode cX8_next 154 = .ok (.getfield 74, 3) := by decide +kernel
theorem dX8_next_157 : decode cX8_next 157 = .ok (.isub, 1) := by decide +kernel
theorem dX8_next_158 : decode cX8_next 158 = .ok (.iconst 1, 1) := by decide +kernel
theorem dX8_next_159 : decode cX8_next 159 = .ok (.if_icmp .le 7, 3) := by decide +kernel
theorem dX8_next_162 : decode cX8_next 162 = .ok (.iconst 4, 1) := by decide +kernel
theorem dX8_next_163 : decode cX8_next 163 = .ok (.goto 4, 3) := by decide +kernel
theorem dX8_next_166 : decode cX8_next 166 = .ok (.iconst 2, 1) := by decide +kernel
theorem dX8_next_167 : decode cX8_next 167 = .ok (.putfield 80, 3) := by decide +kernel
theorem dX8_next_170 : decode cX8_next 170 = .ok (.goto 92, 3) := by decide +kernel
theorem dX8_next_173 : decode cX8_next 173 = .ok (.iload_n 1, 1) := by decide +kernel
theorem dX8_next_174 : decode cX8_next 174 = .ok (.invokestatic 87, 3) := by decide +kernel
theorem dX8_next_177 : decode cX8_next 177 = .ok (.ifCond .eq 60, 3) := by decide +kernel
theorem dX8_next_180 : decode cX8_next 180 = .ok (.aload_n 0, 1) := by decide +kernel
theorem dX8_next_181 : decode cX8_next 181 = .ok (.aload_n 0, 1) := by decide +kernel
theorem dX8_next_182 : decode cX8_next 182 = .ok (.getfield 67, 3) := by decide +kernel
theorem dX8_next_185 : decode cX8_next 185 = .ok (.invokevirtual 70, 3) := by decide +kernel
theorem dX8_next_188 : decode cX8_next 188 = .ok (.invokestatic 87, 3) := by decide +kernel
theorem dX8_next_191 : decode cX8_next 191 = .ok (.ifCond .eq 16, 3) := by decide +kernel
theorem dX8_next_194 : decode cX8_next 194 = .ok (.aload_n 0, 1) := by decide +kernel
theorem dX8_next_195 : decode cX8_next 195 = .ok (.dup, 1) := by decide +kernel
theorem dX8_next_196 : decode cX8_next 196 = .ok (.getfield 67, 3) := by decide +kernel
theorem dX8_next_199 : decode cX8_next 199 = .ok (.iconst 1, 1) := by decide +kernel
theorem dX8_next_200 : decode cX8_next 200 = .ok (.iadd, 1) := by decide +kernel
theorem dX8_next_201 : decode cX8_next 201 = .ok (.putfield 67, 3) := by decide +kernel
theorem dX8_next_204 : decode cX8_next 204 = .ok (.goto (-24), 3) := by decide +kernel
theorem dX8_next_207 : decode cX8_next 207 = .ok (.aload_n 0, 1) := by decide +kernel
theorem dX8_next_208 : decode cX8_next 208 = .ok (.iconst 1, 1) := by decide +kernel
theorem dX8_next_209 : decode cX8_next 209 = .ok (.putfield 80, 3) := by decide +kernel
theorem dX8_next_212 : decode cX8_next 212 = .ok (.aload_n 0, 1) := by decide +kernel
theorem dX8_next_213 : decode cX8_next 213 = .ok (.aload_n 0, 1) := by decide +kernel
theorem dX8_next_214 : decode cX8_next 214 = .ok (.getfield 67, 3) := by decide +kernel
theorem dX8_next_217 : decode cX8_next 217 = .ok (.aload_n 0, 1) := by decide +kernel
theorem dX8_next_218 : decode cX8_next 218 = .ok (.getfield 74, 3) := by decide +kernel
theorem dX8_next_221 : decode cX8_next 221 = .ok (.isub, 1) := by decide +kernel
theorem dX8_next_222 : decode cX8_next 222 = .ok (.iconst 1, 1) := by decide +kernel
theorem dX8_next_223 : decode cX8_next 223 = .ok (.if_icmp .ne 7, 3) := by decide +kernel
theorem dX8_next_226 : decode cX8_next 226 = .ok (.iload_n 1, 1) := by decide +kernel
theorem dX8_next_227 : decode cX8_next 227 = .ok (.goto 4, 3) := by decide +kernel
theorem dX8_next_230 : decode cX8_next 230 = .ok (.iconst 0, 1) := by decide +kernel
theorem dX8_next_231 : decode cX8_next 231 = .ok (.putfield 77, 3) := by decide +kernel
theorem dX8_next_234 : decode cX8_next 234 = .ok (.goto 28, 3) := by decide +kernel
theorem dX8_next_237 : decode cX8_next 237 = .ok (.aload_n 0, 1) := by decide +kernel
theorem dX8_next_238 : decode cX8_next 238 = .ok (.iload_n 1, 1) := by decide +kernel
theorem dX8_next_239 : decode cX8_next 239 = .ok (.bipush 59, 2) := by decide +kernel
theorem dX8_next_241 : decode cX8_next 241 = .ok (.if_icmp .ne 7, 3) := by decide +kernel
theorem dX8_next_244 : decode cX8_next 244 = .ok (.iconst 3, 1) := by decide +kernel
theorem dX8_next_245 : decode cX8_next 245 = .ok (.goto 4, 3) := by decide +kernel
theorem dX8_next_248 : decode cX8_next 248 = .ok (.iconst 4, 1) := by decide +kernel
theorem dX8_next_249 : decode cX8_next 249 = .ok (.putfield 80, 3) := by decide +kernel
theorem dX8_next_252 : decode cX8_next 252 = .ok (.aload_n 0, 1) := by decide +kernel
theorem dX8_next_253 : decode cX8_next 253 = .ok (.dup, 1) := by decide +kernel
theorem dX8_next_254 : decode cX8_next 254 = .ok (.getfield 67, 3) := by decide +kernel
theorem dX8_next_257 : decode cX8_next 257 = .ok (.iconst 1, 1) := by decide +kernel
theorem dX8_next_258 : decode cX8_next 258 = .ok (.iadd, 1) := by decide +kernel
theorem dX8_next_259 : decode cX8_next 259 = .ok (.putfield 67, 3) := by decide +kernel
theorem dX8_next_262 : decode cX8_next 262 = .ok (.return_, 1) := by decide +kernel
theorem dX8_takesNumber_0 : decode cX8_takesNumber 0 = .ok (.aload_n 0, 1) := by decide +kernel
theorem dX8_takesNumber_1 : decode cX8_takesNumber 1 = .ok (.getfield 90, 3) := by decide +kernel
theorem dX8_takesNumber_4 : decode cX8_takesNumber 4 = .ok (.ifCond .ne 27, 3) := by decide +kernel
theorem dX8_takesNumber_7 : decode cX8_takesNumber 7 = .ok (.aload_n 0, 1) := by decide +kernel
theorem dX8_takesNumber_8 : decode cX8_takesNumber 8 = .ok (.getfield 80, 3) := by decide +kernel
theorem dX8_takesNumber_11 : decode cX8_takesNumber 11 = .ok (.iconst 2, 1) := by decide +kernel
theorem dX8_takesNumber_12 : decode cX8_takesNumber 12 = .ok (.if_icmp .ne 19, 3) := by decide +kernel
theorem dX8_takesNumber_15 : decode cX8_takesNumber 15 = .ok (.aload_n 0, 1) := by decide +kernel
theorem dX8_takesNumber_16 : decode cX8_takesNumber 16 = .ok (.getfield 77, 3) := by decide +kernel
theorem dX8_takesNumber_19 : decode cX8_takesNumber 19 = .ok (.iload_n 1, 1) := by decide +kernel
theorem dX8_takesNumber_20 : decode cX8_takesNumber 20 = .ok (.iload_n 2, 1) := by decide +kernel
theorem dX8_takesNumber_21 : decode cX8_takesNumber 21 = .ok (.invokestatic 60, 3) := by decide +kernel
theorem dX8_takesNumber_24 : decode cX8_takesNumber 24 = .ok (.ifCond .eq 7, 3) := by decide +kernel
theorem dX8_takesNumber_27 : decode cX8_takesNumber 27 = .ok (.iconst 1, 1) := by decide +kernel
theorem dX8_takesNumber_28 : decode cX8_takesNumber 28 = .ok (.goto 4, 3) := by decide +kernel
theorem dX8_takesNumber_31 : decode cX8_takesNumber 31 = .ok (.iconst 0, 1) := by decide +kernel
theorem dX8_takesNumber_32 : decode cX8_takesNumber 32 = .ok (.istore_n 3, 1) := by decide +kernel
theorem dX8_takesNumber_33 : decode cX8_takesNumber 33 = .ok (.aload_n 0, 1) := by decide +kernel
theorem dX8_takesNumber_34 : decode cX8_takesNumber 34 = .ok (.iload_n 3, 1) := by decide +kernel
theorem dX8_takesNumber_35 : decode cX8_takesNumber 35 = .ok (.ifCond .ne 7, 3) := by decide +kernel
theorem dX8_takesNumber_38 : decode cX8_takesNumber 38 = .ok (.iconst 1, 1) := by decide +kernel
theorem dX8_takesNumber_39 : decode cX8_takesNumber 39 = .ok (.goto 4, 3) := by decide +kernel
theorem dX8_takesNumber_42 : decode cX8_takesNumber 42 = .ok (.iconst 0, 1) := by decide +kernel
theorem dX8_takesNumber_43 : decode cX8_takesNumber 43 = .ok (.putfield 90, 3) := by decide +kernel
theorem dX8_takesNumber_46 : decode cX8_takesNumber 46 = .ok (.aload_n 0, 1) := by decide +kernel
theorem dX8_takesNumber_47 : decode cX8_takesNumber 47 = .ok (.getfield 77, 3) := by decide +kernel
theorem dX8_takesNumber_50 : decode cX8_takesNumber 50 = .ok (.istore 4, 2) := by decide +kernel
theorem dX8_takesNumber_52 : decode cX8_takesNumber 52 = .ok (.iload_n 3, 1) := by decide +kernel
theorem dX8_takesNumber_53 : decode cX8_takesNumber 53 = .ok (.ifCond .eq 7, 3) := by decide +kernel
theorem dX8_takesNumber_56 : decode cX8_takesNumber 56 = .ok (.aload_n 0, 1) := by decide +kernel
theorem dX8_takesNumber_57 : decode cX8_takesNumber 57 = .ok (.invokevirtual 94, 3) := by decide +kernel
theorem dX8_takesNumber_60 : decode cX8_takesNumber 60 = .ok (.iload_n 3, 1) := by decide +kernel
theorem dX8_takesNumber_61 : decode cX8_takesNumber 61 = .ok (.ifCond .eq 8, 3) := by decide +kernel
theorem dX8_takesNumber_64 : decode cX8_takesNumber 64 = .ok (.iload 4, 2) := by decide +kernel
theorem dX8_takesNumber_66 : decode cX8_takesNumber 66 = .ok (.goto 4, 3) := by decide +kernel
theorem dX8_takesNumber_69 : decode cX8_takesNumber 69 = .ok (.iconst 0, 1) := by decide +kernel
theorem dX8_takesNumber_70 : decode cX8_takesNumber 70 = .ok (.ireturn, 1) := by decide +kernel
theorem dX8_readOne_0 : decode cX8_readOne 0 = .ok (.aload_n 0, 1) := by decide +kernel
theorem dX8_readOne_1 : decode cX8_readOne 1 = .ok (.getfield 97, 3) := by decide +kernel
theorem dX8_readOne_4 : decode cX8_readOne 4 = .ok (.istore_n 1, 1) := by decide +kernel
theorem dX8_readOne_5 : decode cX8_readOne 5 = .ok (.aload_n 0, 1) := by decide +kernel
theorem dX8_readOne_6 : decode cX8_readOne 6 = .ok (.getfield 42, 3) := by decide +kernel
theorem dX8_readOne_9 : decode cX8_readOne 9 = .ok (.iload_n 1, 1) := by decide +kernel
theorem dX8_readOne_10 : decode cX8_readOne 10 = .ok (.aload_n 0, 1) := by decide +kernel
theorem dX8_readOne_11 : decode cX8_readOne 11 = .ok (.iconst 0, 1) := by decide +kernel
theorem dX8_readOne_12 : decode cX8_readOne 12 = .ok (.bipush 9, 2) := by decide +kernel
theorem dX8_readOne_14 : decode cX8_readOne 14 = .ok (.invokevirtual 100, 3) := by decide +kernel
theorem dX8_readOne_17 : decode cX8_readOne 17 = .ok (.iastore, 1) := by decide +kernel
theorem dX8_readOne_18 : decode cX8_readOne 18 = .ok (.iconst 0, 1) := by decide +kernel
theorem dX8_readOne_19 : decode cX8_readOne 19 = .ok (.istore_n 2, 1) := by decide +kernel
theorem dX8_readOne_20 : decode cX8_readOne 20 = .ok (.aload_n 0, 1) := by decide +kernel
theorem dX8_readOne_21 : decode cX8_readOne 21 = .ok (.getfield 90, 3) := by decide +kernel
theorem dX8_readOne_24 : decode cX8_readOne 24 = .ok (.ifCond .ne 45, 3) := by decide +kernel
theorem dX8_readOne_27 : decode cX8_readOne 27 = .ok (.aload_n 0, 1) := by decide +kernel
theorem dX8_readOne_28 : decode cX8_readOne 28 = .ok (.getfield 80, 3) := by decide +kernel
theorem dX8_readOne_31 : decode cX8_readOne 31 = .ok (.iconst 2, 1) := by decide +kernel
theorem dX8_readOne_32 : decode cX8_readOne 32 = .ok (.if_icmp .ne 9, 3) := by decide +kernel
theorem dX8_readOne_35 : decode cX8_readOne 35 = .ok (.iload_n 2, 1) := by decide +kernel
theorem dX8_readOne_36 : decode cX8_readOne 36 = .ok (.bipush 7, 2) := by decide +kernel
theorem dX8_readOne_38 : decode cX8_readOne 38 = .ok (.if_icmp .lt 7, 3) := by decide +kernel
theorem dX8_readOne_41 : decode cX8_readOne 41 = .ok (.iload_n 2, 1) := by decide +kernel
theorem dX8_readOne_42 : decode cX8_readOne 42 = .ok (.ifCond .ne 27, 3) := by decide +kernel
theorem dX8_readOne_45 : decode cX8_readOne 45 = .ok (.aload_n 0, 1) := by decide +kernel
theorem dX8_readOne_46 : decode cX8_readOne 46 = .ok (.getfield 48, 3) := by decide +kernel
theorem dX8_readOne_49 : decode cX8_readOne 49 = .ok (.bipush 7, 2) := by decide +kernel
theorem dX8_readOne_51 : decode cX8_readOne 51 = .ok (.iload_n 1, 1) := by decide +kernel
theorem dX8_readOne_52 : decode cX8_readOne 52 = .ok (.imul, 1) := by decide +kernel
theorem dX8_readOne_53 : decode cX8_readOne 53 = .ok (.iload_n 2, 1) := by decide +kernel
theorem dX8_readOne_54 : decode cX8_readOne 54 = .ok (.iadd, 1) := by decide +kernel
theorem dX8_readOne_55 : decode cX8_readOne 55 = .ok (.aload_n 0, 1) := by decide +kernel
theorem dX8_readOne_56 : decode cX8_readOne 56 = .ok (.iconst 0, 1) := by decide +kernel
theorem dX8_readOne_57 : decode cX8_readOne 57 = .ok (.bipush 9, 2) := by decide +kernel
theorem dX8_readOne_59 : decode cX8_readOne 59 = .ok (.invokevirtual 100, 3) := by decide +kernel
theorem dX8_readOne_62 : decode cX8_readOne 62 = .ok (.iastore, 1) := by decide +kernel
theorem dX8_readOne_63 : decode cX8_readOne 63 = .ok (.iinc 2 1, 3) := by decide +kernel
theorem dX8_readOne_66 : decode cX8_readOne 66 = .ok (.goto (-46), 3) := by decide +kernel
theorem dX8_readOne_69 : decode cX8_readOne 69 = .ok (.aload_n 0, 1) := by decide +kernel
theorem dX8_readOne_70 : decode cX8_readOne 70 = .ok (.getfield 45, 3) := by decide +kernel
theorem dX8_readOne_73 : decode cX8_readOne 73 = .ok (.iload_n 1, 1) := by decide +kernel
theorem dX8_readOne_74 : decode cX8_readOne 74 = .ok (.iload_n 2, 1) := by decide +kernel
theorem dX8_readOne_75 : decode cX8_readOne 75 = .ok (.iastore, 1) := by decide +kernel
theorem dX8_readOne_76 : decode cX8_readOne 76 = .ok (.aload_n 0, 1) := by decide +kernel
theorem dX8_readOne_77 : decode cX8_readOne 77 = .ok (.dup, 1) := by decide +kernel
theorem dX8_readOne_78 : decode cX8_readOne 78 = .ok (.getfield 97, 3) := by decide +kernel
theorem dX8_readOne_81 : decode cX8_readOne 81 = .ok (.iconst 1, 1) := by decide +kernel
theorem dX8_readOne_82 : decode cX8_readOne 82 = .ok (.iadd, 1) := by decide +kernel
theorem dX8_readOne_83 : decode cX8_readOne 83 = .ok (.putfield 97, 3) := by decide +kernel
theorem dX8_readOne_86 : decode cX8_readOne 86 = .ok (.return_, 1) := by decide +kernel
theorem dX8_mayBegin_0 : decode cX8_mayBegin 0 = .ok (.iload_n 1, 1) := by decide +kernel
theorem dX8_mayBegin_1 : decode cX8_mayBegin 1 = .ok (.lookupswitch 75 #[(106, 62), (109, 49), (112, 35)], 35) := by decide +kernel
theorem dX8_mayBegin_36 : decode cX8_mayBegin 36 = .ok (.aload_n 0, 1) := by decide +kernel
theorem dX8_mayBegin_37 : decode cX8_mayBegin 37 = .ok (.getfield 97, 3) := by decide +kernel
theorem dX8_mayBegin_40 : decode cX8_mayBegin 40 = .ok (.iconst 5, 1) := by decide +kernel
theorem dX8_mayBegin_41 : decode cX8_mayBegin 41 = .ok (.if_icmp .ge 7, 3) := by decide +kernel
theorem dX8_mayBegin_44 : decode cX8_mayBegin 44 = .ok (.iconst 1, 1) := by decide +kernel
theorem dX8_mayBegin_45 : decode cX8_mayBegin 45 = .ok (.goto 4, 3) := by decide +kernel
theorem dX8_mayBegin_48 : decode cX8_mayBegin 48 = .ok (.iconst 0, 1) := by decide +kernel
theorem dX8_mayBegin_49 : decode cX8_mayBegin 49 = .ok (.ireturn, 1) := by decide +kernel
theorem dX8_mayBegin_50 : decode cX8_mayBegin 50 = .ok (.aload_n 0, 1) := by decide +kernel
theorem dX8_mayBegin_51 : decode cX8_mayBegin 51 = .ok (.getfield 104, 3) := by decide +kernel
theorem dX8_mayBegin_54 : decode cX8_mayBegin 54 = .ok (.ifCond .ge 7, 3) := by decide +kernel
theorem dX8_mayBegin_57 : decode cX8_mayBegin 57 = .ok (.iconst 1, 1) := by decide +kernel
theorem dX8_mayBegin_58 : decode cX8_mayBegin 58 = .ok (.goto 4, 3) := by decide +kernel
theorem dX8_mayBegin_61 : decode cX8_mayBegin 61 = .ok (.iconst 0, 1) := by decide +kernel
theorem dX8_mayBegin_62 : decode cX8_mayBegin 62 = .ok (.ireturn, 1) := by decide +kernel
theorem dX8_mayBegin_63 : decode cX8_mayBegin 63 = .ok (.aload_n 0, 1) := by decide +kernel
theorem dX8_mayBegin_64 : decode cX8_mayBegin 64 = .ok (.getfield 107, 3) := by decide +kernel
theorem dX8_mayBegin_67 : decode cX8_mayBegin 67 = .ok (.ifCond .ge 7, 3) := by decide +kernel
theorem dX8_mayBegin_70 : decode cX8_mayBegin 70 = .ok (.iconst 1, 1) := by decide +kernel
theorem dX8_mayBegin_71 : decode cX8_mayBegin 71 = .ok (.goto 4, 3) := by decide +kernel
theorem dX8_mayBegin_74 : decode cX8_mayBegin 74 = .ok (.iconst 0, 1) := by decide +kernel
theorem dX8_mayBegin_75 : decode cX8_mayBegin 75 = .ok (.ireturn, 1) := by decide +kernel
theorem dX8_mayBegin_76 : decode cX8_mayBegin 76 = .ok (.iconst 0, 1) := by decide +kernel
theorem dX8_mayBegin_77 : decode cX8_mayBegin 77 = .ok (.ireturn, 1) := by decide +kernel
theorem dX8_readItem_0 : decode cX8_readItem 0 = .ok (.aload_n 0, 1) := by decide +kernel
theorem dX8_readItem_1 : decode cX8_readItem 1 = .ok (.getfield 77, 3) := by decide +kernel
theorem dX8_readItem_4 : decode cX8_readItem 4 = .ok (.istore_n 1, 1) := by decide +kernel
theorem dX8_readItem_5 : decode cX8_readItem 5 = .ok (.aload_n 0, 1) := by decide +kernel
theorem dX8_readItem_6 : decode cX8_readItem 6 = .ok (.getfield 80, 3) := by decide +kernel
theorem dX8_readItem_9 : decode cX8_readItem 9 = .ok (.iconst 1, 1) := by decide +kernel
theorem dX8_readItem_10 : decode cX8_readItem 10 = .ok (.if_icmp .ne 11, 3) := by decide +kernel
theorem dX8_readItem_13 : decode cX8_readItem 13 = .ok (.aload_n 0, 1) := by decide +kernel
theorem dX8_readItem_14 : decode cX8_readItem 14 = .ok (.iload_n 1, 1) := by decide +kernel
theorem dX8_readItem_15 : decode cX8_readItem 15 = .ok (.invokevirtual 110, 3) := by decide +kernel
theorem dX8_readItem_18 : decode cX8_readItem 18 = .ok (.ifCond .ne 9, 3) := by decide +kernel
theorem dX8_readItem_21 : decode cX8_readItem 21 = .ok (.aload_n 0, 1) := by decide +kernel
theorem dX8_readItem_22 : decode cX8_readItem 22 = .ok (.iconst 1, 1) := by decide +kernel
theorem dX8_readItem_23 : decode cX8_readItem 23 = .ok (.putfield 90, 3) := by decide +kernel
theorem dX8_readItem_26 : decode cX8_readItem 26 = .ok (.return_, 1) := by decide +kernel
theorem dX8_readItem_27 : decode cX8_readItem 27 = .ok (.aload_n 0, 1) := by decide +kernel
theorem dX8_readItem_28 : decode cX8_readItem 28 = .ok (.invokevirtual 94, 3) := by decide +kernel
theorem dX8_readItem_31 : decode cX8_readItem 31 = .ok (.iload_n 1, 1) := by decide +kernel
theorem dX8_readItem_32 : decode cX8_readItem 32 = .ok (.bipush 112, 2) := by decide +kernel
theorem dX8_readItem_34 : decode cX8_readItem 34 = .ok (.if_icmp .ne 10, 3) := by decide +kernel
theorem dX8_readItem_37 : decode cX8_readItem 37 = .ok (.aload_n 0, 1) := by decide +kernel
theorem dX8_readItem_38 : decode cX8_readItem 38 = .ok (.invokevirtual 113, 3) := by decide +kernel
theorem dX8_readItem_41 : decode cX8_readItem 41 = .ok (.goto 33, 3) := by decide +kernel
theorem dX8_readItem_44 : decode cX8_readItem 44 = .ok (.iload_n 1, 1) := by decide +kernel
theorem dX8_readItem_45 : decode cX8_readItem 45 = .ok (.bipush 109, 2) := by decide +kernel
theorem dX8_readItem_47 : decode cX8_readItem 47 = .ok (.if_icmp .ne 17, 3) := by decide +kernel
theorem dX8_readItem_50 : decode cX8_readItem 50 = .ok (.aload_n 0, 1) := by decide +kernel
theorem dX8_readItem_51 : decode cX8_readItem 51 = .ok (.aload_n 0, 1) := by decide +kernel
theorem dX8_readItem_52 : decode cX8_readItem 52 = .ok (.iconst 1, 1) := by decide +kernel
theorem dX8_readItem_53 : decode cX8_readItem 53 = .ok (.bipush 12, 2) := by decide +kernel
theorem dX8_readItem_55 : decode cX8_readItem 55 = .ok (.invokevirtual 100, 3) := by decide +kernel
theorem dX8_readItem_58 : decode cX8_readItem 58 = .ok (.putfield 104, 3) := by decide +kernel
theorem dX8_readItem_61 : decode cX8_readItem 61 = .ok (.goto 13, 3) := by decide +kernel
theorem dX8_readItem_64 : decode cX8_readItem 64 = .ok (.aload_n 0, 1) := by decide +kernel
theorem dX8_readItem_65 : decode cX8_readItem 65 = .ok (.aload_n 0, 1) := by decide +kernel
theorem dX8_readItem_66 : decode cX8_readItem 66 = .ok (.iconst 0, 1) := by decide +kernel
theorem dX8_readItem_67 : decode cX8_readItem 67 = .ok (.iconst 3, 1) := by decide +kernel
theorem dX8_readItem_68 : decode cX8_readItem 68 = .ok (.invokevirtual 100, 3) := by decide +kernel
theorem dX8_readItem_71 : decode cX8_readItem 71 = .ok (.putfield 107, 3) := by decide +kernel
theorem dX8_readItem_74 : decode cX8_readItem 74 = .ok (.aload_n 0, 1) := by decide +kernel
theorem dX8_readItem_75 : decode cX8_readItem 75 = .ok (.aload_n 0, 1) := by decide +kernel
theorem dX8_readItem_76 : decode cX8_readItem 76 = .ok (.getfield 90, 3) := by decide +kernel
theorem dX8_readItem_79 : decode cX8_readItem 79 = .ok (.ifCond .ne 11, 3) := by decide +kernel
theorem dX8_readItem_82 : decode cX8_readItem 82 = .ok (.aload_n 0, 1) := by decide +kernel
theorem dX8_readItem_83 : decode cX8_readItem 83 = .ok (.getfield 80, 3) := by decide +kernel
theorem dX8_readItem_86 : decode cX8_readItem 86 = .ok (.iconst 3, 1) := by decide +kernel
theorem dX8_readItem_87 : decode cX8_readItem 87 = .ok (.if_icmp .eq 7, 3) := by decide +kernel
theorem dX8_readItem_90 : decode cX8_readItem 90 = .ok (.iconst 1, 1) := by decide +kernel
theorem dX8_readItem_91 : decode cX8_readItem 91 = .ok (.goto 4, 3) := by decide +kernel
theorem dX8_readItem_94 : decode cX8_readItem 94 = .ok (.iconst 0, 1) := by decide +kernel
theorem dX8_readItem_95 : decode cX8_readItem 95 = .ok (.putfield 90, 3) := by decide +kernel
theorem dX8_readItem_98 : decode cX8_readItem 98 = .ok (.aload_n 0, 1) := by decide +kernel
theorem dX8_readItem_99 : decode cX8_readItem 99 = .ok (.getfield 90, 3) := by decide +kernel
theorem dX8_readItem_102 : decode cX8_readItem 102 = .ok (.ifCond .ne 7, 3) := by decide +kernel
theorem dX8_readItem_105 : decode cX8_readItem 105 = .ok (.aload_n 0, 1) := by decide +kernel
theorem dX8_readItem_106 : decode cX8_readItem 106 = .ok (.invokevirtual 94, 3) := by decide +kernel
theorem dX8_readItem_109 : decode cX8_readItem 109 = .ok (.return_, 1) := by decide +kernel
theorem dX8_shop_0 : decode cX8_shop 0 = .ok (.aload_n 0, 1) := by decide +kernel
theorem dX8_shop_1 : decode cX8_shop 1 = .ok (.iconst 0, 1) := by decide +kernel
theorem dX8_shop_2 : decode cX8_shop 2 = .ok (.putfield 67, 3) := by decide +kernel
theorem dX8_shop_5 : decode cX8_shop 5 = .ok (.aload_n 0, 1) := by decide +kernel
theorem dX8_shop_6 : decode cX8_shop 6 = .ok (.iconst 0, 1) := by decide +kernel
theorem dX8_shop_7 : decode cX8_shop 7 = .ok (.putfield 90, 3) := by decide +kernel
theorem dX8_shop_10 : decode cX8_shop 10 = .ok (.aload_n 0, 1) := by decide +kernel
theorem dX8_shop_11 : decode cX8_shop 11 = .ok (.iconst 0, 1) := by decide +kernel
theorem dX8_shop_12 : decode cX8_shop 12 = .ok (.putfield 116, 3) := by decide +kernel
theorem dX8_shop_15 : decode cX8_shop 15 = .ok (.aload_n 0, 1) := by decide +kernel
theorem dX8_shop_16 : decode cX8_shop 16 = .ok (.iconst 0, 1) := by decide +kernel
theorem dX8_shop_17 : decode cX8_shop 17 = .ok (.putfield 97, 3) := by decide +kernel
theorem dX8_shop_20 : decode cX8_shop 20 = .ok (.aload_n 0, 1) := by decide +kernel
theorem dX8_shop_21 : decode cX8_shop 21 = .ok (.iconst (-1), 1) := by decide +kernel
theorem dX8_shop_22 : decode cX8_shop 22 = .ok (.putfield 104, 3) := by decide +kernel
theorem dX8_shop_25 : decode cX8_shop 25 = .ok (.aload_n 0, 1) := by decide +kernel
theorem dX8_shop_26 : decode cX8_shop 26 = .ok (.iconst (-1), 1) := by decide +kernel
theorem dX8_shop_27 : decode cX8_shop 27 = .ok (.putfield 107, 3) := by decide +kernel
theorem dX8_shop_30 : decode cX8_shop 30 = .ok (.aload_n 0, 1) := by decide +kernel
theorem dX8_shop_31 : decode cX8_shop 31 = .ok (.invokevirtual 94, 3) := by decide +kernel
theorem dX8_shop_34 : decode cX8_shop 34 = .ok (.aload_n 0, 1) := by decide +kernel
theorem dX8_shop_35 : decode cX8_shop 35 = .ok (.getfield 80, 3) := by decide +kernel
theorem dX8_shop_38 : decode cX8_shop 38 = .ok (.ifCond .eq 27, 3) := by decide +kernel
theorem dX8_shop_41 : decode cX8_shop 41 = .ok (.aload_n 0, 1) := by decide +kernel
theorem dX8_shop_42 : decode cX8_shop 42 = .ok (.getfield 90, 3) := by decide +kernel
theorem dX8_shop_45 : decode cX8_shop 45 = .ok (.ifCond .ne 20, 3) := by decide +kernel
theorem dX8_shop_48 : decode cX8_shop 48 = .ok (.aload_n 0, 1) := by decide +kernel
theorem dX8_shop_49 : decode cX8_shop 49 = .ok (.invokevirtual 119, 3) := by decide +kernel
theorem dX8_shop_52 : decode cX8_shop 52 = .ok (.aload_n 0, 1) := by decide +kernel
theorem dX8_shop_53 : decode cX8_shop 53 = .ok (.dup, 1) := by decide +kernel
theorem dX8_shop_54 : decode cX8_shop 54 = .ok (.getfield 116, 3) := by decide +kernel
theorem dX8_shop_57 : decode cX8_shop 57 = .ok (.iconst 1, 1) := by decide +kernel
theorem dX8_shop_58 : decode cX8_shop 58 = .ok (.iadd, 1) := by decide +kernel
theorem dX8_shop_59 : decode cX8_shop 59 = .ok (.putfield 116, 3) := by decide +kernel
theorem dX8_shop_62 : decode cX8_shop 62 = .ok (.goto (-28), 3) := by decide +kernel
theorem dX8_shop_65 : decode cX8_shop 65 = .ok (.aload_n 0, 1) := by decide +kernel
theorem dX8_shop_66 : decode cX8_shop 66 = .ok (.getfield 90, 3) := by decide +kernel
theorem dX8_shop_69 : decode cX8_shop 69 = .ok (.ifCond .eq 11, 3) := by decide +kernel
theorem dX8_shop_72 : decode cX8_shop 72 = .ok (.bipush (-10), 2) := by decide +kernel
theorem dX8_shop_74 : decode cX8_shop 74 = .ok (.aload_n 0, 1) := by decide +kernel
theorem dX8_shop_75 : decode cX8_shop 75 = .ok (.getfield 74, 3) := by decide +kernel
theorem dX8_shop_78 : decode cX8_shop 78 = .ok (.isub, 1) := by decide +kernel
theorem dX8_shop_79 : decode cX8_shop 79 = .ok (.ireturn, 1) := by decide +kernel
theorem dX8_shop_80 : decode cX8_shop 80 = .ok (.aload_n 0, 1) := by decide +kernel
theorem dX8_shop_81 : decode cX8_shop 81 = .ok (.invokevirtual 122, 3) := by decide +kernel
theorem dX8_shop_84 : decode cX8_shop 84 = .ok (.aload_n 0, 1) := by decide +kernel
theorem dX8_shop_85 : decode cX8_shop 85 = .ok (.getfield 116, 3) := by decide +kernel
theorem dX8_shop_88 : decode cX8_shop 88 = .ok (.ireturn, 1) := by decide +kernel
theorem dX8_settles_0 : decode cX8_settles 0 = .ok (.aload_n 0, 1) := by decide +kernel
theorem dX8_settles_1 : decode cX8_settles 1 = .ok (.aload_n 0, 1) := by decide +kernel
theorem dX8_settles_2 : decode cX8_settles 2 = .ok (.getfield 97, 3) := by decide +kernel
theorem dX8_settles_5 : decode cX8_settles 5 = .ok (.putfield 57, 3) := by decide +kernel
theorem dX8_settles_8 : decode cX8_settles 8 = .ok (.iconst 0, 1) := by decide +kernel
theorem dX8_settles_9 : decode cX8_settles 9 = .ok (.istore_n 1, 1) := by decide +kernel
theorem dX8_settles_10 : decode cX8_settles 10 = .ok (.iload_n 1, 1) := by decide +kernel
theorem dX8_settles_11 : decode cX8_settles 11 = .ok (.iconst 5, 1) := by decide +kernel
theorem dX8_settles_12 : decode cX8_settles 12 = .ok (.if_icmp .ge 33, 3) := by decide +kernel
theorem dX8_settles_15 : decode cX8_settles 15 = .ok (.aload_n 0, 1) := by decide +kernel
theorem dX8_settles_16 : decode cX8_settles 16 = .ok (.getfield 7, 3) := by decide +kernel
theorem dX8_settles_19 : decode cX8_settles 19 = .ok (.iload_n 1, 1) := by decide +kernel
theorem dX8_settles_20 : decode cX8_settles 20 = .ok (.aload_n 0, 1) := by decide +kernel
theorem dX8_settles_21 : decode cX8_settles 21 = .ok (.getfield 42, 3) := by decide +kernel
theorem dX8_settles_24 : decode cX8_settles 24 = .ok (.iload_n 1, 1) := by decide +kernel
theorem dX8_settles_25 : decode cX8_settles 25 = .ok (.iaload, 1) := by decide +kernel
theorem dX8_settles_26 : decode cX8_settles 26 = .ok (.iastore, 1) := by decide +kernel
theorem dX8_settles_27 : decode cX8_settles 27 = .ok (.aload_n 0, 1) := by decide +kernel
theorem dX8_settles_28 : decode cX8_settles 28 = .ok (.getfield 13, 3) := by decide +kernel
theorem dX8_settles_31 : decode cX8_settles 31 = .ok (.iload_n 1, 1) := by decide +kernel
theorem dX8_settles_32 : decode cX8_settles 32 = .ok (.aload_n 0, 1) := by decide +kernel
theorem dX8_settles_33 : decode cX8_settles 33 = .ok (.getfield 45, 3) := by decide +kernel
theorem dX8_settles_36 : decode cX8_settles 36 = .ok (.iload_n 1, 1) := by decide +kernel
theorem dX8_settles_37 : decode cX8_settles 37 = .ok (.iaload, 1) := by decide +kernel
theorem dX8_settles_38 : decode cX8_settles 38 = .ok (.iastore, 1) := by decide +kernel
theorem dX8_settles_39 : decode cX8_settles 39 = .ok (.iinc 1 1, 3) := by decide +kernel
theorem dX8_settles_42 : decode cX8_settles 42 = .ok (.goto (-32), 3) := by decide +kernel
theorem dX8_settles_45 : decode cX8_settles 45 = .ok (.iconst 0, 1) := by decide +kernel
theorem dX8_settles_46 : decode cX8_settles 46 = .ok (.istore_n 1, 1) := by decide +kernel
theorem dX8_settles_47 : decode cX8_settles 47 = .ok (.iload_n 1, 1) := by decide +kernel
theorem dX8_settles_48 : decode cX8_settles 48 = .ok (.bipush 35, 2) := by decide +kernel
theorem dX8_settles_50 : decode cX8_settles 50 = .ok (.if_icmp .ge 21, 3) := by decide +kernel
theorem dX8_settles_53 : decode cX8_settles 53 = .ok (.aload_n 0, 1) := by decide +kernel
theorem dX8_settles_54 : decode cX8_settles 54 = .ok (.getfield 16, 3) := by decide +kernel
theorem dX8_settles_57 : decode cX8_settles 57 = .ok (.iload_n 1, 1) := by decide +kernel
theorem dX8_settles_58 : decode cX8_settles 58 = .ok (.aload_n 0, 1) := by decide +kernel
theorem dX8_settles_59 : decode cX8_settles 59 = .ok (.getfield 48, 3) := by decide +kernel
theorem dX8_settles_62 : decode cX8_settles 62 = .ok (.iload_n 1, 1) := by decide +kernel
theorem dX8_settles_63 : decode cX8_settles 63 = .ok (.iaload, 1) := by decide +kernel
theorem dX8_settles_64 : decode cX8_settles 64 = .ok (.iastore, 1) := by decide +kernel
theorem dX8_settles_65 : decode cX8_settles 65 = .ok (.iinc 1 1, 3) := by decide +kernel
theorem dX8_settles_68 : decode cX8_settles 68 = .ok (.goto (-21), 3) := by decide +kernel
theorem dX8_settles_71 : decode cX8_settles 71 = .ok (.aload_n 0, 1) := by decide +kernel
theorem dX8_settles_72 : decode cX8_settles 72 = .ok (.aload_n 0, 1) := by decide +kernel
theorem dX8_settles_73 : decode cX8_settles 73 = .ok (.getfield 104, 3) := by decide +kernel
theorem dX8_settles_76 : decode cX8_settles 76 = .ok (.ifCond .ge 8, 3) := by decide +kernel
theorem dX8_settles_79 : decode cX8_settles 79 = .ok (.bipush 12, 2) := by decide +kernel
theorem dX8_settles_81 : decode cX8_settles 81 = .ok (.goto 7, 3) := by decide +kernel
theorem dX8_settles_84 : decode cX8_settles 84 = .ok (.aload_n 0, 1) := by decide +kernel
theorem dX8_settles_85 : decode cX8_settles 85 = .ok (.getfield 104, 3) := by decide +kernel
theorem dX8_settles_88 : decode cX8_settles 88 = .ok (.putfield 19, 3) := by decide +kernel
theorem dX8_settles_91 : decode cX8_settles 91 = .ok (.iconst 0, 1) := by decide +kernel
theorem dX8_settles_92 : decode cX8_settles 92 = .ok (.istore_n 1, 1) := by decide +kernel
theorem dX8_settles_93 : decode cX8_settles 93 = .ok (.iload_n 1, 1) := by decide +kernel
theorem dX8_settles_94 : decode cX8_settles 94 = .ok (.sipush 1233, 3) := by decide +kernel
theorem dX8_settles_97 : decode cX8_settles 97 = .ok (.if_icmp .ge 16, 3) := by decide +kernel
theorem dX8_settles_100 : decode cX8_settles 100 = .ok (.aload_n 0, 1) := by decide +kernel
theorem dX8_settles_101 : decode cX8_settles 101 = .ok (.getfield 23, 3) := by decide +kernel
theorem dX8_settles_104 : decode cX8_settles 104 = .ok (.iload_n 1, 1) := by decide +kernel
theorem dX8_settles_105 : decode cX8_settles 105 = .ok (.iconst 0, 1) := by decide +kernel
theorem dX8_settles_106 : decode cX8_settles 106 = .ok (.iastore, 1) := by decide +kernel
theorem dX8_settles_107 : decode cX8_settles 107 = .ok (.iinc 1 1, 3) := by decide +kernel
theorem dX8_settles_110 : decode cX8_settles 110 = .ok (.goto (-17), 3) := by decide +kernel
theorem dX8_settles_113 : decode cX8_settles 113 = .ok (.aload_n 0, 1) := by decide +kernel
theorem dX8_settles_114 : decode cX8_settles 114 = .ok (.getfield 23, 3) := by decide +kernel
theorem dX8_settles_117 : decode cX8_settles 117 = .ok (.iconst 1, 1) := by decide +kernel
theorem dX8_settles_118 : decode cX8_settles 118 = .ok (.aload_n 0, 1) := by decide +kernel
theorem dX8_settles_119 : decode cX8_settles 119 = .ok (.getfield 107, 3) := by decide +kernel
theorem dX8_settles_122 : decode cX8_settles 122 = .ok (.ifCond .ge 7, 3) := by decide +kernel
theorem dX8_settles_125 : decode cX8_settles 125 = .ok (.iconst 0, 1) := by decide +kernel
theorem dX8_settles_126 : decode cX8_settles 126 = .ok (.goto 7, 3) := by decide +kernel
theorem dX8_settles_129 : decode cX8_settles 129 = .ok (.aload_n 0, 1) := by decide +kernel
theorem dX8_settles_130 : decode cX8_settles 130 = .ok (.getfield 107, 3) := by decide +kernel
theorem dX8_settles_133 : decode cX8_settles 133 = .ok (.iastore, 1) := by decide +kernel
theorem dX8_settles_134 : decode cX8_settles 134 = .ok (.iconst 0, 1) := by decide +kernel
theorem dX8_settles_135 : decode cX8_settles 135 = .ok (.istore_n 1, 1) := by decide +kernel
theorem dX8_settles_136 : decode cX8_settles 136 = .ok (.iload_n 1, 1) := by decide +kernel
theorem dX8_settles_137 : decode cX8_settles 137 = .ok (.iconst 5, 1) := by decide +kernel
theorem dX8_settles_138 : decode cX8_settles 138 = .ok (.if_icmp .ge 20, 3) := by decide +kernel
theorem dX8_settles_141 : decode cX8_settles 141 = .ok (.aload_n 0, 1) := by decide +kernel
theorem dX8_settles_142 : decode cX8_settles 142 = .ok (.getfield 23, 3) := by decide +kernel
theorem dX8_settles_145 : decode cX8_settles 145 = .ok (.bipush 67, 2) := by decide +kernel
theorem dX8_settles_147 : decode cX8_settles 147 = .ok (.iload_n 1, 1) := by decide +kernel
theorem dX8_settles_148 : decode cX8_settles 148 = .ok (.iadd, 1) := by decide +kernel
theorem dX8_settles_149 : decode cX8_settles 149 = .ok (.bipush (-9), 2) := by decide +kernel
theorem dX8_settles_151 : decode cX8_settles 151 = .ok (.iastore, 1) := by decide +kernel
theorem dX8_settles_152 : decode cX8_settles 152 = .ok (.iinc 1 1, 3) := by decide +kernel
theorem dX8_settles_155 : decode cX8_settles 155 = .ok (.goto (-19), 3) := by decide +kernel
theorem dX8_settles_158 : decode cX8_settles 158 = .ok (.aload_n 0, 1) := by decide +kernel
theorem dX8_settles_159 : decode cX8_settles 159 = .ok (.iconst 0, 1) := by decide +kernel
theorem dX8_settles_160 : decode cX8_settles 160 = .ok (.putfield 125, 3) := by decide +kernel
theorem dX8_settles_163 : decode cX8_settles 163 = .ok (.aload_n 0, 1) := by decide +kernel
theorem dX8_settles_164 : decode cX8_settles 164 = .ok (.iconst 0, 1) := by decide +kernel
theorem dX8_settles_165 : decode cX8_settles 165 = .ok (.putfield 128, 3) := by decide +kernel
theorem dX8_settles_168 : decode cX8_settles 168 = .ok (.aload_n 0, 1) := by decide +kernel
theorem dX8_settles_169 : decode cX8_settles 169 = .ok (.getfield 29, 3) := by decide +kernel
theorem dX8_settles_172 : decode cX8_settles 172 = .ok (.iconst 0, 1) := by decide +kernel
theorem dX8_settles_173 : decode cX8_settles 173 = .ok (.iconst 0, 1) := by decide +kernel
theorem dX8_settles_174 : decode cX8_settles 174 = .ok (.bastore, 1) := by decide +kernel
theorem dX8_settles_175 : decode cX8_settles 175 = .ok (.aload_n 0, 1) := by decide +kernel
theorem dX8_settles_176 : decode cX8_settles 176 = .ok (.getfield 29, 3) := by decide +kernel
theorem dX8_settles_179 : decode cX8_settles 179 = .ok (.iconst 1, 1) := by decide +kernel
theorem dX8_settles_180 : decode cX8_settles 180 = .ok (.iconst 0, 1) := by decide +kernel
theorem dX8_settles_181 : decode cX8_settles 181 = .ok (.bastore, 1) := by decide +kernel
theorem dX8_settles_182 : decode cX8_settles 182 = .ok (.aload_n 0, 1) := by decide +kernel
theorem dX8_settles_183 : decode cX8_settles 183 = .ok (.iconst 0, 1) := by decide +kernel
theorem dX8_settles_184 : decode cX8_settles 184 = .ok (.putfield 64, 3) := by decide +kernel
theorem dX8_settles_187 : decode cX8_settles 187 = .ok (.return_, 1) := by decide +kernel
theorem dX8_layerOf_0 : decode cX8_layerOf 0 = .ok (.aload_n 0, 1) := by decide +kernel
theorem dX8_layerOf_1 : decode cX8_layerOf 1 = .ok (.getfield 23, 3) := by decide +kernel
theorem dX8_layerOf_4 : decode cX8_layerOf 4 = .ok (.bipush 7, 2) := by decide +kernel
theorem dX8_layerOf_6 : decode cX8_layerOf 6 = .ok (.bipush 12, 2) := by decide +kernel
theorem dX8_layerOf_8 : decode cX8_layerOf 8 = .ok (.iload_n 1, 1) := by decide +kernel
theorem dX8_layerOf_9 : decode cX8_layerOf 9 = .ok (.imul, 1) := by decide +kernel
theorem dX8_layerOf_10 : decode cX8_layerOf 10 = .ok (.iadd, 1) := by decide +kernel
theorem dX8_layerOf_11 : decode cX8_layerOf 11 = .ok (.iload_n 2, 1) := by decide +kernel
theorem dX8_layerOf_12 : decode cX8_layerOf 12 = .ok (.iadd, 1) := by decide +kernel
theorem dX8_layerOf_13 : decode cX8_layerOf 13 = .ok (.iaload, 1) := by decide +kernel
theorem dX8_layerOf_14 : decode cX8_layerOf 14 = .ok (.ireturn, 1) := by decide +kernel
theorem dX8_layersOf_0 : decode cX8_layersOf 0 = .ok (.iconst 0, 1) := by decide +kernel
theorem dX8_layersOf_1 : decode cX8_layersOf 1 = .ok (.istore_n 3, 1) := by decide +kernel
theorem dX8_layersOf_2 : decode cX8_layersOf 2 = .ok (.iconst 0, 1) := by decide +kernel
theorem dX8_layersOf_3 : decode cX8_layersOf 3 = .ok (.istore 4, 2) := by decide +kernel
theorem dX8_layersOf_5 : decode cX8_layersOf 5 = .ok (.iload 4, 2) := by decide +kernel
theorem dX8_layersOf_7 : decode cX8_layersOf 7 = .ok (.aload_n 0, 1) := by decide +kernel
theorem dX8_layersOf_8 : decode cX8_layersOf 8 = .ok (.getfield 23, 3) := by decide +kernel
theorem dX8_layersOf_11 : decode cX8_layersOf 11 = .ok (.iconst 2, 1) := by decide +kernel
theorem dX8_layersOf_12 : decode cX8_layersOf 12 = .ok (.iload_n 1, 1) := by decide +kernel
theorem dX8_layersOf_13 : decode cX8_layersOf 13 = .ok (.iadd, 1) := by decide +kernel
theorem dX8_layersOf_14 : decode cX8_layersOf 14 = .ok (.iaload, 1) := by decide +kernel
theorem dX8_layersOf_15 : decode cX8_layersOf 15 = .ok (.if_icmp .ge 28, 3) := by decide +kernel
theorem dX8_layersOf_18 : decode cX8_layersOf 18 = .ok (.iload_n 3, 1) := by decide +kernel
theorem dX8_layersOf_19 : decode cX8_layersOf 19 = .ok (.aload_n 0, 1) := by decide +kernel
theorem dX8_layersOf_20 : decode cX8_layersOf 20 = .ok (.iload_n 1, 1) := by decide +kernel
theorem dX8_layersOf_21 : decode cX8_layersOf 21 = .ok (.iload 4, 2) := by decide +kernel
theorem dX8_layersOf_23 : decode cX8_layersOf 23 = .ok (.invokevirtual 131, 3) := by decide +kernel
theorem dX8_layersOf_26 : decode cX8_layersOf 26 = .ok (.iload_n 2, 1) := by decide +kernel
theorem dX8_layersOf_27 : decode cX8_layersOf 27 = .ok (.if_icmp .ne 7, 3) := by decide +kernel
theorem dX8_layersOf_30 : decode cX8_layersOf 30 = .ok (.iconst 1, 1) := by decide +kernel
theorem dX8_layersOf_31 : decode cX8_layersOf 31 = .ok (.goto 4, 3) := by decide +kernel
theorem dX8_layersOf_34 : decode cX8_layersOf 34 = .ok (.iconst 0, 1) := by decide +kernel
theorem dX8_layersOf_35 : decode cX8_layersOf 35 = .ok (.iadd, 1) := by decide +kernel
theorem dX8_layersOf_36 : decode cX8_layersOf 36 = .ok (.istore_n 3, 1) := by decide +kernel
theorem dX8_layersOf_37 : decode cX8_layersOf 37 = .ok (.iinc 4 1, 3) := by decide +kernel
theorem dX8_layersOf_40 : decode cX8_layersOf 40 = .ok (.goto (-35), 3) := by decide +kernel
theorem dX8_layersOf_43 : decode cX8_layersOf 43 = .ok (.iload_n 3, 1) := by decide +kernel
theorem dX8_layersOf_44 : decode cX8_layersOf 44 = .ok (.ireturn, 1) := by decide +kernel
theorem dX8_inJar_0 : decode cX8_inJar 0 = .ok (.iconst 0, 1) := by decide +kernel
theorem dX8_inJar_1 : decode cX8_inJar 1 = .ok (.istore_n 2, 1) := by decide +kernel
theorem dX8_inJar_2 : decode cX8_inJar 2 = .ok (.iconst 0, 1) := by decide +kernel
theorem dX8_inJar_3 : decode cX8_inJar 3 = .ok (.istore_n 3, 1) := by decide +kernel
theorem dX8_inJar_4 : decode cX8_inJar 4 = .ok (.iload_n 3, 1) := by decide +kernel
theorem dX8_inJar_5 : decode cX8_inJar 5 = .ok (.bipush 10, 2) := by decide +kernel
theorem dX8_inJar_7 : decode cX8_inJar 7 = .ok (.if_icmp .ge 26, 3) := by decide +kernel
theorem dX8_inJar_10 : decode cX8_inJar 10 = .ok (.iload_n 2, 1) := by decide +kernel
theorem dX8_inJar_11 : decode cX8_inJar 11 = .ok (.aload_n 0, 1) := by decide +kernel
theorem dX8_inJar_12 : decode cX8_inJar 12 = .ok (.getfield 23, 3) := by decide +kernel
theorem dX8_inJar_15 : decode cX8_inJar 15 = .ok (.bipush 72, 2) := by decide +kernel
theorem dX8_inJar_17 : decode cX8_inJar 17 = .ok (.bipush 10, 2) := by decide +kernel
theorem dX8_inJar_19 : decode cX8_inJar 19 = .ok (.iload_n 1, 1) := by decide +kernel
theorem dX8_inJar_20 : decode cX8_inJar 20 = .ok (.imul, 1) := by decide +kernel
theorem dX8_inJar_21 : decode cX8_inJar 21 = .ok (.iadd, 1) := by decide +kernel
theorem dX8_inJar_22 : decode cX8_inJar 22 = .ok (.iload_n 3, 1) := by decide +kernel
theorem dX8_inJar_23 : decode cX8_inJar 23 = .ok (.iadd, 1) := by decide +kernel
theorem dX8_inJar_24 : decode cX8_inJar 24 = .ok (.iaload, 1) := by decide +kernel
theorem dX8_inJar_25 : decode cX8_inJar 25 = .ok (.iadd, 1) := by decide +kernel
theorem dX8_inJar_26 : decode cX8_inJar 26 = .ok (.istore_n 2, 1) := by decide +kernel
theorem dX8_inJar_27 : decode cX8_inJar 27 = .ok (.iinc 3 1, 3) := by decide +kernel
theorem dX8_inJar_30 : decode cX8_inJar 30 = .ok (.goto (-26), 3) := by decide +kernel
theorem dX8_inJar_33 : decode cX8_inJar 33 = .ok (.iload_n 2, 1) := by decide +kernel
theorem dX8_inJar_34 : decode cX8_inJar 34 = .ok (.ireturn, 1) := by decide +kernel
theorem dX8_one_0 : decode cX8_one 0 = .ok (.aload_n 0, 1) := by decide +kernel
theorem dX8_one_1 : decode cX8_one 1 = .ok (.iload_n 1, 1) := by decide +kernel
theorem dX8_one_2 : decode cX8_one 2 = .ok (.invokevirtual 134, 3) := by decide +kernel
theorem dX8_one_5 : decode cX8_one 5 = .ok (.ifCond .ne 5, 3) := by decide +kernel
theorem dX8_one_8 : decode cX8_one 8 = .ok (.iconst (-1), 1) := by decide +kernel
theorem dX8_one_9 : decode cX8_one 9 = .ok (.ireturn, 1) := by decide +kernel
theorem dX8_one_10 : decode cX8_one 10 = .ok (.iload_n 2, 1) := by decide +kernel
theorem dX8_one_11 : decode cX8_one 11 = .ok (.tableswitch 78 0 4 #[33, 40, 47, 56, 66], 33) := by decide +kernel
theorem dX8_one_44 : decode cX8_one 44 = .ok (.aload_n 0, 1) := by decide +kernel
theorem dX8_one_45 : decode cX8_one 45 = .ok (.getfield 7, 3) := by decide +kernel
theorem dX8_one_48 : decode cX8_one 48 = .ok (.iload_n 1, 1) := by decide +kernel
theorem dX8_one_49 : decode cX8_one 49 = .ok (.iaload, 1) := by decide +kernel
theorem dX8_one_50 : decode cX8_one 50 = .ok (.ireturn, 1) := by decide +kernel
theorem dX8_one_51 : decode cX8_one 51 = .ok (.aload_n 0, 1) := by decide +kernel
theorem dX8_one_52 : decode cX8_one 52 = .ok (.getfield 13, 3) := by decide +kernel
theorem dX8_one_55 : decode cX8_one 55 = .ok (.iload_n 1, 1) := by decide +kernel
theorem dX8_one_56 : decode cX8_one 56 = .ok (.iaload, 1) := by decide +kernel
theorem dX8_one_57 : decode cX8_one 57 = .ok (.ireturn, 1) := by decide +kernel
theorem dX8_one_58 : decode cX8_one 58 = .ok (.aload_n 0, 1) := by decide +kernel
theorem dX8_one_59 : decode cX8_one 59 = .ok (.getfield 23, 3) := by decide +kernel
theorem dX8_one_62 : decode cX8_one 62 = .ok (.iconst 2, 1) := by decide +kernel
theorem dX8_one_63 : decode cX8_one 63 = .ok (.iload_n 1, 1) := by decide +kernel
theorem dX8_one_64 : decode cX8_one 64 = .ok (.iadd, 1) := by decide +kernel
theorem dX8_one_65 : decode cX8_one 65 = .ok (.iaload, 1) := by decide +kernel
theorem dX8_one_66 : decode cX8_one 66 = .ok (.ireturn, 1) := by decide +kernel
theorem dX8_one_67 : decode cX8_one 67 = .ok (.aload_n 0, 1) := by decide +kernel
theorem dX8_one_68 : decode cX8_one 68 = .ok (.getfield 23, 3) := by decide +kernel
theorem dX8_one_71 : decode cX8_one 71 = .ok (.bipush 67, 2) := by decide +kernel
theorem dX8_one_73 : decode cX8_one 73 = .ok (.iload_n 1, 1) := by decide +kernel
theorem dX8_one_74 : decode cX8_one 74 = .ok (.iadd, 1) := by decide +kernel
theorem dX8_one_75 : decode cX8_one 75 = .ok (.iaload, 1) := by decide +kernel
theorem dX8_one_76 : decode cX8_one 76 = .ok (.ireturn, 1) := by decide +kernel
theorem dX8_one_77 : decode cX8_one 77 = .ok (.aload_n 0, 1) := by decide +kernel
theorem dX8_one_78 : decode cX8_one 78 = .ok (.iload_n 1, 1) := by decide +kernel
theorem dX8_one_79 : decode cX8_one 79 = .ok (.aload_n 0, 1) := by decide +kernel
theorem dX8_one_80 : decode cX8_one 80 = .ok (.getfield 7, 3) := by decide +kernel
theorem dX8_one_83 : decode cX8_one 83 = .ok (.iload_n 1, 1) := by decide +kernel
theorem dX8_one_84 : decode cX8_one 84 = .ok (.iaload, 1) := by decide +kernel
theorem dX8_one_85 : decode cX8_one 85 = .ok (.invokevirtual 137, 3) := by decide +kernel
theorem dX8_one_88 : decode cX8_one 88 = .ok (.ireturn, 1) := by decide +kernel
theorem dX8_one_89 : decode cX8_one 89 = .ok (.iconst (-1), 1) := by decide +kernel
theorem dX8_one_90 : decode cX8_one 90 = .ok (.ireturn, 1) := by decide +kernel
theorem dX8_week_0 : decode cX8_week 0 = .ok (.aload_n 0, 1) := by decide +kernel
theorem dX8_week_1 : decode cX8_week 1 = .ok (.iload_n 1, 1) := by decide +kernel
theorem dX8_week_2 : decode cX8_week 2 = .ok (.invokevirtual 134, 3) := by decide +kernel
theorem dX8_week_5 : decode cX8_week 5 = .ok (.ifCond .eq 13, 3) := by decide +kernel
theorem dX8_week_8 : decode cX8_week 8 = .ok (.iload_n 2, 1) := by decide +kernel
theorem dX8_week_9 : decode cX8_week 9 = .ok (.iconst 0, 1) := by decide +kernel
theorem dX8_week_10 : decode cX8_week 10 = .ok (.bipush 6, 2) := by decide +kernel
theorem dX8_week_12 : decode cX8_week 12 = .ok (.invokestatic 60, 3) := by decide +kernel
theorem dX8_week_15 : decode cX8_week 15 = .ok (.ifCond .ne 5, 3) := by decide +kernel
theorem dX8_week_18 : decode cX8_week 18 = .ok (.iconst (-1), 1) := by decide +kernel
theorem dX8_week_19 : decode cX8_week 19 = .ok (.ireturn, 1) := by decide +kernel
theorem dX8_week_20 : decode cX8_week 20 = .ok (.iload_n 2, 1) := by decide +kernel
theorem dX8_week_21 : decode cX8_week 21 = .ok (.aload_n 0, 1) := by decide +kernel
theorem dX8_week_22 : decode cX8_week 22 = .ok (.getfield 13, 3) := by decide +kernel
theorem dX8_week_25 : decode cX8_week 25 = .ok (.iload_n 1, 1) := by decide +kernel
theorem dX8_week_26 : decode cX8_week 26 = .ok (.iaload, 1) := by decide +kernel
theorem dX8_week_27 : decode cX8_week 27 = .ok (.if_icmp .ge 17, 3) := by decide +kernel
theorem dX8_week_30 : decode cX8_week 30 = .ok (.aload_n 0, 1) := by decide +kernel
theorem dX8_week_31 : decode cX8_week 31 = .ok (.getfield 16, 3) := by decide +kernel
theorem dX8_week_34 : decode cX8_week 34 = .ok (.bipush 7, 2) := by decide +kernel
theorem dX8_week_36 : decode cX8_week 36 = .ok (.iload_n 1, 1) := by decide +kernel
theorem dX8_week_37 : decode cX8_week 37 = .ok (.imul, 1) := by decide +kernel
theorem dX8_week_38 : decode cX8_week 38 = .ok (.iload_n 2, 1) := by decide +kernel
theorem dX8_week_39 : decode cX8_week 39 = .ok (.iadd, 1) := by decide +kernel
theorem dX8_week_40 : decode cX8_week 40 = .ok (.iaload, 1) := by decide +kernel
theorem dX8_week_41 : decode cX8_week 41 = .ok (.goto 5, 3) := by decide +kernel
theorem dX8_week_44 : decode cX8_week 44 = .ok (.bipush (-9), 2) := by decide +kernel
theorem dX8_week_46 : decode cX8_week 46 = .ok (.ireturn, 1) := by decide +kernel
theorem dX8_layer_0 : decode cX8_layer 0 = .ok (.aload_n 0, 1) := by decide +kernel
theorem dX8_layer_1 : decode cX8_layer 1 = .ok (.iload_n 1, 1) := by decide +kernel
theorem dX8_layer_2 : decode cX8_layer 2 = .ok (.invokevirtual 134, 3) := by decide +kernel
theorem dX8_layer_5 : decode cX8_layer 5 = .ok (.ifCond .eq 13, 3) := by decide +kernel
theorem dX8_layer_8 : decode cX8_layer 8 = .ok (.iload_n 2, 1) := by decide +kernel
theorem dX8_layer_9 : decode cX8_layer 9 = .ok (.iconst 0, 1) := by decide +kernel
theorem dX8_layer_10 : decode cX8_layer 10 = .ok (.bipush 11, 2) := by decide +kernel
theorem dX8_layer_12 : decode cX8_layer 12 = .ok (.invokestatic 60, 3) := by decide +kernel
theorem dX8_layer_15 : decode cX8_layer 15 = .ok (.ifCond .ne 5, 3) := by decide +kernel
theorem dX8_layer_18 : decode cX8_layer 18 = .ok (.iconst (-1), 1) := by decide +kernel
theorem dX8_layer_19 : decode cX8_layer 19 = .ok (.ireturn, 1) := by decide +kernel
theorem dX8_layer_20 : decode cX8_layer 20 = .ok (.iload_n 2, 1) := by decide +kernel
theorem dX8_layer_21 : decode cX8_layer 21 = .ok (.aload_n 0, 1) := by decide +kernel
theorem dX8_layer_22 : decode cX8_layer 22 = .ok (.getfield 23, 3) := by decide +kernel
theorem dX8_layer_25 : decode cX8_layer 25 = .ok (.iconst 2, 1) := by decide +kernel
theorem dX8_layer_26 : decode cX8_layer 26 = .ok (.iload_n 1, 1) := by decide +kernel
theorem dX8_layer_27 : decode cX8_layer 27 = .ok (.iadd, 1) := by decide +kernel
theorem dX8_layer_28 : decode cX8_layer 28 = .ok (.iaload, 1) := by decide +kernel
theorem dX8_layer_29 : decode cX8_layer 29 = .ok (.if_icmp .ge 12, 3) := by decide +kernel
theorem dX8_layer_32 : decode cX8_layer 32 = .ok (.aload_n 0, 1) := by decide +kernel
theorem dX8_layer_33 : decode cX8_layer 33 = .ok (.iload_n 1, 1) := by decide +kernel
theorem dX8_layer_34 : decode cX8_layer 34 = .ok (.iload_n 2, 1) := by decide +kernel
theorem dX8_layer_35 : decode cX8_layer 35 = .ok (.invokevirtual 131, 3) := by decide +kernel
theorem dX8_layer_38 : decode cX8_layer 38 = .ok (.goto 5, 3) := by decide +kernel
theorem dX8_layer_41 : decode cX8_layer 41 = .ok (.bipush (-9), 2) := by decide +kernel
theorem dX8_layer_43 : decode cX8_layer 43 = .ok (.ireturn, 1) := by decide +kernel
theorem dX8_jar_0 : decode cX8_jar 0 = .ok (.iload_n 1, 1) := by decide +kernel
theorem dX8_jar_1 : decode cX8_jar 1 = .ok (.invokestatic 140, 3) := by decide +kernel
theorem dX8_jar_4 : decode cX8_jar 4 = .ok (.ifCond .eq 27, 3) := by decide +kernel
theorem dX8_jar_7 : decode cX8_jar 7 = .ok (.iload_n 2, 1) := by decide +kernel
theorem dX8_jar_8 : decode cX8_jar 8 = .ok (.invokestatic 143, 3) := by decide +kernel
theorem dX8_jar_11 : decode cX8_jar 11 = .ok (.ifCond .eq 20, 3) := by decide +kernel
theorem dX8_jar_14 : decode cX8_jar 14 = .ok (.aload_n 0, 1) := by decide +kernel
theorem dX8_jar_15 : decode cX8_jar 15 = .ok (.getfield 23, 3) := by decide +kernel
theorem dX8_jar_18 : decode cX8_jar 18 = .ok (.bipush 72, 2) := by decide +kernel
theorem dX8_jar_20 : decode cX8_jar 20 = .ok (.bipush 10, 2) := by decide +kernel
theorem dX8_jar_22 : decode cX8_jar 22 = .ok (.iload_n 1, 1) := by decide +kernel
theorem dX8_jar_23 : decode cX8_jar 23 = .ok (.imul, 1) := by decide +kernel
theorem dX8_jar_24 : decode cX8_jar 24 = .ok (.iadd, 1) := by decide +kernel
theorem dX8_jar_25 : decode cX8_jar 25 = .ok (.iload_n 2, 1) := by decide +kernel
theorem dX8_jar_26 : decode cX8_jar 26 = .ok (.iadd, 1) := by decide +kernel
theorem dX8_jar_27 : decode cX8_jar 27 = .ok (.iaload, 1) := by decide +kernel
theorem dX8_jar_28 : decode cX8_jar 28 = .ok (.goto 4, 3) := by decide +kernel
theorem dX8_jar_31 : decode cX8_jar 31 = .ok (.iconst (-1), 1) := by decide +kernel
theorem dX8_jar_32 : decode cX8_jar 32 = .ok (.ireturn, 1) := by decide +kernel
theorem dX8_remembers_0 : decode cX8_remembers 0 = .ok (.aload_n 0, 1) := by decide +kernel
theorem dX8_remembers_1 : decode cX8_remembers 1 = .ok (.getfield 23, 3) := by decide +kernel
theorem dX8_remembers_4 : decode cX8_remembers 4 = .ok (.bipush 112, 2) := by decide +kernel
theorem dX8_remembers_6 : decode cX8_remembers 6 = .ok (.iaload, 1) := by decide +kernel
theorem dX8_remembers_7 : decode cX8_remembers 7 = .ok (.bipush 10, 2) := by decide +kernel
theorem dX8_remembers_9 : decode cX8_remembers 9 = .ok (.if_icmp .ne 45, 3) := by decide +kernel
theorem dX8_remembers_12 : decode cX8_remembers 12 = .ok (.bipush 113, 2) := by decide +kernel
theorem dX8_remembers_14 : decode cX8_remembers 14 = .ok (.istore_n 1, 1) := by decide +kernel
theorem dX8_remembers_15 : decode cX8_remembers 15 = .ok (.iload_n 1, 1) := by decide +kernel
theorem dX8_remembers_16 : decode cX8_remembers 16 = .ok (.sipush 1121, 3) := by decide +kernel
theorem dX8_remembers_19 : decode cX8_remembers 19 = .ok (.if_icmp .ge 24, 3) := by decide +kernel
theorem dX8_remembers_22 : decode cX8_remembers 22 = .ok (.aload_n 0, 1) := by decide +kernel
theorem dX8_remembers_23 : decode cX8_remembers 23 = .ok (.getfield 23, 3) := by decide +kernel
theorem dX8_remembers_26 : decode cX8_remembers 26 = .ok (.iload_n 1, 1) := by decide +kernel
theorem dX8_remembers_27 : decode cX8_remembers 27 = .ok (.aload_n 0, 1) := by decide +kernel
theorem dX8_remembers_28 : decode cX8_remembers 28 = .ok (.getfield 23, 3) := by decide +kernel
theorem dX8_remembers_31 : decode cX8_remembers 31 = .ok (.iload_n 1, 1) := by decide +kernel
theorem dX8_remembers_32 : decode cX8_remembers 32 = .ok (.bipush 112, 2) := by decide +kernel
theorem dX8_remembers_34 : decode cX8_remembers 34 = .ok (.iadd, 1) := by decide +kernel
theorem dX8_remembers_35 : decode cX8_remembers 35 = .ok (.iaload, 1) := by decide +kernel
theorem dX8_remembers_36 : decode cX8_remembers 36 = .ok (.iastore, 1) := by decide +kernel
theorem dX8_remembers_37 : decode cX8_remembers 37 = .ok (.iinc 1 1, 3) := by decide +kernel
theorem dX8_remembers_40 : decode cX8_remembers 40 = .ok (.goto (-25), 3) := by decide +kernel
theorem dX8_remembers_43 : decode cX8_remembers 43 = .ok (.aload_n 0, 1) := by decide +kernel
theorem dX8_remembers_44 : decode cX8_remembers 44 = .ok (.getfield 23, 3) := by decide +kernel
theorem dX8_remembers_47 : decode cX8_remembers 47 = .ok (.bipush 112, 2) := by decide +kernel
theorem dX8_remembers_49 : decode cX8_remembers 49 = .ok (.dup2, 1) := by decide +kernel
theorem dX8_remembers_50 : decode cX8_remembers 50 = .ok (.iaload, 1) := by decide +kernel
theorem dX8_remembers_51 : decode cX8_remembers 51 = .ok (.iconst 1, 1) := by decide +kernel
theorem dX8_remembers_52 : decode cX8_remembers 52 = .ok (.isub, 1) := by decide +kernel
theorem dX8_remembers_53 : decode cX8_remembers 53 = .ok (.iastore, 1) := by decide +kernel
theorem dX8_remembers_54 : decode cX8_remembers 54 = .ok (.bipush 113, 2) := by decide +kernel
theorem dX8_remembers_56 : decode cX8_remembers 56 = .ok (.bipush 112, 2) := by decide +kernel
theorem dX8_remembers_58 : decode cX8_remembers 58 = .ok (.aload_n 0, 1) := by decide +kernel
theorem dX8_remembers_59 : decode cX8_remembers 59 = .ok (.getfield 23, 3) := by decide +kernel
theorem dX8_remembers_62 : decode cX8_remembers 62 = .ok (.bipush 112, 2) := by decide +kernel
theorem dX8_remembers_64 : decode cX8_remembers 64 = .ok (.iaload, 1) := by decide +kernel
theorem dX8_remembers_65 : decode cX8_remembers 65 = .ok (.imul, 1) := by decide +kernel
theorem dX8_remembers_66 : decode cX8_remembers 66 = .ok (.iadd, 1) := by decide +kernel
theorem dX8_remembers_67 : decode cX8_remembers 67 = .ok (.istore_n 1, 1) := by decide +kernel
theorem dX8_remembers_68 : decode cX8_remembers 68 = .ok (.iconst 0, 1) := by decide +kernel
theorem dX8_remembers_69 : decode cX8_remembers 69 = .ok (.istore_n 2, 1) := by decide +kernel
theorem dX8_remembers_70 : decode cX8_remembers 70 = .ok (.iload_n 2, 1) := by decide +kernel
theorem dX8_remembers_71 : decode cX8_remembers 71 = .ok (.bipush 112, 2) := by decide +kernel
theorem dX8_remembers_73 : decode cX8_remembers 73 = .ok (.if_icmp .ge 23, 3) := by decide +kernel
theorem dX8_remembers_76 : decode cX8_remembers 76 = .ok (.aload_n 0, 1) := by decide +kernel
theorem dX8_remembers_77 : decode cX8_remembers 77 = .ok (.getfield 23, 3) := by decide +kernel
theorem dX8_remembers_80 : decode cX8_remembers 80 = .ok (.iload_n 1, 1) := by decide +kernel
theorem dX8_remembers_81 : decode cX8_remembers 81 = .ok (.iload_n 2, 1) := by decide +kernel
theorem dX8_remembers_82 : decode cX8_remembers 82 = .ok (.iadd, 1) := by decide +kernel
theorem dX8_remembers_83 : decode cX8_remembers 83 = .ok (.aload_n 0, 1) := by decide +kernel
theorem dX8_remembers_84 : decode cX8_remembers 84 = .ok (.getfield 23, 3) := by decide +kernel
theorem dX8_remembers_87 : decode cX8_remembers 87 = .ok (.iload_n 2, 1) := by decide +kernel
theorem dX8_remembers_88 : decode cX8_remembers 88 = .ok (.iaload, 1) := by decide +kernel
theorem dX8_remembers_89 : decode cX8_remembers 89 = .ok (.iastore, 1) := by decide +kernel
theorem dX8_remembers_90 : decode cX8_remembers 90 = .ok (.iinc 2 1, 3) := by decide +kernel
theorem dX8_remembers_93 : decode cX8_remembers 93 = .ok (.goto (-23), 3) := by decide +kernel
theorem dX8_remembers_96 : decode cX8_remembers 96 = .ok (.aload_n 0, 1) := by decide +kernel
theorem dX8_remembers_97 : decode cX8_remembers 97 = .ok (.getfield 23, 3) := by decide +kernel
theorem dX8_remembers_100 : decode cX8_remembers 100 = .ok (.bipush 112, 2) := by decide +kernel
theorem dX8_remembers_102 : decode cX8_remembers 102 = .ok (.dup2, 1) := by decide +kernel
theorem dX8_remembers_103 : decode cX8_remembers 103 = .ok (.iaload, 1) := by decide +kernel
theorem dX8_remembers_104 : decode cX8_remembers 104 = .ok (.iconst 1, 1) := by decide +kernel
theorem dX8_remembers_105 : decode cX8_remembers 105 = .ok (.iadd, 1) := by decide +kernel
theorem dX8_remembers_106 : decode cX8_remembers 106 = .ok (.iastore, 1) := by decide +kernel
theorem dX8_remembers_107 : decode cX8_remembers 107 = .ok (.return_, 1) := by decide +kernel
theorem dX8_thinks_0 : decode cX8_thinks 0 = .ok (.iload_n 2, 1) := by decide +kernel
theorem dX8_thinks_1 : decode cX8_thinks 1 = .ok (.ifCond .ne 29, 3) := by decide +kernel
theorem dX8_thinks_4 : decode cX8_thinks 4 = .ok (.aload_n 0, 1) := by decide +kernel
theorem dX8_thinks_5 : decode cX8_thinks 5 = .ok (.getfield 23, 3) := by decide +kernel
theorem dX8_thinks_8 : decode cX8_thinks 8 = .ok (.bipush 67, 2) := by decide +kernel
theorem dX8_thinks_10 : decode cX8_thinks 10 = .ok (.iload_n 1, 1) := by decide +kernel
theorem dX8_thinks_11 : decode cX8_thinks 11 = .ok (.iadd, 1) := by decide +kernel
theorem dX8_thinks_12 : decode cX8_thinks 12 = .ok (.iaload, 1) := by decide +kernel
theorem dX8_thinks_13 : decode cX8_thinks 13 = .ok (.bipush (-9), 2) := by decide +kernel
theorem dX8_thinks_15 : decode cX8_thinks 15 = .ok (.if_icmp .eq 15, 3) := by decide +kernel
theorem dX8_thinks_18 : decode cX8_thinks 18 = .ok (.aload_n 0, 1) := by decide +kernel
theorem dX8_thinks_19 : decode cX8_thinks 19 = .ok (.getfield 23, 3) := by decide +kernel
theorem dX8_thinks_22 : decode cX8_thinks 22 = .ok (.bipush 67, 2) := by decide +kernel
theorem dX8_thinks_24 : decode cX8_thinks 24 = .ok (.iload_n 1, 1) := by decide +kernel
theorem dX8_thinks_25 : decode cX8_thinks 25 = .ok (.iadd, 1) := by decide +kernel
theorem dX8_thinks_26 : decode cX8_thinks 26 = .ok (.iaload, 1) := by decide +kernel
theorem dX8_thinks_27 : decode cX8_thinks 27 = .ok (.goto 28, 3) := by decide +kernel
theorem dX8_thinks_30 : decode cX8_thinks 30 = .ok (.aload_n 0, 1) := by decide +kernel
theorem dX8_thinks_31 : decode cX8_thinks 31 = .ok (.getfield 16, 3) := by decide +kernel
theorem dX8_thinks_34 : decode cX8_thinks 34 = .ok (.bipush 7, 2) := by decide +kernel
theorem dX8_thinks_36 : decode cX8_thinks 36 = .ok (.iload_n 1, 1) := by decide +kernel
theorem dX8_thinks_37 : decode cX8_thinks 37 = .ok (.imul, 1) := by decide +kernel
theorem dX8_thinks_38 : decode cX8_thinks 38 = .ok (.aload_n 0, 1) := by decide +kernel
theorem dX8_thinks_39 : decode cX8_thinks 39 = .ok (.getfield 23, 3) := by decide +kernel
theorem dX8_thinks_42 : decode cX8_thinks 42 = .ok (.iconst 0, 1) := by decide +kernel
theorem dX8_thinks_43 : decode cX8_thinks 43 = .ok (.iaload, 1) := by decide +kernel
theorem dX8_thinks_44 : decode cX8_thinks 44 = .ok (.iload_n 2, 1) := by decide +kernel
theorem dX8_thinks_45 : decode cX8_thinks 45 = .ok (.iadd, 1) := by decide +kernel
theorem dX8_thinks_46 : decode cX8_thinks 46 = .ok (.aload_n 0, 1) := by decide +kernel
theorem dX8_thinks_47 : decode cX8_thinks 47 = .ok (.getfield 13, 3) := by decide +kernel
theorem dX8_thinks_50 : decode cX8_thinks 50 = .ok (.iload_n 1, 1) := by decide +kernel
theorem dX8_thinks_51 : decode cX8_thinks 51 = .ok (.iaload, 1) := by decide +kernel
theorem dX8_thinks_52 : decode cX8_thinks 52 = .ok (.irem, 1) := by decide +kernel
theorem dX8_thinks_53 : decode cX8_thinks 53 = .ok (.iadd, 1) := by decide +kernel
theorem dX8_thinks_54 : decode cX8_thinks 54 = .ok (.iaload, 1) := by decide +kernel
theorem dX8_thinks_55 : decode cX8_thinks 55 = .ok (.ireturn, 1) := by decide +kernel
theorem dX8_loses_0 : decode cX8_loses 0 = .ok (.aload_n 0, 1) := by decide +kernel
theorem dX8_loses_1 : decode cX8_loses 1 = .ok (.getfield 23, 3) := by decide +kernel
theorem dX8_loses_4 : decode cX8_loses 4 = .ok (.iconst 2, 1) := by decide +kernel
theorem dX8_loses_5 : decode cX8_loses 5 = .ok (.iload_n 1, 1) := by decide +kernel
theorem dX8_loses_6 : decode cX8_loses 6 = .ok (.iadd, 1) := by decide +kernel
theorem dX8_loses_7 : decode cX8_loses 7 = .ok (.dup2, 1) := by decide +kernel
theorem dX8_loses_8 : decode cX8_loses 8 = .ok (.iaload, 1) := by decide +kernel
theorem dX8_loses_9 : decode cX8_loses 9 = .ok (.iload_n 2, 1) := by decide +kernel
theorem dX8_loses_10 : decode cX8_loses 10 = .ok (.isub, 1) := by decide +kernel
theorem dX8_loses_11 : decode cX8_loses 11 = .ok (.iastore, 1) := by decide +kernel
theorem dX8_loses_12 : decode cX8_loses 12 = .ok (.iconst 0, 1) := by decide +kernel
theorem dX8_loses_13 : decode cX8_loses 13 = .ok (.istore_n 3, 1) := by decide +kernel
theorem dX8_loses_14 : decode cX8_loses 14 = .ok (.iload_n 3, 1) := by decide +kernel
theorem dX8_loses_15 : decode cX8_loses 15 = .ok (.aload_n 0, 1) := by decide +kernel
theorem dX8_loses_16 : decode cX8_loses 16 = .ok (.getfield 23, 3) := by decide +kernel
theorem dX8_loses_19 : decode cX8_loses 19 = .ok (.iconst 2, 1) := by decide +kernel
theorem dX8_loses_20 : decode cX8_loses 20 = .ok (.iload_n 1, 1) := by decide +kernel
theorem dX8_loses_21 : decode cX8_loses 21 = .ok (.iadd, 1) := by decide +kernel
theorem dX8_loses_22 : decode cX8_loses 22 = .ok (.iaload, 1) := by decide +kernel
theorem dX8_loses_23 : decode cX8_loses 23 = .ok (.if_icmp .ge 39, 3) := by decide +kernel
theorem dX8_loses_26 : decode cX8_loses 26 = .ok (.aload_n 0, 1) := by decide +kernel
theorem dX8_loses_27 : decode cX8_loses 27 = .ok (.getfield 23, 3) := by decide +kernel
theorem dX8_loses_30 : decode cX8_loses 30 = .ok (.bipush 7, 2) := by decide +kernel
theorem dX8_loses_32 : decode cX8_loses 32 = .ok (.bipush 12, 2) := by decide +kernel
theorem dX8_loses_34 : decode cX8_loses 34 = .ok (.iload_n 1, 1) := by decide +kernel
theorem dX8_loses_35 : decode cX8_loses 35 = .ok (.imul, 1) := by decide +kernel
theorem dX8_loses_36 : decode cX8_loses 36 = .ok (.iadd, 1) := by decide +kernel
theorem dX8_loses_37 : decode cX8_loses 37 = .ok (.iload_n 3, 1) := by decide +kernel
theorem dX8_loses_38 : decode cX8_loses 38 = .ok (.iadd, 1) := by decide +kernel
theorem dX8_loses_39 : decode cX8_loses 39 = .ok (.aload_n 0, 1) := by decide +kernel
theorem dX8_loses_40 : decode cX8_loses 40 = .ok (.getfield 23, 3) := by decide +kernel
theorem dX8_loses_43 : decode cX8_loses 43 = .ok (.bipush 7, 2) := by decide +kernel
theorem dX8_loses_45 : decode cX8_loses 45 = .ok (.bipush 12, 2) := by decide +kernel
theorem dX8_loses_47 : decode cX8_loses 47 = .ok (.iload_n 1, 1) := by decide +kernel
theorem dX8_loses_48 : decode cX8_loses 48 = .ok (.imul, 1) := by decide +kernel
theorem dX8_loses_49 : decode cX8_loses 49 = .ok (.iadd, 1) := by decide +kernel
theorem dX8_loses_50 : decode cX8_loses 50 = .ok (.iload_n 3, 1) := by decide +kernel
theorem dX8_loses_51 : decode cX8_loses 51 = .ok (.iadd, 1) := by decide +kernel
theorem dX8_loses_52 : decode cX8_loses 52 = .ok (.iload_n 2, 1) := by decide +kernel
theorem dX8_loses_53 : decode cX8_loses 53 = .ok (.iadd, 1) := by decide +kernel
theorem dX8_loses_54 : decode cX8_loses 54 = .ok (.iaload, 1) := by decide +kernel
theorem dX8_loses_55 : decode cX8_loses 55 = .ok (.iastore, 1) := by decide +kernel
theorem dX8_loses_56 : decode cX8_loses 56 = .ok (.iinc 3 1, 3) := by decide +kernel
theorem dX8_loses_59 : decode cX8_loses 59 = .ok (.goto (-45), 3) := by decide +kernel
theorem dX8_loses_62 : decode cX8_loses 62 = .ok (.return_, 1) := by decide +kernel
theorem dX8_grows_0 : decode cX8_grows 0 = .ok (.aload_n 0, 1) := by decide +kernel
theorem dX8_grows_1 : decode cX8_grows 1 = .ok (.iload_n 1, 1) := by decide +kernel
theorem dX8_grows_2 : decode cX8_grows 2 = .ok (.iconst 0, 1) := by decide +kernel
theorem dX8_grows_3 : decode cX8_grows 3 = .ok (.invokevirtual 146, 3) := by decide +kernel
theorem dX8_grows_6 : decode cX8_grows 6 = .ok (.istore_n 2, 1) := by decide +kernel
theorem dX8_grows_7 : decode cX8_grows 7 = .ok (.aload_n 0, 1) := by decide +kernel
theorem dX8_grows_8 : decode cX8_grows 8 = .ok (.getfield 23, 3) := by decide +kernel
theorem dX8_grows_11 : decode cX8_grows 11 = .ok (.bipush 67, 2) := by decide +kernel
theorem dX8_grows_13 : decode cX8_grows 13 = .ok (.iload_n 1, 1) := by decide +kernel
theorem dX8_grows_14 : decode cX8_grows 14 = .ok (.iadd, 1) := by decide +kernel
theorem dX8_grows_15 : decode cX8_grows 15 = .ok (.bipush (-9), 2) := by decide +kernel
theorem dX8_grows_17 : decode cX8_grows 17 = .ok (.iastore, 1) := by decide +kernel
theorem dX8_grows_18 : decode cX8_grows 18 = .ok (.aload_n 0, 1) := by decide +kernel
theorem dX8_grows_19 : decode cX8_grows 19 = .ok (.getfield 23, 3) := by decide +kernel
theorem dX8_grows_22 : decode cX8_grows 22 = .ok (.iconst 2, 1) := by decide +kernel
theorem dX8_grows_23 : decode cX8_grows 23 = .ok (.iload_n 1, 1) := by decide +kernel
theorem dX8_grows_24 : decode cX8_grows 24 = .ok (.iadd, 1) := by decide +kernel
theorem dX8_grows_25 : decode cX8_grows 25 = .ok (.iaload, 1) := by decide +kernel
theorem dX8_grows_26 : decode cX8_grows 26 = .ok (.aload_n 0, 1) := by decide +kernel
theorem dX8_grows_27 : decode cX8_grows 27 = .ok (.getfield 19, 3) := by decide +kernel
theorem dX8_grows_30 : decode cX8_grows 30 = .ok (.if_icmp .ne 9, 3) := by decide +kernel
theorem dX8_grows_33 : decode cX8_grows 33 = .ok (.aload_n 0, 1) := by decide +kernel
theorem dX8_grows_34 : decode cX8_grows 34 = .ok (.iload_n 1, 1) := by decide +kernel
theorem dX8_grows_35 : decode cX8_grows 35 = .ok (.iconst 1, 1) := by decide +kernel
theorem dX8_grows_36 : decode cX8_grows 36 = .ok (.invokevirtual 149, 3) := by decide +kernel
theorem dX8_grows_39 : decode cX8_grows 39 = .ok (.aload_n 0, 1) := by decide +kernel
theorem dX8_grows_40 : decode cX8_grows 40 = .ok (.getfield 23, 3) := by decide +kernel
theorem dX8_grows_43 : decode cX8_grows 43 = .ok (.bipush 7, 2) := by decide +kernel
theorem dX8_grows_45 : decode cX8_grows 45 = .ok (.bipush 12, 2) := by decide +kernel
theorem dX8_grows_47 : decode cX8_grows 47 = .ok (.iload_n 1, 1) := by decide +kernel
theorem dX8_grows_48 : decode cX8_grows 48 = .ok (.imul, 1) := by decide +kernel
theorem dX8_grows_49 : decode cX8_grows 49 = .ok (.iadd, 1) := by decide +kernel
theorem dX8_grows_50 : decode cX8_grows 50 = .ok (.aload_n 0, 1) := by decide +kernel
theorem dX8_grows_51 : decode cX8_grows 51 = .ok (.getfield 23, 3) := by decide +kernel
theorem dX8_grows_54 : decode cX8_grows 54 = .ok (.iconst 2, 1) := by decide +kernel
theorem dX8_grows_55 : decode cX8_grows 55 = .ok (.iload_n 1, 1) := by decide +kernel
theorem dX8_grows_56 : decode cX8_grows 56 = .ok (.iadd, 1) := by decide +kernel
theorem dX8_grows_57 : decode cX8_grows 57 = .ok (.iaload, 1) := by decide +kernel
theorem dX8_grows_58 : decode cX8_grows 58 = .ok (.iadd, 1) := by decide +kernel
theorem dX8_grows_59 : decode cX8_grows 59 = .ok (.iload_n 2, 1) := by decide +kernel
theorem dX8_grows_60 : decode cX8_grows 60 = .ok (.iastore, 1) := by decide +kernel
theorem dX8_grows_61 : decode cX8_grows 61 = .ok (.aload_n 0, 1) := by decide +kernel
theorem dX8_grows_62 : decode cX8_grows 62 = .ok (.getfield 23, 3) := by decide +kernel
theorem dX8_grows_65 : decode cX8_grows 65 = .ok (.iconst 2, 1) := by decide +kernel
end
section
theorem dX8_grows_66 : decode cX8_grows 66 = .ok (.iload_n 1, 1) := by decide +kernel
theorem dX8_grows_67 : decode cX8_grows 67 = .ok (.iadd, 1) := by decide +kernel
theorem dX8_grows_68 : decode cX8_grows 68 = .ok (.dup2, 1) := by decide +kernel
theorem dX8_grows_69 : decode cX8_grows 69 = .ok (.iaload, 1) := by decide +kernel
theorem dX8_grows_70 : decode cX8_grows 70 = .ok (.iconst 1, 1) := by decide +kernel
theorem dX8_grows_71 : decode cX8_grows 71 = .ok (.iadd, 1) := by decide +kernel
theorem dX8_grows_72 : decode cX8_grows 72 = .ok (.iastore, 1) := by decide +kernel
theorem dX8_grows_73 : decode cX8_grows 73 = .ok (.return_, 1) := by decide +kernel
theorem dX8_days_0 : decode cX8_days 0 = .ok (.iload_n 1, 1) := by decide +kernel
theorem dX8_days_1 : decode cX8_days 1 = .ok (.iconst 1, 1) := by decide +kernel
theorem dX8_days_2 : decode cX8_days 2 = .ok (.bipush 9, 2) := by decide +kernel
theorem dX8_days_4 : decode cX8_days 4 = .ok (.invokestatic 60, 3) := by decide +kernel
theorem dX8_days_7 : decode cX8_days 7 = .ok (.ifCond .ne 5, 3) := by decide +kernel
theorem dX8_days_10 : decode cX8_days 10 = .ok (.iconst (-1), 1) := by decide +kernel
theorem dX8_days_11 : decode cX8_days 11 = .ok (.ireturn, 1) := by decide +kernel
theorem dX8_days_12 : decode cX8_days 12 = .ok (.aload_n 0, 1) := by decide +kernel
theorem dX8_days_13 : decode cX8_days 13 = .ok (.getfield 23, 3) := by decide +kernel
theorem dX8_days_16 : decode cX8_days 16 = .ok (.iconst 0, 1) := by decide +kernel
theorem dX8_days_17 : decode cX8_days 17 = .ok (.iaload, 1) := by decide +kernel
theorem dX8_days_18 : decode cX8_days 18 = .ok (.iload_n 1, 1) := by decide +kernel
theorem dX8_days_19 : decode cX8_days 19 = .ok (.iadd, 1) := by decide +kernel
theorem dX8_days_20 : decode cX8_days 20 = .ok (.sipush 999, 3) := by decide +kernel
theorem dX8_days_23 : decode cX8_days 23 = .ok (.if_icmp .le 6, 3) := by decide +kernel
theorem dX8_days_26 : decode cX8_days 26 = .ok (.bipush (-2), 2) := by decide +kernel
theorem dX8_days_28 : decode cX8_days 28 = .ok (.ireturn, 1) := by decide +kernel
theorem dX8_days_29 : decode cX8_days 29 = .ok (.aload_n 0, 1) := by decide +kernel
theorem dX8_days_30 : decode cX8_days 30 = .ok (.invokevirtual 153, 3) := by decide +kernel
theorem dX8_days_33 : decode cX8_days 33 = .ok (.iconst 0, 1) := by decide +kernel
theorem dX8_days_34 : decode cX8_days 34 = .ok (.istore_n 2, 1) := by decide +kernel
theorem dX8_days_35 : decode cX8_days 35 = .ok (.iload_n 2, 1) := by decide +kernel
theorem dX8_days_36 : decode cX8_days 36 = .ok (.iload_n 1, 1) := by decide +kernel
theorem dX8_days_37 : decode cX8_days 37 = .ok (.if_icmp .ge 40, 3) := by decide +kernel
theorem dX8_days_40 : decode cX8_days 40 = .ok (.iconst 0, 1) := by decide +kernel
theorem dX8_days_41 : decode cX8_days 41 = .ok (.istore_n 3, 1) := by decide +kernel
theorem dX8_days_42 : decode cX8_days 42 = .ok (.iload_n 3, 1) := by decide +kernel
theorem dX8_days_43 : decode cX8_days 43 = .ok (.aload_n 0, 1) := by decide +kernel
theorem dX8_days_44 : decode cX8_days 44 = .ok (.getfield 57, 3) := by decide +kernel
theorem dX8_days_47 : decode cX8_days 47 = .ok (.if_icmp .ge 14, 3) := by decide +kernel
theorem dX8_days_50 : decode cX8_days 50 = .ok (.aload_n 0, 1) := by decide +kernel
theorem dX8_days_51 : decode cX8_days 51 = .ok (.iload_n 3, 1) := by decide +kernel
theorem dX8_days_52 : decode cX8_days 52 = .ok (.invokevirtual 156, 3) := by decide +kernel
theorem dX8_days_55 : decode cX8_days 55 = .ok (.iinc 3 1, 3) := by decide +kernel
theorem dX8_days_58 : decode cX8_days 58 = .ok (.goto (-16), 3) := by decide +kernel
theorem dX8_days_61 : decode cX8_days 61 = .ok (.aload_n 0, 1) := by decide +kernel
theorem dX8_days_62 : decode cX8_days 62 = .ok (.getfield 23, 3) := by decide +kernel
theorem dX8_days_65 : decode cX8_days 65 = .ok (.iconst 0, 1) := by decide +kernel
theorem dX8_days_66 : decode cX8_days 66 = .ok (.dup2, 1) := by decide +kernel
theorem dX8_days_67 : decode cX8_days 67 = .ok (.iaload, 1) := by decide +kernel
theorem dX8_days_68 : decode cX8_days 68 = .ok (.iconst 1, 1) := by decide +kernel
theorem dX8_days_69 : decode cX8_days 69 = .ok (.iadd, 1) := by decide +kernel
theorem dX8_days_70 : decode cX8_days 70 = .ok (.iastore, 1) := by decide +kernel
theorem dX8_days_71 : decode cX8_days 71 = .ok (.iinc 2 1, 3) := by decide +kernel
theorem dX8_days_74 : decode cX8_days 74 = .ok (.goto (-39), 3) := by decide +kernel
theorem dX8_days_77 : decode cX8_days 77 = .ok (.aload_n 0, 1) := by decide +kernel
theorem dX8_days_78 : decode cX8_days 78 = .ok (.getfield 23, 3) := by decide +kernel
theorem dX8_days_81 : decode cX8_days 81 = .ok (.iconst 0, 1) := by decide +kernel
theorem dX8_days_82 : decode cX8_days 82 = .ok (.iaload, 1) := by decide +kernel
theorem dX8_days_83 : decode cX8_days 83 = .ok (.ireturn, 1) := by decide +kernel
theorem dX8_minds_0 : decode cX8_minds 0 = .ok (.aload_n 0, 1) := by decide +kernel
theorem dX8_minds_1 : decode cX8_minds 1 = .ok (.iload_n 1, 1) := by decide +kernel
theorem dX8_minds_2 : decode cX8_minds 2 = .ok (.invokevirtual 134, 3) := by decide +kernel
theorem dX8_minds_5 : decode cX8_minds 5 = .ok (.ifCond .eq 10, 3) := by decide +kernel
theorem dX8_minds_8 : decode cX8_minds 8 = .ok (.iload_n 2, 1) := by decide +kernel
theorem dX8_minds_9 : decode cX8_minds 9 = .ok (.invokestatic 143, 3) := by decide +kernel
theorem dX8_minds_12 : decode cX8_minds 12 = .ok (.ifCond .ne 5, 3) := by decide +kernel
theorem dX8_minds_15 : decode cX8_minds 15 = .ok (.iconst (-1), 1) := by decide +kernel
theorem dX8_minds_16 : decode cX8_minds 16 = .ok (.ireturn, 1) := by decide +kernel
theorem dX8_minds_17 : decode cX8_minds 17 = .ok (.aload_n 0, 1) := by decide +kernel
theorem dX8_minds_18 : decode cX8_minds 18 = .ok (.getfield 23, 3) := by decide +kernel
theorem dX8_minds_21 : decode cX8_minds 21 = .ok (.bipush 67, 2) := by decide +kernel
theorem dX8_minds_23 : decode cX8_minds 23 = .ok (.iload_n 1, 1) := by decide +kernel
theorem dX8_minds_24 : decode cX8_minds 24 = .ok (.iadd, 1) := by decide +kernel
theorem dX8_minds_25 : decode cX8_minds 25 = .ok (.iaload, 1) := by decide +kernel
theorem dX8_minds_26 : decode cX8_minds 26 = .ok (.istore_n 3, 1) := by decide +kernel
theorem dX8_minds_27 : decode cX8_minds 27 = .ok (.iload_n 3, 1) := by decide +kernel
theorem dX8_minds_28 : decode cX8_minds 28 = .ok (.iload_n 2, 1) := by decide +kernel
theorem dX8_minds_29 : decode cX8_minds 29 = .ok (.if_icmp .ne 6, 3) := by decide +kernel
theorem dX8_minds_32 : decode cX8_minds 32 = .ok (.bipush (-2), 2) := by decide +kernel
theorem dX8_minds_34 : decode cX8_minds 34 = .ok (.ireturn, 1) := by decide +kernel
theorem dX8_minds_35 : decode cX8_minds 35 = .ok (.aload_n 0, 1) := by decide +kernel
theorem dX8_minds_36 : decode cX8_minds 36 = .ok (.invokevirtual 153, 3) := by decide +kernel
theorem dX8_minds_39 : decode cX8_minds 39 = .ok (.aload_n 0, 1) := by decide +kernel
theorem dX8_minds_40 : decode cX8_minds 40 = .ok (.getfield 23, 3) := by decide +kernel
theorem dX8_minds_43 : decode cX8_minds 43 = .ok (.bipush 67, 2) := by decide +kernel
theorem dX8_minds_45 : decode cX8_minds 45 = .ok (.iload_n 1, 1) := by decide +kernel
theorem dX8_minds_46 : decode cX8_minds 46 = .ok (.iadd, 1) := by decide +kernel
theorem dX8_minds_47 : decode cX8_minds 47 = .ok (.iload_n 2, 1) := by decide +kernel
theorem dX8_minds_48 : decode cX8_minds 48 = .ok (.iastore, 1) := by decide +kernel
theorem dX8_minds_49 : decode cX8_minds 49 = .ok (.iload_n 3, 1) := by decide +kernel
theorem dX8_minds_50 : decode cX8_minds 50 = .ok (.ireturn, 1) := by decide +kernel
theorem dX8_cuts_0 : decode cX8_cuts 0 = .ok (.aload_n 0, 1) := by decide +kernel
theorem dX8_cuts_1 : decode cX8_cuts 1 = .ok (.iload_n 1, 1) := by decide +kernel
theorem dX8_cuts_2 : decode cX8_cuts 2 = .ok (.invokevirtual 134, 3) := by decide +kernel
theorem dX8_cuts_5 : decode cX8_cuts 5 = .ok (.ifCond .eq 13, 3) := by decide +kernel
theorem dX8_cuts_8 : decode cX8_cuts 8 = .ok (.iload_n 2, 1) := by decide +kernel
theorem dX8_cuts_9 : decode cX8_cuts 9 = .ok (.iconst 1, 1) := by decide +kernel
theorem dX8_cuts_10 : decode cX8_cuts 10 = .ok (.bipush 12, 2) := by decide +kernel
theorem dX8_cuts_12 : decode cX8_cuts 12 = .ok (.invokestatic 60, 3) := by decide +kernel
theorem dX8_cuts_15 : decode cX8_cuts 15 = .ok (.ifCond .ne 5, 3) := by decide +kernel
theorem dX8_cuts_18 : decode cX8_cuts 18 = .ok (.iconst (-1), 1) := by decide +kernel
theorem dX8_cuts_19 : decode cX8_cuts 19 = .ok (.ireturn, 1) := by decide +kernel
theorem dX8_cuts_20 : decode cX8_cuts 20 = .ok (.aload_n 0, 1) := by decide +kernel
theorem dX8_cuts_21 : decode cX8_cuts 21 = .ok (.getfield 23, 3) := by decide +kernel
theorem dX8_cuts_24 : decode cX8_cuts 24 = .ok (.iconst 2, 1) := by decide +kernel
theorem dX8_cuts_25 : decode cX8_cuts 25 = .ok (.iload_n 1, 1) := by decide +kernel
theorem dX8_cuts_26 : decode cX8_cuts 26 = .ok (.iadd, 1) := by decide +kernel
theorem dX8_cuts_27 : decode cX8_cuts 27 = .ok (.iaload, 1) := by decide +kernel
theorem dX8_cuts_28 : decode cX8_cuts 28 = .ok (.iload_n 2, 1) := by decide +kernel
theorem dX8_cuts_29 : decode cX8_cuts 29 = .ok (.if_icmp .ge 6, 3) := by decide +kernel
theorem dX8_cuts_32 : decode cX8_cuts 32 = .ok (.bipush (-2), 2) := by decide +kernel
theorem dX8_cuts_34 : decode cX8_cuts 34 = .ok (.ireturn, 1) := by decide +kernel
theorem dX8_cuts_35 : decode cX8_cuts 35 = .ok (.aload_n 0, 1) := by decide +kernel
theorem dX8_cuts_36 : decode cX8_cuts 36 = .ok (.invokevirtual 153, 3) := by decide +kernel
theorem dX8_cuts_39 : decode cX8_cuts 39 = .ok (.iconst 0, 1) := by decide +kernel
theorem dX8_cuts_40 : decode cX8_cuts 40 = .ok (.istore_n 3, 1) := by decide +kernel
theorem dX8_cuts_41 : decode cX8_cuts 41 = .ok (.iload_n 3, 1) := by decide +kernel
theorem dX8_cuts_42 : decode cX8_cuts 42 = .ok (.iload_n 2, 1) := by decide +kernel
theorem dX8_cuts_43 : decode cX8_cuts 43 = .ok (.if_icmp .ge 57, 3) := by decide +kernel
theorem dX8_cuts_46 : decode cX8_cuts 46 = .ok (.bipush 72, 2) := by decide +kernel
theorem dX8_cuts_48 : decode cX8_cuts 48 = .ok (.bipush 10, 2) := by decide +kernel
theorem dX8_cuts_50 : decode cX8_cuts 50 = .ok (.aload_n 0, 1) := by decide +kernel
theorem dX8_cuts_51 : decode cX8_cuts 51 = .ok (.getfield 23, 3) := by decide +kernel
theorem dX8_cuts_54 : decode cX8_cuts 54 = .ok (.iconst 1, 1) := by decide +kernel
theorem dX8_cuts_55 : decode cX8_cuts 55 = .ok (.iaload, 1) := by decide +kernel
theorem dX8_cuts_56 : decode cX8_cuts 56 = .ok (.imul, 1) := by decide +kernel
theorem dX8_cuts_57 : decode cX8_cuts 57 = .ok (.iadd, 1) := by decide +kernel
theorem dX8_cuts_58 : decode cX8_cuts 58 = .ok (.aload_n 0, 1) := by decide +kernel
theorem dX8_cuts_59 : decode cX8_cuts 59 = .ok (.iload_n 1, 1) := by decide +kernel
theorem dX8_cuts_60 : decode cX8_cuts 60 = .ok (.iload_n 3, 1) := by decide +kernel
theorem dX8_cuts_61 : decode cX8_cuts 61 = .ok (.invokevirtual 131, 3) := by decide +kernel
theorem dX8_cuts_64 : decode cX8_cuts 64 = .ok (.iadd, 1) := by decide +kernel
theorem dX8_cuts_65 : decode cX8_cuts 65 = .ok (.istore 4, 2) := by decide +kernel
theorem dX8_cuts_67 : decode cX8_cuts 67 = .ok (.aload_n 0, 1) := by decide +kernel
theorem dX8_cuts_68 : decode cX8_cuts 68 = .ok (.getfield 23, 3) := by decide +kernel
theorem dX8_cuts_71 : decode cX8_cuts 71 = .ok (.iload 4, 2) := by decide +kernel
theorem dX8_cuts_73 : decode cX8_cuts 73 = .ok (.dup2, 1) := by decide +kernel
theorem dX8_cuts_74 : decode cX8_cuts 74 = .ok (.iaload, 1) := by decide +kernel
theorem dX8_cuts_75 : decode cX8_cuts 75 = .ok (.aload_n 0, 1) := by decide +kernel
theorem dX8_cuts_76 : decode cX8_cuts 76 = .ok (.getfield 23, 3) := by decide +kernel
theorem dX8_cuts_79 : decode cX8_cuts 79 = .ok (.iload 4, 2) := by decide +kernel
theorem dX8_cuts_81 : decode cX8_cuts 81 = .ok (.iaload, 1) := by decide +kernel
theorem dX8_cuts_82 : decode cX8_cuts 82 = .ok (.bipush 99, 2) := by decide +kernel
theorem dX8_cuts_84 : decode cX8_cuts 84 = .ok (.if_icmp .ge 7, 3) := by decide +kernel
theorem dX8_cuts_87 : decode cX8_cuts 87 = .ok (.iconst 1, 1) := by decide +kernel
theorem dX8_cuts_88 : decode cX8_cuts 88 = .ok (.goto 4, 3) := by decide +kernel
theorem dX8_cuts_91 : decode cX8_cuts 91 = .ok (.iconst 0, 1) := by decide +kernel
theorem dX8_cuts_92 : decode cX8_cuts 92 = .ok (.iadd, 1) := by decide +kernel
theorem dX8_cuts_93 : decode cX8_cuts 93 = .ok (.iastore, 1) := by decide +kernel
theorem dX8_cuts_94 : decode cX8_cuts 94 = .ok (.iinc 3 1, 3) := by decide +kernel
theorem dX8_cuts_97 : decode cX8_cuts 97 = .ok (.goto (-56), 3) := by decide +kernel
theorem dX8_cuts_100 : decode cX8_cuts 100 = .ok (.aload_n 0, 1) := by decide +kernel
theorem dX8_cuts_101 : decode cX8_cuts 101 = .ok (.iload_n 1, 1) := by decide +kernel
theorem dX8_cuts_102 : decode cX8_cuts 102 = .ok (.iload_n 2, 1) := by decide +kernel
theorem dX8_cuts_103 : decode cX8_cuts 103 = .ok (.invokevirtual 149, 3) := by decide +kernel
theorem dX8_cuts_106 : decode cX8_cuts 106 = .ok (.aload_n 0, 1) := by decide +kernel
theorem dX8_cuts_107 : decode cX8_cuts 107 = .ok (.getfield 23, 3) := by decide +kernel
theorem dX8_cuts_110 : decode cX8_cuts 110 = .ok (.iconst 2, 1) := by decide +kernel
theorem dX8_cuts_111 : decode cX8_cuts 111 = .ok (.iload_n 1, 1) := by decide +kernel
theorem dX8_cuts_112 : decode cX8_cuts 112 = .ok (.iadd, 1) := by decide +kernel
theorem dX8_cuts_113 : decode cX8_cuts 113 = .ok (.iaload, 1) := by decide +kernel
theorem dX8_cuts_114 : decode cX8_cuts 114 = .ok (.ireturn, 1) := by decide +kernel
theorem dX8_changes_0 : decode cX8_changes 0 = .ok (.iload_n 1, 1) := by decide +kernel
theorem dX8_changes_1 : decode cX8_changes 1 = .ok (.invokestatic 140, 3) := by decide +kernel
theorem dX8_changes_4 : decode cX8_changes 4 = .ok (.ifCond .ne 5, 3) := by decide +kernel
theorem dX8_changes_7 : decode cX8_changes 7 = .ok (.iconst (-1), 1) := by decide +kernel
theorem dX8_changes_8 : decode cX8_changes 8 = .ok (.ireturn, 1) := by decide +kernel
theorem dX8_changes_9 : decode cX8_changes 9 = .ok (.aload_n 0, 1) := by decide +kernel
theorem dX8_changes_10 : decode cX8_changes 10 = .ok (.getfield 23, 3) := by decide +kernel
theorem dX8_changes_13 : decode cX8_changes 13 = .ok (.iconst 1, 1) := by decide +kernel
theorem dX8_changes_14 : decode cX8_changes 14 = .ok (.iaload, 1) := by decide +kernel
theorem dX8_changes_15 : decode cX8_changes 15 = .ok (.istore_n 2, 1) := by decide +kernel
theorem dX8_changes_16 : decode cX8_changes 16 = .ok (.iload_n 2, 1) := by decide +kernel
theorem dX8_changes_17 : decode cX8_changes 17 = .ok (.iload_n 1, 1) := by decide +kernel
theorem dX8_changes_18 : decode cX8_changes 18 = .ok (.if_icmp .ne 6, 3) := by decide +kernel
theorem dX8_changes_21 : decode cX8_changes 21 = .ok (.bipush (-2), 2) := by decide +kernel
theorem dX8_changes_23 : decode cX8_changes 23 = .ok (.ireturn, 1) := by decide +kernel
theorem dX8_changes_24 : decode cX8_changes 24 = .ok (.aload_n 0, 1) := by decide +kernel
theorem dX8_changes_25 : decode cX8_changes 25 = .ok (.invokevirtual 153, 3) := by decide +kernel
theorem dX8_changes_28 : decode cX8_changes 28 = .ok (.aload_n 0, 1) := by decide +kernel
theorem dX8_changes_29 : decode cX8_changes 29 = .ok (.getfield 23, 3) := by decide +kernel
theorem dX8_changes_32 : decode cX8_changes 32 = .ok (.iconst 1, 1) := by decide +kernel
theorem dX8_changes_33 : decode cX8_changes 33 = .ok (.iload_n 1, 1) := by decide +kernel
theorem dX8_changes_34 : decode cX8_changes 34 = .ok (.iastore, 1) := by decide +kernel
theorem dX8_changes_35 : decode cX8_changes 35 = .ok (.iload_n 2, 1) := by decide +kernel
theorem dX8_changes_36 : decode cX8_changes 36 = .ok (.ireturn, 1) := by decide +kernel
theorem dX8_empties_0 : decode cX8_empties 0 = .ok (.iload_n 1, 1) := by decide +kernel
theorem dX8_empties_1 : decode cX8_empties 1 = .ok (.invokestatic 140, 3) := by decide +kernel
theorem dX8_empties_4 : decode cX8_empties 4 = .ok (.ifCond .ne 5, 3) := by decide +kernel
theorem dX8_empties_7 : decode cX8_empties 7 = .ok (.iconst (-1), 1) := by decide +kernel
theorem dX8_empties_8 : decode cX8_empties 8 = .ok (.ireturn, 1) := by decide +kernel
theorem dX8_empties_9 : decode cX8_empties 9 = .ok (.aload_n 0, 1) := by decide +kernel
theorem dX8_empties_10 : decode cX8_empties 10 = .ok (.iload_n 1, 1) := by decide +kernel
theorem dX8_empties_11 : decode cX8_empties 11 = .ok (.invokevirtual 160, 3) := by decide +kernel
theorem dX8_empties_14 : decode cX8_empties 14 = .ok (.istore_n 2, 1) := by decide +kernel
theorem dX8_empties_15 : decode cX8_empties 15 = .ok (.iload_n 2, 1) := by decide +kernel
theorem dX8_empties_16 : decode cX8_empties 16 = .ok (.ifCond .ne 6, 3) := by decide +kernel
theorem dX8_empties_19 : decode cX8_empties 19 = .ok (.bipush (-2), 2) := by decide +kernel
theorem dX8_empties_21 : decode cX8_empties 21 = .ok (.ireturn, 1) := by decide +kernel
theorem dX8_empties_22 : decode cX8_empties 22 = .ok (.aload_n 0, 1) := by decide +kernel
theorem dX8_empties_23 : decode cX8_empties 23 = .ok (.invokevirtual 153, 3) := by decide +kernel
theorem dX8_empties_26 : decode cX8_empties 26 = .ok (.iconst 0, 1) := by decide +kernel
theorem dX8_empties_27 : decode cX8_empties 27 = .ok (.istore_n 3, 1) := by decide +kernel
theorem dX8_empties_28 : decode cX8_empties 28 = .ok (.iload_n 3, 1) := by decide +kernel
theorem dX8_empties_29 : decode cX8_empties 29 = .ok (.bipush 10, 2) := by decide +kernel
theorem dX8_empties_31 : decode cX8_empties 31 = .ok (.if_icmp .ge 24, 3) := by decide +kernel
theorem dX8_empties_34 : decode cX8_empties 34 = .ok (.aload_n 0, 1) := by decide +kernel
theorem dX8_empties_35 : decode cX8_empties 35 = .ok (.getfield 23, 3) := by decide +kernel
theorem dX8_empties_38 : decode cX8_empties 38 = .ok (.bipush 72, 2) := by decide +kernel
theorem dX8_empties_40 : decode cX8_empties 40 = .ok (.bipush 10, 2) := by decide +kernel
theorem dX8_empties_42 : decode cX8_empties 42 = .ok (.iload_n 1, 1) := by decide +kernel
theorem dX8_empties_43 : decode cX8_empties 43 = .ok (.imul, 1) := by decide +kernel
theorem dX8_empties_44 : decode cX8_empties 44 = .ok (.iadd, 1) := by decide +kernel
theorem dX8_empties_45 : decode cX8_empties 45 = .ok (.iload_n 3, 1) := by decide +kernel
theorem dX8_empties_46 : decode cX8_empties 46 = .ok (.iadd, 1) := by decide +kernel
theorem dX8_empties_47 : decode cX8_empties 47 = .ok (.iconst 0, 1) := by decide +kernel
theorem dX8_empties_48 : decode cX8_empties 48 = .ok (.iastore, 1) := by decide +kernel
theorem dX8_empties_49 : decode cX8_empties 49 = .ok (.iinc 3 1, 3) := by decide +kernel
theorem dX8_empties_52 : decode cX8_empties 52 = .ok (.goto (-24), 3) := by decide +kernel
theorem dX8_empties_55 : decode cX8_empties 55 = .ok (.iload_n 2, 1) := by decide +kernel
theorem dX8_empties_56 : decode cX8_empties 56 = .ok (.ireturn, 1) := by decide +kernel
theorem dX8_undo_0 : decode cX8_undo 0 = .ok (.aload_n 0, 1) := by decide +kernel
theorem dX8_undo_1 : decode cX8_undo 1 = .ok (.getfield 23, 3) := by decide +kernel
theorem dX8_undo_4 : decode cX8_undo 4 = .ok (.bipush 112, 2) := by decide +kernel
theorem dX8_undo_6 : decode cX8_undo 6 = .ok (.iaload, 1) := by decide +kernel
theorem dX8_undo_7 : decode cX8_undo 7 = .ok (.ifCond .ne 6, 3) := by decide +kernel
theorem dX8_undo_10 : decode cX8_undo 10 = .ok (.bipush (-2), 2) := by decide +kernel
theorem dX8_undo_12 : decode cX8_undo 12 = .ok (.ireturn, 1) := by decide +kernel
theorem dX8_undo_13 : decode cX8_undo 13 = .ok (.aload_n 0, 1) := by decide +kernel
theorem dX8_undo_14 : decode cX8_undo 14 = .ok (.getfield 23, 3) := by decide +kernel
theorem dX8_undo_17 : decode cX8_undo 17 = .ok (.bipush 112, 2) := by decide +kernel
theorem dX8_undo_19 : decode cX8_undo 19 = .ok (.dup2, 1) := by decide +kernel
theorem dX8_undo_20 : decode cX8_undo 20 = .ok (.iaload, 1) := by decide +kernel
theorem dX8_undo_21 : decode cX8_undo 21 = .ok (.iconst 1, 1) := by decide +kernel
theorem dX8_undo_22 : decode cX8_undo 22 = .ok (.isub, 1) := by decide +kernel
theorem dX8_undo_23 : decode cX8_undo 23 = .ok (.iastore, 1) := by decide +kernel
theorem dX8_undo_24 : decode cX8_undo 24 = .ok (.bipush 113, 2) := by decide +kernel
theorem dX8_undo_26 : decode cX8_undo 26 = .ok (.bipush 112, 2) := by decide +kernel
theorem dX8_undo_28 : decode cX8_undo 28 = .ok (.aload_n 0, 1) := by decide +kernel
theorem dX8_undo_29 : decode cX8_undo 29 = .ok (.getfield 23, 3) := by decide +kernel
theorem dX8_undo_32 : decode cX8_undo 32 = .ok (.bipush 112, 2) := by decide +kernel
theorem dX8_undo_34 : decode cX8_undo 34 = .ok (.iaload, 1) := by decide +kernel
theorem dX8_undo_35 : decode cX8_undo 35 = .ok (.imul, 1) := by decide +kernel
theorem dX8_undo_36 : decode cX8_undo 36 = .ok (.iadd, 1) := by decide +kernel
theorem dX8_undo_37 : decode cX8_undo 37 = .ok (.istore_n 1, 1) := by decide +kernel
theorem dX8_undo_38 : decode cX8_undo 38 = .ok (.iconst 0, 1) := by decide +kernel
theorem dX8_undo_39 : decode cX8_undo 39 = .ok (.istore_n 2, 1) := by decide +kernel
theorem dX8_undo_40 : decode cX8_undo 40 = .ok (.iload_n 2, 1) := by decide +kernel
theorem dX8_undo_41 : decode cX8_undo 41 = .ok (.bipush 112, 2) := by decide +kernel
theorem dX8_undo_43 : decode cX8_undo 43 = .ok (.if_icmp .ge 23, 3) := by decide +kernel
theorem dX8_undo_46 : decode cX8_undo 46 = .ok (.aload_n 0, 1) := by decide +kernel
theorem dX8_undo_47 : decode cX8_undo 47 = .ok (.getfield 23, 3) := by decide +kernel
theorem dX8_undo_50 : decode cX8_undo 50 = .ok (.iload_n 2, 1) := by decide +kernel
theorem dX8_undo_51 : decode cX8_undo 51 = .ok (.aload_n 0, 1) := by decide +kernel
theorem dX8_undo_52 : decode cX8_undo 52 = .ok (.getfield 23, 3) := by decide +kernel
theorem dX8_undo_55 : decode cX8_undo 55 = .ok (.iload_n 1, 1) := by decide +kernel
theorem dX8_undo_56 : decode cX8_undo 56 = .ok (.iload_n 2, 1) := by decide +kernel
theorem dX8_undo_57 : decode cX8_undo 57 = .ok (.iadd, 1) := by decide +kernel
theorem dX8_undo_58 : decode cX8_undo 58 = .ok (.iaload, 1) := by decide +kernel
theorem dX8_undo_59 : decode cX8_undo 59 = .ok (.iastore, 1) := by decide +kernel
theorem dX8_undo_60 : decode cX8_undo 60 = .ok (.iinc 2 1, 3) := by decide +kernel
theorem dX8_undo_63 : decode cX8_undo 63 = .ok (.goto (-23), 3) := by decide +kernel
theorem dX8_undo_66 : decode cX8_undo 66 = .ok (.aload_n 0, 1) := by decide +kernel
theorem dX8_undo_67 : decode cX8_undo 67 = .ok (.getfield 23, 3) := by decide +kernel
theorem dX8_undo_70 : decode cX8_undo 70 = .ok (.bipush 112, 2) := by decide +kernel
theorem dX8_undo_72 : decode cX8_undo 72 = .ok (.iaload, 1) := by decide +kernel
theorem dX8_undo_73 : decode cX8_undo 73 = .ok (.ireturn, 1) := by decide +kernel
theorem dX8_now_0 : decode cX8_now 0 = .ok (.iconst 0, 1) := by decide +kernel
theorem dX8_now_1 : decode cX8_now 1 = .ok (.istore_n 2, 1) := by decide +kernel
theorem dX8_now_2 : decode cX8_now 2 = .ok (.iconst 0, 1) := by decide +kernel
theorem dX8_now_3 : decode cX8_now 3 = .ok (.istore_n 3, 1) := by decide +kernel
theorem dX8_now_4 : decode cX8_now 4 = .ok (.iconst 0, 1) := by decide +kernel
theorem dX8_now_5 : decode cX8_now 5 = .ok (.istore 4, 2) := by decide +kernel
theorem dX8_now_7 : decode cX8_now 7 = .ok (.iload 4, 2) := by decide +kernel
theorem dX8_now_9 : decode cX8_now 9 = .ok (.aload_n 0, 1) := by decide +kernel
theorem dX8_now_10 : decode cX8_now 10 = .ok (.getfield 57, 3) := by decide +kernel
theorem dX8_now_13 : decode cX8_now 13 = .ok (.if_icmp .ge 21, 3) := by decide +kernel
theorem dX8_now_16 : decode cX8_now 16 = .ok (.iload_n 2, 1) := by decide +kernel
theorem dX8_now_17 : decode cX8_now 17 = .ok (.aload_n 0, 1) := by decide +kernel
theorem dX8_now_18 : decode cX8_now 18 = .ok (.getfield 23, 3) := by decide +kernel
theorem dX8_now_21 : decode cX8_now 21 = .ok (.iconst 2, 1) := by decide +kernel
theorem dX8_now_22 : decode cX8_now 22 = .ok (.iload 4, 2) := by decide +kernel
theorem dX8_now_24 : decode cX8_now 24 = .ok (.iadd, 1) := by decide +kernel
theorem dX8_now_25 : decode cX8_now 25 = .ok (.iaload, 1) := by decide +kernel
theorem dX8_now_26 : decode cX8_now 26 = .ok (.iadd, 1) := by decide +kernel
theorem dX8_now_27 : decode cX8_now 27 = .ok (.istore_n 2, 1) := by decide +kernel
theorem dX8_now_28 : decode cX8_now 28 = .ok (.iinc 4 1, 3) := by decide +kernel
theorem dX8_now_31 : decode cX8_now 31 = .ok (.goto (-24), 3) := by decide +kernel
theorem dX8_now_34 : decode cX8_now 34 = .ok (.iconst 0, 1) := by decide +kernel
theorem dX8_now_35 : decode cX8_now 35 = .ok (.istore 4, 2) := by decide +kernel
theorem dX8_now_37 : decode cX8_now 37 = .ok (.iload 4, 2) := by decide +kernel
theorem dX8_now_39 : decode cX8_now 39 = .ok (.iconst 4, 1) := by decide +kernel
theorem dX8_now_40 : decode cX8_now 40 = .ok (.if_icmp .ge 18, 3) := by decide +kernel
theorem dX8_now_43 : decode cX8_now 43 = .ok (.iload_n 3, 1) := by decide +kernel
theorem dX8_now_44 : decode cX8_now 44 = .ok (.aload_n 0, 1) := by decide +kernel
theorem dX8_now_45 : decode cX8_now 45 = .ok (.iload 4, 2) := by decide +kernel
theorem dX8_now_47 : decode cX8_now 47 = .ok (.invokevirtual 160, 3) := by decide +kernel
theorem dX8_now_50 : decode cX8_now 50 = .ok (.iadd, 1) := by decide +kernel
theorem dX8_now_51 : decode cX8_now 51 = .ok (.istore_n 3, 1) := by decide +kernel
theorem dX8_now_52 : decode cX8_now 52 = .ok (.iinc 4 1, 3) := by decide +kernel
theorem dX8_now_55 : decode cX8_now 55 = .ok (.goto (-18), 3) := by decide +kernel
theorem dX8_now_58 : decode cX8_now 58 = .ok (.iload_n 1, 1) := by decide +kernel
theorem dX8_now_59 : decode cX8_now 59 = .ok (.tableswitch 40 0 3 #[29, 29, 36, 38], 29) := by decide +kernel
theorem dX8_now_88 : decode cX8_now 88 = .ok (.aload_n 0, 1) := by decide +kernel
theorem dX8_now_89 : decode cX8_now 89 = .ok (.getfield 23, 3) := by decide +kernel
theorem dX8_now_92 : decode cX8_now 92 = .ok (.iload_n 1, 1) := by decide +kernel
theorem dX8_now_93 : decode cX8_now 93 = .ok (.iaload, 1) := by decide +kernel
theorem dX8_now_94 : decode cX8_now 94 = .ok (.ireturn, 1) := by decide +kernel
theorem dX8_now_95 : decode cX8_now 95 = .ok (.iload_n 2, 1) := by decide +kernel
theorem dX8_now_96 : decode cX8_now 96 = .ok (.ireturn, 1) := by decide +kernel
theorem dX8_now_97 : decode cX8_now 97 = .ok (.iload_n 3, 1) := by decide +kernel
theorem dX8_now_98 : decode cX8_now 98 = .ok (.ireturn, 1) := by decide +kernel
theorem dX8_now_99 : decode cX8_now 99 = .ok (.iconst (-1), 1) := by decide +kernel
theorem dX8_now_100 : decode cX8_now 100 = .ok (.ireturn, 1) := by decide +kernel
theorem dX8_reads_0 : decode cX8_reads 0 = .ok (.iload_n 1, 1) := by decide +kernel
theorem dX8_reads_1 : decode cX8_reads 1 = .ok (.invokestatic 140, 3) := by decide +kernel
theorem dX8_reads_4 : decode cX8_reads 4 = .ok (.ifCond .eq 12, 3) := by decide +kernel
theorem dX8_reads_7 : decode cX8_reads 7 = .ok (.iload_n 2, 1) := by decide +kernel
theorem dX8_reads_8 : decode cX8_reads 8 = .ok (.iconst 0, 1) := by decide +kernel
theorem dX8_reads_9 : decode cX8_reads 9 = .ok (.iconst 1, 1) := by decide +kernel
theorem dX8_reads_10 : decode cX8_reads 10 = .ok (.invokestatic 60, 3) := by decide +kernel
theorem dX8_reads_13 : decode cX8_reads 13 = .ok (.ifCond .ne 5, 3) := by decide +kernel
theorem dX8_reads_16 : decode cX8_reads 16 = .ok (.iconst (-1), 1) := by decide +kernel
theorem dX8_reads_17 : decode cX8_reads 17 = .ok (.ireturn, 1) := by decide +kernel
theorem dX8_reads_18 : decode cX8_reads 18 = .ok (.bipush (-9), 2) := by decide +kernel
theorem dX8_reads_20 : decode cX8_reads 20 = .ok (.istore_n 3, 1) := by decide +kernel
theorem dX8_reads_21 : decode cX8_reads 21 = .ok (.iconst 0, 1) := by decide +kernel
theorem dX8_reads_22 : decode cX8_reads 22 = .ok (.istore 4, 2) := by decide +kernel
theorem dX8_reads_24 : decode cX8_reads 24 = .ok (.iconst 0, 1) := by decide +kernel
theorem dX8_reads_25 : decode cX8_reads 25 = .ok (.istore 5, 2) := by decide +kernel
theorem dX8_reads_27 : decode cX8_reads 27 = .ok (.iload 5, 2) := by decide +kernel
theorem dX8_reads_29 : decode cX8_reads 29 = .ok (.bipush 10, 2) := by decide +kernel
theorem dX8_reads_31 : decode cX8_reads 31 = .ok (.if_icmp .ge 56, 3) := by decide +kernel
theorem dX8_reads_34 : decode cX8_reads 34 = .ok (.aload_n 0, 1) := by decide +kernel
theorem dX8_reads_35 : decode cX8_reads 35 = .ok (.getfield 23, 3) := by decide +kernel
theorem dX8_reads_38 : decode cX8_reads 38 = .ok (.bipush 72, 2) := by decide +kernel
theorem dX8_reads_40 : decode cX8_reads 40 = .ok (.bipush 10, 2) := by decide +kernel
theorem dX8_reads_42 : decode cX8_reads 42 = .ok (.iload_n 1, 1) := by decide +kernel
theorem dX8_reads_43 : decode cX8_reads 43 = .ok (.imul, 1) := by decide +kernel
theorem dX8_reads_44 : decode cX8_reads 44 = .ok (.iadd, 1) := by decide +kernel
theorem dX8_reads_45 : decode cX8_reads 45 = .ok (.iload 5, 2) := by decide +kernel
theorem dX8_reads_47 : decode cX8_reads 47 = .ok (.iadd, 1) := by decide +kernel
theorem dX8_reads_48 : decode cX8_reads 48 = .ok (.iaload, 1) := by decide +kernel
theorem dX8_reads_49 : decode cX8_reads 49 = .ok (.istore 6, 2) := by decide +kernel
theorem dX8_reads_51 : decode cX8_reads 51 = .ok (.iload 6, 2) := by decide +kernel
theorem dX8_reads_53 : decode cX8_reads 53 = .ok (.iload 4, 2) := by decide +kernel
theorem dX8_reads_55 : decode cX8_reads 55 = .ok (.if_icmp .le 8, 3) := by decide +kernel
theorem dX8_reads_58 : decode cX8_reads 58 = .ok (.iload 5, 2) := by decide +kernel
theorem dX8_reads_60 : decode cX8_reads 60 = .ok (.goto 4, 3) := by decide +kernel
theorem dX8_reads_63 : decode cX8_reads 63 = .ok (.iload_n 3, 1) := by decide +kernel
theorem dX8_reads_64 : decode cX8_reads 64 = .ok (.istore_n 3, 1) := by decide +kernel
theorem dX8_reads_65 : decode cX8_reads 65 = .ok (.iload 6, 2) := by decide +kernel
theorem dX8_reads_67 : decode cX8_reads 67 = .ok (.iload 4, 2) := by decide +kernel
theorem dX8_reads_69 : decode cX8_reads 69 = .ok (.if_icmp .le 8, 3) := by decide +kernel
theorem dX8_reads_72 : decode cX8_reads 72 = .ok (.iload 6, 2) := by decide +kernel
theorem dX8_reads_74 : decode cX8_reads 74 = .ok (.goto 5, 3) := by decide +kernel
theorem dX8_reads_77 : decode cX8_reads 77 = .ok (.iload 4, 2) := by decide +kernel
theorem dX8_reads_79 : decode cX8_reads 79 = .ok (.istore 4, 2) := by decide +kernel
theorem dX8_reads_81 : decode cX8_reads 81 = .ok (.iinc 5 1, 3) := by decide +kernel
theorem dX8_reads_84 : decode cX8_reads 84 = .ok (.goto (-57), 3) := by decide +kernel
theorem dX8_reads_87 : decode cX8_reads 87 = .ok (.iconst 0, 1) := by decide +kernel
theorem dX8_reads_88 : decode cX8_reads 88 = .ok (.istore 5, 2) := by decide +kernel
theorem dX8_reads_90 : decode cX8_reads 90 = .ok (.iconst 0, 1) := by decide +kernel
theorem dX8_reads_91 : decode cX8_reads 91 = .ok (.istore 6, 2) := by decide +kernel
theorem dX8_reads_93 : decode cX8_reads 93 = .ok (.iload 6, 2) := by decide +kernel
theorem dX8_reads_95 : decode cX8_reads 95 = .ok (.aload_n 0, 1) := by decide +kernel
theorem dX8_reads_96 : decode cX8_reads 96 = .ok (.getfield 57, 3) := by decide +kernel
theorem dX8_reads_99 : decode cX8_reads 99 = .ok (.if_icmp .ge 45, 3) := by decide +kernel
theorem dX8_reads_102 : decode cX8_reads 102 = .ok (.iload 5, 2) := by decide +kernel
theorem dX8_reads_104 : decode cX8_reads 104 = .ok (.aload_n 0, 1) := by decide +kernel
theorem dX8_reads_105 : decode cX8_reads 105 = .ok (.getfield 23, 3) := by decide +kernel
theorem dX8_reads_108 : decode cX8_reads 108 = .ok (.bipush 72, 2) := by decide +kernel
theorem dX8_reads_110 : decode cX8_reads 110 = .ok (.bipush 10, 2) := by decide +kernel
theorem dX8_reads_112 : decode cX8_reads 112 = .ok (.iload_n 1, 1) := by decide +kernel
theorem dX8_reads_113 : decode cX8_reads 113 = .ok (.imul, 1) := by decide +kernel
theorem dX8_reads_114 : decode cX8_reads 114 = .ok (.iadd, 1) := by decide +kernel
theorem dX8_reads_115 : decode cX8_reads 115 = .ok (.aload_n 0, 1) := by decide +kernel
theorem dX8_reads_116 : decode cX8_reads 116 = .ok (.getfield 7, 3) := by decide +kernel
theorem dX8_reads_119 : decode cX8_reads 119 = .ok (.iload 6, 2) := by decide +kernel
theorem dX8_reads_121 : decode cX8_reads 121 = .ok (.iaload, 1) := by decide +kernel
theorem dX8_reads_122 : decode cX8_reads 122 = .ok (.iadd, 1) := by decide +kernel
theorem dX8_reads_123 : decode cX8_reads 123 = .ok (.iaload, 1) := by decide +kernel
theorem dX8_reads_124 : decode cX8_reads 124 = .ok (.ifCond .le 10, 3) := by decide +kernel
theorem dX8_reads_127 : decode cX8_reads 127 = .ok (.iconst 1, 1) := by decide +kernel
theorem dX8_reads_128 : decode cX8_reads 128 = .ok (.iload 6, 2) := by decide +kernel
theorem dX8_reads_130 : decode cX8_reads 130 = .ok (.ishl, 1) := by decide +kernel
theorem dX8_reads_131 : decode cX8_reads 131 = .ok (.goto 4, 3) := by decide +kernel
theorem dX8_reads_134 : decode cX8_reads 134 = .ok (.iconst 0, 1) := by decide +kernel
theorem dX8_reads_135 : decode cX8_reads 135 = .ok (.ior, 1) := by decide +kernel
theorem dX8_reads_136 : decode cX8_reads 136 = .ok (.istore 5, 2) := by decide +kernel
theorem dX8_reads_138 : decode cX8_reads 138 = .ok (.iinc 6 1, 3) := by decide +kernel
theorem dX8_reads_141 : decode cX8_reads 141 = .ok (.goto (-48), 3) := by decide +kernel
theorem dX8_reads_144 : decode cX8_reads 144 = .ok (.iload_n 2, 1) := by decide +kernel
theorem dX8_reads_145 : decode cX8_reads 145 = .ok (.ifCond .ne 7, 3) := by decide +kernel
theorem dX8_reads_148 : decode cX8_reads 148 = .ok (.iload_n 3, 1) := by decide +kernel
theorem dX8_reads_149 : decode cX8_reads 149 = .ok (.goto 5, 3) := by decide +kernel
theorem dX8_reads_152 : decode cX8_reads 152 = .ok (.iload 5, 2) := by decide +kernel
theorem dX8_reads_154 : decode cX8_reads 154 = .ok (.ireturn, 1) := by decide +kernel
theorem dX8_asItIs_0 : decode cX8_asItIs 0 = .ok (.aload_n 0, 1) := by decide +kernel
theorem dX8_asItIs_1 : decode cX8_asItIs 1 = .ok (.iconst 0, 1) := by decide +kernel
theorem dX8_asItIs_2 : decode cX8_asItIs 2 = .ok (.putfield 163, 3) := by decide +kernel
theorem dX8_asItIs_5 : decode cX8_asItIs 5 = .ok (.aload_n 0, 1) := by decide +kernel
theorem dX8_asItIs_6 : decode cX8_asItIs 6 = .ok (.aload_n 0, 1) := by decide +kernel
theorem dX8_asItIs_7 : decode cX8_asItIs 7 = .ok (.getfield 23, 3) := by decide +kernel
theorem dX8_asItIs_10 : decode cX8_asItIs 10 = .ok (.iconst 2, 1) := by decide +kernel
theorem dX8_asItIs_11 : decode cX8_asItIs 11 = .ok (.iload_n 1, 1) := by decide +kernel
theorem dX8_asItIs_12 : decode cX8_asItIs 12 = .ok (.iadd, 1) := by decide +kernel
theorem dX8_asItIs_13 : decode cX8_asItIs 13 = .ok (.iaload, 1) := by decide +kernel
theorem dX8_asItIs_14 : decode cX8_asItIs 14 = .ok (.putfield 166, 3) := by decide +kernel
theorem dX8_asItIs_17 : decode cX8_asItIs 17 = .ok (.iconst 0, 1) := by decide +kernel
theorem dX8_asItIs_18 : decode cX8_asItIs 18 = .ok (.istore_n 2, 1) := by decide +kernel
theorem dX8_asItIs_19 : decode cX8_asItIs 19 = .ok (.iload_n 2, 1) := by decide +kernel
theorem dX8_asItIs_20 : decode cX8_asItIs 20 = .ok (.aload_n 0, 1) := by decide +kernel
theorem dX8_asItIs_21 : decode cX8_asItIs 21 = .ok (.getfield 166, 3) := by decide +kernel
theorem dX8_asItIs_24 : decode cX8_asItIs 24 = .ok (.if_icmp .ge 21, 3) := by decide +kernel
theorem dX8_asItIs_27 : decode cX8_asItIs 27 = .ok (.aload_n 0, 1) := by decide +kernel
theorem dX8_asItIs_28 : decode cX8_asItIs 28 = .ok (.getfield 51, 3) := by decide +kernel
theorem dX8_asItIs_31 : decode cX8_asItIs 31 = .ok (.iload_n 2, 1) := by decide +kernel
theorem dX8_asItIs_32 : decode cX8_asItIs 32 = .ok (.aload_n 0, 1) := by decide +kernel
theorem dX8_asItIs_33 : decode cX8_asItIs 33 = .ok (.iload_n 1, 1) := by decide +kernel
theorem dX8_asItIs_34 : decode cX8_asItIs 34 = .ok (.iload_n 2, 1) := by decide +kernel
theorem dX8_asItIs_35 : decode cX8_asItIs 35 = .ok (.invokevirtual 131, 3) := by decide +kernel
theorem dX8_asItIs_38 : decode cX8_asItIs 38 = .ok (.iastore, 1) := by decide +kernel
theorem dX8_asItIs_39 : decode cX8_asItIs 39 = .ok (.iinc 2 1, 3) := by decide +kernel
theorem dX8_asItIs_42 : decode cX8_asItIs 42 = .ok (.goto (-23), 3) := by decide +kernel
theorem dX8_asItIs_45 : decode cX8_asItIs 45 = .ok (.return_, 1) := by decide +kernel
theorem dX8_growsTried_0 : decode cX8_growsTried 0 = .ok (.aload_n 0, 1) := by decide +kernel
theorem dX8_growsTried_1 : decode cX8_growsTried 1 = .ok (.dup, 1) := by decide +kernel
theorem dX8_growsTried_2 : decode cX8_growsTried 2 = .ok (.getfield 163, 3) := by decide +kernel
theorem dX8_growsTried_5 : decode cX8_growsTried 5 = .ok (.aload_n 0, 1) := by decide +kernel
theorem dX8_growsTried_6 : decode cX8_growsTried 6 = .ok (.getfield 166, 3) := by decide +kernel
theorem dX8_growsTried_9 : decode cX8_growsTried 9 = .ok (.aload_n 0, 1) := by decide +kernel
theorem dX8_growsTried_10 : decode cX8_growsTried 10 = .ok (.getfield 163, 3) := by decide +kernel
theorem dX8_growsTried_13 : decode cX8_growsTried 13 = .ok (.isub, 1) := by decide +kernel
theorem dX8_growsTried_14 : decode cX8_growsTried 14 = .ok (.aload_n 0, 1) := by decide +kernel
theorem dX8_growsTried_15 : decode cX8_growsTried 15 = .ok (.getfield 19, 3) := by decide +kernel
theorem dX8_growsTried_18 : decode cX8_growsTried 18 = .ok (.if_icmp .ne 7, 3) := by decide +kernel
theorem dX8_growsTried_21 : decode cX8_growsTried 21 = .ok (.iconst 1, 1) := by decide +kernel
theorem dX8_growsTried_22 : decode cX8_growsTried 22 = .ok (.goto 4, 3) := by decide +kernel
theorem dX8_growsTried_25 : decode cX8_growsTried 25 = .ok (.iconst 0, 1) := by decide +kernel
theorem dX8_growsTried_26 : decode cX8_growsTried 26 = .ok (.iadd, 1) := by decide +kernel
theorem dX8_growsTried_27 : decode cX8_growsTried 27 = .ok (.putfield 163, 3) := by decide +kernel
theorem dX8_growsTried_30 : decode cX8_growsTried 30 = .ok (.aload_n 0, 1) := by decide +kernel
theorem dX8_growsTried_31 : decode cX8_growsTried 31 = .ok (.getfield 51, 3) := by decide +kernel
theorem dX8_growsTried_34 : decode cX8_growsTried 34 = .ok (.aload_n 0, 1) := by decide +kernel
theorem dX8_growsTried_35 : decode cX8_growsTried 35 = .ok (.getfield 166, 3) := by decide +kernel
theorem dX8_growsTried_38 : decode cX8_growsTried 38 = .ok (.iload_n 1, 1) := by decide +kernel
theorem dX8_growsTried_39 : decode cX8_growsTried 39 = .ok (.iastore, 1) := by decide +kernel
theorem dX8_growsTried_40 : decode cX8_growsTried 40 = .ok (.aload_n 0, 1) := by decide +kernel
theorem dX8_growsTried_41 : decode cX8_growsTried 41 = .ok (.dup, 1) := by decide +kernel
theorem dX8_growsTried_42 : decode cX8_growsTried 42 = .ok (.getfield 166, 3) := by decide +kernel
theorem dX8_growsTried_45 : decode cX8_growsTried 45 = .ok (.iconst 1, 1) := by decide +kernel
theorem dX8_growsTried_46 : decode cX8_growsTried 46 = .ok (.iadd, 1) := by decide +kernel
theorem dX8_growsTried_47 : decode cX8_growsTried 47 = .ok (.putfield 166, 3) := by decide +kernel
theorem dX8_growsTried_50 : decode cX8_growsTried 50 = .ok (.return_, 1) := by decide +kernel
theorem dX8_plan_0 : decode cX8_plan 0 = .ok (.aload_n 0, 1) := by decide +kernel
theorem dX8_plan_1 : decode cX8_plan 1 = .ok (.iload_n 1, 1) := by decide +kernel
theorem dX8_plan_2 : decode cX8_plan 2 = .ok (.invokevirtual 134, 3) := by decide +kernel
theorem dX8_plan_5 : decode cX8_plan 5 = .ok (.ifCond .eq 33, 3) := by decide +kernel
theorem dX8_plan_8 : decode cX8_plan 8 = .ok (.iload_n 2, 1) := by decide +kernel
theorem dX8_plan_9 : decode cX8_plan 9 = .ok (.iconst 1, 1) := by decide +kernel
theorem dX8_plan_10 : decode cX8_plan 10 = .ok (.bipush 20, 2) := by decide +kernel
theorem dX8_plan_12 : decode cX8_plan 12 = .ok (.invokestatic 60, 3) := by decide +kernel
theorem dX8_plan_15 : decode cX8_plan 15 = .ok (.ifCond .eq 23, 3) := by decide +kernel
theorem dX8_plan_18 : decode cX8_plan 18 = .ok (.iload_n 3, 1) := by decide +kernel
theorem dX8_plan_19 : decode cX8_plan 19 = .ok (.iconst 1, 1) := by decide +kernel
theorem dX8_plan_20 : decode cX8_plan 20 = .ok (.bipush 12, 2) := by decide +kernel
theorem dX8_plan_22 : decode cX8_plan 22 = .ok (.invokestatic 60, 3) := by decide +kernel
theorem dX8_plan_25 : decode cX8_plan 25 = .ok (.ifCond .eq 13, 3) := by decide +kernel
theorem dX8_plan_28 : decode cX8_plan 28 = .ok (.iload 4, 2) := by decide +kernel
theorem dX8_plan_30 : decode cX8_plan 30 = .ok (.iconst 0, 1) := by decide +kernel
theorem dX8_plan_31 : decode cX8_plan 31 = .ok (.iconst 1, 1) := by decide +kernel
theorem dX8_plan_32 : decode cX8_plan 32 = .ok (.invokestatic 60, 3) := by decide +kernel
theorem dX8_plan_35 : decode cX8_plan 35 = .ok (.ifCond .ne 5, 3) := by decide +kernel
theorem dX8_plan_38 : decode cX8_plan 38 = .ok (.iconst (-1), 1) := by decide +kernel
theorem dX8_plan_39 : decode cX8_plan 39 = .ok (.ireturn, 1) := by decide +kernel
theorem dX8_plan_40 : decode cX8_plan 40 = .ok (.aload_n 0, 1) := by decide +kernel
theorem dX8_plan_41 : decode cX8_plan 41 = .ok (.iload_n 1, 1) := by decide +kernel
theorem dX8_plan_42 : decode cX8_plan 42 = .ok (.invokevirtual 169, 3) := by decide +kernel
theorem dX8_plan_45 : decode cX8_plan 45 = .ok (.iconst 0, 1) := by decide +kernel
theorem dX8_plan_46 : decode cX8_plan 46 = .ok (.istore 5, 2) := by decide +kernel
theorem dX8_plan_48 : decode cX8_plan 48 = .ok (.iconst 0, 1) := by decide +kernel
theorem dX8_plan_49 : decode cX8_plan 49 = .ok (.istore 6, 2) := by decide +kernel
theorem dX8_plan_51 : decode cX8_plan 51 = .ok (.iload 6, 2) := by decide +kernel
theorem dX8_plan_53 : decode cX8_plan 53 = .ok (.iload_n 2, 1) := by decide +kernel
theorem dX8_plan_54 : decode cX8_plan 54 = .ok (.if_icmp .ge 106, 3) := by decide +kernel
theorem dX8_plan_57 : decode cX8_plan 57 = .ok (.aload_n 0, 1) := by decide +kernel
theorem dX8_plan_58 : decode cX8_plan 58 = .ok (.aload_n 0, 1) := by decide +kernel
theorem dX8_plan_59 : decode cX8_plan 59 = .ok (.iload_n 1, 1) := by decide +kernel
theorem dX8_plan_60 : decode cX8_plan 60 = .ok (.iload 6, 2) := by decide +kernel
theorem dX8_plan_62 : decode cX8_plan 62 = .ok (.invokevirtual 146, 3) := by decide +kernel
theorem dX8_plan_65 : decode cX8_plan 65 = .ok (.invokevirtual 172, 3) := by decide +kernel
theorem dX8_plan_68 : decode cX8_plan 68 = .ok (.aload_n 0, 1) := by decide +kernel
theorem dX8_plan_69 : decode cX8_plan 69 = .ok (.getfield 166, 3) := by decide +kernel
theorem dX8_plan_72 : decode cX8_plan 72 = .ok (.aload_n 0, 1) := by decide +kernel
theorem dX8_plan_73 : decode cX8_plan 73 = .ok (.getfield 163, 3) := by decide +kernel
theorem dX8_plan_76 : decode cX8_plan 76 = .ok (.isub, 1) := by decide +kernel
theorem dX8_plan_77 : decode cX8_plan 77 = .ok (.iload_n 3, 1) := by decide +kernel
theorem dX8_plan_78 : decode cX8_plan 78 = .ok (.if_icmp .le 48, 3) := by decide +kernel
theorem dX8_plan_81 : decode cX8_plan 81 = .ok (.aload_n 0, 1) := by decide +kernel
theorem dX8_plan_82 : decode cX8_plan 82 = .ok (.getfield 163, 3) := by decide +kernel
theorem dX8_plan_85 : decode cX8_plan 85 = .ok (.aload_n 0, 1) := by decide +kernel
theorem dX8_plan_86 : decode cX8_plan 86 = .ok (.getfield 166, 3) := by decide +kernel
theorem dX8_plan_89 : decode cX8_plan 89 = .ok (.if_icmp .ge 34, 3) := by decide +kernel
theorem dX8_plan_92 : decode cX8_plan 92 = .ok (.aload_n 0, 1) := by decide +kernel
theorem dX8_plan_93 : decode cX8_plan 93 = .ok (.getfield 51, 3) := by decide +kernel
theorem dX8_plan_96 : decode cX8_plan 96 = .ok (.aload_n 0, 1) := by decide +kernel
theorem dX8_plan_97 : decode cX8_plan 97 = .ok (.getfield 163, 3) := by decide +kernel
theorem dX8_plan_100 : decode cX8_plan 100 = .ok (.iaload, 1) := by decide +kernel
theorem dX8_plan_101 : decode cX8_plan 101 = .ok (.aload_n 0, 1) := by decide +kernel
theorem dX8_plan_102 : decode cX8_plan 102 = .ok (.getfield 7, 3) := by decide +kernel
theorem dX8_plan_105 : decode cX8_plan 105 = .ok (.iload_n 1, 1) := by decide +kernel
theorem dX8_plan_106 : decode cX8_plan 106 = .ok (.iaload, 1) := by decide +kernel
theorem dX8_plan_107 : decode cX8_plan 107 = .ok (.if_icmp .eq 16, 3) := by decide +kernel
theorem dX8_plan_110 : decode cX8_plan 110 = .ok (.aload_n 0, 1) := by decide +kernel
theorem dX8_plan_111 : decode cX8_plan 111 = .ok (.dup, 1) := by decide +kernel
theorem dX8_plan_112 : decode cX8_plan 112 = .ok (.getfield 163, 3) := by decide +kernel
theorem dX8_plan_115 : decode cX8_plan 115 = .ok (.iconst 1, 1) := by decide +kernel
theorem dX8_plan_116 : decode cX8_plan 116 = .ok (.iadd, 1) := by decide +kernel
theorem dX8_plan_117 : decode cX8_plan 117 = .ok (.putfield 163, 3) := by decide +kernel
theorem dX8_plan_120 : decode cX8_plan 120 = .ok (.goto (-39), 3) := by decide +kernel
theorem dX8_plan_123 : decode cX8_plan 123 = .ok (.iinc 5 1, 3) := by decide +kernel
theorem dX8_plan_126 : decode cX8_plan 126 = .ok (.aload_n 0, 1) := by decide +kernel
theorem dX8_plan_127 : decode cX8_plan 127 = .ok (.getfield 166, 3) := by decide +kernel
theorem dX8_plan_130 : decode cX8_plan 130 = .ok (.aload_n 0, 1) := by decide +kernel
theorem dX8_plan_131 : decode cX8_plan 131 = .ok (.getfield 163, 3) := by decide +kernel
theorem dX8_plan_134 : decode cX8_plan 134 = .ok (.isub, 1) := by decide +kernel
theorem dX8_plan_135 : decode cX8_plan 135 = .ok (.iload_n 3, 1) := by decide +kernel
theorem dX8_plan_136 : decode cX8_plan 136 = .ok (.if_icmp .le 18, 3) := by decide +kernel
theorem dX8_plan_139 : decode cX8_plan 139 = .ok (.iload 4, 2) := by decide +kernel
theorem dX8_plan_141 : decode cX8_plan 141 = .ok (.ifCond .ne 8, 3) := by decide +kernel
theorem dX8_plan_144 : decode cX8_plan 144 = .ok (.bipush (-9), 2) := by decide +kernel
theorem dX8_plan_146 : decode cX8_plan 146 = .ok (.goto 7, 3) := by decide +kernel
theorem dX8_plan_149 : decode cX8_plan 149 = .ok (.iload 6, 2) := by decide +kernel
theorem dX8_plan_151 : decode cX8_plan 151 = .ok (.iconst 1, 1) := by decide +kernel
theorem dX8_plan_152 : decode cX8_plan 152 = .ok (.iadd, 1) := by decide +kernel
theorem dX8_plan_153 : decode cX8_plan 153 = .ok (.ireturn, 1) := by decide +kernel
theorem dX8_plan_154 : decode cX8_plan 154 = .ok (.iinc 6 1, 3) := by decide +kernel
theorem dX8_plan_157 : decode cX8_plan 157 = .ok (.goto (-106), 3) := by decide +kernel
theorem dX8_plan_160 : decode cX8_plan 160 = .ok (.iload 4, 2) := by decide +kernel
theorem dX8_plan_162 : decode cX8_plan 162 = .ok (.ifCond .ne 8, 3) := by decide +kernel
theorem dX8_plan_165 : decode cX8_plan 165 = .ok (.iload 5, 2) := by decide +kernel
theorem dX8_plan_167 : decode cX8_plan 167 = .ok (.goto 5, 3) := by decide +kernel
theorem dX8_plan_170 : decode cX8_plan 170 = .ok (.bipush (-9), 2) := by decide +kernel
theorem dX8_plan_172 : decode cX8_plan 172 = .ok (.ireturn, 1) := by decide +kernel
theorem dX8_isMost_0 : decode cX8_isMost 0 = .ok (.iconst 0, 1) := by decide +kernel
theorem dX8_isMost_1 : decode cX8_isMost 1 = .ok (.istore_n 2, 1) := by decide +kernel
theorem dX8_isMost_2 : decode cX8_isMost 2 = .ok (.aload_n 0, 1) := by decide +kernel
theorem dX8_isMost_3 : decode cX8_isMost 3 = .ok (.getfield 163, 3) := by decide +kernel
theorem dX8_isMost_6 : decode cX8_isMost 6 = .ok (.istore_n 3, 1) := by decide +kernel
theorem dX8_isMost_7 : decode cX8_isMost 7 = .ok (.iload_n 3, 1) := by decide +kernel
theorem dX8_isMost_8 : decode cX8_isMost 8 = .ok (.aload_n 0, 1) := by decide +kernel
theorem dX8_isMost_9 : decode cX8_isMost 9 = .ok (.getfield 166, 3) := by decide +kernel
theorem dX8_isMost_12 : decode cX8_isMost 12 = .ok (.if_icmp .ge 27, 3) := by decide +kernel
theorem dX8_isMost_15 : decode cX8_isMost 15 = .ok (.iload_n 2, 1) := by decide +kernel
theorem dX8_isMost_16 : decode cX8_isMost 16 = .ok (.aload_n 0, 1) := by decide +kernel
theorem dX8_isMost_17 : decode cX8_isMost 17 = .ok (.getfield 51, 3) := by decide +kernel
theorem dX8_isMost_20 : decode cX8_isMost 20 = .ok (.iload_n 3, 1) := by decide +kernel
theorem dX8_isMost_21 : decode cX8_isMost 21 = .ok (.iaload, 1) := by decide +kernel
theorem dX8_isMost_22 : decode cX8_isMost 22 = .ok (.iload_n 1, 1) := by decide +kernel
theorem dX8_isMost_23 : decode cX8_isMost 23 = .ok (.if_icmp .ne 7, 3) := by decide +kernel
theorem dX8_isMost_26 : decode cX8_isMost 26 = .ok (.iconst 1, 1) := by decide +kernel
theorem dX8_isMost_27 : decode cX8_isMost 27 = .ok (.goto 4, 3) := by decide +kernel
theorem dX8_isMost_30 : decode cX8_isMost 30 = .ok (.iconst 0, 1) := by decide +kernel
theorem dX8_isMost_31 : decode cX8_isMost 31 = .ok (.iadd, 1) := by decide +kernel
theorem dX8_isMost_32 : decode cX8_isMost 32 = .ok (.istore_n 2, 1) := by decide +kernel
theorem dX8_isMost_33 : decode cX8_isMost 33 = .ok (.iinc 3 1, 3) := by decide +kernel
theorem dX8_isMost_36 : decode cX8_isMost 36 = .ok (.goto (-29), 3) := by decide +kernel
theorem dX8_isMost_39 : decode cX8_isMost 39 = .ok (.iload_n 2, 1) := by decide +kernel
theorem dX8_isMost_40 : decode cX8_isMost 40 = .ok (.ifCond .le 7, 3) := by decide +kernel
theorem dX8_isMost_43 : decode cX8_isMost 43 = .ok (.iconst 1, 1) := by decide +kernel
theorem dX8_isMost_44 : decode cX8_isMost 44 = .ok (.goto 4, 3) := by decide +kernel
theorem dX8_isMost_47 : decode cX8_isMost 47 = .ok (.iconst 0, 1) := by decide +kernel
theorem dX8_isMost_48 : decode cX8_isMost 48 = .ok (.istore_n 3, 1) := by decide +kernel
theorem dX8_isMost_49 : decode cX8_isMost 49 = .ok (.iconst 0, 1) := by decide +kernel
theorem dX8_isMost_50 : decode cX8_isMost 50 = .ok (.istore 4, 2) := by decide +kernel
theorem dX8_isMost_52 : decode cX8_isMost 52 = .ok (.iload 4, 2) := by decide +kernel
theorem dX8_isMost_54 : decode cX8_isMost 54 = .ok (.bipush 10, 2) := by decide +kernel
theorem dX8_isMost_56 : decode cX8_isMost 56 = .ok (.if_icmp .ge 77, 3) := by decide +kernel
theorem dX8_isMost_59 : decode cX8_isMost 59 = .ok (.iconst 0, 1) := by decide +kernel
theorem dX8_isMost_60 : decode cX8_isMost 60 = .ok (.istore 5, 2) := by decide +kernel
theorem dX8_isMost_62 : decode cX8_isMost 62 = .ok (.aload_n 0, 1) := by decide +kernel
theorem dX8_isMost_63 : decode cX8_isMost 63 = .ok (.getfield 163, 3) := by decide +kernel
theorem dX8_isMost_66 : decode cX8_isMost 66 = .ok (.istore 6, 2) := by decide +kernel
theorem dX8_isMost_68 : decode cX8_isMost 68 = .ok (.iload 6, 2) := by decide +kernel
theorem dX8_isMost_70 : decode cX8_isMost 70 = .ok (.aload_n 0, 1) := by decide +kernel
theorem dX8_isMost_71 : decode cX8_isMost 71 = .ok (.getfield 166, 3) := by decide +kernel
theorem dX8_isMost_74 : decode cX8_isMost 74 = .ok (.if_icmp .ge 31, 3) := by decide +kernel
theorem dX8_isMost_77 : decode cX8_isMost 77 = .ok (.iload 5, 2) := by decide +kernel
theorem dX8_isMost_79 : decode cX8_isMost 79 = .ok (.aload_n 0, 1) := by decide +kernel
theorem dX8_isMost_80 : decode cX8_isMost 80 = .ok (.getfield 51, 3) := by decide +kernel
theorem dX8_isMost_83 : decode cX8_isMost 83 = .ok (.iload 6, 2) := by decide +kernel
theorem dX8_isMost_85 : decode cX8_isMost 85 = .ok (.iaload, 1) := by decide +kernel
theorem dX8_isMost_86 : decode cX8_isMost 86 = .ok (.iload 4, 2) := by decide +kernel
theorem dX8_isMost_88 : decode cX8_isMost 88 = .ok (.if_icmp .ne 7, 3) := by decide +kernel
theorem dX8_isMost_91 : decode cX8_isMost 91 = .ok (.iconst 1, 1) := by decide +kernel
theorem dX8_isMost_92 : decode cX8_isMost 92 = .ok (.goto 4, 3) := by decide +kernel
theorem dX8_isMost_95 : decode cX8_isMost 95 = .ok (.iconst 0, 1) := by decide +kernel
theorem dX8_isMost_96 : decode cX8_isMost 96 = .ok (.iadd, 1) := by decide +kernel
theorem dX8_isMost_97 : decode cX8_isMost 97 = .ok (.istore 5, 2) := by decide +kernel
theorem dX8_isMost_99 : decode cX8_isMost 99 = .ok (.iinc 6 1, 3) := by decide +kernel
theorem dX8_isMost_102 : decode cX8_isMost 102 = .ok (.goto (-34), 3) := by decide +kernel
theorem dX8_isMost_105 : decode cX8_isMost 105 = .ok (.iload_n 3, 1) := by decide +kernel
theorem dX8_isMost_106 : decode cX8_isMost 106 = .ok (.ifCond .eq 19, 3) := by decide +kernel
theorem dX8_isMost_109 : decode cX8_isMost 109 = .ok (.iload 4, 2) := by decide +kernel
theorem dX8_isMost_111 : decode cX8_isMost 111 = .ok (.iload_n 1, 1) := by decide +kernel
theorem dX8_isMost_112 : decode cX8_isMost 112 = .ok (.if_icmp .eq 9, 3) := by decide +kernel
theorem dX8_isMost_115 : decode cX8_isMost 115 = .ok (.iload 5, 2) := by decide +kernel
theorem dX8_isMost_117 : decode cX8_isMost 117 = .ok (.iload_n 2, 1) := by decide +kernel
theorem dX8_isMost_118 : decode cX8_isMost 118 = .ok (.if_icmp .ge 7, 3) := by decide +kernel
theorem dX8_isMost_121 : decode cX8_isMost 121 = .ok (.iconst 1, 1) := by decide +kernel
theorem dX8_isMost_122 : decode cX8_isMost 122 = .ok (.goto 4, 3) := by decide +kernel
theorem dX8_isMost_125 : decode cX8_isMost 125 = .ok (.iconst 0, 1) := by decide +kernel
theorem dX8_isMost_126 : decode cX8_isMost 126 = .ok (.istore_n 3, 1) := by decide +kernel
theorem dX8_isMost_127 : decode cX8_isMost 127 = .ok (.iinc 4 1, 3) := by decide +kernel
theorem dX8_isMost_130 : decode cX8_isMost 130 = .ok (.goto (-78), 3) := by decide +kernel
theorem dX8_isMost_133 : decode cX8_isMost 133 = .ok (.iload_n 3, 1) := by decide +kernel
theorem dX8_isMost_134 : decode cX8_isMost 134 = .ok (.ireturn, 1) := by decide +kernel
theorem dX8_least_0 : decode cX8_least 0 = .ok (.aload_n 0, 1) := by decide +kernel
theorem dX8_least_1 : decode cX8_least 1 = .ok (.iload_n 1, 1) := by decide +kernel
theorem dX8_least_2 : decode cX8_least 2 = .ok (.invokevirtual 134, 3) := by decide +kernel
theorem dX8_least_5 : decode cX8_least 5 = .ok (.ifCond .eq 20, 3) := by decide +kernel
theorem dX8_least_8 : decode cX8_least 8 = .ok (.iload_n 2, 1) := by decide +kernel
theorem dX8_least_9 : decode cX8_least 9 = .ok (.invokestatic 143, 3) := by decide +kernel
theorem dX8_least_12 : decode cX8_least 12 = .ok (.ifCond .eq 13, 3) := by decide +kernel
theorem dX8_least_15 : decode cX8_least 15 = .ok (.iload_n 3, 1) := by decide +kernel
theorem dX8_least_16 : decode cX8_least 16 = .ok (.iconst 1, 1) := by decide +kernel
theorem dX8_least_17 : decode cX8_least 17 = .ok (.bipush 8, 2) := by decide +kernel
theorem dX8_least_19 : decode cX8_least 19 = .ok (.invokestatic 60, 3) := by decide +kernel
theorem dX8_least_22 : decode cX8_least 22 = .ok (.ifCond .ne 5, 3) := by decide +kernel
theorem dX8_least_25 : decode cX8_least 25 = .ok (.iconst (-1), 1) := by decide +kernel
theorem dX8_least_26 : decode cX8_least 26 = .ok (.ireturn, 1) := by decide +kernel
theorem dX8_least_27 : decode cX8_least 27 = .ok (.bipush (-9), 2) := by decide +kernel
theorem dX8_least_29 : decode cX8_least 29 = .ok (.istore 4, 2) := by decide +kernel
theorem dX8_least_31 : decode cX8_least 31 = .ok (.iconst 0, 1) := by decide +kernel
theorem dX8_least_32 : decode cX8_least 32 = .ok (.istore 5, 2) := by decide +kernel
theorem dX8_least_34 : decode cX8_least 34 = .ok (.iload 5, 2) := by decide +kernel
theorem dX8_least_36 : decode cX8_least 36 = .ok (.iconst 1, 1) := by decide +kernel
theorem dX8_least_37 : decode cX8_least 37 = .ok (.iload_n 3, 1) := by decide +kernel
theorem dX8_least_38 : decode cX8_least 38 = .ok (.ishl, 1) := by decide +kernel
theorem dX8_least_39 : decode cX8_least 39 = .ok (.if_icmp .ge 101, 3) := by decide +kernel
theorem dX8_least_42 : decode cX8_least 42 = .ok (.aload_n 0, 1) := by decide +kernel
theorem dX8_least_43 : decode cX8_least 43 = .ok (.iload_n 1, 1) := by decide +kernel
theorem dX8_least_44 : decode cX8_least 44 = .ok (.invokevirtual 169, 3) := by decide +kernel
theorem dX8_least_47 : decode cX8_least 47 = .ok (.iconst 0, 1) := by decide +kernel
theorem dX8_least_48 : decode cX8_least 48 = .ok (.istore 6, 2) := by decide +kernel
theorem dX8_least_50 : decode cX8_least 50 = .ok (.iload 6, 2) := by decide +kernel
theorem dX8_least_52 : decode cX8_least 52 = .ok (.iload_n 3, 1) := by decide +kernel
theorem dX8_least_53 : decode cX8_least 53 = .ok (.if_icmp .ge 34, 3) := by decide +kernel
theorem dX8_least_56 : decode cX8_least 56 = .ok (.aload_n 0, 1) := by decide +kernel
theorem dX8_least_57 : decode cX8_least 57 = .ok (.iload 5, 2) := by decide +kernel
theorem dX8_least_59 : decode cX8_least 59 = .ok (.iload 6, 2) := by decide +kernel
theorem dX8_least_61 : decode cX8_least 61 = .ok (.invokestatic 175, 3) := by decide +kernel
theorem dX8_least_64 : decode cX8_least 64 = .ok (.ifCond .eq 7, 3) := by decide +kernel
theorem dX8_least_67 : decode cX8_least 67 = .ok (.iload_n 2, 1) := by decide +kernel
theorem dX8_least_68 : decode cX8_least 68 = .ok (.goto 10, 3) := by decide +kernel
theorem dX8_least_71 : decode cX8_least 71 = .ok (.aload_n 0, 1) := by decide +kernel
theorem dX8_least_72 : decode cX8_least 72 = .ok (.iload_n 1, 1) := by decide +kernel
theorem dX8_least_73 : decode cX8_least 73 = .ok (.iload 6, 2) := by decide +kernel
theorem dX8_least_75 : decode cX8_least 75 = .ok (.invokevirtual 146, 3) := by decide +kernel
theorem dX8_least_78 : decode cX8_least 78 = .ok (.invokevirtual 172, 3) := by decide +kernel
theorem dX8_least_81 : decode cX8_least 81 = .ok (.iinc 6 1, 3) := by decide +kernel
theorem dX8_least_84 : decode cX8_least 84 = .ok (.goto (-34), 3) := by decide +kernel
theorem dX8_least_87 : decode cX8_least 87 = .ok (.aload_n 0, 1) := by decide +kernel
theorem dX8_least_88 : decode cX8_least 88 = .ok (.iload_n 2, 1) := by decide +kernel
theorem dX8_least_89 : decode cX8_least 89 = .ok (.invokevirtual 179, 3) := by decide +kernel
theorem dX8_least_92 : decode cX8_least 92 = .ok (.ifCond .eq 22, 3) := by decide +kernel
theorem dX8_least_95 : decode cX8_least 95 = .ok (.iload 4, 2) := by decide +kernel
theorem dX8_least_97 : decode cX8_least 97 = .ok (.ifCond .lt 13, 3) := by decide +kernel
theorem dX8_least_100 : decode cX8_least 100 = .ok (.iload 5, 2) := by decide +kernel
theorem dX8_least_102 : decode cX8_least 102 = .ok (.invokestatic 182, 3) := by decide +kernel
theorem dX8_least_105 : decode cX8_least 105 = .ok (.iload 4, 2) := by decide +kernel
theorem dX8_least_107 : decode cX8_least 107 = .ok (.if_icmp .ge 7, 3) := by decide +kernel
theorem dX8_least_110 : decode cX8_least 110 = .ok (.iconst 1, 1) := by decide +kernel
theorem dX8_least_111 : decode cX8_least 111 = .ok (.goto 4, 3) := by decide +kernel
theorem dX8_least_114 : decode cX8_least 114 = .ok (.iconst 0, 1) := by decide +kernel
theorem dX8_least_115 : decode cX8_least 115 = .ok (.istore 6, 2) := by decide +kernel
theorem dX8_least_117 : decode cX8_least 117 = .ok (.iload 6, 2) := by decide +kernel
theorem dX8_least_119 : decode cX8_least 119 = .ok (.ifCond .eq 11, 3) := by decide +kernel
theorem dX8_least_122 : decode cX8_least 122 = .ok (.iload 5, 2) := by decide +kernel
theorem dX8_least_124 : decode cX8_least 124 = .ok (.invokestatic 182, 3) := by decide +kernel
theorem dX8_least_127 : decode cX8_least 127 = .ok (.goto 5, 3) := by decide +kernel
theorem dX8_least_130 : decode cX8_least 130 = .ok (.iload 4, 2) := by decide +kernel
theorem dX8_least_132 : decode cX8_least 132 = .ok (.istore 4, 2) := by decide +kernel
theorem dX8_least_134 : decode cX8_least 134 = .ok (.iinc 5 1, 3) := by decide +kernel
theorem dX8_least_137 : decode cX8_least 137 = .ok (.goto (-103), 3) := by decide +kernel
theorem dX8_least_140 : decode cX8_least 140 = .ok (.iload 4, 2) := by decide +kernel
theorem dX8_least_142 : decode cX8_least 142 = .ok (.ireturn, 1) := by decide +kernel
theorem dX8_thoughtsOf_0 : decode cX8_thoughtsOf 0 = .ok (.iconst 0, 1) := by decide +kernel
theorem dX8_thoughtsOf_1 : decode cX8_thoughtsOf 1 = .ok (.istore_n 2, 1) := by decide +kernel
theorem dX8_thoughtsOf_2 : decode cX8_thoughtsOf 2 = .ok (.iconst 0, 1) := by decide +kernel
theorem dX8_thoughtsOf_3 : decode cX8_thoughtsOf 3 = .ok (.istore_n 3, 1) := by decide +kernel
theorem dX8_thoughtsOf_4 : decode cX8_thoughtsOf 4 = .ok (.iload_n 3, 1) := by decide +kernel
theorem dX8_thoughtsOf_5 : decode cX8_thoughtsOf 5 = .ok (.aload_n 0, 1) := by decide +kernel
theorem dX8_thoughtsOf_6 : decode cX8_thoughtsOf 6 = .ok (.getfield 57, 3) := by decide +kernel
theorem dX8_thoughtsOf_9 : decode cX8_thoughtsOf 9 = .ok (.if_icmp .ge 51, 3) := by decide +kernel
theorem dX8_thoughtsOf_12 : decode cX8_thoughtsOf 12 = .ok (.iconst 0, 1) := by decide +kernel
theorem dX8_thoughtsOf_13 : decode cX8_thoughtsOf 13 = .ok (.istore 4, 2) := by decide +kernel
theorem dX8_thoughtsOf_15 : decode cX8_thoughtsOf 15 = .ok (.iload 4, 2) := by decide +kernel
theorem dX8_thoughtsOf_17 : decode cX8_thoughtsOf 17 = .ok (.aload_n 0, 1) := by decide +kernel
theorem dX8_thoughtsOf_18 : decode cX8_thoughtsOf 18 = .ok (.getfield 23, 3) := by decide +kernel
theorem dX8_thoughtsOf_21 : decode cX8_thoughtsOf 21 = .ok (.iconst 2, 1) := by decide +kernel
theorem dX8_thoughtsOf_22 : decode cX8_thoughtsOf 22 = .ok (.iload_n 3, 1) := by decide +kernel
theorem dX8_thoughtsOf_23 : decode cX8_thoughtsOf 23 = .ok (.iadd, 1) := by decide +kernel
theorem dX8_thoughtsOf_24 : decode cX8_thoughtsOf 24 = .ok (.iaload, 1) := by decide +kernel
theorem dX8_thoughtsOf_25 : decode cX8_thoughtsOf 25 = .ok (.if_icmp .ge 29, 3) := by decide +kernel
theorem dX8_thoughtsOf_28 : decode cX8_thoughtsOf 28 = .ok (.iload_n 1, 1) := by decide +kernel
theorem dX8_thoughtsOf_29 : decode cX8_thoughtsOf 29 = .ok (.iload_n 3, 1) := by decide +kernel
theorem dX8_thoughtsOf_30 : decode cX8_thoughtsOf 30 = .ok (.invokestatic 175, 3) := by decide +kernel
theorem dX8_thoughtsOf_33 : decode cX8_thoughtsOf 33 = .ok (.ifCond .eq 21, 3) := by decide +kernel
theorem dX8_thoughtsOf_36 : decode cX8_thoughtsOf 36 = .ok (.iload_n 2, 1) := by decide +kernel
theorem dX8_thoughtsOf_37 : decode cX8_thoughtsOf 37 = .ok (.iconst 1, 1) := by decide +kernel
theorem dX8_thoughtsOf_38 : decode cX8_thoughtsOf 38 = .ok (.aload_n 0, 1) := by decide +kernel
theorem dX8_thoughtsOf_39 : decode cX8_thoughtsOf 39 = .ok (.iload_n 3, 1) := by decide +kernel
theorem dX8_thoughtsOf_40 : decode cX8_thoughtsOf 40 = .ok (.iload 4, 2) := by decide +kernel
theorem dX8_thoughtsOf_42 : decode cX8_thoughtsOf 42 = .ok (.invokevirtual 131, 3) := by decide +kernel
theorem dX8_thoughtsOf_45 : decode cX8_thoughtsOf 45 = .ok (.ishl, 1) := by decide +kernel
theorem dX8_thoughtsOf_46 : decode cX8_thoughtsOf 46 = .ok (.ior, 1) := by decide +kernel
theorem dX8_thoughtsOf_47 : decode cX8_thoughtsOf 47 = .ok (.istore_n 2, 1) := by decide +kernel
theorem dX8_thoughtsOf_48 : decode cX8_thoughtsOf 48 = .ok (.iinc 4 1, 3) := by decide +kernel
theorem dX8_thoughtsOf_51 : decode cX8_thoughtsOf 51 = .ok (.goto (-36), 3) := by decide +kernel
theorem dX8_thoughtsOf_54 : decode cX8_thoughtsOf 54 = .ok (.iinc 3 1, 3) := by decide +kernel
theorem dX8_thoughtsOf_57 : decode cX8_thoughtsOf 57 = .ok (.goto (-53), 3) := by decide +kernel
theorem dX8_thoughtsOf_60 : decode cX8_thoughtsOf 60 = .ok (.iload_n 2, 1) := by decide +kernel
theorem dX8_thoughtsOf_61 : decode cX8_thoughtsOf 61 = .ok (.ireturn, 1) := by decide +kernel
theorem dX8_wig_0 : decode cX8_wig 0 = .ok (.iload_n 1, 1) := by decide +kernel
theorem dX8_wig_1 : decode cX8_wig 1 = .ok (.iconst 0, 1) := by decide +kernel
theorem dX8_wig_2 : decode cX8_wig 2 = .ok (.sipush 1023, 3) := by decide +kernel
theorem dX8_wig_5 : decode cX8_wig 5 = .ok (.invokestatic 60, 3) := by decide +kernel
theorem dX8_wig_8 : decode cX8_wig 8 = .ok (.ifCond .ne 5, 3) := by decide +kernel
theorem dX8_wig_11 : decode cX8_wig 11 = .ok (.iconst (-1), 1) := by decide +kernel
theorem dX8_wig_12 : decode cX8_wig 12 = .ok (.ireturn, 1) := by decide +kernel
theorem dX8_wig_13 : decode cX8_wig 13 = .ok (.bipush (-9), 2) := by decide +kernel
theorem dX8_wig_15 : decode cX8_wig 15 = .ok (.istore_n 2, 1) := by decide +kernel
theorem dX8_wig_16 : decode cX8_wig 16 = .ok (.iconst 0, 1) := by decide +kernel
theorem dX8_wig_17 : decode cX8_wig 17 = .ok (.istore_n 3, 1) := by decide +kernel
theorem dX8_wig_18 : decode cX8_wig 18 = .ok (.iload_n 3, 1) := by decide +kernel
theorem dX8_wig_19 : decode cX8_wig 19 = .ok (.iconst 1, 1) := by decide +kernel
theorem dX8_wig_20 : decode cX8_wig 20 = .ok (.aload_n 0, 1) := by decide +kernel
theorem dX8_wig_21 : decode cX8_wig 21 = .ok (.getfield 57, 3) := by decide +kernel
theorem dX8_wig_24 : decode cX8_wig 24 = .ok (.ishl, 1) := by decide +kernel
theorem dX8_wig_25 : decode cX8_wig 25 = .ok (.if_icmp .ge 54, 3) := by decide +kernel
theorem dX8_wig_28 : decode cX8_wig 28 = .ok (.iload_n 1, 1) := by decide +kernel
theorem dX8_wig_29 : decode cX8_wig 29 = .ok (.aload_n 0, 1) := by decide +kernel
theorem dX8_wig_30 : decode cX8_wig 30 = .ok (.iload_n 3, 1) := by decide +kernel
theorem dX8_wig_31 : decode cX8_wig 31 = .ok (.invokevirtual 185, 3) := by decide +kernel
theorem dX8_wig_34 : decode cX8_wig 34 = .ok (.iconst (-1), 1) := by decide +kernel
theorem dX8_wig_35 : decode cX8_wig 35 = .ok (.ixor, 1) := by decide +kernel
theorem dX8_wig_36 : decode cX8_wig 36 = .ok (.iand, 1) := by decide +kernel
theorem dX8_wig_37 : decode cX8_wig 37 = .ok (.ifCond .ne 22, 3) := by decide +kernel
theorem dX8_wig_40 : decode cX8_wig 40 = .ok (.iload_n 2, 1) := by decide +kernel
theorem dX8_wig_41 : decode cX8_wig 41 = .ok (.ifCond .lt 14, 3) := by decide +kernel
theorem dX8_wig_44 : decode cX8_wig 44 = .ok (.iload_n 3, 1) := by decide +kernel
theorem dX8_wig_45 : decode cX8_wig 45 = .ok (.invokestatic 182, 3) := by decide +kernel
theorem dX8_wig_48 : decode cX8_wig 48 = .ok (.iload_n 2, 1) := by decide +kernel
theorem dX8_wig_49 : decode cX8_wig 49 = .ok (.invokestatic 182, 3) := by decide +kernel
theorem dX8_wig_52 : decode cX8_wig 52 = .ok (.if_icmp .ge 7, 3) := by decide +kernel
theorem dX8_wig_55 : decode cX8_wig 55 = .ok (.iconst 1, 1) := by decide +kernel
theorem dX8_wig_56 : decode cX8_wig 56 = .ok (.goto 4, 3) := by decide +kernel
theorem dX8_wig_59 : decode cX8_wig 59 = .ok (.iconst 0, 1) := by decide +kernel
theorem dX8_wig_60 : decode cX8_wig 60 = .ok (.istore 4, 2) := by decide +kernel
theorem dX8_wig_62 : decode cX8_wig 62 = .ok (.iload 4, 2) := by decide +kernel
theorem dX8_wig_64 : decode cX8_wig 64 = .ok (.ifCond .eq 7, 3) := by decide +kernel
theorem dX8_wig_67 : decode cX8_wig 67 = .ok (.iload_n 3, 1) := by decide +kernel
theorem dX8_wig_68 : decode cX8_wig 68 = .ok (.goto 4, 3) := by decide +kernel
theorem dX8_wig_71 : decode cX8_wig 71 = .ok (.iload_n 2, 1) := by decide +kernel
theorem dX8_wig_72 : decode cX8_wig 72 = .ok (.istore_n 2, 1) := by decide +kernel
theorem dX8_wig_73 : decode cX8_wig 73 = .ok (.iinc 3 1, 3) := by decide +kernel
theorem dX8_wig_76 : decode cX8_wig 76 = .ok (.goto (-58), 3) := by decide +kernel
theorem dX8_wig_79 : decode cX8_wig 79 = .ok (.iload_n 2, 1) := by decide +kernel
theorem dX8_wig_80 : decode cX8_wig 80 = .ok (.ireturn, 1) := by decide +kernel
theorem dX8_lowest_0 : decode cX8_lowest 0 = .ok (.iload_n 0, 1) := by decide +kernel
theorem dX8_lowest_1 : decode cX8_lowest 1 = .ok (.istore_n 3, 1) := by decide +kernel
theorem dX8_lowest_2 : decode cX8_lowest 2 = .ok (.iload_n 1, 1) := by decide +kernel
theorem dX8_lowest_3 : decode cX8_lowest 3 = .ok (.istore 4, 2) := by decide +kernel
theorem dX8_lowest_5 : decode cX8_lowest 5 = .ok (.iload 4, 2) := by decide +kernel
theorem dX8_lowest_7 : decode cX8_lowest 7 = .ok (.ifCond .le 19, 3) := by decide +kernel
theorem dX8_lowest_10 : decode cX8_lowest 10 = .ok (.iload_n 3, 1) := by decide +kernel
theorem dX8_lowest_11 : decode cX8_lowest 11 = .ok (.iload 4, 2) := by decide +kernel
theorem dX8_lowest_13 : decode cX8_lowest 13 = .ok (.irem, 1) := by decide +kernel
theorem dX8_lowest_14 : decode cX8_lowest 14 = .ok (.istore 5, 2) := by decide +kernel
theorem dX8_lowest_16 : decode cX8_lowest 16 = .ok (.iload 4, 2) := by decide +kernel
theorem dX8_lowest_18 : decode cX8_lowest 18 = .ok (.istore_n 3, 1) := by decide +kernel
theorem dX8_lowest_19 : decode cX8_lowest 19 = .ok (.iload 5, 2) := by decide +kernel
theorem dX8_lowest_21 : decode cX8_lowest 21 = .ok (.istore 4, 2) := by decide +kernel
theorem dX8_lowest_23 : decode cX8_lowest 23 = .ok (.goto (-18), 3) := by decide +kernel
theorem dX8_lowest_26 : decode cX8_lowest 26 = .ok (.iload_n 2, 1) := by decide +kernel
theorem dX8_lowest_27 : decode cX8_lowest 27 = .ok (.ifCond .ne 7, 3) := by decide +kernel
theorem dX8_lowest_30 : decode cX8_lowest 30 = .ok (.iload_n 0, 1) := by decide +kernel
theorem dX8_lowest_31 : decode cX8_lowest 31 = .ok (.goto 4, 3) := by decide +kernel
theorem dX8_lowest_34 : decode cX8_lowest 34 = .ok (.iload_n 1, 1) := by decide +kernel
theorem dX8_lowest_35 : decode cX8_lowest 35 = .ok (.iload_n 3, 1) := by decide +kernel
theorem dX8_lowest_36 : decode cX8_lowest 36 = .ok (.idiv, 1) := by decide +kernel
theorem dX8_lowest_37 : decode cX8_lowest 37 = .ok (.ireturn, 1) := by decide +kernel
theorem dX8_odds_0 : decode cX8_odds 0 = .ok (.iload_n 1, 1) := by decide +kernel
theorem dX8_odds_1 : decode cX8_odds 1 = .ok (.iconst 0, 1) := by decide +kernel
theorem dX8_odds_2 : decode cX8_odds 2 = .ok (.bipush 10, 2) := by decide +kernel
theorem dX8_odds_4 : decode cX8_odds 4 = .ok (.invokestatic 60, 3) := by decide +kernel
theorem dX8_odds_7 : decode cX8_odds 7 = .ok (.ifCond .eq 33, 3) := by decide +kernel
theorem dX8_odds_10 : decode cX8_odds 10 = .ok (.iload_n 2, 1) := by decide +kernel
theorem dX8_odds_11 : decode cX8_odds 11 = .ok (.iconst 0, 1) := by decide +kernel
theorem dX8_odds_12 : decode cX8_odds 12 = .ok (.bipush 7, 2) := by decide +kernel
theorem dX8_odds_14 : decode cX8_odds 14 = .ok (.invokestatic 60, 3) := by decide +kernel
theorem dX8_odds_17 : decode cX8_odds 17 = .ok (.ifCond .eq 23, 3) := by decide +kernel
theorem dX8_odds_20 : decode cX8_odds 20 = .ok (.iload_n 3, 1) := by decide +kernel
theorem dX8_odds_21 : decode cX8_odds 21 = .ok (.iconst 0, 1) := by decide +kernel
theorem dX8_odds_22 : decode cX8_odds 22 = .ok (.bipush 7, 2) := by decide +kernel
theorem dX8_odds_24 : decode cX8_odds 24 = .ok (.invokestatic 60, 3) := by decide +kernel
theorem dX8_odds_27 : decode cX8_odds 27 = .ok (.ifCond .eq 13, 3) := by decide +kernel
theorem dX8_odds_30 : decode cX8_odds 30 = .ok (.iload 4, 2) := by decide +kernel
theorem dX8_odds_32 : decode cX8_odds 32 = .ok (.iconst 0, 1) := by decide +kernel
theorem dX8_odds_33 : decode cX8_odds 33 = .ok (.iconst 1, 1) := by decide +kernel
theorem dX8_odds_34 : decode cX8_odds 34 = .ok (.invokestatic 60, 3) := by decide +kernel
theorem dX8_odds_37 : decode cX8_odds 37 = .ok (.ifCond .ne 5, 3) := by decide +kernel
theorem dX8_odds_40 : decode cX8_odds 40 = .ok (.iconst (-1), 1) := by decide +kernel
theorem dX8_odds_41 : decode cX8_odds 41 = .ok (.ireturn, 1) := by decide +kernel
theorem dX8_odds_42 : decode cX8_odds 42 = .ok (.iconst 0, 1) := by decide +kernel
theorem dX8_odds_43 : decode cX8_odds 43 = .ok (.istore 5, 2) := by decide +kernel
theorem dX8_odds_45 : decode cX8_odds 45 = .ok (.iconst 1, 1) := by decide +kernel
theorem dX8_odds_46 : decode cX8_odds 46 = .ok (.istore 6, 2) := by decide +kernel
theorem dX8_odds_48 : decode cX8_odds 48 = .ok (.iconst 0, 1) := by decide +kernel
theorem dX8_odds_49 : decode cX8_odds 49 = .ok (.istore 7, 2) := by decide +kernel
theorem dX8_odds_51 : decode cX8_odds 51 = .ok (.iload 7, 2) := by decide +kernel
theorem dX8_odds_53 : decode cX8_odds 53 = .ok (.iload_n 3, 1) := by decide +kernel
theorem dX8_odds_54 : decode cX8_odds 54 = .ok (.if_icmp .ge 16, 3) := by decide +kernel
theorem dX8_odds_57 : decode cX8_odds 57 = .ok (.iload 6, 2) := by decide +kernel
theorem dX8_odds_59 : decode cX8_odds 59 = .ok (.bipush 10, 2) := by decide +kernel
theorem dX8_odds_61 : decode cX8_odds 61 = .ok (.imul, 1) := by decide +kernel
theorem dX8_odds_62 : decode cX8_odds 62 = .ok (.istore 6, 2) := by decide +kernel
theorem dX8_odds_64 : decode cX8_odds 64 = .ok (.iinc 7 1, 3) := by decide +kernel
theorem dX8_odds_67 : decode cX8_odds 67 = .ok (.goto (-16), 3) := by decide +kernel
theorem dX8_odds_70 : decode cX8_odds 70 = .ok (.iconst 0, 1) := by decide +kernel
theorem dX8_odds_71 : decode cX8_odds 71 = .ok (.istore 7, 2) := by decide +kernel
theorem dX8_odds_73 : decode cX8_odds 73 = .ok (.iload 7, 2) := by decide +kernel
theorem dX8_odds_75 : decode cX8_odds 75 = .ok (.iconst 1, 1) := by decide +kernel
theorem dX8_odds_76 : decode cX8_odds 76 = .ok (.iload_n 3, 1) := by decide +kernel
theorem dX8_odds_77 : decode cX8_odds 77 = .ok (.ishl, 1) := by decide +kernel
theorem dX8_odds_78 : decode cX8_odds 78 = .ok (.if_icmp .ge 70, 3) := by decide +kernel
theorem dX8_odds_81 : decode cX8_odds 81 = .ok (.iconst 1, 1) := by decide +kernel
theorem dX8_odds_82 : decode cX8_odds 82 = .ok (.istore 8, 2) := by decide +kernel
theorem dX8_odds_84 : decode cX8_odds 84 = .ok (.iconst 0, 1) := by decide +kernel
theorem dX8_odds_85 : decode cX8_odds 85 = .ok (.istore 9, 2) := by decide +kernel
theorem dX8_odds_87 : decode cX8_odds 87 = .ok (.iload 9, 2) := by decide +kernel
theorem dX8_odds_89 : decode cX8_odds 89 = .ok (.iload_n 3, 1) := by decide +kernel
theorem dX8_odds_90 : decode cX8_odds 90 = .ok (.if_icmp .ge 32, 3) := by decide +kernel
theorem dX8_odds_93 : decode cX8_odds 93 = .ok (.iload 8, 2) := by decide +kernel
theorem dX8_odds_95 : decode cX8_odds 95 = .ok (.iload 7, 2) := by decide +kernel
theorem dX8_odds_97 : decode cX8_odds 97 = .ok (.iload 9, 2) := by decide +kernel
theorem dX8_odds_99 : decode cX8_odds 99 = .ok (.invokestatic 175, 3) := by decide +kernel
theorem dX8_odds_102 : decode cX8_odds 102 = .ok (.ifCond .eq 7, 3) := by decide +kernel
theorem dX8_odds_105 : decode cX8_odds 105 = .ok (.iload_n 1, 1) := by decide +kernel
theorem dX8_odds_106 : decode cX8_odds 106 = .ok (.goto 7, 3) := by decide +kernel
theorem dX8_odds_109 : decode cX8_odds 109 = .ok (.bipush 10, 2) := by decide +kernel
theorem dX8_odds_111 : decode cX8_odds 111 = .ok (.iload_n 1, 1) := by decide +kernel
theorem dX8_odds_112 : decode cX8_odds 112 = .ok (.isub, 1) := by decide +kernel
theorem dX8_odds_113 : decode cX8_odds 113 = .ok (.imul, 1) := by decide +kernel
theorem dX8_odds_114 : decode cX8_odds 114 = .ok (.istore 8, 2) := by decide +kernel
theorem dX8_odds_116 : decode cX8_odds 116 = .ok (.iinc 9 1, 3) := by decide +kernel
theorem dX8_odds_119 : decode cX8_odds 119 = .ok (.goto (-32), 3) := by decide +kernel
theorem dX8_odds_122 : decode cX8_odds 122 = .ok (.iload 5, 2) := by decide +kernel
theorem dX8_odds_124 : decode cX8_odds 124 = .ok (.iload 7, 2) := by decide +kernel
theorem dX8_odds_126 : decode cX8_odds 126 = .ok (.invokestatic 182, 3) := by decide +kernel
theorem dX8_odds_129 : decode cX8_odds 129 = .ok (.iload_n 2, 1) := by decide +kernel
theorem dX8_odds_130 : decode cX8_odds 130 = .ok (.if_icmp .ne 8, 3) := by decide +kernel
theorem dX8_odds_133 : decode cX8_odds 133 = .ok (.iload 8, 2) := by decide +kernel
theorem dX8_odds_135 : decode cX8_odds 135 = .ok (.goto 4, 3) := by decide +kernel
theorem dX8_odds_138 : decode cX8_odds 138 = .ok (.iconst 0, 1) := by decide +kernel
theorem dX8_odds_139 : decode cX8_odds 139 = .ok (.iadd, 1) := by decide +kernel
theorem dX8_odds_140 : decode cX8_odds 140 = .ok (.istore 5, 2) := by decide +kernel
theorem dX8_odds_142 : decode cX8_odds 142 = .ok (.iinc 7 1, 3) := by decide +kernel
theorem dX8_odds_145 : decode cX8_odds 145 = .ok (.goto (-72), 3) := by decide +kernel
theorem dX8_odds_148 : decode cX8_odds 148 = .ok (.iload 5, 2) := by decide +kernel
theorem dX8_odds_150 : decode cX8_odds 150 = .ok (.iload 6, 2) := by decide +kernel
theorem dX8_odds_152 : decode cX8_odds 152 = .ok (.iload 4, 2) := by decide +kernel
theorem dX8_odds_154 : decode cX8_odds 154 = .ok (.invokestatic 188, 3) := by decide +kernel
theorem dX8_odds_157 : decode cX8_odds 157 = .ok (.ireturn, 1) := by decide +kernel
theorem dX8_saw_0 : decode cX8_saw 0 = .ok (.iload_n 1, 1) := by decide +kernel
theorem dX8_saw_1 : decode cX8_saw 1 = .ok (.invokestatic 143, 3) := by decide +kernel
theorem dX8_saw_4 : decode cX8_saw 4 = .ok (.ifCond .ne 5, 3) := by decide +kernel
theorem dX8_saw_7 : decode cX8_saw 7 = .ok (.iconst (-1), 1) := by decide +kernel
theorem dX8_saw_8 : decode cX8_saw 8 = .ok (.ireturn, 1) := by decide +kernel
theorem dX8_saw_9 : decode cX8_saw 9 = .ok (.aload_n 0, 1) := by decide +kernel
theorem dX8_saw_10 : decode cX8_saw 10 = .ok (.getfield 125, 3) := by decide +kernel
theorem dX8_saw_13 : decode cX8_saw 13 = .ok (.iconst 4, 1) := by decide +kernel
theorem dX8_saw_14 : decode cX8_saw 14 = .ok (.if_icmp .ne 6, 3) := by decide +kernel
theorem dX8_saw_17 : decode cX8_saw 17 = .ok (.bipush (-3), 2) := by decide +kernel
theorem dX8_saw_19 : decode cX8_saw 19 = .ok (.ireturn, 1) := by decide +kernel
theorem dX8_saw_20 : decode cX8_saw 20 = .ok (.aload_n 0, 1) := by decide +kernel
theorem dX8_saw_21 : decode cX8_saw 21 = .ok (.getfield 33, 3) := by decide +kernel
theorem dX8_saw_24 : decode cX8_saw 24 = .ok (.aload_n 0, 1) := by decide +kernel
theorem dX8_saw_25 : decode cX8_saw 25 = .ok (.getfield 125, 3) := by decide +kernel
theorem dX8_saw_28 : decode cX8_saw 28 = .ok (.iload_n 1, 1) := by decide +kernel
theorem dX8_saw_29 : decode cX8_saw 29 = .ok (.iastore, 1) := by decide +kernel
theorem dX8_saw_30 : decode cX8_saw 30 = .ok (.aload_n 0, 1) := by decide +kernel
theorem dX8_saw_31 : decode cX8_saw 31 = .ok (.dup, 1) := by decide +kernel
theorem dX8_saw_32 : decode cX8_saw 32 = .ok (.getfield 125, 3) := by decide +kernel
theorem dX8_saw_35 : decode cX8_saw 35 = .ok (.iconst 1, 1) := by decide +kernel
theorem dX8_saw_36 : decode cX8_saw 36 = .ok (.iadd, 1) := by decide +kernel
theorem dX8_saw_37 : decode cX8_saw 37 = .ok (.putfield 125, 3) := by decide +kernel
theorem dX8_saw_40 : decode cX8_saw 40 = .ok (.aload_n 0, 1) := by decide +kernel
theorem dX8_saw_41 : decode cX8_saw 41 = .ok (.getfield 125, 3) := by decide +kernel
theorem dX8_saw_44 : decode cX8_saw 44 = .ok (.ireturn, 1) := by decide +kernel
theorem dX8_isLock_0 : decode cX8_isLock 0 = .ok (.iload_n 2, 1) := by decide +kernel
theorem dX8_isLock_1 : decode cX8_isLock 1 = .ok (.aload_n 0, 1) := by decide +kernel
theorem dX8_isLock_2 : decode cX8_isLock 2 = .ok (.getfield 125, 3) := by decide +kernel
theorem dX8_isLock_5 : decode cX8_isLock 5 = .ok (.iadd, 1) := by decide +kernel
theorem dX8_isLock_6 : decode cX8_isLock 6 = .ok (.aload_n 0, 1) := by decide +kernel
theorem dX8_isLock_7 : decode cX8_isLock 7 = .ok (.getfield 23, 3) := by decide +kernel
theorem dX8_isLock_10 : decode cX8_isLock 10 = .ok (.iconst 2, 1) := by decide +kernel
theorem dX8_isLock_11 : decode cX8_isLock 11 = .ok (.iload_n 1, 1) := by decide +kernel
theorem dX8_isLock_12 : decode cX8_isLock 12 = .ok (.iadd, 1) := by decide +kernel
theorem dX8_isLock_13 : decode cX8_isLock 13 = .ok (.iaload, 1) := by decide +kernel
theorem dX8_isLock_14 : decode cX8_isLock 14 = .ok (.if_icmp .gt 7, 3) := by decide +kernel
theorem dX8_isLock_17 : decode cX8_isLock 17 = .ok (.iconst 1, 1) := by decide +kernel
theorem dX8_isLock_18 : decode cX8_isLock 18 = .ok (.goto 4, 3) := by decide +kernel
theorem dX8_isLock_21 : decode cX8_isLock 21 = .ok (.iconst 0, 1) := by decide +kernel
theorem dX8_isLock_22 : decode cX8_isLock 22 = .ok (.istore_n 3, 1) := by decide +kernel
theorem dX8_isLock_23 : decode cX8_isLock 23 = .ok (.iconst 0, 1) := by decide +kernel
theorem dX8_isLock_24 : decode cX8_isLock 24 = .ok (.istore 4, 2) := by decide +kernel
theorem dX8_isLock_26 : decode cX8_isLock 26 = .ok (.iload 4, 2) := by decide +kernel
theorem dX8_isLock_28 : decode cX8_isLock 28 = .ok (.aload_n 0, 1) := by decide +kernel
theorem dX8_isLock_29 : decode cX8_isLock 29 = .ok (.getfield 125, 3) := by decide +kernel
theorem dX8_isLock_32 : decode cX8_isLock 32 = .ok (.if_icmp .ge 38, 3) := by decide +kernel
theorem dX8_isLock_35 : decode cX8_isLock 35 = .ok (.iload_n 3, 1) := by decide +kernel
theorem dX8_isLock_36 : decode cX8_isLock 36 = .ok (.ifCond .eq 34, 3) := by decide +kernel
theorem dX8_isLock_39 : decode cX8_isLock 39 = .ok (.aload_n 0, 1) := by decide +kernel
theorem dX8_isLock_40 : decode cX8_isLock 40 = .ok (.iload_n 1, 1) := by decide +kernel
theorem dX8_isLock_41 : decode cX8_isLock 41 = .ok (.iload_n 2, 1) := by decide +kernel
theorem dX8_isLock_42 : decode cX8_isLock 42 = .ok (.iload 4, 2) := by decide +kernel
theorem dX8_isLock_44 : decode cX8_isLock 44 = .ok (.iadd, 1) := by decide +kernel
theorem dX8_isLock_45 : decode cX8_isLock 45 = .ok (.invokevirtual 131, 3) := by decide +kernel
theorem dX8_isLock_48 : decode cX8_isLock 48 = .ok (.aload_n 0, 1) := by decide +kernel
theorem dX8_isLock_49 : decode cX8_isLock 49 = .ok (.getfield 33, 3) := by decide +kernel
theorem dX8_isLock_52 : decode cX8_isLock 52 = .ok (.iload 4, 2) := by decide +kernel
theorem dX8_isLock_54 : decode cX8_isLock 54 = .ok (.iaload, 1) := by decide +kernel
theorem dX8_isLock_55 : decode cX8_isLock 55 = .ok (.if_icmp .ne 7, 3) := by decide +kernel
theorem dX8_isLock_58 : decode cX8_isLock 58 = .ok (.iconst 1, 1) := by decide +kernel
theorem dX8_isLock_59 : decode cX8_isLock 59 = .ok (.goto 4, 3) := by decide +kernel
theorem dX8_isLock_62 : decode cX8_isLock 62 = .ok (.iconst 0, 1) := by decide +kernel
theorem dX8_isLock_63 : decode cX8_isLock 63 = .ok (.istore_n 3, 1) := by decide +kernel
theorem dX8_isLock_64 : decode cX8_isLock 64 = .ok (.iinc 4 1, 3) := by decide +kernel
theorem dX8_isLock_67 : decode cX8_isLock 67 = .ok (.goto (-41), 3) := by decide +kernel
theorem dX8_isLock_70 : decode cX8_isLock 70 = .ok (.iload_n 3, 1) := by decide +kernel
theorem dX8_isLock_71 : decode cX8_isLock 71 = .ok (.ireturn, 1) := by decide +kernel
theorem dX8_lock_0 : decode cX8_lock 0 = .ok (.iload_n 1, 1) := by decide +kernel
theorem dX8_lock_1 : decode cX8_lock 1 = .ok (.iconst 0, 1) := by decide +kernel
theorem dX8_lock_2 : decode cX8_lock 2 = .ok (.iconst 1, 1) := by decide +kernel
theorem dX8_lock_3 : decode cX8_lock 3 = .ok (.invokestatic 60, 3) := by decide +kernel
theorem dX8_lock_6 : decode cX8_lock 6 = .ok (.ifCond .ne 5, 3) := by decide +kernel
theorem dX8_lock_9 : decode cX8_lock 9 = .ok (.iconst (-1), 1) := by decide +kernel
theorem dX8_lock_10 : decode cX8_lock 10 = .ok (.ireturn, 1) := by decide +kernel
theorem dX8_lock_11 : decode cX8_lock 11 = .ok (.iconst 0, 1) := by decide +kernel
theorem dX8_lock_12 : decode cX8_lock 12 = .ok (.istore_n 2, 1) := by decide +kernel
theorem dX8_lock_13 : decode cX8_lock 13 = .ok (.iload_n 2, 1) := by decide +kernel
theorem dX8_lock_14 : decode cX8_lock 14 = .ok (.bipush 10, 2) := by decide +kernel
theorem dX8_lock_16 : decode cX8_lock 16 = .ok (.if_icmp .ge 16, 3) := by decide +kernel
theorem dX8_lock_19 : decode cX8_lock 19 = .ok (.aload_n 0, 1) := by decide +kernel
theorem dX8_lock_20 : decode cX8_lock 20 = .ok (.getfield 54, 3) := by decide +kernel
theorem dX8_lock_23 : decode cX8_lock 23 = .ok (.iload_n 2, 1) := by decide +kernel
theorem dX8_lock_24 : decode cX8_lock 24 = .ok (.iconst 0, 1) := by decide +kernel
theorem dX8_lock_25 : decode cX8_lock 25 = .ok (.iastore, 1) := by decide +kernel
theorem dX8_lock_26 : decode cX8_lock 26 = .ok (.iinc 2 1, 3) := by decide +kernel
theorem dX8_lock_29 : decode cX8_lock 29 = .ok (.goto (-16), 3) := by decide +kernel
theorem dX8_lock_32 : decode cX8_lock 32 = .ok (.iconst 0, 1) := by decide +kernel
theorem dX8_lock_33 : decode cX8_lock 33 = .ok (.istore_n 2, 1) := by decide +kernel
theorem dX8_lock_34 : decode cX8_lock 34 = .ok (.iconst 0, 1) := by decide +kernel
theorem dX8_lock_35 : decode cX8_lock 35 = .ok (.istore_n 3, 1) := by decide +kernel
theorem dX8_lock_36 : decode cX8_lock 36 = .ok (.iload_n 3, 1) := by decide +kernel
theorem dX8_lock_37 : decode cX8_lock 37 = .ok (.aload_n 0, 1) := by decide +kernel
theorem dX8_lock_38 : decode cX8_lock 38 = .ok (.getfield 57, 3) := by decide +kernel
theorem dX8_lock_41 : decode cX8_lock 41 = .ok (.if_icmp .ge 86, 3) := by decide +kernel
theorem dX8_lock_44 : decode cX8_lock 44 = .ok (.iconst 0, 1) := by decide +kernel
theorem dX8_lock_45 : decode cX8_lock 45 = .ok (.istore 4, 2) := by decide +kernel
theorem dX8_lock_47 : decode cX8_lock 47 = .ok (.iload 4, 2) := by decide +kernel
theorem dX8_lock_49 : decode cX8_lock 49 = .ok (.aload_n 0, 1) := by decide +kernel
theorem dX8_lock_50 : decode cX8_lock 50 = .ok (.getfield 23, 3) := by decide +kernel
theorem dX8_lock_53 : decode cX8_lock 53 = .ok (.iconst 2, 1) := by decide +kernel
theorem dX8_lock_54 : decode cX8_lock 54 = .ok (.iload_n 3, 1) := by decide +kernel
theorem dX8_lock_55 : decode cX8_lock 55 = .ok (.iadd, 1) := by decide +kernel
theorem dX8_lock_56 : decode cX8_lock 56 = .ok (.iaload, 1) := by decide +kernel
theorem dX8_lock_57 : decode cX8_lock 57 = .ok (.if_icmp .gt 64, 3) := by decide +kernel
theorem dX8_lock_60 : decode cX8_lock 60 = .ok (.aload_n 0, 1) := by decide +kernel
theorem dX8_lock_61 : decode cX8_lock 61 = .ok (.iload_n 3, 1) := by decide +kernel
theorem dX8_lock_62 : decode cX8_lock 62 = .ok (.iload 4, 2) := by decide +kernel
theorem dX8_lock_64 : decode cX8_lock 64 = .ok (.invokevirtual 192, 3) := by decide +kernel
theorem dX8_lock_67 : decode cX8_lock 67 = .ok (.ifCond .eq 48, 3) := by decide +kernel
theorem dX8_lock_70 : decode cX8_lock 70 = .ok (.iload_n 2, 1) := by decide +kernel
theorem dX8_lock_71 : decode cX8_lock 71 = .ok (.iconst 1, 1) := by decide +kernel
theorem dX8_lock_72 : decode cX8_lock 72 = .ok (.iload_n 3, 1) := by decide +kernel
theorem dX8_lock_73 : decode cX8_lock 73 = .ok (.ishl, 1) := by decide +kernel
theorem dX8_lock_74 : decode cX8_lock 74 = .ok (.ior, 1) := by decide +kernel
theorem dX8_lock_75 : decode cX8_lock 75 = .ok (.istore_n 2, 1) := by decide +kernel
theorem dX8_lock_76 : decode cX8_lock 76 = .ok (.iload 4, 2) := by decide +kernel
theorem dX8_lock_78 : decode cX8_lock 78 = .ok (.aload_n 0, 1) := by decide +kernel
theorem dX8_lock_79 : decode cX8_lock 79 = .ok (.getfield 125, 3) := by decide +kernel
theorem dX8_lock_82 : decode cX8_lock 82 = .ok (.iadd, 1) := by decide +kernel
theorem dX8_lock_83 : decode cX8_lock 83 = .ok (.aload_n 0, 1) := by decide +kernel
theorem dX8_lock_84 : decode cX8_lock 84 = .ok (.getfield 23, 3) := by decide +kernel
theorem dX8_lock_87 : decode cX8_lock 87 = .ok (.iconst 2, 1) := by decide +kernel
theorem dX8_lock_88 : decode cX8_lock 88 = .ok (.iload_n 3, 1) := by decide +kernel
theorem dX8_lock_89 : decode cX8_lock 89 = .ok (.iadd, 1) := by decide +kernel
theorem dX8_lock_90 : decode cX8_lock 90 = .ok (.iaload, 1) := by decide +kernel
theorem dX8_lock_91 : decode cX8_lock 91 = .ok (.if_icmp .ge 24, 3) := by decide +kernel
theorem dX8_lock_94 : decode cX8_lock 94 = .ok (.aload_n 0, 1) := by decide +kernel
theorem dX8_lock_95 : decode cX8_lock 95 = .ok (.getfield 54, 3) := by decide +kernel
theorem dX8_lock_98 : decode cX8_lock 98 = .ok (.aload_n 0, 1) := by decide +kernel
theorem dX8_lock_99 : decode cX8_lock 99 = .ok (.iload_n 3, 1) := by decide +kernel
theorem dX8_lock_100 : decode cX8_lock 100 = .ok (.iload 4, 2) := by decide +kernel
theorem dX8_lock_102 : decode cX8_lock 102 = .ok (.aload_n 0, 1) := by decide +kernel
theorem dX8_lock_103 : decode cX8_lock 103 = .ok (.getfield 125, 3) := by decide +kernel
theorem dX8_lock_106 : decode cX8_lock 106 = .ok (.iadd, 1) := by decide +kernel
theorem dX8_lock_107 : decode cX8_lock 107 = .ok (.invokevirtual 131, 3) := by decide +kernel
theorem dX8_lock_110 : decode cX8_lock 110 = .ok (.dup2, 1) := by decide +kernel
theorem dX8_lock_111 : decode cX8_lock 111 = .ok (.iaload, 1) := by decide +kernel
theorem dX8_lock_112 : decode cX8_lock 112 = .ok (.iconst 1, 1) := by decide +kernel
theorem dX8_lock_113 : decode cX8_lock 113 = .ok (.iadd, 1) := by decide +kernel
theorem dX8_lock_114 : decode cX8_lock 114 = .ok (.iastore, 1) := by decide +kernel
theorem dX8_lock_115 : decode cX8_lock 115 = .ok (.iinc 4 1, 3) := by decide +kernel
theorem dX8_lock_118 : decode cX8_lock 118 = .ok (.goto (-71), 3) := by decide +kernel
theorem dX8_lock_121 : decode cX8_lock 121 = .ok (.iinc 3 1, 3) := by decide +kernel
theorem dX8_lock_124 : decode cX8_lock 124 = .ok (.goto (-88), 3) := by decide +kernel
theorem dX8_lock_127 : decode cX8_lock 127 = .ok (.bipush (-9), 2) := by decide +kernel
theorem dX8_lock_129 : decode cX8_lock 129 = .ok (.istore_n 3, 1) := by decide +kernel
theorem dX8_lock_130 : decode cX8_lock 130 = .ok (.iconst 0, 1) := by decide +kernel
theorem dX8_lock_131 : decode cX8_lock 131 = .ok (.istore 4, 2) := by decide +kernel
theorem dX8_lock_133 : decode cX8_lock 133 = .ok (.iconst 0, 1) := by decide +kernel
theorem dX8_lock_134 : decode cX8_lock 134 = .ok (.istore 5, 2) := by decide +kernel
theorem dX8_lock_136 : decode cX8_lock 136 = .ok (.iload 5, 2) := by decide +kernel
theorem dX8_lock_138 : decode cX8_lock 138 = .ok (.bipush 10, 2) := by decide +kernel
theorem dX8_lock_140 : decode cX8_lock 140 = .ok (.if_icmp .ge 54, 3) := by decide +kernel
theorem dX8_lock_143 : decode cX8_lock 143 = .ok (.aload_n 0, 1) := by decide +kernel
theorem dX8_lock_144 : decode cX8_lock 144 = .ok (.getfield 54, 3) := by decide +kernel
theorem dX8_lock_147 : decode cX8_lock 147 = .ok (.iload 5, 2) := by decide +kernel
theorem dX8_lock_149 : decode cX8_lock 149 = .ok (.iaload, 1) := by decide +kernel
theorem dX8_lock_150 : decode cX8_lock 150 = .ok (.iload 4, 2) := by decide +kernel
theorem dX8_lock_152 : decode cX8_lock 152 = .ok (.if_icmp .le 8, 3) := by decide +kernel
theorem dX8_lock_155 : decode cX8_lock 155 = .ok (.iload 5, 2) := by decide +kernel
theorem dX8_lock_157 : decode cX8_lock 157 = .ok (.goto 4, 3) := by decide +kernel
theorem dX8_lock_160 : decode cX8_lock 160 = .ok (.iload_n 3, 1) := by decide +kernel
theorem dX8_lock_161 : decode cX8_lock 161 = .ok (.istore_n 3, 1) := by decide +kernel
theorem dX8_lock_162 : decode cX8_lock 162 = .ok (.aload_n 0, 1) := by decide +kernel
theorem dX8_lock_163 : decode cX8_lock 163 = .ok (.getfield 54, 3) := by decide +kernel
theorem dX8_lock_166 : decode cX8_lock 166 = .ok (.iload 5, 2) := by decide +kernel
theorem dX8_lock_168 : decode cX8_lock 168 = .ok (.iaload, 1) := by decide +kernel
theorem dX8_lock_169 : decode cX8_lock 169 = .ok (.iload 4, 2) := by decide +kernel
theorem dX8_lock_171 : decode cX8_lock 171 = .ok (.if_icmp .le 13, 3) := by decide +kernel
theorem dX8_lock_174 : decode cX8_lock 174 = .ok (.aload_n 0, 1) := by decide +kernel
theorem dX8_lock_175 : decode cX8_lock 175 = .ok (.getfield 54, 3) := by decide +kernel
theorem dX8_lock_178 : decode cX8_lock 178 = .ok (.iload 5, 2) := by decide +kernel
theorem dX8_lock_180 : decode cX8_lock 180 = .ok (.iaload, 1) := by decide +kernel
theorem dX8_lock_181 : decode cX8_lock 181 = .ok (.goto 5, 3) := by decide +kernel
theorem dX8_lock_184 : decode cX8_lock 184 = .ok (.iload 4, 2) := by decide +kernel
theorem dX8_lock_186 : decode cX8_lock 186 = .ok (.istore 4, 2) := by decide +kernel
theorem dX8_lock_188 : decode cX8_lock 188 = .ok (.iinc 5 1, 3) := by decide +kernel
theorem dX8_lock_191 : decode cX8_lock 191 = .ok (.goto (-55), 3) := by decide +kernel
theorem dX8_lock_194 : decode cX8_lock 194 = .ok (.iload_n 1, 1) := by decide +kernel
theorem dX8_lock_195 : decode cX8_lock 195 = .ok (.ifCond .ne 7, 3) := by decide +kernel
theorem dX8_lock_198 : decode cX8_lock 198 = .ok (.iload_n 2, 1) := by decide +kernel
theorem dX8_lock_199 : decode cX8_lock 199 = .ok (.goto 4, 3) := by decide +kernel
theorem dX8_lock_202 : decode cX8_lock 202 = .ok (.iload_n 3, 1) := by decide +kernel
theorem dX8_lock_203 : decode cX8_lock 203 = .ok (.ireturn, 1) := by decide +kernel
theorem dX8_hears_0 : decode cX8_hears 0 = .ok (.iload_n 1, 1) := by decide +kernel
theorem dX8_hears_1 : decode cX8_hears 1 = .ok (.invokestatic 143, 3) := by decide +kernel
theorem dX8_hears_4 : decode cX8_hears 4 = .ok (.ifCond .eq 13, 3) := by decide +kernel
theorem dX8_hears_7 : decode cX8_hears 7 = .ok (.iload_n 2, 1) := by decide +kernel
theorem dX8_hears_8 : decode cX8_hears 8 = .ok (.iconst 0, 1) := by decide +kernel
theorem dX8_hears_9 : decode cX8_hears 9 = .ok (.bipush 60, 2) := by decide +kernel
theorem dX8_hears_11 : decode cX8_hears 11 = .ok (.invokestatic 60, 3) := by decide +kernel
theorem dX8_hears_14 : decode cX8_hears 14 = .ok (.ifCond .ne 5, 3) := by decide +kernel
theorem dX8_hears_17 : decode cX8_hears 17 = .ok (.iconst (-1), 1) := by decide +kernel
theorem dX8_hears_18 : decode cX8_hears 18 = .ok (.ireturn, 1) := by decide +kernel
theorem dX8_hears_19 : decode cX8_hears 19 = .ok (.aload_n 0, 1) := by decide +kernel
theorem dX8_hears_20 : decode cX8_hears 20 = .ok (.getfield 128, 3) := by decide +kernel
theorem dX8_hears_23 : decode cX8_hears 23 = .ok (.iconst 4, 1) := by decide +kernel
theorem dX8_hears_24 : decode cX8_hears 24 = .ok (.if_icmp .ne 6, 3) := by decide +kernel
theorem dX8_hears_27 : decode cX8_hears 27 = .ok (.bipush (-3), 2) := by decide +kernel
theorem dX8_hears_29 : decode cX8_hears 29 = .ok (.ireturn, 1) := by decide +kernel
theorem dX8_hears_30 : decode cX8_hears 30 = .ok (.aload_n 0, 1) := by decide +kernel
theorem dX8_hears_31 : decode cX8_hears 31 = .ok (.getfield 36, 3) := by decide +kernel
theorem dX8_hears_34 : decode cX8_hears 34 = .ok (.iconst 2, 1) := by decide +kernel
theorem dX8_hears_35 : decode cX8_hears 35 = .ok (.aload_n 0, 1) := by decide +kernel
theorem dX8_hears_36 : decode cX8_hears 36 = .ok (.getfield 128, 3) := by decide +kernel
theorem dX8_hears_39 : decode cX8_hears 39 = .ok (.imul, 1) := by decide +kernel
theorem dX8_hears_40 : decode cX8_hears 40 = .ok (.iload_n 1, 1) := by decide +kernel
theorem dX8_hears_41 : decode cX8_hears 41 = .ok (.iastore, 1) := by decide +kernel
theorem dX8_hears_42 : decode cX8_hears 42 = .ok (.aload_n 0, 1) := by decide +kernel
theorem dX8_hears_43 : decode cX8_hears 43 = .ok (.getfield 36, 3) := by decide +kernel
theorem dX8_hears_46 : decode cX8_hears 46 = .ok (.iconst 2, 1) := by decide +kernel
theorem dX8_hears_47 : decode cX8_hears 47 = .ok (.aload_n 0, 1) := by decide +kernel
theorem dX8_hears_48 : decode cX8_hears 48 = .ok (.getfield 128, 3) := by decide +kernel
theorem dX8_hears_51 : decode cX8_hears 51 = .ok (.imul, 1) := by decide +kernel
theorem dX8_hears_52 : decode cX8_hears 52 = .ok (.iconst 1, 1) := by decide +kernel
theorem dX8_hears_53 : decode cX8_hears 53 = .ok (.iadd, 1) := by decide +kernel
theorem dX8_hears_54 : decode cX8_hears 54 = .ok (.iload_n 2, 1) := by decide +kernel
theorem dX8_hears_55 : decode cX8_hears 55 = .ok (.iastore, 1) := by decide +kernel
theorem dX8_hears_56 : decode cX8_hears 56 = .ok (.aload_n 0, 1) := by decide +kernel
theorem dX8_hears_57 : decode cX8_hears 57 = .ok (.dup, 1) := by decide +kernel
theorem dX8_hears_58 : decode cX8_hears 58 = .ok (.getfield 128, 3) := by decide +kernel
theorem dX8_hears_61 : decode cX8_hears 61 = .ok (.iconst 1, 1) := by decide +kernel
theorem dX8_hears_62 : decode cX8_hears 62 = .ok (.iadd, 1) := by decide +kernel
theorem dX8_hears_63 : decode cX8_hears 63 = .ok (.putfield 128, 3) := by decide +kernel
theorem dX8_hears_66 : decode cX8_hears 66 = .ok (.aload_n 0, 1) := by decide +kernel
theorem dX8_hears_67 : decode cX8_hears 67 = .ok (.getfield 128, 3) := by decide +kernel
theorem dX8_hears_70 : decode cX8_hears 70 = .ok (.ireturn, 1) := by decide +kernel
theorem dX8_isHeard_0 : decode cX8_isHeard 0 = .ok (.iconst 1, 1) := by decide +kernel
theorem dX8_isHeard_1 : decode cX8_isHeard 1 = .ok (.istore_n 2, 1) := by decide +kernel
theorem dX8_isHeard_2 : decode cX8_isHeard 2 = .ok (.iconst 0, 1) := by decide +kernel
theorem dX8_isHeard_3 : decode cX8_isHeard 3 = .ok (.istore_n 3, 1) := by decide +kernel
theorem dX8_isHeard_4 : decode cX8_isHeard 4 = .ok (.iload_n 3, 1) := by decide +kernel
theorem dX8_isHeard_5 : decode cX8_isHeard 5 = .ok (.aload_n 0, 1) := by decide +kernel
theorem dX8_isHeard_6 : decode cX8_isHeard 6 = .ok (.getfield 128, 3) := by decide +kernel
theorem dX8_isHeard_9 : decode cX8_isHeard 9 = .ok (.if_icmp .ge 87, 3) := by decide +kernel
theorem dX8_isHeard_12 : decode cX8_isHeard 12 = .ok (.iconst 0, 1) := by decide +kernel
theorem dX8_isHeard_13 : decode cX8_isHeard 13 = .ok (.istore 4, 2) := by decide +kernel
theorem dX8_isHeard_15 : decode cX8_isHeard 15 = .ok (.iconst 0, 1) := by decide +kernel
theorem dX8_isHeard_16 : decode cX8_isHeard 16 = .ok (.istore 5, 2) := by decide +kernel
theorem dX8_isHeard_18 : decode cX8_isHeard 18 = .ok (.iload 5, 2) := by decide +kernel
theorem dX8_isHeard_20 : decode cX8_isHeard 20 = .ok (.aload_n 0, 1) := by decide +kernel
theorem dX8_isHeard_21 : decode cX8_isHeard 21 = .ok (.getfield 57, 3) := by decide +kernel
theorem dX8_isHeard_24 : decode cX8_isHeard 24 = .ok (.if_icmp .ge 41, 3) := by decide +kernel
theorem dX8_isHeard_27 : decode cX8_isHeard 27 = .ok (.iload 4, 2) := by decide +kernel
theorem dX8_isHeard_29 : decode cX8_isHeard 29 = .ok (.iload_n 1, 1) := by decide +kernel
theorem dX8_isHeard_30 : decode cX8_isHeard 30 = .ok (.iload 5, 2) := by decide +kernel
theorem dX8_isHeard_32 : decode cX8_isHeard 32 = .ok (.invokestatic 175, 3) := by decide +kernel
theorem dX8_isHeard_35 : decode cX8_isHeard 35 = .ok (.ifCond .eq 20, 3) := by decide +kernel
theorem dX8_isHeard_38 : decode cX8_isHeard 38 = .ok (.aload_n 0, 1) := by decide +kernel
theorem dX8_isHeard_39 : decode cX8_isHeard 39 = .ok (.iload 5, 2) := by decide +kernel
theorem dX8_isHeard_41 : decode cX8_isHeard 41 = .ok (.aload_n 0, 1) := by decide +kernel
theorem dX8_isHeard_42 : decode cX8_isHeard 42 = .ok (.getfield 36, 3) := by decide +kernel
theorem dX8_isHeard_45 : decode cX8_isHeard 45 = .ok (.iconst 2, 1) := by decide +kernel
theorem dX8_isHeard_46 : decode cX8_isHeard 46 = .ok (.iload_n 3, 1) := by decide +kernel
theorem dX8_isHeard_47 : decode cX8_isHeard 47 = .ok (.imul, 1) := by decide +kernel
theorem dX8_isHeard_48 : decode cX8_isHeard 48 = .ok (.iaload, 1) := by decide +kernel
theorem dX8_isHeard_49 : decode cX8_isHeard 49 = .ok (.invokevirtual 137, 3) := by decide +kernel
theorem dX8_isHeard_52 : decode cX8_isHeard 52 = .ok (.goto 4, 3) := by decide +kernel
theorem dX8_isHeard_55 : decode cX8_isHeard 55 = .ok (.iconst 0, 1) := by decide +kernel
theorem dX8_isHeard_56 : decode cX8_isHeard 56 = .ok (.iadd, 1) := by decide +kernel
theorem dX8_isHeard_57 : decode cX8_isHeard 57 = .ok (.istore 4, 2) := by decide +kernel
theorem dX8_isHeard_59 : decode cX8_isHeard 59 = .ok (.iinc 5 1, 3) := by decide +kernel
theorem dX8_isHeard_62 : decode cX8_isHeard 62 = .ok (.goto (-44), 3) := by decide +kernel
theorem dX8_isHeard_65 : decode cX8_isHeard 65 = .ok (.iload_n 2, 1) := by decide +kernel
theorem dX8_isHeard_66 : decode cX8_isHeard 66 = .ok (.ifCond .eq 22, 3) := by decide +kernel
theorem dX8_isHeard_69 : decode cX8_isHeard 69 = .ok (.iload 4, 2) := by decide +kernel
theorem dX8_isHeard_71 : decode cX8_isHeard 71 = .ok (.aload_n 0, 1) := by decide +kernel
theorem dX8_isHeard_72 : decode cX8_isHeard 72 = .ok (.getfield 36, 3) := by decide +kernel
theorem dX8_isHeard_75 : decode cX8_isHeard 75 = .ok (.iconst 2, 1) := by decide +kernel
theorem dX8_isHeard_76 : decode cX8_isHeard 76 = .ok (.iload_n 3, 1) := by decide +kernel
theorem dX8_isHeard_77 : decode cX8_isHeard 77 = .ok (.imul, 1) := by decide +kernel
theorem dX8_isHeard_78 : decode cX8_isHeard 78 = .ok (.iconst 1, 1) := by decide +kernel
theorem dX8_isHeard_79 : decode cX8_isHeard 79 = .ok (.iadd, 1) := by decide +kernel
theorem dX8_isHeard_80 : decode cX8_isHeard 80 = .ok (.iaload, 1) := by decide +kernel
theorem dX8_isHeard_81 : decode cX8_isHeard 81 = .ok (.if_icmp .ne 7, 3) := by decide +kernel
theorem dX8_isHeard_84 : decode cX8_isHeard 84 = .ok (.iconst 1, 1) := by decide +kernel
theorem dX8_isHeard_85 : decode cX8_isHeard 85 = .ok (.goto 4, 3) := by decide +kernel
theorem dX8_isHeard_88 : decode cX8_isHeard 88 = .ok (.iconst 0, 1) := by decide +kernel
theorem dX8_isHeard_89 : decode cX8_isHeard 89 = .ok (.istore_n 2, 1) := by decide +kernel
theorem dX8_isHeard_90 : decode cX8_isHeard 90 = .ok (.iinc 3 1, 3) := by decide +kernel
theorem dX8_isHeard_93 : decode cX8_isHeard 93 = .ok (.goto (-89), 3) := by decide +kernel
theorem dX8_isHeard_96 : decode cX8_isHeard 96 = .ok (.iload_n 2, 1) := by decide +kernel
theorem dX8_isHeard_97 : decode cX8_isHeard 97 = .ok (.ireturn, 1) := by decide +kernel
theorem dX8_sets_0 : decode cX8_sets 0 = .ok (.iload_n 1, 1) := by decide +kernel
theorem dX8_sets_1 : decode cX8_sets 1 = .ok (.iconst 0, 1) := by decide +kernel
theorem dX8_sets_2 : decode cX8_sets 2 = .ok (.iconst 3, 1) := by decide +kernel
theorem dX8_sets_3 : decode cX8_sets 3 = .ok (.invokestatic 60, 3) := by decide +kernel
theorem dX8_sets_6 : decode cX8_sets 6 = .ok (.ifCond .ne 5, 3) := by decide +kernel
theorem dX8_sets_9 : decode cX8_sets 9 = .ok (.iconst (-1), 1) := by decide +kernel
theorem dX8_sets_10 : decode cX8_sets 10 = .ok (.ireturn, 1) := by decide +kernel
theorem dX8_sets_11 : decode cX8_sets 11 = .ok (.iconst 1, 1) := by decide +kernel
theorem dX8_sets_12 : decode cX8_sets 12 = .ok (.aload_n 0, 1) := by decide +kernel
theorem dX8_sets_13 : decode cX8_sets 13 = .ok (.getfield 57, 3) := by decide +kernel
theorem dX8_sets_16 : decode cX8_sets 16 = .ok (.ishl, 1) := by decide +kernel
theorem dX8_sets_17 : decode cX8_sets 17 = .ok (.iconst 1, 1) := by decide +kernel
theorem dX8_sets_18 : decode cX8_sets 18 = .ok (.isub, 1) := by decide +kernel
theorem dX8_sets_19 : decode cX8_sets 19 = .ok (.istore_n 2, 1) := by decide +kernel
theorem dX8_sets_20 : decode cX8_sets 20 = .ok (.iload_n 2, 1) := by decide +kernel
theorem dX8_sets_21 : decode cX8_sets 21 = .ok (.istore_n 3, 1) := by decide +kernel
theorem dX8_sets_22 : decode cX8_sets 22 = .ok (.iconst 0, 1) := by decide +kernel
theorem dX8_sets_23 : decode cX8_sets 23 = .ok (.istore 4, 2) := by decide +kernel
theorem dX8_sets_25 : decode cX8_sets 25 = .ok (.bipush (-9), 2) := by decide +kernel
theorem dX8_sets_27 : decode cX8_sets 27 = .ok (.istore 5, 2) := by decide +kernel
theorem dX8_sets_29 : decode cX8_sets 29 = .ok (.iconst 0, 1) := by decide +kernel
theorem dX8_sets_30 : decode cX8_sets 30 = .ok (.istore 6, 2) := by decide +kernel
theorem dX8_sets_32 : decode cX8_sets 32 = .ok (.iconst 0, 1) := by decide +kernel
theorem dX8_sets_33 : decode cX8_sets 33 = .ok (.istore 7, 2) := by decide +kernel
theorem dX8_sets_35 : decode cX8_sets 35 = .ok (.iload 7, 2) := by decide +kernel
theorem dX8_sets_37 : decode cX8_sets 37 = .ok (.iload_n 2, 1) := by decide +kernel
theorem dX8_sets_38 : decode cX8_sets 38 = .ok (.if_icmp .gt 47, 3) := by decide +kernel
theorem dX8_sets_41 : decode cX8_sets 41 = .ok (.aload_n 0, 1) := by decide +kernel
theorem dX8_sets_42 : decode cX8_sets 42 = .ok (.iload 7, 2) := by decide +kernel
theorem dX8_sets_44 : decode cX8_sets 44 = .ok (.invokevirtual 195, 3) := by decide +kernel
theorem dX8_sets_47 : decode cX8_sets 47 = .ok (.ifCond .eq 32, 3) := by decide +kernel
theorem dX8_sets_50 : decode cX8_sets 50 = .ok (.iload 6, 2) := by decide +kernel
theorem dX8_sets_52 : decode cX8_sets 52 = .ok (.ifCond .ne 8, 3) := by decide +kernel
theorem dX8_sets_55 : decode cX8_sets 55 = .ok (.iload 7, 2) := by decide +kernel
theorem dX8_sets_57 : decode cX8_sets 57 = .ok (.goto 5, 3) := by decide +kernel
theorem dX8_sets_60 : decode cX8_sets 60 = .ok (.iload 5, 2) := by decide +kernel
theorem dX8_sets_62 : decode cX8_sets 62 = .ok (.istore 5, 2) := by decide +kernel
theorem dX8_sets_64 : decode cX8_sets 64 = .ok (.iload_n 3, 1) := by decide +kernel
theorem dX8_sets_65 : decode cX8_sets 65 = .ok (.iload 7, 2) := by decide +kernel
theorem dX8_sets_67 : decode cX8_sets 67 = .ok (.iand, 1) := by decide +kernel
theorem dX8_sets_68 : decode cX8_sets 68 = .ok (.istore_n 3, 1) := by decide +kernel
theorem dX8_sets_69 : decode cX8_sets 69 = .ok (.iload 4, 2) := by decide +kernel
theorem dX8_sets_71 : decode cX8_sets 71 = .ok (.iload 7, 2) := by decide +kernel
theorem dX8_sets_73 : decode cX8_sets 73 = .ok (.ior, 1) := by decide +kernel
theorem dX8_sets_74 : decode cX8_sets 74 = .ok (.istore 4, 2) := by decide +kernel
theorem dX8_sets_76 : decode cX8_sets 76 = .ok (.iinc 6 1, 3) := by decide +kernel
theorem dX8_sets_79 : decode cX8_sets 79 = .ok (.iinc 7 1, 3) := by decide +kernel
theorem dX8_sets_82 : decode cX8_sets 82 = .ok (.goto (-47), 3) := by decide +kernel
theorem dX8_sets_85 : decode cX8_sets 85 = .ok (.iload_n 1, 1) := by decide +kernel
theorem dX8_sets_86 : decode cX8_sets 86 = .ok (.ifCond .eq 8, 3) := by decide +kernel
theorem dX8_sets_89 : decode cX8_sets 89 = .ok (.iload 6, 2) := by decide +kernel
theorem dX8_sets_91 : decode cX8_sets 91 = .ok (.ifCond .ne 15, 3) := by decide +kernel
theorem dX8_sets_94 : decode cX8_sets 94 = .ok (.iload_n 1, 1) := by decide +kernel
theorem dX8_sets_95 : decode cX8_sets 95 = .ok (.ifCond .ne 8, 3) := by decide +kernel
theorem dX8_sets_98 : decode cX8_sets 98 = .ok (.iload 6, 2) := by decide +kernel
theorem dX8_sets_100 : decode cX8_sets 100 = .ok (.goto 5, 3) := by decide +kernel
theorem dX8_sets_103 : decode cX8_sets 103 = .ok (.bipush (-9), 2) := by decide +kernel
theorem dX8_sets_105 : decode cX8_sets 105 = .ok (.ireturn, 1) := by decide +kernel
theorem dX8_sets_106 : decode cX8_sets 106 = .ok (.iload_n 1, 1) := by decide +kernel
theorem dX8_sets_107 : decode cX8_sets 107 = .ok (.iconst 1, 1) := by decide +kernel
theorem dX8_sets_108 : decode cX8_sets 108 = .ok (.if_icmp .ne 8, 3) := by decide +kernel
theorem dX8_sets_111 : decode cX8_sets 111 = .ok (.iload 5, 2) := by decide +kernel
theorem dX8_sets_113 : decode cX8_sets 113 = .ok (.goto 18, 3) := by decide +kernel
theorem dX8_sets_116 : decode cX8_sets 116 = .ok (.iload_n 1, 1) := by decide +kernel
theorem dX8_sets_117 : decode cX8_sets 117 = .ok (.iconst 2, 1) := by decide +kernel
theorem dX8_sets_118 : decode cX8_sets 118 = .ok (.if_icmp .ne 7, 3) := by decide +kernel
theorem dX8_sets_121 : decode cX8_sets 121 = .ok (.iload_n 3, 1) := by decide +kernel
theorem dX8_sets_122 : decode cX8_sets 122 = .ok (.goto 9, 3) := by decide +kernel
theorem dX8_sets_125 : decode cX8_sets 125 = .ok (.iload_n 2, 1) := by decide +kernel
theorem dX8_sets_126 : decode cX8_sets 126 = .ok (.iload 4, 2) := by decide +kernel
theorem dX8_sets_128 : decode cX8_sets 128 = .ok (.iconst (-1), 1) := by decide +kernel
theorem dX8_sets_129 : decode cX8_sets 129 = .ok (.ixor, 1) := by decide +kernel
theorem dX8_sets_130 : decode cX8_sets 130 = .ok (.iand, 1) := by decide +kernel
theorem dX8_sets_131 : decode cX8_sets 131 = .ok (.ireturn, 1) := by decide +kernel
theorem dX8_forget_0 : decode cX8_forget 0 = .ok (.aload_n 0, 1) := by decide +kernel
theorem dX8_forget_1 : decode cX8_forget 1 = .ok (.getfield 125, 3) := by decide +kernel
theorem dX8_forget_4 : decode cX8_forget 4 = .ok (.aload_n 0, 1) := by decide +kernel
theorem dX8_forget_5 : decode cX8_forget 5 = .ok (.getfield 128, 3) := by decide +kernel
theorem dX8_forget_8 : decode cX8_forget 8 = .ok (.iadd, 1) := by decide +kernel
theorem dX8_forget_9 : decode cX8_forget 9 = .ok (.istore_n 1, 1) := by decide +kernel
theorem dX8_forget_10 : decode cX8_forget 10 = .ok (.aload_n 0, 1) := by decide +kernel
theorem dX8_forget_11 : decode cX8_forget 11 = .ok (.iconst 0, 1) := by decide +kernel
theorem dX8_forget_12 : decode cX8_forget 12 = .ok (.putfield 125, 3) := by decide +kernel
theorem dX8_forget_15 : decode cX8_forget 15 = .ok (.aload_n 0, 1) := by decide +kernel
theorem dX8_forget_16 : decode cX8_forget 16 = .ok (.iconst 0, 1) := by decide +kernel
theorem dX8_forget_17 : decode cX8_forget 17 = .ok (.putfield 128, 3) := by decide +kernel
theorem dX8_forget_20 : decode cX8_forget 20 = .ok (.iload_n 1, 1) := by decide +kernel
theorem dX8_forget_21 : decode cX8_forget 21 = .ok (.ireturn, 1) := by decide +kernel
theorem dX8_mark_0 : decode cX8_mark 0 = .ok (.iload_n 1, 1) := by decide +kernel
theorem dX8_mark_1 : decode cX8_mark 1 = .ok (.iconst 0, 1) := by decide +kernel
theorem dX8_mark_2 : decode cX8_mark 2 = .ok (.iconst 5, 1) := by decide +kernel
theorem dX8_mark_3 : decode cX8_mark 3 = .ok (.invokestatic 60, 3) := by decide +kernel
theorem dX8_mark_6 : decode cX8_mark 6 = .ok (.ifCond .eq 11, 3) := by decide +kernel
theorem dX8_mark_9 : decode cX8_mark 9 = .ok (.aload_n 0, 1) := by decide +kernel
theorem dX8_mark_10 : decode cX8_mark 10 = .ok (.iload_n 2, 1) := by decide +kernel
theorem dX8_mark_11 : decode cX8_mark 11 = .ok (.invokevirtual 134, 3) := by decide +kernel
theorem dX8_mark_14 : decode cX8_mark 14 = .ok (.ifCond .ne 6, 3) := by decide +kernel
theorem dX8_mark_17 : decode cX8_mark 17 = .ok (.ldc 198, 2) := by decide +kernel
theorem dX8_mark_19 : decode cX8_mark 19 = .ok (.ireturn, 1) := by decide +kernel
theorem dX8_mark_20 : decode cX8_mark 20 = .ok (.aload_n 0, 1) := by decide +kernel
theorem dX8_mark_21 : decode cX8_mark 21 = .ok (.getfield 23, 3) := by decide +kernel
theorem dX8_mark_24 : decode cX8_mark 24 = .ok (.iconst 2, 1) := by decide +kernel
theorem dX8_mark_25 : decode cX8_mark 25 = .ok (.iload_n 2, 1) := by decide +kernel
theorem dX8_mark_26 : decode cX8_mark 26 = .ok (.iadd, 1) := by decide +kernel
theorem dX8_mark_27 : decode cX8_mark 27 = .ok (.iaload, 1) := by decide +kernel
theorem dX8_mark_28 : decode cX8_mark 28 = .ok (.istore_n 3, 1) := by decide +kernel
theorem dX8_mark_29 : decode cX8_mark 29 = .ok (.iload_n 3, 1) := by decide +kernel
theorem dX8_mark_30 : decode cX8_mark 30 = .ok (.iload_n 3, 1) := by decide +kernel
theorem dX8_mark_31 : decode cX8_mark 31 = .ok (.ifCond .ne 7, 3) := by decide +kernel
theorem dX8_mark_34 : decode cX8_mark 34 = .ok (.iconst (-1), 1) := by decide +kernel
theorem dX8_mark_35 : decode cX8_mark 35 = .ok (.goto 11, 3) := by decide +kernel
theorem dX8_mark_38 : decode cX8_mark 38 = .ok (.aload_n 0, 1) := by decide +kernel
theorem dX8_mark_39 : decode cX8_mark 39 = .ok (.iload_n 2, 1) := by decide +kernel
theorem dX8_mark_40 : decode cX8_mark 40 = .ok (.iload_n 3, 1) := by decide +kernel
theorem dX8_mark_41 : decode cX8_mark 41 = .ok (.iconst 1, 1) := by decide +kernel
theorem dX8_mark_42 : decode cX8_mark 42 = .ok (.isub, 1) := by decide +kernel
theorem dX8_mark_43 : decode cX8_mark 43 = .ok (.invokevirtual 131, 3) := by decide +kernel
theorem dX8_mark_46 : decode cX8_mark 46 = .ok (.iadd, 1) := by decide +kernel
theorem dX8_mark_47 : decode cX8_mark 47 = .ok (.istore 4, 2) := by decide +kernel
theorem dX8_mark_49 : decode cX8_mark 49 = .ok (.iload_n 3, 1) := by decide +kernel
theorem dX8_mark_50 : decode cX8_mark 50 = .ok (.aload_n 0, 1) := by decide +kernel
theorem dX8_mark_51 : decode cX8_mark 51 = .ok (.getfield 7, 3) := by decide +kernel
theorem dX8_mark_54 : decode cX8_mark 54 = .ok (.iload_n 2, 1) := by decide +kernel
theorem dX8_mark_55 : decode cX8_mark 55 = .ok (.iaload, 1) := by decide +kernel
theorem dX8_mark_56 : decode cX8_mark 56 = .ok (.isub, 1) := by decide +kernel
theorem dX8_mark_57 : decode cX8_mark 57 = .ok (.istore 5, 2) := by decide +kernel
theorem dX8_mark_59 : decode cX8_mark 59 = .ok (.iload_n 1, 1) := by decide +kernel
theorem dX8_mark_60 : decode cX8_mark 60 = .ok (.tableswitch 121 1 5 #[36, 51, 66, 83, 100], 36) := by decide +kernel
theorem dX8_mark_96 : decode cX8_mark 96 = .ok (.aload_n 0, 1) := by decide +kernel
theorem dX8_mark_97 : decode cX8_mark 97 = .ok (.dup, 1) := by decide +kernel
theorem dX8_mark_98 : decode cX8_mark 98 = .ok (.getfield 199, 3) := by decide +kernel
theorem dX8_mark_101 : decode cX8_mark 101 = .ok (.ldc2_w 203, 3) := by decide +kernel
theorem dX8_mark_104 : decode cX8_mark 104 = .ok (.ladd, 1) := by decide +kernel
theorem dX8_mark_105 : decode cX8_mark 105 = .ok (.putfield 199, 3) := by decide +kernel
theorem dX8_mark_108 : decode cX8_mark 108 = .ok (.iload 4, 2) := by decide +kernel
theorem dX8_mark_110 : decode cX8_mark 110 = .ok (.ireturn, 1) := by decide +kernel
theorem dX8_mark_111 : decode cX8_mark 111 = .ok (.aload_n 0, 1) := by decide +kernel
theorem dX8_mark_112 : decode cX8_mark 112 = .ok (.dup, 1) := by decide +kernel
theorem dX8_mark_113 : decode cX8_mark 113 = .ok (.getfield 199, 3) := by decide +kernel
theorem dX8_mark_116 : decode cX8_mark 116 = .ok (.ldc2_w 205, 3) := by decide +kernel
theorem dX8_mark_119 : decode cX8_mark 119 = .ok (.ladd, 1) := by decide +kernel
end
section
theorem dX8_mark_120 : decode cX8_mark 120 = .ok (.putfield 199, 3) := by decide +kernel
theorem dX8_mark_123 : decode cX8_mark 123 = .ok (.iload 5, 2) := by decide +kernel
theorem dX8_mark_125 : decode cX8_mark 125 = .ok (.ireturn, 1) := by decide +kernel
theorem dX8_mark_126 : decode cX8_mark 126 = .ok (.aload_n 0, 1) := by decide +kernel
theorem dX8_mark_127 : decode cX8_mark 127 = .ok (.dup, 1) := by decide +kernel
theorem dX8_mark_128 : decode cX8_mark 128 = .ok (.getfield 199, 3) := by decide +kernel
theorem dX8_mark_131 : decode cX8_mark 131 = .ok (.ldc2_w 207, 3) := by decide +kernel
theorem dX8_mark_134 : decode cX8_mark 134 = .ok (.ladd, 1) := by decide +kernel
theorem dX8_mark_135 : decode cX8_mark 135 = .ok (.putfield 199, 3) := by decide +kernel
theorem dX8_mark_138 : decode cX8_mark 138 = .ok (.iconst 2, 1) := by decide +kernel
theorem dX8_mark_139 : decode cX8_mark 139 = .ok (.iload 4, 2) := by decide +kernel
theorem dX8_mark_141 : decode cX8_mark 141 = .ok (.imul, 1) := by decide +kernel
theorem dX8_mark_142 : decode cX8_mark 142 = .ok (.ireturn, 1) := by decide +kernel
theorem dX8_mark_143 : decode cX8_mark 143 = .ok (.aload_n 0, 1) := by decide +kernel
theorem dX8_mark_144 : decode cX8_mark 144 = .ok (.dup, 1) := by decide +kernel
theorem dX8_mark_145 : decode cX8_mark 145 = .ok (.getfield 199, 3) := by decide +kernel
theorem dX8_mark_148 : decode cX8_mark 148 = .ok (.ldc2_w 209, 3) := by decide +kernel
theorem dX8_mark_151 : decode cX8_mark 151 = .ok (.ladd, 1) := by decide +kernel
theorem dX8_mark_152 : decode cX8_mark 152 = .ok (.putfield 199, 3) := by decide +kernel
theorem dX8_mark_155 : decode cX8_mark 155 = .ok (.iload 5, 2) := by decide +kernel
theorem dX8_mark_157 : decode cX8_mark 157 = .ok (.iload_n 2, 1) := by decide +kernel
theorem dX8_mark_158 : decode cX8_mark 158 = .ok (.iadd, 1) := by decide +kernel
theorem dX8_mark_159 : decode cX8_mark 159 = .ok (.ireturn, 1) := by decide +kernel
theorem dX8_mark_160 : decode cX8_mark 160 = .ok (.aload_n 0, 1) := by decide +kernel
theorem dX8_mark_161 : decode cX8_mark 161 = .ok (.dup, 1) := by decide +kernel
theorem dX8_mark_162 : decode cX8_mark 162 = .ok (.getfield 199, 3) := by decide +kernel
theorem dX8_mark_165 : decode cX8_mark 165 = .ok (.ldc2_w 211, 3) := by decide +kernel
theorem dX8_mark_168 : decode cX8_mark 168 = .ok (.ladd, 1) := by decide +kernel
theorem dX8_mark_169 : decode cX8_mark 169 = .ok (.putfield 199, 3) := by decide +kernel
theorem dX8_mark_172 : decode cX8_mark 172 = .ok (.iload_n 3, 1) := by decide +kernel
theorem dX8_mark_173 : decode cX8_mark 173 = .ok (.aload_n 0, 1) := by decide +kernel
theorem dX8_mark_174 : decode cX8_mark 174 = .ok (.getfield 23, 3) := by decide +kernel
theorem dX8_mark_177 : decode cX8_mark 177 = .ok (.iconst 0, 1) := by decide +kernel
theorem dX8_mark_178 : decode cX8_mark 178 = .ok (.iaload, 1) := by decide +kernel
theorem dX8_mark_179 : decode cX8_mark 179 = .ok (.iadd, 1) := by decide +kernel
theorem dX8_mark_180 : decode cX8_mark 180 = .ok (.ireturn, 1) := by decide +kernel
theorem dX8_mark_181 : decode cX8_mark 181 = .ok (.aload_n 0, 1) := by decide +kernel
theorem dX8_mark_182 : decode cX8_mark 182 = .ok (.dup, 1) := by decide +kernel
theorem dX8_mark_183 : decode cX8_mark 183 = .ok (.getfield 199, 3) := by decide +kernel
theorem dX8_mark_186 : decode cX8_mark 186 = .ok (.lconst 1, 1) := by decide +kernel
theorem dX8_mark_187 : decode cX8_mark 187 = .ok (.ladd, 1) := by decide +kernel
theorem dX8_mark_188 : decode cX8_mark 188 = .ok (.putfield 199, 3) := by decide +kernel
theorem dX8_mark_191 : decode cX8_mark 191 = .ok (.iload_n 3, 1) := by decide +kernel
theorem dX8_mark_192 : decode cX8_mark 192 = .ok (.ireturn, 1) := by decide +kernel
theorem dX8_keep_0 : decode cX8_keep 0 = .ok (.iload_n 1, 1) := by decide +kernel
theorem dX8_keep_1 : decode cX8_keep 1 = .ok (.iconst 0, 1) := by decide +kernel
theorem dX8_keep_2 : decode cX8_keep 2 = .ok (.iconst 1, 1) := by decide +kernel
theorem dX8_keep_3 : decode cX8_keep 3 = .ok (.invokestatic 60, 3) := by decide +kernel
theorem dX8_keep_6 : decode cX8_keep 6 = .ok (.ifCond .ne 5, 3) := by decide +kernel
theorem dX8_keep_9 : decode cX8_keep 9 = .ok (.iconst (-1), 1) := by decide +kernel
theorem dX8_keep_10 : decode cX8_keep 10 = .ok (.ireturn, 1) := by decide +kernel
theorem dX8_keep_11 : decode cX8_keep 11 = .ok (.iconst 0, 1) := by decide +kernel
theorem dX8_keep_12 : decode cX8_keep 12 = .ok (.istore_n 2, 1) := by decide +kernel
theorem dX8_keep_13 : decode cX8_keep 13 = .ok (.iload_n 2, 1) := by decide +kernel
theorem dX8_keep_14 : decode cX8_keep 14 = .ok (.sipush 1233, 3) := by decide +kernel
theorem dX8_keep_17 : decode cX8_keep 17 = .ok (.if_icmp .ge 27, 3) := by decide +kernel
theorem dX8_keep_20 : decode cX8_keep 20 = .ok (.aload_n 0, 1) := by decide +kernel
theorem dX8_keep_21 : decode cX8_keep 21 = .ok (.getfield 26, 3) := by decide +kernel
theorem dX8_keep_24 : decode cX8_keep 24 = .ok (.sipush 1233, 3) := by decide +kernel
theorem dX8_keep_27 : decode cX8_keep 27 = .ok (.iload_n 1, 1) := by decide +kernel
theorem dX8_keep_28 : decode cX8_keep 28 = .ok (.imul, 1) := by decide +kernel
theorem dX8_keep_29 : decode cX8_keep 29 = .ok (.iload_n 2, 1) := by decide +kernel
theorem dX8_keep_30 : decode cX8_keep 30 = .ok (.iadd, 1) := by decide +kernel
theorem dX8_keep_31 : decode cX8_keep 31 = .ok (.aload_n 0, 1) := by decide +kernel
theorem dX8_keep_32 : decode cX8_keep 32 = .ok (.getfield 23, 3) := by decide +kernel
theorem dX8_keep_35 : decode cX8_keep 35 = .ok (.iload_n 2, 1) := by decide +kernel
theorem dX8_keep_36 : decode cX8_keep 36 = .ok (.iaload, 1) := by decide +kernel
theorem dX8_keep_37 : decode cX8_keep 37 = .ok (.iastore, 1) := by decide +kernel
theorem dX8_keep_38 : decode cX8_keep 38 = .ok (.iinc 2 1, 3) := by decide +kernel
theorem dX8_keep_41 : decode cX8_keep 41 = .ok (.goto (-28), 3) := by decide +kernel
theorem dX8_keep_44 : decode cX8_keep 44 = .ok (.aload_n 0, 1) := by decide +kernel
theorem dX8_keep_45 : decode cX8_keep 45 = .ok (.getfield 29, 3) := by decide +kernel
theorem dX8_keep_48 : decode cX8_keep 48 = .ok (.iload_n 1, 1) := by decide +kernel
theorem dX8_keep_49 : decode cX8_keep 49 = .ok (.iconst 1, 1) := by decide +kernel
theorem dX8_keep_50 : decode cX8_keep 50 = .ok (.bastore, 1) := by decide +kernel
theorem dX8_keep_51 : decode cX8_keep 51 = .ok (.aload_n 0, 1) := by decide +kernel
theorem dX8_keep_52 : decode cX8_keep 52 = .ok (.getfield 23, 3) := by decide +kernel
theorem dX8_keep_55 : decode cX8_keep 55 = .ok (.iconst 0, 1) := by decide +kernel
theorem dX8_keep_56 : decode cX8_keep 56 = .ok (.iaload, 1) := by decide +kernel
theorem dX8_keep_57 : decode cX8_keep 57 = .ok (.ireturn, 1) := by decide +kernel
theorem dX8_back_0 : decode cX8_back 0 = .ok (.iload_n 1, 1) := by decide +kernel
theorem dX8_back_1 : decode cX8_back 1 = .ok (.iconst 0, 1) := by decide +kernel
theorem dX8_back_2 : decode cX8_back 2 = .ok (.iconst 1, 1) := by decide +kernel
theorem dX8_back_3 : decode cX8_back 3 = .ok (.invokestatic 60, 3) := by decide +kernel
theorem dX8_back_6 : decode cX8_back 6 = .ok (.ifCond .ne 5, 3) := by decide +kernel
theorem dX8_back_9 : decode cX8_back 9 = .ok (.iconst (-1), 1) := by decide +kernel
theorem dX8_back_10 : decode cX8_back 10 = .ok (.ireturn, 1) := by decide +kernel
theorem dX8_back_11 : decode cX8_back 11 = .ok (.aload_n 0, 1) := by decide +kernel
theorem dX8_back_12 : decode cX8_back 12 = .ok (.getfield 29, 3) := by decide +kernel
theorem dX8_back_15 : decode cX8_back 15 = .ok (.iload_n 1, 1) := by decide +kernel
theorem dX8_back_16 : decode cX8_back 16 = .ok (.baload, 1) := by decide +kernel
theorem dX8_back_17 : decode cX8_back 17 = .ok (.ifCond .ne 6, 3) := by decide +kernel
theorem dX8_back_20 : decode cX8_back 20 = .ok (.bipush (-2), 2) := by decide +kernel
theorem dX8_back_22 : decode cX8_back 22 = .ok (.ireturn, 1) := by decide +kernel
theorem dX8_back_23 : decode cX8_back 23 = .ok (.iconst 0, 1) := by decide +kernel
theorem dX8_back_24 : decode cX8_back 24 = .ok (.istore_n 2, 1) := by decide +kernel
theorem dX8_back_25 : decode cX8_back 25 = .ok (.iload_n 2, 1) := by decide +kernel
theorem dX8_back_26 : decode cX8_back 26 = .ok (.sipush 1233, 3) := by decide +kernel
theorem dX8_back_29 : decode cX8_back 29 = .ok (.if_icmp .ge 27, 3) := by decide +kernel
theorem dX8_back_32 : decode cX8_back 32 = .ok (.aload_n 0, 1) := by decide +kernel
theorem dX8_back_33 : decode cX8_back 33 = .ok (.getfield 23, 3) := by decide +kernel
theorem dX8_back_36 : decode cX8_back 36 = .ok (.iload_n 2, 1) := by decide +kernel
theorem dX8_back_37 : decode cX8_back 37 = .ok (.aload_n 0, 1) := by decide +kernel
theorem dX8_back_38 : decode cX8_back 38 = .ok (.getfield 26, 3) := by decide +kernel
theorem dX8_back_41 : decode cX8_back 41 = .ok (.sipush 1233, 3) := by decide +kernel
theorem dX8_back_44 : decode cX8_back 44 = .ok (.iload_n 1, 1) := by decide +kernel
theorem dX8_back_45 : decode cX8_back 45 = .ok (.imul, 1) := by decide +kernel
theorem dX8_back_46 : decode cX8_back 46 = .ok (.iload_n 2, 1) := by decide +kernel
theorem dX8_back_47 : decode cX8_back 47 = .ok (.iadd, 1) := by decide +kernel
theorem dX8_back_48 : decode cX8_back 48 = .ok (.iaload, 1) := by decide +kernel
theorem dX8_back_49 : decode cX8_back 49 = .ok (.iastore, 1) := by decide +kernel
theorem dX8_back_50 : decode cX8_back 50 = .ok (.iinc 2 1, 3) := by decide +kernel
theorem dX8_back_53 : decode cX8_back 53 = .ok (.goto (-28), 3) := by decide +kernel
theorem dX8_back_56 : decode cX8_back 56 = .ok (.aload_n 0, 1) := by decide +kernel
theorem dX8_back_57 : decode cX8_back 57 = .ok (.getfield 23, 3) := by decide +kernel
theorem dX8_back_60 : decode cX8_back 60 = .ok (.iconst 0, 1) := by decide +kernel
theorem dX8_back_61 : decode cX8_back 61 = .ok (.iaload, 1) := by decide +kernel
theorem dX8_back_62 : decode cX8_back 62 = .ok (.ireturn, 1) := by decide +kernel
theorem dX8_count_0 : decode cX8_count 0 = .ok (.iload_n 1, 1) := by decide +kernel
theorem dX8_count_1 : decode cX8_count 1 = .ok (.tableswitch 72 0 5 #[39, 44, 49, 54, 59, 67], 39) := by decide +kernel
theorem dX8_count_40 : decode cX8_count 40 = .ok (.aload_n 0, 1) := by decide +kernel
theorem dX8_count_41 : decode cX8_count 41 = .ok (.getfield 57, 3) := by decide +kernel
theorem dX8_count_44 : decode cX8_count 44 = .ok (.ireturn, 1) := by decide +kernel
theorem dX8_count_45 : decode cX8_count 45 = .ok (.aload_n 0, 1) := by decide +kernel
theorem dX8_count_46 : decode cX8_count 46 = .ok (.getfield 19, 3) := by decide +kernel
theorem dX8_count_49 : decode cX8_count 49 = .ok (.ireturn, 1) := by decide +kernel
theorem dX8_count_50 : decode cX8_count 50 = .ok (.aload_n 0, 1) := by decide +kernel
theorem dX8_count_51 : decode cX8_count 51 = .ok (.getfield 125, 3) := by decide +kernel
theorem dX8_count_54 : decode cX8_count 54 = .ok (.ireturn, 1) := by decide +kernel
theorem dX8_count_55 : decode cX8_count 55 = .ok (.aload_n 0, 1) := by decide +kernel
theorem dX8_count_56 : decode cX8_count 56 = .ok (.getfield 128, 3) := by decide +kernel
theorem dX8_count_59 : decode cX8_count 59 = .ok (.ireturn, 1) := by decide +kernel
theorem dX8_count_60 : decode cX8_count 60 = .ok (.aload_n 0, 1) := by decide +kernel
theorem dX8_count_61 : decode cX8_count 61 = .ok (.getfield 23, 3) := by decide +kernel
theorem dX8_count_64 : decode cX8_count 64 = .ok (.bipush 112, 2) := by decide +kernel
theorem dX8_count_66 : decode cX8_count 66 = .ok (.iaload, 1) := by decide +kernel
theorem dX8_count_67 : decode cX8_count 67 = .ok (.ireturn, 1) := by decide +kernel
theorem dX8_count_68 : decode cX8_count 68 = .ok (.aload_n 0, 1) := by decide +kernel
theorem dX8_count_69 : decode cX8_count 69 = .ok (.getfield 64, 3) := by decide +kernel
theorem dX8_count_72 : decode cX8_count 72 = .ok (.ireturn, 1) := by decide +kernel
theorem dX8_count_73 : decode cX8_count 73 = .ok (.iconst (-1), 1) := by decide +kernel
theorem dX8_count_74 : decode cX8_count 74 = .ok (.ireturn, 1) := by decide +kernel
theorem dX8_trace_0 : decode cX8_trace 0 = .ok (.aload_n 0, 1) := by decide +kernel
theorem dX8_trace_1 : decode cX8_trace 1 = .ok (.getfield 199, 3) := by decide +kernel
theorem dX8_trace_4 : decode cX8_trace 4 = .ok (.lreturn, 1) := by decide +kernel
theorem dJ6_bitCount_0f7a4_0 : decode cJ6_bitCount_0f7a4 0 = .ok (.iload_n 0, 1) := by decide +kernel
theorem dJ6_bitCount_0f7a4_1 : decode cJ6_bitCount_0f7a4 1 = .ok (.iload_n 0, 1) := by decide +kernel
theorem dJ6_bitCount_0f7a4_2 : decode cJ6_bitCount_0f7a4 2 = .ok (.iconst 1, 1) := by decide +kernel
theorem dJ6_bitCount_0f7a4_3 : decode cJ6_bitCount_0f7a4 3 = .ok (.iushr, 1) := by decide +kernel
theorem dJ6_bitCount_0f7a4_4 : decode cJ6_bitCount_0f7a4 4 = .ok (.ldc_w 265, 3) := by decide +kernel
theorem dJ6_bitCount_0f7a4_7 : decode cJ6_bitCount_0f7a4 7 = .ok (.iand, 1) := by decide +kernel
theorem dJ6_bitCount_0f7a4_8 : decode cJ6_bitCount_0f7a4 8 = .ok (.isub, 1) := by decide +kernel
theorem dJ6_bitCount_0f7a4_9 : decode cJ6_bitCount_0f7a4 9 = .ok (.istore_n 0, 1) := by decide +kernel
theorem dJ6_bitCount_0f7a4_10 : decode cJ6_bitCount_0f7a4 10 = .ok (.iload_n 0, 1) := by decide +kernel
theorem dJ6_bitCount_0f7a4_11 : decode cJ6_bitCount_0f7a4 11 = .ok (.ldc_w 266, 3) := by decide +kernel
theorem dJ6_bitCount_0f7a4_14 : decode cJ6_bitCount_0f7a4 14 = .ok (.iand, 1) := by decide +kernel
theorem dJ6_bitCount_0f7a4_15 : decode cJ6_bitCount_0f7a4 15 = .ok (.iload_n 0, 1) := by decide +kernel
theorem dJ6_bitCount_0f7a4_16 : decode cJ6_bitCount_0f7a4 16 = .ok (.iconst 2, 1) := by decide +kernel
theorem dJ6_bitCount_0f7a4_17 : decode cJ6_bitCount_0f7a4 17 = .ok (.iushr, 1) := by decide +kernel
theorem dJ6_bitCount_0f7a4_18 : decode cJ6_bitCount_0f7a4 18 = .ok (.ldc_w 266, 3) := by decide +kernel
theorem dJ6_bitCount_0f7a4_21 : decode cJ6_bitCount_0f7a4 21 = .ok (.iand, 1) := by decide +kernel
theorem dJ6_bitCount_0f7a4_22 : decode cJ6_bitCount_0f7a4 22 = .ok (.iadd, 1) := by decide +kernel
theorem dJ6_bitCount_0f7a4_23 : decode cJ6_bitCount_0f7a4 23 = .ok (.istore_n 0, 1) := by decide +kernel
theorem dJ6_bitCount_0f7a4_24 : decode cJ6_bitCount_0f7a4 24 = .ok (.iload_n 0, 1) := by decide +kernel
theorem dJ6_bitCount_0f7a4_25 : decode cJ6_bitCount_0f7a4 25 = .ok (.iload_n 0, 1) := by decide +kernel
theorem dJ6_bitCount_0f7a4_26 : decode cJ6_bitCount_0f7a4 26 = .ok (.iconst 4, 1) := by decide +kernel
theorem dJ6_bitCount_0f7a4_27 : decode cJ6_bitCount_0f7a4 27 = .ok (.iushr, 1) := by decide +kernel
theorem dJ6_bitCount_0f7a4_28 : decode cJ6_bitCount_0f7a4 28 = .ok (.iadd, 1) := by decide +kernel
theorem dJ6_bitCount_0f7a4_29 : decode cJ6_bitCount_0f7a4 29 = .ok (.ldc_w 267, 3) := by decide +kernel
theorem dJ6_bitCount_0f7a4_32 : decode cJ6_bitCount_0f7a4 32 = .ok (.iand, 1) := by decide +kernel
theorem dJ6_bitCount_0f7a4_33 : decode cJ6_bitCount_0f7a4 33 = .ok (.istore_n 0, 1) := by decide +kernel
theorem dJ6_bitCount_0f7a4_34 : decode cJ6_bitCount_0f7a4 34 = .ok (.iload_n 0, 1) := by decide +kernel
theorem dJ6_bitCount_0f7a4_35 : decode cJ6_bitCount_0f7a4 35 = .ok (.iload_n 0, 1) := by decide +kernel
theorem dJ6_bitCount_0f7a4_36 : decode cJ6_bitCount_0f7a4 36 = .ok (.bipush 8, 2) := by decide +kernel
theorem dJ6_bitCount_0f7a4_38 : decode cJ6_bitCount_0f7a4 38 = .ok (.iushr, 1) := by decide +kernel
theorem dJ6_bitCount_0f7a4_39 : decode cJ6_bitCount_0f7a4 39 = .ok (.iadd, 1) := by decide +kernel
theorem dJ6_bitCount_0f7a4_40 : decode cJ6_bitCount_0f7a4 40 = .ok (.istore_n 0, 1) := by decide +kernel
theorem dJ6_bitCount_0f7a4_41 : decode cJ6_bitCount_0f7a4 41 = .ok (.iload_n 0, 1) := by decide +kernel
theorem dJ6_bitCount_0f7a4_42 : decode cJ6_bitCount_0f7a4 42 = .ok (.iload_n 0, 1) := by decide +kernel
theorem dJ6_bitCount_0f7a4_43 : decode cJ6_bitCount_0f7a4 43 = .ok (.bipush 16, 2) := by decide +kernel
theorem dJ6_bitCount_0f7a4_45 : decode cJ6_bitCount_0f7a4 45 = .ok (.iushr, 1) := by decide +kernel
theorem dJ6_bitCount_0f7a4_46 : decode cJ6_bitCount_0f7a4 46 = .ok (.iadd, 1) := by decide +kernel
theorem dJ6_bitCount_0f7a4_47 : decode cJ6_bitCount_0f7a4 47 = .ok (.istore_n 0, 1) := by decide +kernel
theorem dJ6_bitCount_0f7a4_48 : decode cJ6_bitCount_0f7a4 48 = .ok (.iload_n 0, 1) := by decide +kernel
theorem dJ6_bitCount_0f7a4_49 : decode cJ6_bitCount_0f7a4 49 = .ok (.bipush 63, 2) := by decide +kernel
theorem dJ6_bitCount_0f7a4_51 : decode cJ6_bitCount_0f7a4 51 = .ok (.iand, 1) := by decide +kernel
theorem dJ6_bitCount_0f7a4_52 : decode cJ6_bitCount_0f7a4 52 = .ok (.ireturn, 1) := by decide +kernel
theorem dJ9_max_7cf53_0 : decode cJ9_max_7cf53 0 = .ok (.iload_n 0, 1) := by decide +kernel
theorem dJ9_max_7cf53_1 : decode cJ9_max_7cf53 1 = .ok (.iload_n 1, 1) := by decide +kernel
theorem dJ9_max_7cf53_2 : decode cJ9_max_7cf53 2 = .ok (.if_icmp .lt 7, 3) := by decide +kernel
theorem dJ9_max_7cf53_5 : decode cJ9_max_7cf53 5 = .ok (.iload_n 0, 1) := by decide +kernel
theorem dJ9_max_7cf53_6 : decode cJ9_max_7cf53 6 = .ok (.goto 4, 3) := by decide +kernel
theorem dJ9_max_7cf53_9 : decode cJ9_max_7cf53 9 = .ok (.iload_n 1, 1) := by decide +kernel
theorem dJ9_max_7cf53_10 : decode cJ9_max_7cf53 10 = .ok (.ireturn, 1) := by decide +kernel
theorem dJ9_min_7cf53_0 : decode cJ9_min_7cf53 0 = .ok (.iload_n 0, 1) := by decide +kernel
theorem dJ9_min_7cf53_1 : decode cJ9_min_7cf53 1 = .ok (.iload_n 1, 1) := by decide +kernel
theorem dJ9_min_7cf53_2 : decode cJ9_min_7cf53 2 = .ok (.if_icmp .gt 7, 3) := by decide +kernel
theorem dJ9_min_7cf53_5 : decode cJ9_min_7cf53 5 = .ok (.iload_n 0, 1) := by decide +kernel
theorem dJ9_min_7cf53_6 : decode cJ9_min_7cf53 6 = .ok (.goto 4, 3) := by decide +kernel
theorem dJ9_min_7cf53_9 : decode cJ9_min_7cf53 9 = .ok (.iload_n 1, 1) := by decide +kernel
theorem dJ9_min_7cf53_10 : decode cJ9_min_7cf53 10 = .ok (.ireturn, 1) := by decide +kernel
theorem dJ7_fill_53178_0 : decode cJ7_fill_53178 0 = .ok (.iconst 0, 1) := by decide +kernel
theorem dJ7_fill_53178_1 : decode cJ7_fill_53178 1 = .ok (.istore_n 2, 1) := by decide +kernel
theorem dJ7_fill_53178_2 : decode cJ7_fill_53178 2 = .ok (.aload_n 0, 1) := by decide +kernel
theorem dJ7_fill_53178_3 : decode cJ7_fill_53178 3 = .ok (.arraylength, 1) := by decide +kernel
theorem dJ7_fill_53178_4 : decode cJ7_fill_53178 4 = .ok (.istore_n 3, 1) := by decide +kernel
theorem dJ7_fill_53178_5 : decode cJ7_fill_53178 5 = .ok (.iload_n 2, 1) := by decide +kernel
theorem dJ7_fill_53178_6 : decode cJ7_fill_53178 6 = .ok (.iload_n 3, 1) := by decide +kernel
theorem dJ7_fill_53178_7 : decode cJ7_fill_53178 7 = .ok (.if_icmp .ge 13, 3) := by decide +kernel
theorem dJ7_fill_53178_10 : decode cJ7_fill_53178 10 = .ok (.aload_n 0, 1) := by decide +kernel
theorem dJ7_fill_53178_11 : decode cJ7_fill_53178 11 = .ok (.iload_n 2, 1) := by decide +kernel
theorem dJ7_fill_53178_12 : decode cJ7_fill_53178 12 = .ok (.iload_n 1, 1) := by decide +kernel
theorem dJ7_fill_53178_13 : decode cJ7_fill_53178 13 = .ok (.iastore, 1) := by decide +kernel
theorem dJ7_fill_53178_14 : decode cJ7_fill_53178 14 = .ok (.iinc 2 1, 3) := by decide +kernel
theorem dJ7_fill_53178_17 : decode cJ7_fill_53178 17 = .ok (.goto (-12), 3) := by decide +kernel
theorem dJ7_fill_53178_20 : decode cJ7_fill_53178 20 = .ok (.return_, 1) := by decide +kernel
theorem dL_law_0 : decode cL_law 0 = .ok (.new 7, 3) := by decide +kernel
theorem dL_law_3 : decode cL_law 3 = .ok (.dup, 1) := by decide +kernel
theorem dL_law_4 : decode cL_law 4 = .ok (.invokespecial 9, 3) := by decide +kernel
theorem dL_law_7 : decode cL_law 7 = .ok (.astore_n 1, 1) := by decide +kernel
theorem dL_law_8 : decode cL_law 8 = .ok (.new 10, 3) := by decide +kernel
theorem dL_law_11 : decode cL_law 11 = .ok (.dup, 1) := by decide +kernel
theorem dL_law_12 : decode cL_law 12 = .ok (.invokespecial 12, 3) := by decide +kernel
theorem dL_law_15 : decode cL_law 15 = .ok (.astore_n 2, 1) := by decide +kernel
theorem dL_law_16 : decode cL_law 16 = .ok (.iconst 0, 1) := by decide +kernel
theorem dL_law_17 : decode cL_law 17 = .ok (.istore_n 3, 1) := by decide +kernel
theorem dL_law_18 : decode cL_law 18 = .ok (.iload_n 3, 1) := by decide +kernel
theorem dL_law_19 : decode cL_law 19 = .ok (.aload_n 0, 1) := by decide +kernel
theorem dL_law_20 : decode cL_law 20 = .ok (.arraylength, 1) := by decide +kernel
theorem dL_law_21 : decode cL_law 21 = .ok (.iconst 5, 1) := by decide +kernel
theorem dL_law_22 : decode cL_law 22 = .ok (.isub, 1) := by decide +kernel
theorem dL_law_23 : decode cL_law 23 = .ok (.if_icmp .gt 935, 3) := by decide +kernel
theorem dL_law_26 : decode cL_law 26 = .ok (.aload_n 0, 1) := by decide +kernel
theorem dL_law_27 : decode cL_law 27 = .ok (.iload_n 3, 1) := by decide +kernel
theorem dL_law_28 : decode cL_law 28 = .ok (.iaload, 1) := by decide +kernel
theorem dL_law_29 : decode cL_law 29 = .ok (.bipush 31, 2) := by decide +kernel
theorem dL_law_31 : decode cL_law 31 = .ok (.iand, 1) := by decide +kernel
theorem dL_law_32 : decode cL_law 32 = .ok (.tableswitch 920 0 28 #[132, 155, 168, 181, 214, 247, 280, 313, 336, 369, 402, 425, 448, 461, 484, 517, 570, 613, 636, 689, 712, 735, 768, 791, 804, 837, 860, 883, 906], 132) := by decide +kernel
theorem dL_law_164 : decode cL_law 164 = .ok (.aload_n 1, 1) := by decide +kernel
theorem dL_law_165 : decode cL_law 165 = .ok (.aload_n 0, 1) := by decide +kernel
theorem dL_law_166 : decode cL_law 166 = .ok (.iload_n 3, 1) := by decide +kernel
theorem dL_law_167 : decode cL_law 167 = .ok (.iconst 1, 1) := by decide +kernel
theorem dL_law_168 : decode cL_law 168 = .ok (.iadd, 1) := by decide +kernel
theorem dL_law_169 : decode cL_law 169 = .ok (.iaload, 1) := by decide +kernel
theorem dL_law_170 : decode cL_law 170 = .ok (.invokevirtual 13, 3) := by decide +kernel
theorem dL_law_173 : decode cL_law 173 = .ok (.aload_n 2, 1) := by decide +kernel
theorem dL_law_174 : decode cL_law 174 = .ok (.aload_n 0, 1) := by decide +kernel
theorem dL_law_175 : decode cL_law 175 = .ok (.iload_n 3, 1) := by decide +kernel
theorem dL_law_176 : decode cL_law 176 = .ok (.iconst 1, 1) := by decide +kernel
theorem dL_law_177 : decode cL_law 177 = .ok (.iadd, 1) := by decide +kernel
theorem dL_law_178 : decode cL_law 178 = .ok (.iaload, 1) := by decide +kernel
theorem dL_law_179 : decode cL_law 179 = .ok (.invokevirtual 17, 3) := by decide +kernel
theorem dL_law_182 : decode cL_law 182 = .ok (.if_icmp .eq 770, 3) := by decide +kernel
theorem dL_law_185 : decode cL_law 185 = .ok (.iconst 0, 1) := by decide +kernel
theorem dL_law_186 : decode cL_law 186 = .ok (.ireturn, 1) := by decide +kernel
theorem dL_law_187 : decode cL_law 187 = .ok (.aload_n 1, 1) := by decide +kernel
theorem dL_law_188 : decode cL_law 188 = .ok (.invokevirtual 18, 3) := by decide +kernel
theorem dL_law_191 : decode cL_law 191 = .ok (.aload_n 2, 1) := by decide +kernel
theorem dL_law_192 : decode cL_law 192 = .ok (.invokevirtual 22, 3) := by decide +kernel
theorem dL_law_195 : decode cL_law 195 = .ok (.if_icmp .eq 757, 3) := by decide +kernel
theorem dL_law_198 : decode cL_law 198 = .ok (.iconst 0, 1) := by decide +kernel
theorem dL_law_199 : decode cL_law 199 = .ok (.ireturn, 1) := by decide +kernel
theorem dL_law_200 : decode cL_law 200 = .ok (.aload_n 1, 1) := by decide +kernel
theorem dL_law_201 : decode cL_law 201 = .ok (.invokevirtual 23, 3) := by decide +kernel
theorem dL_law_204 : decode cL_law 204 = .ok (.aload_n 2, 1) := by decide +kernel
theorem dL_law_205 : decode cL_law 205 = .ok (.invokevirtual 26, 3) := by decide +kernel
theorem dL_law_208 : decode cL_law 208 = .ok (.if_icmp .eq 744, 3) := by decide +kernel
theorem dL_law_211 : decode cL_law 211 = .ok (.iconst 0, 1) := by decide +kernel
theorem dL_law_212 : decode cL_law 212 = .ok (.ireturn, 1) := by decide +kernel
theorem dL_law_213 : decode cL_law 213 = .ok (.aload_n 1, 1) := by decide +kernel
theorem dL_law_214 : decode cL_law 214 = .ok (.aload_n 0, 1) := by decide +kernel
theorem dL_law_215 : decode cL_law 215 = .ok (.iload_n 3, 1) := by decide +kernel
theorem dL_law_216 : decode cL_law 216 = .ok (.iconst 1, 1) := by decide +kernel
theorem dL_law_217 : decode cL_law 217 = .ok (.iadd, 1) := by decide +kernel
theorem dL_law_218 : decode cL_law 218 = .ok (.iaload, 1) := by decide +kernel
theorem dL_law_219 : decode cL_law 219 = .ok (.aload_n 0, 1) := by decide +kernel
theorem dL_law_220 : decode cL_law 220 = .ok (.iload_n 3, 1) := by decide +kernel
theorem dL_law_221 : decode cL_law 221 = .ok (.iconst 2, 1) := by decide +kernel
theorem dL_law_222 : decode cL_law 222 = .ok (.iadd, 1) := by decide +kernel
theorem dL_law_223 : decode cL_law 223 = .ok (.iaload, 1) := by decide +kernel
theorem dL_law_224 : decode cL_law 224 = .ok (.invokevirtual 27, 3) := by decide +kernel
theorem dL_law_227 : decode cL_law 227 = .ok (.aload_n 2, 1) := by decide +kernel
theorem dL_law_228 : decode cL_law 228 = .ok (.aload_n 0, 1) := by decide +kernel
theorem dL_law_229 : decode cL_law 229 = .ok (.iload_n 3, 1) := by decide +kernel
theorem dL_law_230 : decode cL_law 230 = .ok (.iconst 1, 1) := by decide +kernel
theorem dL_law_231 : decode cL_law 231 = .ok (.iadd, 1) := by decide +kernel
theorem dL_law_232 : decode cL_law 232 = .ok (.iaload, 1) := by decide +kernel
theorem dL_law_233 : decode cL_law 233 = .ok (.aload_n 0, 1) := by decide +kernel
theorem dL_law_234 : decode cL_law 234 = .ok (.iload_n 3, 1) := by decide +kernel
theorem dL_law_235 : decode cL_law 235 = .ok (.iconst 2, 1) := by decide +kernel
theorem dL_law_236 : decode cL_law 236 = .ok (.iadd, 1) := by decide +kernel
theorem dL_law_237 : decode cL_law 237 = .ok (.iaload, 1) := by decide +kernel
theorem dL_law_238 : decode cL_law 238 = .ok (.invokevirtual 31, 3) := by decide +kernel
theorem dL_law_241 : decode cL_law 241 = .ok (.if_icmp .eq 711, 3) := by decide +kernel
theorem dL_law_244 : decode cL_law 244 = .ok (.iconst 0, 1) := by decide +kernel
theorem dL_law_245 : decode cL_law 245 = .ok (.ireturn, 1) := by decide +kernel
theorem dL_law_246 : decode cL_law 246 = .ok (.aload_n 1, 1) := by decide +kernel
theorem dL_law_247 : decode cL_law 247 = .ok (.aload_n 0, 1) := by decide +kernel
theorem dL_law_248 : decode cL_law 248 = .ok (.iload_n 3, 1) := by decide +kernel
theorem dL_law_249 : decode cL_law 249 = .ok (.iconst 1, 1) := by decide +kernel
theorem dL_law_250 : decode cL_law 250 = .ok (.iadd, 1) := by decide +kernel
theorem dL_law_251 : decode cL_law 251 = .ok (.iaload, 1) := by decide +kernel
theorem dL_law_252 : decode cL_law 252 = .ok (.aload_n 0, 1) := by decide +kernel
theorem dL_law_253 : decode cL_law 253 = .ok (.iload_n 3, 1) := by decide +kernel
theorem dL_law_254 : decode cL_law 254 = .ok (.iconst 2, 1) := by decide +kernel
theorem dL_law_255 : decode cL_law 255 = .ok (.iadd, 1) := by decide +kernel
theorem dL_law_256 : decode cL_law 256 = .ok (.iaload, 1) := by decide +kernel
theorem dL_law_257 : decode cL_law 257 = .ok (.invokevirtual 32, 3) := by decide +kernel
theorem dL_law_260 : decode cL_law 260 = .ok (.aload_n 2, 1) := by decide +kernel
theorem dL_law_261 : decode cL_law 261 = .ok (.aload_n 0, 1) := by decide +kernel
theorem dL_law_262 : decode cL_law 262 = .ok (.iload_n 3, 1) := by decide +kernel
theorem dL_law_263 : decode cL_law 263 = .ok (.iconst 1, 1) := by decide +kernel
theorem dL_law_264 : decode cL_law 264 = .ok (.iadd, 1) := by decide +kernel
theorem dL_law_265 : decode cL_law 265 = .ok (.iaload, 1) := by decide +kernel
theorem dL_law_266 : decode cL_law 266 = .ok (.aload_n 0, 1) := by decide +kernel
theorem dL_law_267 : decode cL_law 267 = .ok (.iload_n 3, 1) := by decide +kernel
theorem dL_law_268 : decode cL_law 268 = .ok (.iconst 2, 1) := by decide +kernel
theorem dL_law_269 : decode cL_law 269 = .ok (.iadd, 1) := by decide +kernel
theorem dL_law_270 : decode cL_law 270 = .ok (.iaload, 1) := by decide +kernel
theorem dL_law_271 : decode cL_law 271 = .ok (.invokevirtual 35, 3) := by decide +kernel
theorem dL_law_274 : decode cL_law 274 = .ok (.if_icmp .eq 678, 3) := by decide +kernel
theorem dL_law_277 : decode cL_law 277 = .ok (.iconst 0, 1) := by decide +kernel
theorem dL_law_278 : decode cL_law 278 = .ok (.ireturn, 1) := by decide +kernel
theorem dL_law_279 : decode cL_law 279 = .ok (.aload_n 1, 1) := by decide +kernel
theorem dL_law_280 : decode cL_law 280 = .ok (.aload_n 0, 1) := by decide +kernel
theorem dL_law_281 : decode cL_law 281 = .ok (.iload_n 3, 1) := by decide +kernel
theorem dL_law_282 : decode cL_law 282 = .ok (.iconst 1, 1) := by decide +kernel
theorem dL_law_283 : decode cL_law 283 = .ok (.iadd, 1) := by decide +kernel
theorem dL_law_284 : decode cL_law 284 = .ok (.iaload, 1) := by decide +kernel
theorem dL_law_285 : decode cL_law 285 = .ok (.aload_n 0, 1) := by decide +kernel
theorem dL_law_286 : decode cL_law 286 = .ok (.iload_n 3, 1) := by decide +kernel
theorem dL_law_287 : decode cL_law 287 = .ok (.iconst 2, 1) := by decide +kernel
theorem dL_law_288 : decode cL_law 288 = .ok (.iadd, 1) := by decide +kernel
theorem dL_law_289 : decode cL_law 289 = .ok (.iaload, 1) := by decide +kernel
theorem dL_law_290 : decode cL_law 290 = .ok (.invokevirtual 36, 3) := by decide +kernel
theorem dL_law_293 : decode cL_law 293 = .ok (.aload_n 2, 1) := by decide +kernel
theorem dL_law_294 : decode cL_law 294 = .ok (.aload_n 0, 1) := by decide +kernel
theorem dL_law_295 : decode cL_law 295 = .ok (.iload_n 3, 1) := by decide +kernel
theorem dL_law_296 : decode cL_law 296 = .ok (.iconst 1, 1) := by decide +kernel
theorem dL_law_297 : decode cL_law 297 = .ok (.iadd, 1) := by decide +kernel
theorem dL_law_298 : decode cL_law 298 = .ok (.iaload, 1) := by decide +kernel
theorem dL_law_299 : decode cL_law 299 = .ok (.aload_n 0, 1) := by decide +kernel
theorem dL_law_300 : decode cL_law 300 = .ok (.iload_n 3, 1) := by decide +kernel
theorem dL_law_301 : decode cL_law 301 = .ok (.iconst 2, 1) := by decide +kernel
theorem dL_law_302 : decode cL_law 302 = .ok (.iadd, 1) := by decide +kernel
theorem dL_law_303 : decode cL_law 303 = .ok (.iaload, 1) := by decide +kernel
theorem dL_law_304 : decode cL_law 304 = .ok (.invokevirtual 39, 3) := by decide +kernel
theorem dL_law_307 : decode cL_law 307 = .ok (.if_icmp .eq 645, 3) := by decide +kernel
theorem dL_law_310 : decode cL_law 310 = .ok (.iconst 0, 1) := by decide +kernel
theorem dL_law_311 : decode cL_law 311 = .ok (.ireturn, 1) := by decide +kernel
theorem dL_law_312 : decode cL_law 312 = .ok (.aload_n 1, 1) := by decide +kernel
theorem dL_law_313 : decode cL_law 313 = .ok (.aload_n 0, 1) := by decide +kernel
theorem dL_law_314 : decode cL_law 314 = .ok (.iload_n 3, 1) := by decide +kernel
theorem dL_law_315 : decode cL_law 315 = .ok (.iconst 1, 1) := by decide +kernel
theorem dL_law_316 : decode cL_law 316 = .ok (.iadd, 1) := by decide +kernel
theorem dL_law_317 : decode cL_law 317 = .ok (.iaload, 1) := by decide +kernel
theorem dL_law_318 : decode cL_law 318 = .ok (.aload_n 0, 1) := by decide +kernel
theorem dL_law_319 : decode cL_law 319 = .ok (.iload_n 3, 1) := by decide +kernel
theorem dL_law_320 : decode cL_law 320 = .ok (.iconst 2, 1) := by decide +kernel
theorem dL_law_321 : decode cL_law 321 = .ok (.iadd, 1) := by decide +kernel
theorem dL_law_322 : decode cL_law 322 = .ok (.iaload, 1) := by decide +kernel
theorem dL_law_323 : decode cL_law 323 = .ok (.invokevirtual 40, 3) := by decide +kernel
theorem dL_law_326 : decode cL_law 326 = .ok (.aload_n 2, 1) := by decide +kernel
theorem dL_law_327 : decode cL_law 327 = .ok (.aload_n 0, 1) := by decide +kernel
theorem dL_law_328 : decode cL_law 328 = .ok (.iload_n 3, 1) := by decide +kernel
theorem dL_law_329 : decode cL_law 329 = .ok (.iconst 1, 1) := by decide +kernel
theorem dL_law_330 : decode cL_law 330 = .ok (.iadd, 1) := by decide +kernel
theorem dL_law_331 : decode cL_law 331 = .ok (.iaload, 1) := by decide +kernel
theorem dL_law_332 : decode cL_law 332 = .ok (.aload_n 0, 1) := by decide +kernel
theorem dL_law_333 : decode cL_law 333 = .ok (.iload_n 3, 1) := by decide +kernel
theorem dL_law_334 : decode cL_law 334 = .ok (.iconst 2, 1) := by decide +kernel
theorem dL_law_335 : decode cL_law 335 = .ok (.iadd, 1) := by decide +kernel
theorem dL_law_336 : decode cL_law 336 = .ok (.iaload, 1) := by decide +kernel
theorem dL_law_337 : decode cL_law 337 = .ok (.invokevirtual 43, 3) := by decide +kernel
theorem dL_law_340 : decode cL_law 340 = .ok (.if_icmp .eq 612, 3) := by decide +kernel
theorem dL_law_343 : decode cL_law 343 = .ok (.iconst 0, 1) := by decide +kernel
theorem dL_law_344 : decode cL_law 344 = .ok (.ireturn, 1) := by decide +kernel
theorem dL_law_345 : decode cL_law 345 = .ok (.aload_n 1, 1) := by decide +kernel
theorem dL_law_346 : decode cL_law 346 = .ok (.aload_n 0, 1) := by decide +kernel
theorem dL_law_347 : decode cL_law 347 = .ok (.iload_n 3, 1) := by decide +kernel
theorem dL_law_348 : decode cL_law 348 = .ok (.iconst 1, 1) := by decide +kernel
theorem dL_law_349 : decode cL_law 349 = .ok (.iadd, 1) := by decide +kernel
theorem dL_law_350 : decode cL_law 350 = .ok (.iaload, 1) := by decide +kernel
theorem dL_law_351 : decode cL_law 351 = .ok (.invokevirtual 44, 3) := by decide +kernel
theorem dL_law_354 : decode cL_law 354 = .ok (.aload_n 2, 1) := by decide +kernel
theorem dL_law_355 : decode cL_law 355 = .ok (.aload_n 0, 1) := by decide +kernel
theorem dL_law_356 : decode cL_law 356 = .ok (.iload_n 3, 1) := by decide +kernel
theorem dL_law_357 : decode cL_law 357 = .ok (.iconst 1, 1) := by decide +kernel
theorem dL_law_358 : decode cL_law 358 = .ok (.iadd, 1) := by decide +kernel
theorem dL_law_359 : decode cL_law 359 = .ok (.iaload, 1) := by decide +kernel
theorem dL_law_360 : decode cL_law 360 = .ok (.invokevirtual 47, 3) := by decide +kernel
theorem dL_law_363 : decode cL_law 363 = .ok (.if_icmp .eq 589, 3) := by decide +kernel
theorem dL_law_366 : decode cL_law 366 = .ok (.iconst 0, 1) := by decide +kernel
theorem dL_law_367 : decode cL_law 367 = .ok (.ireturn, 1) := by decide +kernel
theorem dL_law_368 : decode cL_law 368 = .ok (.aload_n 1, 1) := by decide +kernel
theorem dL_law_369 : decode cL_law 369 = .ok (.aload_n 0, 1) := by decide +kernel
theorem dL_law_370 : decode cL_law 370 = .ok (.iload_n 3, 1) := by decide +kernel
theorem dL_law_371 : decode cL_law 371 = .ok (.iconst 1, 1) := by decide +kernel
theorem dL_law_372 : decode cL_law 372 = .ok (.iadd, 1) := by decide +kernel
theorem dL_law_373 : decode cL_law 373 = .ok (.iaload, 1) := by decide +kernel
theorem dL_law_374 : decode cL_law 374 = .ok (.aload_n 0, 1) := by decide +kernel
theorem dL_law_375 : decode cL_law 375 = .ok (.iload_n 3, 1) := by decide +kernel
theorem dL_law_376 : decode cL_law 376 = .ok (.iconst 2, 1) := by decide +kernel
theorem dL_law_377 : decode cL_law 377 = .ok (.iadd, 1) := by decide +kernel
theorem dL_law_378 : decode cL_law 378 = .ok (.iaload, 1) := by decide +kernel
theorem dL_law_379 : decode cL_law 379 = .ok (.invokevirtual 48, 3) := by decide +kernel
theorem dL_law_382 : decode cL_law 382 = .ok (.aload_n 2, 1) := by decide +kernel
theorem dL_law_383 : decode cL_law 383 = .ok (.aload_n 0, 1) := by decide +kernel
theorem dL_law_384 : decode cL_law 384 = .ok (.iload_n 3, 1) := by decide +kernel
theorem dL_law_385 : decode cL_law 385 = .ok (.iconst 1, 1) := by decide +kernel
theorem dL_law_386 : decode cL_law 386 = .ok (.iadd, 1) := by decide +kernel
theorem dL_law_387 : decode cL_law 387 = .ok (.iaload, 1) := by decide +kernel
theorem dL_law_388 : decode cL_law 388 = .ok (.aload_n 0, 1) := by decide +kernel
theorem dL_law_389 : decode cL_law 389 = .ok (.iload_n 3, 1) := by decide +kernel
theorem dL_law_390 : decode cL_law 390 = .ok (.iconst 2, 1) := by decide +kernel
theorem dL_law_391 : decode cL_law 391 = .ok (.iadd, 1) := by decide +kernel
theorem dL_law_392 : decode cL_law 392 = .ok (.iaload, 1) := by decide +kernel
theorem dL_law_393 : decode cL_law 393 = .ok (.invokevirtual 51, 3) := by decide +kernel
theorem dL_law_396 : decode cL_law 396 = .ok (.if_icmp .eq 556, 3) := by decide +kernel
theorem dL_law_399 : decode cL_law 399 = .ok (.iconst 0, 1) := by decide +kernel
theorem dL_law_400 : decode cL_law 400 = .ok (.ireturn, 1) := by decide +kernel
theorem dL_law_401 : decode cL_law 401 = .ok (.aload_n 1, 1) := by decide +kernel
theorem dL_law_402 : decode cL_law 402 = .ok (.aload_n 0, 1) := by decide +kernel
theorem dL_law_403 : decode cL_law 403 = .ok (.iload_n 3, 1) := by decide +kernel
theorem dL_law_404 : decode cL_law 404 = .ok (.iconst 1, 1) := by decide +kernel
theorem dL_law_405 : decode cL_law 405 = .ok (.iadd, 1) := by decide +kernel
theorem dL_law_406 : decode cL_law 406 = .ok (.iaload, 1) := by decide +kernel
theorem dL_law_407 : decode cL_law 407 = .ok (.aload_n 0, 1) := by decide +kernel
theorem dL_law_408 : decode cL_law 408 = .ok (.iload_n 3, 1) := by decide +kernel
theorem dL_law_409 : decode cL_law 409 = .ok (.iconst 2, 1) := by decide +kernel
theorem dL_law_410 : decode cL_law 410 = .ok (.iadd, 1) := by decide +kernel
theorem dL_law_411 : decode cL_law 411 = .ok (.iaload, 1) := by decide +kernel
theorem dL_law_412 : decode cL_law 412 = .ok (.invokevirtual 52, 3) := by decide +kernel
theorem dL_law_415 : decode cL_law 415 = .ok (.aload_n 2, 1) := by decide +kernel
theorem dL_law_416 : decode cL_law 416 = .ok (.aload_n 0, 1) := by decide +kernel
theorem dL_law_417 : decode cL_law 417 = .ok (.iload_n 3, 1) := by decide +kernel
theorem dL_law_418 : decode cL_law 418 = .ok (.iconst 1, 1) := by decide +kernel
theorem dL_law_419 : decode cL_law 419 = .ok (.iadd, 1) := by decide +kernel
theorem dL_law_420 : decode cL_law 420 = .ok (.iaload, 1) := by decide +kernel
theorem dL_law_421 : decode cL_law 421 = .ok (.aload_n 0, 1) := by decide +kernel
theorem dL_law_422 : decode cL_law 422 = .ok (.iload_n 3, 1) := by decide +kernel
theorem dL_law_423 : decode cL_law 423 = .ok (.iconst 2, 1) := by decide +kernel
theorem dL_law_424 : decode cL_law 424 = .ok (.iadd, 1) := by decide +kernel
theorem dL_law_425 : decode cL_law 425 = .ok (.iaload, 1) := by decide +kernel
theorem dL_law_426 : decode cL_law 426 = .ok (.invokevirtual 55, 3) := by decide +kernel
theorem dL_law_429 : decode cL_law 429 = .ok (.if_icmp .eq 523, 3) := by decide +kernel
theorem dL_law_432 : decode cL_law 432 = .ok (.iconst 0, 1) := by decide +kernel
theorem dL_law_433 : decode cL_law 433 = .ok (.ireturn, 1) := by decide +kernel
theorem dL_law_434 : decode cL_law 434 = .ok (.aload_n 1, 1) := by decide +kernel
theorem dL_law_435 : decode cL_law 435 = .ok (.aload_n 0, 1) := by decide +kernel
theorem dL_law_436 : decode cL_law 436 = .ok (.iload_n 3, 1) := by decide +kernel
theorem dL_law_437 : decode cL_law 437 = .ok (.iconst 1, 1) := by decide +kernel
theorem dL_law_438 : decode cL_law 438 = .ok (.iadd, 1) := by decide +kernel
theorem dL_law_439 : decode cL_law 439 = .ok (.iaload, 1) := by decide +kernel
theorem dL_law_440 : decode cL_law 440 = .ok (.invokevirtual 56, 3) := by decide +kernel
theorem dL_law_443 : decode cL_law 443 = .ok (.aload_n 2, 1) := by decide +kernel
theorem dL_law_444 : decode cL_law 444 = .ok (.aload_n 0, 1) := by decide +kernel
theorem dL_law_445 : decode cL_law 445 = .ok (.iload_n 3, 1) := by decide +kernel
theorem dL_law_446 : decode cL_law 446 = .ok (.iconst 1, 1) := by decide +kernel
theorem dL_law_447 : decode cL_law 447 = .ok (.iadd, 1) := by decide +kernel
theorem dL_law_448 : decode cL_law 448 = .ok (.iaload, 1) := by decide +kernel
theorem dL_law_449 : decode cL_law 449 = .ok (.invokevirtual 59, 3) := by decide +kernel
theorem dL_law_452 : decode cL_law 452 = .ok (.if_icmp .eq 500, 3) := by decide +kernel
theorem dL_law_455 : decode cL_law 455 = .ok (.iconst 0, 1) := by decide +kernel
theorem dL_law_456 : decode cL_law 456 = .ok (.ireturn, 1) := by decide +kernel
theorem dL_law_457 : decode cL_law 457 = .ok (.aload_n 1, 1) := by decide +kernel
theorem dL_law_458 : decode cL_law 458 = .ok (.aload_n 0, 1) := by decide +kernel
theorem dL_law_459 : decode cL_law 459 = .ok (.iload_n 3, 1) := by decide +kernel
theorem dL_law_460 : decode cL_law 460 = .ok (.iconst 1, 1) := by decide +kernel
theorem dL_law_461 : decode cL_law 461 = .ok (.iadd, 1) := by decide +kernel
theorem dL_law_462 : decode cL_law 462 = .ok (.iaload, 1) := by decide +kernel
theorem dL_law_463 : decode cL_law 463 = .ok (.invokevirtual 60, 3) := by decide +kernel
theorem dL_law_466 : decode cL_law 466 = .ok (.aload_n 2, 1) := by decide +kernel
theorem dL_law_467 : decode cL_law 467 = .ok (.aload_n 0, 1) := by decide +kernel
theorem dL_law_468 : decode cL_law 468 = .ok (.iload_n 3, 1) := by decide +kernel
theorem dL_law_469 : decode cL_law 469 = .ok (.iconst 1, 1) := by decide +kernel
theorem dL_law_470 : decode cL_law 470 = .ok (.iadd, 1) := by decide +kernel
theorem dL_law_471 : decode cL_law 471 = .ok (.iaload, 1) := by decide +kernel
theorem dL_law_472 : decode cL_law 472 = .ok (.invokevirtual 63, 3) := by decide +kernel
theorem dL_law_475 : decode cL_law 475 = .ok (.if_icmp .eq 477, 3) := by decide +kernel
theorem dL_law_478 : decode cL_law 478 = .ok (.iconst 0, 1) := by decide +kernel
theorem dL_law_479 : decode cL_law 479 = .ok (.ireturn, 1) := by decide +kernel
theorem dL_law_480 : decode cL_law 480 = .ok (.aload_n 1, 1) := by decide +kernel
theorem dL_law_481 : decode cL_law 481 = .ok (.invokevirtual 64, 3) := by decide +kernel
theorem dL_law_484 : decode cL_law 484 = .ok (.aload_n 2, 1) := by decide +kernel
theorem dL_law_485 : decode cL_law 485 = .ok (.invokevirtual 67, 3) := by decide +kernel
theorem dL_law_488 : decode cL_law 488 = .ok (.if_icmp .eq 464, 3) := by decide +kernel
theorem dL_law_491 : decode cL_law 491 = .ok (.iconst 0, 1) := by decide +kernel
theorem dL_law_492 : decode cL_law 492 = .ok (.ireturn, 1) := by decide +kernel
theorem dL_law_493 : decode cL_law 493 = .ok (.aload_n 1, 1) := by decide +kernel
theorem dL_law_494 : decode cL_law 494 = .ok (.aload_n 0, 1) := by decide +kernel
theorem dL_law_495 : decode cL_law 495 = .ok (.iload_n 3, 1) := by decide +kernel
theorem dL_law_496 : decode cL_law 496 = .ok (.iconst 1, 1) := by decide +kernel
theorem dL_law_497 : decode cL_law 497 = .ok (.iadd, 1) := by decide +kernel
theorem dL_law_498 : decode cL_law 498 = .ok (.iaload, 1) := by decide +kernel
theorem dL_law_499 : decode cL_law 499 = .ok (.invokevirtual 68, 3) := by decide +kernel
theorem dL_law_502 : decode cL_law 502 = .ok (.aload_n 2, 1) := by decide +kernel
theorem dL_law_503 : decode cL_law 503 = .ok (.aload_n 0, 1) := by decide +kernel
theorem dL_law_504 : decode cL_law 504 = .ok (.iload_n 3, 1) := by decide +kernel
theorem dL_law_505 : decode cL_law 505 = .ok (.iconst 1, 1) := by decide +kernel
theorem dL_law_506 : decode cL_law 506 = .ok (.iadd, 1) := by decide +kernel
theorem dL_law_507 : decode cL_law 507 = .ok (.iaload, 1) := by decide +kernel
theorem dL_law_508 : decode cL_law 508 = .ok (.invokevirtual 71, 3) := by decide +kernel
theorem dL_law_511 : decode cL_law 511 = .ok (.if_icmp .eq 441, 3) := by decide +kernel
theorem dL_law_514 : decode cL_law 514 = .ok (.iconst 0, 1) := by decide +kernel
theorem dL_law_515 : decode cL_law 515 = .ok (.ireturn, 1) := by decide +kernel
theorem dL_law_516 : decode cL_law 516 = .ok (.aload_n 1, 1) := by decide +kernel
theorem dL_law_517 : decode cL_law 517 = .ok (.aload_n 0, 1) := by decide +kernel
theorem dL_law_518 : decode cL_law 518 = .ok (.iload_n 3, 1) := by decide +kernel
theorem dL_law_519 : decode cL_law 519 = .ok (.iconst 1, 1) := by decide +kernel
theorem dL_law_520 : decode cL_law 520 = .ok (.iadd, 1) := by decide +kernel
theorem dL_law_521 : decode cL_law 521 = .ok (.iaload, 1) := by decide +kernel
theorem dL_law_522 : decode cL_law 522 = .ok (.aload_n 0, 1) := by decide +kernel
theorem dL_law_523 : decode cL_law 523 = .ok (.iload_n 3, 1) := by decide +kernel
theorem dL_law_524 : decode cL_law 524 = .ok (.iconst 2, 1) := by decide +kernel
theorem dL_law_525 : decode cL_law 525 = .ok (.iadd, 1) := by decide +kernel
theorem dL_law_526 : decode cL_law 526 = .ok (.iaload, 1) := by decide +kernel
theorem dL_law_527 : decode cL_law 527 = .ok (.invokevirtual 72, 3) := by decide +kernel
theorem dL_law_530 : decode cL_law 530 = .ok (.aload_n 2, 1) := by decide +kernel
theorem dL_law_531 : decode cL_law 531 = .ok (.aload_n 0, 1) := by decide +kernel
theorem dL_law_532 : decode cL_law 532 = .ok (.iload_n 3, 1) := by decide +kernel
theorem dL_law_533 : decode cL_law 533 = .ok (.iconst 1, 1) := by decide +kernel
theorem dL_law_534 : decode cL_law 534 = .ok (.iadd, 1) := by decide +kernel
theorem dL_law_535 : decode cL_law 535 = .ok (.iaload, 1) := by decide +kernel
theorem dL_law_536 : decode cL_law 536 = .ok (.aload_n 0, 1) := by decide +kernel
theorem dL_law_537 : decode cL_law 537 = .ok (.iload_n 3, 1) := by decide +kernel
theorem dL_law_538 : decode cL_law 538 = .ok (.iconst 2, 1) := by decide +kernel
theorem dL_law_539 : decode cL_law 539 = .ok (.iadd, 1) := by decide +kernel
theorem dL_law_540 : decode cL_law 540 = .ok (.iaload, 1) := by decide +kernel
theorem dL_law_541 : decode cL_law 541 = .ok (.invokevirtual 75, 3) := by decide +kernel
theorem dL_law_544 : decode cL_law 544 = .ok (.if_icmp .eq 408, 3) := by decide +kernel
theorem dL_law_547 : decode cL_law 547 = .ok (.iconst 0, 1) := by decide +kernel
theorem dL_law_548 : decode cL_law 548 = .ok (.ireturn, 1) := by decide +kernel
theorem dL_law_549 : decode cL_law 549 = .ok (.aload_n 1, 1) := by decide +kernel
theorem dL_law_550 : decode cL_law 550 = .ok (.aload_n 0, 1) := by decide +kernel
theorem dL_law_551 : decode cL_law 551 = .ok (.iload_n 3, 1) := by decide +kernel
theorem dL_law_552 : decode cL_law 552 = .ok (.iconst 1, 1) := by decide +kernel
theorem dL_law_553 : decode cL_law 553 = .ok (.iadd, 1) := by decide +kernel
theorem dL_law_554 : decode cL_law 554 = .ok (.iaload, 1) := by decide +kernel
theorem dL_law_555 : decode cL_law 555 = .ok (.aload_n 0, 1) := by decide +kernel
theorem dL_law_556 : decode cL_law 556 = .ok (.iload_n 3, 1) := by decide +kernel
theorem dL_law_557 : decode cL_law 557 = .ok (.iconst 2, 1) := by decide +kernel
theorem dL_law_558 : decode cL_law 558 = .ok (.iadd, 1) := by decide +kernel
theorem dL_law_559 : decode cL_law 559 = .ok (.iaload, 1) := by decide +kernel
theorem dL_law_560 : decode cL_law 560 = .ok (.aload_n 0, 1) := by decide +kernel
theorem dL_law_561 : decode cL_law 561 = .ok (.iload_n 3, 1) := by decide +kernel
theorem dL_law_562 : decode cL_law 562 = .ok (.iconst 3, 1) := by decide +kernel
theorem dL_law_563 : decode cL_law 563 = .ok (.iadd, 1) := by decide +kernel
theorem dL_law_564 : decode cL_law 564 = .ok (.iaload, 1) := by decide +kernel
theorem dL_law_565 : decode cL_law 565 = .ok (.aload_n 0, 1) := by decide +kernel
theorem dL_law_566 : decode cL_law 566 = .ok (.iload_n 3, 1) := by decide +kernel
theorem dL_law_567 : decode cL_law 567 = .ok (.iconst 4, 1) := by decide +kernel
theorem dL_law_568 : decode cL_law 568 = .ok (.iadd, 1) := by decide +kernel
theorem dL_law_569 : decode cL_law 569 = .ok (.iaload, 1) := by decide +kernel
theorem dL_law_570 : decode cL_law 570 = .ok (.invokevirtual 76, 3) := by decide +kernel
theorem dL_law_573 : decode cL_law 573 = .ok (.aload_n 2, 1) := by decide +kernel
theorem dL_law_574 : decode cL_law 574 = .ok (.aload_n 0, 1) := by decide +kernel
theorem dL_law_575 : decode cL_law 575 = .ok (.iload_n 3, 1) := by decide +kernel
theorem dL_law_576 : decode cL_law 576 = .ok (.iconst 1, 1) := by decide +kernel
theorem dL_law_577 : decode cL_law 577 = .ok (.iadd, 1) := by decide +kernel
theorem dL_law_578 : decode cL_law 578 = .ok (.iaload, 1) := by decide +kernel
theorem dL_law_579 : decode cL_law 579 = .ok (.aload_n 0, 1) := by decide +kernel
theorem dL_law_580 : decode cL_law 580 = .ok (.iload_n 3, 1) := by decide +kernel
theorem dL_law_581 : decode cL_law 581 = .ok (.iconst 2, 1) := by decide +kernel
theorem dL_law_582 : decode cL_law 582 = .ok (.iadd, 1) := by decide +kernel
theorem dL_law_583 : decode cL_law 583 = .ok (.iaload, 1) := by decide +kernel
theorem dL_law_584 : decode cL_law 584 = .ok (.aload_n 0, 1) := by decide +kernel
theorem dL_law_585 : decode cL_law 585 = .ok (.iload_n 3, 1) := by decide +kernel
theorem dL_law_586 : decode cL_law 586 = .ok (.iconst 3, 1) := by decide +kernel
theorem dL_law_587 : decode cL_law 587 = .ok (.iadd, 1) := by decide +kernel
theorem dL_law_588 : decode cL_law 588 = .ok (.iaload, 1) := by decide +kernel
theorem dL_law_589 : decode cL_law 589 = .ok (.aload_n 0, 1) := by decide +kernel
theorem dL_law_590 : decode cL_law 590 = .ok (.iload_n 3, 1) := by decide +kernel
theorem dL_law_591 : decode cL_law 591 = .ok (.iconst 4, 1) := by decide +kernel
theorem dL_law_592 : decode cL_law 592 = .ok (.iadd, 1) := by decide +kernel
theorem dL_law_593 : decode cL_law 593 = .ok (.iaload, 1) := by decide +kernel
theorem dL_law_594 : decode cL_law 594 = .ok (.invokevirtual 80, 3) := by decide +kernel
theorem dL_law_597 : decode cL_law 597 = .ok (.if_icmp .eq 355, 3) := by decide +kernel
theorem dL_law_600 : decode cL_law 600 = .ok (.iconst 0, 1) := by decide +kernel
theorem dL_law_601 : decode cL_law 601 = .ok (.ireturn, 1) := by decide +kernel
theorem dL_law_602 : decode cL_law 602 = .ok (.aload_n 1, 1) := by decide +kernel
theorem dL_law_603 : decode cL_law 603 = .ok (.aload_n 0, 1) := by decide +kernel
theorem dL_law_604 : decode cL_law 604 = .ok (.iload_n 3, 1) := by decide +kernel
theorem dL_law_605 : decode cL_law 605 = .ok (.iconst 1, 1) := by decide +kernel
theorem dL_law_606 : decode cL_law 606 = .ok (.iadd, 1) := by decide +kernel
theorem dL_law_607 : decode cL_law 607 = .ok (.iaload, 1) := by decide +kernel
theorem dL_law_608 : decode cL_law 608 = .ok (.aload_n 0, 1) := by decide +kernel
theorem dL_law_609 : decode cL_law 609 = .ok (.iload_n 3, 1) := by decide +kernel
theorem dL_law_610 : decode cL_law 610 = .ok (.iconst 2, 1) := by decide +kernel
theorem dL_law_611 : decode cL_law 611 = .ok (.iadd, 1) := by decide +kernel
theorem dL_law_612 : decode cL_law 612 = .ok (.iaload, 1) := by decide +kernel
theorem dL_law_613 : decode cL_law 613 = .ok (.aload_n 0, 1) := by decide +kernel
theorem dL_law_614 : decode cL_law 614 = .ok (.iload_n 3, 1) := by decide +kernel
theorem dL_law_615 : decode cL_law 615 = .ok (.iconst 3, 1) := by decide +kernel
theorem dL_law_616 : decode cL_law 616 = .ok (.iadd, 1) := by decide +kernel
theorem dL_law_617 : decode cL_law 617 = .ok (.iaload, 1) := by decide +kernel
theorem dL_law_618 : decode cL_law 618 = .ok (.invokevirtual 81, 3) := by decide +kernel
theorem dL_law_621 : decode cL_law 621 = .ok (.aload_n 2, 1) := by decide +kernel
theorem dL_law_622 : decode cL_law 622 = .ok (.aload_n 0, 1) := by decide +kernel
theorem dL_law_623 : decode cL_law 623 = .ok (.iload_n 3, 1) := by decide +kernel
theorem dL_law_624 : decode cL_law 624 = .ok (.iconst 1, 1) := by decide +kernel
theorem dL_law_625 : decode cL_law 625 = .ok (.iadd, 1) := by decide +kernel
theorem dL_law_626 : decode cL_law 626 = .ok (.iaload, 1) := by decide +kernel
theorem dL_law_627 : decode cL_law 627 = .ok (.aload_n 0, 1) := by decide +kernel
theorem dL_law_628 : decode cL_law 628 = .ok (.iload_n 3, 1) := by decide +kernel
theorem dL_law_629 : decode cL_law 629 = .ok (.iconst 2, 1) := by decide +kernel
theorem dL_law_630 : decode cL_law 630 = .ok (.iadd, 1) := by decide +kernel
theorem dL_law_631 : decode cL_law 631 = .ok (.iaload, 1) := by decide +kernel
theorem dL_law_632 : decode cL_law 632 = .ok (.aload_n 0, 1) := by decide +kernel
theorem dL_law_633 : decode cL_law 633 = .ok (.iload_n 3, 1) := by decide +kernel
theorem dL_law_634 : decode cL_law 634 = .ok (.iconst 3, 1) := by decide +kernel
theorem dL_law_635 : decode cL_law 635 = .ok (.iadd, 1) := by decide +kernel
theorem dL_law_636 : decode cL_law 636 = .ok (.iaload, 1) := by decide +kernel
theorem dL_law_637 : decode cL_law 637 = .ok (.invokevirtual 85, 3) := by decide +kernel
theorem dL_law_640 : decode cL_law 640 = .ok (.if_icmp .eq 312, 3) := by decide +kernel
theorem dL_law_643 : decode cL_law 643 = .ok (.iconst 0, 1) := by decide +kernel
theorem dL_law_644 : decode cL_law 644 = .ok (.ireturn, 1) := by decide +kernel
theorem dL_law_645 : decode cL_law 645 = .ok (.aload_n 1, 1) := by decide +kernel
theorem dL_law_646 : decode cL_law 646 = .ok (.aload_n 0, 1) := by decide +kernel
theorem dL_law_647 : decode cL_law 647 = .ok (.iload_n 3, 1) := by decide +kernel
theorem dL_law_648 : decode cL_law 648 = .ok (.iconst 1, 1) := by decide +kernel
theorem dL_law_649 : decode cL_law 649 = .ok (.iadd, 1) := by decide +kernel
theorem dL_law_650 : decode cL_law 650 = .ok (.iaload, 1) := by decide +kernel
theorem dL_law_651 : decode cL_law 651 = .ok (.invokevirtual 86, 3) := by decide +kernel
theorem dL_law_654 : decode cL_law 654 = .ok (.aload_n 2, 1) := by decide +kernel
theorem dL_law_655 : decode cL_law 655 = .ok (.aload_n 0, 1) := by decide +kernel
theorem dL_law_656 : decode cL_law 656 = .ok (.iload_n 3, 1) := by decide +kernel
theorem dL_law_657 : decode cL_law 657 = .ok (.iconst 1, 1) := by decide +kernel
theorem dL_law_658 : decode cL_law 658 = .ok (.iadd, 1) := by decide +kernel
theorem dL_law_659 : decode cL_law 659 = .ok (.iaload, 1) := by decide +kernel
theorem dL_law_660 : decode cL_law 660 = .ok (.invokevirtual 89, 3) := by decide +kernel
theorem dL_law_663 : decode cL_law 663 = .ok (.if_icmp .eq 289, 3) := by decide +kernel
theorem dL_law_666 : decode cL_law 666 = .ok (.iconst 0, 1) := by decide +kernel
theorem dL_law_667 : decode cL_law 667 = .ok (.ireturn, 1) := by decide +kernel
theorem dL_law_668 : decode cL_law 668 = .ok (.aload_n 1, 1) := by decide +kernel
theorem dL_law_669 : decode cL_law 669 = .ok (.aload_n 0, 1) := by decide +kernel
theorem dL_law_670 : decode cL_law 670 = .ok (.iload_n 3, 1) := by decide +kernel
theorem dL_law_671 : decode cL_law 671 = .ok (.iconst 1, 1) := by decide +kernel
theorem dL_law_672 : decode cL_law 672 = .ok (.iadd, 1) := by decide +kernel
theorem dL_law_673 : decode cL_law 673 = .ok (.iaload, 1) := by decide +kernel
theorem dL_law_674 : decode cL_law 674 = .ok (.aload_n 0, 1) := by decide +kernel
theorem dL_law_675 : decode cL_law 675 = .ok (.iload_n 3, 1) := by decide +kernel
theorem dL_law_676 : decode cL_law 676 = .ok (.iconst 2, 1) := by decide +kernel
theorem dL_law_677 : decode cL_law 677 = .ok (.iadd, 1) := by decide +kernel
theorem dL_law_678 : decode cL_law 678 = .ok (.iaload, 1) := by decide +kernel
theorem dL_law_679 : decode cL_law 679 = .ok (.aload_n 0, 1) := by decide +kernel
theorem dL_law_680 : decode cL_law 680 = .ok (.iload_n 3, 1) := by decide +kernel
theorem dL_law_681 : decode cL_law 681 = .ok (.iconst 3, 1) := by decide +kernel
theorem dL_law_682 : decode cL_law 682 = .ok (.iadd, 1) := by decide +kernel
theorem dL_law_683 : decode cL_law 683 = .ok (.iaload, 1) := by decide +kernel
theorem dL_law_684 : decode cL_law 684 = .ok (.aload_n 0, 1) := by decide +kernel
theorem dL_law_685 : decode cL_law 685 = .ok (.iload_n 3, 1) := by decide +kernel
theorem dL_law_686 : decode cL_law 686 = .ok (.iconst 4, 1) := by decide +kernel
theorem dL_law_687 : decode cL_law 687 = .ok (.iadd, 1) := by decide +kernel
theorem dL_law_688 : decode cL_law 688 = .ok (.iaload, 1) := by decide +kernel
theorem dL_law_689 : decode cL_law 689 = .ok (.invokevirtual 90, 3) := by decide +kernel
theorem dL_law_692 : decode cL_law 692 = .ok (.aload_n 2, 1) := by decide +kernel
theorem dL_law_693 : decode cL_law 693 = .ok (.aload_n 0, 1) := by decide +kernel
theorem dL_law_694 : decode cL_law 694 = .ok (.iload_n 3, 1) := by decide +kernel
theorem dL_law_695 : decode cL_law 695 = .ok (.iconst 1, 1) := by decide +kernel
theorem dL_law_696 : decode cL_law 696 = .ok (.iadd, 1) := by decide +kernel
theorem dL_law_697 : decode cL_law 697 = .ok (.iaload, 1) := by decide +kernel
theorem dL_law_698 : decode cL_law 698 = .ok (.aload_n 0, 1) := by decide +kernel
theorem dL_law_699 : decode cL_law 699 = .ok (.iload_n 3, 1) := by decide +kernel
theorem dL_law_700 : decode cL_law 700 = .ok (.iconst 2, 1) := by decide +kernel
theorem dL_law_701 : decode cL_law 701 = .ok (.iadd, 1) := by decide +kernel
theorem dL_law_702 : decode cL_law 702 = .ok (.iaload, 1) := by decide +kernel
theorem dL_law_703 : decode cL_law 703 = .ok (.aload_n 0, 1) := by decide +kernel
theorem dL_law_704 : decode cL_law 704 = .ok (.iload_n 3, 1) := by decide +kernel
theorem dL_law_705 : decode cL_law 705 = .ok (.iconst 3, 1) := by decide +kernel
theorem dL_law_706 : decode cL_law 706 = .ok (.iadd, 1) := by decide +kernel
theorem dL_law_707 : decode cL_law 707 = .ok (.iaload, 1) := by decide +kernel
theorem dL_law_708 : decode cL_law 708 = .ok (.aload_n 0, 1) := by decide +kernel
theorem dL_law_709 : decode cL_law 709 = .ok (.iload_n 3, 1) := by decide +kernel
theorem dL_law_710 : decode cL_law 710 = .ok (.iconst 4, 1) := by decide +kernel
theorem dL_law_711 : decode cL_law 711 = .ok (.iadd, 1) := by decide +kernel
theorem dL_law_712 : decode cL_law 712 = .ok (.iaload, 1) := by decide +kernel
theorem dL_law_713 : decode cL_law 713 = .ok (.invokevirtual 93, 3) := by decide +kernel
theorem dL_law_716 : decode cL_law 716 = .ok (.if_icmp .eq 236, 3) := by decide +kernel
theorem dL_law_719 : decode cL_law 719 = .ok (.iconst 0, 1) := by decide +kernel
theorem dL_law_720 : decode cL_law 720 = .ok (.ireturn, 1) := by decide +kernel
theorem dL_law_721 : decode cL_law 721 = .ok (.aload_n 1, 1) := by decide +kernel
theorem dL_law_722 : decode cL_law 722 = .ok (.aload_n 0, 1) := by decide +kernel
theorem dL_law_723 : decode cL_law 723 = .ok (.iload_n 3, 1) := by decide +kernel
theorem dL_law_724 : decode cL_law 724 = .ok (.iconst 1, 1) := by decide +kernel
theorem dL_law_725 : decode cL_law 725 = .ok (.iadd, 1) := by decide +kernel
theorem dL_law_726 : decode cL_law 726 = .ok (.iaload, 1) := by decide +kernel
theorem dL_law_727 : decode cL_law 727 = .ok (.invokevirtual 94, 3) := by decide +kernel
theorem dL_law_730 : decode cL_law 730 = .ok (.aload_n 2, 1) := by decide +kernel
theorem dL_law_731 : decode cL_law 731 = .ok (.aload_n 0, 1) := by decide +kernel
theorem dL_law_732 : decode cL_law 732 = .ok (.iload_n 3, 1) := by decide +kernel
theorem dL_law_733 : decode cL_law 733 = .ok (.iconst 1, 1) := by decide +kernel
theorem dL_law_734 : decode cL_law 734 = .ok (.iadd, 1) := by decide +kernel
theorem dL_law_735 : decode cL_law 735 = .ok (.iaload, 1) := by decide +kernel
theorem dL_law_736 : decode cL_law 736 = .ok (.invokevirtual 97, 3) := by decide +kernel
theorem dL_law_739 : decode cL_law 739 = .ok (.if_icmp .eq 213, 3) := by decide +kernel
theorem dL_law_742 : decode cL_law 742 = .ok (.iconst 0, 1) := by decide +kernel
theorem dL_law_743 : decode cL_law 743 = .ok (.ireturn, 1) := by decide +kernel
theorem dL_law_744 : decode cL_law 744 = .ok (.aload_n 1, 1) := by decide +kernel
theorem dL_law_745 : decode cL_law 745 = .ok (.aload_n 0, 1) := by decide +kernel
theorem dL_law_746 : decode cL_law 746 = .ok (.iload_n 3, 1) := by decide +kernel
theorem dL_law_747 : decode cL_law 747 = .ok (.iconst 1, 1) := by decide +kernel
theorem dL_law_748 : decode cL_law 748 = .ok (.iadd, 1) := by decide +kernel
theorem dL_law_749 : decode cL_law 749 = .ok (.iaload, 1) := by decide +kernel
theorem dL_law_750 : decode cL_law 750 = .ok (.invokevirtual 98, 3) := by decide +kernel
theorem dL_law_753 : decode cL_law 753 = .ok (.aload_n 2, 1) := by decide +kernel
theorem dL_law_754 : decode cL_law 754 = .ok (.aload_n 0, 1) := by decide +kernel
theorem dL_law_755 : decode cL_law 755 = .ok (.iload_n 3, 1) := by decide +kernel
theorem dL_law_756 : decode cL_law 756 = .ok (.iconst 1, 1) := by decide +kernel
theorem dL_law_757 : decode cL_law 757 = .ok (.iadd, 1) := by decide +kernel
theorem dL_law_758 : decode cL_law 758 = .ok (.iaload, 1) := by decide +kernel
theorem dL_law_759 : decode cL_law 759 = .ok (.invokevirtual 101, 3) := by decide +kernel
theorem dL_law_762 : decode cL_law 762 = .ok (.if_icmp .eq 190, 3) := by decide +kernel
theorem dL_law_765 : decode cL_law 765 = .ok (.iconst 0, 1) := by decide +kernel
theorem dL_law_766 : decode cL_law 766 = .ok (.ireturn, 1) := by decide +kernel
theorem dL_law_767 : decode cL_law 767 = .ok (.aload_n 1, 1) := by decide +kernel
theorem dL_law_768 : decode cL_law 768 = .ok (.aload_n 0, 1) := by decide +kernel
theorem dL_law_769 : decode cL_law 769 = .ok (.iload_n 3, 1) := by decide +kernel
theorem dL_law_770 : decode cL_law 770 = .ok (.iconst 1, 1) := by decide +kernel
theorem dL_law_771 : decode cL_law 771 = .ok (.iadd, 1) := by decide +kernel
theorem dL_law_772 : decode cL_law 772 = .ok (.iaload, 1) := by decide +kernel
theorem dL_law_773 : decode cL_law 773 = .ok (.aload_n 0, 1) := by decide +kernel
theorem dL_law_774 : decode cL_law 774 = .ok (.iload_n 3, 1) := by decide +kernel
theorem dL_law_775 : decode cL_law 775 = .ok (.iconst 2, 1) := by decide +kernel
theorem dL_law_776 : decode cL_law 776 = .ok (.iadd, 1) := by decide +kernel
theorem dL_law_777 : decode cL_law 777 = .ok (.iaload, 1) := by decide +kernel
theorem dL_law_778 : decode cL_law 778 = .ok (.invokevirtual 102, 3) := by decide +kernel
theorem dL_law_781 : decode cL_law 781 = .ok (.aload_n 2, 1) := by decide +kernel
theorem dL_law_782 : decode cL_law 782 = .ok (.aload_n 0, 1) := by decide +kernel
theorem dL_law_783 : decode cL_law 783 = .ok (.iload_n 3, 1) := by decide +kernel
theorem dL_law_784 : decode cL_law 784 = .ok (.iconst 1, 1) := by decide +kernel
theorem dL_law_785 : decode cL_law 785 = .ok (.iadd, 1) := by decide +kernel
theorem dL_law_786 : decode cL_law 786 = .ok (.iaload, 1) := by decide +kernel
theorem dL_law_787 : decode cL_law 787 = .ok (.aload_n 0, 1) := by decide +kernel
theorem dL_law_788 : decode cL_law 788 = .ok (.iload_n 3, 1) := by decide +kernel
theorem dL_law_789 : decode cL_law 789 = .ok (.iconst 2, 1) := by decide +kernel
theorem dL_law_790 : decode cL_law 790 = .ok (.iadd, 1) := by decide +kernel
theorem dL_law_791 : decode cL_law 791 = .ok (.iaload, 1) := by decide +kernel
theorem dL_law_792 : decode cL_law 792 = .ok (.invokevirtual 105, 3) := by decide +kernel
theorem dL_law_795 : decode cL_law 795 = .ok (.if_icmp .eq 157, 3) := by decide +kernel
theorem dL_law_798 : decode cL_law 798 = .ok (.iconst 0, 1) := by decide +kernel
theorem dL_law_799 : decode cL_law 799 = .ok (.ireturn, 1) := by decide +kernel
theorem dL_law_800 : decode cL_law 800 = .ok (.aload_n 1, 1) := by decide +kernel
theorem dL_law_801 : decode cL_law 801 = .ok (.aload_n 0, 1) := by decide +kernel
theorem dL_law_802 : decode cL_law 802 = .ok (.iload_n 3, 1) := by decide +kernel
theorem dL_law_803 : decode cL_law 803 = .ok (.iconst 1, 1) := by decide +kernel
theorem dL_law_804 : decode cL_law 804 = .ok (.iadd, 1) := by decide +kernel
theorem dL_law_805 : decode cL_law 805 = .ok (.iaload, 1) := by decide +kernel
theorem dL_law_806 : decode cL_law 806 = .ok (.invokevirtual 106, 3) := by decide +kernel
theorem dL_law_809 : decode cL_law 809 = .ok (.aload_n 2, 1) := by decide +kernel
theorem dL_law_810 : decode cL_law 810 = .ok (.aload_n 0, 1) := by decide +kernel
theorem dL_law_811 : decode cL_law 811 = .ok (.iload_n 3, 1) := by decide +kernel
theorem dL_law_812 : decode cL_law 812 = .ok (.iconst 1, 1) := by decide +kernel
theorem dL_law_813 : decode cL_law 813 = .ok (.iadd, 1) := by decide +kernel
theorem dL_law_814 : decode cL_law 814 = .ok (.iaload, 1) := by decide +kernel
theorem dL_law_815 : decode cL_law 815 = .ok (.invokevirtual 109, 3) := by decide +kernel
theorem dL_law_818 : decode cL_law 818 = .ok (.if_icmp .eq 134, 3) := by decide +kernel
theorem dL_law_821 : decode cL_law 821 = .ok (.iconst 0, 1) := by decide +kernel
theorem dL_law_822 : decode cL_law 822 = .ok (.ireturn, 1) := by decide +kernel
theorem dL_law_823 : decode cL_law 823 = .ok (.aload_n 1, 1) := by decide +kernel
theorem dL_law_824 : decode cL_law 824 = .ok (.invokevirtual 110, 3) := by decide +kernel
theorem dL_law_827 : decode cL_law 827 = .ok (.aload_n 2, 1) := by decide +kernel
theorem dL_law_828 : decode cL_law 828 = .ok (.invokevirtual 113, 3) := by decide +kernel
theorem dL_law_831 : decode cL_law 831 = .ok (.if_icmp .eq 121, 3) := by decide +kernel
theorem dL_law_834 : decode cL_law 834 = .ok (.iconst 0, 1) := by decide +kernel
theorem dL_law_835 : decode cL_law 835 = .ok (.ireturn, 1) := by decide +kernel
theorem dL_law_836 : decode cL_law 836 = .ok (.aload_n 1, 1) := by decide +kernel
theorem dL_law_837 : decode cL_law 837 = .ok (.aload_n 0, 1) := by decide +kernel
theorem dL_law_838 : decode cL_law 838 = .ok (.iload_n 3, 1) := by decide +kernel
theorem dL_law_839 : decode cL_law 839 = .ok (.iconst 1, 1) := by decide +kernel
theorem dL_law_840 : decode cL_law 840 = .ok (.iadd, 1) := by decide +kernel
theorem dL_law_841 : decode cL_law 841 = .ok (.iaload, 1) := by decide +kernel
theorem dL_law_842 : decode cL_law 842 = .ok (.aload_n 0, 1) := by decide +kernel
theorem dL_law_843 : decode cL_law 843 = .ok (.iload_n 3, 1) := by decide +kernel
theorem dL_law_844 : decode cL_law 844 = .ok (.iconst 2, 1) := by decide +kernel
theorem dL_law_845 : decode cL_law 845 = .ok (.iadd, 1) := by decide +kernel
theorem dL_law_846 : decode cL_law 846 = .ok (.iaload, 1) := by decide +kernel
theorem dL_law_847 : decode cL_law 847 = .ok (.invokevirtual 114, 3) := by decide +kernel
theorem dL_law_850 : decode cL_law 850 = .ok (.aload_n 2, 1) := by decide +kernel
theorem dL_law_851 : decode cL_law 851 = .ok (.aload_n 0, 1) := by decide +kernel
theorem dL_law_852 : decode cL_law 852 = .ok (.iload_n 3, 1) := by decide +kernel
theorem dL_law_853 : decode cL_law 853 = .ok (.iconst 1, 1) := by decide +kernel
theorem dL_law_854 : decode cL_law 854 = .ok (.iadd, 1) := by decide +kernel
theorem dL_law_855 : decode cL_law 855 = .ok (.iaload, 1) := by decide +kernel
theorem dL_law_856 : decode cL_law 856 = .ok (.aload_n 0, 1) := by decide +kernel
theorem dL_law_857 : decode cL_law 857 = .ok (.iload_n 3, 1) := by decide +kernel
theorem dL_law_858 : decode cL_law 858 = .ok (.iconst 2, 1) := by decide +kernel
theorem dL_law_859 : decode cL_law 859 = .ok (.iadd, 1) := by decide +kernel
theorem dL_law_860 : decode cL_law 860 = .ok (.iaload, 1) := by decide +kernel
theorem dL_law_861 : decode cL_law 861 = .ok (.invokevirtual 117, 3) := by decide +kernel
theorem dL_law_864 : decode cL_law 864 = .ok (.if_icmp .eq 88, 3) := by decide +kernel
theorem dL_law_867 : decode cL_law 867 = .ok (.iconst 0, 1) := by decide +kernel
theorem dL_law_868 : decode cL_law 868 = .ok (.ireturn, 1) := by decide +kernel
theorem dL_law_869 : decode cL_law 869 = .ok (.aload_n 1, 1) := by decide +kernel
theorem dL_law_870 : decode cL_law 870 = .ok (.aload_n 0, 1) := by decide +kernel
theorem dL_law_871 : decode cL_law 871 = .ok (.iload_n 3, 1) := by decide +kernel
theorem dL_law_872 : decode cL_law 872 = .ok (.iconst 1, 1) := by decide +kernel
theorem dL_law_873 : decode cL_law 873 = .ok (.iadd, 1) := by decide +kernel
theorem dL_law_874 : decode cL_law 874 = .ok (.iaload, 1) := by decide +kernel
theorem dL_law_875 : decode cL_law 875 = .ok (.invokevirtual 118, 3) := by decide +kernel
theorem dL_law_878 : decode cL_law 878 = .ok (.aload_n 2, 1) := by decide +kernel
theorem dL_law_879 : decode cL_law 879 = .ok (.aload_n 0, 1) := by decide +kernel
theorem dL_law_880 : decode cL_law 880 = .ok (.iload_n 3, 1) := by decide +kernel
theorem dL_law_881 : decode cL_law 881 = .ok (.iconst 1, 1) := by decide +kernel
theorem dL_law_882 : decode cL_law 882 = .ok (.iadd, 1) := by decide +kernel
theorem dL_law_883 : decode cL_law 883 = .ok (.iaload, 1) := by decide +kernel
theorem dL_law_884 : decode cL_law 884 = .ok (.invokevirtual 121, 3) := by decide +kernel
theorem dL_law_887 : decode cL_law 887 = .ok (.if_icmp .eq 65, 3) := by decide +kernel
theorem dL_law_890 : decode cL_law 890 = .ok (.iconst 0, 1) := by decide +kernel
theorem dL_law_891 : decode cL_law 891 = .ok (.ireturn, 1) := by decide +kernel
theorem dL_law_892 : decode cL_law 892 = .ok (.aload_n 1, 1) := by decide +kernel
theorem dL_law_893 : decode cL_law 893 = .ok (.aload_n 0, 1) := by decide +kernel
theorem dL_law_894 : decode cL_law 894 = .ok (.iload_n 3, 1) := by decide +kernel
theorem dL_law_895 : decode cL_law 895 = .ok (.iconst 1, 1) := by decide +kernel
theorem dL_law_896 : decode cL_law 896 = .ok (.iadd, 1) := by decide +kernel
theorem dL_law_897 : decode cL_law 897 = .ok (.iaload, 1) := by decide +kernel
theorem dL_law_898 : decode cL_law 898 = .ok (.invokevirtual 122, 3) := by decide +kernel
theorem dL_law_901 : decode cL_law 901 = .ok (.aload_n 2, 1) := by decide +kernel
theorem dL_law_902 : decode cL_law 902 = .ok (.aload_n 0, 1) := by decide +kernel
theorem dL_law_903 : decode cL_law 903 = .ok (.iload_n 3, 1) := by decide +kernel
theorem dL_law_904 : decode cL_law 904 = .ok (.iconst 1, 1) := by decide +kernel
theorem dL_law_905 : decode cL_law 905 = .ok (.iadd, 1) := by decide +kernel
theorem dL_law_906 : decode cL_law 906 = .ok (.iaload, 1) := by decide +kernel
theorem dL_law_907 : decode cL_law 907 = .ok (.invokevirtual 125, 3) := by decide +kernel
theorem dL_law_910 : decode cL_law 910 = .ok (.if_icmp .eq 42, 3) := by decide +kernel
theorem dL_law_913 : decode cL_law 913 = .ok (.iconst 0, 1) := by decide +kernel
theorem dL_law_914 : decode cL_law 914 = .ok (.ireturn, 1) := by decide +kernel
theorem dL_law_915 : decode cL_law 915 = .ok (.aload_n 1, 1) := by decide +kernel
theorem dL_law_916 : decode cL_law 916 = .ok (.aload_n 0, 1) := by decide +kernel
theorem dL_law_917 : decode cL_law 917 = .ok (.iload_n 3, 1) := by decide +kernel
theorem dL_law_918 : decode cL_law 918 = .ok (.iconst 1, 1) := by decide +kernel
theorem dL_law_919 : decode cL_law 919 = .ok (.iadd, 1) := by decide +kernel
theorem dL_law_920 : decode cL_law 920 = .ok (.iaload, 1) := by decide +kernel
theorem dL_law_921 : decode cL_law 921 = .ok (.invokevirtual 126, 3) := by decide +kernel
theorem dL_law_924 : decode cL_law 924 = .ok (.aload_n 2, 1) := by decide +kernel
theorem dL_law_925 : decode cL_law 925 = .ok (.aload_n 0, 1) := by decide +kernel
theorem dL_law_926 : decode cL_law 926 = .ok (.iload_n 3, 1) := by decide +kernel
theorem dL_law_927 : decode cL_law 927 = .ok (.iconst 1, 1) := by decide +kernel
theorem dL_law_928 : decode cL_law 928 = .ok (.iadd, 1) := by decide +kernel
theorem dL_law_929 : decode cL_law 929 = .ok (.iaload, 1) := by decide +kernel
theorem dL_law_930 : decode cL_law 930 = .ok (.invokevirtual 129, 3) := by decide +kernel
theorem dL_law_933 : decode cL_law 933 = .ok (.if_icmp .eq 19, 3) := by decide +kernel
theorem dL_law_936 : decode cL_law 936 = .ok (.iconst 0, 1) := by decide +kernel
theorem dL_law_937 : decode cL_law 937 = .ok (.ireturn, 1) := by decide +kernel
theorem dL_law_938 : decode cL_law 938 = .ok (.aload_n 1, 1) := by decide +kernel
theorem dL_law_939 : decode cL_law 939 = .ok (.invokevirtual 130, 3) := by decide +kernel
theorem dL_law_942 : decode cL_law 942 = .ok (.aload_n 2, 1) := by decide +kernel
theorem dL_law_943 : decode cL_law 943 = .ok (.invokevirtual 134, 3) := by decide +kernel
theorem dL_law_946 : decode cL_law 946 = .ok (.lcmp, 1) := by decide +kernel
theorem dL_law_947 : decode cL_law 947 = .ok (.ifCond .eq 5, 3) := by decide +kernel
theorem dL_law_950 : decode cL_law 950 = .ok (.iconst 0, 1) := by decide +kernel
theorem dL_law_951 : decode cL_law 951 = .ok (.ireturn, 1) := by decide +kernel
theorem dL_law_952 : decode cL_law 952 = .ok (.iinc 3 5, 3) := by decide +kernel
theorem dL_law_955 : decode cL_law 955 = .ok (.goto (-937), 3) := by decide +kernel
theorem dL_law_958 : decode cL_law 958 = .ok (.iconst 1, 1) := by decide +kernel
theorem dL_law_959 : decode cL_law 959 = .ok (.ireturn, 1) := by decide +kernel
end
section
abbrev Mem : Type := Nat → Nat → Int32
abbrev EE : Type := va_G × ClassId × ClassId × ClassId × ClassId
def uf (M : Mem) (o : Nat) (f : Nat → Int32) : Mem := fun a => if a = o then f else M a
def us (M : Mem) (o i : Nat) (v : Int32) : Mem := uf M o (upd (M o) i v)
theorem uf_at (M : Mem) (o : Nat) (f : Nat → Int32) : uf M o f o = f := if_pos rfl
theorem uf_ne (M : Mem) {o a : Nat} (f : Nat → Int32) (h : a ≠ o) : uf M o f a = M a := if_neg h
theorem us_at (M : Mem) (o i : Nat) (v : Int32) : us M o i v o = upd (M o) i v := if_pos rfl
theorem us_ne (M : Mem) {o a : Nat} (i : Nat) (v : Int32) (h : a ≠ o) : us M o i v a = M a := if_neg h
/-- the kinds of the cells, by their places from the first one on -/
def kdL : List (Nat × Nat) := [(10, 0), (4, 0), (1, 120), (5, 0), (6, 0), (1, 5), (1, 5), (1, 35), (7, 0), (3, 0), (1, 5), (1, 5), (1, 60), (1, 40), (11, 10), (3, 0), (1, 5), (1, 5), (1, 60), (1, 40), (3, 0), (1, 5), (1, 5), (1, 60), (1, 40), (3, 0), (1, 5), (1, 5), (1, 60), (1, 40), (3, 0), (1, 5), (1, 5), (1, 60), (1, 40), (3, 0), (1, 5), (1, 5), (1, 60), (1, 40), (3, 0), (1, 5), (1, 5), (1, 60), (1, 40), (3, 0), (1, 5), (1, 5), (1, 60), (1, 40), (3, 0), (1, 5), (1, 5), (1, 60), (1, 40), (3, 0), (1, 5), (1, 5), (1, 60), (1, 40), (3, 0), (1, 5), (1, 5), (1, 60), (1, 40), (12, 2), (7, 0), (3, 0), (1, 5), (1, 5), (1, 60), (1, 40), (11, 10), (3, 0), (1, 5), (1, 5), (1, 60), (1, 40), (3, 0), (1, 5), (1, 5), (1, 60), (1, 40), (3, 0), (1, 5), (1, 5), (1, 60), (1, 40), (3, 0), (1, 5), (1, 5), (1, 60), (1, 40), (3, 0), (1, 5), (1, 5), (1, 60), (1, 40), (3, 0), (1, 5), (1, 5), (1, 60), (1, 40), (3, 0), (1, 5), (1, 5), (1, 60), (1, 40), (3, 0), (1, 5), (1, 5), (1, 60), (1, 40), (3, 0), (1, 5), (1, 5), (1, 60), (1, 40), (3, 0), (1, 5), (1, 5), (1, 60), (1, 40), (7, 0), (3, 0), (1, 5), (1, 5), (1, 60), (1, 40), (11, 10), (3, 0), (1, 5), (1, 5), (1, 60), (1, 40), (3, 0), (1, 5), (1, 5), (1, 60), (1, 40), (3, 0), (1, 5), (1, 5), (1, 60), (1, 40), (3, 0), (1, 5), (1, 5), (1, 60), (1, 40), (3, 0), (1, 5), (1, 5), (1, 60), (1, 40), (3, 0), (1, 5), (1, 5), (1, 60), (1, 40), (3, 0), (1, 5), (1, 5), (1, 60), (1, 40), (3, 0), (1, 5), (1, 5), (1, 60), (1, 40), (3, 0), (1, 5), (1, 5), (1, 60), (1, 40), (3, 0), (1, 5), (1, 5), (1, 60), (1, 40), (2, 2), (8, 0), (1, 4), (1, 4), (1, 4), (9, 0), (1, 10), (1, 10), (1, 32), (1, 13), (1, 13), (6, 0), (1, 5), (1, 5), (1, 35), (1, 10), (1, 20), (13, 0), (14, 5), (14, 5), (14, 35), (14, 1233), (14, 2466), (15, 2), (14, 4), (14, 8), (14, 120), (14, 5), (14, 5), (14, 35), (14, 40), (14, 10)]
def kd (o : Nat) : Nat × Nat := kdL.getD o (0, 0)
theorem kd_lt {o : Nat} (h : (kd o).1 ≠ 0) : o < 212 := by
  rcases Nat.lt_or_ge o 212 with q | q
  · exact q
  · exact absurd (by unfold kd; rw [List.getD_eq_getElem?_getD, List.getElem?_eq_none (show kdL.length ≤ o from q)]; rfl) h
theorem kd_lt' {o k n : Nat} (h : kd o = (k, n)) (hk : k ≠ 0) : o < 212 := kd_lt (by rw [h]; exact hk)
def cel (E : EE) (b o : Nat) (f g : Nat → Int32) (t u : Int64) : va_E :=
  if (kd o).1 = 1 then .inl (E.2.1, (kd o).2, .inl f)
  else if (kd o).1 = 2 then .inl (E.2.2.1, (kd o).2, .inl f)
  else if (kd o).1 = 3 then .inr (1, [.ref (b + (o + 1)), .ref (b + (o + 2)), .ref (b + (o + 3)), .ref (b + (o + 4)), .int (f 4), .int (f 5)])
  else if (kd o).1 = 4 then .inr (4, [.ref (b + 2), .int (f 1)])
  else if (kd o).1 = 5 then .inr (2, [.ref (b + 4), .ref (b + 1), .int (f 2), .int (f 3), .int (f 4), .int (f 5), .int (f 6), .int (f 7)])
  else if (kd o).1 = 6 then .inr (6, [.ref (b + (o + 1)), .ref (b + (o + 2)), .ref (b + (o + 3)), .int (f 3), .int (f 4), .int (f 5)])
  else if (kd o).1 = 7 then .inr (5, [.ref (b + (o + 1)), .ref (b + (o + 6)), .int (f 2)])
  else if (kd o).1 = 8 then .inr (0, [.ref (b + 182), .ref (b + 183), .ref (b + 184), .int (f 3), .int (f 4)])
  else if (kd o).1 = 9 then .inr (3, [.ref (b + 186), .ref (b + 187), .ref (b + 188), .ref (b + (f 3).toNatClampNeg), .ref (b + (f 4).toNatClampNeg), .int (f 5), .int (f 6), .int (f 7)])
  else if (kd o).1 = 10 then .inr (7, [.ref (b + 1), .ref (b + 3), .ref (b + 8), .ref (b + 65), .ref (b + 180), .ref (b + 181), .ref (b + 185), .ref (b + 191), .ref (b + 195), .ref (b + 196), .long t])
  else if (kd o).1 = 13 then .inr (8, [.int (g 0), .ref (b + 198), .ref (b + 199), .ref (b + 200), .int (g 4), .ref (b + 201), .ref (b + 202), .ref (b + 203), .int (g 8), .ref (b + 204), .int (g 10), .ref (b + 205), .long u, .ref (b + 206), .int (g 14), .int (g 15), .int (g 16), .int (g 17), .int (g 18), .int (g 19), .int (g 20), .int (g 21), .ref (b + 207), .ref (b + 208), .ref (b + 209), .int (g 25), .int (g 26), .ref (b + 210), .int (g 28), .int (g 29), .ref (b + 211)])
  else if (kd o).1 = 11 then .inl (E.2.2.2.1, (kd o).2, .inr (.inr (.inr (.inr (fun i => some (b + (f i).toNatClampNeg))))))
  else if (kd o).1 = 12 then .inl (E.2.2.2.2, (kd o).2, .inr (.inr (.inr (.inr (fun i => some (b + (f i).toNatClampNeg))))))
  else if (kd o).1 = 14 then .inl (E.2.1, (kd o).2, .inl g)
  else .inl (E.2.2.1, (kd o).2, .inl g)
theorem ce_1 (E : EE) {b o n : Nat} (f g : Nat → Int32) (t u : Int64) (h : kd o = (1, n)) : cel E b o f g t u = .inl (E.2.1, n, .inl f) := by simp [cel, h]
theorem ce_2 (E : EE) {b o n : Nat} (f g : Nat → Int32) (t u : Int64) (h : kd o = (2, n)) : cel E b o f g t u = .inl (E.2.2.1, n, .inl f) := by simp [cel, h]
theorem ce_X1 (E : EE) {b o : Nat} (f g : Nat → Int32) (t u : Int64) (h : (kd o).1 = 3) : cel E b o f g t u = .inr (1, [.ref (b + (o + 1)), .ref (b + (o + 2)), .ref (b + (o + 3)), .ref (b + (o + 4)), .int (f 4), .int (f 5)]) := by simp [cel, h]
theorem ce_X4 (E : EE) {b o : Nat} (f g : Nat → Int32) (t u : Int64) (h : (kd o).1 = 4) : cel E b o f g t u = .inr (4, [.ref (b + 2), .int (f 1)]) := by simp [cel, h]
theorem ce_X2 (E : EE) {b o : Nat} (f g : Nat → Int32) (t u : Int64) (h : (kd o).1 = 5) : cel E b o f g t u = .inr (2, [.ref (b + 4), .ref (b + 1), .int (f 2), .int (f 3), .int (f 4), .int (f 5), .int (f 6), .int (f 7)]) := by simp [cel, h]
theorem ce_X6 (E : EE) {b o : Nat} (f g : Nat → Int32) (t u : Int64) (h : (kd o).1 = 6) : cel E b o f g t u = .inr (6, [.ref (b + (o + 1)), .ref (b + (o + 2)), .ref (b + (o + 3)), .int (f 3), .int (f 4), .int (f 5)]) := by simp [cel, h]
theorem ce_X5 (E : EE) {b o : Nat} (f g : Nat → Int32) (t u : Int64) (h : (kd o).1 = 7) : cel E b o f g t u = .inr (5, [.ref (b + (o + 1)), .ref (b + (o + 6)), .int (f 2)]) := by simp [cel, h]
theorem ce_X0 (E : EE) {b o : Nat} (f g : Nat → Int32) (t u : Int64) (h : (kd o).1 = 8) : cel E b o f g t u = .inr (0, [.ref (b + 182), .ref (b + 183), .ref (b + 184), .int (f 3), .int (f 4)]) := by simp [cel, h]
theorem ce_X3 (E : EE) {b o : Nat} (f g : Nat → Int32) (t u : Int64) (h : (kd o).1 = 9) : cel E b o f g t u = .inr (3, [.ref (b + 186), .ref (b + 187), .ref (b + 188), .ref (b + (f 3).toNatClampNeg), .ref (b + (f 4).toNatClampNeg), .int (f 5), .int (f 6), .int (f 7)]) := by simp [cel, h]
theorem ce_X7 (E : EE) {b o : Nat} (f g : Nat → Int32) (t u : Int64) (h : (kd o).1 = 10) : cel E b o f g t u = .inr (7, [.ref (b + 1), .ref (b + 3), .ref (b + 8), .ref (b + 65), .ref (b + 180), .ref (b + 181), .ref (b + 185), .ref (b + 191), .ref (b + 195), .ref (b + 196), .long t]) := by simp [cel, h]
theorem ce_X8 (E : EE) {b o : Nat} (f g : Nat → Int32) (t u : Int64) (h : (kd o).1 = 13) : cel E b o f g t u = .inr (8, [.int (g 0), .ref (b + 198), .ref (b + 199), .ref (b + 200), .int (g 4), .ref (b + 201), .ref (b + 202), .ref (b + 203), .int (g 8), .ref (b + 204), .int (g 10), .ref (b + 205), .long u, .ref (b + 206), .int (g 14), .int (g 15), .int (g 16), .int (g 17), .int (g 18), .int (g 19), .int (g 20), .int (g 21), .ref (b + 207), .ref (b + 208), .ref (b + 209), .int (g 25), .int (g 26), .ref (b + 210), .int (g 28), .int (g 29), .ref (b + 211)]) := by simp [cel, h]
theorem ce_11 (E : EE) {b o n : Nat} (f g : Nat → Int32) (t u : Int64) (h : kd o = (11, n)) : cel E b o f g t u = .inl (E.2.2.2.1, n, .inr (.inr (.inr (.inr (fun i => some (b + (f i).toNatClampNeg)))))) := by simp [cel, h]
theorem ce_12 (E : EE) {b o n : Nat} (f g : Nat → Int32) (t u : Int64) (h : kd o = (12, n)) : cel E b o f g t u = .inl (E.2.2.2.2, n, .inr (.inr (.inr (.inr (fun i => some (b + (f i).toNatClampNeg)))))) := by simp [cel, h]
theorem ce_14 (E : EE) {b o n : Nat} (f g : Nat → Int32) (t u : Int64) (h : kd o = (14, n)) : cel E b o f g t u = .inl (E.2.1, n, .inl g) := by simp [cel, h]
theorem ce_15 (E : EE) {b o n : Nat} (f g : Nat → Int32) (t u : Int64) (h : kd o = (15, n)) : cel E b o f g t u = .inl (E.2.2.1, n, .inl g) := by simp [cel, h]
def tysE (E : EE) : List (ClassId × FieldType) := [(E.2.1, .int), (E.2.2.1, .boolean), (E.2.2.2.1, .object RX1), (E.2.2.2.2, .object RX5)]
/-- all cells, in their order -/
def wl (E : EE) (b : Nat) (MC : Mem) (TC : Int64) (MM : Mem) (TM : Int64) : va_W := (List.range 212).map (fun o => (b + o, cel E b o (MC o) (MM o) TC TM))
def AA (b : Nat) : Nat → Prop := fun q => b ≤ q
def RW (E : EE) (b : Nat) (MC : Mem) (TC : Int64) (MM : Mem) (TM : Int64) (H : Heap) : Prop := va_P E.1 vwCl (wl E b MC TC MM TM) H
def nestW : List (String × Nat × MethodName × String) := [(RX2, 88, yX7_within, RX7)]
def KW (E : EE) (U : State) : Prop := va_K E.1 vwCl (tysE E) U ∧ ∀ q ∈ nestW, va_Nw (.methodLinkNest q.1 q.2.1 q.2.2.1 q.2.2.2) U
def PW (E : EE) (b : Nat) (MC : Mem) (TC : Int64) (MM : Mem) (TM : Int64) (U : State) : Prop := RW E b MC TC MM TM U.heap ∧ KW E U
def CX (E : EE) (p : Program) (s : State) (m : MethodId) (args : Array Value) (c : Code) (cc : ByteArray) (nL : Nat) (own : String) : Prop :=
  p.tables.exec = Jvm.exec ∧ c.code = cc ∧ c.maxLocals = nL ∧ s.vm.findClass own = some m.cls ∧ (∀ w ∈ wt, w.before args s = true) ∧ KW E s
def WW (E : EE) (b : Nat) (MC : Mem) (TC : Int64) (MM : Mem) (TM : Int64) (s : State) (H : Heap) (locs : List Loc) : Prop := RW E b MC TC MM TM H ∧ va_S (AA b) s.heap H locs
theorem KW.warm {E : EE} {s U : State} (hW : s.WarmedH U.vm) (h : KW E s) : KW E U := ⟨va_K.moved hW.alike h.1, fun q hq => (h.2 q hq).warmM hW⟩
theorem wl_get (E : EE) (b : Nat) (MC : Mem) (TC : Int64) (MM : Mem) (TM : Int64) {o : Nat} (h : o < 212) : (wl E b MC TC MM TM)[o]? = some (b + o, cel E b o (MC o) (MM o) TC TM) := by
  simp [wl, h]
theorem wl_len (E : EE) (b : Nat) (MC : Mem) (TC : Int64) (MM : Mem) (TM : Int64) : (wl E b MC TC MM TM).length = 212 := by simp [wl]
theorem wl_D (E : EE) (b : Nat) (MC : Mem) (TC : Int64) (MM : Mem) (TM : Int64) : va_D (AA b) (wl E b MC TC MM TM) := by
  have key : ∀ (k : Nat) (q : Nat × va_E), (wl E b MC TC MM TM)[k]? = some q → q.1 = b + k := by
    intro k q hk
    have hl : k < 212 := by have := (List.getElem?_eq_some_iff.mp hk).1; rwa [wl_len] at this
    rw [wl_get E b MC TC MM TM hl] at hk
    cases hk
    rfl
  refine ⟨fun i j x y hi hj hxy => ?_, fun k q hk => ?_⟩
  · have h1 := key i x hi
    have h2 := key j y hj
    omega
  · show b ≤ q.1
    rw [key k q hk]
    omega
theorem wl_set {E : EE} {b : Nat} {MC MC' MM MM' : Mem} {TC TC' TM TM' : Int64} {o : Nat} {e : va_E} (ho : o < 212) (he : cel E b o (MC' o) (MM' o) TC' TM' = e) (hn : ∀ a, a ≠ o → cel E b a (MC' a) (MM' a) TC' TM' = cel E b a (MC a) (MM a) TC TM) : (wl E b MC TC MM TM).set o (b + o, e) = wl E b MC' TC' MM' TM' := by
  apply List.ext_getElem?
  intro j
  by_cases hj : j = o
  · subst hj
    rw [List.getElem?_set_self (by rw [wl_len]; exact ho), wl_get _ _ _ _ _ _ ho, he]
  · rw [List.getElem?_set_ne (Ne.symm hj)]
    by_cases hl : j < 212
    · rw [wl_get _ _ _ _ _ _ hl, wl_get _ _ _ _ _ _ hl, hn j hj]
    · rw [List.getElem?_eq_none (by rw [wl_len]; omega), List.getElem?_eq_none (by rw [wl_len]; omega)]
-- what the programs are made of
def ldA (n : Nat) (f : Nat → Int32) (i : Int32) : Option Int32 := if i < 0 ∨ n ≤ i.toNatClampNeg then none else some (f i.toNatClampNeg)
def stA (n : Nat) (M : Mem) (o : Nat) (i x : Int32) : Option Mem := if i < 0 ∨ n ≤ i.toNatClampNeg then none else some (us M o i.toNatClampNeg x)
def stZ (n : Nat) (M : Mem) (o : Nat) (i x : Int32) : Option Mem := if (i < 0 ∨ n ≤ i.toNatClampNeg) ∨ ¬ (x = 0 ∨ x = 1) then none else some (us M o i.toNatClampNeg x)
def ldR (kn n : Nat) (f : Nat → Int32) (i : Int32) : Option Int32 := if i < 0 ∨ n ≤ i.toNatClampNeg then none else if (kd (f i.toNatClampNeg).toNatClampNeg).1 = kn then some (f i.toNatClampNeg) else none
def zr (x : Int32) : Option Int32 := if x = 0 ∨ x = 1 then some x else none
def nz (y : Int32) : Option Int32 := if y = 0 then none else some y
def cpA (n0 n1 : Nat) (M : Mem) (o0 : Nat) (sp : Int32) (o1 : Nat) (dp len : Int32) : Option Mem := if (sp < 0 ∨ dp < 0 ∨ len < 0) ∨ n0 < sp.toNatClampNeg + len.toNatClampNeg ∨ n1 < dp.toNatClampNeg + len.toNatClampNeg then none else some (uf M o1 (va_cpy (M o0) (M o1) sp.toNatClampNeg dp.toNatClampNeg len.toNatClampNeg))
theorem ob {α β : Type} {x : Option α} {f : α → Option β} {r : β} (h : x.bind f = some r) : ∃ v, x = some v ∧ f v = some r := Option.bind_eq_some_iff.mp h
theorem ldA_s {n : Nat} {f : Nat → Int32} {i v : Int32} (h : ldA n f i = some v) : vp_in i n ∧ v = f i.toNatClampNeg := by
  unfold ldA at h
  by_cases c : i < 0 ∨ n ≤ i.toNatClampNeg
  · rw [if_pos c] at h; cases h
  · rw [if_neg c] at h; cases h; exact ⟨c, rfl⟩
theorem stA_s {n o : Nat} {M M' : Mem} {i x : Int32} (h : stA n M o i x = some M') : vp_in i n ∧ M' = us M o i.toNatClampNeg x := by
  unfold stA at h
  by_cases c : i < 0 ∨ n ≤ i.toNatClampNeg
  · rw [if_pos c] at h; cases h
  · rw [if_neg c] at h; cases h; exact ⟨c, rfl⟩
theorem stZ_s {n o : Nat} {M M' : Mem} {i x : Int32} (h : stZ n M o i x = some M') : vp_in i n ∧ (x = 0 ∨ x = 1) ∧ M' = us M o i.toNatClampNeg x := by
  unfold stZ at h
  by_cases c : (i < 0 ∨ n ≤ i.toNatClampNeg) ∨ ¬ (x = 0 ∨ x = 1)
  · rw [if_pos c] at h; cases h
  · rw [if_neg c] at h; cases h
    rw [not_or] at c
    exact ⟨c.1, Decidable.not_not.mp c.2, rfl⟩
theorem ldR_s {kn n : Nat} {f : Nat → Int32} {i v : Int32} (h : ldR kn n f i = some v) : vp_in i n ∧ v = f i.toNatClampNeg ∧ (kd v.toNatClampNeg).1 = kn := by
  unfold ldR at h
  by_cases c : i < 0 ∨ n ≤ i.toNatClampNeg
  · rw [if_pos c] at h; cases h
  · rw [if_neg c] at h
    by_cases d : (kd (f i.toNatClampNeg).toNatClampNeg).1 = kn
    · rw [if_pos d] at h; cases h; exact ⟨c, rfl, d⟩
    · rw [if_neg d] at h; cases h
theorem zr_s {x v : Int32} (h : zr x = some v) : x = v ∧ (v = 0 ∨ v = 1) := by
  unfold zr at h
  by_cases c : x = 0 ∨ x = 1
  · rw [if_pos c] at h; cases h; exact ⟨rfl, c⟩
  · rw [if_neg c] at h; cases h
theorem nz_s {x v : Int32} (h : nz x = some v) : x = v ∧ ¬ v = 0 := by
  unfold nz at h
  by_cases c : x = 0
  · rw [if_pos c] at h; cases h
  · rw [if_neg c] at h; cases h; exact ⟨rfl, c⟩
theorem cpA_s {n0 n1 o0 o1 : Nat} {M M' : Mem} {sp dp len : Int32} (h : cpA n0 n1 M o0 sp o1 dp len = some M') : ¬ sp < 0 ∧ ¬ dp < 0 ∧ ¬ len < 0 ∧ sp.toNatClampNeg + len.toNatClampNeg ≤ n0 ∧ dp.toNatClampNeg + len.toNatClampNeg ≤ n1 ∧ M' = uf M o1 (va_cpy (M o0) (M o1) sp.toNatClampNeg dp.toNatClampNeg len.toNatClampNeg) := by
  unfold cpA at h
  by_cases c : (sp < 0 ∨ dp < 0 ∨ len < 0) ∨ n0 < sp.toNatClampNeg + len.toNatClampNeg ∨ n1 < dp.toNatClampNeg + len.toNatClampNeg
  · rw [if_pos c] at h; cases h
  · rw [if_neg c] at h; cases h
    simp only [not_or] at c
    exact ⟨c.1.1, c.1.2.1, c.1.2.2, by omega, by omega, rfl⟩
section ROW
variable {p : Program} {l : Launch} {e : Env} {R : Room} {s : State} {m : MethodId} {args : Array Value} {below : List Frame} {meth : Method} {c : Code} {H : Heap} {locs : List Loc} {cells slots : Nat} {Q : State → Prop} {E : EE} {b : Nat} {MC MM MC' MM' : Mem} {TC TM TC' TM' : Int64} {cc : ByteArray} {nL pc : Nat} {ls : Array Slot} {rest : List Value} {own : String}
theorem r_get (X : CX E p s m args c cc nL own) (hw : WW E b MC TC MM TM s H locs) {o ci N k index : Nat} {C : String} {T : u_T} {fs : List Value} {v : Value} (ho : o < 212) (hce : cel E b o (MC o) (MM o) TC TM = .inr (ci, fs)) (hin : ∀ w ∈ u_ws C T N, w ∈ wt) (hc : vwCl[ci]? = some (C, T, N)) (hk : k < N) (hlink : Cond.fieldLink own index C (T k).2.1 (T k).2.2.1 ∈ wt) (hT : (T k).1 = C) (hv : fs[k]? = some v) (hdg : decode cc pc = .ok (.getfield index, 3)) (kk : W p l e R s m args below meth c H locs cells slots Q (F0 m (pc + 3) ls (v :: rest))) : W p l e R s m args below meth c H locs cells slots Q (F0 m pc ls (.ref (b + o) :: rest)) :=
  va_get X.1 X.2.1 X.2.2.2.2.1 hin X.2.2.2.1 X.2.2.2.2.2.1 hw.1 o (by rw [wl_get E b MC TC MM TM ho, hce]) hc k hk (X.2.2.2.2.1 _ hlink) (by rw [hT]; exact fun _ h => h) hv hdg kk
theorem r_put (X : CX E p s m args c cc nL own) (hw : WW E b MC TC MM TM s H locs) {o ci N k index : Nat} {C : String} {T : u_T} {ty0 : Nat → FieldType} {fs : List Value} {v : Value} (ho : o < 212) (hce : cel E b o (MC o) (MM o) TC TM = .inr (ci, fs)) (hce2 : cel E b o (MC' o) (MM' o) TC' TM' = .inr (ci, fs.set k v)) (hne : ∀ a, a ≠ o → cel E b a (MC' a) (MM' a) TC' TM' = cel E b a (MC a) (MM a) TC TM) (hin : ∀ w ∈ u_ws C T N, w ∈ wt) (hty : ∀ k, k < N → parseFieldDescriptor (T k).2.2.1 = some (ty0 k)) (hnm : ∀ a, a < N → ∀ b, b < N → a ≠ b → (T a).2.1 ≠ (T b).2.1) (hc : vwCl[ci]? = some (C, T, N)) (hk : k < N) (hlink : Cond.fieldLink own index C (T k).2.1 (T k).2.2.1 ∈ wt) (hT : (T k).1 = C) (hfin : (T k).2.2.2 = false) {ty : FieldType} (hd : parseFieldDescriptor (T k).2.2.1 = some ty) (hn : narrow ty v = v) (hfit : fits ty v = true) (hl : k < fs.length) (hdg : decode cc pc = .ok (.putfield index, 3)) (kk : ∀ (H1 : Heap) (locs1 : List Loc), WW E b MC' TC' MM' TM' s H1 locs1 → W p l e R s m args below meth c H1 locs1 cells slots Q (F0 m (pc + 3) ls rest)) : W p l e R s m args below meth c H locs cells slots Q (F0 m pc ls (v :: .ref (b + o) :: rest)) := by
  refine va_put X.1 X.2.1 X.2.2.2.2.1 hin ty0 hty hnm X.2.2.2.1 X.2.2.2.2.2.1 hw.1 (wl_D E b MC TC MM TM) hw.2 o (by rw [wl_get E b MC TC MM TM ho, hce]) hc k hk (X.2.2.2.2.1 _ hlink) (by rw [hT]; exact fun _ h => h) hfin hd hn hfit hl hdg (fun H1 locs1 hP _ hS => kk H1 locs1 ⟨?_, hS⟩)
  rw [wl_set ho hce2 hne] at hP
  exact hP
theorem r_putC (X : CX E p s m args c cc nL own) (hw : WW E b MC TC MM TM s H locs) {o ci N k index : Nat} {C : String} {T : u_T} {fs : List Value} {v : Value} {x : Int32} (ho : o < 212) (hce : cel E b o (MC o) (MM o) TC TM = .inr (ci, fs)) (hce2 : cel E b o (us MC o k x o) (MM o) TC TM = .inr (ci, fs.set k v)) (hin : ∀ w ∈ u_ws C T N, w ∈ wt) (ty0 : Nat → FieldType) (hty : ∀ k, k < N → parseFieldDescriptor (T k).2.2.1 = some (ty0 k)) (hnm : ∀ a, a < N → ∀ b, b < N → a ≠ b → (T a).2.1 ≠ (T b).2.1) (hc : vwCl[ci]? = some (C, T, N)) (hk : k < N) (hlink : Cond.fieldLink own index C (T k).2.1 (T k).2.2.1 ∈ wt) (hT : (T k).1 = C) (hfin : (T k).2.2.2 = false) {ty : FieldType} (hd : parseFieldDescriptor (T k).2.2.1 = some ty) (hn : narrow ty v = v) (hfit : fits ty v = true) (hl : k < fs.length) (hdg : decode cc pc = .ok (.putfield index, 3)) (kk : ∀ (H1 : Heap) (locs1 : List Loc), WW E b (us MC o k x) TC MM TM s H1 locs1 → W p l e R s m args below meth c H1 locs1 cells slots Q (F0 m (pc + 3) ls rest)) : W p l e R s m args below meth c H locs cells slots Q (F0 m pc ls (v :: .ref (b + o) :: rest)) :=
  r_put X hw ho hce hce2 (fun a ha => by rw [us_ne _ _ _ ha]) hin hty hnm hc hk hlink hT hfin hd hn hfit hl hdg kk
theorem r_putM (X : CX E p s m args c cc nL own) (hw : WW E b MC TC MM TM s H locs) {o ci N k index : Nat} {C : String} {T : u_T} {fs : List Value} {v : Value} {x : Int32} (ho : o < 212) (hce : cel E b o (MC o) (MM o) TC TM = .inr (ci, fs)) (hce2 : cel E b o (MC o) (us MM o k x o) TC TM = .inr (ci, fs.set k v)) (hin : ∀ w ∈ u_ws C T N, w ∈ wt) (ty0 : Nat → FieldType) (hty : ∀ k, k < N → parseFieldDescriptor (T k).2.2.1 = some (ty0 k)) (hnm : ∀ a, a < N → ∀ b, b < N → a ≠ b → (T a).2.1 ≠ (T b).2.1) (hc : vwCl[ci]? = some (C, T, N)) (hk : k < N) (hlink : Cond.fieldLink own index C (T k).2.1 (T k).2.2.1 ∈ wt) (hT : (T k).1 = C) (hfin : (T k).2.2.2 = false) {ty : FieldType} (hd : parseFieldDescriptor (T k).2.2.1 = some ty) (hn : narrow ty v = v) (hfit : fits ty v = true) (hl : k < fs.length) (hdg : decode cc pc = .ok (.putfield index, 3)) (kk : ∀ (H1 : Heap) (locs1 : List Loc), WW E b MC TC (us MM o k x) TM s H1 locs1 → W p l e R s m args below meth c H1 locs1 cells slots Q (F0 m (pc + 3) ls rest)) : W p l e R s m args below meth c H locs cells slots Q (F0 m pc ls (v :: .ref (b + o) :: rest)) :=
  r_put X hw ho hce hce2 (fun a ha => by rw [us_ne _ _ _ ha]) hin hty hnm hc hk hlink hT hfin hd hn hfit hl hdg kk
/-- an int array of the class's memory -/
theorem aldC (X : CX E p s m args c cc nL own) (hw : WW E b MC TC MM TM s H locs) {o n : Nat} (hkd : kd o = (1, n)) {i v : Int32} (hv : ldA n (MC o) i = some v) (hdg : decode cc pc = .ok (.iaload, 1)) (kk : W p l e R s m args below meth c H locs cells slots Q (F0 m (pc + 1) ls (.int v :: rest))) : W p l e R s m args below meth c H locs cells slots Q (F0 m pc ls (.int i :: .ref (b + o) :: rest)) := by
  obtain ⟨hi, rfl⟩ := ldA_s hv
  exact va_iald X.1 X.2.1 X.2.2.2.2.2.1 hw.1 o 0 (by rw [wl_get E b MC TC MM TM (kd_lt' hkd (by decide)), ce_1 E _ _ _ _ hkd]) rfl hi hdg kk
theorem aldM (X : CX E p s m args c cc nL own) (hw : WW E b MC TC MM TM s H locs) {o n : Nat} (hkd : kd o = (14, n)) {i v : Int32} (hv : ldA n (MM o) i = some v) (hdg : decode cc pc = .ok (.iaload, 1)) (kk : W p l e R s m args below meth c H locs cells slots Q (F0 m (pc + 1) ls (.int v :: rest))) : W p l e R s m args below meth c H locs cells slots Q (F0 m pc ls (.int i :: .ref (b + o) :: rest)) := by
  obtain ⟨hi, rfl⟩ := ldA_s hv
  exact va_iald X.1 X.2.1 X.2.2.2.2.2.1 hw.1 o 0 (by rw [wl_get E b MC TC MM TM (kd_lt' hkd (by decide)), ce_14 E _ _ _ _ hkd]) rfl hi hdg kk
theorem zldC (X : CX E p s m args c cc nL own) (hw : WW E b MC TC MM TM s H locs) {o n : Nat} (hkd : kd o = (2, n)) {i v : Int32} (hv : ldA n (MC o) i = some v) (hdg : decode cc pc = .ok (.baload, 1)) (kk : W p l e R s m args below meth c H locs cells slots Q (F0 m (pc + 1) ls (.int v :: rest))) : W p l e R s m args below meth c H locs cells slots Q (F0 m pc ls (.int i :: .ref (b + o) :: rest)) := by
  obtain ⟨hi, rfl⟩ := ldA_s hv
  exact va_zald X.1 X.2.1 X.2.2.2.2.2.1 hw.1 o 1 (by rw [wl_get E b MC TC MM TM (kd_lt' hkd (by decide)), ce_2 E _ _ _ _ hkd]) rfl hi hdg kk
theorem zldM (X : CX E p s m args c cc nL own) (hw : WW E b MC TC MM TM s H locs) {o n : Nat} (hkd : kd o = (15, n)) {i v : Int32} (hv : ldA n (MM o) i = some v) (hdg : decode cc pc = .ok (.baload, 1)) (kk : W p l e R s m args below meth c H locs cells slots Q (F0 m (pc + 1) ls (.int v :: rest))) : W p l e R s m args below meth c H locs cells slots Q (F0 m pc ls (.int i :: .ref (b + o) :: rest)) := by
  obtain ⟨hi, rfl⟩ := ldA_s hv
  exact va_zald X.1 X.2.1 X.2.2.2.2.2.1 hw.1 o 1 (by rw [wl_get E b MC TC MM TM (kd_lt' hkd (by decide)), ce_15 E _ _ _ _ hkd]) rfl hi hdg kk
theorem astC (X : CX E p s m args c cc nL own) (hw : WW E b MC TC MM TM s H locs) {o n : Nat} (hkd : kd o = (1, n)) {i x : Int32} {M1 : Mem} (hv : stA n MC o i x = some M1) (hdg : decode cc pc = .ok (.iastore, 1)) (kk : ∀ (H1 : Heap) (locs1 : List Loc), WW E b M1 TC MM TM s H1 locs1 → W p l e R s m args below meth c H1 locs1 cells slots Q (F0 m (pc + 1) ls rest)) : W p l e R s m args below meth c H locs cells slots Q (F0 m pc ls (.int x :: .int i :: .ref (b + o) :: rest)) := by
  obtain ⟨hi, rfl⟩ := stA_s hv
  have ho := kd_lt' hkd (by decide)
  refine va_iast X.1 X.2.1 X.2.2.2.2.2.1 hw.1 (wl_D E b MC TC MM TM) hw.2 o 0 (by rw [wl_get E b MC TC MM TM ho, ce_1 E _ _ _ _ hkd]) rfl hi hdg (fun H1 locs1 hP _ hS => kk H1 locs1 ⟨?_, hS⟩)
  rw [wl_set (MC' := us MC o i.toNatClampNeg x) (MM' := MM) (TC' := TC) (TM' := TM) ho (by rw [us_at, ce_1 E _ _ _ _ hkd]) (fun a ha => by rw [us_ne _ _ _ ha])] at hP
  exact hP
theorem astM (X : CX E p s m args c cc nL own) (hw : WW E b MC TC MM TM s H locs) {o n : Nat} (hkd : kd o = (14, n)) {i x : Int32} {M1 : Mem} (hv : stA n MM o i x = some M1) (hdg : decode cc pc = .ok (.iastore, 1)) (kk : ∀ (H1 : Heap) (locs1 : List Loc), WW E b MC TC M1 TM s H1 locs1 → W p l e R s m args below meth c H1 locs1 cells slots Q (F0 m (pc + 1) ls rest)) : W p l e R s m args below meth c H locs cells slots Q (F0 m pc ls (.int x :: .int i :: .ref (b + o) :: rest)) := by
  obtain ⟨hi, rfl⟩ := stA_s hv
  have ho := kd_lt' hkd (by decide)
  refine va_iast X.1 X.2.1 X.2.2.2.2.2.1 hw.1 (wl_D E b MC TC MM TM) hw.2 o 0 (by rw [wl_get E b MC TC MM TM ho, ce_14 E _ _ _ _ hkd]) rfl hi hdg (fun H1 locs1 hP _ hS => kk H1 locs1 ⟨?_, hS⟩)
  rw [wl_set (MC' := MC) (MM' := us MM o i.toNatClampNeg x) (TC' := TC) (TM' := TM) ho (by rw [us_at, ce_14 E _ _ _ _ hkd]) (fun a ha => by rw [us_ne _ _ _ ha])] at hP
  exact hP
theorem nar_z {x : Int32} (h : x = 0 ∨ x = 1) : vp_nar .boolean x = x := by rcases h with rfl | rfl <;> decide +kernel
theorem zstC (X : CX E p s m args c cc nL own) (hw : WW E b MC TC MM TM s H locs) {o n : Nat} (hkd : kd o = (2, n)) {i x : Int32} {M1 : Mem} (hv : stZ n MC o i x = some M1) (hdg : decode cc pc = .ok (.bastore, 1)) (kk : ∀ (H1 : Heap) (locs1 : List Loc), WW E b M1 TC MM TM s H1 locs1 → W p l e R s m args below meth c H1 locs1 cells slots Q (F0 m (pc + 1) ls rest)) : W p l e R s m args below meth c H locs cells slots Q (F0 m pc ls (.int x :: .int i :: .ref (b + o) :: rest)) := by
  obtain ⟨hi, hz, rfl⟩ := stZ_s hv
  have ho := kd_lt' hkd (by decide)
  refine va_zast X.1 X.2.1 X.2.2.2.2.2.1 hw.1 (wl_D E b MC TC MM TM) hw.2 o 1 (by rw [wl_get E b MC TC MM TM ho, ce_2 E _ _ _ _ hkd]) rfl hi hdg (fun H1 locs1 hP _ hS => kk H1 locs1 ⟨?_, hS⟩)
  rw [nar_z hz, wl_set (MC' := us MC o i.toNatClampNeg x) (MM' := MM) (TC' := TC) (TM' := TM) ho (by rw [us_at, ce_2 E _ _ _ _ hkd]) (fun a ha => by rw [us_ne _ _ _ ha])] at hP
  exact hP
theorem zstM (X : CX E p s m args c cc nL own) (hw : WW E b MC TC MM TM s H locs) {o n : Nat} (hkd : kd o = (15, n)) {i x : Int32} {M1 : Mem} (hv : stZ n MM o i x = some M1) (hdg : decode cc pc = .ok (.bastore, 1)) (kk : ∀ (H1 : Heap) (locs1 : List Loc), WW E b MC TC M1 TM s H1 locs1 → W p l e R s m args below meth c H1 locs1 cells slots Q (F0 m (pc + 1) ls rest)) : W p l e R s m args below meth c H locs cells slots Q (F0 m pc ls (.int x :: .int i :: .ref (b + o) :: rest)) := by
  obtain ⟨hi, hz, rfl⟩ := stZ_s hv
  have ho := kd_lt' hkd (by decide)
  refine va_zast X.1 X.2.1 X.2.2.2.2.2.1 hw.1 (wl_D E b MC TC MM TM) hw.2 o 1 (by rw [wl_get E b MC TC MM TM ho, ce_15 E _ _ _ _ hkd]) rfl hi hdg (fun H1 locs1 hP _ hS => kk H1 locs1 ⟨?_, hS⟩)
  rw [nar_z hz, wl_set (MC' := MC) (MM' := us MM o i.toNatClampNeg x) (TC' := TC) (TM' := TM) ho (by rw [us_at, ce_15 E _ _ _ _ hkd]) (fun a ha => by rw [us_ne _ _ _ ha])] at hP
  exact hP
theorem alenC (X : CX E p s m args c cc nL own) (hw : WW E b MC TC MM TM s H locs) {o n : Nat} (hkd : kd o = (1, n)) {v : Int32} (hv : Int32.ofNat n = v) (hdg : decode cc pc = .ok (.arraylength, 1)) (kk : W p l e R s m args below meth c H locs cells slots Q (F0 m (pc + 1) ls (.int v :: rest))) : W p l e R s m args below meth c H locs cells slots Q (F0 m pc ls (.ref (b + o) :: rest)) :=
  va_alen X.1 X.2.1 X.2.2.2.2.2.1 hw.1 o 0 (by rw [wl_get E b MC TC MM TM (kd_lt' hkd (by decide)), ce_1 E _ _ _ _ hkd]) (ty := .int) rfl hv hdg kk
/-- rows of Moments, of Times -/
theorem rldM (X : CX E p s m args c cc nL own) (hw : WW E b MC TC MM TM s H locs) {kn o n : Nat} (hkd : kd o = (11, n)) {i v : Int32} (hv : ldR kn n (MC o) i = some v) (hdg : decode cc pc = .ok (.aaload, 1)) (kk : W p l e R s m args below meth c H locs cells slots Q (F0 m (pc + 1) ls (.ref (b + v.toNatClampNeg) :: rest))) : W p l e R s m args below meth c H locs cells slots Q (F0 m pc ls (.int i :: .ref (b + o) :: rest)) := by
  obtain ⟨hi, rfl, -⟩ := ldR_s hv
  exact va_aldq (f := fun i => some (b + (MC o i).toNatClampNeg)) X.1 X.2.1 X.2.2.2.2.2.1 hw.1 o 2 (by rw [wl_get E b MC TC MM TM (kd_lt' hkd (by decide)), ce_11 E _ _ _ _ hkd]) rfl hi hdg kk
theorem rldT (X : CX E p s m args c cc nL own) (hw : WW E b MC TC MM TM s H locs) {kn o n : Nat} (hkd : kd o = (12, n)) {i v : Int32} (hv : ldR kn n (MC o) i = some v) (hdg : decode cc pc = .ok (.aaload, 1)) (kk : W p l e R s m args below meth c H locs cells slots Q (F0 m (pc + 1) ls (.ref (b + v.toNatClampNeg) :: rest))) : W p l e R s m args below meth c H locs cells slots Q (F0 m pc ls (.int i :: .ref (b + o) :: rest)) := by
  obtain ⟨hi, rfl, -⟩ := ldR_s hv
  exact va_aldq (f := fun i => some (b + (MC o i).toNatClampNeg)) X.1 X.2.1 X.2.2.2.2.2.1 hw.1 o 3 (by rw [wl_get E b MC TC MM TM (kd_lt' hkd (by decide)), ce_12 E _ _ _ _ hkd]) rfl hi hdg kk
theorem rstM (X : CX E p s m args c cc nL own) (hw : WW E b MC TC MM TM s H locs) {o n : Nat} (hkd : kd o = (11, n)) {i x : Int32} {M1 : Mem} (hk : (kd x.toNatClampNeg).1 = 3) (hv : stA n MC o i x = some M1) (hdg : decode cc pc = .ok (.aastore, 1)) (kk : ∀ (H1 : Heap) (locs1 : List Loc), WW E b M1 TC MM TM s H1 locs1 → W p l e R s m args below meth c H1 locs1 cells slots Q (F0 m (pc + 1) ls rest)) : W p l e R s m args below meth c H locs cells slots Q (F0 m pc ls (.ref (b + x.toNatClampNeg) :: .int i :: .ref (b + o) :: rest)) := by
  obtain ⟨hi, rfl⟩ := stA_s hv
  have ho := kd_lt' hkd (by decide)
  refine va_astq X.1 X.2.1 X.2.2.2.2.2.1 hw.1 (wl_D E b MC TC MM TM) hw.2 o 2 x.toNatClampNeg 1 (by rw [wl_get E b MC TC MM TM ho, ce_11 E _ _ _ _ hkd]) (r := (RX1, TX1, 6)) rfl (by rw [wl_get E b MC TC MM TM (kd_lt (by rw [hk]; decide)), ce_X1 E _ _ _ _ hk]) rfl hi hdg (fun H1 locs1 hP _ hS => kk H1 locs1 ⟨?_, hS⟩)
  rw [wl_set (MC' := us MC o i.toNatClampNeg x) (MM' := MM) (TC' := TC) (TM' := TM) ho ?_ (fun a ha => by rw [us_ne _ _ _ ha])] at hP
  · exact hP
  · rw [us_at, ce_11 E _ _ _ _ hkd]
    congr 7
    funext q
    by_cases hq : q = i.toNatClampNeg
    · subst hq; simp [upd, va_up]
    · simp [upd, va_up, hq]
theorem cpyC (X : CX E p s m args c cc nL own) (hw : WW E b MC TC MM TM s H locs) (hsz : ls.size = nL) {o0 o1 n0 n1 index : Nat} (hk0 : kd o0 = (1, n0)) (hk1 : kd o1 = (1, n1)) {sp dp len : Int32} {M1 : Mem} (hv : cpA n0 n1 MC o0 sp o1 dp len = some M1) (hlink : Cond.methodLink own index arraycopyName ∈ wt) (hnat : Cond.native arraycopyName ∈ wt) (hstat : Cond.static arraycopyName ∈ wt) (hini : Cond.initialized "java/lang/System" ∈ wt) (hframes : 1 ≤ R.frames) (hlocals : (rest.map fun v => v.category).sum + (nativeFrameWords "java/lang/System" "arraycopy" 5 + 11) ≤ R.locals) (hdg : decode cc pc = .ok (.invokestatic index, 3)) (kk : ∀ (H1 : Heap) (locs1 : List Loc), WW E b M1 TC MM TM s H1 locs1 → W p l e R s m args below meth c H1 locs1 cells slots Q (F0 m (pc + 3) ls rest)) : W p l e R s m args below meth c H locs cells slots Q (F0 m pc ls (.int len :: .int dp :: .ref (b + o1) :: .int sp :: .ref (b + o0) :: rest)) := by
  obtain ⟨h1, h2, h3, h4, h5, rfl⟩ := cpA_s hv
  have ho0 := kd_lt' hk0 (by decide)
  have ho1 := kd_lt' hk1 (by decide)
  have hts := X.2.2.2.2.1
  refine va_copyi X.1 X.2.1 (by rw [X.2.2.1, hsz]) X.2.2.2.1 (hts _ hlink) (hts _ hnat) (hts _ hstat) (hts _ hini) X.2.2.2.2.2.1 hw.1 (wl_D E b MC TC MM TM) hw.2 o0 o1 0 0 (by rw [wl_get E b MC TC MM TM ho0, ce_1 E _ _ _ _ hk0]) (by rw [wl_get E b MC TC MM TM ho1, ce_1 E _ _ _ _ hk1]) (ty := .int) rfl rfl rfl h1 h2 h3 h4 h5 (fun _ _ => rfl) hframes hlocals hdg (fun H1 locs1 hP _ hS => kk H1 locs1 ⟨?_, hS⟩)
  rw [wl_set (MC' := uf MC o1 (va_cpy (MC o0) (MC o1) sp.toNatClampNeg dp.toNatClampNeg len.toNatClampNeg)) (MM' := MM) (TC' := TC) (TM' := TM) ho1 (by rw [uf_at, ce_1 E _ _ _ _ hk1]) (fun a ha => by rw [uf_ne _ _ ha])] at hP
  exact hP
-- contracts and calls
def MetI (l : Launch) (E : EE) (b : Nat) (y : MethodName) (cd : Cond) (rm : Room) (av : List Value) (MC : Mem) (TC : Int64) (MM : Mem) (TM : Int64) (r : Int32) (MC' : Mem) (TC' : Int64) (MM' : Mem) (TM' : Int64) : Prop :=
  Met l y (cd :: wt) rm (va_Pc av (PW E b MC TC MM TM)) (va_Qi (fun x (_ : Unit) => x = r) (fun _ t => PW E b MC' TC' MM' TM' t) (AA b)) 0 0 (AA b)
def MetL (l : Launch) (E : EE) (b : Nat) (y : MethodName) (cd : Cond) (rm : Room) (av : List Value) (MC : Mem) (TC : Int64) (MM : Mem) (TM : Int64) (r : Int64) (MC' : Mem) (TC' : Int64) (MM' : Mem) (TM' : Int64) : Prop :=
  Met l y (cd :: wt) rm (va_Pc av (PW E b MC TC MM TM)) (va_Ql (fun x (_ : Unit) => x = r) (fun _ t => PW E b MC' TC' MM' TM' t) (AA b)) 0 0 (AA b)
def MetV (l : Launch) (E : EE) (b : Nat) (y : MethodName) (cd : Cond) (rm : Room) (av : List Value) (MC : Mem) (TC : Int64) (MM : Mem) (TM : Int64) (MC' : Mem) (TC' : Int64) (MM' : Mem) (TM' : Int64) : Prop :=
  Met l y (cd :: wt) rm (va_Pc av (PW E b MC TC MM TM)) (va_Qv (fun (_ : Unit) => True) (fun _ t => PW E b MC' TC' MM' TM' t) (AA b)) 0 0 (AA b)
theorem gw {Ts : List Cond} {cd : Cond} (h : cd ∈ wt) : GoodIn wt (cd :: wt) := fun w hw => by
  rcases List.mem_cons.mp hw with rfl | q
  · exact ⟨h, wt_good _ h⟩
  · exact ⟨q, wt_good _ q⟩
theorem gwV {own C : String} {index : Nat} {y : MethodName} {cd : Cond} (h1 : Cond.methodLink own index y ∈ wt) (h2 : Cond.instanceMethod y ∈ wt) (h3 : Cond.selects C y y ∈ wt) (h4 : Cond.initialized C ∈ wt) (h : cd ∈ wt) : GoodIn wt (wsV own index C y (cd :: wt)) := fun w hw => by
  have : w ∈ wt := by
    rcases List.mem_append.mp hw with q | q
    · simp only [List.mem_cons, List.not_mem_nil, or_false] at q
      rcases q with rfl | rfl | rfl | rfl <;> assumption
    · exact (gw (Ts := wt) h w q).1
  exact ⟨this, wt_good _ this⟩
theorem blind (av : List Value) : FrameBlind (va_Pc av (PW E b MC TC MM TM)) := fun a U g mk q => by
  obtain ⟨q0, q1, q2, q3⟩ := q
  exact ⟨q0, q1, va_K.moved (u := U) (U := U.calling g mk a) (Vm.Alike.refl U.vm) q2, fun w hw => va_Nw.same rfl rfl (q3 w hw)⟩
theorem preS (X : CX E p s m args c cc nL own) (hw : WW E b MC TC MM TM s H locs) (av : List Value) : PreS s H (va_Pc av (PW E b MC TC MM TM)) av :=
  ⟨blind av, fun U hU hW => ⟨rfl, by rw [hU]; exact hw.1, X.2.2.2.2.2.warm hW⟩⟩
theorem preV (X : CX E p s m args c cc nL own) (hw : WW E b MC TC MM TM s H locs) {o ci N : Nat} {C : String} {T : u_T} {fs : List Value} {As : List Value} (ho : o < 212) (hce : cel E b o (MC o) (MM o) TC TM = .inr (ci, fs)) (hc : vwCl[ci]? = some (C, T, N)) : PreV s H C (b + o) (va_Pc (.ref (b + o) :: As) (PW E b MC TC MM TM)) As :=
  ⟨blind _, va_recv (q0 := o) (fs := fs) X.2.2.2.2.2.1 hw.1 hc (by rw [wl_get E b MC TC MM TM ho, hce]), fun U hU hW => ⟨rfl, by rw [hU]; exact hw.1, X.2.2.2.2.2.warm hW⟩⟩
theorem free_ok {q : Nat} {H : Heap} (h : AA b q) : AA b q := h
variable {y : MethodName} {bytes : ByteArray} {maxL index n : Nat} {ret : Option FieldType} {rm : Room} {As : List Value} {st : List Value}
abbrev Hd (y : MethodName) (C : String) (n : Nat) : Prop := y.cls = C ∧ y.cls ≠ "java/lang/invoke/MethodHandle" ∧ y.cls ≠ "java/lang/invoke/VarHandle" ∧ (parseMethodDescriptor y.desc).map (fun d => d.parameters.length) = some n
abbrev Rm (R rm : Room) (maxL : Nat) : Prop := rm.frames + 1 ≤ R.frames ∧ 8 + (maxL + 11) + rm.locals ≤ R.locals ∧ rm.cells = 0 ∧ rm.slots = 0
abbrev CW (own C : String) (index : Nat) (y : MethodName) (bytes : ByteArray) (maxL : Nat) (ret : Option FieldType) : Prop := Cond.methodLink own index y ∈ wt ∧ Cond.instanceMethod y ∈ wt ∧ Cond.selects C y y ∈ wt ∧ Cond.initialized C ∈ wt ∧ Cond.code y bytes maxL ret ∈ wt
abbrev CWS (own C : String) (index : Nat) (y : MethodName) (bytes : ByteArray) (maxL : Nat) (ret : Option FieldType) : Prop := Cond.methodLink own index y ∈ wt ∧ Cond.static y ∈ wt ∧ Cond.initialized C ∈ wt ∧ Cond.code y bytes maxL ret ∈ wt
theorem cw_of {C : String} (X : CX E p s m args c cc nL own) (cw : CW own C index y bytes maxL ret) (hd : Hd y C n) (hR : Rm R rm maxL) : CallW R s args own C index y bytes maxL ret (Cond.code y bytes maxL ret :: wt) rm 0 0 n :=
  cwV n X.2.2.2.2.1 (gwV cw.1 cw.2.1 cw.2.2.1 cw.2.2.2.1 cw.2.2.2.2) rfl hR.2.2.1 hR.2.2.2 hd ⟨hR.1, hR.2.1⟩
theorem cws_of {C : String} (X : CX E p s m args c cc nL own) (cw : CWS own C index y bytes maxL ret) (hd : Hd y C n) (hR : Rm R rm maxL) : CallB R s args own index y bytes maxL ret (Cond.code y bytes maxL ret :: wt) rm 0 0 n ∧ (Cond.static y).before args s = true := by
  obtain ⟨hC, hd⟩ := hd
  exact ⟨callB_of n X.2.2.2.2.1 (gw (Ts := wt) cw.2.2.2) rfl hR.2.2.1 hR.2.2.2 (by rw [hC]; exact X.2.2.2.2.1 _ cw.2.2.1) (X.2.2.2.2.1 _ cw.1) hd ⟨hR.1, hR.2.1⟩, X.2.2.2.2.1 _ cw.2.1⟩
theorem kI {r : Int32} {a : Array Value} (hr : va_Run p l e R s m args below meth c H locs 0 0 0 0 (F0 m pc ls st) rest (va_Qi (fun x (_ : Unit) => x = r) (fun _ t => PW E b MC' TC' MM' TM' t) (AA b) a) (AA b)) (hw : WW E b MC TC MM TM s H locs) (kk : ∀ (H1 : Heap) (locs1 : List Loc), WW E b MC' TC' MM' TM' s H1 locs1 → W p l e R s m args below meth c H1 locs1 0 0 Q (F0 m (pc + 3) ls (.int r :: rest))) : W p l e R s m args below meth c H locs 0 0 Q (F0 m pc ls st) := by
  refine va_calli hr hw.2 (fun q _ h => h) (fun q h => h) (fun r' u t H1 locs1 ht hvm hp hB hz hk hS => ?_)
  subst hp
  exact kk H1 locs1 ⟨by rw [← ht]; exact hB.1, hS⟩
theorem kL {r : Int64} {a : Array Value} (hr : va_Run p l e R s m args below meth c H locs 0 0 0 0 (F0 m pc ls st) rest (va_Ql (fun x (_ : Unit) => x = r) (fun _ t => PW E b MC' TC' MM' TM' t) (AA b) a) (AA b)) (hw : WW E b MC TC MM TM s H locs) (kk : ∀ (H1 : Heap) (locs1 : List Loc), WW E b MC' TC' MM' TM' s H1 locs1 → W p l e R s m args below meth c H1 locs1 0 0 Q (F0 m (pc + 3) ls (.long r :: rest))) : W p l e R s m args below meth c H locs 0 0 Q (F0 m pc ls st) := by
  refine va_calll hr hw.2 (fun q _ h => h) (fun q h => h) (fun r' u t H1 locs1 ht hvm hp hB hz hk hS => ?_)
  subst hp
  exact kk H1 locs1 ⟨by rw [← ht]; exact hB.1, hS⟩
theorem kV {a : Array Value} (hr : va_Run p l e R s m args below meth c H locs 0 0 0 0 (F0 m pc ls st) rest (va_Qv (fun (_ : Unit) => True) (fun _ t => PW E b MC' TC' MM' TM' t) (AA b) a) (AA b)) (hw : WW E b MC TC MM TM s H locs) (kk : ∀ (H1 : Heap) (locs1 : List Loc), WW E b MC' TC' MM' TM' s H1 locs1 → W p l e R s m args below meth c H1 locs1 0 0 Q (F0 m (pc + 3) ls rest)) : W p l e R s m args below meth c H locs 0 0 Q (F0 m pc ls st) := by
  refine va_callv hr hw.2 (fun q _ h => h) (fun q h => h) (fun u t H1 locs1 ht hvm hp hB hz hk hS => ?_)
  exact kk H1 locs1 ⟨by rw [← ht]; exact hB.1, hS⟩
theorem cVi {C : String} {o ci N : Nat} {T : u_T} {fs : List Value} {r : Int32} (X : CX E p s m args c cc nL own) (hw : WW E b MC TC MM TM s H locs) (hM : MetI l E b y (.code y bytes maxL ret) rm (.ref (b + o) :: As) MC TC MM TM r MC' TC' MM' TM') (cw : CW own C index y bytes maxL ret) (hd : Hd y C n) (hR : Rm R rm maxL) (ho : o < 212) (hce : cel E b o (MC o) (MM o) TC TM = .inr (ci, fs)) (hc : vwCl[ci]? = some (C, T, N)) (hn : As.length = n) (hsz : ls.size = nL) (hst : st = As.reverse ++ .ref (b + o) :: rest) (hW : (rest.map fun v => v.category).sum ≤ 8) (hdg : decode cc pc = .ok (.invokevirtual index, 3)) (kk : ∀ (H1 : Heap) (locs1 : List Loc), WW E b MC' TC' MM' TM' s H1 locs1 → W p l e R s m args below meth c H1 locs1 0 0 Q (F0 m (pc + 3) ls (.int r :: rest))) : W p l e R s m args below meth c H locs 0 0 Q (F0 m pc ls st) := by
  subst hst
  exact kI (va_runV (As := As) (rest := rest) ⟨X.1, X.2.1, X.2.2.1, X.2.2.2.1, X.2.2.2.2.1⟩ hM (cw_of X cw hd hR) (preV X hw ho hce hc) rfl hn hsz rfl (lv_room hW) hdg ⟨Nat.zero_le _, Nat.zero_le _⟩) hw kk
theorem cVl {C : String} {o ci N : Nat} {T : u_T} {fs : List Value} {r : Int64} (X : CX E p s m args c cc nL own) (hw : WW E b MC TC MM TM s H locs) (hM : MetL l E b y (.code y bytes maxL ret) rm (.ref (b + o) :: As) MC TC MM TM r MC' TC' MM' TM') (cw : CW own C index y bytes maxL ret) (hd : Hd y C n) (hR : Rm R rm maxL) (ho : o < 212) (hce : cel E b o (MC o) (MM o) TC TM = .inr (ci, fs)) (hc : vwCl[ci]? = some (C, T, N)) (hn : As.length = n) (hsz : ls.size = nL) (hst : st = As.reverse ++ .ref (b + o) :: rest) (hW : (rest.map fun v => v.category).sum ≤ 8) (hdg : decode cc pc = .ok (.invokevirtual index, 3)) (kk : ∀ (H1 : Heap) (locs1 : List Loc), WW E b MC' TC' MM' TM' s H1 locs1 → W p l e R s m args below meth c H1 locs1 0 0 Q (F0 m (pc + 3) ls (.long r :: rest))) : W p l e R s m args below meth c H locs 0 0 Q (F0 m pc ls st) := by
  subst hst
  exact kL (va_runV (As := As) (rest := rest) ⟨X.1, X.2.1, X.2.2.1, X.2.2.2.1, X.2.2.2.2.1⟩ hM (cw_of X cw hd hR) (preV X hw ho hce hc) rfl hn hsz rfl (lv_room hW) hdg ⟨Nat.zero_le _, Nat.zero_le _⟩) hw kk
theorem cVv {C : String} {o ci N : Nat} {T : u_T} {fs : List Value} (X : CX E p s m args c cc nL own) (hw : WW E b MC TC MM TM s H locs) (hM : MetV l E b y (.code y bytes maxL ret) rm (.ref (b + o) :: As) MC TC MM TM MC' TC' MM' TM') (cw : CW own C index y bytes maxL ret) (hd : Hd y C n) (hR : Rm R rm maxL) (ho : o < 212) (hce : cel E b o (MC o) (MM o) TC TM = .inr (ci, fs)) (hc : vwCl[ci]? = some (C, T, N)) (hn : As.length = n) (hsz : ls.size = nL) (hst : st = As.reverse ++ .ref (b + o) :: rest) (hW : (rest.map fun v => v.category).sum ≤ 8) (hdg : decode cc pc = .ok (.invokevirtual index, 3)) (kk : ∀ (H1 : Heap) (locs1 : List Loc), WW E b MC' TC' MM' TM' s H1 locs1 → W p l e R s m args below meth c H1 locs1 0 0 Q (F0 m (pc + 3) ls rest)) : W p l e R s m args below meth c H locs 0 0 Q (F0 m pc ls st) := by
  subst hst
  exact kV (va_runV (As := As) (rest := rest) ⟨X.1, X.2.1, X.2.2.1, X.2.2.2.1, X.2.2.2.2.1⟩ hM (cw_of X cw hd hR) (preV X hw ho hce hc) rfl hn hsz rfl (lv_room hW) hdg ⟨Nat.zero_le _, Nat.zero_le _⟩) hw kk
theorem cSi {C : String} {r : Int32} (X : CX E p s m args c cc nL own) (hw : WW E b MC TC MM TM s H locs) (hM : MetI l E b y (.code y bytes maxL ret) rm As MC TC MM TM r MC' TC' MM' TM') (cw : CWS own C index y bytes maxL ret) (hd : Hd y C n) (hR : Rm R rm maxL) (hn : As.length = n) (hsz : ls.size = nL) (hst : st = As.reverse ++ rest) (hW : (rest.map fun v => v.category).sum ≤ 8) (hdg : decode cc pc = .ok (.invokestatic index, 3)) (kk : ∀ (H1 : Heap) (locs1 : List Loc), WW E b MC' TC' MM' TM' s H1 locs1 → W p l e R s m args below meth c H1 locs1 0 0 Q (F0 m (pc + 3) ls (.int r :: rest))) : W p l e R s m args below meth c H locs 0 0 Q (F0 m pc ls st) := by
  subst hst
  exact kI (va_runS (As := As) (rest := rest) ⟨X.1, X.2.1, X.2.2.1, X.2.2.2.1, X.2.2.2.2.1⟩ hM (cws_of X cw hd hR) (preS X hw As) rfl hn hsz rfl (lv_room hW) hdg ⟨Nat.zero_le _, Nat.zero_le _⟩) hw kk
theorem cSv {C : String} (X : CX E p s m args c cc nL own) (hw : WW E b MC TC MM TM s H locs) (hM : MetV l E b y (.code y bytes maxL ret) rm As MC TC MM TM MC' TC' MM' TM') (cw : CWS own C index y bytes maxL ret) (hd : Hd y C n) (hR : Rm R rm maxL) (hn : As.length = n) (hsz : ls.size = nL) (hst : st = As.reverse ++ rest) (hW : (rest.map fun v => v.category).sum ≤ 8) (hdg : decode cc pc = .ok (.invokestatic index, 3)) (kk : ∀ (H1 : Heap) (locs1 : List Loc), WW E b MC' TC' MM' TM' s H1 locs1 → W p l e R s m args below meth c H1 locs1 0 0 Q (F0 m (pc + 3) ls rest)) : W p l e R s m args below meth c H locs 0 0 Q (F0 m pc ls st) := by
  subst hst
  exact kV (va_runS (As := As) (rest := rest) ⟨X.1, X.2.1, X.2.2.1, X.2.2.2.1, X.2.2.2.2.1⟩ hM (cws_of X cw hd hR) (preS X hw As) rfl hn hsz rfl (lv_room hW) hdg ⟨Nat.zero_le _, Nat.zero_le _⟩) hw kk
/-- a nest mate's private static method -/
theorem cNi {C host : String} {r : Int32} (X : CX E p s m args c cc nL own) (hw : WW E b MC TC MM TM s H locs) (hM : MetI l E b y (.code y bytes maxL ret) rm As MC TC MM TM r MC' TC' MM' TM') (hl : (own, index, y, host) ∈ nestW) (cw : Cond.static y ∈ wt ∧ Cond.initialized C ∈ wt ∧ Cond.code y bytes maxL ret ∈ wt) (hd : Hd y C n) (hR : Rm R rm maxL) (hn : As.length = n) (hsz : ls.size = nL) (hst : st = As.reverse ++ rest) (hW : (rest.map fun v => v.category).sum ≤ 8) (hdg : decode cc pc = .ok (.invokestatic index, 3)) (kk : ∀ (H1 : Heap) (locs1 : List Loc), WW E b MC' TC' MM' TM' s H1 locs1 → W p l e R s m args below meth c H1 locs1 0 0 Q (F0 m (pc + 3) ls (.int r :: rest))) : W p l e R s m args below meth c H locs 0 0 Q (F0 m pc ls st) := by
  subst hst
  obtain ⟨hC, hd⟩ := hd
  exact kI (va_runSN (As := As) (rest := rest) (host := host) ⟨X.1, X.2.1, X.2.2.1, X.2.2.2.1, X.2.2.2.2.1⟩ hM ⟨va_cnB n X.2.2.2.2.1 (gw (Ts := wt) cw.2.2) rfl hR.2.2.1 hR.2.2.2 (X.2.2.2.2.2.2 _ hl) (by rw [hC]; exact X.2.2.2.2.1 _ cw.2.1) hd ⟨hR.1, hR.2.1⟩, X.2.2.2.2.1 _ cw.1, trivial⟩ (preS X hw As) rfl hn hsz rfl (lv_room hW) hdg ⟨Nat.zero_le _, Nat.zero_le _⟩) hw kk
-- ends
theorem eI {v : Int32} (X : CX E p s m args c cc nL own) (hw : WW E b MC TC MM TM s H locs) (hr : meth.sig.returnType = some .int) (hlocks : meth.locks = false) (hdg : decode cc pc = .ok (.ireturn, 1)) : W p l e R s m args below meth c H locs 0 0 (MQ below (va_Qi (fun x (_ : Unit) => x = v) (fun _ t => PW E b MC TC MM TM t) (AA b)) args s 0 0 (AA b)) (F0 m pc ls [.int v]) :=
  W.iret X.1 X.2.1 hr (fun t ht hW => ⟨⟨v, (), rfl, rfl, ⟨by rw [ht]; exact hw.1, X.2.2.2.2.2.warm hW⟩⟩, hw.2.F ht⟩) hw.2.2.2 hdg hlocks
theorem eZ {v : Int32} (X : CX E p s m args c cc nL own) (hw : WW E b MC TC MM TM s H locs) (hz : v = 0 ∨ v = 1) (hr : meth.sig.returnType = some .boolean) (hlocks : meth.locks = false) (hdg : decode cc pc = .ok (.ireturn, 1)) : W p l e R s m args below meth c H locs 0 0 (MQ below (va_Qi (fun x (_ : Unit) => x = v) (fun _ t => PW E b MC TC MM TM t) (AA b)) args s 0 0 (AA b)) (F0 m pc ls [.int v]) :=
  W.zret X.1 X.2.1 hr (by rcases hz with rfl | rfl <;> rfl) (fun t ht hW => ⟨⟨v, (), rfl, rfl, ⟨by rw [ht]; exact hw.1, X.2.2.2.2.2.warm hW⟩⟩, hw.2.F ht⟩) hw.2.2.2 hdg hlocks
theorem eL {v : Int64} (X : CX E p s m args c cc nL own) (hw : WW E b MC TC MM TM s H locs) (hr : meth.sig.returnType = some .long) (hlocks : meth.locks = false) (hdg : decode cc pc = .ok (.lreturn, 1)) : W p l e R s m args below meth c H locs 0 0 (MQ below (va_Ql (fun x (_ : Unit) => x = v) (fun _ t => PW E b MC TC MM TM t) (AA b)) args s 0 0 (AA b)) (F0 m pc ls [.long v]) :=
  W.lret X.1 X.2.1 hr (fun t ht hW => ⟨⟨v, (), rfl, rfl, ⟨by rw [ht]; exact hw.1, X.2.2.2.2.2.warm hW⟩⟩, hw.2.F ht⟩) hw.2.2.2 hdg hlocks
theorem eV (X : CX E p s m args c cc nL own) (hw : WW E b MC TC MM TM s H locs) (hr : meth.sig.returnType = none) (hlocks : meth.locks = false) (hdg : decode cc pc = .ok (.return_, 1)) : W p l e R s m args below meth c H locs 0 0 (MQ below (va_Qv (fun (_ : Unit) => True) (fun _ t => PW E b MC TC MM TM t) (AA b)) args s 0 0 (AA b)) (F0 m pc ls []) :=
  W.vret X.1 X.2.1 hr (fun t ht hW => ⟨⟨(), rfl, trivial, ⟨by rw [ht]; exact hw.1, X.2.2.2.2.2.warm hW⟩⟩, hw.2.F ht⟩) hw.2.2.2 hdg hlocks
end ROW

theorem in_X1 : ∀ w ∈ u_ws RX1 TX1 6, w ∈ wt := fun w h => List.mem_filter.mpr ⟨(show ∀ w ∈ u_ws RX1 TX1 6, w ∈ lw_tbl by decide +kernel) w h, List.all_eq_true.mp (show (u_ws RX1 TX1 6).all goodWord = true by decide +kernel) w h⟩
theorem in_X4 : ∀ w ∈ u_ws RX4 TX4 2, w ∈ wt := fun w h => List.mem_filter.mpr ⟨(show ∀ w ∈ u_ws RX4 TX4 2, w ∈ lw_tbl by decide +kernel) w h, List.all_eq_true.mp (show (u_ws RX4 TX4 2).all goodWord = true by decide +kernel) w h⟩
theorem in_X2 : ∀ w ∈ u_ws RX2 TX2 8, w ∈ wt := fun w h => List.mem_filter.mpr ⟨(show ∀ w ∈ u_ws RX2 TX2 8, w ∈ lw_tbl by decide +kernel) w h, List.all_eq_true.mp (show (u_ws RX2 TX2 8).all goodWord = true by decide +kernel) w h⟩
theorem in_X6 : ∀ w ∈ u_ws RX6 TX6 6, w ∈ wt := fun w h => List.mem_filter.mpr ⟨(show ∀ w ∈ u_ws RX6 TX6 6, w ∈ lw_tbl by decide +kernel) w h, List.all_eq_true.mp (show (u_ws RX6 TX6 6).all goodWord = true by decide +kernel) w h⟩
theorem in_X5 : ∀ w ∈ u_ws RX5 TX5 3, w ∈ wt := fun w h => List.mem_filter.mpr ⟨(show ∀ w ∈ u_ws RX5 TX5 3, w ∈ lw_tbl by decide +kernel) w h, List.all_eq_true.mp (show (u_ws RX5 TX5 3).all goodWord = true by decide +kernel) w h⟩
theorem in_X0 : ∀ w ∈ u_ws RX0 TX0 5, w ∈ wt := fun w h => List.mem_filter.mpr ⟨(show ∀ w ∈ u_ws RX0 TX0 5, w ∈ lw_tbl by decide +kernel) w h, List.all_eq_true.mp (show (u_ws RX0 TX0 5).all goodWord = true by decide +kernel) w h⟩
theorem in_X3 : ∀ w ∈ u_ws RX3 TX3 8, w ∈ wt := fun w h => List.mem_filter.mpr ⟨(show ∀ w ∈ u_ws RX3 TX3 8, w ∈ lw_tbl by decide +kernel) w h, List.all_eq_true.mp (show (u_ws RX3 TX3 8).all goodWord = true by decide +kernel) w h⟩
theorem in_X7 : ∀ w ∈ u_ws RX7 TX7 11, w ∈ wt := fun w h => List.mem_filter.mpr ⟨(show ∀ w ∈ u_ws RX7 TX7 11, w ∈ lw_tbl by decide +kernel) w h, List.all_eq_true.mp (show (u_ws RX7 TX7 11).all goodWord = true by decide +kernel) w h⟩
theorem in_X8 : ∀ w ∈ u_ws RX8 TX8 31, w ∈ wt := fun w h => List.mem_filter.mpr ⟨(show ∀ w ∈ u_ws RX8 TX8 31, w ∈ lw_tbl by decide +kernel) w h, List.all_eq_true.mp (show (u_ws RX8 TX8 31).all goodWord = true by decide +kernel) w h⟩
section CLS
variable {p : Program} {l : Launch} {e : Env} {R : Room} {s : State} {m : MethodId} {args : Array Value} {below : List Frame} {meth : Method} {c : Code} {H : Heap} {locs : List Loc} {cells slots : Nat} {Q : State → Prop} {E : EE} {b : Nat} {MC MM : Mem} {TC TM : Int64} {cc : ByteArray} {nL pc : Nat} {ls : Array Slot} {rest : List Value} {own : String}
theorem gt_X1 (X : CX E p s m args c cc nL own) (hw : WW E b MC TC MM TM s H locs) {o index : Nat} (k : Nat) {v : Value} (ho : (kd o).1 = 3) (hv : ([.ref (b + (o + 1)), .ref (b + (o + 2)), .ref (b + (o + 3)), .ref (b + (o + 4)), .int (MC o 4), .int (MC o 5)] : List Value)[k]? = some v) (hk : k < 6) (hlink : Cond.fieldLink own index RX1 (TX1 k).2.1 (TX1 k).2.2.1 ∈ wt) (hT : (TX1 k).1 = RX1) (hdg : decode cc pc = .ok (.getfield index, 3)) (kk : W p l e R s m args below meth c H locs cells slots Q (F0 m (pc + 3) ls (v :: rest))) : W p l e R s m args below meth c H locs cells slots Q (F0 m pc ls (.ref (b + o) :: rest)) := r_get X hw (kd_lt (by rw [ho]; decide)) (ce_X1 E _ _ _ _ ho) in_X1 (show vwCl[1]? = some (RX1, TX1, 6) from rfl) hk hlink hT hv hdg kk
theorem pt_X1_4 (X : CX E p s m args c cc nL own) (hw : WW E b MC TC MM TM s H locs) {o index : Nat} {x : Int32} (ho : (kd o).1 = 3) (hlink : Cond.fieldLink own index RX1 (TX1 4).2.1 (TX1 4).2.2.1 ∈ wt) (hdg : decode cc pc = .ok (.putfield index, 3)) (kk : ∀ (H1 : Heap) (locs1 : List Loc), WW E b (us MC o 4 x) TC MM TM s H1 locs1 → W p l e R s m args below meth c H1 locs1 cells slots Q (F0 m (pc + 3) ls rest)) : W p l e R s m args below meth c H locs cells slots Q (F0 m pc ls (.int x :: .ref (b + o) :: rest)) := by
  exact r_putC X hw (k := 4) (o := o) (kd_lt (by rw [ho]; decide)) (ce_X1 E _ _ _ _ ho) (by rw [ce_X1 E _ _ _ _ ho]; simp [us_at, upd]) in_X1 tyX1 tyX1_ok nmX1 (show vwCl[1]? = some (RX1, TX1, 6) from rfl) (by decide) hlink rfl rfl (ty := tyX1 4) (by decide +kernel) rfl rfl (Nat.le_of_ble_eq_true rfl) hdg kk
theorem pt_X1_5 (X : CX E p s m args c cc nL own) (hw : WW E b MC TC MM TM s H locs) {o index : Nat} {x : Int32} (ho : (kd o).1 = 3) (hlink : Cond.fieldLink own index RX1 (TX1 5).2.1 (TX1 5).2.2.1 ∈ wt) (hdg : decode cc pc = .ok (.putfield index, 3)) (kk : ∀ (H1 : Heap) (locs1 : List Loc), WW E b (us MC o 5 x) TC MM TM s H1 locs1 → W p l e R s m args below meth c H1 locs1 cells slots Q (F0 m (pc + 3) ls rest)) : W p l e R s m args below meth c H locs cells slots Q (F0 m pc ls (.int x :: .ref (b + o) :: rest)) := by
  exact r_putC X hw (k := 5) (o := o) (kd_lt (by rw [ho]; decide)) (ce_X1 E _ _ _ _ ho) (by rw [ce_X1 E _ _ _ _ ho]; simp [us_at, upd]) in_X1 tyX1 tyX1_ok nmX1 (show vwCl[1]? = some (RX1, TX1, 6) from rfl) (by decide) hlink rfl rfl (ty := tyX1 5) (by decide +kernel) rfl rfl (Nat.le_of_ble_eq_true rfl) hdg kk
theorem gt_X4 (X : CX E p s m args c cc nL own) (hw : WW E b MC TC MM TM s H locs) {o index : Nat} (k : Nat) {v : Value} (ho : (kd o).1 = 4) (hv : ([.ref (b + 2), .int (MC o 1)] : List Value)[k]? = some v) (hk : k < 2) (hlink : Cond.fieldLink own index RX4 (TX4 k).2.1 (TX4 k).2.2.1 ∈ wt) (hT : (TX4 k).1 = RX4) (hdg : decode cc pc = .ok (.getfield index, 3)) (kk : W p l e R s m args below meth c H locs cells slots Q (F0 m (pc + 3) ls (v :: rest))) : W p l e R s m args below meth c H locs cells slots Q (F0 m pc ls (.ref (b + o) :: rest)) := r_get X hw (kd_lt (by rw [ho]; decide)) (ce_X4 E _ _ _ _ ho) in_X4 (show vwCl[4]? = some (RX4, TX4, 2) from rfl) hk hlink hT hv hdg kk
theorem pt_X4_1 (X : CX E p s m args c cc nL own) (hw : WW E b MC TC MM TM s H locs) {o index : Nat} {x : Int32} (ho : (kd o).1 = 4) (hlink : Cond.fieldLink own index RX4 (TX4 1).2.1 (TX4 1).2.2.1 ∈ wt) (hdg : decode cc pc = .ok (.putfield index, 3)) (kk : ∀ (H1 : Heap) (locs1 : List Loc), WW E b (us MC o 1 x) TC MM TM s H1 locs1 → W p l e R s m args below meth c H1 locs1 cells slots Q (F0 m (pc + 3) ls rest)) : W p l e R s m args below meth c H locs cells slots Q (F0 m pc ls (.int x :: .ref (b + o) :: rest)) := by
  exact r_putC X hw (k := 1) (o := o) (kd_lt (by rw [ho]; decide)) (ce_X4 E _ _ _ _ ho) (by rw [ce_X4 E _ _ _ _ ho]; simp [us_at, upd]) in_X4 tyX4 tyX4_ok nmX4 (show vwCl[4]? = some (RX4, TX4, 2) from rfl) (by decide) hlink rfl rfl (ty := tyX4 1) (by decide +kernel) rfl rfl (Nat.le_of_ble_eq_true rfl) hdg kk
theorem gt_X2 (X : CX E p s m args c cc nL own) (hw : WW E b MC TC MM TM s H locs) {o index : Nat} (k : Nat) {v : Value} (ho : (kd o).1 = 5) (hv : ([.ref (b + 4), .ref (b + 1), .int (MC o 2), .int (MC o 3), .int (MC o 4), .int (MC o 5), .int (MC o 6), .int (MC o 7)] : List Value)[k]? = some v) (hk : k < 8) (hlink : Cond.fieldLink own index RX2 (TX2 k).2.1 (TX2 k).2.2.1 ∈ wt) (hT : (TX2 k).1 = RX2) (hdg : decode cc pc = .ok (.getfield index, 3)) (kk : W p l e R s m args below meth c H locs cells slots Q (F0 m (pc + 3) ls (v :: rest))) : W p l e R s m args below meth c H locs cells slots Q (F0 m pc ls (.ref (b + o) :: rest)) := r_get X hw (kd_lt (by rw [ho]; decide)) (ce_X2 E _ _ _ _ ho) in_X2 (show vwCl[2]? = some (RX2, TX2, 8) from rfl) hk hlink hT hv hdg kk
theorem pt_X2_2 (X : CX E p s m args c cc nL own) (hw : WW E b MC TC MM TM s H locs) {o index : Nat} {x : Int32} (ho : (kd o).1 = 5) (hlink : Cond.fieldLink own index RX2 (TX2 2).2.1 (TX2 2).2.2.1 ∈ wt) (hdg : decode cc pc = .ok (.putfield index, 3)) (kk : ∀ (H1 : Heap) (locs1 : List Loc), WW E b (us MC o 2 x) TC MM TM s H1 locs1 → W p l e R s m args below meth c H1 locs1 cells slots Q (F0 m (pc + 3) ls rest)) : W p l e R s m args below meth c H locs cells slots Q (F0 m pc ls (.int x :: .ref (b + o) :: rest)) := by
  exact r_putC X hw (k := 2) (o := o) (kd_lt (by rw [ho]; decide)) (ce_X2 E _ _ _ _ ho) (by rw [ce_X2 E _ _ _ _ ho]; simp [us_at, upd]) in_X2 tyX2 tyX2_ok nmX2 (show vwCl[2]? = some (RX2, TX2, 8) from rfl) (by decide) hlink rfl rfl (ty := tyX2 2) (by decide +kernel) rfl rfl (Nat.le_of_ble_eq_true rfl) hdg kk
theorem pt_X2_3 (X : CX E p s m args c cc nL own) (hw : WW E b MC TC MM TM s H locs) {o index : Nat} {x : Int32} (ho : (kd o).1 = 5) (hlink : Cond.fieldLink own index RX2 (TX2 3).2.1 (TX2 3).2.2.1 ∈ wt) (hdg : decode cc pc = .ok (.putfield index, 3)) (kk : ∀ (H1 : Heap) (locs1 : List Loc), WW E b (us MC o 3 x) TC MM TM s H1 locs1 → W p l e R s m args below meth c H1 locs1 cells slots Q (F0 m (pc + 3) ls rest)) : W p l e R s m args below meth c H locs cells slots Q (F0 m pc ls (.int x :: .ref (b + o) :: rest)) := by
  exact r_putC X hw (k := 3) (o := o) (kd_lt (by rw [ho]; decide)) (ce_X2 E _ _ _ _ ho) (by rw [ce_X2 E _ _ _ _ ho]; simp [us_at, upd]) in_X2 tyX2 tyX2_ok nmX2 (show vwCl[2]? = some (RX2, TX2, 8) from rfl) (by decide) hlink rfl rfl (ty := tyX2 3) (by decide +kernel) rfl rfl (Nat.le_of_ble_eq_true rfl) hdg kk
theorem pt_X2_4 (X : CX E p s m args c cc nL own) (hw : WW E b MC TC MM TM s H locs) {o index : Nat} {x : Int32} (ho : (kd o).1 = 5) (hlink : Cond.fieldLink own index RX2 (TX2 4).2.1 (TX2 4).2.2.1 ∈ wt) (hdg : decode cc pc = .ok (.putfield index, 3)) (kk : ∀ (H1 : Heap) (locs1 : List Loc), WW E b (us MC o 4 x) TC MM TM s H1 locs1 → W p l e R s m args below meth c H1 locs1 cells slots Q (F0 m (pc + 3) ls rest)) : W p l e R s m args below meth c H locs cells slots Q (F0 m pc ls (.int x :: .ref (b + o) :: rest)) := by
  exact r_putC X hw (k := 4) (o := o) (kd_lt (by rw [ho]; decide)) (ce_X2 E _ _ _ _ ho) (by rw [ce_X2 E _ _ _ _ ho]; simp [us_at, upd]) in_X2 tyX2 tyX2_ok nmX2 (show vwCl[2]? = some (RX2, TX2, 8) from rfl) (by decide) hlink rfl rfl (ty := tyX2 4) (by decide +kernel) rfl rfl (Nat.le_of_ble_eq_true rfl) hdg kk
theorem pt_X2_5 (X : CX E p s m args c cc nL own) (hw : WW E b MC TC MM TM s H locs) {o index : Nat} {x : Int32} (ho : (kd o).1 = 5) (hlink : Cond.fieldLink own index RX2 (TX2 5).2.1 (TX2 5).2.2.1 ∈ wt) (hdg : decode cc pc = .ok (.putfield index, 3)) (kk : ∀ (H1 : Heap) (locs1 : List Loc), WW E b (us MC o 5 x) TC MM TM s H1 locs1 → W p l e R s m args below meth c H1 locs1 cells slots Q (F0 m (pc + 3) ls rest)) : W p l e R s m args below meth c H locs cells slots Q (F0 m pc ls (.int x :: .ref (b + o) :: rest)) := by
  exact r_putC X hw (k := 5) (o := o) (kd_lt (by rw [ho]; decide)) (ce_X2 E _ _ _ _ ho) (by rw [ce_X2 E _ _ _ _ ho]; simp [us_at, upd]) in_X2 tyX2 tyX2_ok nmX2 (show vwCl[2]? = some (RX2, TX2, 8) from rfl) (by decide) hlink rfl rfl (ty := tyX2 5) (by decide +kernel) rfl rfl (Nat.le_of_ble_eq_true rfl) hdg kk
theorem pt_X2_6 (X : CX E p s m args c cc nL own) (hw : WW E b MC TC MM TM s H locs) {o index : Nat} {x : Int32} (ho : (kd o).1 = 5) (hz : x = 0 ∨ x = 1) (hlink : Cond.fieldLink own index RX2 (TX2 6).2.1 (TX2 6).2.2.1 ∈ wt) (hdg : decode cc pc = .ok (.putfield index, 3)) (kk : ∀ (H1 : Heap) (locs1 : List Loc), WW E b (us MC o 6 x) TC MM TM s H1 locs1 → W p l e R s m args below meth c H1 locs1 cells slots Q (F0 m (pc + 3) ls rest)) : W p l e R s m args below meth c H locs cells slots Q (F0 m pc ls (.int x :: .ref (b + o) :: rest)) := by
  exact r_putC X hw (k := 6) (o := o) (kd_lt (by rw [ho]; decide)) (ce_X2 E _ _ _ _ ho) (by rw [ce_X2 E _ _ _ _ ho]; simp [us_at, upd]) in_X2 tyX2 tyX2_ok nmX2 (show vwCl[2]? = some (RX2, TX2, 8) from rfl) (by decide) hlink rfl rfl (ty := tyX2 6) (by decide +kernel) (by rcases hz with rfl | rfl <;> rfl) (by rcases hz with rfl | rfl <;> rfl) (Nat.le_of_ble_eq_true rfl) hdg kk
theorem pt_X2_7 (X : CX E p s m args c cc nL own) (hw : WW E b MC TC MM TM s H locs) {o index : Nat} {x : Int32} (ho : (kd o).1 = 5) (hz : x = 0 ∨ x = 1) (hlink : Cond.fieldLink own index RX2 (TX2 7).2.1 (TX2 7).2.2.1 ∈ wt) (hdg : decode cc pc = .ok (.putfield index, 3)) (kk : ∀ (H1 : Heap) (locs1 : List Loc), WW E b (us MC o 7 x) TC MM TM s H1 locs1 → W p l e R s m args below meth c H1 locs1 cells slots Q (F0 m (pc + 3) ls rest)) : W p l e R s m args below meth c H locs cells slots Q (F0 m pc ls (.int x :: .ref (b + o) :: rest)) := by
  exact r_putC X hw (k := 7) (o := o) (kd_lt (by rw [ho]; decide)) (ce_X2 E _ _ _ _ ho) (by rw [ce_X2 E _ _ _ _ ho]; simp [us_at, upd]) in_X2 tyX2 tyX2_ok nmX2 (show vwCl[2]? = some (RX2, TX2, 8) from rfl) (by decide) hlink rfl rfl (ty := tyX2 7) (by decide +kernel) (by rcases hz with rfl | rfl <;> rfl) (by rcases hz with rfl | rfl <;> rfl) (Nat.le_of_ble_eq_true rfl) hdg kk
theorem gt_X6 (X : CX E p s m args c cc nL own) (hw : WW E b MC TC MM TM s H locs) {o index : Nat} (k : Nat) {v : Value} (ho : (kd o).1 = 6) (hv : ([.ref (b + (o + 1)), .ref (b + (o + 2)), .ref (b + (o + 3)), .int (MC o 3), .int (MC o 4), .int (MC o 5)] : List Value)[k]? = some v) (hk : k < 6) (hlink : Cond.fieldLink own index RX6 (TX6 k).2.1 (TX6 k).2.2.1 ∈ wt) (hT : (TX6 k).1 = RX6) (hdg : decode cc pc = .ok (.getfield index, 3)) (kk : W p l e R s m args below meth c H locs cells slots Q (F0 m (pc + 3) ls (v :: rest))) : W p l e R s m args below meth c H locs cells slots Q (F0 m pc ls (.ref (b + o) :: rest)) := r_get X hw (kd_lt (by rw [ho]; decide)) (ce_X6 E _ _ _ _ ho) in_X6 (show vwCl[6]? = some (RX6, TX6, 6) from rfl) hk hlink hT hv hdg kk
theorem pt_X6_3 (X : CX E p s m args c cc nL own) (hw : WW E b MC TC MM TM s H locs) {o index : Nat} {x : Int32} (ho : (kd o).1 = 6) (hlink : Cond.fieldLink own index RX6 (TX6 3).2.1 (TX6 3).2.2.1 ∈ wt) (hdg : decode cc pc = .ok (.putfield index, 3)) (kk : ∀ (H1 : Heap) (locs1 : List Loc), WW E b (us MC o 3 x) TC MM TM s H1 locs1 → W p l e R s m args below meth c H1 locs1 cells slots Q (F0 m (pc + 3) ls rest)) : W p l e R s m args below meth c H locs cells slots Q (F0 m pc ls (.int x :: .ref (b + o) :: rest)) := by
  exact r_putC X hw (k := 3) (o := o) (kd_lt (by rw [ho]; decide)) (ce_X6 E _ _ _ _ ho) (by rw [ce_X6 E _ _ _ _ ho]; simp [us_at, upd]) in_X6 tyX6 tyX6_ok nmX6 (show vwCl[6]? = some (RX6, TX6, 6) from rfl) (by decide) hlink rfl rfl (ty := tyX6 3) (by decide +kernel) rfl rfl (Nat.le_of_ble_eq_true rfl) hdg kk
theorem pt_X6_4 (X : CX E p s m args c cc nL own) (hw : WW E b MC TC MM TM s H locs) {o index : Nat} {x : Int32} (ho : (kd o).1 = 6) (hlink : Cond.fieldLink own index RX6 (TX6 4).2.1 (TX6 4).2.2.1 ∈ wt) (hdg : decode cc pc = .ok (.putfield index, 3)) (kk : ∀ (H1 : Heap) (locs1 : List Loc), WW E b (us MC o 4 x) TC MM TM s H1 locs1 → W p l e R s m args below meth c H1 locs1 cells slots Q (F0 m (pc + 3) ls rest)) : W p l e R s m args below meth c H locs cells slots Q (F0 m pc ls (.int x :: .ref (b + o) :: rest)) := by
  exact r_putC X hw (k := 4) (o := o) (kd_lt (by rw [ho]; decide)) (ce_X6 E _ _ _ _ ho) (by rw [ce_X6 E _ _ _ _ ho]; simp [us_at, upd]) in_X6 tyX6 tyX6_ok nmX6 (show vwCl[6]? = some (RX6, TX6, 6) from rfl) (by decide) hlink rfl rfl (ty := tyX6 4) (by decide +kernel) rfl rfl (Nat.le_of_ble_eq_true rfl) hdg kk
theorem pt_X6_5 (X : CX E p s m args c cc nL own) (hw : WW E b MC TC MM TM s H locs) {o index : Nat} {x : Int32} (ho : (kd o).1 = 6) (hlink : Cond.fieldLink own index RX6 (TX6 5).2.1 (TX6 5).2.2.1 ∈ wt) (hdg : decode cc pc = .ok (.putfield index, 3)) (kk : ∀ (H1 : Heap) (locs1 : List Loc), WW E b (us MC o 5 x) TC MM TM s H1 locs1 → W p l e R s m args below meth c H1 locs1 cells slots Q (F0 m (pc + 3) ls rest)) : W p l e R s m args below meth c H locs cells slots Q (F0 m pc ls (.int x :: .ref (b + o) :: rest)) := by
  exact r_putC X hw (k := 5) (o := o) (kd_lt (by rw [ho]; decide)) (ce_X6 E _ _ _ _ ho) (by rw [ce_X6 E _ _ _ _ ho]; simp [us_at, upd]) in_X6 tyX6 tyX6_ok nmX6 (show vwCl[6]? = some (RX6, TX6, 6) from rfl) (by decide) hlink rfl rfl (ty := tyX6 5) (by decide +kernel) rfl rfl (Nat.le_of_ble_eq_true rfl) hdg kk
theorem gt_X5 (X : CX E p s m args c cc nL own) (hw : WW E b MC TC MM TM s H locs) {o index : Nat} (k : Nat) {v : Value} (ho : (kd o).1 = 7) (hv : ([.ref (b + (o + 1)), .ref (b + (o + 6)), .int (MC o 2)] : List Value)[k]? = some v) (hk : k < 3) (hlink : Cond.fieldLink own index RX5 (TX5 k).2.1 (TX5 k).2.2.1 ∈ wt) (hT : (TX5 k).1 = RX5) (hdg : decode cc pc = .ok (.getfield index, 3)) (kk : W p l e R s m args below meth c H locs cells slots Q (F0 m (pc + 3) ls (v :: rest))) : W p l e R s m args below meth c H locs cells slots Q (F0 m pc ls (.ref (b + o) :: rest)) := r_get X hw (kd_lt (by rw [ho]; decide)) (ce_X5 E _ _ _ _ ho) in_X5 (show vwCl[5]? = some (RX5, TX5, 3) from rfl) hk hlink hT hv hdg kk
theorem pt_X5_2 (X : CX E p s m args c cc nL own) (hw : WW E b MC TC MM TM s H locs) {o index : Nat} {x : Int32} (ho : (kd o).1 = 7) (hlink : Cond.fieldLink own index RX5 (TX5 2).2.1 (TX5 2).2.2.1 ∈ wt) (hdg : decode cc pc = .ok (.putfield index, 3)) (kk : ∀ (H1 : Heap) (locs1 : List Loc), WW E b (us MC o 2 x) TC MM TM s H1 locs1 → W p l e R s m args below meth c H1 locs1 cells slots Q (F0 m (pc + 3) ls rest)) : W p l e R s m args below meth c H locs cells slots Q (F0 m pc ls (.int x :: .ref (b + o) :: rest)) := by
  exact r_putC X hw (k := 2) (o := o) (kd_lt (by rw [ho]; decide)) (ce_X5 E _ _ _ _ ho) (by rw [ce_X5 E _ _ _ _ ho]; simp [us_at, upd]) in_X5 tyX5 tyX5_ok nmX5 (show vwCl[5]? = some (RX5, TX5, 3) from rfl) (by decide) hlink rfl rfl (ty := tyX5 2) (by decide +kernel) rfl rfl (Nat.le_of_ble_eq_true rfl) hdg kk
theorem gt_X0 (X : CX E p s m args c cc nL own) (hw : WW E b MC TC MM TM s H locs) {o index : Nat} (k : Nat) {v : Value} (ho : (kd o).1 = 8) (hv : ([.ref (b + 182), .ref (b + 183), .ref (b + 184), .int (MC o 3), .int (MC o 4)] : List Value)[k]? = some v) (hk : k < 5) (hlink : Cond.fieldLink own index RX0 (TX0 k).2.1 (TX0 k).2.2.1 ∈ wt) (hT : (TX0 k).1 = RX0) (hdg : decode cc pc = .ok (.getfield index, 3)) (kk : W p l e R s m args below meth c H locs cells slots Q (F0 m (pc + 3) ls (v :: rest))) : W p l e R s m args below meth c H locs cells slots Q (F0 m pc ls (.ref (b + o) :: rest)) := r_get X hw (kd_lt (by rw [ho]; decide)) (ce_X0 E _ _ _ _ ho) in_X0 (show vwCl[0]? = some (RX0, TX0, 5) from rfl) hk hlink hT hv hdg kk
theorem pt_X0_3 (X : CX E p s m args c cc nL own) (hw : WW E b MC TC MM TM s H locs) {o index : Nat} {x : Int32} (ho : (kd o).1 = 8) (hlink : Cond.fieldLink own index RX0 (TX0 3).2.1 (TX0 3).2.2.1 ∈ wt) (hdg : decode cc pc = .ok (.putfield index, 3)) (kk : ∀ (H1 : Heap) (locs1 : List Loc), WW E b (us MC o 3 x) TC MM TM s H1 locs1 → W p l e R s m args below meth c H1 locs1 cells slots Q (F0 m (pc + 3) ls rest)) : W p l e R s m args below meth c H locs cells slots Q (F0 m pc ls (.int x :: .ref (b + o) :: rest)) := by
  exact r_putC X hw (k := 3) (o := o) (kd_lt (by rw [ho]; decide)) (ce_X0 E _ _ _ _ ho) (by rw [ce_X0 E _ _ _ _ ho]; simp [us_at, upd]) in_X0 tyX0 tyX0_ok nmX0 (show vwCl[0]? = some (RX0, TX0, 5) from rfl) (by decide) hlink rfl rfl (ty := tyX0 3) (by decide +kernel) rfl rfl (Nat.le_of_ble_eq_true rfl) hdg kk
theorem pt_X0_4 (X : CX E p s m args c cc nL own) (hw : WW E b MC TC MM TM s H locs) {o index : Nat} {x : Int32} (ho : (kd o).1 = 8) (hlink : Cond.fieldLink own index RX0 (TX0 4).2.1 (TX0 4).2.2.1 ∈ wt) (hdg : decode cc pc = .ok (.putfield index, 3)) (kk : ∀ (H1 : Heap) (locs1 : List Loc), WW E b (us MC o 4 x) TC MM TM s H1 locs1 → W p l e R s m args below meth c H1 locs1 cells slots Q (F0 m (pc + 3) ls rest)) : W p l e R s m args below meth c H locs cells slots Q (F0 m pc ls (.int x :: .ref (b + o) :: rest)) := by
  exact r_putC X hw (k := 4) (o := o) (kd_lt (by rw [ho]; decide)) (ce_X0 E _ _ _ _ ho) (by rw [ce_X0 E _ _ _ _ ho]; simp [us_at, upd]) in_X0 tyX0 tyX0_ok nmX0 (show vwCl[0]? = some (RX0, TX0, 5) from rfl) (by decide) hlink rfl rfl (ty := tyX0 4) (by decide +kernel) rfl rfl (Nat.le_of_ble_eq_true rfl) hdg kk
theorem gt_X3 (X : CX E p s m args c cc nL own) (hw : WW E b MC TC MM TM s H locs) {o index : Nat} (k : Nat) {v : Value} (ho : (kd o).1 = 9) (hv : ([.ref (b + 186), .ref (b + 187), .ref (b + 188), .ref (b + (MC o 3).toNatClampNeg), .ref (b + (MC o 4).toNatClampNeg), .int (MC o 5), .int (MC o 6), .int (MC o 7)] : List Value)[k]? = some v) (hk : k < 8) (hlink : Cond.fieldLink own index RX3 (TX3 k).2.1 (TX3 k).2.2.1 ∈ wt) (hT : (TX3 k).1 = RX3) (hdg : decode cc pc = .ok (.getfield index, 3)) (kk : W p l e R s m args below meth c H locs cells slots Q (F0 m (pc + 3) ls (v :: rest))) : W p l e R s m args below meth c H locs cells slots Q (F0 m pc ls (.ref (b + o) :: rest)) := r_get X hw (kd_lt (by rw [ho]; decide)) (ce_X3 E _ _ _ _ ho) in_X3 (show vwCl[3]? = some (RX3, TX3, 8) from rfl) hk hlink hT hv hdg kk
theorem pt_X3_3 (X : CX E p s m args c cc nL own) (hw : WW E b MC TC MM TM s H locs) {o index : Nat} {x : Int32} (ho : (kd o).1 = 9) (hlink : Cond.fieldLink own index RX3 (TX3 3).2.1 (TX3 3).2.2.1 ∈ wt) (hdg : decode cc pc = .ok (.putfield index, 3)) (kk : ∀ (H1 : Heap) (locs1 : List Loc), WW E b (us MC o 3 x) TC MM TM s H1 locs1 → W p l e R s m args below meth c H1 locs1 cells slots Q (F0 m (pc + 3) ls rest)) : W p l e R s m args below meth c H locs cells slots Q (F0 m pc ls (.ref (b + x.toNatClampNeg) :: .ref (b + o) :: rest)) := by
  exact r_putC X hw (k := 3) (o := o) (kd_lt (by rw [ho]; decide)) (ce_X3 E _ _ _ _ ho) (by rw [ce_X3 E _ _ _ _ ho]; simp [us_at, upd]) in_X3 tyX3 tyX3_ok nmX3 (show vwCl[3]? = some (RX3, TX3, 8) from rfl) (by decide) hlink rfl rfl (ty := tyX3 3) (by decide +kernel) rfl rfl (Nat.le_of_ble_eq_true rfl) hdg kk
theorem pt_X3_4 (X : CX E p s m args c cc nL own) (hw : WW E b MC TC MM TM s H locs) {o index : Nat} {x : Int32} (ho : (kd o).1 = 9) (hlink : Cond.fieldLink own index RX3 (TX3 4).2.1 (TX3 4).2.2.1 ∈ wt) (hdg : decode cc pc = .ok (.putfield index, 3)) (kk : ∀ (H1 : Heap) (locs1 : List Loc), WW E b (us MC o 4 x) TC MM TM s H1 locs1 → W p l e R s m args below meth c H1 locs1 cells slots Q (F0 m (pc + 3) ls rest)) : W p l e R s m args below meth c H locs cells slots Q (F0 m pc ls (.ref (b + x.toNatClampNeg) :: .ref (b + o) :: rest)) := by
  exact r_putC X hw (k := 4) (o := o) (kd_lt (by rw [ho]; decide)) (ce_X3 E _ _ _ _ ho) (by rw [ce_X3 E _ _ _ _ ho]; simp [us_at, upd]) in_X3 tyX3 tyX3_ok nmX3 (show vwCl[3]? = some (RX3, TX3, 8) from rfl) (by decide) hlink rfl rfl (ty := tyX3 4) (by decide +kernel) rfl rfl (Nat.le_of_ble_eq_true rfl) hdg kk
theorem pt_X3_5 (X : CX E p s m args c cc nL own) (hw : WW E b MC TC MM TM s H locs) {o index : Nat} {x : Int32} (ho : (kd o).1 = 9) (hlink : Cond.fieldLink own index RX3 (TX3 5).2.1 (TX3 5).2.2.1 ∈ wt) (hdg : decode cc pc = .ok (.putfield index, 3)) (kk : ∀ (H1 : Heap) (locs1 : List Loc), WW E b (us MC o 5 x) TC MM TM s H1 locs1 → W p l e R s m args below meth c H1 locs1 cells slots Q (F0 m (pc + 3) ls rest)) : W p l e R s m args below meth c H locs cells slots Q (F0 m pc ls (.int x :: .ref (b + o) :: rest)) := by
  exact r_putC X hw (k := 5) (o := o) (kd_lt (by rw [ho]; decide)) (ce_X3 E _ _ _ _ ho) (by rw [ce_X3 E _ _ _ _ ho]; simp [us_at, upd]) in_X3 tyX3 tyX3_ok nmX3 (show vwCl[3]? = some (RX3, TX3, 8) from rfl) (by decide) hlink rfl rfl (ty := tyX3 5) (by decide +kernel) rfl rfl (Nat.le_of_ble_eq_true rfl) hdg kk
theorem pt_X3_6 (X : CX E p s m args c cc nL own) (hw : WW E b MC TC MM TM s H locs) {o index : Nat} {x : Int32} (ho : (kd o).1 = 9) (hlink : Cond.fieldLink own index RX3 (TX3 6).2.1 (TX3 6).2.2.1 ∈ wt) (hdg : decode cc pc = .ok (.putfield index, 3)) (kk : ∀ (H1 : Heap) (locs1 : List Loc), WW E b (us MC o 6 x) TC MM TM s H1 locs1 → W p l e R s m args below meth c H1 locs1 cells slots Q (F0 m (pc + 3) ls rest)) : W p l e R s m args below meth c H locs cells slots Q (F0 m pc ls (.int x :: .ref (b + o) :: rest)) := by
  exact r_putC X hw (k := 6) (o := o) (kd_lt (by rw [ho]; decide)) (ce_X3 E _ _ _ _ ho) (by rw [ce_X3 E _ _ _ _ ho]; simp [us_at, upd]) in_X3 tyX3 tyX3_ok nmX3 (show vwCl[3]? = some (RX3, TX3, 8) from rfl) (by decide) hlink rfl rfl (ty := tyX3 6) (by decide +kernel) rfl rfl (Nat.le_of_ble_eq_true rfl) hdg kk
theorem pt_X3_7 (X : CX E p s m args c cc nL own) (hw : WW E b MC TC MM TM s H locs) {o index : Nat} {x : Int32} (ho : (kd o).1 = 9) (hlink : Cond.fieldLink own index RX3 (TX3 7).2.1 (TX3 7).2.2.1 ∈ wt) (hdg : decode cc pc = .ok (.putfield index, 3)) (kk : ∀ (H1 : Heap) (locs1 : List Loc), WW E b (us MC o 7 x) TC MM TM s H1 locs1 → W p l e R s m args below meth c H1 locs1 cells slots Q (F0 m (pc + 3) ls rest)) : W p l e R s m args below meth c H locs cells slots Q (F0 m pc ls (.int x :: .ref (b + o) :: rest)) := by
  exact r_putC X hw (k := 7) (o := o) (kd_lt (by rw [ho]; decide)) (ce_X3 E _ _ _ _ ho) (by rw [ce_X3 E _ _ _ _ ho]; simp [us_at, upd]) in_X3 tyX3 tyX3_ok nmX3 (show vwCl[3]? = some (RX3, TX3, 8) from rfl) (by decide) hlink rfl rfl (ty := tyX3 7) (by decide +kernel) rfl rfl (Nat.le_of_ble_eq_true rfl) hdg kk
theorem gt_X7 (X : CX E p s m args c cc nL own) (hw : WW E b MC TC MM TM s H locs) {o index : Nat} (k : Nat) {v : Value} (ho : (kd o).1 = 10) (hv : ([.ref (b + 1), .ref (b + 3), .ref (b + 8), .ref (b + 65), .ref (b + 180), .ref (b + 181), .ref (b + 185), .ref (b + 191), .ref (b + 195), .ref (b + 196), .long TC] : List Value)[k]? = some v) (hk : k < 11) (hlink : Cond.fieldLink own index RX7 (TX7 k).2.1 (TX7 k).2.2.1 ∈ wt) (hT : (TX7 k).1 = RX7) (hdg : decode cc pc = .ok (.getfield index, 3)) (kk : W p l e R s m args below meth c H locs cells slots Q (F0 m (pc + 3) ls (v :: rest))) : W p l e R s m args below meth c H locs cells slots Q (F0 m pc ls (.ref (b + o) :: rest)) := r_get X hw (kd_lt (by rw [ho]; decide)) (ce_X7 E _ _ _ _ ho) in_X7 (show vwCl[7]? = some (RX7, TX7, 11) from rfl) hk hlink hT hv hdg kk
theorem kd10 {a : Nat} (h : (kd a).1 = 10) : a = 0 := (show ∀ a, a < 212 → (kd a).1 = 10 → a = 0 by decide +kernel) a (kd_lt (by rw [h]; decide)) h
theorem pt_X7_10 (X : CX E p s m args c cc nL own) (hw : WW E b MC TC MM TM s H locs) {index : Nat} {x : Int64} (hlink : Cond.fieldLink own index RX7 (TX7 10).2.1 (TX7 10).2.2.1 ∈ wt) (hdg : decode cc pc = .ok (.putfield index, 3)) (kk : ∀ (H1 : Heap) (locs1 : List Loc), WW E b MC x MM TM s H1 locs1 → W p l e R s m args below meth c H1 locs1 cells slots Q (F0 m (pc + 3) ls rest)) : W p l e R s m args below meth c H locs cells slots Q (F0 m pc ls (.long x :: .ref (b + 0) :: rest)) :=
  r_put (MC' := MC) (MM' := MM) (TC' := x) (TM' := TM) X hw (k := 10) (o := 0) (by decide) (ce_X7 E _ _ _ _ rfl) (by rw [ce_X7 E _ _ _ _ rfl]; rfl) (fun a ha => by have h9 : (kd a).1 ≠ 10 := fun q => ha (kd10 q); simp [cel, h9]) in_X7 tyX7_ok nmX7 (show vwCl[7]? = some (RX7, TX7, 11) from rfl) (by decide) hlink rfl rfl (ty := .long) (by decide +kernel) rfl rfl (Nat.le_of_ble_eq_true rfl) hdg kk
theorem gt_X8 (X : CX E p s m args c cc nL own) (hw : WW E b MC TC MM TM s H locs) {o index : Nat} (k : Nat) {v : Value} (ho : (kd o).1 = 13) (hv : ([.int (MM o 0), .ref (b + 198), .ref (b + 199), .ref (b + 200), .int (MM o 4), .ref (b + 201), .ref (b + 202), .ref (b + 203), .int (MM o 8), .ref (b + 204), .int (MM o 10), .ref (b + 205), .long TM, .ref (b + 206), .int (MM o 14), .int (MM o 15), .int (MM o 16), .int (MM o 17), .int (MM o 18), .int (MM o 19), .int (MM o 20), .int (MM o 21), .ref (b + 207), .ref (b + 208), .ref (b + 209), .int (MM o 25), .int (MM o 26), .ref (b + 210), .int (MM o 28), .int (MM o 29), .ref (b + 211)] : List Value)[k]? = some v) (hk : k < 31) (hlink : Cond.fieldLink own index RX8 (TX8 k).2.1 (TX8 k).2.2.1 ∈ wt) (hT : (TX8 k).1 = RX8) (hdg : decode cc pc = .ok (.getfield index, 3)) (kk : W p l e R s m args below meth c H locs cells slots Q (F0 m (pc + 3) ls (v :: rest))) : W p l e R s m args below meth c H locs cells slots Q (F0 m pc ls (.ref (b + o) :: rest)) := r_get X hw (kd_lt (by rw [ho]; decide)) (ce_X8 E _ _ _ _ ho) in_X8 (show vwCl[8]? = some (RX8, TX8, 31) from rfl) hk hlink hT hv hdg kk
theorem pt_X8_0 (X : CX E p s m args c cc nL own) (hw : WW E b MC TC MM TM s H locs) {o index : Nat} {x : Int32} (ho : (kd o).1 = 13) (hlink : Cond.fieldLink own index RX8 (TX8 0).2.1 (TX8 0).2.2.1 ∈ wt) (hdg : decode cc pc = .ok (.putfield index, 3)) (kk : ∀ (H1 : Heap) (locs1 : List Loc), WW E b MC TC (us MM o 0 x) TM s H1 locs1 → W p l e R s m args below meth c H1 locs1 cells slots Q (F0 m (pc + 3) ls rest)) : W p l e R s m args below meth c H locs cells slots Q (F0 m pc ls (.int x :: .ref (b + o) :: rest)) := by
  exact r_putM X hw (k := 0) (o := o) (kd_lt (by rw [ho]; decide)) (ce_X8 E _ _ _ _ ho) (by rw [ce_X8 E _ _ _ _ ho]; simp [us_at, upd]) in_X8 tyX8 tyX8_ok nmX8 (show vwCl[8]? = some (RX8, TX8, 31) from rfl) (by decide) hlink rfl rfl (ty := tyX8 0) (by decide +kernel) rfl rfl (Nat.le_of_ble_eq_true rfl) hdg kk
theorem pt_X8_4 (X : CX E p s m args c cc nL own) (hw : WW E b MC TC MM TM s H locs) {o index : Nat} {x : Int32} (ho : (kd o).1 = 13) (hlink : Cond.fieldLink own index RX8 (TX8 4).2.1 (TX8 4).2.2.1 ∈ wt) (hdg : decode cc pc = .ok (.putfield index, 3)) (kk : ∀ (H1 : Heap) (locs1 : List Loc), WW E b MC TC (us MM o 4 x) TM s H1 locs1 → W p l e R s m args below meth c H1 locs1 cells slots Q (F0 m (pc + 3) ls rest)) : W p l e R s m args below meth c H locs cells slots Q (F0 m pc ls (.int x :: .ref (b + o) :: rest)) := by
  exact r_putM X hw (k := 4) (o := o) (kd_lt (by rw [ho]; decide)) (ce_X8 E _ _ _ _ ho) (by rw [ce_X8 E _ _ _ _ ho]; simp [us_at, upd]) in_X8 tyX8 tyX8_ok nmX8 (show vwCl[8]? = some (RX8, TX8, 31) from rfl) (by decide) hlink rfl rfl (ty := tyX8 4) (by decide +kernel) rfl rfl (Nat.le_of_ble_eq_true rfl) hdg kk
theorem pt_X8_8 (X : CX E p s m args c cc nL own) (hw : WW E b MC TC MM TM s H locs) {o index : Nat} {x : Int32} (ho : (kd o).1 = 13) (hlink : Cond.fieldLink own index RX8 (TX8 8).2.1 (TX8 8).2.2.1 ∈ wt) (hdg : decode cc pc = .ok (.putfield index, 3)) (kk : ∀ (H1 : Heap) (locs1 : List Loc), WW E b MC TC (us MM o 8 x) TM s H1 locs1 → W p l e R s m args below meth c H1 locs1 cells slots Q (F0 m (pc + 3) ls rest)) : W p l e R s m args below meth c H locs cells slots Q (F0 m pc ls (.int x :: .ref (b + o) :: rest)) := by
  exact r_putM X hw (k := 8) (o := o) (kd_lt (by rw [ho]; decide)) (ce_X8 E _ _ _ _ ho) (by rw [ce_X8 E _ _ _ _ ho]; simp [us_at, upd]) in_X8 tyX8 tyX8_ok nmX8 (show vwCl[8]? = some (RX8, TX8, 31) from rfl) (by decide) hlink rfl rfl (ty := tyX8 8) (by decide +kernel) rfl rfl (Nat.le_of_ble_eq_true rfl) hdg kk
theorem pt_X8_10 (X : CX E p s m args c cc nL own) (hw : WW E b MC TC MM TM s H locs) {o index : Nat} {x : Int32} (ho : (kd o).1 = 13) (hlink : Cond.fieldLink own index RX8 (TX8 10).2.1 (TX8 10).2.2.1 ∈ wt) (hdg : decode cc pc = .ok (.putfield index, 3)) (kk : ∀ (H1 : Heap) (locs1 : List Loc), WW E b MC TC (us MM o 10 x) TM s H1 locs1 → W p l e R s m args below meth c H1 locs1 cells slots Q (F0 m (pc + 3) ls rest)) : W p l e R s m args below meth c H locs cells slots Q (F0 m pc ls (.int x :: .ref (b + o) :: rest)) := by
  exact r_putM X hw (k := 10) (o := o) (kd_lt (by rw [ho]; decide)) (ce_X8 E _ _ _ _ ho) (by rw [ce_X8 E _ _ _ _ ho]; simp [us_at, upd]) in_X8 tyX8 tyX8_ok nmX8 (show vwCl[8]? = some (RX8, TX8, 31) from rfl) (by decide) hlink rfl rfl (ty := tyX8 10) (by decide +kernel) rfl rfl (Nat.le_of_ble_eq_true rfl) hdg kk
theorem kd13 {a : Nat} (h : (kd a).1 = 13) : a = 197 := (show ∀ a, a < 212 → (kd a).1 = 13 → a = 197 by decide +kernel) a (kd_lt (by rw [h]; decide)) h
theorem pt_X8_12 (X : CX E p s m args c cc nL own) (hw : WW E b MC TC MM TM s H locs) {index : Nat} {x : Int64} (hlink : Cond.fieldLink own index RX8 (TX8 12).2.1 (TX8 12).2.2.1 ∈ wt) (hdg : decode cc pc = .ok (.putfield index, 3)) (kk : ∀ (H1 : Heap) (locs1 : List Loc), WW E b MC TC MM x s H1 locs1 → W p l e R s m args below meth c H1 locs1 cells slots Q (F0 m (pc + 3) ls rest)) : W p l e R s m args below meth c H locs cells slots Q (F0 m pc ls (.long x :: .ref (b + 197) :: rest)) :=
  r_put (MC' := MC) (MM' := MM) (TC' := TC) (TM' := x) X hw (k := 12) (o := 197) (by decide) (ce_X8 E _ _ _ _ rfl) (by rw [ce_X8 E _ _ _ _ rfl]; rfl) (fun a ha => by have h9 : (kd a).1 ≠ 13 := fun q => ha (kd13 q); simp [cel, h9]) in_X8 tyX8_ok nmX8 (show vwCl[8]? = some (RX8, TX8, 31) from rfl) (by decide) hlink rfl rfl (ty := .long) (by decide +kernel) rfl rfl (Nat.le_of_ble_eq_true rfl) hdg kk
theorem pt_X8_14 (X : CX E p s m args c cc nL own) (hw : WW E b MC TC MM TM s H locs) {o index : Nat} {x : Int32} (ho : (kd o).1 = 13) (hlink : Cond.fieldLink own index RX8 (TX8 14).2.1 (TX8 14).2.2.1 ∈ wt) (hdg : decode cc pc = .ok (.putfield index, 3)) (kk : ∀ (H1 : Heap) (locs1 : List Loc), WW E b MC TC (us MM o 14 x) TM s H1 locs1 → W p l e R s m args below meth c H1 locs1 cells slots Q (F0 m (pc + 3) ls rest)) : W p l e R s m args below meth c H locs cells slots Q (F0 m pc ls (.int x :: .ref (b + o) :: rest)) := by
  exact r_putM X hw (k := 14) (o := o) (kd_lt (by rw [ho]; decide)) (ce_X8 E _ _ _ _ ho) (by rw [ce_X8 E _ _ _ _ ho]; simp [us_at, upd]) in_X8 tyX8 tyX8_ok nmX8 (show vwCl[8]? = some (RX8, TX8, 31) from rfl) (by decide) hlink rfl rfl (ty := tyX8 14) (by decide +kernel) rfl rfl (Nat.le_of_ble_eq_true rfl) hdg kk
theorem pt_X8_15 (X : CX E p s m args c cc nL own) (hw : WW E b MC TC MM TM s H locs) {o index : Nat} {x : Int32} (ho : (kd o).1 = 13) (hlink : Cond.fieldLink own index RX8 (TX8 15).2.1 (TX8 15).2.2.1 ∈ wt) (hdg : decode cc pc = .ok (.putfield index, 3)) (kk : ∀ (H1 : Heap) (locs1 : List Loc), WW E b MC TC (us MM o 15 x) TM s H1 locs1 → W p l e R s m args below meth c H1 locs1 cells slots Q (F0 m (pc + 3) ls rest)) : W p l e R s m args below meth c H locs cells slots Q (F0 m pc ls (.int x :: .ref (b + o) :: rest)) := by
  exact r_putM X hw (k := 15) (o := o) (kd_lt (by rw [ho]; decide)) (ce_X8 E _ _ _ _ ho) (by rw [ce_X8 E _ _ _ _ ho]; simp [us_at, upd]) in_X8 tyX8 tyX8_ok nmX8 (show vwCl[8]? = some (RX8, TX8, 31) from rfl) (by decide) hlink rfl rfl (ty := tyX8 15) (by decide +kernel) rfl rfl (Nat.le_of_ble_eq_true rfl) hdg kk
theorem pt_X8_16 (X : CX E p s m args c cc nL own) (hw : WW E b MC TC MM TM s H locs) {o index : Nat} {x : Int32} (ho : (kd o).1 = 13) (hlink : Cond.fieldLink own index RX8 (TX8 16).2.1 (TX8 16).2.2.1 ∈ wt) (hdg : decode cc pc = .ok (.putfield index, 3)) (kk : ∀ (H1 : Heap) (locs1 : List Loc), WW E b MC TC (us MM o 16 x) TM s H1 locs1 → W p l e R s m args below meth c H1 locs1 cells slots Q (F0 m (pc + 3) ls rest)) : W p l e R s m args below meth c H locs cells slots Q (F0 m pc ls (.int x :: .ref (b + o) :: rest)) := by
  exact r_putM X hw (k := 16) (o := o) (kd_lt (by rw [ho]; decide)) (ce_X8 E _ _ _ _ ho) (by rw [ce_X8 E _ _ _ _ ho]; simp [us_at, upd]) in_X8 tyX8 tyX8_ok nmX8 (show vwCl[8]? = some (RX8, TX8, 31) from rfl) (by decide) hlink rfl rfl (ty := tyX8 16) (by decide +kernel) rfl rfl (Nat.le_of_ble_eq_true rfl) hdg kk
theorem pt_X8_17 (X : CX E p s m args c cc nL own) (hw : WW E b MC TC MM TM s H locs) {o index : Nat} {x : Int32} (ho : (kd o).1 = 13) (hlink : Cond.fieldLink own index RX8 (TX8 17).2.1 (TX8 17).2.2.1 ∈ wt) (hdg : decode cc pc = .ok (.putfield index, 3)) (kk : ∀ (H1 : Heap) (locs1 : List Loc), WW E b MC TC (us MM o 17 x) TM s H1 locs1 → W p l e R s m args below meth c H1 locs1 cells slots Q (F0 m (pc + 3) ls rest)) : W p l e R s m args below meth c H locs cells slots Q (F0 m pc ls (.int x :: .ref (b + o) :: rest)) := by
  exact r_putM X hw (k := 17) (o := o) (kd_lt (by rw [ho]; decide)) (ce_X8 E _ _ _ _ ho) (by rw [ce_X8 E _ _ _ _ ho]; simp [us_at, upd]) in_X8 tyX8 tyX8_ok nmX8 (show vwCl[8]? = some (RX8, TX8, 31) from rfl) (by decide) hlink rfl rfl (ty := tyX8 17) (by decide +kernel) rfl rfl (Nat.le_of_ble_eq_true rfl) hdg kk
theorem pt_X8_18 (X : CX E p s m args c cc nL own) (hw : WW E b MC TC MM TM s H locs) {o index : Nat} {x : Int32} (ho : (kd o).1 = 13) (hlink : Cond.fieldLink own index RX8 (TX8 18).2.1 (TX8 18).2.2.1 ∈ wt) (hdg : decode cc pc = .ok (.putfield index, 3)) (kk : ∀ (H1 : Heap) (locs1 : List Loc), WW E b MC TC (us MM o 18 x) TM s H1 locs1 → W p l e R s m args below meth c H1 locs1 cells slots Q (F0 m (pc + 3) ls rest)) : W p l e R s m args below meth c H locs cells slots Q (F0 m pc ls (.int x :: .ref (b + o) :: rest)) := by
  exact r_putM X hw (k := 18) (o := o) (kd_lt (by rw [ho]; decide)) (ce_X8 E _ _ _ _ ho) (by rw [ce_X8 E _ _ _ _ ho]; simp [us_at, upd]) in_X8 tyX8 tyX8_ok nmX8 (show vwCl[8]? = some (RX8, TX8, 31) from rfl) (by decide) hlink rfl rfl (ty := tyX8 18) (by decide +kernel) rfl rfl (Nat.le_of_ble_eq_true rfl) hdg kk
theorem pt_X8_19 (X : CX E p s m args c cc nL own) (hw : WW E b MC TC MM TM s H locs) {o index : Nat} {x : Int32} (ho : (kd o).1 = 13) (hz : x = 0 ∨ x = 1) (hlink : Cond.fieldLink own index RX8 (TX8 19).2.1 (TX8 19).2.2.1 ∈ wt) (hdg : decode cc pc = .ok (.putfield index, 3)) (kk : ∀ (H1 : Heap) (locs1 : List Loc), WW E b MC TC (us MM o 19 x) TM s H1 locs1 → W p l e R s m args below meth c H1 locs1 cells slots Q (F0 m (pc + 3) ls rest)) : W p l e R s m args below meth c H locs cells slots Q (F0 m pc ls (.int x :: .ref (b + o) :: rest)) := by
  exact r_putM X hw (k := 19) (o := o) (kd_lt (by rw [ho]; decide)) (ce_X8 E _ _ _ _ ho) (by rw [ce_X8 E _ _ _ _ ho]; simp [us_at, upd]) in_X8 tyX8 tyX8_ok nmX8 (show vwCl[8]? = some (RX8, TX8, 31) from rfl) (by decide) hlink rfl rfl (ty := tyX8 19) (by decide +kernel) (by rcases hz with rfl | rfl <;> rfl) (by rcases hz with rfl | rfl <;> rfl) (Nat.le_of_ble_eq_true rfl) hdg kk
theorem pt_X8_20 (X : CX E p s m args c cc nL own) (hw : WW E b MC TC MM TM s H locs) {o index : Nat} {x : Int32} (ho : (kd o).1 = 13) (hlink : Cond.fieldLink own index RX8 (TX8 20).2.1 (TX8 20).2.2.1 ∈ wt) (hdg : decode cc pc = .ok (.putfield index, 3)) (kk : ∀ (H1 : Heap) (locs1 : List Loc), WW E b MC TC (us MM o 20 x) TM s H1 locs1 → W p l e R s m args below meth c H1 locs1 cells slots Q (F0 m (pc + 3) ls rest)) : W p l e R s m args below meth c H locs cells slots Q (F0 m pc ls (.int x :: .ref (b + o) :: rest)) := by
  exact r_putM X hw (k := 20) (o := o) (kd_lt (by rw [ho]; decide)) (ce_X8 E _ _ _ _ ho) (by rw [ce_X8 E _ _ _ _ ho]; simp [us_at, upd]) in_X8 tyX8 tyX8_ok nmX8 (show vwCl[8]? = some (RX8, TX8, 31) from rfl) (by decide) hlink rfl rfl (ty := tyX8 20) (by decide +kernel) rfl rfl (Nat.le_of_ble_eq_true rfl) hdg kk
theorem pt_X8_21 (X : CX E p s m args c cc nL own) (hw : WW E b MC TC MM TM s H locs) {o index : Nat} {x : Int32} (ho : (kd o).1 = 13) (hlink : Cond.fieldLink own index RX8 (TX8 21).2.1 (TX8 21).2.2.1 ∈ wt) (hdg : decode cc pc = .ok (.putfield index, 3)) (kk : ∀ (H1 : Heap) (locs1 : List Loc), WW E b MC TC (us MM o 21 x) TM s H1 locs1 → W p l e R s m args below meth c H1 locs1 cells slots Q (F0 m (pc + 3) ls rest)) : W p l e R s m args below meth c H locs cells slots Q (F0 m pc ls (.int x :: .ref (b + o) :: rest)) := by
  exact r_putM X hw (k := 21) (o := o) (kd_lt (by rw [ho]; decide)) (ce_X8 E _ _ _ _ ho) (by rw [ce_X8 E _ _ _ _ ho]; simp [us_at, upd]) in_X8 tyX8 tyX8_ok nmX8 (show vwCl[8]? = some (RX8, TX8, 31) from rfl) (by decide) hlink rfl rfl (ty := tyX8 21) (by decide +kernel) rfl rfl (Nat.le_of_ble_eq_true rfl) hdg kk
theorem pt_X8_25 (X : CX E p s m args c cc nL own) (hw : WW E b MC TC MM TM s H locs) {o index : Nat} {x : Int32} (ho : (kd o).1 = 13) (hlink : Cond.fieldLink own index RX8 (TX8 25).2.1 (TX8 25).2.2.1 ∈ wt) (hdg : decode cc pc = .ok (.putfield index, 3)) (kk : ∀ (H1 : Heap) (locs1 : List Loc), WW E b MC TC (us MM o 25 x) TM s H1 locs1 → W p l e R s m args below meth c H1 locs1 cells slots Q (F0 m (pc + 3) ls rest)) : W p l e R s m args below meth c H locs cells slots Q (F0 m pc ls (.int x :: .ref (b + o) :: rest)) := by
  exact r_putM X hw (k := 25) (o := o) (kd_lt (by rw [ho]; decide)) (ce_X8 E _ _ _ _ ho) (by rw [ce_X8 E _ _ _ _ ho]; simp [us_at, upd]) in_X8 tyX8 tyX8_ok nmX8 (show vwCl[8]? = some (RX8, TX8, 31) from rfl) (by decide) hlink rfl rfl (ty := tyX8 25) (by decide +kernel) rfl rfl (Nat.le_of_ble_eq_true rfl) hdg kk
theorem pt_X8_26 (X : CX E p s m args c cc nL own) (hw : WW E b MC TC MM TM s H locs) {o index : Nat} {x : Int32} (ho : (kd o).1 = 13) (hlink : Cond.fieldLink own index RX8 (TX8 26).2.1 (TX8 26).2.2.1 ∈ wt) (hdg : decode cc pc = .ok (.putfield index, 3)) (kk : ∀ (H1 : Heap) (locs1 : List Loc), WW E b MC TC (us MM o 26 x) TM s H1 locs1 → W p l e R s m args below meth c H1 locs1 cells slots Q (F0 m (pc + 3) ls rest)) : W p l e R s m args below meth c H locs cells slots Q (F0 m pc ls (.int x :: .ref (b + o) :: rest)) := by
  exact r_putM X hw (k := 26) (o := o) (kd_lt (by rw [ho]; decide)) (ce_X8 E _ _ _ _ ho) (by rw [ce_X8 E _ _ _ _ ho]; simp [us_at, upd]) in_X8 tyX8 tyX8_ok nmX8 (show vwCl[8]? = some (RX8, TX8, 31) from rfl) (by decide) hlink rfl rfl (ty := tyX8 26) (by decide +kernel) rfl rfl (Nat.le_of_ble_eq_true rfl) hdg kk
theorem pt_X8_28 (X : CX E p s m args c cc nL own) (hw : WW E b MC TC MM TM s H locs) {o index : Nat} {x : Int32} (ho : (kd o).1 = 13) (hlink : Cond.fieldLink own index RX8 (TX8 28).2.1 (TX8 28).2.2.1 ∈ wt) (hdg : decode cc pc = .ok (.putfield index, 3)) (kk : ∀ (H1 : Heap) (locs1 : List Loc), WW E b MC TC (us MM o 28 x) TM s H1 locs1 → W p l e R s m args below meth c H1 locs1 cells slots Q (F0 m (pc + 3) ls rest)) : W p l e R s m args below meth c H locs cells slots Q (F0 m pc ls (.int x :: .ref (b + o) :: rest)) := by
  exact r_putM X hw (k := 28) (o := o) (kd_lt (by rw [ho]; decide)) (ce_X8 E _ _ _ _ ho) (by rw [ce_X8 E _ _ _ _ ho]; simp [us_at, upd]) in_X8 tyX8 tyX8_ok nmX8 (show vwCl[8]? = some (RX8, TX8, 31) from rfl) (by decide) hlink rfl rfl (ty := tyX8 28) (by decide +kernel) rfl rfl (Nat.le_of_ble_eq_true rfl) hdg kk
theorem pt_X8_29 (X : CX E p s m args c cc nL own) (hw : WW E b MC TC MM TM s H locs) {o index : Nat} {x : Int32} (ho : (kd o).1 = 13) (hlink : Cond.fieldLink own index RX8 (TX8 29).2.1 (TX8 29).2.2.1 ∈ wt) (hdg : decode cc pc = .ok (.putfield index, 3)) (kk : ∀ (H1 : Heap) (locs1 : List Loc), WW E b MC TC (us MM o 29 x) TM s H1 locs1 → W p l e R s m args below meth c H1 locs1 cells slots Q (F0 m (pc + 3) ls rest)) : W p l e R s m args below meth c H locs cells slots Q (F0 m pc ls (.int x :: .ref (b + o) :: rest)) := by
  exact r_putM X hw (k := 29) (o := o) (kd_lt (by rw [ho]; decide)) (ce_X8 E _ _ _ _ ho) (by rw [ce_X8 E _ _ _ _ ho]; simp [us_at, upd]) in_X8 tyX8 tyX8_ok nmX8 (show vwCl[8]? = some (RX8, TX8, 31) from rfl) (by decide) hlink rfl rfl (ty := tyX8 29) (by decide +kernel) rfl rfl (Nat.le_of_ble_eq_true rfl) hdg kk
end CLS
end
section
def FU : Nat := 4096
def mn (x y : Int32) : Int32 := if y < x then y else x
def mx (x y : Int32) : Int32 := if x < y then y else x
theorem code_min : Cond.code Lib.Math.min.name Lib.Math.min.code 2 (some .int) ∈ wt := mw_354
theorem code_max : Cond.code Lib.Math.max.name Lib.Math.max.code 2 (some .int) ∈ wt := mw_579
theorem nmb {α β : Type} {x y : α} {F : α → Option β} {r : β} (h : (some x).bind F = some r) (e : y = x) : F y = some r := by subst e; exact h
theorem nz_ne {x v : Int32} (h : nz x = some v) : ¬ x = 0 := by have q := nz_s h; rw [q.1]; exact q.2
theorem kdk {o k : Nat} (h : (kd o).1 = k) (hk : k ≠ 0) : o < 212 := kd_lt (by rw [h]; exact hk)
def gK (k : Nat) (c : Int32) : Option Int32 := if (kd c.toNatClampNeg).1 = k then some c else none
def gA (n : Nat) (c : Int32) : Option Int32 := if kd c.toNatClampNeg = (1, n) then some c else none
theorem gK_s {k : Nat} {c v : Int32} (h : gK k c = some v) : (kd c.toNatClampNeg).1 = k := by
  unfold gK at h
  by_cases q : (kd c.toNatClampNeg).1 = k
  · exact q
  · rw [if_neg q] at h; cases h
theorem gA_s {n : Nat} {c v : Int32} (h : gA n c = some v) : kd c.toNatClampNeg = (1, n) := by
  unfold gA at h
  by_cases q : kd c.toNatClampNeg = (1, n)
  · exact q
  · rw [if_neg q] at h; cases h
theorem gA_e {n : Nat} {c v : Int32} (h : gA n c = some v) : c = v := by
  unfold gA at h
  by_cases q : kd c.toNatClampNeg = (1, n)
  · rw [if_pos q] at h; cases h; rfl
  · rw [if_neg q] at h; cases h
theorem gA_t {n : Nat} {c v : Int32} (h : gA n c = some v) : kd v.toNatClampNeg = (1, n) := by
  have q := gA_s h
  rwa [gA_e h] at q
def pfZ (M : Mem) (o k : Nat) (x : Int32) : Option Mem := if x = 0 ∨ x = 1 then some (us M o k x) else none
theorem pfZ_s {M M' : Mem} {o k : Nat} {x : Int32} (h : pfZ M o k x = some M') : (x = 0 ∨ x = 1) ∧ us M o k x = M' := by
  unfold pfZ at h
  by_cases q : x = 0 ∨ x = 1
  · rw [if_pos q] at h; cases h; exact ⟨q, rfl⟩
  · rw [if_neg q] at h; cases h
theorem kdv_0 : kd 0 = (10, 0) := by decide +kernel
theorem kk_0 : (kd 0).1 = 10 := by decide +kernel
theorem kdv_1 : kd 1 = (4, 0) := by decide +kernel
theorem kk_1 : (kd 1).1 = 4 := by decide +kernel
theorem kdv_2 : kd 2 = (1, 120) := by decide +kernel
theorem kdv_3 : kd 3 = (5, 0) := by decide +kernel
theorem kk_3 : (kd 3).1 = 5 := by decide +kernel
theorem kdv_4 : kd 4 = (6, 0) := by decide +kernel
theorem kk_4 : (kd 4).1 = 6 := by decide +kernel
theorem kdv_5 : kd 5 = (1, 5) := by decide +kernel
theorem kdv_6 : kd 6 = (1, 5) := by decide +kernel
theorem kdv_7 : kd 7 = (1, 35) := by decide +kernel
theorem kdv_8 : kd 8 = (7, 0) := by decide +kernel
theorem kk_8 : (kd 8).1 = 7 := by decide +kernel
theorem kdv_9 : kd 9 = (3, 0) := by decide +kernel
theorem kk_9 : (kd 9).1 = 3 := by decide +kernel
theorem kdv_10 : kd 10 = (1, 5) := by decide +kernel
theorem kdv_11 : kd 11 = (1, 5) := by decide +kernel
theorem kdv_12 : kd 12 = (1, 60) := by decide +kernel
theorem kdv_13 : kd 13 = (1, 40) := by decide +kernel
theorem kdv_14 : kd 14 = (11, 10) := by decide +kernel
theorem kdv_15 : kd 15 = (3, 0) := by decide +kernel
theorem kk_15 : (kd 15).1 = 3 := by decide +kernel
theorem kdv_16 : kd 16 = (1, 5) := by decide +kernel
theorem kdv_17 : kd 17 = (1, 5) := by decide +kernel
theorem kdv_18 : kd 18 = (1, 60) := by decide +kernel
theorem kdv_19 : kd 19 = (1, 40) := by decide +kernel
theorem kdv_20 : kd 20 = (3, 0) := by decide +kernel
theorem kk_20 : (kd 20).1 = 3 := by decide +kernel
theorem kdv_21 : kd 21 = (1, 5) := by decide +kernel
theorem kdv_22 : kd 22 = (1, 5) := by decide +kernel
theorem kdv_23 : kd 23 = (1, 60) := by decide +kernel
theorem kdv_24 : kd 24 = (1, 40) := by decide +kernel
theorem kdv_25 : kd 25 = (3, 0) := by decide +kernel
theorem kk_25 : (kd 25).1 = 3 := by decide +kernel
theorem kdv_26 : kd 26 = (1, 5) := by decide +kernel
theorem kdv_27 : kd 27 = (1, 5) := by decide +kernel
theorem kdv_28 : kd 28 = (1, 60) := by decide +kernel
theorem kdv_29 : kd 29 = (1, 40) := by decide +kernel
theorem kdv_30 : kd 30 = (3, 0) := by decide +kernel
theorem kk_30 : (kd 30).1 = 3 := by decide +kernel
theorem kdv_31 : kd 31 = (1, 5) := by decide +kernel
theorem kdv_32 : kd 32 = (1, 5) := by decide +kernel
theorem kdv_33 : kd 33 = (1, 60) := by decide +kernel
theorem kdv_34 : kd 34 = (1, 40) := by decide +kernel
theorem kdv_35 : kd 35 = (3, 0) := by decide +kernel
theorem kk_35 : (kd 35).1 = 3 := by decide +kernel
theorem kdv_36 : kd 36 = (1, 5) := by decide +kernel
theorem kdv_37 : kd 37 = (1, 5) := by decide +kernel
theorem kdv_38 : kd 38 = (1, 60) := by decide +kernel
theorem kdv_39 : kd 39 = (1, 40) := by decide +kernel
theorem kdv_40 : kd 40 = (3, 0) := by decide +kernel
theorem kk_40 : (kd 40).1 = 3 := by decide +kernel
theorem kdv_41 : kd 41 = (1, 5) := by decide +kernel
theorem kdv_42 : kd 42 = (1, 5) := by decide +kernel
theorem kdv_43 : kd 43 = (1, 60) := by decide +kernel
theorem kdv_44 : kd 44 = (1, 40) := by decide +kernel
theorem kdv_45 : kd 45 = (3, 0) := by decide +kernel
theorem kk_45 : (kd 45).1 = 3 := by decide +kernel
theorem kdv_46 : kd 46 = (1, 5) := by decide +kernel
theorem kdv_47 : kd 47 = (1, 5) := by decide +kernel
theorem kdv_48 : kd 48 = (1, 60) := by decide +kernel
theorem kdv_49 : kd 49 = (1, 40) := by decide +kernel
theorem kdv_50 : kd 50 = (3, 0) := by decide +kernel
theorem kk_50 : (kd 50).1 = 3 := by decide +kernel
theorem kdv_51 : kd 51 = (1, 5) := by decide +kernel
theorem kdv_52 : kd 52 = (1, 5) := by decide +kernel
theorem kdv_53 : kd 53 = (1, 60) := by decide +kernel
theorem kdv_54 : kd 54 = (1, 40) := by decide +kernel
theorem kdv_55 : kd 55 = (3, 0) := by decide +kernel
theorem kk_55 : (kd 55).1 = 3 := by decide +kernel
theorem kdv_56 : kd 56 = (1, 5) := by decide +kernel
theorem kdv_57 : kd 57 = (1, 5) := by decide +kernel
theorem kdv_58 : kd 58 = (1, 60) := by decide +kernel
theorem kdv_59 : kd 59 = (1, 40) := by decide +kernel
theorem kdv_60 : kd 60 = (3, 0) := by decide +kernel
theorem kk_60 : (kd 60).1 = 3 := by decide +kernel
theorem kdv_61 : kd 61 = (1, 5) := by decide +kernel
theorem kdv_62 : kd 62 = (1, 5) := by decide +kernel
theorem kdv_63 : kd 63 = (1, 60) := by decide +kernel
theorem kdv_64 : kd 64 = (1, 40) := by decide +kernel
theorem kdv_65 : kd 65 = (12, 2) := by decide +kernel
theorem kdv_66 : kd 66 = (7, 0) := by decide +kernel
theorem kk_66 : (kd 66).1 = 7 := by decide +kernel
theorem kdv_67 : kd 67 = (3, 0) := by decide +kernel
theorem kk_67 : (kd 67).1 = 3 := by decide +kernel
theorem kdv_68 : kd 68 = (1, 5) := by decide +kernel
theorem kdv_69 : kd 69 = (1, 5) := by decide +kernel
theorem kdv_70 : kd 70 = (1, 60) := by decide +kernel
theorem kdv_71 : kd 71 = (1, 40) := by decide +kernel
theorem kdv_72 : kd 72 = (11, 10) := by decide +kernel
theorem kdv_73 : kd 73 = (3, 0) := by decide +kernel
theorem kk_73 : (kd 73).1 = 3 := by decide +kernel
theorem kdv_74 : kd 74 = (1, 5) := by decide +kernel
theorem kdv_75 : kd 75 = (1, 5) := by decide +kernel
theorem kdv_76 : kd 76 = (1, 60) := by decide +kernel
theorem kdv_77 : kd 77 = (1, 40) := by decide +kernel
theorem kdv_78 : kd 78 = (3, 0) := by decide +kernel
theorem kk_78 : (kd 78).1 = 3 := by decide +kernel
theorem kdv_79 : kd 79 = (1, 5) := by decide +kernel
theorem kdv_80 : kd 80 = (1, 5) := by decide +kernel
theorem kdv_81 : kd 81 = (1, 60) := by decide +kernel
theorem kdv_82 : kd 82 = (1, 40) := by decide +kernel
theorem kdv_83 : kd 83 = (3, 0) := by decide +kernel
theorem kk_83 : (kd 83).1 = 3 := by decide +kernel
theorem kdv_84 : kd 84 = (1, 5) := by decide +kernel
theorem kdv_85 : kd 85 = (1, 5) := by decide +kernel
theorem kdv_86 : kd 86 = (1, 60) := by decide +kernel
theorem kdv_87 : kd 87 = (1, 40) := by decide +kernel
theorem kdv_88 : kd 88 = (3, 0) := by decide +kernel
theorem kk_88 : (kd 88).1 = 3 := by decide +kernel
theorem kdv_89 : kd 89 = (1, 5) := by decide +kernel
theorem kdv_90 : kd 90 = (1, 5) := by decide +kernel
theorem kdv_91 : kd 91 = (1, 60) := by decide +kernel
theorem kdv_92 : kd 92 = (1, 40) := by decide +kernel
theorem kdv_93 : kd 93 = (3, 0) := by decide +kernel
theorem kk_93 : (kd 93).1 = 3 := by decide +kernel
theorem kdv_94 : kd 94 = (1, 5) := by decide +kernel
theorem kdv_95 : kd 95 = (1, 5) := by decide +kernel
theorem kdv_96 : kd 96 = (1, 60) := by decide +kernel
theorem kdv_97 : kd 97 = (1, 40) := by decide +kernel
theorem kdv_98 : kd 98 = (3, 0) := by decide +kernel
theorem kk_98 : (kd 98).1 = 3 := by decide +kernel
theorem kdv_99 : kd 99 = (1, 5) := by decide +kernel
theorem kdv_100 : kd 100 = (1, 5) := by decide +kernel
theorem kdv_101 : kd 101 = (1, 60) := by decide +kernel
theorem kdv_102 : kd 102 = (1, 40) := by decide +kernel
theorem kdv_103 : kd 103 = (3, 0) := by decide +kernel
theorem kk_103 : (kd 103).1 = 3 := by decide +kernel
theorem kdv_104 : kd 104 = (1, 5) := by decide +kernel
theorem kdv_105 : kd 105 = (1, 5) := by decide +kernel
theorem kdv_106 : kd 106 = (1, 60) := by decide +kernel
theorem kdv_107 : kd 107 = (1, 40) := by decide +kernel
theorem kdv_108 : kd 108 = (3, 0) := by decide +kernel
theorem kk_108 : (kd 108).1 = 3 := by decide +kernel
theorem kdv_109 : kd 109 = (1, 5) := by decide +kernel
theorem kdv_110 : kd 110 = (1, 5) := by decide +kernel
theorem kdv_111 : kd 111 = (1, 60) := by decide +kernel
theorem kdv_112 : kd 112 = (1, 40) := by decide +kernel
theorem kdv_113 : kd 113 = (3, 0) := by decide +kernel
theorem kk_113 : (kd 113).1 = 3 := by decide +kernel
theorem kdv_114 : kd 114 = (1, 5) := by decide +kernel
theorem kdv_115 : kd 115 = (1, 5) := by decide +kernel
theorem kdv_116 : kd 116 = (1, 60) := by decide +kernel
theorem kdv_117 : kd 117 = (1, 40) := by decide +kernel
theorem kdv_118 : kd 118 = (3, 0) := by decide +kernel
theorem kk_118 : (kd 118).1 = 3 := by decide +kernel
theorem kdv_119 : kd 119 = (1, 5) := by decide +kernel
theorem kdv_120 : kd 120 = (1, 5) := by decide +kernel
theorem kdv_121 : kd 121 = (1, 60) := by decide +kernel
theorem kdv_122 : kd 122 = (1, 40) := by decide +kernel
theorem kdv_123 : kd 123 = (7, 0) := by decide +kernel
theorem kk_123 : (kd 123).1 = 7 := by decide +kernel
theorem kdv_124 : kd 124 = (3, 0) := by decide +kernel
theorem kk_124 : (kd 124).1 = 3 := by decide +kernel
theorem kdv_125 : kd 125 = (1, 5) := by decide +kernel
theorem kdv_126 : kd 126 = (1, 5) := by decide +kernel
theorem kdv_127 : kd 127 = (1, 60) := by decide +kernel
theorem kdv_128 : kd 128 = (1, 40) := by decide +kernel
theorem kdv_129 : kd 129 = (11, 10) := by decide +kernel
theorem kdv_130 : kd 130 = (3, 0) := by decide +kernel
theorem kk_130 : (kd 130).1 = 3 := by decide +kernel
theorem kdv_131 : kd 131 = (1, 5) := by decide +kernel
theorem kdv_132 : kd 132 = (1, 5) := by decide +kernel
theorem kdv_133 : kd 133 = (1, 60) := by decide +kernel
theorem kdv_134 : kd 134 = (1, 40) := by decide +kernel
theorem kdv_135 : kd 135 = (3, 0) := by decide +kernel
theorem kk_135 : (kd 135).1 = 3 := by decide +kernel
theorem kdv_136 : kd 136 = (1, 5) := by decide +kernel
theorem kdv_137 : kd 137 = (1, 5) := by decide +kernel
theorem kdv_138 : kd 138 = (1, 60) := by decide +kernel
theorem kdv_139 : kd 139 = (1, 40) := by decide +kernel
theorem kdv_140 : kd 140 = (3, 0) := by decide +kernel
theorem kk_140 : (kd 140).1 = 3 := by decide +kernel
theorem kdv_141 : kd 141 = (1, 5) := by decide +kernel
theorem kdv_142 : kd 142 = (1, 5) := by decide +kernel
theorem kdv_143 : kd 143 = (1, 60) := by decide +kernel
theorem kdv_144 : kd 144 = (1, 40) := by decide +kernel
theorem kdv_145 : kd 145 = (3, 0) := by decide +kernel
theorem kk_145 : (kd 145).1 = 3 := by decide +kernel
theorem kdv_146 : kd 146 = (1, 5) := by decide +kernel
theorem kdv_147 : kd 147 = (1, 5) := by decide +kernel
theorem kdv_148 : kd 148 = (1, 60) := by decide +kernel
theorem kdv_149 : kd 149 = (1, 40) := by decide +kernel
theorem kdv_150 : kd 150 = (3, 0) := by decide +kernel
theorem kk_150 : (kd 150).1 = 3 := by decide +kernel
theorem kdv_151 : kd 151 = (1, 5) := by decide +kernel
theorem kdv_152 : kd 152 = (1, 5) := by decide +kernel
theorem kdv_153 : kd 153 = (1, 60) := by decide +kernel
theorem kdv_154 : kd 154 = (1, 40) := by decide +kernel
theorem kdv_155 : kd 155 = (3, 0) := by decide +kernel
theorem kk_155 : (kd 155).1 = 3 := by decide +kernel
theorem kdv_156 : kd 156 = (1, 5) := by decide +kernel
theorem kdv_157 : kd 157 = (1, 5) := by decide +kernel
theorem kdv_158 : kd 158 = (1, 60) := by decide +kernel
theorem kdv_159 : kd 159 = (1, 40) := by decide +kernel
theorem kdv_160 : kd 160 = (3, 0) := by decide +kernel
theorem kk_160 : (kd 160).1 = 3 := by decide +kernel
theorem kdv_161 : kd 161 = (1, 5) := by decide +kernel
theorem kdv_162 : kd 162 = (1, 5) := by decide +kernel
theorem kdv_163 : kd 163 = (1, 60) := by decide +kernel
theorem kdv_164 : kd 164 = (1, 40) := by decide +kernel
theorem kdv_165 : kd 165 = (3, 0) := by decide +kernel
theorem kk_165 : (kd 165).1 = 3 := by decide +kernel
theorem kdv_166 : kd 166 = (1, 5) := by decide +kernel
theorem kdv_167 : kd 167 = (1, 5) := by decide +kernel
theorem kdv_168 : kd 168 = (1, 60) := by decide +kernel
theorem kdv_169 : kd 169 = (1, 40) := by decide +kernel
theorem kdv_170 : kd 170 = (3, 0) := by decide +kernel
theorem kk_170 : (kd 170).1 = 3 := by decide +kernel
theorem kdv_171 : kd 171 = (1, 5) := by decide +kernel
theorem kdv_172 : kd 172 = (1, 5) := by decide +kernel
theorem kdv_173 : kd 173 = (1, 60) := by decide +kernel
theorem kdv_174 : kd 174 = (1, 40) := by decide +kernel
theorem kdv_175 : kd 175 = (3, 0) := by decide +kernel
theorem kk_175 : (kd 175).1 = 3 := by decide +kernel
theorem kdv_176 : kd 176 = (1, 5) := by decide +kernel
theorem kdv_177 : kd 177 = (1, 5) := by decide +kernel
theorem kdv_178 : kd 178 = (1, 60) := by decide +kernel
theorem kdv_179 : kd 179 = (1, 40) := by decide +kernel
theorem kdv_180 : kd 180 = (2, 2) := by decide +kernel
theorem kdv_181 : kd 181 = (8, 0) := by decide +kernel
theorem kk_181 : (kd 181).1 = 8 := by decide +kernel
theorem kdv_182 : kd 182 = (1, 4) := by decide +kernel
theorem kdv_183 : kd 183 = (1, 4) := by decide +kernel
theorem kdv_184 : kd 184 = (1, 4) := by decide +kernel
theorem kdv_185 : kd 185 = (9, 0) := by decide +kernel
theorem kk_185 : (kd 185).1 = 9 := by decide +kernel
theorem kdv_186 : kd 186 = (1, 10) := by decide +kernel
theorem kdv_187 : kd 187 = (1, 10) := by decide +kernel
theorem kdv_188 : kd 188 = (1, 32) := by decide +kernel
theorem kdv_189 : kd 189 = (1, 13) := by decide +kernel
theorem kdv_190 : kd 190 = (1, 13) := by decide +kernel
theorem kdv_191 : kd 191 = (6, 0) := by decide +kernel
theorem kk_191 : (kd 191).1 = 6 := by decide +kernel
theorem kdv_192 : kd 192 = (1, 5) := by decide +kernel
theorem kdv_193 : kd 193 = (1, 5) := by decide +kernel
theorem kdv_194 : kd 194 = (1, 35) := by decide +kernel
theorem kdv_195 : kd 195 = (1, 10) := by decide +kernel
theorem kdv_196 : kd 196 = (1, 20) := by decide +kernel
theorem kdv_197 : kd 197 = (13, 0) := by decide +kernel
theorem kk_197 : (kd 197).1 = 13 := by decide +kernel
theorem kdv_198 : kd 198 = (14, 5) := by decide +kernel
theorem kdv_199 : kd 199 = (14, 5) := by decide +kernel
theorem kdv_200 : kd 200 = (14, 35) := by decide +kernel
theorem kdv_201 : kd 201 = (14, 1233) := by decide +kernel
theorem kdv_202 : kd 202 = (14, 2466) := by decide +kernel
theorem kdv_203 : kd 203 = (15, 2) := by decide +kernel
theorem kdv_204 : kd 204 = (14, 4) := by decide +kernel
theorem kdv_205 : kd 205 = (14, 8) := by decide +kernel
theorem kdv_206 : kd 206 = (14, 120) := by decide +kernel
theorem kdv_207 : kd 207 = (14, 5) := by decide +kernel
theorem kdv_208 : kd 208 = (14, 5) := by decide +kernel
theorem kdv_209 : kd 209 = (14, 35) := by decide +kernel
theorem kdv_210 : kd 210 = (14, 40) := by decide +kernel
theorem kdv_211 : kd 211 = (14, 10) := by decide +kernel
theorem kr_X1_0 {o : Nat} (h : (kd o).1 = 3) : kd (o + 1) = (1, 5) := (show ∀ o, o < 212 → (kd o).1 = 3 → kd (o + 1) = (1, 5) by decide +kernel) o (kd_lt (by rw [h]; decide)) h
theorem kr_X1_1 {o : Nat} (h : (kd o).1 = 3) : kd (o + 2) = (1, 5) := (show ∀ o, o < 212 → (kd o).1 = 3 → kd (o + 2) = (1, 5) by decide +kernel) o (kd_lt (by rw [h]; decide)) h
theorem kr_X1_2 {o : Nat} (h : (kd o).1 = 3) : kd (o + 3) = (1, 60) := (show ∀ o, o < 212 → (kd o).1 = 3 → kd (o + 3) = (1, 60) by decide +kernel) o (kd_lt (by rw [h]; decide)) h
theorem kr_X1_3 {o : Nat} (h : (kd o).1 = 3) : kd (o + 4) = (1, 40) := (show ∀ o, o < 212 → (kd o).1 = 3 → kd (o + 4) = (1, 40) by decide +kernel) o (kd_lt (by rw [h]; decide)) h
theorem kr_X6_0 {o : Nat} (h : (kd o).1 = 6) : kd (o + 1) = (1, 5) := (show ∀ o, o < 212 → (kd o).1 = 6 → kd (o + 1) = (1, 5) by decide +kernel) o (kd_lt (by rw [h]; decide)) h
theorem kr_X6_1 {o : Nat} (h : (kd o).1 = 6) : kd (o + 2) = (1, 5) := (show ∀ o, o < 212 → (kd o).1 = 6 → kd (o + 2) = (1, 5) by decide +kernel) o (kd_lt (by rw [h]; decide)) h
theorem kr_X6_2 {o : Nat} (h : (kd o).1 = 6) : kd (o + 3) = (1, 35) := (show ∀ o, o < 212 → (kd o).1 = 6 → kd (o + 3) = (1, 35) by decide +kernel) o (kd_lt (by rw [h]; decide)) h
theorem kr_X5_0 {o : Nat} (h : (kd o).1 = 7) : (kd (o + 1)).1 = 3 := (show ∀ o, o < 212 → (kd o).1 = 7 → (kd (o + 1)).1 = 3 by decide +kernel) o (kd_lt (by rw [h]; decide)) h
theorem kr_X5_1 {o : Nat} (h : (kd o).1 = 7) : kd (o + 6) = (11, 10) := (show ∀ o, o < 212 → (kd o).1 = 7 → kd (o + 6) = (11, 10) by decide +kernel) o (kd_lt (by rw [h]; decide)) h
end
section
abbrev rmJ6_bitCount_0f7a4 : Room := { frames := 0, cells := 0, slots := 0, locals := 0 }
theorem hd_J6_bitCount_0f7a4 : Hd yJ6_bitCount_0f7a4 RJ6 1 := by decide +kernel
def gJ6_bitCount_0f7a4 (x0 : Int32) : Option (Int32) := (some (x0 - (((x0.toUInt32 >>> ((1 : Int32).toUInt32 &&& Int32.toUInt32 31)).toInt32) &&& 1431655765))).bind fun z1 => (some ((z1 &&& 858993459) + (((z1.toUInt32 >>> ((2 : Int32).toUInt32 &&& Int32.toUInt32 31)).toInt32) &&& 858993459))).bind fun z2 => (some ((z2 + ((z2.toUInt32 >>> ((4 : Int32).toUInt32 &&& Int32.toUInt32 31)).toInt32)) &&& 252645135)).bind fun z3 => (some (z3 + ((z3.toUInt32 >>> ((8 : Int32).toUInt32 &&& Int32.toUInt32 31)).toInt32))).bind fun z4 => (some (z4 + ((z4.toUInt32 >>> ((16 : Int32).toUInt32 &&& Int32.toUInt32 31)).toInt32))).bind fun z5 => some (z5 &&& 63)
set_option maxHeartbeats 4000000 in
set_option maxRecDepth 100000 in
theorem ctJ6_bitCount_0f7a4 (l : Launch) (E : EE) (b : Nat) {MC : Mem} {TC : Int64} {MM : Mem} {TM : Int64} {x0 : Int32} {res : Int32}  (hf : gJ6_bitCount_0f7a4 x0 = some res) : MetI l E b yJ6_bitCount_0f7a4 (.code yJ6_bitCount_0f7a4 cJ6_bitCount_0f7a4 1 (some .int)) rmJ6_bitCount_0f7a4 [.int x0] MC TC MM TM res MC TC MM TM := by
  refine Met.ofW (cc := cJ6_bitCount_0f7a4) (maxL := 1) (ret := (some .int)) (by decide) rfl ?_
  intro p e s m args below meth c s₁ B hml hv
  obtain ⟨rfl, hP, hK⟩ := hv
  have hx := B.exec
  have hb := B.bytes
  have X : CX E p s m _ c cJ6_bitCount_0f7a4 1 RJ6 := ⟨hx, hb, hml, findClass_of_methodNamed B.named, fun w h => atoms_spec (ws := _ :: wt) B.pre w (List.mem_cons_of_mem _ h), hK⟩
  have hr := B.returns
  have hlk := B.notSynchronized
  have hw : WW E b MC TC MM TM s s.heap [] := ⟨hP, va_S.rf⟩
  have hl := lv_entry ([.int x0]) (n := 1) (Nat.le_of_ble_eq_true rfl)
  rw [lg_entry_eq]
  generalize (lg_sl ([.int x0]) ++ List.replicate (1 - (lg_sl ([.int x0])).length) Slot.unset).toArray = ls at hl ⊢
  have hl : lv_has ls 1 [(0, .int x0)] := hl
  obtain ⟨H, hH⟩ : ∃ H, H = s.heap := ⟨_, rfl⟩
  obtain ⟨locs, hL⟩ : ∃ L : List Loc, L = [] := ⟨_, rfl⟩
  rw [← hH, ← hL] at hw
  suffices hg : W p l e rmJ6_bitCount_0f7a4 s m _ below meth c H locs 0 0 (MQ below (va_Qi (fun x (_ : Unit) => x = res) (fun _ t => PW E b MC TC MM TM t) (AA b)) _ s 0 0 (AA b)) (F0 m 0 ls []) by rw [hH, hL] at hg; exact hg
  clear hH hL
  rw [gJ6_bitCount_0f7a4] at hf
  refine lv_iload_n hx hb dJ6_bitCount_0f7a4_0 rfl (lv_at hl 0 rfl) ?_
  refine lv_iload_n hx hb dJ6_bitCount_0f7a4_1 rfl (lv_at hl 0 rfl) ?_
  refine lv_iconst (v := 1) hx hb dJ6_bitCount_0f7a4_2 (by decide) ?_
  refine lv_iushr hx hb dJ6_bitCount_0f7a4_3 rfl ?_
  refine lv_ldcw (v := 1431655765) hx hb X.2.2.2.1 (X.2.2.2.2.1 _ mw_591) dJ6_bitCount_0f7a4_4 ?_
  refine lv_iand hx hb dJ6_bitCount_0f7a4_7 ?_
  refine lv_isub hx hb dJ6_bitCount_0f7a4_8 ?_
  refine lv_topi (fun z1 ez1 => ?_)
  replace hf := nmb hf ez1
  refine lv_istore_n (lv' := [(0, .int z1)]) hx hb dJ6_bitCount_0f7a4_9 rfl hl (by decide) rfl (fun ls hl => ?_)
  refine lv_iload_n hx hb dJ6_bitCount_0f7a4_10 rfl (lv_at hl 0 rfl) ?_
  refine lv_ldcw (v := 858993459) hx hb X.2.2.2.1 (X.2.2.2.2.1 _ mw_592) dJ6_bitCount_0f7a4_11 ?_
  refine lv_iand hx hb dJ6_bitCount_0f7a4_14 ?_
  refine lv_iload_n hx hb dJ6_bitCount_0f7a4_15 rfl (lv_at hl 0 rfl) ?_
  refine lv_iconst (v := 2) hx hb dJ6_bitCount_0f7a4_16 (by decide) ?_
  refine lv_iushr hx hb dJ6_bitCount_0f7a4_17 rfl ?_
  refine lv_ldcw (v := 858993459) hx hb X.2.2.2.1 (X.2.2.2.2.1 _ mw_592) dJ6_bitCount_0f7a4_18 ?_
  refine lv_iand hx hb dJ6_bitCount_0f7a4_21 ?_
  refine lv_iadd hx hb dJ6_bitCount_0f7a4_22 ?_
  refine lv_topi (fun z2 ez2 => ?_)
  replace hf := nmb hf ez2
  refine lv_istore_n (lv' := [(0, .int z2)]) hx hb dJ6_bitCount_0f7a4_23 rfl hl (by decide) rfl (fun ls hl => ?_)
  refine lv_iload_n hx hb dJ6_bitCount_0f7a4_24 rfl (lv_at hl 0 rfl) ?_
  refine lv_iload_n hx hb dJ6_bitCount_0f7a4_25 rfl (lv_at hl 0 rfl) ?_
  refine lv_iconst (v := 4) hx hb dJ6_bitCount_0f7a4_26 (by decide) ?_
  refine lv_iushr hx hb dJ6_bitCount_0f7a4_27 rfl ?_
  refine lv_iadd hx hb dJ6_bitCount_0f7a4_28 ?_
  refine lv_ldcw (v := 252645135) hx hb X.2.2.2.1 (X.2.2.2.2.1 _ mw_593) dJ6_bitCount_0f7a4_29 ?_
  refine lv_iand hx hb dJ6_bitCount_0f7a4_32 ?_
  refine lv_topi (fun z3 ez3 => ?_)
  replace hf := nmb hf ez3
  refine lv_istore_n (lv' := [(0, .int z3)]) hx hb dJ6_bitCount_0f7a4_33 rfl hl (by decide) rfl (fun ls hl => ?_)
  refine lv_iload_n hx hb dJ6_bitCount_0f7a4_34 rfl (lv_at hl 0 rfl) ?_
  refine lv_iload_n hx hb dJ6_bitCount_0f7a4_35 rfl (lv_at hl 0 rfl) ?_
  refine lv_bipush (v := 8) hx hb dJ6_bitCount_0f7a4_36 (by decide) ?_
  refine lv_iushr hx hb dJ6_bitCount_0f7a4_38 rfl ?_
  refine lv_iadd hx hb dJ6_bitCount_0f7a4_39 ?_
  refine lv_topi (fun z4 ez4 => ?_)
  replace hf := nmb hf ez4
  refine lv_istore_n (lv' := [(0, .int z4)]) hx hb dJ6_bitCount_0f7a4_40 rfl hl (by decide) rfl (fun ls hl => ?_)
  refine lv_iload_n hx hb dJ6_bitCount_0f7a4_41 rfl (lv_at hl 0 rfl) ?_
  refine lv_iload_n hx hb dJ6_bitCount_0f7a4_42 rfl (lv_at hl 0 rfl) ?_
  refine lv_bipush (v := 16) hx hb dJ6_bitCount_0f7a4_43 (by decide) ?_
  refine lv_iushr hx hb dJ6_bitCount_0f7a4_45 rfl ?_
  refine lv_iadd hx hb dJ6_bitCount_0f7a4_46 ?_
  refine lv_topi (fun z5 ez5 => ?_)
  replace hf := nmb hf ez5
  refine lv_istore_n (lv' := [(0, .int z5)]) hx hb dJ6_bitCount_0f7a4_47 rfl hl (by decide) rfl (fun ls hl => ?_)
  refine lv_iload_n hx hb dJ6_bitCount_0f7a4_48 rfl (lv_at hl 0 rfl) ?_
  refine lv_bipush (v := 63) hx hb dJ6_bitCount_0f7a4_49 (by decide) ?_
  refine lv_iand hx hb dJ6_bitCount_0f7a4_51 ?_
  cases hf
  exact eI X hw hr hlk dJ6_bitCount_0f7a4_52

abbrev rmJ7_fill_53178 : Room := { frames := 0, cells := 0, slots := 0, locals := 0 }
theorem hd_J7_fill_53178 : Hd yJ7_fill_53178 RJ7 2 := by decide +kernel
def gJ7_fill_53178_5 (o0 : Nat) (n0 : Nat)  : Nat → Int32 → Int32 → Int32 → Mem → Option (Mem)
  | 0, _, _, _, _ => none
  | n + 1, x1, x2, x3, M => if x3 ≤ x2 then (some (M)) else ((stA n0 M o0 x2 x1).bind fun M8 => (some (x2 + 1)).bind fun z10 => (gJ7_fill_53178_5 o0 n0 n) x1 z10 x3 M8)
def gJ7_fill_53178 (o0 : Nat) (n0 : Nat) (x1 : Int32) (M : Mem) : Option (Mem) := (some (Int32.ofNat n0)).bind fun z6 => gJ7_fill_53178_5 o0 n0 FU x1 0 z6 M
set_option maxHeartbeats 4000000 in
set_option maxRecDepth 100000 in
theorem tJ7_fill_53178_5 {p : Program} {l : Launch} {e : Env} {s : State} {m : MethodId} {args : Array Value} {below : List Frame} {meth : Method} {c : Code} {E : EE} {b : Nat} {TC : Int64} {MM : Mem} {TM : Int64} {res : Mem} (X : CX E p s m args c cJ7_fill_53178 4 RJ7) (hr : meth.sig.returnType = none) (hlk : meth.locks = false) {o0 : Nat} {n0 : Nat} (h0 : kd o0 = (1, n0))  : ∀ (n : Nat) (x1 : Int32) (x2 : Int32) (x3 : Int32) (M : Mem), gJ7_fill_53178_5 o0 n0 n x1 x2 x3 M = some res → ∀ (H : Heap) (locs : List Loc) (ls : Array Slot), WW E b M TC MM TM s H locs → lv_has ls 4 [(0, .ref (b + o0)), (1, .int x1), (2, .int x2), (3, .int x3)] → W p l e rmJ7_fill_53178 s m args below meth c H locs 0 0 (MQ below (va_Qv (fun (_ : Unit) => True) (fun _ t => PW E b res TC MM TM t) (AA b)) args s 0 0 (AA b)) (F0 m 5 ls []) := by
  have hx := X.1
  have hb := X.2.1
  intro n
  induction n with
  | zero =>
    intro x1 x2 x3 M hf
    cases (show (none : Option (Mem)) = some res from hf)
  | succ n ih =>
    intro x1 x2 x3 M hf H locs ls hw hl
    rw [gJ7_fill_53178_5] at hf
    refine lv_iload_n hx hb dJ7_fill_53178_5 rfl (lv_at hl 2 rfl) ?_
    refine lv_iload_n hx hb dJ7_fill_53178_6 rfl (lv_at hl 3 rfl) ?_
    refine lv_icmp_ge (tgt := 20) hx hb dJ7_fill_53178_7 (by decide) (fun c7 => ?_) (fun c7 => ?_)
    · replace hf := (if_pos c7).symm.trans hf
      cases hf
      exact eV X hw hr hlk dJ7_fill_53178_20
    · replace hf := (if_neg c7).symm.trans hf
      refine lv_aload_n hx hb dJ7_fill_53178_10 rfl (lv_at hl 0 rfl) ?_
      refine lv_iload_n hx hb dJ7_fill_53178_11 rfl (lv_at hl 2 rfl) ?_
      refine lv_iload_n hx hb dJ7_fill_53178_12 rfl (lv_at hl 1 rfl) ?_
      obtain ⟨M8, q9, hf⟩ := ob hf
      refine astC X hw h0 q9 dJ7_fill_53178_13 (fun H locs hw => ?_)
      obtain ⟨z10, ez10⟩ : ∃ y : Int32, y = x2 + 1 := ⟨_, rfl⟩
      replace hf := nmb hf ez10
      refine lv_iinc (v := z10) (lv' := [(2, .int z10), (0, .ref (b + o0)), (1, .int x1), (3, .int x3)]) hx hb dJ7_fill_53178_14 hl (k := 2) rfl (by rw [ez10]; rfl) (by decide) rfl (fun ls hl => ?_)
      refine lv_goto (tgt := 5) hx hb dJ7_fill_53178_17 (by decide) ?_
      exact ih x1 z10 x3 M8 hf H locs ls hw (lv_sub hl [1, 2, 0, 3] rfl)
set_option maxHeartbeats 4000000 in
set_option maxRecDepth 100000 in
theorem ctJ7_fill_53178 (l : Launch) (E : EE) (b : Nat) {TC : Int64} {MM : Mem} {TM : Int64} {o0 : Nat} {n0 : Nat} {x1 : Int32} {M : Mem} {res : Mem} (h0 : kd o0 = (1, n0)) (hf : gJ7_fill_53178 o0 n0 x1 M = some res) : MetV l E b yJ7_fill_53178 (.code yJ7_fill_53178 cJ7_fill_53178 4 none) rmJ7_fill_53178 [.ref (b + o0), .int x1] M TC MM TM res TC MM TM := by
  refine Met.ofW (cc := cJ7_fill_53178) (maxL := 4) (ret := none) (by decide) rfl ?_
  intro p e s m args below meth c s₁ B hml hv
  obtain ⟨rfl, hP, hK⟩ := hv
  have hx := B.exec
  have hb := B.bytes
  have X : CX E p s m _ c cJ7_fill_53178 4 RJ7 := ⟨hx, hb, hml, findClass_of_methodNamed B.named, fun w h => atoms_spec (ws := _ :: wt) B.pre w (List.mem_cons_of_mem _ h), hK⟩
  have hr := B.returns
  have hlk := B.notSynchronized
  have hw : WW E b M TC MM TM s s.heap [] := ⟨hP, va_S.rf⟩
  have hl := lv_entry ([.ref (b + o0), .int x1]) (n := 4) (Nat.le_of_ble_eq_true rfl)
  rw [lg_entry_eq]
  generalize (lg_sl ([.ref (b + o0), .int x1]) ++ List.replicate (4 - (lg_sl ([.ref (b + o0), .int x1])).length) Slot.unset).toArray = ls at hl ⊢
  have hl : lv_has ls 4 [(0, .ref (b + o0)), (1, .int x1)] := hl
  obtain ⟨H, hH⟩ : ∃ H, H = s.heap := ⟨_, rfl⟩
  obtain ⟨locs, hL⟩ : ∃ L : List Loc, L = [] := ⟨_, rfl⟩
  rw [← hH, ← hL] at hw
  suffices hg : W p l e rmJ7_fill_53178 s m _ below meth c H locs 0 0 (MQ below (va_Qv (fun (_ : Unit) => True) (fun _ t => PW E b res TC MM TM t) (AA b)) _ s 0 0 (AA b)) (F0 m 0 ls []) by rw [hH, hL] at hg; exact hg
  clear hH hL
  rw [gJ7_fill_53178] at hf
  refine lv_iconst (v := 0) hx hb dJ7_fill_53178_0 (by decide) ?_
  refine lv_istore_n (lv' := [(2, .int 0), (0, .ref (b + o0)), (1, .int x1)]) hx hb dJ7_fill_53178_1 rfl hl (by decide) rfl (fun ls hl => ?_)
  refine lv_aload_n hx hb dJ7_fill_53178_2 rfl (lv_at hl 1 rfl) ?_
  refine alenC X hw h0 rfl dJ7_fill_53178_3 ?_
  refine lv_topi (fun z6 ez6 => ?_)
  replace hf := nmb hf ez6
  refine lv_istore_n (lv' := [(3, .int z6), (2, .int 0), (0, .ref (b + o0)), (1, .int x1)]) hx hb dJ7_fill_53178_4 rfl hl (by decide) rfl (fun ls hl => ?_)
  exact tJ7_fill_53178_5 X hr hlk h0 FU x1 0 z6 M hf H locs ls hw (lv_sub hl [2, 3, 1, 0] rfl)

abbrev rmX6_begin : Room := { frames := 0, cells := 0, slots := 0, locals := 0 }
theorem hd_X6_begin : Hd yX6_begin RX6 0 := by decide +kernel
def gX6_begin (o0 : Nat) (M : Mem) : Option (Mem) := (some (us M o0 3 0)).bind fun M11 => (some (us M11 o0 4 12)).bind fun M12 => (some (us M12 o0 5 0)).bind fun M13 => some (M13)
set_option maxHeartbeats 4000000 in
set_option maxRecDepth 100000 in
theorem ctX6_begin (l : Launch) (E : EE) (b : Nat) {TC : Int64} {MM : Mem} {TM : Int64} {o0 : Nat} {M : Mem} {res : Mem} (h0 : (kd o0).1 = 6) (hf : gX6_begin o0 M = some res) : MetV l E b yX6_begin (.code yX6_begin cX6_begin 1 none) rmX6_begin [.ref (b + o0)] M TC MM TM res TC MM TM := by
  refine Met.ofW (cc := cX6_begin) (maxL := 1) (ret := none) (by decide) rfl ?_
  intro p e s m args below meth c s₁ B hml hv
  obtain ⟨rfl, hP, hK⟩ := hv
  have hx := B.exec
  have hb := B.bytes
  have X : CX E p s m _ c cX6_begin 1 RX6 := ⟨hx, hb, hml, findClass_of_methodNamed B.named, fun w h => atoms_spec (ws := _ :: wt) B.pre w (List.mem_cons_of_mem _ h), hK⟩
  have hr := B.returns
  have hlk := B.notSynchronized
  have hw : WW E b M TC MM TM s s.heap [] := ⟨hP, va_S.rf⟩
  have hl := lv_entry ([.ref (b + o0)]) (n := 1) (Nat.le_of_ble_eq_true rfl)
  rw [lg_entry_eq]
  generalize (lg_sl ([.ref (b + o0)]) ++ List.replicate (1 - (lg_sl ([.ref (b + o0)])).length) Slot.unset).toArray = ls at hl ⊢
  have hl : lv_has ls 1 [(0, .ref (b + o0))] := hl
  obtain ⟨H, hH⟩ : ∃ H, H = s.heap := ⟨_, rfl⟩
  obtain ⟨locs, hL⟩ : ∃ L : List Loc, L = [] := ⟨_, rfl⟩
  rw [← hH, ← hL] at hw
  suffices hg : W p l e rmX6_begin s m _ below meth c H locs 0 0 (MQ below (va_Qv (fun (_ : Unit) => True) (fun _ t => PW E b res TC MM TM t) (AA b)) _ s 0 0 (AA b)) (F0 m 0 ls []) by rw [hH, hL] at hg; exact hg
  clear hH hL
  rw [gX6_begin] at hf
  refine lv_aload_n hx hb dX6_begin_0 rfl (lv_at hl 0 rfl) ?_
  refine lv_iconst (v := 0) hx hb dX6_begin_1 (by decide) ?_
  obtain ⟨M11, eM11, hf⟩ := ob hf
  refine pt_X6_3 X hw h0 mw_111 dX6_begin_2 (fun H locs hw => ?_)
  rw [Option.some.inj eM11] at hw
  refine lv_aload_n hx hb dX6_begin_5 rfl (lv_at hl 0 rfl) ?_
  refine lv_bipush (v := 12) hx hb dX6_begin_6 (by decide) ?_
  obtain ⟨M12, eM12, hf⟩ := ob hf
  refine pt_X6_4 X hw h0 mw_115 dX6_begin_8 (fun H locs hw => ?_)
  rw [Option.some.inj eM12] at hw
  refine lv_aload_n hx hb dX6_begin_11 rfl (lv_at hl 0 rfl) ?_
  refine lv_iconst (v := 0) hx hb dX6_begin_12 (by decide) ?_
  obtain ⟨M13, eM13, hf⟩ := ob hf
  refine pt_X6_5 X hw h0 mw_120 dX6_begin_13 (fun H locs hw => ?_)
  rw [Option.some.inj eM13] at hw
  cases hf
  exact eV X hw hr hlk dX6_begin_16

abbrev rmX6_copyFrom : Room := { frames := 1, cells := 0, slots := 0, locals := 60 }
theorem hd_X6_copyFrom : Hd yX6_copyFrom RX6 1 := by decide +kernel
def gX6_copyFrom (o0 : Nat) (o1 : Nat) (M : Mem) : Option (Mem) := (some (us M o0 3 (M o1 3))).bind fun M14 => (some (us M14 o0 4 (M14 o1 4))).bind fun M15 => (some (us M15 o0 5 (M15 o1 5))).bind fun M16 => (cpA 5 5 M16 (o1 + 1) 0 (o0 + 1) 0 5).bind fun M17 => (cpA 5 5 M17 (o1 + 2) 0 (o0 + 2) 0 5).bind fun M19 => (cpA 35 35 M19 (o1 + 3) 0 (o0 + 3) 0 35).bind fun M21 => some (M21)
set_option maxHeartbeats 4000000 in
set_option maxRecDepth 100000 in
theorem ctX6_copyFrom (l : Launch) (E : EE) (b : Nat) {TC : Int64} {MM : Mem} {TM : Int64} {o0 : Nat} {o1 : Nat} {M : Mem} {res : Mem} (h0 : (kd o0).1 = 6) (h1 : (kd o1).1 = 6) (hf : gX6_copyFrom o0 o1 M = some res) : MetV l E b yX6_copyFrom (.code yX6_copyFrom cX6_copyFrom 2 none) rmX6_copyFrom [.ref (b + o0), .ref (b + o1)] M TC MM TM res TC MM TM := by
  refine Met.ofW (cc := cX6_copyFrom) (maxL := 2) (ret := none) (by decide) rfl ?_
  intro p e s m args below meth c s₁ B hml hv
  obtain ⟨rfl, hP, hK⟩ := hv
  have hx := B.exec
  have hb := B.bytes
  have X : CX E p s m _ c cX6_copyFrom 2 RX6 := ⟨hx, hb, hml, findClass_of_methodNamed B.named, fun w h => atoms_spec (ws := _ :: wt) B.pre w (List.mem_cons_of_mem _ h), hK⟩
  have hr := B.returns
  have hlk := B.notSynchronized
  have hw : WW E b M TC MM TM s s.heap [] := ⟨hP, va_S.rf⟩
  have hl := lv_entry ([.ref (b + o0), .ref (b + o1)]) (n := 2) (Nat.le_of_ble_eq_true rfl)
  rw [lg_entry_eq]
  generalize (lg_sl ([.ref (b + o0), .ref (b + o1)]) ++ List.replicate (2 - (lg_sl ([.ref (b + o0), .ref (b + o1)])).length) Slot.unset).toArray = ls at hl ⊢
  have hl : lv_has ls 2 [(0, .ref (b + o0)), (1, .ref (b + o1))] := hl
  obtain ⟨H, hH⟩ : ∃ H, H = s.heap := ⟨_, rfl⟩
  obtain ⟨locs, hL⟩ : ∃ L : List Loc, L = [] := ⟨_, rfl⟩
  rw [← hH, ← hL] at hw
  suffices hg : W p l e rmX6_copyFrom s m _ below meth c H locs 0 0 (MQ below (va_Qv (fun (_ : Unit) => True) (fun _ t => PW E b res TC MM TM t) (AA b)) _ s 0 0 (AA b)) (F0 m 0 ls []) by rw [hH, hL] at hg; exact hg
  clear hH hL
  rw [gX6_copyFrom] at hf
  refine lv_aload_n hx hb dX6_copyFrom_0 rfl (lv_at hl 0 rfl) ?_
  refine lv_aload_n hx hb dX6_copyFrom_1 rfl (lv_at hl 1 rfl) ?_
  refine gt_X6 X hw 3 h1 rfl (by decide) mw_111 rfl dX6_copyFrom_2 ?_
  obtain ⟨M14, eM14, hf⟩ := ob hf
  refine pt_X6_3 X hw h0 mw_111 dX6_copyFrom_5 (fun H locs hw => ?_)
  rw [Option.some.inj eM14] at hw
  refine lv_aload_n hx hb dX6_copyFrom_8 rfl (lv_at hl 0 rfl) ?_
  refine lv_aload_n hx hb dX6_copyFrom_9 rfl (lv_at hl 1 rfl) ?_
  refine gt_X6 X hw 4 h1 rfl (by decide) mw_115 rfl dX6_copyFrom_10 ?_
  obtain ⟨M15, eM15, hf⟩ := ob hf
  refine pt_X6_4 X hw h0 mw_115 dX6_copyFrom_13 (fun H locs hw => ?_)
  rw [Option.some.inj eM15] at hw
  refine lv_aload_n hx hb dX6_copyFrom_16 rfl (lv_at hl 0 rfl) ?_
  refine lv_aload_n hx hb dX6_copyFrom_17 rfl (lv_at hl 1 rfl) ?_
  refine gt_X6 X hw 5 h1 rfl (by decide) mw_120 rfl dX6_copyFrom_18 ?_
  obtain ⟨M16, eM16, hf⟩ := ob hf
  refine pt_X6_5 X hw h0 mw_120 dX6_copyFrom_21 (fun H locs hw => ?_)
  rw [Option.some.inj eM16] at hw
  refine lv_aload_n hx hb dX6_copyFrom_24 rfl (lv_at hl 1 rfl) ?_
  refine gt_X6 X hw 0 h1 rfl (by decide) mw_102 rfl dX6_copyFrom_25 ?_
  refine lv_iconst (v := 0) hx hb dX6_copyFrom_28 (by decide) ?_
  refine lv_aload_n hx hb dX6_copyFrom_29 rfl (lv_at hl 0 rfl) ?_
  refine gt_X6 X hw 0 h0 rfl (by decide) mw_102 rfl dX6_copyFrom_30 ?_
  refine lv_iconst (v := 0) hx hb dX6_copyFrom_33 (by decide) ?_
  refine lv_aload_n hx hb dX6_copyFrom_34 rfl (lv_at hl 0 rfl) ?_
  refine gt_X6 X hw 0 h0 rfl (by decide) mw_102 rfl dX6_copyFrom_35 ?_
  refine alenC X hw (kr_X6_0 h0) (v := 5) (by decide) dX6_copyFrom_38 ?_
  obtain ⟨M17, q18, hf⟩ := ob hf
  refine cpyC X hw hl.1 (kr_X6_0 h1) (kr_X6_0 h0) q18 mw_384 mw_386 mw_385 mw_63 (Nat.le_of_ble_eq_true rfl) (Nat.le_of_ble_eq_true rfl) dX6_copyFrom_39 (fun H locs hw => ?_)
  refine lv_aload_n hx hb dX6_copyFrom_42 rfl (lv_at hl 1 rfl) ?_
  refine gt_X6 X hw 1 h1 rfl (by decide) mw_105 rfl dX6_copyFrom_43 ?_
  refine lv_iconst (v := 0) hx hb dX6_copyFrom_46 (by decide) ?_
  refine lv_aload_n hx hb dX6_copyFrom_47 rfl (lv_at hl 0 rfl) ?_
  refine gt_X6 X hw 1 h0 rfl (by decide) mw_105 rfl dX6_copyFrom_48 ?_
  refine lv_iconst (v := 0) hx hb dX6_copyFrom_51 (by decide) ?_
  refine lv_aload_n hx hb dX6_copyFrom_52 rfl (lv_at hl 0 rfl) ?_
  refine gt_X6 X hw 1 h0 rfl (by decide) mw_105 rfl dX6_copyFrom_53 ?_
  refine alenC X hw (kr_X6_1 h0) (v := 5) (by decide) dX6_copyFrom_56 ?_
  obtain ⟨M19, q20, hf⟩ := ob hf
  refine cpyC X hw hl.1 (kr_X6_1 h1) (kr_X6_1 h0) q20 mw_384 mw_386 mw_385 mw_63 (Nat.le_of_ble_eq_true rfl) (Nat.le_of_ble_eq_true rfl) dX6_copyFrom_57 (fun H locs hw => ?_)
  refine lv_aload_n hx hb dX6_copyFrom_60 rfl (lv_at hl 1 rfl) ?_
  refine gt_X6 X hw 2 h1 rfl (by decide) mw_108 rfl dX6_copyFrom_61 ?_
  refine lv_iconst (v := 0) hx hb dX6_copyFrom_64 (by decide) ?_
  refine lv_aload_n hx hb dX6_copyFrom_65 rfl (lv_at hl 0 rfl) ?_
  refine gt_X6 X hw 2 h0 rfl (by decide) mw_108 rfl dX6_copyFrom_66 ?_
  refine lv_iconst (v := 0) hx hb dX6_copyFrom_69 (by decide) ?_
  refine lv_aload_n hx hb dX6_copyFrom_70 rfl (lv_at hl 0 rfl) ?_
  refine gt_X6 X hw 2 h0 rfl (by decide) mw_108 rfl dX6_copyFrom_71 ?_
  refine alenC X hw (kr_X6_2 h0) (v := 35) (by decide) dX6_copyFrom_74 ?_
  obtain ⟨M21, q22, hf⟩ := ob hf
  refine cpyC X hw hl.1 (kr_X6_2 h1) (kr_X6_2 h0) q22 mw_384 mw_386 mw_385 mw_63 (Nat.le_of_ble_eq_true rfl) (Nat.le_of_ble_eq_true rfl) dX6_copyFrom_75 (fun H locs hw => ?_)
  cases hf
  exact eV X hw hr hlk dX6_copyFrom_78

abbrev rmX6_usualThought : Room := { frames := 0, cells := 0, slots := 0, locals := 0 }
theorem hd_X6_usualThought : Hd yX6_usualThought RX6 2 := by decide +kernel
def gX6_usualThought_28 (o0 : Nat)  (y0 : Int32) (M : Mem) : Option (Int32) := some (y0)
def gX6_usualThought (o0 : Nat) (x1 : Int32) (x2 : Int32) (M : Mem) : Option (Int32) := (ldA 5 (M (o0 + 2)) x1).bind fun v23 => if v23 ≤ 0 then (gX6_usualThought_28 o0 0 M) else ((nz v23).bind fun _ => (ldA 35 (M (o0 + 3)) ((x1 * 7) + (x2 - x2 / v23 * v23))).bind fun v27 => gX6_usualThought_28 o0 v27 M)
set_option maxHeartbeats 4000000 in
set_option maxRecDepth 100000 in
theorem tX6_usualThought_28 {p : Program} {l : Launch} {e : Env} {s : State} {m : MethodId} {args : Array Value} {below : List Frame} {meth : Method} {c : Code} {E : EE} {b : Nat} {TC : Int64} {MM : Mem} {TM : Int64} {res : Int32} (X : CX E p s m args c cX6_usualThought 4 RX6) (hr : meth.sig.returnType = (some .int)) (hlk : meth.locks = false) {o0 : Nat} (h0 : (kd o0).1 = 6)  : ∀ (y0 : Int32) (M : Mem), gX6_usualThought_28 o0 y0 M = some res → ∀ (H : Heap) (locs : List Loc) (ls : Array Slot), WW E b M TC MM TM s H locs → lv_has ls 4 [] → W p l e rmX6_usualThought s m args below meth c H locs 0 0 (MQ below (va_Qi (fun x (_ : Unit) => x = res) (fun _ t => PW E b M TC MM TM t) (AA b)) args s 0 0 (AA b)) (F0 m 28 ls [.int y0]) := by
  have hx := X.1
  have hb := X.2.1
  intro y0 M hf H locs ls hw hl
  rw [gX6_usualThought_28] at hf
  cases hf
  exact eI X hw hr hlk dX6_usualThought_28
set_option maxHeartbeats 4000000 in
set_option maxRecDepth 100000 in
theorem ctX6_usualThought (l : Launch) (E : EE) (b : Nat) {TC : Int64} {MM : Mem} {TM : Int64} {o0 : Nat} {x1 : Int32} {x2 : Int32} {M : Mem} {res : Int32} (h0 : (kd o0).1 = 6) (hf : gX6_usualThought o0 x1 x2 M = some res) : MetI l E b yX6_usualThought (.code yX6_usualThought cX6_usualThought 4 (some .int)) rmX6_usualThought [.ref (b + o0), .int x1, .int x2] M TC MM TM res M TC MM TM := by
  refine Met.ofW (cc := cX6_usualThought) (maxL := 4) (ret := (some .int)) (by decide) rfl ?_
  intro p e s m args below meth c s₁ B hml hv
  obtain ⟨rfl, hP, hK⟩ := hv
  have hx := B.exec
  have hb := B.bytes
  have X : CX E p s m _ c cX6_usualThought 4 RX6 := ⟨hx, hb, hml, findClass_of_methodNamed B.named, fun w h => atoms_spec (ws := _ :: wt) B.pre w (List.mem_cons_of_mem _ h), hK⟩
  have hr := B.returns
  have hlk := B.notSynchronized
  have hw : WW E b M TC MM TM s s.heap [] := ⟨hP, va_S.rf⟩
  have hl := lv_entry ([.ref (b + o0), .int x1, .int x2]) (n := 4) (Nat.le_of_ble_eq_true rfl)
  rw [lg_entry_eq]
  generalize (lg_sl ([.ref (b + o0), .int x1, .int x2]) ++ List.replicate (4 - (lg_sl ([.ref (b + o0), .int x1, .int x2])).length) Slot.unset).toArray = ls at hl ⊢
  have hl : lv_has ls 4 [(0, .ref (b + o0)), (1, .int x1), (2, .int x2)] := hl
  obtain ⟨H, hH⟩ : ∃ H, H = s.heap := ⟨_, rfl⟩
  obtain ⟨locs, hL⟩ : ∃ L : List Loc, L = [] := ⟨_, rfl⟩
  rw [← hH, ← hL] at hw
  suffices hg : W p l e rmX6_usualThought s m _ below meth c H locs 0 0 (MQ below (va_Qi (fun x (_ : Unit) => x = res) (fun _ t => PW E b M TC MM TM t) (AA b)) _ s 0 0 (AA b)) (F0 m 0 ls []) by rw [hH, hL] at hg; exact hg
  clear hH hL
  rw [gX6_usualThought] at hf
  refine lv_aload_n hx hb dX6_usualThought_0 rfl (lv_at hl 0 rfl) ?_
  refine gt_X6 X hw 1 h0 rfl (by decide) mw_105 rfl dX6_usualThought_1 ?_
  refine lv_iload_n hx hb dX6_usualThought_4 rfl (lv_at hl 1 rfl) ?_
  obtain ⟨v23, q24, hf⟩ := ob hf
  refine aldC X hw (kr_X6_1 h0) q24 dX6_usualThought_5 ?_
  refine lv_istore_n (lv' := [(3, .int v23), (0, .ref (b + o0)), (1, .int x1), (2, .int x2)]) hx hb dX6_usualThought_6 rfl hl (by decide) rfl (fun ls hl => ?_)
  refine lv_iload_n hx hb dX6_usualThought_7 rfl (lv_at hl 0 rfl) ?_
  refine lv_if_le (tgt := 27) hx hb dX6_usualThought_8 (by decide) (fun c25 => ?_) (fun c25 => ?_)
  · replace hf := (if_pos c25).symm.trans hf
    refine lv_iconst (v := 0) hx hb dX6_usualThought_27 (by decide) ?_
    exact tX6_usualThought_28 X hr hlk h0 0 M hf H locs ls hw (lv_sub hl [] rfl)
  · replace hf := (if_neg c25).symm.trans hf
    refine lv_aload_n hx hb dX6_usualThought_11 rfl (lv_at hl 1 rfl) ?_
    refine gt_X6 X hw 2 h0 rfl (by decide) mw_108 rfl dX6_usualThought_12 ?_
    refine lv_iload_n hx hb dX6_usualThought_15 rfl (lv_at hl 2 rfl) ?_
    refine lv_bipush (v := 7) hx hb dX6_usualThought_16 (by decide) ?_
    refine lv_imul hx hb dX6_usualThought_18 ?_
    refine lv_iload_n hx hb dX6_usualThought_19 rfl (lv_at hl 3 rfl) ?_
    refine lv_iload_n hx hb dX6_usualThought_20 rfl (lv_at hl 0 rfl) ?_
    obtain ⟨_, q26, hf⟩ := ob hf
    refine lv_irem hx hb dX6_usualThought_21 (nz_ne q26) ?_
    refine lv_iadd hx hb dX6_usualThought_22 ?_
    obtain ⟨v27, q28, hf⟩ := ob hf
    refine aldC X hw (kr_X6_2 h0) q28 dX6_usualThought_23 ?_
    refine lv_goto (tgt := 28) hx hb dX6_usualThought_24 (by decide) ?_
    exact tX6_usualThought_28 X hr hlk h0 v27 M hf H locs ls hw (lv_sub hl [] rfl)

abbrev rmX1_begin : Room := { frames := 1, cells := 0, slots := 0, locals := 23 }
theorem hd_X1_begin : Hd yX1_begin RX1 1 := by decide +kernel
def gX1_begin (o0 : Nat) (x1 : Int32) (M : Mem) : Option (Mem) := (some (us M o0 4 0)).bind fun M29 => (some (us M29 o0 5 x1)).bind fun M30 => (gJ7_fill_53178 ((o0 + 1)) 5 0 M30).bind fun u31 => (gJ7_fill_53178 ((o0 + 2)) 5 ((-9)) u31).bind fun u33 => (gJ7_fill_53178 ((o0 + 4)) 40 0 u33).bind fun u35 => some (u35)
set_option maxHeartbeats 4000000 in
set_option maxRecDepth 100000 in
theorem ctX1_begin (l : Launch) (E : EE) (b : Nat) {TC : Int64} {MM : Mem} {TM : Int64} {o0 : Nat} {x1 : Int32} {M : Mem} {res : Mem} (h0 : (kd o0).1 = 3) (hf : gX1_begin o0 x1 M = some res) : MetV l E b yX1_begin (.code yX1_begin cX1_begin 2 none) rmX1_begin [.ref (b + o0), .int x1] M TC MM TM res TC MM TM := by
  refine Met.ofW (cc := cX1_begin) (maxL := 2) (ret := none) (by decide) rfl ?_
  intro p e s m args below meth c s₁ B hml hv
  obtain ⟨rfl, hP, hK⟩ := hv
  have hx := B.exec
  have hb := B.bytes
  have X : CX E p s m _ c cX1_begin 2 RX1 := ⟨hx, hb, hml, findClass_of_methodNamed B.named, fun w h => atoms_spec (ws := _ :: wt) B.pre w (List.mem_cons_of_mem _ h), hK⟩
  have hr := B.returns
  have hlk := B.notSynchronized
  have hw : WW E b M TC MM TM s s.heap [] := ⟨hP, va_S.rf⟩
  have hl := lv_entry ([.ref (b + o0), .int x1]) (n := 2) (Nat.le_of_ble_eq_true rfl)
  rw [lg_entry_eq]
  generalize (lg_sl ([.ref (b + o0), .int x1]) ++ List.replicate (2 - (lg_sl ([.ref (b + o0), .int x1])).length) Slot.unset).toArray = ls at hl ⊢
  have hl : lv_has ls 2 [(0, .ref (b + o0)), (1, .int x1)] := hl
  obtain ⟨H, hH⟩ : ∃ H, H = s.heap := ⟨_, rfl⟩
  obtain ⟨locs, hL⟩ : ∃ L : List Loc, L = [] := ⟨_, rfl⟩
  rw [← hH, ← hL] at hw
  suffices hg : W p l e rmX1_begin s m _ below meth c H locs 0 0 (MQ below (va_Qv (fun (_ : Unit) => True) (fun _ t => PW E b res TC MM TM t) (AA b)) _ s 0 0 (AA b)) (F0 m 0 ls []) by rw [hH, hL] at hg; exact hg
  clear hH hL
  rw [gX1_begin] at hf
  refine lv_aload_n hx hb dX1_begin_0 rfl (lv_at hl 0 rfl) ?_
  refine lv_iconst (v := 0) hx hb dX1_begin_1 (by decide) ?_
  obtain ⟨M29, eM29, hf⟩ := ob hf
  refine pt_X1_4 X hw h0 mw_185 dX1_begin_2 (fun H locs hw => ?_)
  rw [Option.some.inj eM29] at hw
  refine lv_aload_n hx hb dX1_begin_5 rfl (lv_at hl 0 rfl) ?_
  refine lv_iload_n hx hb dX1_begin_6 rfl (lv_at hl 1 rfl) ?_
  obtain ⟨M30, eM30, hf⟩ := ob hf
  refine pt_X1_5 X hw h0 mw_187 dX1_begin_7 (fun H locs hw => ?_)
  rw [Option.some.inj eM30] at hw
  refine lv_aload_n hx hb dX1_begin_10 rfl (lv_at hl 0 rfl) ?_
  refine gt_X1 X hw 0 h0 rfl (by decide) mw_177 rfl dX1_begin_11 ?_
  refine lv_iconst (v := 0) hx hb dX1_begin_14 (by decide) ?_
  obtain ⟨u31, q32, hf⟩ := ob hf
  refine cSv (As := [.ref (b + (o0 + 1)), .int 0]) X hw (ctJ7_fill_53178 l E b (kr_X1_0 h0) q32) ⟨mw_174, mw_175, mw_58, mw_176⟩ hd_J7_fill_53178 ⟨Nat.le_of_ble_eq_true rfl, Nat.le_of_ble_eq_true rfl, rfl, rfl⟩ rfl hl.1 rfl (Nat.le_of_ble_eq_true rfl) dX1_begin_15 (fun H locs hw => ?_)
  refine lv_aload_n hx hb dX1_begin_18 rfl (lv_at hl 0 rfl) ?_
  refine gt_X1 X hw 1 h0 rfl (by decide) mw_181 rfl dX1_begin_19 ?_
  refine lv_bipush (v := (-9)) hx hb dX1_begin_22 (by decide) ?_
  obtain ⟨u33, q34, hf⟩ := ob hf
  refine cSv (As := [.ref (b + (o0 + 2)), .int ((-9))]) X hw (ctJ7_fill_53178 l E b (kr_X1_1 h0) q34) ⟨mw_174, mw_175, mw_58, mw_176⟩ hd_J7_fill_53178 ⟨Nat.le_of_ble_eq_true rfl, Nat.le_of_ble_eq_true rfl, rfl, rfl⟩ rfl hl.1 rfl (Nat.le_of_ble_eq_true rfl) dX1_begin_24 (fun H locs hw => ?_)
  refine lv_aload_n hx hb dX1_begin_27 rfl (lv_at hl 0 rfl) ?_
  refine gt_X1 X hw 3 h0 rfl (by decide) mw_184 rfl dX1_begin_28 ?_
  refine lv_iconst (v := 0) hx hb dX1_begin_31 (by decide) ?_
  obtain ⟨u35, q36, hf⟩ := ob hf
  refine cSv (As := [.ref (b + (o0 + 4)), .int 0]) X hw (ctJ7_fill_53178 l E b (kr_X1_3 h0) q36) ⟨mw_174, mw_175, mw_58, mw_176⟩ hd_J7_fill_53178 ⟨Nat.le_of_ble_eq_true rfl, Nat.le_of_ble_eq_true rfl, rfl, rfl⟩ rfl hl.1 rfl (Nat.le_of_ble_eq_true rfl) dX1_begin_32 (fun H locs hw => ?_)
  cases hf
  exact eV X hw hr hlk dX1_begin_35

abbrev rmX1_copyFrom : Room := { frames := 1, cells := 0, slots := 0, locals := 60 }
theorem hd_X1_copyFrom : Hd yX1_copyFrom RX1 1 := by decide +kernel
def gX1_copyFrom (o0 : Nat) (o1 : Nat) (M : Mem) : Option (Mem) := (some (us M o0 4 (M o1 4))).bind fun M37 => (some (us M37 o0 5 (M37 o1 5))).bind fun M38 => (cpA 5 5 M38 (o1 + 1) 0 (o0 + 1) 0 5).bind fun M39 => (cpA 5 5 M39 (o1 + 2) 0 (o0 + 2) 0 5).bind fun M41 => (cpA 60 60 M41 (o1 + 3) 0 (o0 + 3) 0 60).bind fun M43 => (cpA 40 40 M43 (o1 + 4) 0 (o0 + 4) 0 40).bind fun M45 => some (M45)
set_option maxHeartbeats 4000000 in
set_option maxRecDepth 100000 in
theorem ctX1_copyFrom (l : Launch) (E : EE) (b : Nat) {TC : Int64} {MM : Mem} {TM : Int64} {o0 : Nat} {o1 : Nat} {M : Mem} {res : Mem} (h0 : (kd o0).1 = 3) (h1 : (kd o1).1 = 3) (hf : gX1_copyFrom o0 o1 M = some res) : MetV l E b yX1_copyFrom (.code yX1_copyFrom cX1_copyFrom 2 none) rmX1_copyFrom [.ref (b + o0), .ref (b + o1)] M TC MM TM res TC MM TM := by
  refine Met.ofW (cc := cX1_copyFrom) (maxL := 2) (ret := none) (by decide) rfl ?_
  intro p e s m args below meth c s₁ B hml hv
  obtain ⟨rfl, hP, hK⟩ := hv
  have hx := B.exec
  have hb := B.bytes
  have X : CX E p s m _ c cX1_copyFrom 2 RX1 := ⟨hx, hb, hml, findClass_of_methodNamed B.named, fun w h => atoms_spec (ws := _ :: wt) B.pre w (List.mem_cons_of_mem _ h), hK⟩
  have hr := B.returns
  have hlk := B.notSynchronized
  have hw : WW E b M TC MM TM s s.heap [] := ⟨hP, va_S.rf⟩
  have hl := lv_entry ([.ref (b + o0), .ref (b + o1)]) (n := 2) (Nat.le_of_ble_eq_true rfl)
  rw [lg_entry_eq]
  generalize (lg_sl ([.ref (b + o0), .ref (b + o1)]) ++ List.replicate (2 - (lg_sl ([.ref (b + o0), .ref (b + o1)])).length) Slot.unset).toArray = ls at hl ⊢
  have hl : lv_has ls 2 [(0, .ref (b + o0)), (1, .ref (b + o1))] := hl
  obtain ⟨H, hH⟩ : ∃ H, H = s.heap := ⟨_, rfl⟩
  obtain ⟨locs, hL⟩ : ∃ L : List Loc, L = [] := ⟨_, rfl⟩
  rw [← hH, ← hL] at hw
  suffices hg : W p l e rmX1_copyFrom s m _ below meth c H locs 0 0 (MQ below (va_Qv (fun (_ : Unit) => True) (fun _ t => PW E b res TC MM TM t) (AA b)) _ s 0 0 (AA b)) (F0 m 0 ls []) by rw [hH, hL] at hg; exact hg
  clear hH hL
  rw [gX1_copyFrom] at hf
  refine lv_aload_n hx hb dX1_copyFrom_0 rfl (lv_at hl 0 rfl) ?_
  refine lv_aload_n hx hb dX1_copyFrom_1 rfl (lv_at hl 1 rfl) ?_
  refine gt_X1 X hw 4 h1 rfl (by decide) mw_185 rfl dX1_copyFrom_2 ?_
  obtain ⟨M37, eM37, hf⟩ := ob hf
  refine pt_X1_4 X hw h0 mw_185 dX1_copyFrom_5 (fun H locs hw => ?_)
  rw [Option.some.inj eM37] at hw
  refine lv_aload_n hx hb dX1_copyFrom_8 rfl (lv_at hl 0 rfl) ?_
  refine lv_aload_n hx hb dX1_copyFrom_9 rfl (lv_at hl 1 rfl) ?_
  refine gt_X1 X hw 5 h1 rfl (by decide) mw_187 rfl dX1_copyFrom_10 ?_
  obtain ⟨M38, eM38, hf⟩ := ob hf
  refine pt_X1_5 X hw h0 mw_187 dX1_copyFrom_13 (fun H locs hw => ?_)
  rw [Option.some.inj eM38] at hw
  refine lv_aload_n hx hb dX1_copyFrom_16 rfl (lv_at hl 1 rfl) ?_
  refine gt_X1 X hw 0 h1 rfl (by decide) mw_177 rfl dX1_copyFrom_17 ?_
  refine lv_iconst (v := 0) hx hb dX1_copyFrom_20 (by decide) ?_
  refine lv_aload_n hx hb dX1_copyFrom_21 rfl (lv_at hl 0 rfl) ?_
  refine gt_X1 X hw 0 h0 rfl (by decide) mw_177 rfl dX1_copyFrom_22 ?_
  refine lv_iconst (v := 0) hx hb dX1_copyFrom_25 (by decide) ?_
  refine lv_aload_n hx hb dX1_copyFrom_26 rfl (lv_at hl 0 rfl) ?_
  refine gt_X1 X hw 0 h0 rfl (by decide) mw_177 rfl dX1_copyFrom_27 ?_
  refine alenC X hw (kr_X1_0 h0) (v := 5) (by decide) dX1_copyFrom_30 ?_
  obtain ⟨M39, q40, hf⟩ := ob hf
  refine cpyC X hw hl.1 (kr_X1_0 h1) (kr_X1_0 h0) q40 mw_454 mw_386 mw_385 mw_63 (Nat.le_of_ble_eq_true rfl) (Nat.le_of_ble_eq_true rfl) dX1_copyFrom_31 (fun H locs hw => ?_)
  refine lv_aload_n hx hb dX1_copyFrom_34 rfl (lv_at hl 1 rfl) ?_
  refine gt_X1 X hw 1 h1 rfl (by decide) mw_181 rfl dX1_copyFrom_35 ?_
  refine lv_iconst (v := 0) hx hb dX1_copyFrom_38 (by decide) ?_
  refine lv_aload_n hx hb dX1_copyFrom_39 rfl (lv_at hl 0 rfl) ?_
  refine gt_X1 X hw 1 h0 rfl (by decide) mw_181 rfl dX1_copyFrom_40 ?_
  refine lv_iconst (v := 0) hx hb dX1_copyFrom_43 (by decide) ?_
  refine lv_aload_n hx hb dX1_copyFrom_44 rfl (lv_at hl 0 rfl) ?_
  refine gt_X1 X hw 1 h0 rfl (by decide) mw_181 rfl dX1_copyFrom_45 ?_
  refine alenC X hw (kr_X1_1 h0) (v := 5) (by decide) dX1_copyFrom_48 ?_
  obtain ⟨M41, q42, hf⟩ := ob hf
  refine cpyC X hw hl.1 (kr_X1_1 h1) (kr_X1_1 h0) q42 mw_454 mw_386 mw_385 mw_63 (Nat.le_of_ble_eq_true rfl) (Nat.le_of_ble_eq_true rfl) dX1_copyFrom_49 (fun H locs hw => ?_)
  refine lv_aload_n hx hb dX1_copyFrom_52 rfl (lv_at hl 1 rfl) ?_
  refine gt_X1 X hw 2 h1 rfl (by decide) mw_183 rfl dX1_copyFrom_53 ?_
  refine lv_iconst (v := 0) hx hb dX1_copyFrom_56 (by decide) ?_
  refine lv_aload_n hx hb dX1_copyFrom_57 rfl (lv_at hl 0 rfl) ?_
  refine gt_X1 X hw 2 h0 rfl (by decide) mw_183 rfl dX1_copyFrom_58 ?_
  refine lv_iconst (v := 0) hx hb dX1_copyFrom_61 (by decide) ?_
  refine lv_aload_n hx hb dX1_copyFrom_62 rfl (lv_at hl 0 rfl) ?_
  refine gt_X1 X hw 2 h0 rfl (by decide) mw_183 rfl dX1_copyFrom_63 ?_
  refine alenC X hw (kr_X1_2 h0) (v := 60) (by decide) dX1_copyFrom_66 ?_
  obtain ⟨M43, q44, hf⟩ := ob hf
  refine cpyC X hw hl.1 (kr_X1_2 h1) (kr_X1_2 h0) q44 mw_454 mw_386 mw_385 mw_63 (Nat.le_of_ble_eq_true rfl) (Nat.le_of_ble_eq_true rfl) dX1_copyFrom_67 (fun H locs hw => ?_)
  refine lv_aload_n hx hb dX1_copyFrom_70 rfl (lv_at hl 1 rfl) ?_
  refine gt_X1 X hw 3 h1 rfl (by decide) mw_184 rfl dX1_copyFrom_71 ?_
  refine lv_iconst (v := 0) hx hb dX1_copyFrom_74 (by decide) ?_
  refine lv_aload_n hx hb dX1_copyFrom_75 rfl (lv_at hl 0 rfl) ?_
  refine gt_X1 X hw 3 h0 rfl (by decide) mw_184 rfl dX1_copyFrom_76 ?_
  refine lv_iconst (v := 0) hx hb dX1_copyFrom_79 (by decide) ?_
  refine lv_aload_n hx hb dX1_copyFrom_80 rfl (lv_at hl 0 rfl) ?_
  refine gt_X1 X hw 3 h0 rfl (by decide) mw_184 rfl dX1_copyFrom_81 ?_
  refine alenC X hw (kr_X1_3 h0) (v := 40) (by decide) dX1_copyFrom_84 ?_
  obtain ⟨M45, q46, hf⟩ := ob hf
  refine cpyC X hw hl.1 (kr_X1_3 h1) (kr_X1_3 h0) q46 mw_454 mw_386 mw_385 mw_63 (Nat.le_of_ble_eq_true rfl) (Nat.le_of_ble_eq_true rfl) dX1_copyFrom_85 (fun H locs hw => ?_)
  cases hf
  exact eV X hw hr hlk dX1_copyFrom_88

abbrev rmX1_layerAt : Room := { frames := 0, cells := 0, slots := 0, locals := 0 }
theorem hd_X1_layerAt : Hd yX1_layerAt RX1 2 := by decide +kernel
def gX1_layerAt (o0 : Nat) (x1 : Int32) (x2 : Int32) (M : Mem) : Option (Int32) := (ldA 60 (M (o0 + 3)) ((x1 * 12) + x2)).bind fun v47 => some (v47)
set_option maxHeartbeats 4000000 in
set_option maxRecDepth 100000 in
theorem ctX1_layerAt (l : Launch) (E : EE) (b : Nat) {TC : Int64} {MM : Mem} {TM : Int64} {o0 : Nat} {x1 : Int32} {x2 : Int32} {M : Mem} {res : Int32} (h0 : (kd o0).1 = 3) (hf : gX1_layerAt o0 x1 x2 M = some res) : MetI l E b yX1_layerAt (.code yX1_layerAt cX1_layerAt 3 (some .int)) rmX1_layerAt [.ref (b + o0), .int x1, .int x2] M TC MM TM res M TC MM TM := by
  refine Met.ofW (cc := cX1_layerAt) (maxL := 3) (ret := (some .int)) (by decide) rfl ?_
  intro p e s m args below meth c s₁ B hml hv
  obtain ⟨rfl, hP, hK⟩ := hv
  have hx := B.exec
  have hb := B.bytes
  have X : CX E p s m _ c cX1_layerAt 3 RX1 := ⟨hx, hb, hml, findClass_of_methodNamed B.named, fun w h => atoms_spec (ws := _ :: wt) B.pre w (List.mem_cons_of_mem _ h), hK⟩
  have hr := B.returns
  have hlk := B.notSynchronized
  have hw : WW E b M TC MM TM s s.heap [] := ⟨hP, va_S.rf⟩
  have hl := lv_entry ([.ref (b + o0), .int x1, .int x2]) (n := 3) (Nat.le_of_ble_eq_true rfl)
  rw [lg_entry_eq]
  generalize (lg_sl ([.ref (b + o0), .int x1, .int x2]) ++ List.replicate (3 - (lg_sl ([.ref (b + o0), .int x1, .int x2])).length) Slot.unset).toArray = ls at hl ⊢
  have hl : lv_has ls 3 [(0, .ref (b + o0)), (1, .int x1), (2, .int x2)] := hl
  obtain ⟨H, hH⟩ : ∃ H, H = s.heap := ⟨_, rfl⟩
  obtain ⟨locs, hL⟩ : ∃ L : List Loc, L = [] := ⟨_, rfl⟩
  rw [← hH, ← hL] at hw
  suffices hg : W p l e rmX1_layerAt s m _ below meth c H locs 0 0 (MQ below (va_Qi (fun x (_ : Unit) => x = res) (fun _ t => PW E b M TC MM TM t) (AA b)) _ s 0 0 (AA b)) (F0 m 0 ls []) by rw [hH, hL] at hg; exact hg
  clear hH hL
  rw [gX1_layerAt] at hf
  refine lv_aload_n hx hb dX1_layerAt_0 rfl (lv_at hl 0 rfl) ?_
  refine gt_X1 X hw 2 h0 rfl (by decide) mw_183 rfl dX1_layerAt_1 ?_
  refine lv_iload_n hx hb dX1_layerAt_4 rfl (lv_at hl 1 rfl) ?_
  refine lv_bipush (v := 12) hx hb dX1_layerAt_5 (by decide) ?_
  refine lv_imul hx hb dX1_layerAt_7 ?_
  refine lv_iload_n hx hb dX1_layerAt_8 rfl (lv_at hl 2 rfl) ?_
  refine lv_iadd hx hb dX1_layerAt_9 ?_
  obtain ⟨v47, q48, hf⟩ := ob hf
  refine aldC X hw (kr_X1_2 h0) q48 dX1_layerAt_10 ?_
  cases hf
  exact eI X hw hr hlk dX1_layerAt_11

abbrev rmX1_sweptOf : Room := { frames := 0, cells := 0, slots := 0, locals := 0 }
theorem hd_X1_sweptOf : Hd yX1_sweptOf RX1 2 := by decide +kernel
def gX1_sweptOf (o0 : Nat) (x1 : Int32) (x2 : Int32) (M : Mem) : Option (Int32) := (ldA 40 (M (o0 + 4)) ((x1 * 10) + x2)).bind fun v49 => some (v49)
set_option maxHeartbeats 4000000 in
set_option maxRecDepth 100000 in
theorem ctX1_sweptOf (l : Launch) (E : EE) (b : Nat) {TC : Int64} {MM : Mem} {TM : Int64} {o0 : Nat} {x1 : Int32} {x2 : Int32} {M : Mem} {res : Int32} (h0 : (kd o0).1 = 3) (hf : gX1_sweptOf o0 x1 x2 M = some res) : MetI l E b yX1_sweptOf (.code yX1_sweptOf cX1_sweptOf 3 (some .int)) rmX1_sweptOf [.ref (b + o0), .int x1, .int x2] M TC MM TM res M TC MM TM := by
  refine Met.ofW (cc := cX1_sweptOf) (maxL := 3) (ret := (some .int)) (by decide) rfl ?_
  intro p e s m args below meth c s₁ B hml hv
  obtain ⟨rfl, hP, hK⟩ := hv
  have hx := B.exec
  have hb := B.bytes
  have X : CX E p s m _ c cX1_sweptOf 3 RX1 := ⟨hx, hb, hml, findClass_of_methodNamed B.named, fun w h => atoms_spec (ws := _ :: wt) B.pre w (List.mem_cons_of_mem _ h), hK⟩
  have hr := B.returns
  have hlk := B.notSynchronized
  have hw : WW E b M TC MM TM s s.heap [] := ⟨hP, va_S.rf⟩
  have hl := lv_entry ([.ref (b + o0), .int x1, .int x2]) (n := 3) (Nat.le_of_ble_eq_true rfl)
  rw [lg_entry_eq]
  generalize (lg_sl ([.ref (b + o0), .int x1, .int x2]) ++ List.replicate (3 - (lg_sl ([.ref (b + o0), .int x1, .int x2])).length) Slot.unset).toArray = ls at hl ⊢
  have hl : lv_has ls 3 [(0, .ref (b + o0)), (1, .int x1), (2, .int x2)] := hl
  obtain ⟨H, hH⟩ : ∃ H, H = s.heap := ⟨_, rfl⟩
  obtain ⟨locs, hL⟩ : ∃ L : List Loc, L = [] := ⟨_, rfl⟩
  rw [← hH, ← hL] at hw
  suffices hg : W p l e rmX1_sweptOf s m _ below meth c H locs 0 0 (MQ below (va_Qi (fun x (_ : Unit) => x = res) (fun _ t => PW E b M TC MM TM t) (AA b)) _ s 0 0 (AA b)) (F0 m 0 ls []) by rw [hH, hL] at hg; exact hg
  clear hH hL
  rw [gX1_sweptOf] at hf
  refine lv_aload_n hx hb dX1_sweptOf_0 rfl (lv_at hl 0 rfl) ?_
  refine gt_X1 X hw 3 h0 rfl (by decide) mw_184 rfl dX1_sweptOf_1 ?_
  refine lv_iload_n hx hb dX1_sweptOf_4 rfl (lv_at hl 1 rfl) ?_
  refine lv_bipush (v := 10) hx hb dX1_sweptOf_5 (by decide) ?_
  refine lv_imul hx hb dX1_sweptOf_7 ?_
  refine lv_iload_n hx hb dX1_sweptOf_8 rfl (lv_at hl 2 rfl) ?_
  refine lv_iadd hx hb dX1_sweptOf_9 ?_
  obtain ⟨v49, q50, hf⟩ := ob hf
  refine aldC X hw (kr_X1_3 h0) q50 dX1_sweptOf_10 ?_
  cases hf
  exact eI X hw hr hlk dX1_sweptOf_11

abbrev rmX1_thoughtAhead : Room := { frames := 1, cells := 0, slots := 0, locals := 23 }
theorem hd_X1_thoughtAhead : Hd yX1_thoughtAhead RX1 3 := by decide +kernel
def gX1_thoughtAhead_22 (o0 : Nat) (o1 : Nat)  (x2 : Int32) (x3 : Int32) (M : Mem) : Option (Int32) := (gX6_usualThought o1 x2 ((M o0 4) + x3) M).bind fun u52 => some (u52)
def gX1_thoughtAhead (o0 : Nat) (o1 : Nat) (x2 : Int32) (x3 : Int32) (M : Mem) : Option (Int32) := if x3 = 0 then ((ldA 5 (M (o0 + 2)) x2).bind fun v54 => if v54 = ((-9)) then (gX1_thoughtAhead_22 o0 o1 x2 x3 M) else ((ldA 5 (M (o0 + 2)) x2).bind fun v57 => some (v57))) else (gX1_thoughtAhead_22 o0 o1 x2 x3 M)
set_option maxHeartbeats 4000000 in
set_option maxRecDepth 100000 in
theorem tX1_thoughtAhead_22 {p : Program} {l : Launch} {e : Env} {s : State} {m : MethodId} {args : Array Value} {below : List Frame} {meth : Method} {c : Code} {E : EE} {b : Nat} {TC : Int64} {MM : Mem} {TM : Int64} {res : Int32} (X : CX E p s m args c cX1_thoughtAhead 4 RX1) (hr : meth.sig.returnType = (some .int)) (hlk : meth.locks = false) {o0 : Nat} {o1 : Nat} (h0 : (kd o0).1 = 3) (h1 : (kd o1).1 = 6)  : ∀ (x2 : Int32) (x3 : Int32) (M : Mem), gX1_thoughtAhead_22 o0 o1 x2 x3 M = some res → ∀ (H : Heap) (locs : List Loc) (ls : Array Slot), WW E b M TC MM TM s H locs → lv_has ls 4 [(0, .ref (b + o0)), (1, .ref (b + o1)), (2, .int x2), (3, .int x3)] → W p l e rmX1_thoughtAhead s m args below meth c H locs 0 0 (MQ below (va_Qi (fun x (_ : Unit) => x = res) (fun _ t => PW E b M TC MM TM t) (AA b)) args s 0 0 (AA b)) (F0 m 22 ls []) := by
  have hx := X.1
  have hb := X.2.1
  intro x2 x3 M hf H locs ls hw hl
  rw [gX1_thoughtAhead_22] at hf
  refine lv_aload_n hx hb dX1_thoughtAhead_22 rfl (lv_at hl 1 rfl) ?_
  refine lv_iload_n hx hb dX1_thoughtAhead_23 rfl (lv_at hl 2 rfl) ?_
  refine lv_aload_n hx hb dX1_thoughtAhead_24 rfl (lv_at hl 0 rfl) ?_
  refine gt_X1 X hw 4 h0 rfl (by decide) mw_185 rfl dX1_thoughtAhead_25 ?_
  refine lv_iload_n hx hb dX1_thoughtAhead_28 rfl (lv_at hl 3 rfl) ?_
  refine lv_iadd hx hb dX1_thoughtAhead_29 ?_
  obtain ⟨u52, q53, hf⟩ := ob hf
  refine cVi (As := [.int x2, .int ((M o0 4) + x3)]) X hw (ctX6_usualThought l E b h1 q53) ⟨mw_463, mw_464, mw_465, mw_55, mw_466⟩ hd_X6_usualThought ⟨Nat.le_of_ble_eq_true rfl, Nat.le_of_ble_eq_true rfl, rfl, rfl⟩ (kdk h1 (by decide)) (ce_X6 E _ _ _ _ h1) (show vwCl[6]? = some (RX6, TX6, 6) from rfl) rfl hl.1 rfl (Nat.le_of_ble_eq_true rfl) dX1_thoughtAhead_30 (fun H locs hw => ?_)
  cases hf
  exact eI X hw hr hlk dX1_thoughtAhead_33
set_option maxHeartbeats 4000000 in
set_option maxRecDepth 100000 in
theorem ctX1_thoughtAhead (l : Launch) (E : EE) (b : Nat) {TC : Int64} {MM : Mem} {TM : Int64} {o0 : Nat} {o1 : Nat} {x2 : Int32} {x3 : Int32} {M : Mem} {res : Int32} (h0 : (kd o0).1 = 3) (h1 : (kd o1).1 = 6) (hf : gX1_thoughtAhead o0 o1 x2 x3 M = some res) : MetI l E b yX1_thoughtAhead (.code yX1_thoughtAhead cX1_thoughtAhead 4 (some .int)) rmX1_thoughtAhead [.ref (b + o0), .ref (b + o1), .int x2, .int x3] M TC MM TM res M TC MM TM := by
  refine Met.ofW (cc := cX1_thoughtAhead) (maxL := 4) (ret := (some .int)) (by decide) rfl ?_
  intro p e s m args below meth c s₁ B hml hv
  obtain ⟨rfl, hP, hK⟩ := hv
  have hx := B.exec
  have hb := B.bytes
  have X : CX E p s m _ c cX1_thoughtAhead 4 RX1 := ⟨hx, hb, hml, findClass_of_methodNamed B.named, fun w h => atoms_spec (ws := _ :: wt) B.pre w (List.mem_cons_of_mem _ h), hK⟩
  have hr := B.returns
  have hlk := B.notSynchronized
  have hw : WW E b M TC MM TM s s.heap [] := ⟨hP, va_S.rf⟩
  have hl := lv_entry ([.ref (b + o0), .ref (b + o1), .int x2, .int x3]) (n := 4) (Nat.le_of_ble_eq_true rfl)
  rw [lg_entry_eq]
  generalize (lg_sl ([.ref (b + o0), .ref (b + o1), .int x2, .int x3]) ++ List.replicate (4 - (lg_sl ([.ref (b + o0), .ref (b + o1), .int x2, .int x3])).length) Slot.unset).toArray = ls at hl ⊢
  have hl : lv_has ls 4 [(0, .ref (b + o0)), (1, .ref (b + o1)), (2, .int x2), (3, .int x3)] := hl
  obtain ⟨H, hH⟩ : ∃ H, H = s.heap := ⟨_, rfl⟩
  obtain ⟨locs, hL⟩ : ∃ L : List Loc, L = [] := ⟨_, rfl⟩
  rw [← hH, ← hL] at hw
  suffices hg : W p l e rmX1_thoughtAhead s m _ below meth c H locs 0 0 (MQ below (va_Qi (fun x (_ : Unit) => x = res) (fun _ t => PW E b M TC MM TM t) (AA b)) _ s 0 0 (AA b)) (F0 m 0 ls []) by rw [hH, hL] at hg; exact hg
  clear hH hL
  rw [gX1_thoughtAhead] at hf
  refine lv_iload_n hx hb dX1_thoughtAhead_0 rfl (lv_at hl 3 rfl) ?_
  refine lv_if_ne (tgt := 22) hx hb dX1_thoughtAhead_1 (by decide) (fun c51 => ?_) (fun c51 => ?_)
  · replace hf := (if_neg c51).symm.trans hf
    exact tX1_thoughtAhead_22 X hr hlk h0 h1 x2 x3 M hf H locs ls hw (lv_sub hl [0, 1, 2, 3] rfl)
  · replace hf := (if_pos c51).symm.trans hf
    refine lv_aload_n hx hb dX1_thoughtAhead_4 rfl (lv_at hl 0 rfl) ?_
    refine gt_X1 X hw 1 h0 rfl (by decide) mw_181 rfl dX1_thoughtAhead_5 ?_
    refine lv_iload_n hx hb dX1_thoughtAhead_8 rfl (lv_at hl 2 rfl) ?_
    obtain ⟨v54, q55, hf⟩ := ob hf
    refine aldC X hw (kr_X1_1 h0) q55 dX1_thoughtAhead_9 ?_
    refine lv_bipush (v := (-9)) hx hb dX1_thoughtAhead_10 (by decide) ?_
    refine lv_icmp_eq (tgt := 22) hx hb dX1_thoughtAhead_12 (by decide) (fun c56 => ?_) (fun c56 => ?_)
    · replace hf := (if_pos c56).symm.trans hf
      exact tX1_thoughtAhead_22 X hr hlk h0 h1 x2 x3 M hf H locs ls hw (lv_sub hl [0, 1, 2, 3] rfl)
    · replace hf := (if_neg c56).symm.trans hf
      refine lv_aload_n hx hb dX1_thoughtAhead_15 rfl (lv_at hl 0 rfl) ?_
      refine gt_X1 X hw 1 h0 rfl (by decide) mw_181 rfl dX1_thoughtAhead_16 ?_
      refine lv_iload_n hx hb dX1_thoughtAhead_19 rfl (lv_at hl 2 rfl) ?_
      obtain ⟨v57, q58, hf⟩ := ob hf
      refine aldC X hw (kr_X1_1 h0) q58 dX1_thoughtAhead_20 ?_
      cases hf
      exact eI X hw hr hlk dX1_thoughtAhead_21

abbrev rmX1_dropTips : Room := { frames := 0, cells := 0, slots := 0, locals := 0 }
theorem hd_X1_dropTips : Hd yX1_dropTips RX1 2 := by decide +kernel
def gX1_dropTips_18 (o0 : Nat)  : Nat → Int32 → Int32 → Int32 → Int32 → Mem → Option (Mem)
  | 0, _, _, _, _, _ => none
  | n + 1, x1, x2, x3, x4, M => (ldA 5 (M (o0 + 1)) x1).bind fun v64 => if v64 ≤ x4 then (some (M)) else ((ldA 60 (M (o0 + 3)) ((x3 + x2) + x4)).bind fun v67 => (stA 60 M (o0 + 3) (x3 + x4) v67).bind fun M69 => (some (x4 + 1)).bind fun z71 => (gX1_dropTips_18 o0 n) x1 x2 x3 z71 M69)
def gX1_dropTips (o0 : Nat) (x1 : Int32) (x2 : Int32) (M : Mem) : Option (Mem) := (some (x1 * 12)).bind fun z59 => (ldA 5 (M (o0 + 1)) x1).bind fun v60 => (stA 5 M (o0 + 1) x1 (v60 - x2)).bind fun M62 => gX1_dropTips_18 o0 FU x1 x2 z59 0 M62
set_option maxHeartbeats 4000000 in
set_option maxRecDepth 100000 in
theorem tX1_dropTips_18 {p : Program} {l : Launch} {e : Env} {s : State} {m : MethodId} {args : Array Value} {below : List Frame} {meth : Method} {c : Code} {E : EE} {b : Nat} {TC : Int64} {MM : Mem} {TM : Int64} {res : Mem} (X : CX E p s m args c cX1_dropTips 5 RX1) (hr : meth.sig.returnType = none) (hlk : meth.locks = false) {o0 : Nat} (h0 : (kd o0).1 = 3)  : ∀ (n : Nat) (x1 : Int32) (x2 : Int32) (x3 : Int32) (x4 : Int32) (M : Mem), gX1_dropTips_18 o0 n x1 x2 x3 x4 M = some res → ∀ (H : Heap) (locs : List Loc) (ls : Array Slot), WW E b M TC MM TM s H locs → lv_has ls 5 [(0, .ref (b + o0)), (1, .int x1), (2, .int x2), (3, .int x3), (4, .int x4)] → W p l e rmX1_dropTips s m args below meth c H locs 0 0 (MQ below (va_Qv (fun (_ : Unit) => True) (fun _ t => PW E b res TC MM TM t) (AA b)) args s 0 0 (AA b)) (F0 m 18 ls []) := by
  have hx := X.1
  have hb := X.2.1
  intro n
  induction n with
  | zero =>
    intro x1 x2 x3 x4 M hf
    cases (show (none : Option (Mem)) = some res from hf)
  | succ n ih =>
    intro x1 x2 x3 x4 M hf H locs ls hw hl
    rw [gX1_dropTips_18] at hf
    refine lv_iload hx hb dX1_dropTips_18 (lv_at hl 4 rfl) ?_
    refine lv_aload_n hx hb dX1_dropTips_20 rfl (lv_at hl 0 rfl) ?_
    refine gt_X1 X hw 0 h0 rfl (by decide) mw_177 rfl dX1_dropTips_21 ?_
    refine lv_iload_n hx hb dX1_dropTips_24 rfl (lv_at hl 1 rfl) ?_
    obtain ⟨v64, q65, hf⟩ := ob hf
    refine aldC X hw (kr_X1_0 h0) q65 dX1_dropTips_25 ?_
    refine lv_icmp_ge (tgt := 55) hx hb dX1_dropTips_26 (by decide) (fun c66 => ?_) (fun c66 => ?_)
    · replace hf := (if_pos c66).symm.trans hf
      cases hf
      exact eV X hw hr hlk dX1_dropTips_55
    · replace hf := (if_neg c66).symm.trans hf
      refine lv_aload_n hx hb dX1_dropTips_29 rfl (lv_at hl 0 rfl) ?_
      refine gt_X1 X hw 2 h0 rfl (by decide) mw_183 rfl dX1_dropTips_30 ?_
      refine lv_iload_n hx hb dX1_dropTips_33 rfl (lv_at hl 3 rfl) ?_
      refine lv_iload hx hb dX1_dropTips_34 (lv_at hl 4 rfl) ?_
      refine lv_iadd hx hb dX1_dropTips_36 ?_
      refine lv_aload_n hx hb dX1_dropTips_37 rfl (lv_at hl 0 rfl) ?_
      refine gt_X1 X hw 2 h0 rfl (by decide) mw_183 rfl dX1_dropTips_38 ?_
      refine lv_iload_n hx hb dX1_dropTips_41 rfl (lv_at hl 3 rfl) ?_
      refine lv_iload_n hx hb dX1_dropTips_42 rfl (lv_at hl 2 rfl) ?_
      refine lv_iadd hx hb dX1_dropTips_43 ?_
      refine lv_iload hx hb dX1_dropTips_44 (lv_at hl 4 rfl) ?_
      refine lv_iadd hx hb dX1_dropTips_46 ?_
      obtain ⟨v67, q68, hf⟩ := ob hf
      refine aldC X hw (kr_X1_2 h0) q68 dX1_dropTips_47 ?_
      obtain ⟨M69, q70, hf⟩ := ob hf
      refine astC X hw (kr_X1_2 h0) q70 dX1_dropTips_48 (fun H locs hw => ?_)
      obtain ⟨z71, ez71⟩ : ∃ y : Int32, y = x4 + 1 := ⟨_, rfl⟩
      replace hf := nmb hf ez71
      refine lv_iinc (v := z71) (lv' := [(4, .int z71), (0, .ref (b + o0)), (1, .int x1), (2, .int x2), (3, .int x3)]) hx hb dX1_dropTips_49 hl (k := 4) rfl (by rw [ez71]; rfl) (by decide) rfl (fun ls hl => ?_)
      refine lv_goto (tgt := 18) hx hb dX1_dropTips_52 (by decide) ?_
      exact ih x1 x2 x3 z71 M69 hf H locs ls hw (lv_sub hl [1, 2, 3, 4, 0] rfl)
set_option maxHeartbeats 4000000 in
set_option maxRecDepth 100000 in
theorem ctX1_dropTips (l : Launch) (E : EE) (b : Nat) {TC : Int64} {MM : Mem} {TM : Int64} {o0 : Nat} {x1 : Int32} {x2 : Int32} {M : Mem} {res : Mem} (h0 : (kd o0).1 = 3) (hf : gX1_dropTips o0 x1 x2 M = some res) : MetV l E b yX1_dropTips (.code yX1_dropTips cX1_dropTips 5 none) rmX1_dropTips [.ref (b + o0), .int x1, .int x2] M TC MM TM res TC MM TM := by
  refine Met.ofW (cc := cX1_dropTips) (maxL := 5) (ret := none) (by decide) rfl ?_
  intro p e s m args below meth c s₁ B hml hv
  obtain ⟨rfl, hP, hK⟩ := hv
  have hx := B.exec
  have hb := B.bytes
  have X : CX E p s m _ c cX1_dropTips 5 RX1 := ⟨hx, hb, hml, findClass_of_methodNamed B.named, fun w h => atoms_spec (ws := _ :: wt) B.pre w (List.mem_cons_of_mem _ h), hK⟩
  have hr := B.returns
  have hlk := B.notSynchronized
  have hw : WW E b M TC MM TM s s.heap [] := ⟨hP, va_S.rf⟩
  have hl := lv_entry ([.ref (b + o0), .int x1, .int x2]) (n := 5) (Nat.le_of_ble_eq_true rfl)
  rw [lg_entry_eq]
  generalize (lg_sl ([.ref (b + o0), .int x1, .int x2]) ++ List.replicate (5 - (lg_sl ([.ref (b + o0), .int x1, .int x2])).length) Slot.unset).toArray = ls at hl ⊢
  have hl : lv_has ls 5 [(0, .ref (b + o0)), (1, .int x1), (2, .int x2)] := hl
  obtain ⟨H, hH⟩ : ∃ H, H = s.heap := ⟨_, rfl⟩
  obtain ⟨locs, hL⟩ : ∃ L : List Loc, L = [] := ⟨_, rfl⟩
  rw [← hH, ← hL] at hw
  suffices hg : W p l e rmX1_dropTips s m _ below meth c H locs 0 0 (MQ below (va_Qv (fun (_ : Unit) => True) (fun _ t => PW E b res TC MM TM t) (AA b)) _ s 0 0 (AA b)) (F0 m 0 ls []) by rw [hH, hL] at hg; exact hg
  clear hH hL
  rw [gX1_dropTips] at hf
  refine lv_iload_n hx hb dX1_dropTips_0 rfl (lv_at hl 1 rfl) ?_
  refine lv_bipush (v := 12) hx hb dX1_dropTips_1 (by decide) ?_
  refine lv_imul hx hb dX1_dropTips_3 ?_
  refine lv_topi (fun z59 ez59 => ?_)
  replace hf := nmb hf ez59
  refine lv_istore_n (lv' := [(3, .int z59), (0, .ref (b + o0)), (1, .int x1), (2, .int x2)]) hx hb dX1_dropTips_4 rfl hl (by decide) rfl (fun ls hl => ?_)
  refine lv_aload_n hx hb dX1_dropTips_5 rfl (lv_at hl 1 rfl) ?_
  refine gt_X1 X hw 0 h0 rfl (by decide) mw_177 rfl dX1_dropTips_6 ?_
  refine lv_iload_n hx hb dX1_dropTips_9 rfl (lv_at hl 2 rfl) ?_
  refine lv_dup2_11 hx hb dX1_dropTips_10 rfl rfl ?_
  obtain ⟨v60, q61, hf⟩ := ob hf
  refine aldC X hw (kr_X1_0 h0) q61 dX1_dropTips_11 ?_
  refine lv_iload_n hx hb dX1_dropTips_12 rfl (lv_at hl 3 rfl) ?_
  refine lv_isub hx hb dX1_dropTips_13 ?_
  obtain ⟨M62, q63, hf⟩ := ob hf
  refine astC X hw (kr_X1_0 h0) q63 dX1_dropTips_14 (fun H locs hw => ?_)
  refine lv_iconst (v := 0) hx hb dX1_dropTips_15 (by decide) ?_
  refine lv_istore (lv' := [(4, .int 0), (3, .int z59), (0, .ref (b + o0)), (1, .int x1), (2, .int x2)]) hx hb dX1_dropTips_16 hl (by decide) rfl (fun ls hl => ?_)
  exact tX1_dropTips_18 X hr hlk h0 FU x1 x2 z59 0 M62 hf H locs ls hw (lv_sub hl [2, 3, 4, 1, 0] rfl)

abbrev rmX1_passDay : Room := { frames := 2, cells := 0, slots := 0, locals := 46 }
theorem hd_X1_passDay : Hd yX1_passDay RX1 1 := by decide +kernel
def gX1_passDay_45 (o0 : Nat) (o1 : Nat) (k2 : Int32 → Mem → Option (Mem)) (x2 : Int32) (x3 : Int32) (M : Mem) : Option (Mem) := (ldA 5 (M (o0 + 1)) x2).bind fun v81 => (stA 60 M (o0 + 3) ((x2 * 12) + v81) x3).bind fun M83 => (ldA 5 (M83 (o0 + 1)) x2).bind fun v85 => (stA 5 M83 (o0 + 1) x2 (v85 + 1)).bind fun M87 => (some (x2 + 1)).bind fun z89 => k2 z89 M87
def gX1_passDay_2 (o0 : Nat) (o1 : Nat)  : Nat → Int32 → Mem → Option (Mem)
  | 0, _, _ => none
  | n + 1, x2, M => if (M o1 3) ≤ x2 then ((some (us M o0 4 ((M o0 4) + 1))).bind fun M73 => some (M73)) else ((gX1_thoughtAhead o0 o1 x2 0 M).bind fun u74 => (stA 5 M (o0 + 2) x2 ((-9))).bind fun M76 => (ldA 5 (M76 (o0 + 1)) x2).bind fun v78 => if v78 < (M76 o1 4) then (gX1_passDay_45 o0 o1 (gX1_passDay_2 o0 o1 n) x2 u74 M76) else ((gX1_dropTips o0 x2 1 M76).bind fun u90 => gX1_passDay_45 o0 o1 (gX1_passDay_2 o0 o1 n) x2 u74 u90))
def gX1_passDay (o0 : Nat) (o1 : Nat) (M : Mem) : Option (Mem) := gX1_passDay_2 o0 o1 FU 0 M
set_option maxHeartbeats 4000000 in
set_option maxRecDepth 100000 in
theorem tX1_passDay_45 {p : Program} {l : Launch} {e : Env} {s : State} {m : MethodId} {args : Array Value} {below : List Frame} {meth : Method} {c : Code} {E : EE} {b : Nat} {TC : Int64} {MM : Mem} {TM : Int64} {res : Mem} (X : CX E p s m args c cX1_passDay 4 RX1) (hr : meth.sig.returnType = none) (hlk : meth.locks = false) {o0 : Nat} {o1 : Nat} (h0 : (kd o0).1 = 3) (h1 : (kd o1).1 = 6) {k2 : Int32 → Mem → Option (Mem)} (hk2 : ∀ (x2 : Int32) (M : Mem), k2 x2 M = some res → ∀ (H : Heap) (locs : List Loc) (ls : Array Slot), WW E b M TC MM TM s H locs → lv_has ls 4 [(0, .ref (b + o0)), (1, .ref (b + o1)), (2, .int x2)] → W p l e rmX1_passDay s m args below meth c H locs 0 0 (MQ below (va_Qv (fun (_ : Unit) => True) (fun _ t => PW E b res TC MM TM t) (AA b)) args s 0 0 (AA b)) (F0 m 2 ls [])) : ∀ (x2 : Int32) (x3 : Int32) (M : Mem), gX1_passDay_45 o0 o1 k2 x2 x3 M = some res → ∀ (H : Heap) (locs : List Loc) (ls : Array Slot), WW E b M TC MM TM s H locs → lv_has ls 4 [(0, .ref (b + o0)), (1, .ref (b + o1)), (2, .int x2), (3, .int x3)] → W p l e rmX1_passDay s m args below meth c H locs 0 0 (MQ below (va_Qv (fun (_ : Unit) => True) (fun _ t => PW E b res TC MM TM t) (AA b)) args s 0 0 (AA b)) (F0 m 45 ls []) := by
  have hx := X.1
  have hb := X.2.1
  intro x2 x3 M hf H locs ls hw hl
  rw [gX1_passDay_45] at hf
  refine lv_aload_n hx hb dX1_passDay_45 rfl (lv_at hl 0 rfl) ?_
  refine gt_X1 X hw 2 h0 rfl (by decide) mw_183 rfl dX1_passDay_46 ?_
  refine lv_iload_n hx hb dX1_passDay_49 rfl (lv_at hl 2 rfl) ?_
  refine lv_bipush (v := 12) hx hb dX1_passDay_50 (by decide) ?_
  refine lv_imul hx hb dX1_passDay_52 ?_
  refine lv_aload_n hx hb dX1_passDay_53 rfl (lv_at hl 0 rfl) ?_
  refine gt_X1 X hw 0 h0 rfl (by decide) mw_177 rfl dX1_passDay_54 ?_
  refine lv_iload_n hx hb dX1_passDay_57 rfl (lv_at hl 2 rfl) ?_
  obtain ⟨v81, q82, hf⟩ := ob hf
  refine aldC X hw (kr_X1_0 h0) q82 dX1_passDay_58 ?_
  refine lv_iadd hx hb dX1_passDay_59 ?_
  refine lv_iload_n hx hb dX1_passDay_60 rfl (lv_at hl 3 rfl) ?_
  obtain ⟨M83, q84, hf⟩ := ob hf
  refine astC X hw (kr_X1_2 h0) q84 dX1_passDay_61 (fun H locs hw => ?_)
  refine lv_aload_n hx hb dX1_passDay_62 rfl (lv_at hl 0 rfl) ?_
  refine gt_X1 X hw 0 h0 rfl (by decide) mw_177 rfl dX1_passDay_63 ?_
  refine lv_iload_n hx hb dX1_passDay_66 rfl (lv_at hl 2 rfl) ?_
  refine lv_dup2_11 hx hb dX1_passDay_67 rfl rfl ?_
  obtain ⟨v85, q86, hf⟩ := ob hf
  refine aldC X hw (kr_X1_0 h0) q86 dX1_passDay_68 ?_
  refine lv_iconst (v := 1) hx hb dX1_passDay_69 (by decide) ?_
  refine lv_iadd hx hb dX1_passDay_70 ?_
  obtain ⟨M87, q88, hf⟩ := ob hf
  refine astC X hw (kr_X1_0 h0) q88 dX1_passDay_71 (fun H locs hw => ?_)
  obtain ⟨z89, ez89⟩ : ∃ y : Int32, y = x2 + 1 := ⟨_, rfl⟩
  replace hf := nmb hf ez89
  refine lv_iinc (v := z89) (lv' := [(2, .int z89), (0, .ref (b + o0)), (1, .ref (b + o1)), (3, .int x3)]) hx hb dX1_passDay_72 hl (k := 2) rfl (by rw [ez89]; rfl) (by decide) rfl (fun ls hl => ?_)
  refine lv_goto (tgt := 2) hx hb dX1_passDay_75 (by decide) ?_
  exact hk2 z89 M87 hf H locs ls hw (lv_sub hl [1, 2, 0] rfl)
set_option maxHeartbeats 4000000 in
set_option maxRecDepth 100000 in
theorem tX1_passDay_2 {p : Program} {l : Launch} {e : Env} {s : State} {m : MethodId} {args : Array Value} {below : List Frame} {meth : Method} {c : Code} {E : EE} {b : Nat} {TC : Int64} {MM : Mem} {TM : Int64} {res : Mem} (X : CX E p s m args c cX1_passDay 4 RX1) (hr : meth.sig.returnType = none) (hlk : meth.locks = false) {o0 : Nat} {o1 : Nat} (h0 : (kd o0).1 = 3) (h1 : (kd o1).1 = 6)  : ∀ (n : Nat) (x2 : Int32) (M : Mem), gX1_passDay_2 o0 o1 n x2 M = some res → ∀ (H : Heap) (locs : List Loc) (ls : Array Slot), WW E b M TC MM TM s H locs → lv_has ls 4 [(0, .ref (b + o0)), (1, .ref (b + o1)), (2, .int x2)] → W p l e rmX1_passDay s m args below meth c H locs 0 0 (MQ below (va_Qv (fun (_ : Unit) => True) (fun _ t => PW E b res TC MM TM t) (AA b)) args s 0 0 (AA b)) (F0 m 2 ls []) := by
  have hx := X.1
  have hb := X.2.1
  intro n
  induction n with
  | zero =>
    intro x2 M hf
    cases (show (none : Option (Mem)) = some res from hf)
  | succ n ih =>
    intro x2 M hf H locs ls hw hl
    rw [gX1_passDay_2] at hf
    refine lv_iload_n hx hb dX1_passDay_2 rfl (lv_at hl 2 rfl) ?_
    refine lv_aload_n hx hb dX1_passDay_3 rfl (lv_at hl 1 rfl) ?_
    refine gt_X6 X hw 3 h1 rfl (by decide) mw_113 rfl dX1_passDay_4 ?_
    refine lv_icmp_ge (tgt := 78) hx hb dX1_passDay_7 (by decide) (fun c72 => ?_) (fun c72 => ?_)
    · replace hf := (if_pos c72).symm.trans hf
      refine lv_aload_n hx hb dX1_passDay_78 rfl (lv_at hl 0 rfl) ?_
      refine lv_dup hx hb dX1_passDay_79 rfl ?_
      refine gt_X1 X hw 4 h0 rfl (by decide) mw_185 rfl dX1_passDay_80 ?_
      refine lv_iconst (v := 1) hx hb dX1_passDay_83 (by decide) ?_
      refine lv_iadd hx hb dX1_passDay_84 ?_
      obtain ⟨M73, eM73, hf⟩ := ob hf
      refine pt_X1_4 X hw h0 mw_185 dX1_passDay_85 (fun H locs hw => ?_)
      rw [Option.some.inj eM73] at hw
      cases hf
      exact eV X hw hr hlk dX1_passDay_88
    · replace hf := (if_neg c72).symm.trans hf
      refine lv_aload_n hx hb dX1_passDay_10 rfl (lv_at hl 0 rfl) ?_
      refine lv_aload_n hx hb dX1_passDay_11 rfl (lv_at hl 1 rfl) ?_
      refine lv_iload_n hx hb dX1_passDay_12 rfl (lv_at hl 2 rfl) ?_
      refine lv_iconst (v := 0) hx hb dX1_passDay_13 (by decide) ?_
      obtain ⟨u74, q75, hf⟩ := ob hf
      refine cVi (As := [.ref (b + o1), .int x2, .int 0]) X hw (ctX1_thoughtAhead l E b h0 h1 q75) ⟨mw_459, mw_460, mw_461, mw_57, mw_462⟩ hd_X1_thoughtAhead ⟨Nat.le_of_ble_eq_true rfl, Nat.le_of_ble_eq_true rfl, rfl, rfl⟩ (kdk h0 (by decide)) (ce_X1 E _ _ _ _ h0) (show vwCl[1]? = some (RX1, TX1, 6) from rfl) rfl hl.1 rfl (Nat.le_of_ble_eq_true rfl) dX1_passDay_14 (fun H locs hw => ?_)
      refine lv_istore_n (lv' := [(3, .int u74), (0, .ref (b + o0)), (1, .ref (b + o1)), (2, .int x2)]) hx hb dX1_passDay_17 rfl hl (by decide) rfl (fun ls hl => ?_)
      refine lv_aload_n hx hb dX1_passDay_18 rfl (lv_at hl 1 rfl) ?_
      refine gt_X1 X hw 1 h0 rfl (by decide) mw_181 rfl dX1_passDay_19 ?_
      refine lv_iload_n hx hb dX1_passDay_22 rfl (lv_at hl 3 rfl) ?_
      refine lv_bipush (v := (-9)) hx hb dX1_passDay_23 (by decide) ?_
      obtain ⟨M76, q77, hf⟩ := ob hf
      refine astC X hw (kr_X1_1 h0) q77 dX1_passDay_25 (fun H locs hw => ?_)
      refine lv_aload_n hx hb dX1_passDay_26 rfl (lv_at hl 1 rfl) ?_
      refine gt_X1 X hw 0 h0 rfl (by decide) mw_177 rfl dX1_passDay_27 ?_
      refine lv_iload_n hx hb dX1_passDay_30 rfl (lv_at hl 3 rfl) ?_
      obtain ⟨v78, q79, hf⟩ := ob hf
      refine aldC X hw (kr_X1_0 h0) q79 dX1_passDay_31 ?_
      refine lv_aload_n hx hb dX1_passDay_32 rfl (lv_at hl 2 rfl) ?_
      refine gt_X6 X hw 4 h1 rfl (by decide) mw_118 rfl dX1_passDay_33 ?_
      refine lv_icmp_lt (tgt := 45) hx hb dX1_passDay_36 (by decide) (fun c80 => ?_) (fun c80 => ?_)
      · replace hf := (if_pos c80).symm.trans hf
        exact tX1_passDay_45 X hr hlk h0 h1 ih x2 u74 M76 hf H locs ls hw (lv_sub hl [1, 2, 3, 0] rfl)
      · replace hf := (if_neg c80).symm.trans hf
        refine lv_aload_n hx hb dX1_passDay_39 rfl (lv_at hl 1 rfl) ?_
        refine lv_iload_n hx hb dX1_passDay_40 rfl (lv_at hl 3 rfl) ?_
        refine lv_iconst (v := 1) hx hb dX1_passDay_41 (by decide) ?_
        obtain ⟨u90, q91, hf⟩ := ob hf
        refine cVv (As := [.int x2, .int 1]) X hw (ctX1_dropTips l E b h0 q91) ⟨mw_467, mw_469, mw_11, mw_57, mw_470⟩ hd_X1_dropTips ⟨Nat.le_of_ble_eq_true rfl, Nat.le_of_ble_eq_true rfl, rfl, rfl⟩ (kdk h0 (by decide)) (ce_X1 E _ _ _ _ h0) (show vwCl[1]? = some (RX1, TX1, 6) from rfl) rfl hl.1 rfl (Nat.le_of_ble_eq_true rfl) dX1_passDay_42 (fun H locs hw => ?_)
        exact tX1_passDay_45 X hr hlk h0 h1 ih x2 u74 u90 hf H locs ls hw (lv_sub hl [1, 2, 3, 0] rfl)
set_option maxHeartbeats 4000000 in
set_option maxRecDepth 100000 in
theorem ctX1_passDay (l : Launch) (E : EE) (b : Nat) {TC : Int64} {MM : Mem} {TM : Int64} {o0 : Nat} {o1 : Nat} {M : Mem} {res : Mem} (h0 : (kd o0).1 = 3) (h1 : (kd o1).1 = 6) (hf : gX1_passDay o0 o1 M = some res) : MetV l E b yX1_passDay (.code yX1_passDay cX1_passDay 4 none) rmX1_passDay [.ref (b + o0), .ref (b + o1)] M TC MM TM res TC MM TM := by
  refine Met.ofW (cc := cX1_passDay) (maxL := 4) (ret := none) (by decide) rfl ?_
  intro p e s m args below meth c s₁ B hml hv
  obtain ⟨rfl, hP, hK⟩ := hv
  have hx := B.exec
  have hb := B.bytes
  have X : CX E p s m _ c cX1_passDay 4 RX1 := ⟨hx, hb, hml, findClass_of_methodNamed B.named, fun w h => atoms_spec (ws := _ :: wt) B.pre w (List.mem_cons_of_mem _ h), hK⟩
  have hr := B.returns
  have hlk := B.notSynchronized
  have hw : WW E b M TC MM TM s s.heap [] := ⟨hP, va_S.rf⟩
  have hl := lv_entry ([.ref (b + o0), .ref (b + o1)]) (n := 4) (Nat.le_of_ble_eq_true rfl)
  rw [lg_entry_eq]
  generalize (lg_sl ([.ref (b + o0), .ref (b + o1)]) ++ List.replicate (4 - (lg_sl ([.ref (b + o0), .ref (b + o1)])).length) Slot.unset).toArray = ls at hl ⊢
  have hl : lv_has ls 4 [(0, .ref (b + o0)), (1, .ref (b + o1))] := hl
  obtain ⟨H, hH⟩ : ∃ H, H = s.heap := ⟨_, rfl⟩
  obtain ⟨locs, hL⟩ : ∃ L : List Loc, L = [] := ⟨_, rfl⟩
  rw [← hH, ← hL] at hw
  suffices hg : W p l e rmX1_passDay s m _ below meth c H locs 0 0 (MQ below (va_Qv (fun (_ : Unit) => True) (fun _ t => PW E b res TC MM TM t) (AA b)) _ s 0 0 (AA b)) (F0 m 0 ls []) by rw [hH, hL] at hg; exact hg
  clear hH hL
  rw [gX1_passDay] at hf
  refine lv_iconst (v := 0) hx hb dX1_passDay_0 (by decide) ?_
  refine lv_istore_n (lv' := [(2, .int 0), (0, .ref (b + o0)), (1, .ref (b + o1))]) hx hb dX1_passDay_1 rfl hl (by decide) rfl (fun ls hl => ?_)
  exact tX1_passDay_2 X hr hlk h0 h1 FU 0 M hf H locs ls hw (lv_sub hl [1, 2, 0] rfl)

abbrev rmX1_sweep : Room := { frames := 1, cells := 0, slots := 0, locals := 24 }
theorem hd_X1_sweep : Hd yX1_sweep RX1 2 := by decide +kernel
def gX1_sweep_2 (o0 : Nat)  : Nat → Int32 → Int32 → Int32 → Mem → Option (Mem)
  | 0, _, _, _, _ => none
  | n + 1, x1, x2, x3, M => if x2 ≤ x3 then ((gX1_dropTips o0 x1 x2 M).bind fun u93 => some (u93)) else ((gX1_layerAt o0 x1 x3 M).bind fun u95 => (some (((M o0 5) * 10) + u95)).bind fun z97 => (ldA 40 (M (o0 + 4)) z97).bind fun v98 => (some (mn (v98 + 1) 99)).bind fun z100 => (stA 40 M (o0 + 4) z97 z100).bind fun M101 => (some (x3 + 1)).bind fun z103 => (gX1_sweep_2 o0 n) x1 x2 z103 M101)
def gX1_sweep (o0 : Nat) (x1 : Int32) (x2 : Int32) (M : Mem) : Option (Mem) := gX1_sweep_2 o0 FU x1 x2 0 M
set_option maxHeartbeats 4000000 in
set_option maxRecDepth 100000 in
theorem tX1_sweep_2 {p : Program} {l : Launch} {e : Env} {s : State} {m : MethodId} {args : Array Value} {below : List Frame} {meth : Method} {c : Code} {E : EE} {b : Nat} {TC : Int64} {MM : Mem} {TM : Int64} {res : Mem} (X : CX E p s m args c cX1_sweep 5 RX1) (hr : meth.sig.returnType = none) (hlk : meth.locks = false) {o0 : Nat} (h0 : (kd o0).1 = 3)  : ∀ (n : Nat) (x1 : Int32) (x2 : Int32) (x3 : Int32) (M : Mem), gX1_sweep_2 o0 n x1 x2 x3 M = some res → ∀ (H : Heap) (locs : List Loc) (ls : Array Slot), WW E b M TC MM TM s H locs → lv_has ls 5 [(0, .ref (b + o0)), (1, .int x1), (2, .int x2), (3, .int x3)] → W p l e rmX1_sweep s m args below meth c H locs 0 0 (MQ below (va_Qv (fun (_ : Unit) => True) (fun _ t => PW E b res TC MM TM t) (AA b)) args s 0 0 (AA b)) (F0 m 2 ls []) := by
  have hx := X.1
  have hb := X.2.1
  intro n
  induction n with
  | zero =>
    intro x1 x2 x3 M hf
    cases (show (none : Option (Mem)) = some res from hf)
  | succ n ih =>
    intro x1 x2 x3 M hf H locs ls hw hl
    rw [gX1_sweep_2] at hf
    refine lv_iload_n hx hb dX1_sweep_2 rfl (lv_at hl 3 rfl) ?_
    refine lv_iload_n hx hb dX1_sweep_3 rfl (lv_at hl 2 rfl) ?_
    refine lv_icmp_ge (tgt := 50) hx hb dX1_sweep_4 (by decide) (fun c92 => ?_) (fun c92 => ?_)
    · replace hf := (if_pos c92).symm.trans hf
      refine lv_aload_n hx hb dX1_sweep_50 rfl (lv_at hl 0 rfl) ?_
      refine lv_iload_n hx hb dX1_sweep_51 rfl (lv_at hl 1 rfl) ?_
      refine lv_iload_n hx hb dX1_sweep_52 rfl (lv_at hl 2 rfl) ?_
      obtain ⟨u93, q94, hf⟩ := ob hf
      refine cVv (As := [.int x1, .int x2]) X hw (ctX1_dropTips l E b h0 q94) ⟨mw_467, mw_469, mw_11, mw_57, mw_470⟩ hd_X1_dropTips ⟨Nat.le_of_ble_eq_true rfl, Nat.le_of_ble_eq_true rfl, rfl, rfl⟩ (kdk h0 (by decide)) (ce_X1 E _ _ _ _ h0) (show vwCl[1]? = some (RX1, TX1, 6) from rfl) rfl hl.1 rfl (Nat.le_of_ble_eq_true rfl) dX1_sweep_53 (fun H locs hw => ?_)
      cases hf
      exact eV X hw hr hlk dX1_sweep_56
    · replace hf := (if_neg c92).symm.trans hf
      refine lv_aload_n hx hb dX1_sweep_7 rfl (lv_at hl 0 rfl) ?_
      refine gt_X1 X hw 5 h0 rfl (by decide) mw_187 rfl dX1_sweep_8 ?_
      refine lv_bipush (v := 10) hx hb dX1_sweep_11 (by decide) ?_
      refine lv_imul hx hb dX1_sweep_13 ?_
      refine lv_aload_n hx hb dX1_sweep_14 rfl (lv_at hl 0 rfl) ?_
      refine lv_iload_n hx hb dX1_sweep_15 rfl (lv_at hl 1 rfl) ?_
      refine lv_iload_n hx hb dX1_sweep_16 rfl (lv_at hl 3 rfl) ?_
      obtain ⟨u95, q96, hf⟩ := ob hf
      refine cVi (As := [.int x1, .int x3]) X hw (ctX1_layerAt l E b h0 q96) ⟨mw_411, mw_412, mw_413, mw_57, mw_414⟩ hd_X1_layerAt ⟨Nat.le_of_ble_eq_true rfl, Nat.le_of_ble_eq_true rfl, rfl, rfl⟩ (kdk h0 (by decide)) (ce_X1 E _ _ _ _ h0) (show vwCl[1]? = some (RX1, TX1, 6) from rfl) rfl hl.1 rfl (Nat.le_of_ble_eq_true rfl) dX1_sweep_17 (fun H locs hw => ?_)
      refine lv_iadd hx hb dX1_sweep_20 ?_
      refine lv_topi (fun z97 ez97 => ?_)
      replace hf := nmb hf ez97
      refine lv_istore (lv' := [(4, .int z97), (0, .ref (b + o0)), (1, .int x1), (2, .int x2), (3, .int x3)]) hx hb dX1_sweep_21 hl (by decide) rfl (fun ls hl => ?_)
      refine lv_aload_n hx hb dX1_sweep_23 rfl (lv_at hl 1 rfl) ?_
      refine gt_X1 X hw 3 h0 rfl (by decide) mw_184 rfl dX1_sweep_24 ?_
      refine lv_iload hx hb dX1_sweep_27 (lv_at hl 0 rfl) ?_
      refine lv_aload_n hx hb dX1_sweep_29 rfl (lv_at hl 1 rfl) ?_
      refine gt_X1 X hw 3 h0 rfl (by decide) mw_184 rfl dX1_sweep_30 ?_
      refine lv_iload hx hb dX1_sweep_33 (lv_at hl 0 rfl) ?_
      obtain ⟨v98, q99, hf⟩ := ob hf
      refine aldC X hw (kr_X1_3 h0) q99 dX1_sweep_35 ?_
      refine lv_iconst (v := 1) hx hb dX1_sweep_36 (by decide) ?_
      refine lv_iadd hx hb dX1_sweep_37 ?_
      refine lv_bipush (v := 99) hx hb dX1_sweep_38 (by decide) ?_
      refine va_mmin hx hb (by rw [X.2.2.1]; exact hl.1.symm) X.2.2.2.1 (X.2.2.2.2.1 _ mw_483) (X.2.2.2.2.1 _ mw_353) (X.2.2.2.2.1 _ mw_62) (X.2.2.2.2.1 _ code_min) (Nat.le_of_ble_eq_true rfl) (Nat.le_of_ble_eq_true rfl) (Nat.zero_le _) (Nat.zero_le _) dX1_sweep_40 ?_
      refine lv_topi (fun z100 ez100 => ?_)
      replace hf := nmb hf ez100
      obtain ⟨M101, q102, hf⟩ := ob hf
      refine astC X hw (kr_X1_3 h0) q102 dX1_sweep_43 (fun H locs hw => ?_)
      obtain ⟨z103, ez103⟩ : ∃ y : Int32, y = x3 + 1 := ⟨_, rfl⟩
      replace hf := nmb hf ez103
      refine lv_iinc (v := z103) (lv' := [(3, .int z103), (4, .int z97), (0, .ref (b + o0)), (1, .int x1), (2, .int x2)]) hx hb dX1_sweep_44 hl (k := 4) rfl (by rw [ez103]; rfl) (by decide) rfl (fun ls hl => ?_)
      refine lv_goto (tgt := 2) hx hb dX1_sweep_47 (by decide) ?_
      exact ih x1 x2 z103 M101 hf H locs ls hw (lv_sub hl [2, 3, 4, 0] rfl)
set_option maxHeartbeats 4000000 in
set_option maxRecDepth 100000 in
theorem ctX1_sweep (l : Launch) (E : EE) (b : Nat) {TC : Int64} {MM : Mem} {TM : Int64} {o0 : Nat} {x1 : Int32} {x2 : Int32} {M : Mem} {res : Mem} (h0 : (kd o0).1 = 3) (hf : gX1_sweep o0 x1 x2 M = some res) : MetV l E b yX1_sweep (.code yX1_sweep cX1_sweep 5 none) rmX1_sweep [.ref (b + o0), .int x1, .int x2] M TC MM TM res TC MM TM := by
  refine Met.ofW (cc := cX1_sweep) (maxL := 5) (ret := none) (by decide) rfl ?_
  intro p e s m args below meth c s₁ B hml hv
  obtain ⟨rfl, hP, hK⟩ := hv
  have hx := B.exec
  have hb := B.bytes
  have X : CX E p s m _ c cX1_sweep 5 RX1 := ⟨hx, hb, hml, findClass_of_methodNamed B.named, fun w h => atoms_spec (ws := _ :: wt) B.pre w (List.mem_cons_of_mem _ h), hK⟩
  have hr := B.returns
  have hlk := B.notSynchronized
  have hw : WW E b M TC MM TM s s.heap [] := ⟨hP, va_S.rf⟩
  have hl := lv_entry ([.ref (b + o0), .int x1, .int x2]) (n := 5) (Nat.le_of_ble_eq_true rfl)
  rw [lg_entry_eq]
  generalize (lg_sl ([.ref (b + o0), .int x1, .int x2]) ++ List.replicate (5 - (lg_sl ([.ref (b + o0), .int x1, .int x2])).length) Slot.unset).toArray = ls at hl ⊢
  have hl : lv_has ls 5 [(0, .ref (b + o0)), (1, .int x1), (2, .int x2)] := hl
  obtain ⟨H, hH⟩ : ∃ H, H = s.heap := ⟨_, rfl⟩
  obtain ⟨locs, hL⟩ : ∃ L : List Loc, L = [] := ⟨_, rfl⟩
  rw [← hH, ← hL] at hw
  suffices hg : W p l e rmX1_sweep s m _ below meth c H locs 0 0 (MQ below (va_Qv (fun (_ : Unit) => True) (fun _ t => PW E b res TC MM TM t) (AA b)) _ s 0 0 (AA b)) (F0 m 0 ls []) by rw [hH, hL] at hg; exact hg
  clear hH hL
  rw [gX1_sweep] at hf
  refine lv_iconst (v := 0) hx hb dX1_sweep_0 (by decide) ?_
  refine lv_istore_n (lv' := [(3, .int 0), (0, .ref (b + o0)), (1, .int x1), (2, .int x2)]) hx hb dX1_sweep_1 rfl hl (by decide) rfl (fun ls hl => ?_)
  exact tX1_sweep_2 X hr hlk h0 FU x1 x2 0 M hf H locs ls hw (lv_sub hl [1, 2, 3, 0] rfl)

abbrev rmX1_pourOut : Room := { frames := 0, cells := 0, slots := 0, locals := 0 }
theorem hd_X1_pourOut : Hd yX1_pourOut RX1 1 := by decide +kernel
def gX1_pourOut_2 (o0 : Nat)  : Nat → Int32 → Int32 → Mem → Option (Mem)
  | 0, _, _, _ => none
  | n + 1, x1, x2, M => if 10 ≤ x2 then (some (M)) else ((stA 40 M (o0 + 4) ((x1 * 10) + x2) 0).bind fun M105 => (some (x2 + 1)).bind fun z107 => (gX1_pourOut_2 o0 n) x1 z107 M105)
def gX1_pourOut (o0 : Nat) (x1 : Int32) (M : Mem) : Option (Mem) := gX1_pourOut_2 o0 FU x1 0 M
set_option maxHeartbeats 4000000 in
set_option maxRecDepth 100000 in
theorem tX1_pourOut_2 {p : Program} {l : Launch} {e : Env} {s : State} {m : MethodId} {args : Array Value} {below : List Frame} {meth : Method} {c : Code} {E : EE} {b : Nat} {TC : Int64} {MM : Mem} {TM : Int64} {res : Mem} (X : CX E p s m args c cX1_pourOut 3 RX1) (hr : meth.sig.returnType = none) (hlk : meth.locks = false) {o0 : Nat} (h0 : (kd o0).1 = 3)  : ∀ (n : Nat) (x1 : Int32) (x2 : Int32) (M : Mem), gX1_pourOut_2 o0 n x1 x2 M = some res → ∀ (H : Heap) (locs : List Loc) (ls : Array Slot), WW E b M TC MM TM s H locs → lv_has ls 3 [(0, .ref (b + o0)), (1, .int x1), (2, .int x2)] → W p l e rmX1_pourOut s m args below meth c H locs 0 0 (MQ below (va_Qv (fun (_ : Unit) => True) (fun _ t => PW E b res TC MM TM t) (AA b)) args s 0 0 (AA b)) (F0 m 2 ls []) := by
  have hx := X.1
  have hb := X.2.1
  intro n
  induction n with
  | zero =>
    intro x1 x2 M hf
    cases (show (none : Option (Mem)) = some res from hf)
  | succ n ih =>
    intro x1 x2 M hf H locs ls hw hl
    rw [gX1_pourOut_2] at hf
    refine lv_iload_n hx hb dX1_pourOut_2 rfl (lv_at hl 2 rfl) ?_
    refine lv_bipush (v := 10) hx hb dX1_pourOut_3 (by decide) ?_
    refine lv_icmp_ge (tgt := 26) hx hb dX1_pourOut_5 (by decide) (fun c104 => ?_) (fun c104 => ?_)
    · replace hf := (if_pos c104).symm.trans hf
      cases hf
      exact eV X hw hr hlk dX1_pourOut_26
    · replace hf := (if_neg c104).symm.trans hf
      refine lv_aload_n hx hb dX1_pourOut_8 rfl (lv_at hl 0 rfl) ?_
      refine gt_X1 X hw 3 h0 rfl (by decide) mw_184 rfl dX1_pourOut_9 ?_
      refine lv_iload_n hx hb dX1_pourOut_12 rfl (lv_at hl 1 rfl) ?_
      refine lv_bipush (v := 10) hx hb dX1_pourOut_13 (by decide) ?_
      refine lv_imul hx hb dX1_pourOut_15 ?_
      refine lv_iload_n hx hb dX1_pourOut_16 rfl (lv_at hl 2 rfl) ?_
      refine lv_iadd hx hb dX1_pourOut_17 ?_
      refine lv_iconst (v := 0) hx hb dX1_pourOut_18 (by decide) ?_
      obtain ⟨M105, q106, hf⟩ := ob hf
      refine astC X hw (kr_X1_3 h0) q106 dX1_pourOut_19 (fun H locs hw => ?_)
      obtain ⟨z107, ez107⟩ : ∃ y : Int32, y = x2 + 1 := ⟨_, rfl⟩
      replace hf := nmb hf ez107
      refine lv_iinc (v := z107) (lv' := [(2, .int z107), (0, .ref (b + o0)), (1, .int x1)]) hx hb dX1_pourOut_20 hl (k := 2) rfl (by rw [ez107]; rfl) (by decide) rfl (fun ls hl => ?_)
      refine lv_goto (tgt := 2) hx hb dX1_pourOut_23 (by decide) ?_
      exact ih x1 z107 M105 hf H locs ls hw (lv_sub hl [1, 2, 0] rfl)
set_option maxHeartbeats 4000000 in
set_option maxRecDepth 100000 in
theorem ctX1_pourOut (l : Launch) (E : EE) (b : Nat) {TC : Int64} {MM : Mem} {TM : Int64} {o0 : Nat} {x1 : Int32} {M : Mem} {res : Mem} (h0 : (kd o0).1 = 3) (hf : gX1_pourOut o0 x1 M = some res) : MetV l E b yX1_pourOut (.code yX1_pourOut cX1_pourOut 3 none) rmX1_pourOut [.ref (b + o0), .int x1] M TC MM TM res TC MM TM := by
  refine Met.ofW (cc := cX1_pourOut) (maxL := 3) (ret := none) (by decide) rfl ?_
  intro p e s m args below meth c s₁ B hml hv
  obtain ⟨rfl, hP, hK⟩ := hv
  have hx := B.exec
  have hb := B.bytes
  have X : CX E p s m _ c cX1_pourOut 3 RX1 := ⟨hx, hb, hml, findClass_of_methodNamed B.named, fun w h => atoms_spec (ws := _ :: wt) B.pre w (List.mem_cons_of_mem _ h), hK⟩
  have hr := B.returns
  have hlk := B.notSynchronized
  have hw : WW E b M TC MM TM s s.heap [] := ⟨hP, va_S.rf⟩
  have hl := lv_entry ([.ref (b + o0), .int x1]) (n := 3) (Nat.le_of_ble_eq_true rfl)
  rw [lg_entry_eq]
  generalize (lg_sl ([.ref (b + o0), .int x1]) ++ List.replicate (3 - (lg_sl ([.ref (b + o0), .int x1])).length) Slot.unset).toArray = ls at hl ⊢
  have hl : lv_has ls 3 [(0, .ref (b + o0)), (1, .int x1)] := hl
  obtain ⟨H, hH⟩ : ∃ H, H = s.heap := ⟨_, rfl⟩
  obtain ⟨locs, hL⟩ : ∃ L : List Loc, L = [] := ⟨_, rfl⟩
  rw [← hH, ← hL] at hw
  suffices hg : W p l e rmX1_pourOut s m _ below meth c H locs 0 0 (MQ below (va_Qv (fun (_ : Unit) => True) (fun _ t => PW E b res TC MM TM t) (AA b)) _ s 0 0 (AA b)) (F0 m 0 ls []) by rw [hH, hL] at hg; exact hg
  clear hH hL
  rw [gX1_pourOut] at hf
  refine lv_iconst (v := 0) hx hb dX1_pourOut_0 (by decide) ?_
  refine lv_istore_n (lv' := [(2, .int 0), (0, .ref (b + o0)), (1, .int x1)]) hx hb dX1_pourOut_1 rfl hl (by decide) rfl (fun ls hl => ?_)
  exact tX1_pourOut_2 X hr hlk h0 FU x1 0 M hf H locs ls hw (lv_sub hl [1, 2, 0] rfl)

abbrev rmX1_layersOf : Room := { frames := 1, cells := 0, slots := 0, locals := 22 }
theorem hd_X1_layersOf : Hd yX1_layersOf RX1 2 := by decide +kernel
def gX1_layersOf_30 (o0 : Nat) (k5 : Int32 → Int32 → Int32 → Int32 → Mem → Option (Int32)) (x1 : Int32) (x2 : Int32) (x3 : Int32) (x4 : Int32) (M : Mem) : Option (Int32) := (some (x4 + 1)).bind fun z114 => k5 x1 x2 x3 z114 M
def gX1_layersOf_5 (o0 : Nat)  : Nat → Int32 → Int32 → Int32 → Int32 → Mem → Option (Int32)
  | 0, _, _, _, _, _ => none
  | n + 1, x1, x2, x3, x4, M => (ldA 5 (M (o0 + 1)) x1).bind fun v108 => if v108 ≤ x4 then (some (x3)) else ((gX1_layerAt o0 x1 x4 M).bind fun u111 => if u111 = x2 then ((some (x3 + 1)).bind fun z115 => gX1_layersOf_30 o0 (gX1_layersOf_5 o0 n) x1 x2 z115 x4 M) else (gX1_layersOf_30 o0 (gX1_layersOf_5 o0 n) x1 x2 x3 x4 M))
def gX1_layersOf (o0 : Nat) (x1 : Int32) (x2 : Int32) (M : Mem) : Option (Int32) := gX1_layersOf_5 o0 FU x1 x2 0 0 M
set_option maxHeartbeats 4000000 in
set_option maxRecDepth 100000 in
theorem tX1_layersOf_30 {p : Program} {l : Launch} {e : Env} {s : State} {m : MethodId} {args : Array Value} {below : List Frame} {meth : Method} {c : Code} {E : EE} {b : Nat} {TC : Int64} {MM : Mem} {TM : Int64} {res : Int32} (X : CX E p s m args c cX1_layersOf 5 RX1) (hr : meth.sig.returnType = (some .int)) (hlk : meth.locks = false) {o0 : Nat} (h0 : (kd o0).1 = 3) {k5 : Int32 → Int32 → Int32 → Int32 → Mem → Option (Int32)} (hk5 : ∀ (x1 : Int32) (x2 : Int32) (x3 : Int32) (x4 : Int32) (M : Mem), k5 x1 x2 x3 x4 M = some res → ∀ (H : Heap) (locs : List Loc) (ls : Array Slot), WW E b M TC MM TM s H locs → lv_has ls 5 [(0, .ref (b + o0)), (1, .int x1), (2, .int x2), (3, .int x3), (4, .int x4)] → W p l e rmX1_layersOf s m args below meth c H locs 0 0 (MQ below (va_Qi (fun x (_ : Unit) => x = res) (fun _ t => PW E b M TC MM TM t) (AA b)) args s 0 0 (AA b)) (F0 m 5 ls [])) : ∀ (x1 : Int32) (x2 : Int32) (x3 : Int32) (x4 : Int32) (M : Mem), gX1_layersOf_30 o0 k5 x1 x2 x3 x4 M = some res → ∀ (H : Heap) (locs : List Loc) (ls : Array Slot), WW E b M TC MM TM s H locs → lv_has ls 5 [(0, .ref (b + o0)), (1, .int x1), (2, .int x2), (3, .int x3), (4, .int x4)] → W p l e rmX1_layersOf s m args below meth c H locs 0 0 (MQ below (va_Qi (fun x (_ : Unit) => x = res) (fun _ t => PW E b M TC MM TM t) (AA b)) args s 0 0 (AA b)) (F0 m 30 ls []) := by
  have hx := X.1
  have hb := X.2.1
  intro x1 x2 x3 x4 M hf H locs ls hw hl
  rw [gX1_layersOf_30] at hf
  obtain ⟨z114, ez114⟩ : ∃ y : Int32, y = x4 + 1 := ⟨_, rfl⟩
  replace hf := nmb hf ez114
  refine lv_iinc (v := z114) (lv' := [(4, .int z114), (0, .ref (b + o0)), (1, .int x1), (2, .int x2), (3, .int x3)]) hx hb dX1_layersOf_30 hl (k := 4) rfl (by rw [ez114]; rfl) (by decide) rfl (fun ls hl => ?_)
  refine lv_goto (tgt := 5) hx hb dX1_layersOf_33 (by decide) ?_
  exact hk5 x1 x2 x3 z114 M hf H locs ls hw (lv_sub hl [1, 2, 3, 4, 0] rfl)
set_option maxHeartbeats 4000000 in
set_option maxRecDepth 100000 in
theorem tX1_layersOf_5 {p : Program} {l : Launch} {e : Env} {s : State} {m : MethodId} {args : Array Value} {below : List Frame} {meth : Method} {c : Code} {E : EE} {b : Nat} {TC : Int64} {MM : Mem} {TM : Int64} {res : Int32} (X : CX E p s m args c cX1_layersOf 5 RX1) (hr : meth.sig.returnType = (some .int)) (hlk : meth.locks = false) {o0 : Nat} (h0 : (kd o0).1 = 3)  : ∀ (n : Nat) (x1 : Int32) (x2 : Int32) (x3 : Int32) (x4 : Int32) (M : Mem), gX1_layersOf_5 o0 n x1 x2 x3 x4 M = some res → ∀ (H : Heap) (locs : List Loc) (ls : Array Slot), WW E b M TC MM TM s H locs → lv_has ls 5 [(0, .ref (b + o0)), (1, .int x1), (2, .int x2), (3, .int x3), (4, .int x4)] → W p l e rmX1_layersOf s m args below meth c H locs 0 0 (MQ below (va_Qi (fun x (_ : Unit) => x = res) (fun _ t => PW E b M TC MM TM t) (AA b)) args s 0 0 (AA b)) (F0 m 5 ls []) := by
  have hx := X.1
  have hb := X.2.1
  intro n
  induction n with
  | zero =>
    intro x1 x2 x3 x4 M hf
    cases (show (none : Option (Int32)) = some res from hf)
  | succ n ih =>
    intro x1 x2 x3 x4 M hf H locs ls hw hl
    rw [gX1_layersOf_5] at hf
    refine lv_iload hx hb dX1_layersOf_5 (lv_at hl 4 rfl) ?_
    refine lv_aload_n hx hb dX1_layersOf_7 rfl (lv_at hl 0 rfl) ?_
    refine gt_X1 X hw 0 h0 rfl (by decide) mw_177 rfl dX1_layersOf_8 ?_
    refine lv_iload_n hx hb dX1_layersOf_11 rfl (lv_at hl 1 rfl) ?_
    obtain ⟨v108, q109, hf⟩ := ob hf
    refine aldC X hw (kr_X1_0 h0) q109 dX1_layersOf_12 ?_
    refine lv_icmp_ge (tgt := 36) hx hb dX1_layersOf_13 (by decide) (fun c110 => ?_) (fun c110 => ?_)
    · replace hf := (if_pos c110).symm.trans hf
      refine lv_iload_n hx hb dX1_layersOf_36 rfl (lv_at hl 3 rfl) ?_
      cases hf
      exact eI X hw hr hlk dX1_layersOf_37
    · replace hf := (if_neg c110).symm.trans hf
      refine lv_aload_n hx hb dX1_layersOf_16 rfl (lv_at hl 0 rfl) ?_
      refine lv_iload_n hx hb dX1_layersOf_17 rfl (lv_at hl 1 rfl) ?_
      refine lv_iload hx hb dX1_layersOf_18 (lv_at hl 4 rfl) ?_
      obtain ⟨u111, q112, hf⟩ := ob hf
      refine cVi (As := [.int x1, .int x4]) X hw (ctX1_layerAt l E b h0 q112) ⟨mw_411, mw_412, mw_413, mw_57, mw_414⟩ hd_X1_layerAt ⟨Nat.le_of_ble_eq_true rfl, Nat.le_of_ble_eq_true rfl, rfl, rfl⟩ (kdk h0 (by decide)) (ce_X1 E _ _ _ _ h0) (show vwCl[1]? = some (RX1, TX1, 6) from rfl) rfl hl.1 rfl (Nat.le_of_ble_eq_true rfl) dX1_layersOf_20 (fun H locs hw => ?_)
      refine lv_iload_n hx hb dX1_layersOf_23 rfl (lv_at hl 2 rfl) ?_
      refine lv_icmp_ne (tgt := 30) hx hb dX1_layersOf_24 (by decide) (fun c113 => ?_) (fun c113 => ?_)
      · replace hf := (if_neg c113).symm.trans hf
        exact tX1_layersOf_30 X hr hlk h0 ih x1 x2 x3 x4 M hf H locs ls hw (lv_sub hl [0, 1, 2, 3, 4] rfl)
      · replace hf := (if_pos c113).symm.trans hf
        obtain ⟨z115, ez115⟩ : ∃ y : Int32, y = x3 + 1 := ⟨_, rfl⟩
        replace hf := nmb hf ez115
        refine lv_iinc (v := z115) (lv' := [(3, .int z115), (0, .ref (b + o0)), (1, .int x1), (2, .int x2), (4, .int x4)]) hx hb dX1_layersOf_27 hl (k := 3) rfl (by rw [ez115]; rfl) (by decide) rfl (fun ls hl => ?_)
        exact tX1_layersOf_30 X hr hlk h0 ih x1 x2 z115 x4 M hf H locs ls hw (lv_sub hl [1, 2, 3, 0, 4] rfl)
set_option maxHeartbeats 4000000 in
set_option maxRecDepth 100000 in
theorem ctX1_layersOf (l : Launch) (E : EE) (b : Nat) {TC : Int64} {MM : Mem} {TM : Int64} {o0 : Nat} {x1 : Int32} {x2 : Int32} {M : Mem} {res : Int32} (h0 : (kd o0).1 = 3) (hf : gX1_layersOf o0 x1 x2 M = some res) : MetI l E b yX1_layersOf (.code yX1_layersOf cX1_layersOf 5 (some .int)) rmX1_layersOf [.ref (b + o0), .int x1, .int x2] M TC MM TM res M TC MM TM := by
  refine Met.ofW (cc := cX1_layersOf) (maxL := 5) (ret := (some .int)) (by decide) rfl ?_
  intro p e s m args below meth c s₁ B hml hv
  obtain ⟨rfl, hP, hK⟩ := hv
  have hx := B.exec
  have hb := B.bytes
  have X : CX E p s m _ c cX1_layersOf 5 RX1 := ⟨hx, hb, hml, findClass_of_methodNamed B.named, fun w h => atoms_spec (ws := _ :: wt) B.pre w (List.mem_cons_of_mem _ h), hK⟩
  have hr := B.returns
  have hlk := B.notSynchronized
  have hw : WW E b M TC MM TM s s.heap [] := ⟨hP, va_S.rf⟩
  have hl := lv_entry ([.ref (b + o0), .int x1, .int x2]) (n := 5) (Nat.le_of_ble_eq_true rfl)
  rw [lg_entry_eq]
  generalize (lg_sl ([.ref (b + o0), .int x1, .int x2]) ++ List.replicate (5 - (lg_sl ([.ref (b + o0), .int x1, .int x2])).length) Slot.unset).toArray = ls at hl ⊢
  have hl : lv_has ls 5 [(0, .ref (b + o0)), (1, .int x1), (2, .int x2)] := hl
  obtain ⟨H, hH⟩ : ∃ H, H = s.heap := ⟨_, rfl⟩
  obtain ⟨locs, hL⟩ : ∃ L : List Loc, L = [] := ⟨_, rfl⟩
  rw [← hH, ← hL] at hw
  suffices hg : W p l e rmX1_layersOf s m _ below meth c H locs 0 0 (MQ below (va_Qi (fun x (_ : Unit) => x = res) (fun _ t => PW E b M TC MM TM t) (AA b)) _ s 0 0 (AA b)) (F0 m 0 ls []) by rw [hH, hL] at hg; exact hg
  clear hH hL
  rw [gX1_layersOf] at hf
  refine lv_iconst (v := 0) hx hb dX1_layersOf_0 (by decide) ?_
  refine lv_istore_n (lv' := [(3, .int 0), (0, .ref (b + o0)), (1, .int x1), (2, .int x2)]) hx hb dX1_layersOf_1 rfl hl (by decide) rfl (fun ls hl => ?_)
  refine lv_iconst (v := 0) hx hb dX1_layersOf_2 (by decide) ?_
  refine lv_istore (lv' := [(4, .int 0), (3, .int 0), (0, .ref (b + o0)), (1, .int x1), (2, .int x2)]) hx hb dX1_layersOf_3 hl (by decide) rfl (fun ls hl => ?_)
  exact tX1_layersOf_5 X hr hlk h0 FU x1 x2 0 0 M hf H locs ls hw (lv_sub hl [2, 3, 4, 1, 0] rfl)
end
