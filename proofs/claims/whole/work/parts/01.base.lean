-- ===== PART A: goes FIRST, ahead of the names: the tables' words, and 'selects' of the private methods out of them =====
/-- a private method of a class that the tables say can be made, by its rows of tables_1 -/
def lw_okq (q : MethodName × Nat) : Prop := (q.1.cls ≠ "java/lang/invoke/MethodHandle" ∧ q.1.cls ≠ "java/lang/invoke/VarHandle") ∧ Cond.instantiable q.1.cls q.2 ∈ tables_1 ∧ Cond.privateMethod q.1 ∈ tables_1 ∧ Cond.instanceMethod q.1 ∈ tables_1
theorem lw_p0 : lw_okq (⟨"CreditBeams", "codeAt", "(I)I"⟩, 8) := ⟨⟨by decide +kernel, by decide +kernel⟩, List.mem_of_getElem? (i := 18) (by decide +kernel), List.mem_of_getElem? (i := 134) (by decide +kernel), List.mem_of_getElem? (i := 135) (by decide +kernel)⟩
theorem lw_p1 : lw_okq (⟨"CreditBeams$OrderReader", "startOrder", "(I)I"⟩, 6) := ⟨⟨by decide +kernel, by decide +kernel⟩, List.mem_of_getElem? (i := 72) (by decide +kernel), List.mem_of_getElem? (i := 142) (by decide +kernel), List.mem_of_getElem? (i := 143) (by decide +kernel)⟩
theorem lw_p2 : lw_okq (⟨"CreditBeams$OrderReader", "startNumber", "()V"⟩, 6) := ⟨⟨by decide +kernel, by decide +kernel⟩, List.mem_of_getElem? (i := 72) (by decide +kernel), List.mem_of_getElem? (i := 146) (by decide +kernel), List.mem_of_getElem? (i := 147) (by decide +kernel)⟩
theorem lw_p3 : lw_okq (⟨"CreditBeams$OrderReader", "takeDigit", "(I)I"⟩, 6) := ⟨⟨by decide +kernel, by decide +kernel⟩, List.mem_of_getElem? (i := 72) (by decide +kernel), List.mem_of_getElem? (i := 150) (by decide +kernel), List.mem_of_getElem? (i := 151) (by decide +kernel)⟩
theorem lw_p4 : lw_okq (⟨"CreditBeams$OrderReader", "least", "()I"⟩, 6) := ⟨⟨by decide +kernel, by decide +kernel⟩, List.mem_of_getElem? (i := 72) (by decide +kernel), List.mem_of_getElem? (i := 154) (by decide +kernel), List.mem_of_getElem? (i := 155) (by decide +kernel)⟩
theorem lw_p5 : lw_okq (⟨"CreditBeams$OrderReader", "most", "()I"⟩, 6) := ⟨⟨by decide +kernel, by decide +kernel⟩, List.mem_of_getElem? (i := 72) (by decide +kernel), List.mem_of_getElem? (i := 158) (by decide +kernel), List.mem_of_getElem? (i := 159) (by decide +kernel)⟩
theorem lw_p6 : lw_okq (⟨"CreditBeams$OrderReader", "takeMinus", "()I"⟩, 6) := ⟨⟨by decide +kernel, by decide +kernel⟩, List.mem_of_getElem? (i := 72) (by decide +kernel), List.mem_of_getElem? (i := 166) (by decide +kernel), List.mem_of_getElem? (i := 167) (by decide +kernel)⟩
theorem lw_p7 : lw_okq (⟨"CreditBeams$OrderReader", "endCode", "()I"⟩, 6) := ⟨⟨by decide +kernel, by decide +kernel⟩, List.mem_of_getElem? (i := 72) (by decide +kernel), List.mem_of_getElem? (i := 170) (by decide +kernel), List.mem_of_getElem? (i := 171) (by decide +kernel)⟩
theorem lw_p8 : lw_okq (⟨"CreditBeams$OrderReader", "endNumber", "()I"⟩, 6) := ⟨⟨by decide +kernel, by decide +kernel⟩, List.mem_of_getElem? (i := 72) (by decide +kernel), List.mem_of_getElem? (i := 178) (by decide +kernel), List.mem_of_getElem? (i := 179) (by decide +kernel)⟩
theorem lw_p9 : lw_okq (⟨"java/lang/Throwable", "fillInStackTrace", "(I)Ljava/lang/Throwable;"⟩, 6) := ⟨⟨by decide +kernel, by decide +kernel⟩, List.mem_of_getElem? (i := 262) (by decide +kernel), List.mem_of_getElem? (i := 260) (by decide +kernel), List.mem_of_getElem? (i := 261) (by decide +kernel)⟩
theorem lw_p10 : lw_okq (⟨"CreditBeams$Show", "isThere", "(III)Z"⟩, 9) := ⟨⟨by decide +kernel, by decide +kernel⟩, List.mem_of_getElem? (i := 37) (by decide +kernel), List.mem_of_getElem? (i := 324) (by decide +kernel), List.mem_of_getElem? (i := 325) (by decide +kernel)⟩
theorem lw_p11 : lw_okq (⟨"CreditBeams$Show", "endOf", "(I)I"⟩, 9) := ⟨⟨by decide +kernel, by decide +kernel⟩, List.mem_of_getElem? (i := 37) (by decide +kernel), List.mem_of_getElem? (i := 328) (by decide +kernel), List.mem_of_getElem? (i := 329) (by decide +kernel)⟩
theorem lw_p12 : lw_okq (⟨"CreditBeams", "mixWords", "(J)J"⟩, 8) := ⟨⟨by decide +kernel, by decide +kernel⟩, List.mem_of_getElem? (i := 18) (by decide +kernel), List.mem_of_getElem? (i := 352) (by decide +kernel), List.mem_of_getElem? (i := 353) (by decide +kernel)⟩
theorem lw_p13 : lw_okq (⟨"CreditBeams", "mixBeams", "(J)J"⟩, 8) := ⟨⟨by decide +kernel, by decide +kernel⟩, List.mem_of_getElem? (i := 18) (by decide +kernel), List.mem_of_getElem? (i := 395) (by decide +kernel), List.mem_of_getElem? (i := 396) (by decide +kernel)⟩
theorem lw_p14 : lw_okq (⟨"CreditBeams", "coveringBeats", "(I)I"⟩, 8) := ⟨⟨by decide +kernel, by decide +kernel⟩, List.mem_of_getElem? (i := 18) (by decide +kernel), List.mem_of_getElem? (i := 413) (by decide +kernel), List.mem_of_getElem? (i := 414) (by decide +kernel)⟩
theorem lw_p15 : lw_okq (⟨"CreditBeams$Show", "findReach", "(III)V"⟩, 9) := ⟨⟨by decide +kernel, by decide +kernel⟩, List.mem_of_getElem? (i := 37) (by decide +kernel), List.mem_of_getElem? (i := 451) (by decide +kernel), List.mem_of_getElem? (i := 452) (by decide +kernel)⟩
def lw_privs_1 : List (MethodName × Nat) := [(⟨"CreditBeams", "codeAt", "(I)I"⟩, 8), (⟨"CreditBeams$OrderReader", "startOrder", "(I)I"⟩, 6), (⟨"CreditBeams$OrderReader", "startNumber", "()V"⟩, 6), (⟨"CreditBeams$OrderReader", "takeDigit", "(I)I"⟩, 6), (⟨"CreditBeams$OrderReader", "least", "()I"⟩, 6), (⟨"CreditBeams$OrderReader", "most", "()I"⟩, 6), (⟨"CreditBeams$OrderReader", "takeMinus", "()I"⟩, 6), (⟨"CreditBeams$OrderReader", "endCode", "()I"⟩, 6), (⟨"CreditBeams$OrderReader", "endNumber", "()I"⟩, 6), (⟨"java/lang/Throwable", "fillInStackTrace", "(I)Ljava/lang/Throwable;"⟩, 6), (⟨"CreditBeams$Show", "isThere", "(III)Z"⟩, 9), (⟨"CreditBeams$Show", "endOf", "(I)I"⟩, 9), (⟨"CreditBeams", "mixWords", "(J)J"⟩, 8), (⟨"CreditBeams", "mixBeams", "(J)J"⟩, 8), (⟨"CreditBeams", "coveringBeats", "(I)I"⟩, 8), (⟨"CreditBeams$Show", "findReach", "(III)V"⟩, 9)]
theorem lw_r1 : ∀ q ∈ lw_privs_1, lw_okq q := List.forall_mem_cons.mpr ⟨lw_p0, List.forall_mem_cons.mpr ⟨lw_p1, List.forall_mem_cons.mpr ⟨lw_p2, List.forall_mem_cons.mpr ⟨lw_p3, List.forall_mem_cons.mpr ⟨lw_p4, List.forall_mem_cons.mpr ⟨lw_p5, List.forall_mem_cons.mpr ⟨lw_p6, List.forall_mem_cons.mpr ⟨lw_p7, List.forall_mem_cons.mpr ⟨lw_p8, List.forall_mem_cons.mpr ⟨lw_p9, List.forall_mem_cons.mpr ⟨lw_p10, List.forall_mem_cons.mpr ⟨lw_p11, List.forall_mem_cons.mpr ⟨lw_p12, List.forall_mem_cons.mpr ⟨lw_p13, List.forall_mem_cons.mpr ⟨lw_p14, List.forall_mem_cons.mpr ⟨lw_p15, fun _ h => absurd h List.not_mem_nil⟩⟩⟩⟩⟩⟩⟩⟩⟩⟩⟩⟩⟩⟩⟩⟩
theorem lw_p16 : lw_okq (⟨"CreditBeams$Show", "putLit", "(III)V"⟩, 9) := ⟨⟨by decide +kernel, by decide +kernel⟩, List.mem_of_getElem? (i := 37) (by decide +kernel), List.mem_of_getElem? (i := 458) (by decide +kernel), List.mem_of_getElem? (i := 459) (by decide +kernel)⟩
theorem lw_p17 : lw_okq (⟨"CreditBeams$Show", "lightInTurn", "(II)V"⟩, 9) := ⟨⟨by decide +kernel, by decide +kernel⟩, List.mem_of_getElem? (i := 37) (by decide +kernel), List.mem_of_getElem? (i := 462) (by decide +kernel), List.mem_of_getElem? (i := 463) (by decide +kernel)⟩
theorem lw_p18 : lw_okq (⟨"CreditBeams$Show", "lightTogether", "(II)V"⟩, 9) := ⟨⟨by decide +kernel, by decide +kernel⟩, List.mem_of_getElem? (i := 37) (by decide +kernel), List.mem_of_getElem? (i := 466) (by decide +kernel), List.mem_of_getElem? (i := 467) (by decide +kernel)⟩
theorem lw_p19 : lw_okq (⟨"CreditBeams$Show", "oldestReach", "(III)I"⟩, 9) := ⟨⟨by decide +kernel, by decide +kernel⟩, List.mem_of_getElem? (i := 37) (by decide +kernel), List.mem_of_getElem? (i := 474) (by decide +kernel), List.mem_of_getElem? (i := 475) (by decide +kernel)⟩
theorem lw_p20 : lw_okq (⟨"CreditBeams$Show", "lightEach", "(II)V"⟩, 9) := ⟨⟨by decide +kernel, by decide +kernel⟩, List.mem_of_getElem? (i := 37) (by decide +kernel), List.mem_of_getElem? (i := 478) (by decide +kernel), List.mem_of_getElem? (i := 479) (by decide +kernel)⟩
theorem lw_p21 : lw_okq (⟨"CreditBeams$Show", "finish", "(II)V"⟩, 9) := ⟨⟨by decide +kernel, by decide +kernel⟩, List.mem_of_getElem? (i := 37) (by decide +kernel), List.mem_of_getElem? (i := 482) (by decide +kernel), List.mem_of_getElem? (i := 483) (by decide +kernel)⟩
theorem lw_p22 : lw_okq (⟨"CreditBeams", "lettersLost", "()I"⟩, 8) := ⟨⟨by decide +kernel, by decide +kernel⟩, List.mem_of_getElem? (i := 18) (by decide +kernel), List.mem_of_getElem? (i := 489) (by decide +kernel), List.mem_of_getElem? (i := 490) (by decide +kernel)⟩
theorem lw_p23 : lw_okq (⟨"CreditBeams", "mixBeats", "(J)J"⟩, 8) := ⟨⟨by decide +kernel, by decide +kernel⟩, List.mem_of_getElem? (i := 18) (by decide +kernel), List.mem_of_getElem? (i := 493) (by decide +kernel), List.mem_of_getElem? (i := 494) (by decide +kernel)⟩
theorem lw_p24 : lw_okq (⟨"CreditBeams$Show", "seenLettersOf", "(II)I"⟩, 9) := ⟨⟨by decide +kernel, by decide +kernel⟩, List.mem_of_getElem? (i := 37) (by decide +kernel), List.mem_of_getElem? (i := 509) (by decide +kernel), List.mem_of_getElem? (i := 510) (by decide +kernel)⟩
theorem lw_p25 : lw_okq (⟨"CreditBeams", "coveringBeams", "(I)I"⟩, 8) := ⟨⟨by decide +kernel, by decide +kernel⟩, List.mem_of_getElem? (i := 18) (by decide +kernel), List.mem_of_getElem? (i := 523) (by decide +kernel), List.mem_of_getElem? (i := 524) (by decide +kernel)⟩
theorem lw_p26 : lw_okq (⟨"CreditBeams", "tryBeam", "(IIII)V"⟩, 8) := ⟨⟨by decide +kernel, by decide +kernel⟩, List.mem_of_getElem? (i := 18) (by decide +kernel), List.mem_of_getElem? (i := 535) (by decide +kernel), List.mem_of_getElem? (i := 536) (by decide +kernel)⟩
theorem lw_p27 : lw_okq (⟨"CreditBeams$Show", "noteClash", "(II)V"⟩, 9) := ⟨⟨by decide +kernel, by decide +kernel⟩, List.mem_of_getElem? (i := 37) (by decide +kernel), List.mem_of_getElem? (i := 551) (by decide +kernel), List.mem_of_getElem? (i := 552) (by decide +kernel)⟩
theorem lw_p28 : lw_okq (⟨"CreditBeams$Show", "firstClash", "(II)I"⟩, 9) := ⟨⟨by decide +kernel, by decide +kernel⟩, List.mem_of_getElem? (i := 37) (by decide +kernel), List.mem_of_getElem? (i := 555) (by decide +kernel), List.mem_of_getElem? (i := 556) (by decide +kernel)⟩
theorem lw_p29 : lw_okq (⟨"CreditBeams", "mixBuffer", "(J)J"⟩, 8) := ⟨⟨by decide +kernel, by decide +kernel⟩, List.mem_of_getElem? (i := 18) (by decide +kernel), List.mem_of_getElem? (i := 581) (by decide +kernel), List.mem_of_getElem? (i := 582) (by decide +kernel)⟩
theorem lw_p30 : lw_okq (⟨"CreditBeams", "saveState", "()V"⟩, 8) := ⟨⟨by decide +kernel, by decide +kernel⟩, List.mem_of_getElem? (i := 18) (by decide +kernel), List.mem_of_getElem? (i := 614) (by decide +kernel), List.mem_of_getElem? (i := 615) (by decide +kernel)⟩
theorem lw_p31 : lw_okq (⟨"CreditBeams$Credits", "putCell", "(II)V"⟩, 1) := ⟨⟨by decide +kernel, by decide +kernel⟩, List.mem_of_getElem? (i := 26) (by decide +kernel), List.mem_of_getElem? (i := 632) (by decide +kernel), List.mem_of_getElem? (i := 633) (by decide +kernel)⟩
def lw_privs_2 : List (MethodName × Nat) := [(⟨"CreditBeams$Show", "putLit", "(III)V"⟩, 9), (⟨"CreditBeams$Show", "lightInTurn", "(II)V"⟩, 9), (⟨"CreditBeams$Show", "lightTogether", "(II)V"⟩, 9), (⟨"CreditBeams$Show", "oldestReach", "(III)I"⟩, 9), (⟨"CreditBeams$Show", "lightEach", "(II)V"⟩, 9), (⟨"CreditBeams$Show", "finish", "(II)V"⟩, 9), (⟨"CreditBeams", "lettersLost", "()I"⟩, 8), (⟨"CreditBeams", "mixBeats", "(J)J"⟩, 8), (⟨"CreditBeams$Show", "seenLettersOf", "(II)I"⟩, 9), (⟨"CreditBeams", "coveringBeams", "(I)I"⟩, 8), (⟨"CreditBeams", "tryBeam", "(IIII)V"⟩, 8), (⟨"CreditBeams$Show", "noteClash", "(II)V"⟩, 9), (⟨"CreditBeams$Show", "firstClash", "(II)I"⟩, 9), (⟨"CreditBeams", "mixBuffer", "(J)J"⟩, 8), (⟨"CreditBeams", "saveState", "()V"⟩, 8), (⟨"CreditBeams$Credits", "putCell", "(II)V"⟩, 1)]
theorem lw_r2 : ∀ q ∈ lw_privs_2, lw_okq q := List.forall_mem_cons.mpr ⟨lw_p16, List.forall_mem_cons.mpr ⟨lw_p17, List.forall_mem_cons.mpr ⟨lw_p18, List.forall_mem_cons.mpr ⟨lw_p19, List.forall_mem_cons.mpr ⟨lw_p20, List.forall_mem_cons.mpr ⟨lw_p21, List.forall_mem_cons.mpr ⟨lw_p22, List.forall_mem_cons.mpr ⟨lw_p23, List.forall_mem_cons.mpr ⟨lw_p24, List.forall_mem_cons.mpr ⟨lw_p25, List.forall_mem_cons.mpr ⟨lw_p26, List.forall_mem_cons.mpr ⟨lw_p27, List.forall_mem_cons.mpr ⟨lw_p28, List.forall_mem_cons.mpr ⟨lw_p29, List.forall_mem_cons.mpr ⟨lw_p30, List.forall_mem_cons.mpr ⟨lw_p31, fun _ h => absurd h List.not_mem_nil⟩⟩⟩⟩⟩⟩⟩⟩⟩⟩⟩⟩⟩⟩⟩⟩
theorem lw_p32 : lw_okq (⟨"CreditBeams", "showAnew", "()V"⟩, 8) := ⟨⟨by decide +kernel, by decide +kernel⟩, List.mem_of_getElem? (i := 18) (by decide +kernel), List.mem_of_getElem? (i := 636) (by decide +kernel), List.mem_of_getElem? (i := 637) (by decide +kernel)⟩
theorem lw_p33 : lw_okq (⟨"CreditBeams$Credits", "closeGap", "(III)V"⟩, 1) := ⟨⟨by decide +kernel, by decide +kernel⟩, List.mem_of_getElem? (i := 26) (by decide +kernel), List.mem_of_getElem? (i := 669) (by decide +kernel), List.mem_of_getElem? (i := 670) (by decide +kernel)⟩
theorem lw_p34 : lw_okq (⟨"CreditBeams", "tellsCredits", "()Z"⟩, 8) := ⟨⟨by decide +kernel, by decide +kernel⟩, List.mem_of_getElem? (i := 18) (by decide +kernel), List.mem_of_getElem? (i := 738) (by decide +kernel), List.mem_of_getElem? (i := 739) (by decide +kernel)⟩
theorem lw_p35 : lw_okq (⟨"CreditBeams", "doOrders", "()I"⟩, 8) := ⟨⟨by decide +kernel, by decide +kernel⟩, List.mem_of_getElem? (i := 18) (by decide +kernel), List.mem_of_getElem? (i := 744) (by decide +kernel), List.mem_of_getElem? (i := 745) (by decide +kernel)⟩
theorem lw_p36 : lw_okq (⟨"CreditBeams", "doOrder", "()Z"⟩, 8) := ⟨⟨by decide +kernel, by decide +kernel⟩, List.mem_of_getElem? (i := 18) (by decide +kernel), List.mem_of_getElem? (i := 748) (by decide +kernel), List.mem_of_getElem? (i := 749) (by decide +kernel)⟩
theorem lw_p37 : lw_okq (⟨"CreditBeamsModel", "fails", "(I)I"⟩, 17) := ⟨⟨by decide +kernel, by decide +kernel⟩, List.mem_of_getElem? (i := 813) (by decide +kernel), List.mem_of_getElem? (i := 879) (by decide +kernel), List.mem_of_getElem? (i := 880) (by decide +kernel)⟩
theorem lw_p38 : lw_okq (⟨"CreditBeamsModel", "mayWord", "(IIII)I"⟩, 17) := ⟨⟨by decide +kernel, by decide +kernel⟩, List.mem_of_getElem? (i := 813) (by decide +kernel), List.mem_of_getElem? (i := 890) (by decide +kernel), List.mem_of_getElem? (i := 891) (by decide +kernel)⟩
theorem lw_p39 : lw_okq (⟨"CreditBeamsModel", "saves", "()V"⟩, 17) := ⟨⟨by decide +kernel, by decide +kernel⟩, List.mem_of_getElem? (i := 813) (by decide +kernel), List.mem_of_getElem? (i := 903) (by decide +kernel), List.mem_of_getElem? (i := 904) (by decide +kernel)⟩
theorem lw_p40 : lw_okq (⟨"CreditBeamsModel", "words", "(IIII)I"⟩, 17) := ⟨⟨by decide +kernel, by decide +kernel⟩, List.mem_of_getElem? (i := 813) (by decide +kernel), List.mem_of_getElem? (i := 907) (by decide +kernel), List.mem_of_getElem? (i := 908) (by decide +kernel)⟩
theorem lw_p41 : lw_okq (⟨"CreditBeamsModel", "isWord", "(I)Z"⟩, 17) := ⟨⟨by decide +kernel, by decide +kernel⟩, List.mem_of_getElem? (i := 813) (by decide +kernel), List.mem_of_getElem? (i := 915) (by decide +kernel), List.mem_of_getElem? (i := 916) (by decide +kernel)⟩
theorem lw_p42 : lw_okq (⟨"CreditBeamsModel", "changes", "(II)I"⟩, 17) := ⟨⟨by decide +kernel, by decide +kernel⟩, List.mem_of_getElem? (i := 813) (by decide +kernel), List.mem_of_getElem? (i := 919) (by decide +kernel), List.mem_of_getElem? (i := 920) (by decide +kernel)⟩
theorem lw_p43 : lw_okq (⟨"CreditBeamsModel", "mayBeam", "(IIIII)I"⟩, 17) := ⟨⟨by decide +kernel, by decide +kernel⟩, List.mem_of_getElem? (i := 813) (by decide +kernel), List.mem_of_getElem? (i := 935) (by decide +kernel), List.mem_of_getElem? (i := 936) (by decide +kernel)⟩
theorem lw_p44 : lw_okq (⟨"CreditBeamsModel", "isBeam", "(I)Z"⟩, 17) := ⟨⟨by decide +kernel, by decide +kernel⟩, List.mem_of_getElem? (i := 813) (by decide +kernel), List.mem_of_getElem? (i := 946) (by decide +kernel), List.mem_of_getElem? (i := 947) (by decide +kernel)⟩
theorem lw_p45 : lw_okq (⟨"CreditBeamsModel", "laysNow", "()V"⟩, 17) := ⟨⟨by decide +kernel, by decide +kernel⟩, List.mem_of_getElem? (i := 813) (by decide +kernel), List.mem_of_getElem? (i := 953) (by decide +kernel), List.mem_of_getElem? (i := 954) (by decide +kernel)⟩
theorem lw_p46 : lw_okq (⟨"CreditBeamsModel", "lays", "([I)V"⟩, 17) := ⟨⟨by decide +kernel, by decide +kernel⟩, List.mem_of_getElem? (i := 813) (by decide +kernel), List.mem_of_getElem? (i := 957) (by decide +kernel), List.mem_of_getElem? (i := 958) (by decide +kernel)⟩
theorem lw_p47 : lw_okq (⟨"CreditBeamsModel", "laysWord", "([II)V"⟩, 17) := ⟨⟨by decide +kernel, by decide +kernel⟩, List.mem_of_getElem? (i := 813) (by decide +kernel), List.mem_of_getElem? (i := 961) (by decide +kernel), List.mem_of_getElem? (i := 962) (by decide +kernel)⟩
def lw_privs_3 : List (MethodName × Nat) := [(⟨"CreditBeams", "showAnew", "()V"⟩, 8), (⟨"CreditBeams$Credits", "closeGap", "(III)V"⟩, 1), (⟨"CreditBeams", "tellsCredits", "()Z"⟩, 8), (⟨"CreditBeams", "doOrders", "()I"⟩, 8), (⟨"CreditBeams", "doOrder", "()Z"⟩, 8), (⟨"CreditBeamsModel", "fails", "(I)I"⟩, 17), (⟨"CreditBeamsModel", "mayWord", "(IIII)I"⟩, 17), (⟨"CreditBeamsModel", "saves", "()V"⟩, 17), (⟨"CreditBeamsModel", "words", "(IIII)I"⟩, 17), (⟨"CreditBeamsModel", "isWord", "(I)Z"⟩, 17), (⟨"CreditBeamsModel", "changes", "(II)I"⟩, 17), (⟨"CreditBeamsModel", "mayBeam", "(IIIII)I"⟩, 17), (⟨"CreditBeamsModel", "isBeam", "(I)Z"⟩, 17), (⟨"CreditBeamsModel", "laysNow", "()V"⟩, 17), (⟨"CreditBeamsModel", "lays", "([I)V"⟩, 17), (⟨"CreditBeamsModel", "laysWord", "([II)V"⟩, 17)]
theorem lw_r3 : ∀ q ∈ lw_privs_3, lw_okq q := List.forall_mem_cons.mpr ⟨lw_p32, List.forall_mem_cons.mpr ⟨lw_p33, List.forall_mem_cons.mpr ⟨lw_p34, List.forall_mem_cons.mpr ⟨lw_p35, List.forall_mem_cons.mpr ⟨lw_p36, List.forall_mem_cons.mpr ⟨lw_p37, List.forall_mem_cons.mpr ⟨lw_p38, List.forall_mem_cons.mpr ⟨lw_p39, List.forall_mem_cons.mpr ⟨lw_p40, List.forall_mem_cons.mpr ⟨lw_p41, List.forall_mem_cons.mpr ⟨lw_p42, List.forall_mem_cons.mpr ⟨lw_p43, List.forall_mem_cons.mpr ⟨lw_p44, List.forall_mem_cons.mpr ⟨lw_p45, List.forall_mem_cons.mpr ⟨lw_p46, List.forall_mem_cons.mpr ⟨lw_p47, fun _ h => absurd h List.not_mem_nil⟩⟩⟩⟩⟩⟩⟩⟩⟩⟩⟩⟩⟩⟩⟩⟩
theorem lw_p48 : lw_okq (⟨"CreditBeamsModel", "together", "([II)I"⟩, 17) := ⟨⟨by decide +kernel, by decide +kernel⟩, List.mem_of_getElem? (i := 813) (by decide +kernel), List.mem_of_getElem? (i := 968) (by decide +kernel), List.mem_of_getElem? (i := 969) (by decide +kernel)⟩
theorem lw_p49 : lw_okq (⟨"CreditBeamsModel", "allLit", "([I)I"⟩, 17) := ⟨⟨by decide +kernel, by decide +kernel⟩, List.mem_of_getElem? (i := 813) (by decide +kernel), List.mem_of_getElem? (i := 984) (by decide +kernel), List.mem_of_getElem? (i := 985) (by decide +kernel)⟩
theorem lw_p50 : lw_okq (⟨"CreditBeamsModel", "litOf", "([II)I"⟩, 17) := ⟨⟨by decide +kernel, by decide +kernel⟩, List.mem_of_getElem? (i := 813) (by decide +kernel), List.mem_of_getElem? (i := 988) (by decide +kernel), List.mem_of_getElem? (i := 989) (by decide +kernel)⟩
theorem lw_p51 : lw_okq (⟨"CreditBeamsModel", "isText", "()Z"⟩, 17) := ⟨⟨by decide +kernel, by decide +kernel⟩, List.mem_of_getElem? (i := 813) (by decide +kernel), List.mem_of_getElem? (i := 1015) (by decide +kernel), List.mem_of_getElem? (i := 1016) (by decide +kernel)⟩
theorem lw_p52 : lw_okq (⟨"CreditBeamsModel", "isOrder", "()Z"⟩, 17) := ⟨⟨by decide +kernel, by decide +kernel⟩, List.mem_of_getElem? (i := 813) (by decide +kernel), List.mem_of_getElem? (i := 1019) (by decide +kernel), List.mem_of_getElem? (i := 1020) (by decide +kernel)⟩
theorem lw_p53 : lw_okq (⟨"CreditBeamsModel", "isNumber", "(III)Z"⟩, 17) := ⟨⟨by decide +kernel, by decide +kernel⟩, List.mem_of_getElem? (i := 813) (by decide +kernel), List.mem_of_getElem? (i := 1023) (by decide +kernel), List.mem_of_getElem? (i := 1024) (by decide +kernel)⟩
theorem lw_p54 : lw_okq (⟨"CreditBeamsModel", "isAt", "(II)Z"⟩, 17) := ⟨⟨by decide +kernel, by decide +kernel⟩, List.mem_of_getElem? (i := 813) (by decide +kernel), List.mem_of_getElem? (i := 1027) (by decide +kernel), List.mem_of_getElem? (i := 1028) (by decide +kernel)⟩
theorem lw_p55 : lw_okq (⟨"CreditBeamsModel", "stops", "()Z"⟩, 17) := ⟨⟨by decide +kernel, by decide +kernel⟩, List.mem_of_getElem? (i := 813) (by decide +kernel), List.mem_of_getElem? (i := 1031) (by decide +kernel), List.mem_of_getElem? (i := 1032) (by decide +kernel)⟩
theorem lw_p56 : lw_okq (⟨"CreditBeamsModel", "isSign", "(I)Z"⟩, 17) := ⟨⟨by decide +kernel, by decide +kernel⟩, List.mem_of_getElem? (i := 813) (by decide +kernel), List.mem_of_getElem? (i := 1035) (by decide +kernel), List.mem_of_getElem? (i := 1036) (by decide +kernel)⟩
theorem lw_p57 : lw_okq (⟨"CreditBeamsModel", "isSpeed", "()Z"⟩, 17) := ⟨⟨by decide +kernel, by decide +kernel⟩, List.mem_of_getElem? (i := 813) (by decide +kernel), List.mem_of_getElem? (i := 1039) (by decide +kernel), List.mem_of_getElem? (i := 1040) (by decide +kernel)⟩
theorem lw_p58 : lw_okq (⟨"CreditBeamsModel", "does", "(I)Z"⟩, 17) := ⟨⟨by decide +kernel, by decide +kernel⟩, List.mem_of_getElem? (i := 813) (by decide +kernel), List.mem_of_getElem? (i := 1047) (by decide +kernel), List.mem_of_getElem? (i := 1048) (by decide +kernel)⟩
theorem lw_p59 : lw_okq (⟨"CreditBeamsModel", "ofWord", "(II)I"⟩, 17) := ⟨⟨by decide +kernel, by decide +kernel⟩, List.mem_of_getElem? (i := 813) (by decide +kernel), List.mem_of_getElem? (i := 1055) (by decide +kernel), List.mem_of_getElem? (i := 1056) (by decide +kernel)⟩
theorem lw_p60 : lw_okq (⟨"CreditBeamsModel", "firstLit", "(I)I"⟩, 17) := ⟨⟨by decide +kernel, by decide +kernel⟩, List.mem_of_getElem? (i := 813) (by decide +kernel), List.mem_of_getElem? (i := 1059) (by decide +kernel), List.mem_of_getElem? (i := 1060) (by decide +kernel)⟩
theorem lw_p61 : lw_okq (⟨"CreditBeamsModel", "ofBeam", "(II)I"⟩, 17) := ⟨⟨by decide +kernel, by decide +kernel⟩, List.mem_of_getElem? (i := 813) (by decide +kernel), List.mem_of_getElem? (i := 1071) (by decide +kernel), List.mem_of_getElem? (i := 1072) (by decide +kernel)⟩
theorem lw_p62 : lw_okq (⟨"CreditBeamsModel", "inBeat", "(II)I"⟩, 17) := ⟨⟨by decide +kernel, by decide +kernel⟩, List.mem_of_getElem? (i := 813) (by decide +kernel), List.mem_of_getElem? (i := 1082) (by decide +kernel), List.mem_of_getElem? (i := 1083) (by decide +kernel)⟩
theorem lw_p63 : lw_okq (⟨"CreditBeamsModel", "seenOf", "(II)I"⟩, 17) := ⟨⟨by decide +kernel, by decide +kernel⟩, List.mem_of_getElem? (i := 813) (by decide +kernel), List.mem_of_getElem? (i := 1086) (by decide +kernel), List.mem_of_getElem? (i := 1087) (by decide +kernel)⟩
def lw_privs_4 : List (MethodName × Nat) := [(⟨"CreditBeamsModel", "together", "([II)I"⟩, 17), (⟨"CreditBeamsModel", "allLit", "([I)I"⟩, 17), (⟨"CreditBeamsModel", "litOf", "([II)I"⟩, 17), (⟨"CreditBeamsModel", "isText", "()Z"⟩, 17), (⟨"CreditBeamsModel", "isOrder", "()Z"⟩, 17), (⟨"CreditBeamsModel", "isNumber", "(III)Z"⟩, 17), (⟨"CreditBeamsModel", "isAt", "(II)Z"⟩, 17), (⟨"CreditBeamsModel", "stops", "()Z"⟩, 17), (⟨"CreditBeamsModel", "isSign", "(I)Z"⟩, 17), (⟨"CreditBeamsModel", "isSpeed", "()Z"⟩, 17), (⟨"CreditBeamsModel", "does", "(I)Z"⟩, 17), (⟨"CreditBeamsModel", "ofWord", "(II)I"⟩, 17), (⟨"CreditBeamsModel", "firstLit", "(I)I"⟩, 17), (⟨"CreditBeamsModel", "ofBeam", "(II)I"⟩, 17), (⟨"CreditBeamsModel", "inBeat", "(II)I"⟩, 17), (⟨"CreditBeamsModel", "seenOf", "(II)I"⟩, 17)]
theorem lw_r4 : ∀ q ∈ lw_privs_4, lw_okq q := List.forall_mem_cons.mpr ⟨lw_p48, List.forall_mem_cons.mpr ⟨lw_p49, List.forall_mem_cons.mpr ⟨lw_p50, List.forall_mem_cons.mpr ⟨lw_p51, List.forall_mem_cons.mpr ⟨lw_p52, List.forall_mem_cons.mpr ⟨lw_p53, List.forall_mem_cons.mpr ⟨lw_p54, List.forall_mem_cons.mpr ⟨lw_p55, List.forall_mem_cons.mpr ⟨lw_p56, List.forall_mem_cons.mpr ⟨lw_p57, List.forall_mem_cons.mpr ⟨lw_p58, List.forall_mem_cons.mpr ⟨lw_p59, List.forall_mem_cons.mpr ⟨lw_p60, List.forall_mem_cons.mpr ⟨lw_p61, List.forall_mem_cons.mpr ⟨lw_p62, List.forall_mem_cons.mpr ⟨lw_p63, fun _ h => absurd h List.not_mem_nil⟩⟩⟩⟩⟩⟩⟩⟩⟩⟩⟩⟩⟩⟩⟩⟩
theorem lw_p64 : lw_okq (⟨"CreditBeamsModel", "isSeen", "(III)Z"⟩, 17) := ⟨⟨by decide +kernel, by decide +kernel⟩, List.mem_of_getElem? (i := 813) (by decide +kernel), List.mem_of_getElem? (i := 1090) (by decide +kernel), List.mem_of_getElem? (i := 1091) (by decide +kernel)⟩
theorem lw_p65 : lw_okq (⟨"CreditBeamsModel", "clashes", "([II)I"⟩, 17) := ⟨⟨by decide +kernel, by decide +kernel⟩, List.mem_of_getElem? (i := 813) (by decide +kernel), List.mem_of_getElem? (i := 1094) (by decide +kernel), List.mem_of_getElem? (i := 1095) (by decide +kernel)⟩
theorem lw_p66 : lw_okq (⟨"CreditBeamsModel", "clash", "([IIII)Z"⟩, 17) := ⟨⟨by decide +kernel, by decide +kernel⟩, List.mem_of_getElem? (i := 813) (by decide +kernel), List.mem_of_getElem? (i := 1098) (by decide +kernel), List.mem_of_getElem? (i := 1099) (by decide +kernel)⟩
theorem lw_p67 : lw_okq (⟨"CreditBeamsModel", "seenAt", "(III)I"⟩, 17) := ⟨⟨by decide +kernel, by decide +kernel⟩, List.mem_of_getElem? (i := 813) (by decide +kernel), List.mem_of_getElem? (i := 1109) (by decide +kernel), List.mem_of_getElem? (i := 1110) (by decide +kernel)⟩
theorem lw_p68 : lw_okq (⟨"CreditBeamsModel", "counted", "(I)I"⟩, 17) := ⟨⟨by decide +kernel, by decide +kernel⟩, List.mem_of_getElem? (i := 813) (by decide +kernel), List.mem_of_getElem? (i := 1117) (by decide +kernel), List.mem_of_getElem? (i := 1118) (by decide +kernel)⟩
theorem lw_p69 : lw_okq (⟨"CreditBeamsModel", "wholes", "([I)I"⟩, 17) := ⟨⟨by decide +kernel, by decide +kernel⟩, List.mem_of_getElem? (i := 813) (by decide +kernel), List.mem_of_getElem? (i := 1124) (by decide +kernel), List.mem_of_getElem? (i := 1125) (by decide +kernel)⟩
theorem lw_p70 : lw_okq (⟨"CreditBeamsModel", "lastWhole", "()I"⟩, 17) := ⟨⟨by decide +kernel, by decide +kernel⟩, List.mem_of_getElem? (i := 813) (by decide +kernel), List.mem_of_getElem? (i := 1128) (by decide +kernel), List.mem_of_getElem? (i := 1129) (by decide +kernel)⟩
theorem lw_p71 : lw_okq (⟨"CreditBeamsModel", "dark", "()I"⟩, 17) := ⟨⟨by decide +kernel, by decide +kernel⟩, List.mem_of_getElem? (i := 813) (by decide +kernel), List.mem_of_getElem? (i := 1132) (by decide +kernel), List.mem_of_getElem? (i := 1133) (by decide +kernel)⟩
theorem lw_p72 : lw_okq (⟨"CreditBeamsModel", "clashing", "([I)I"⟩, 17) := ⟨⟨by decide +kernel, by decide +kernel⟩, List.mem_of_getElem? (i := 813) (by decide +kernel), List.mem_of_getElem? (i := 1136) (by decide +kernel), List.mem_of_getElem? (i := 1137) (by decide +kernel)⟩
theorem lw_p73 : lw_okq (⟨"CreditBeamsModel", "pairs", "()I"⟩, 17) := ⟨⟨by decide +kernel, by decide +kernel⟩, List.mem_of_getElem? (i := 813) (by decide +kernel), List.mem_of_getElem? (i := 1140) (by decide +kernel), List.mem_of_getElem? (i := 1141) (by decide +kernel)⟩
theorem lw_p74 : lw_okq (⟨"CreditBeamsModel", "everClash", "([III)Z"⟩, 17) := ⟨⟨by decide +kernel, by decide +kernel⟩, List.mem_of_getElem? (i := 813) (by decide +kernel), List.mem_of_getElem? (i := 1144) (by decide +kernel), List.mem_of_getElem? (i := 1145) (by decide +kernel)⟩
theorem lw_p75 : lw_okq (⟨"CreditBeamsModel", "byBeam", "(IIIII)I"⟩, 17) := ⟨⟨by decide +kernel, by decide +kernel⟩, List.mem_of_getElem? (i := 813) (by decide +kernel), List.mem_of_getElem? (i := 1152) (by decide +kernel), List.mem_of_getElem? (i := 1153) (by decide +kernel)⟩
theorem lw_p76 : lw_okq (⟨"CreditBeamsModel", "tries", "(IIII)V"⟩, 17) := ⟨⟨by decide +kernel, by decide +kernel⟩, List.mem_of_getElem? (i := 813) (by decide +kernel), List.mem_of_getElem? (i := 1156) (by decide +kernel), List.mem_of_getElem? (i := 1157) (by decide +kernel)⟩
theorem lw_p77 : lw_okq (⟨"CreditBeamsModel", "best", "(II)I"⟩, 17) := ⟨⟨by decide +kernel, by decide +kernel⟩, List.mem_of_getElem? (i := 813) (by decide +kernel), List.mem_of_getElem? (i := 1164) (by decide +kernel), List.mem_of_getElem? (i := 1165) (by decide +kernel)⟩
theorem lw_p78 : lw_okq (⟨"CreditBeamsModel", "clear", "(I)I"⟩, 17) := ⟨⟨by decide +kernel, by decide +kernel⟩, List.mem_of_getElem? (i := 813) (by decide +kernel), List.mem_of_getElem? (i := 1172) (by decide +kernel), List.mem_of_getElem? (i := 1173) (by decide +kernel)⟩
theorem lw_p79 : lw_okq (⟨"CreditBeamsModel", "isClear", "([II)Z"⟩, 17) := ⟨⟨by decide +kernel, by decide +kernel⟩, List.mem_of_getElem? (i := 813) (by decide +kernel), List.mem_of_getElem? (i := 1176) (by decide +kernel), List.mem_of_getElem? (i := 1177) (by decide +kernel)⟩
def lw_privs_5 : List (MethodName × Nat) := [(⟨"CreditBeamsModel", "isSeen", "(III)Z"⟩, 17), (⟨"CreditBeamsModel", "clashes", "([II)I"⟩, 17), (⟨"CreditBeamsModel", "clash", "([IIII)Z"⟩, 17), (⟨"CreditBeamsModel", "seenAt", "(III)I"⟩, 17), (⟨"CreditBeamsModel", "counted", "(I)I"⟩, 17), (⟨"CreditBeamsModel", "wholes", "([I)I"⟩, 17), (⟨"CreditBeamsModel", "lastWhole", "()I"⟩, 17), (⟨"CreditBeamsModel", "dark", "()I"⟩, 17), (⟨"CreditBeamsModel", "clashing", "([I)I"⟩, 17), (⟨"CreditBeamsModel", "pairs", "()I"⟩, 17), (⟨"CreditBeamsModel", "everClash", "([III)Z"⟩, 17), (⟨"CreditBeamsModel", "byBeam", "(IIIII)I"⟩, 17), (⟨"CreditBeamsModel", "tries", "(IIII)V"⟩, 17), (⟨"CreditBeamsModel", "best", "(II)I"⟩, 17), (⟨"CreditBeamsModel", "clear", "(I)I"⟩, 17), (⟨"CreditBeamsModel", "isClear", "([II)Z"⟩, 17)]
theorem lw_r5 : ∀ q ∈ lw_privs_5, lw_okq q := List.forall_mem_cons.mpr ⟨lw_p64, List.forall_mem_cons.mpr ⟨lw_p65, List.forall_mem_cons.mpr ⟨lw_p66, List.forall_mem_cons.mpr ⟨lw_p67, List.forall_mem_cons.mpr ⟨lw_p68, List.forall_mem_cons.mpr ⟨lw_p69, List.forall_mem_cons.mpr ⟨lw_p70, List.forall_mem_cons.mpr ⟨lw_p71, List.forall_mem_cons.mpr ⟨lw_p72, List.forall_mem_cons.mpr ⟨lw_p73, List.forall_mem_cons.mpr ⟨lw_p74, List.forall_mem_cons.mpr ⟨lw_p75, List.forall_mem_cons.mpr ⟨lw_p76, List.forall_mem_cons.mpr ⟨lw_p77, List.forall_mem_cons.mpr ⟨lw_p78, List.forall_mem_cons.mpr ⟨lw_p79, fun _ h => absurd h List.not_mem_nil⟩⟩⟩⟩⟩⟩⟩⟩⟩⟩⟩⟩⟩⟩⟩⟩
theorem lw_p80 : lw_okq (⟨"CreditBeamsModel", "share", "()D"⟩, 17) := ⟨⟨by decide +kernel, by decide +kernel⟩, List.mem_of_getElem? (i := 813) (by decide +kernel), List.mem_of_getElem? (i := 1184) (by decide +kernel), List.mem_of_getElem? (i := 1185) (by decide +kernel)⟩
def lw_privs_6 : List (MethodName × Nat) := [(⟨"CreditBeamsModel", "share", "()D"⟩, 17)]
theorem lw_r6 : ∀ q ∈ lw_privs_6, lw_okq q := List.forall_mem_cons.mpr ⟨lw_p80, fun _ h => absurd h List.not_mem_nil⟩
def lw_privs : List (MethodName × Nat) := lw_privs_1 ++ (lw_privs_2 ++ (lw_privs_3 ++ (lw_privs_4 ++ (lw_privs_5 ++ (lw_privs_6)))))
def lw_tbl : List Cond := k2_sels lw_privs ++ tables_1
theorem lw_privs_ok : ∀ q ∈ lw_privs, lw_okq q := by
  show ∀ q ∈ lw_privs_1 ++ (lw_privs_2 ++ (lw_privs_3 ++ (lw_privs_4 ++ (lw_privs_5 ++ (lw_privs_6))))), lw_okq q
  exact List.forall_mem_append.mpr ⟨lw_r1, List.forall_mem_append.mpr ⟨lw_r2, List.forall_mem_append.mpr ⟨lw_r3, List.forall_mem_append.mpr ⟨lw_r4, List.forall_mem_append.mpr ⟨lw_r5, lw_r6⟩⟩⟩⟩⟩
/-- the streams that the claim lets the run draw from -/
abbrev lw_cs : List Choice := [Jvm.Choice.named "NaN.bits"]
theorem lw_bits : nanBits ∈ lw_cs := by first | decide | exact List.mem_cons_self | simp [lw_cs, nanBits]

def RX0 : String := "CreditBeams$Credits"
def TX0 : u_T := fun k => match k with
  | _ => ("CreditBeams$Credits", "cells", "[I", true)
def tyX0 : Nat → FieldType := fun k => match k with
  | _ => .array .int
theorem nmX0 : ∀ a, a < 1 → ∀ b, b < 1 → a ≠ b → (TX0 a).2.1 ≠ (TX0 b).2.1 := by decide +kernel
theorem tyX0_ok : ∀ k, k < 1 → parseFieldDescriptor (TX0 k).2.2.1 = some (tyX0 k) := by decide +kernel
abbrev cX0_init : ByteArray := prog_2_method_1_code
def yX0_init : MethodName := ⟨RX0, "<init>", "()V"⟩
abbrev cX0_copyTo : ByteArray := prog_2_method_2_code
def yX0_copyTo : MethodName := ⟨RX0, "copyTo", "([II)V"⟩
abbrev cX0_copyFrom : ByteArray := prog_2_method_3_code
def yX0_copyFrom : MethodName := ⟨RX0, "copyFrom", "([II)V"⟩
abbrev cX0_putCell : ByteArray := prog_2_method_4_code
def yX0_putCell : MethodName := ⟨RX0, "putCell", "(II)V"⟩
abbrev cX0_closeGap : ByteArray := prog_2_method_5_code
def yX0_closeGap : MethodName := ⟨RX0, "closeGap", "(III)V"⟩
abbrev cX0_words : ByteArray := prog_2_method_6_code
def yX0_words : MethodName := ⟨RX0, "words", "()I"⟩
abbrev cX0_hasWord : ByteArray := prog_2_method_7_code
def yX0_hasWord : MethodName := ⟨RX0, "hasWord", "(I)Z"⟩
abbrev cX0_ofWord : ByteArray := prog_2_method_8_code
def yX0_ofWord : MethodName := ⟨RX0, "ofWord", "(II)I"⟩
abbrev cX0_putWord : ByteArray := prog_2_method_9_code
def yX0_putWord : MethodName := ⟨RX0, "putWord", "(III)V"⟩
abbrev cX0_addWord : ByteArray := prog_2_method_10_code
def yX0_addWord : MethodName := ⟨RX0, "addWord", "(IIII)I"⟩
abbrev cX0_dropWord : ByteArray := prog_2_method_11_code
def yX0_dropWord : MethodName := ⟨RX0, "dropWord", "(I)V"⟩
abbrev cX0_beams : ByteArray := prog_2_method_12_code
def yX0_beams : MethodName := ⟨RX0, "beams", "()I"⟩
abbrev cX0_hasBeam : ByteArray := prog_2_method_13_code
def yX0_hasBeam : MethodName := ⟨RX0, "hasBeam", "(I)Z"⟩
abbrev cX0_ofBeam : ByteArray := prog_2_method_14_code
def yX0_ofBeam : MethodName := ⟨RX0, "ofBeam", "(II)I"⟩
abbrev cX0_putBeam : ByteArray := prog_2_method_15_code
def yX0_putBeam : MethodName := ⟨RX0, "putBeam", "(III)V"⟩
abbrev cX0_addBeam : ByteArray := prog_2_method_16_code
def yX0_addBeam : MethodName := ⟨RX0, "addBeam", "(IIIII)I"⟩
abbrev cX0_dropBeam : ByteArray := prog_2_method_17_code
def yX0_dropBeam : MethodName := ⟨RX0, "dropBeam", "(I)V"⟩
abbrev cX0_setting : ByteArray := prog_2_method_18_code
def yX0_setting : MethodName := ⟨RX0, "setting", "(I)I"⟩
abbrev cX0_putSetting : ByteArray := prog_2_method_19_code
def yX0_putSetting : MethodName := ⟨RX0, "putSetting", "(II)V"⟩
abbrev cX0_letters : ByteArray := prog_2_method_20_code
def yX0_letters : MethodName := ⟨RX0, "letters", "()I"⟩
abbrev cX0_coveredBy : ByteArray := prog_2_method_21_code
def yX0_coveredBy : MethodName := ⟨RX0, "coveredBy", "(II)J"⟩
abbrev cX0_columnBits : ByteArray := prog_2_method_22_code
def yX0_columnBits : MethodName := ⟨RX0, "columnBits", "(II)J"⟩
def RX1 : String := "CreditBeams$OrderReader"
def TX1 : u_T := fun k => match k with
  | 0 => ("CreditBeams$OrderReader", "numbers", "[I", true)
  | 1 => ("CreditBeams$OrderReader", "kind", "I", false)
  | 2 => ("CreditBeams$OrderReader", "inOrder", "Z", false)
  | 3 => ("CreditBeams$OrderReader", "place", "I", false)
  | 4 => ("CreditBeams$OrderReader", "value", "I", false)
  | _ => ("CreditBeams$OrderReader", "minus", "Z", false)
def tyX1 : Nat → FieldType := fun k => match k with
  | 0 => .array .int
  | 1 => .int
  | 2 => .boolean
  | 3 => .int
  | 4 => .int
  | _ => .boolean
theorem nmX1 : ∀ a, a < 6 → ∀ b, b < 6 → a ≠ b → (TX1 a).2.1 ≠ (TX1 b).2.1 := by decide +kernel
theorem tyX1_ok : ∀ k, k < 6 → parseFieldDescriptor (TX1 k).2.2.1 = some (tyX1 k) := by decide +kernel
abbrev cX1_init : ByteArray := prog_3_method_1_code
def yX1_init : MethodName := ⟨RX1, "<init>", "()V"⟩
abbrev cX1_start : ByteArray := prog_3_method_2_code
def yX1_start : MethodName := ⟨RX1, "start", "()V"⟩
abbrev cX1_tellsWord : ByteArray := prog_3_method_3_code
def yX1_tellsWord : MethodName := ⟨RX1, "tellsWord", "()Z"⟩
abbrev cX1_number : ByteArray := prog_3_method_4_code
def yX1_number : MethodName := ⟨RX1, "number", "(I)I"⟩
abbrev cX1_feed : ByteArray := prog_3_method_5_code
def yX1_feed : MethodName := ⟨RX1, "feed", "(I)I"⟩
abbrev cX1_startOrder : ByteArray := prog_3_method_6_code
def yX1_startOrder : MethodName := ⟨RX1, "startOrder", "(I)I"⟩
abbrev cX1_startNumber : ByteArray := prog_3_method_7_code
def yX1_startNumber : MethodName := ⟨RX1, "startNumber", "()V"⟩
abbrev cX1_takeDigit : ByteArray := prog_3_method_8_code
def yX1_takeDigit : MethodName := ⟨RX1, "takeDigit", "(I)I"⟩
abbrev cX1_takeMinus : ByteArray := prog_3_method_9_code
def yX1_takeMinus : MethodName := ⟨RX1, "takeMinus", "()I"⟩
abbrev cX1_endNumber : ByteArray := prog_3_method_10_code
def yX1_endNumber : MethodName := ⟨RX1, "endNumber", "()I"⟩
abbrev cX1_least : ByteArray := prog_3_method_11_code
def yX1_least : MethodName := ⟨RX1, "least", "()I"⟩
abbrev cX1_most : ByteArray := prog_3_method_12_code
def yX1_most : MethodName := ⟨RX1, "most", "()I"⟩
abbrev cX1_endCode : ByteArray := prog_3_method_13_code
def yX1_endCode : MethodName := ⟨RX1, "endCode", "()I"⟩
def RX2 : String := "CreditBeams$Show"
def TX2 : u_T := fun k => match k with
  | 0 => ("CreditBeams$Show", "credits", "LCreditBeams$Credits;", true)
  | 1 => ("CreditBeams$Show", "light", "[J", true)
  | 2 => ("CreditBeams$Show", "lit", "[I", true)
  | 3 => ("CreditBeams$Show", "whole", "[I", true)
  | 4 => ("CreditBeams$Show", "ends", "[I", true)
  | 5 => ("CreditBeams$Show", "clashes", "[I", true)
  | 6 => ("CreditBeams$Show", "clashPairs", "I", false)
  | 7 => ("CreditBeams$Show", "reach", "[I", true)
  | _ => ("CreditBeams$Show", "latest", "[I", true)
def tyX2 : Nat → FieldType := fun k => match k with
  | 0 => .object "CreditBeams$Credits"
  | 1 => .array .long
  | 2 => .array .int
  | 3 => .array .int
  | 4 => .array .int
  | 5 => .array .int
  | 6 => .int
  | 7 => .array .int
  | _ => .array .int
theorem nmX2 : ∀ a, a < 9 → ∀ b, b < 9 → a ≠ b → (TX2 a).2.1 ≠ (TX2 b).2.1 := by decide +kernel
theorem tyX2_ok : ∀ k, k < 9 → parseFieldDescriptor (TX2 k).2.2.1 = some (tyX2 k) := by decide +kernel
abbrev cX2_init : ByteArray := prog_4_method_1_code
def yX2_init : MethodName := ⟨RX2, "<init>", "(LCreditBeams$Credits;)V"⟩
abbrev cX2_takeLight : ByteArray := prog_4_method_2_code
def yX2_takeLight : MethodName := ⟨RX2, "takeLight", "(LCreditBeams$Show;)V"⟩
abbrev cX2_shineAllBut : ByteArray := prog_4_method_3_code
def yX2_shineAllBut : MethodName := ⟨RX2, "shineAllBut", "(I)V"⟩
abbrev cX2_shine : ByteArray := prog_4_method_4_code
def yX2_shine : MethodName := ⟨RX2, "shine", "(IIIII)V"⟩
abbrev cX2_findReach : ByteArray := prog_4_method_5_code
def yX2_findReach : MethodName := ⟨RX2, "findReach", "(III)V"⟩
abbrev cX2_allOf : ByteArray := prog_4_method_6_code
def yX2_allOf : MethodName := ⟨RX2, "allOf", "(I)I"⟩
abbrev cX2_settleAll : ByteArray := prog_4_method_7_code
def yX2_settleAll : MethodName := ⟨RX2, "settleAll", "()V"⟩
abbrev cX2_settle : ByteArray := prog_4_method_8_code
def yX2_settle : MethodName := ⟨RX2, "settle", "(II)V"⟩
abbrev cX2_lightEach : ByteArray := prog_4_method_9_code
def yX2_lightEach : MethodName := ⟨RX2, "lightEach", "(II)V"⟩
abbrev cX2_lightInTurn : ByteArray := prog_4_method_10_code
def yX2_lightInTurn : MethodName := ⟨RX2, "lightInTurn", "(II)V"⟩
abbrev cX2_lightTogether : ByteArray := prog_4_method_11_code
def yX2_lightTogether : MethodName := ⟨RX2, "lightTogether", "(II)V"⟩
abbrev cX2_oldestReach : ByteArray := prog_4_method_12_code
def yX2_oldestReach : MethodName := ⟨RX2, "oldestReach", "(III)I"⟩
abbrev cX2_putLit : ByteArray := prog_4_method_13_code
def yX2_putLit : MethodName := ⟨RX2, "putLit", "(III)V"⟩
abbrev cX2_finish : ByteArray := prog_4_method_14_code
def yX2_finish : MethodName := ⟨RX2, "finish", "(II)V"⟩
abbrev cX2_nextBar : ByteArray := prog_4_method_15_code
def yX2_nextBar : MethodName := ⟨RX2, "nextBar", "(II)I"⟩
abbrev cX2_litBeat : ByteArray := prog_4_method_16_code
def yX2_litBeat : MethodName := ⟨RX2, "litBeat", "(II)I"⟩
abbrev cX2_wholeFrom : ByteArray := prog_4_method_17_code
def yX2_wholeFrom : MethodName := ⟨RX2, "wholeFrom", "(I)I"⟩
abbrev cX2_endOf : ByteArray := prog_4_method_18_code
def yX2_endOf : MethodName := ⟨RX2, "endOf", "(I)I"⟩
abbrev cX2_goesAt : ByteArray := prog_4_method_19_code
def yX2_goesAt : MethodName := ⟨RX2, "goesAt", "(I)I"⟩
abbrev cX2_firstLit : ByteArray := prog_4_method_20_code
def yX2_firstLit : MethodName := ⟨RX2, "firstLit", "(I)I"⟩
abbrev cX2_litLettersOf : ByteArray := prog_4_method_21_code
def yX2_litLettersOf : MethodName := ⟨RX2, "litLettersOf", "(I)I"⟩
abbrev cX2_litLetters : ByteArray := prog_4_method_22_code
def yX2_litLetters : MethodName := ⟨RX2, "litLetters", "()I"⟩
abbrev cX2_wholeWords : ByteArray := prog_4_method_23_code
def yX2_wholeWords : MethodName := ⟨RX2, "wholeWords", "()I"⟩
abbrev cX2_lastWhole : ByteArray := prog_4_method_24_code
def yX2_lastWhole : MethodName := ⟨RX2, "lastWhole", "()I"⟩
abbrev cX2_isSeen : ByteArray := prog_4_method_25_code
def yX2_isSeen : MethodName := ⟨RX2, "isSeen", "(III)Z"⟩
abbrev cX2_isThere : ByteArray := prog_4_method_26_code
def yX2_isThere : MethodName := ⟨RX2, "isThere", "(III)Z"⟩
abbrev cX2_seenLettersOf : ByteArray := prog_4_method_27_code
def yX2_seenLettersOf : MethodName := ⟨RX2, "seenLettersOf", "(II)I"⟩
abbrev cX2_seenLetters : ByteArray := prog_4_method_28_code
def yX2_seenLetters : MethodName := ⟨RX2, "seenLetters", "(I)I"⟩
abbrev cX2_seenWords : ByteArray := prog_4_method_29_code
def yX2_seenWords : MethodName := ⟨RX2, "seenWords", "(I)I"⟩
abbrev cX2_standingWords : ByteArray := prog_4_method_30_code
def yX2_standingWords : MethodName := ⟨RX2, "standingWords", "(I)I"⟩
abbrev cX2_emptyBeats : ByteArray := prog_4_method_31_code
def yX2_emptyBeats : MethodName := ⟨RX2, "emptyBeats", "()I"⟩
abbrev cX2_findClashes : ByteArray := prog_4_method_32_code
def yX2_findClashes : MethodName := ⟨RX2, "findClashes", "()V"⟩
abbrev cX2_noteClash : ByteArray := prog_4_method_33_code
def yX2_noteClash : MethodName := ⟨RX2, "noteClash", "(II)V"⟩
abbrev cX2_firstClash : ByteArray := prog_4_method_34_code
def yX2_firstClash : MethodName := ⟨RX2, "firstClash", "(II)I"⟩
abbrev cX2_clashesWithAny : ByteArray := prog_4_method_35_code
def yX2_clashesWithAny : MethodName := ⟨RX2, "clashesWithAny", "(I)Z"⟩
abbrev cX2_clashesIn : ByteArray := prog_4_method_36_code
def yX2_clashesIn : MethodName := ⟨RX2, "clashesIn", "(I)I"⟩
abbrev cX2_clashBeats : ByteArray := prog_4_method_37_code
def yX2_clashBeats : MethodName := ⟨RX2, "clashBeats", "()I"⟩
abbrev cX2_clashPairs : ByteArray := prog_4_method_38_code
def yX2_clashPairs : MethodName := ⟨RX2, "clashPairs", "()I"⟩
def RX3 : String := "CreditBeams"
def TX3 : u_T := fun k => match k with
  | 0 => ("CreditBeams", "credits", "LCreditBeams$Credits;", true)
  | 1 => ("CreditBeams", "shown", "LCreditBeams$Show;", true)
  | 2 => ("CreditBeams", "trial", "LCreditBeams$Show;", true)
  | 3 => ("CreditBeams", "reader", "LCreditBeams$OrderReader;", true)
  | 4 => ("CreditBeams", "saved", "[I", true)
  | 5 => ("CreditBeams", "savedCount", "I", false)
  | 6 => ("CreditBeams", "buffer", "[I", true)
  | _ => ("CreditBeams", "bufferLength", "I", false)
def tyX3 : Nat → FieldType := fun k => match k with
  | 0 => .object "CreditBeams$Credits"
  | 1 => .object "CreditBeams$Show"
  | 2 => .object "CreditBeams$Show"
  | 3 => .object "CreditBeams$OrderReader"
  | 4 => .array .int
  | 5 => .int
  | 6 => .array .int
  | _ => .int
theorem nmX3 : ∀ a, a < 8 → ∀ b, b < 8 → a ≠ b → (TX3 a).2.1 ≠ (TX3 b).2.1 := by decide +kernel
theorem tyX3_ok : ∀ k, k < 8 → parseFieldDescriptor (TX3 k).2.2.1 = some (tyX3 k) := by decide +kernel
abbrev cX3_init : ByteArray := prog_1_method_1_code
def yX3_init : MethodName := ⟨RX3, "<init>", "()V"⟩
abbrev cX3_word : ByteArray := prog_1_method_2_code
def yX3_word : MethodName := ⟨RX3, "word", "(IIII)I"⟩
abbrev cX3_rule : ByteArray := prog_1_method_3_code
def yX3_rule : MethodName := ⟨RX3, "rule", "(III)I"⟩
abbrev cX3_cue : ByteArray := prog_1_method_4_code
def yX3_cue : MethodName := ⟨RX3, "cue", "(II)I"⟩
abbrev cX3_removeWord : ByteArray := prog_1_method_5_code
def yX3_removeWord : MethodName := ⟨RX3, "removeWord", "(I)I"⟩
abbrev cX3_beam : ByteArray := prog_1_method_6_code
def yX3_beam : MethodName := ⟨RX3, "beam", "(IIIII)I"⟩
abbrev cX3_turn : ByteArray := prog_1_method_7_code
def yX3_turn : MethodName := ⟨RX3, "turn", "(I)I"⟩
abbrev cX3_removeBeam : ByteArray := prog_1_method_8_code
def yX3_removeBeam : MethodName := ⟨RX3, "removeBeam", "(I)I"⟩
abbrev cX3_set : ByteArray := prog_1_method_9_code
def yX3_set : MethodName := ⟨RX3, "set", "(II)I"⟩
abbrev cX3_append : ByteArray := prog_1_method_10_code
def yX3_append : MethodName := ⟨RX3, "append", "(I)I"⟩
abbrev cX3_clearBuffer : ByteArray := prog_1_method_11_code
def yX3_clearBuffer : MethodName := ⟨RX3, "clearBuffer", "()I"⟩
abbrev cX3_firstError : ByteArray := prog_1_method_12_code
def yX3_firstError : MethodName := ⟨RX3, "firstError", "()I"⟩
abbrev cX3_read : ByteArray := prog_1_method_13_code
def yX3_read : MethodName := ⟨RX3, "read", "()I"⟩
abbrev cX3_undo : ByteArray := prog_1_method_14_code
def yX3_undo : MethodName := ⟨RX3, "undo", "()I"⟩
abbrev cX3_wordOf : ByteArray := prog_1_method_15_code
def yX3_wordOf : MethodName := ⟨RX3, "wordOf", "(II)I"⟩
abbrev cX3_litAt : ByteArray := prog_1_method_16_code
def yX3_litAt : MethodName := ⟨RX3, "litAt", "(II)I"⟩
abbrev cX3_beamOf : ByteArray := prog_1_method_17_code
def yX3_beamOf : MethodName := ⟨RX3, "beamOf", "(II)I"⟩
abbrev cX3_beat : ByteArray := prog_1_method_18_code
def yX3_beat : MethodName := ⟨RX3, "beat", "(II)I"⟩
abbrev cX3_seen : ByteArray := prog_1_method_19_code
def yX3_seen : MethodName := ⟨RX3, "seen", "(III)I"⟩
abbrev cX3_count : ByteArray := prog_1_method_20_code
def yX3_count : MethodName := ⟨RX3, "count", "(I)I"⟩
abbrev cX3_ifBeam : ByteArray := prog_1_method_21_code
def yX3_ifBeam : MethodName := ⟨RX3, "ifBeam", "(IIIII)I"⟩
abbrev cX3_bestSpeed : ByteArray := prog_1_method_22_code
def yX3_bestSpeed : MethodName := ⟨RX3, "bestSpeed", "(II)I"⟩
abbrev cX3_clearCue : ByteArray := prog_1_method_23_code
def yX3_clearCue : MethodName := ⟨RX3, "clearCue", "(I)I"⟩
abbrev cX3_litShare : ByteArray := prog_1_method_24_code
def yX3_litShare : MethodName := ⟨RX3, "litShare", "()D"⟩
abbrev cX3_digest : ByteArray := prog_1_method_25_code
def yX3_digest : MethodName := ⟨RX3, "digest", "()J"⟩
abbrev cX3_within : ByteArray := prog_1_method_26_code
def yX3_within : MethodName := ⟨RX3, "within", "(III)Z"⟩
abbrev cX3_isBeat : ByteArray := prog_1_method_27_code
def yX3_isBeat : MethodName := ⟨RX3, "isBeat", "(I)Z"⟩
abbrev cX3_isWord : ByteArray := prog_1_method_28_code
def yX3_isWord : MethodName := ⟨RX3, "isWord", "(IIII)Z"⟩
abbrev cX3_isBeam : ByteArray := prog_1_method_29_code
def yX3_isBeam : MethodName := ⟨RX3, "isBeam", "(IIII)Z"⟩
abbrev cX3_saveState : ByteArray := prog_1_method_30_code
def yX3_saveState : MethodName := ⟨RX3, "saveState", "()V"⟩
abbrev cX3_showAnew : ByteArray := prog_1_method_31_code
def yX3_showAnew : MethodName := ⟨RX3, "showAnew", "()V"⟩
abbrev cX3_tryBeam : ByteArray := prog_1_method_32_code
def yX3_tryBeam : MethodName := ⟨RX3, "tryBeam", "(IIII)V"⟩
abbrev cX3_lettersLost : ByteArray := prog_1_method_33_code
def yX3_lettersLost : MethodName := ⟨RX3, "lettersLost", "()I"⟩
abbrev cX3_coveringBeats : ByteArray := prog_1_method_34_code
def yX3_coveringBeats : MethodName := ⟨RX3, "coveringBeats", "(I)I"⟩
abbrev cX3_coveringBeams : ByteArray := prog_1_method_35_code
def yX3_coveringBeams : MethodName := ⟨RX3, "coveringBeams", "(I)I"⟩
abbrev cX3_codeAt : ByteArray := prog_1_method_36_code
def yX3_codeAt : MethodName := ⟨RX3, "codeAt", "(I)I"⟩
abbrev cX3_tellsCredits : ByteArray := prog_1_method_37_code
def yX3_tellsCredits : MethodName := ⟨RX3, "tellsCredits", "()Z"⟩
abbrev cX3_doOrders : ByteArray := prog_1_method_38_code
def yX3_doOrders : MethodName := ⟨RX3, "doOrders", "()I"⟩
abbrev cX3_doOrder : ByteArray := prog_1_method_39_code
def yX3_doOrder : MethodName := ⟨RX3, "doOrder", "()Z"⟩
abbrev cX3_mix : ByteArray := prog_1_method_40_code
def yX3_mix : MethodName := ⟨RX3, "mix", "(JJ)J"⟩
abbrev cX3_mixWords : ByteArray := prog_1_method_41_code
def yX3_mixWords : MethodName := ⟨RX3, "mixWords", "(J)J"⟩
abbrev cX3_mixBeams : ByteArray := prog_1_method_42_code
def yX3_mixBeams : MethodName := ⟨RX3, "mixBeams", "(J)J"⟩
abbrev cX3_mixBeats : ByteArray := prog_1_method_43_code
def yX3_mixBeats : MethodName := ⟨RX3, "mixBeats", "(J)J"⟩
abbrev cX3_mixBuffer : ByteArray := prog_1_method_44_code
def yX3_mixBuffer : MethodName := ⟨RX3, "mixBuffer", "(J)J"⟩
abbrev cX3_shareBits : ByteArray := prog_1_method_45_code
def yX3_shareBits : MethodName := ⟨RX3, "shareBits", "(D)J"⟩
def RX4 : String := "CreditBeamsModel"
def TX4 : u_T := fun k => match k with
  | 0 => ("CreditBeamsModel", "now", "[I", true)
  | 1 => ("CreditBeamsModel", "then", "[I", true)
  | 2 => ("CreditBeamsModel", "past", "[I", true)
  | 3 => ("CreditBeamsModel", "kept", "I", false)
  | 4 => ("CreditBeamsModel", "text", "[I", true)
  | 5 => ("CreditBeamsModel", "typed", "I", false)
  | 6 => ("CreditBeamsModel", "thrown", "I", false)
  | 7 => ("CreditBeamsModel", "at", "I", false)
  | 8 => ("CreditBeamsModel", "isFault", "Z", false)
  | 9 => ("CreditBeamsModel", "value", "I", false)
  | 10 => ("CreditBeamsModel", "told", "[I", true)
  | 11 => ("CreditBeamsModel", "tolds", "I", false)
  | 12 => ("CreditBeamsModel", "lit", "[I", true)
  | 13 => ("CreditBeamsModel", "whole", "[I", true)
  | 14 => ("CreditBeamsModel", "goes", "[I", true)
  | 15 => ("CreditBeamsModel", "isLaid", "Z", false)
  | _ => ("CreditBeamsModel", "latest", "[I", true)
def tyX4 : Nat → FieldType := fun k => match k with
  | 0 => .array .int
  | 1 => .array .int
  | 2 => .array .int
  | 3 => .int
  | 4 => .array .int
  | 5 => .int
  | 6 => .int
  | 7 => .int
  | 8 => .boolean
  | 9 => .int
  | 10 => .array .int
  | 11 => .int
  | 12 => .array .int
  | 13 => .array .int
  | 14 => .array .int
  | 15 => .boolean
  | _ => .array .int
theorem nmX4 : ∀ a, a < 17 → ∀ b, b < 17 → a ≠ b → (TX4 a).2.1 ≠ (TX4 b).2.1 := by decide +kernel
theorem tyX4_ok : ∀ k, k < 17 → parseFieldDescriptor (TX4 k).2.2.1 = some (tyX4 k) := by decide +kernel
abbrev cX4_init : ByteArray := prog_6_method_1_code
def yX4_init : MethodName := ⟨RX4, "<init>", "()V"⟩
abbrev cX4_thrown : ByteArray := prog_6_method_2_code
def yX4_thrown : MethodName := ⟨RX4, "thrown", "()I"⟩
abbrev cX4_fails : ByteArray := prog_6_method_3_code
def yX4_fails : MethodName := ⟨RX4, "fails", "(I)I"⟩
abbrev cX4_in : ByteArray := prog_6_method_4_code
def yX4_in : MethodName := ⟨RX4, "in", "(III)Z"⟩
abbrev cX4_isBeat : ByteArray := prog_6_method_5_code
def yX4_isBeat : MethodName := ⟨RX4, "isBeat", "(I)Z"⟩
abbrev cX4_isColumn : ByteArray := prog_6_method_6_code
def yX4_isColumn : MethodName := ⟨RX4, "isColumn", "(I)Z"⟩
abbrev cX4_isWord : ByteArray := prog_6_method_7_code
def yX4_isWord : MethodName := ⟨RX4, "isWord", "(I)Z"⟩
abbrev cX4_isBeam : ByteArray := prog_6_method_8_code
def yX4_isBeam : MethodName := ⟨RX4, "isBeam", "(I)Z"⟩
abbrev cX4_of : ByteArray := prog_6_method_9_code
def yX4_of : MethodName := ⟨RX4, "of", "([III)I"⟩
abbrev cX4_by : ByteArray := prog_6_method_10_code
def yX4_by : MethodName := ⟨RX4, "by", "([III)I"⟩
abbrev cX4_copies : ByteArray := prog_6_method_11_code
def yX4_copies : MethodName := ⟨RX4, "copies", "([II[II)V"⟩
abbrev cX4_saves : ByteArray := prog_6_method_12_code
def yX4_saves : MethodName := ⟨RX4, "saves", "()V"⟩
abbrev cX4_undo : ByteArray := prog_6_method_13_code
def yX4_undo : MethodName := ⟨RX4, "undo", "()I"⟩
abbrev cX4_first : ByteArray := prog_6_method_14_code
def yX4_first : MethodName := ⟨RX4, "first", "([III)I"⟩
abbrev cX4_covers : ByteArray := prog_6_method_15_code
def yX4_covers : MethodName := ⟨RX4, "covers", "([IIII)Z"⟩
abbrev cX4_coversSome : ByteArray := prog_6_method_16_code
def yX4_coversSome : MethodName := ⟨RX4, "coversSome", "([III)Z"⟩
abbrev cX4_canBe : ByteArray := prog_6_method_17_code
def yX4_canBe : MethodName := ⟨RX4, "canBe", "([IIII)Z"⟩
abbrev cX4_firstLight : ByteArray := prog_6_method_18_code
def yX4_firstLight : MethodName := ⟨RX4, "firstLight", "([IIII)I"⟩
abbrev cX4_together : ByteArray := prog_6_method_19_code
def yX4_together : MethodName := ⟨RX4, "together", "([II)I"⟩
abbrev cX4_laysWord : ByteArray := prog_6_method_20_code
def yX4_laysWord : MethodName := ⟨RX4, "laysWord", "([II)V"⟩
abbrev cX4_lays : ByteArray := prog_6_method_21_code
def yX4_lays : MethodName := ⟨RX4, "lays", "([I)V"⟩
abbrev cX4_laysNow : ByteArray := prog_6_method_22_code
def yX4_laysNow : MethodName := ⟨RX4, "laysNow", "()V"⟩
abbrev cX4_isSeen : ByteArray := prog_6_method_23_code
def yX4_isSeen : MethodName := ⟨RX4, "isSeen", "(III)Z"⟩
abbrev cX4_letterAt : ByteArray := prog_6_method_24_code
def yX4_letterAt : MethodName := ⟨RX4, "letterAt", "([III)I"⟩
abbrev cX4_clash : ByteArray := prog_6_method_25_code
def yX4_clash : MethodName := ⟨RX4, "clash", "([IIII)Z"⟩
abbrev cX4_clashes : ByteArray := prog_6_method_26_code
def yX4_clashes : MethodName := ⟨RX4, "clashes", "([II)I"⟩
abbrev cX4_letters : ByteArray := prog_6_method_27_code
def yX4_letters : MethodName := ⟨RX4, "letters", "([I)I"⟩
abbrev cX4_litOf : ByteArray := prog_6_method_28_code
def yX4_litOf : MethodName := ⟨RX4, "litOf", "([II)I"⟩
abbrev cX4_allLit : ByteArray := prog_6_method_29_code
def yX4_allLit : MethodName := ⟨RX4, "allLit", "([I)I"⟩
abbrev cX4_wholes : ByteArray := prog_6_method_30_code
def yX4_wholes : MethodName := ⟨RX4, "wholes", "([I)I"⟩
abbrev cX4_clashing : ByteArray := prog_6_method_31_code
def yX4_clashing : MethodName := ⟨RX4, "clashing", "([I)I"⟩
abbrev cX4_mayWord : ByteArray := prog_6_method_32_code
def yX4_mayWord : MethodName := ⟨RX4, "mayWord", "(IIII)I"⟩
abbrev cX4_words : ByteArray := prog_6_method_33_code
def yX4_words : MethodName := ⟨RX4, "words", "(IIII)I"⟩
abbrev cX4_word : ByteArray := prog_6_method_34_code
def yX4_word : MethodName := ⟨RX4, "word", "(IIII)I"⟩
abbrev cX4_changes : ByteArray := prog_6_method_35_code
def yX4_changes : MethodName := ⟨RX4, "changes", "(II)I"⟩
abbrev cX4_rule : ByteArray := prog_6_method_36_code
def yX4_rule : MethodName := ⟨RX4, "rule", "(III)I"⟩
abbrev cX4_cue : ByteArray := prog_6_method_37_code
def yX4_cue : MethodName := ⟨RX4, "cue", "(II)I"⟩
abbrev cX4_removeWord : ByteArray := prog_6_method_38_code
def yX4_removeWord : MethodName := ⟨RX4, "removeWord", "(I)I"⟩
abbrev cX4_mayBeam : ByteArray := prog_6_method_39_code
def yX4_mayBeam : MethodName := ⟨RX4, "mayBeam", "(IIIII)I"⟩
abbrev cX4_beams : ByteArray := prog_6_method_40_code
def yX4_beams : MethodName := ⟨RX4, "beams", "([IIIIII)V"⟩
abbrev cX4_unlights : ByteArray := prog_6_method_41_code
def yX4_unlights : MethodName := ⟨RX4, "unlights", "([II)V"⟩
abbrev cX4_beam : ByteArray := prog_6_method_42_code
def yX4_beam : MethodName := ⟨RX4, "beam", "(IIIII)I"⟩
abbrev cX4_turn : ByteArray := prog_6_method_43_code
def yX4_turn : MethodName := ⟨RX4, "turn", "(I)I"⟩
abbrev cX4_removeBeam : ByteArray := prog_6_method_44_code
def yX4_removeBeam : MethodName := ⟨RX4, "removeBeam", "(I)I"⟩
abbrev cX4_set : ByteArray := prog_6_method_45_code
def yX4_set : MethodName := ⟨RX4, "set", "(II)I"⟩
abbrev cX4_append : ByteArray := prog_6_method_46_code
def yX4_append : MethodName := ⟨RX4, "append", "(I)I"⟩
abbrev cX4_clearBuffer : ByteArray := prog_6_method_47_code
def yX4_clearBuffer : MethodName := ⟨RX4, "clearBuffer", "()I"⟩
abbrev cX4_isAt : ByteArray := prog_6_method_48_code
def yX4_isAt : MethodName := ⟨RX4, "isAt", "(II)Z"⟩
abbrev cX4_stops : ByteArray := prog_6_method_49_code
def yX4_stops : MethodName := ⟨RX4, "stops", "()Z"⟩
abbrev cX4_isSign : ByteArray := prog_6_method_50_code
def yX4_isSign : MethodName := ⟨RX4, "isSign", "(I)Z"⟩
abbrev cX4_isNumber : ByteArray := prog_6_method_51_code
def yX4_isNumber : MethodName := ⟨RX4, "isNumber", "(III)Z"⟩
abbrev cX4_isSpeed : ByteArray := prog_6_method_52_code
def yX4_isSpeed : MethodName := ⟨RX4, "isSpeed", "()Z"⟩
abbrev cX4_isOrder : ByteArray := prog_6_method_53_code
def yX4_isOrder : MethodName := ⟨RX4, "isOrder", "()Z"⟩
abbrev cX4_isText : ByteArray := prog_6_method_54_code
def yX4_isText : MethodName := ⟨RX4, "isText", "()Z"⟩
abbrev cX4_firstError : ByteArray := prog_6_method_55_code
def yX4_firstError : MethodName := ⟨RX4, "firstError", "()I"⟩
abbrev cX4_does : ByteArray := prog_6_method_56_code
def yX4_does : MethodName := ⟨RX4, "does", "(I)Z"⟩
abbrev cX4_read : ByteArray := prog_6_method_57_code
def yX4_read : MethodName := ⟨RX4, "read", "()I"⟩
abbrev cX4_firstLit : ByteArray := prog_6_method_58_code
def yX4_firstLit : MethodName := ⟨RX4, "firstLit", "(I)I"⟩
abbrev cX4_ofWord : ByteArray := prog_6_method_59_code
def yX4_ofWord : MethodName := ⟨RX4, "ofWord", "(II)I"⟩
abbrev cX4_wordOf : ByteArray := prog_6_method_60_code
def yX4_wordOf : MethodName := ⟨RX4, "wordOf", "(II)I"⟩
abbrev cX4_litAt : ByteArray := prog_6_method_61_code
def yX4_litAt : MethodName := ⟨RX4, "litAt", "(II)I"⟩
abbrev cX4_ofBeam : ByteArray := prog_6_method_62_code
def yX4_ofBeam : MethodName := ⟨RX4, "ofBeam", "(II)I"⟩
abbrev cX4_beamOf : ByteArray := prog_6_method_63_code
def yX4_beamOf : MethodName := ⟨RX4, "beamOf", "(II)I"⟩
abbrev cX4_seenOf : ByteArray := prog_6_method_64_code
def yX4_seenOf : MethodName := ⟨RX4, "seenOf", "(II)I"⟩
abbrev cX4_inBeat : ByteArray := prog_6_method_65_code
def yX4_inBeat : MethodName := ⟨RX4, "inBeat", "(II)I"⟩
abbrev cX4_beat : ByteArray := prog_6_method_66_code
def yX4_beat : MethodName := ⟨RX4, "beat", "(II)I"⟩
abbrev cX4_seenAt : ByteArray := prog_6_method_67_code
def yX4_seenAt : MethodName := ⟨RX4, "seenAt", "(III)I"⟩
abbrev cX4_seen : ByteArray := prog_6_method_68_code
def yX4_seen : MethodName := ⟨RX4, "seen", "(III)I"⟩
abbrev cX4_everClash : ByteArray := prog_6_method_69_code
def yX4_everClash : MethodName := ⟨RX4, "everClash", "([III)Z"⟩
abbrev cX4_pairs : ByteArray := prog_6_method_70_code
def yX4_pairs : MethodName := ⟨RX4, "pairs", "()I"⟩
abbrev cX4_lastWhole : ByteArray := prog_6_method_71_code
def yX4_lastWhole : MethodName := ⟨RX4, "lastWhole", "()I"⟩
abbrev cX4_dark : ByteArray := prog_6_method_72_code
def yX4_dark : MethodName := ⟨RX4, "dark", "()I"⟩
abbrev cX4_counted : ByteArray := prog_6_method_73_code
def yX4_counted : MethodName := ⟨RX4, "counted", "(I)I"⟩
abbrev cX4_count : ByteArray := prog_6_method_74_code
def yX4_count : MethodName := ⟨RX4, "count", "(I)I"⟩
abbrev cX4_tries : ByteArray := prog_6_method_75_code
def yX4_tries : MethodName := ⟨RX4, "tries", "(IIII)V"⟩
abbrev cX4_byBeam : ByteArray := prog_6_method_76_code
def yX4_byBeam : MethodName := ⟨RX4, "byBeam", "(IIIII)I"⟩
abbrev cX4_ifBeam : ByteArray := prog_6_method_77_code
def yX4_ifBeam : MethodName := ⟨RX4, "ifBeam", "(IIIII)I"⟩
abbrev cX4_best : ByteArray := prog_6_method_78_code
def yX4_best : MethodName := ⟨RX4, "best", "(II)I"⟩
abbrev cX4_bestSpeed : ByteArray := prog_6_method_79_code
def yX4_bestSpeed : MethodName := ⟨RX4, "bestSpeed", "(II)I"⟩
abbrev cX4_isClear : ByteArray := prog_6_method_80_code
def yX4_isClear : MethodName := ⟨RX4, "isClear", "([II)Z"⟩
abbrev cX4_clear : ByteArray := prog_6_method_81_code
def yX4_clear : MethodName := ⟨RX4, "clear", "(I)I"⟩
abbrev cX4_clearCue : ByteArray := prog_6_method_82_code
def yX4_clearCue : MethodName := ⟨RX4, "clearCue", "(I)I"⟩
abbrev cX4_share : ByteArray := prog_6_method_83_code
def yX4_share : MethodName := ⟨RX4, "share", "()D"⟩
abbrev cX4_litShare : ByteArray := prog_6_method_84_code
def yX4_litShare : MethodName := ⟨RX4, "litShare", "()D"⟩
abbrev cX4_digest : ByteArray := prog_6_method_85_code
def yX4_digest : MethodName := ⟨RX4, "digest", "()J"⟩
def RJx145de : String := "java/io/Serializable"
def TJx145de : u_T := fun k => match k with
  | _ => ("", "", "", false)
def tyJx145de : Nat → FieldType := fun k => match k with
  | _ => .int
theorem nmJx145de : ∀ a, a < 0 → ∀ b, b < 0 → a ≠ b → (TJx145de a).2.1 ≠ (TJx145de b).2.1 := by decide +kernel
theorem tyJx145de_ok : ∀ k, k < 0 → parseFieldDescriptor (TJx145de k).2.2.1 = some (tyJx145de k) := by decide +kernel
def RJxb160c : String := "java/lang/Comparable"
def TJxb160c : u_T := fun k => match k with
  | _ => ("", "", "", false)
def tyJxb160c : Nat → FieldType := fun k => match k with
  | _ => .int
theorem nmJxb160c : ∀ a, a < 0 → ∀ b, b < 0 → a ≠ b → (TJxb160c a).2.1 ≠ (TJxb160c b).2.1 := by decide +kernel
theorem tyJxb160c_ok : ∀ k, k < 0 → parseFieldDescriptor (TJxb160c k).2.2.1 = some (tyJxb160c k) := by decide +kernel
def RJxe99ae : String := "java/lang/Double"
def TJxe99ae : u_T := fun k => match k with
  | _ => ("", "", "", false)
def tyJxe99ae : Nat → FieldType := fun k => match k with
  | _ => .int
theorem nmJxe99ae : ∀ a, a < 0 → ∀ b, b < 0 → a ≠ b → (TJxe99ae a).2.1 ≠ (TJxe99ae b).2.1 := by decide +kernel
theorem tyJxe99ae_ok : ∀ k, k < 0 → parseFieldDescriptor (TJxe99ae k).2.2.1 = some (tyJxe99ae k) := by decide +kernel
abbrev cJxe99ae_isNaN_b9ae7 : ByteArray := prog_7_method_6_code
def yJxe99ae_isNaN_b9ae7 : MethodName := ⟨RJxe99ae, "isNaN", "(D)Z"⟩
abbrev cJxe99ae_doubleToLongBits_ccdee : ByteArray := prog_7_method_23_code
def yJxe99ae_doubleToLongBits_ccdee : MethodName := ⟨RJxe99ae, "doubleToLongBits", "(D)J"⟩
def RJ9 : String := "java/lang/Math"
def TJ9 : u_T := fun k => match k with
  | _ => ("", "", "", false)
def tyJ9 : Nat → FieldType := fun k => match k with
  | _ => .int
theorem nmJ9 : ∀ a, a < 0 → ∀ b, b < 0 → a ≠ b → (TJ9 a).2.1 ≠ (TJ9 b).2.1 := by decide +kernel
theorem tyJ9_ok : ∀ k, k < 0 → parseFieldDescriptor (TJ9 k).2.2.1 = some (tyJ9 k) := by decide +kernel
abbrev cJ9_max_7cf53 : ByteArray := prog_12_method_65_code
def yJ9_max_7cf53 : MethodName := ⟨RJ9, "max", "(II)I"⟩
abbrev cJ9_min_7cf53 : ByteArray := prog_12_method_69_code
def yJ9_min_7cf53 : MethodName := ⟨RJ9, "min", "(II)I"⟩
def RJxd2413 : String := "java/lang/Number"
def TJxd2413 : u_T := fun k => match k with
  | _ => ("", "", "", false)
def tyJxd2413 : Nat → FieldType := fun k => match k with
  | _ => .int
theorem nmJxd2413 : ∀ a, a < 0 → ∀ b, b < 0 → a ≠ b → (TJxd2413 a).2.1 ≠ (TJxd2413 b).2.1 := by decide +kernel
theorem tyJxd2413_ok : ∀ k, k < 0 → parseFieldDescriptor (TJxd2413 k).2.2.1 = some (tyJxd2413 k) := by decide +kernel
def RJ0 : String := "java/lang/String"
def TJ0 : u_T := fun k => match k with
  | _ => ("", "", "", false)
def tyJ0 : Nat → FieldType := fun k => match k with
  | _ => .int
theorem nmJ0 : ∀ a, a < 0 → ∀ b, b < 0 → a ≠ b → (TJ0 a).2.1 ≠ (TJ0 b).2.1 := by decide +kernel
theorem tyJ0_ok : ∀ k, k < 0 → parseFieldDescriptor (TJ0 k).2.2.1 = some (tyJ0 k) := by decide +kernel
def RJ10 : String := "java/lang/System"
def TJ10 : u_T := fun k => match k with
  | _ => ("", "", "", false)
def tyJ10 : Nat → FieldType := fun k => match k with
  | _ => .int
theorem nmJ10 : ∀ a, a < 0 → ∀ b, b < 0 → a ≠ b → (TJ10 a).2.1 ≠ (TJ10 b).2.1 := by decide +kernel
theorem tyJ10_ok : ∀ k, k < 0 → parseFieldDescriptor (TJ10 k).2.2.1 = some (tyJ10 k) := by decide +kernel
def RJxfd54e : String := "java/lang/constant/Constable"
def TJxfd54e : u_T := fun k => match k with
  | _ => ("", "", "", false)
def tyJxfd54e : Nat → FieldType := fun k => match k with
  | _ => .int
theorem nmJxfd54e : ∀ a, a < 0 → ∀ b, b < 0 → a ≠ b → (TJxfd54e a).2.1 ≠ (TJxfd54e b).2.1 := by decide +kernel
theorem tyJxfd54e_ok : ∀ k, k < 0 → parseFieldDescriptor (TJxfd54e k).2.2.1 = some (tyJxfd54e k) := by decide +kernel
def RJx3cf43 : String := "java/lang/constant/ConstantDesc"
def TJx3cf43 : u_T := fun k => match k with
  | _ => ("", "", "", false)
def tyJx3cf43 : Nat → FieldType := fun k => match k with
  | _ => .int
theorem nmJx3cf43 : ∀ a, a < 0 → ∀ b, b < 0 → a ≠ b → (TJx3cf43 a).2.1 ≠ (TJx3cf43 b).2.1 := by decide +kernel
theorem tyJx3cf43_ok : ∀ k, k < 0 → parseFieldDescriptor (TJx3cf43 k).2.2.1 = some (tyJx3cf43 k) := by decide +kernel
def RJ7 : String := "java/util/Arrays"
def TJ7 : u_T := fun k => match k with
  | _ => ("", "", "", false)
def tyJ7 : Nat → FieldType := fun k => match k with
  | _ => .int
theorem nmJ7 : ∀ a, a < 0 → ∀ b, b < 0 → a ≠ b → (TJ7 a).2.1 ≠ (TJ7 b).2.1 := by decide +kernel
theorem tyJ7_ok : ∀ k, k < 0 → parseFieldDescriptor (TJ7 k).2.2.1 = some (tyJ7 k) := by decide +kernel
abbrev cJ7_fill_d0a16 : ByteArray := prog_18_method_101_code
def yJ7_fill_d0a16 : MethodName := ⟨RJ7, "fill", "([JJ)V"⟩
abbrev cJ7_fill_53178 : ByteArray := prog_18_method_103_code
def yJ7_fill_53178 : MethodName := ⟨RJ7, "fill", "([II)V"⟩
def RL : String := "CreditBeamsLaw"
abbrev cL_word : ByteArray := method_3_code
def yL_word : MethodName := ⟨RL, "word", "(LCreditBeams;IIII[J)I"⟩
abbrev cL_rule : ByteArray := method_4_code
def yL_rule : MethodName := ⟨RL, "rule", "(LCreditBeams;III[J)I"⟩
abbrev cL_cue : ByteArray := method_5_code
def yL_cue : MethodName := ⟨RL, "cue", "(LCreditBeams;II[J)I"⟩
abbrev cL_removeWord : ByteArray := method_6_code
def yL_removeWord : MethodName := ⟨RL, "removeWord", "(LCreditBeams;I[J)I"⟩
abbrev cL_beam : ByteArray := method_7_code
def yL_beam : MethodName := ⟨RL, "beam", "(LCreditBeams;IIIII[J)I"⟩
abbrev cL_turn : ByteArray := method_8_code
def yL_turn : MethodName := ⟨RL, "turn", "(LCreditBeams;I[J)I"⟩
abbrev cL_removeBeam : ByteArray := method_9_code
def yL_removeBeam : MethodName := ⟨RL, "removeBeam", "(LCreditBeams;I[J)I"⟩
abbrev cL_set : ByteArray := method_10_code
def yL_set : MethodName := ⟨RL, "set", "(LCreditBeams;II[J)I"⟩
abbrev cL_append : ByteArray := method_11_code
def yL_append : MethodName := ⟨RL, "append", "(LCreditBeams;I[J)I"⟩
abbrev cL_read : ByteArray := method_12_code
def yL_read : MethodName := ⟨RL, "read", "(LCreditBeams;[J)I"⟩
abbrev cL_undo : ByteArray := method_13_code
def yL_undo : MethodName := ⟨RL, "undo", "(LCreditBeams;[J)I"⟩
abbrev cL_wordOf : ByteArray := method_14_code
def yL_wordOf : MethodName := ⟨RL, "wordOf", "(LCreditBeams;II[J)I"⟩
abbrev cL_litAt : ByteArray := method_15_code
def yL_litAt : MethodName := ⟨RL, "litAt", "(LCreditBeams;II[J)I"⟩
abbrev cL_beamOf : ByteArray := method_16_code
def yL_beamOf : MethodName := ⟨RL, "beamOf", "(LCreditBeams;II[J)I"⟩
abbrev cL_beat : ByteArray := method_17_code
def yL_beat : MethodName := ⟨RL, "beat", "(LCreditBeams;II[J)I"⟩
abbrev cL_seen : ByteArray := method_18_code
def yL_seen : MethodName := ⟨RL, "seen", "(LCreditBeams;III[J)I"⟩
abbrev cL_count : ByteArray := method_19_code
def yL_count : MethodName := ⟨RL, "count", "(LCreditBeams;I[J)I"⟩
abbrev cL_ifBeam : ByteArray := method_20_code
def yL_ifBeam : MethodName := ⟨RL, "ifBeam", "(LCreditBeams;IIIII[J)I"⟩
abbrev cL_bestSpeed : ByteArray := method_21_code
def yL_bestSpeed : MethodName := ⟨RL, "bestSpeed", "(LCreditBeams;II[J)I"⟩
abbrev cL_clearCue : ByteArray := method_22_code
def yL_clearCue : MethodName := ⟨RL, "clearCue", "(LCreditBeams;I[J)I"⟩
abbrev cL_law : ByteArray := code
def yL_law : MethodName := ⟨RL, "law", "([I)Z"⟩
abbrev vwCl : List vw_C := [(RX0, TX0, 1), (RX1, TX1, 6), (RX2, TX2, 9), (RX3, TX3, 8), (RX4, TX4, 17)]
-- the words that travel: every method's list is its own code in front of these
def TBL : List Cond := lw_tbl.filter goodWord
theorem mem_T {i : Nat} {w : Cond} (h : tables_1[i]? = some w) (g : goodWord w = true) : w ∈ TBL := List.mem_filter.mpr ⟨List.mem_append_right _ (List.mem_of_getElem? h), g⟩
theorem mem_S {i : Nat} {w : Cond} (h : (k2_sels lw_privs)[i]? = some w) (g : goodWord w = true) : w ∈ TBL := List.mem_filter.mpr ⟨List.mem_append_left _ (List.mem_of_getElem? h), g⟩
theorem good_T {w : Cond} (h : w ∈ TBL) : (w.onTables && w.keeps) = true ∨ ∃ ty, w = .arrayClass ty := good_of_word (List.mem_filter.mp h).2
theorem goodIn_T {cw : Cond} (h5 : cw ∈ TBL) : GoodIn TBL (cw :: TBL) := by
  intro w hw
  rcases List.mem_cons.mp hw with rfl | hw
  · exact ⟨h5, good_T h5⟩
  · exact ⟨hw, good_T hw⟩
theorem g_V {own C : String} {idx : Nat} {y : MethodName} {cw : Cond} (h1 : .methodLink own idx y ∈ TBL) (h2 : .instanceMethod y ∈ TBL) (h3 : .selects C y y ∈ TBL) (h4 : .initialized C ∈ TBL) (h5 : cw ∈ TBL) : GoodIn TBL (wsV own idx C y (cw :: TBL)) := by
  intro w hw
  simp only [wsV, List.mem_append, List.mem_cons, List.not_mem_nil, or_false] at hw
  rcases hw with (rfl | rfl | rfl | rfl) | (rfl | hw)
  · exact ⟨h1, good_T h1⟩
  · exact ⟨h2, good_T h2⟩
  · exact ⟨h3, good_T h3⟩
  · exact ⟨h4, good_T h4⟩
  · exact ⟨h5, good_T h5⟩
  · exact ⟨hw, good_T hw⟩
theorem g_S {own : String} {idx : Nat} {y : MethodName} {cw : Cond} (h1 : .methodLink own idx y ∈ TBL) (h2 : .static y ∈ TBL) (h4 : .initialized y.cls ∈ TBL) (h5 : cw ∈ TBL) : GoodIn TBL (va_wsS own idx y (cw :: TBL)) := by
  intro w hw
  simp only [va_wsS, List.mem_append, List.mem_cons, List.not_mem_nil, or_false] at hw
  rcases hw with (rfl | rfl | rfl) | (rfl | hw)
  · exact ⟨h1, good_T h1⟩
  · exact ⟨h2, good_T h2⟩
  · exact ⟨h4, good_T h4⟩
  · exact ⟨h5, good_T h5⟩
  · exact ⟨hw, good_T hw⟩
abbrev gTy (cI cJ : ClassId) : List (ClassId × FieldType) := [(cI, .int), (cJ, .long)]
def gPc (D : va_G) (cl : List vw_C) (tys : List (ClassId × FieldType)) (av : List Value) (ws : va_W) (sz : Nat) : Array Value → State → Prop := va_Pc av (fun U => U.heap.size = sz ∧ va_P D cl ws U.heap ∧ va_K D cl tys U ∧ va_D (fun _ => True) ws)
def gB {S : Type} (D : va_G) (cl : List vw_C) (tys : List (ClassId × FieldType)) (A : Nat → Prop) (w1 : S → va_W) : S → State → Prop := fun u t => va_P D cl (w1 u) t.heap ∧ va_K D cl tys t ∧ va_D A (w1 u)
theorem g_blind {D : va_G} {cl : List vw_C} {tys : List (ClassId × FieldType)} {av : List Value} {ws : va_W} {sz : Nat} : FrameBlind (gPc D cl tys av ws sz) := fun a U g mk q => by
  obtain ⟨q0, q1, qP, qK, qD⟩ := q
  exact ⟨q0, q1, qP, va_K.moved (u := U) (U := U.calling g mk a) (Vm.Alike.refl U.vm) qK, qD⟩
theorem g_pre {D : va_G} {cl : List vw_C} {tys : List (ClassId × FieldType)} {av : List Value} {wc : va_W} {s : State} {H : Heap} {A : Nat → Prop} (hP : va_P D cl wc H) (hK : va_K D cl tys s) (hD : va_D A wc) : ∀ U : State, U.heap = H → s.WarmedH U.vm → gPc D cl tys av wc H.size av.toArray U :=
  fun U hU hW => ⟨rfl, by rw [hU], by rw [hU]; exact hP, va_K.moved hW.alike hK, hD.weaken (fun _ _ _ _ => trivial)⟩
theorem g_subP {D : va_G} {cl : List vw_C} {ws wc : va_W} {H : Heap} (hP : va_P D cl ws H) (isC : List Nat) (hC : isC.map (fun i => ws[i]?) = wc.map some) : va_P D cl wc H := by
  intro k q h
  have h1 : (wc.map some)[k]? = some (some q) := by rw [List.getElem?_map, h]; rfl
  rw [← hC, List.getElem?_map] at h1
  obtain ⟨i, -, h2⟩ := Option.map_eq_some_iff.mp h1
  exact hP i q h2
theorem gc_Vi {p : Program} {l : Launch} {e : Env} {R : Room} {s : State} {m : MethodId} {args : Array Value} {below : List Frame} {meth : Method} {c : Code} {cc : ByteArray} {H : Heap} {locs : List Loc} {cells slots nL n index maxL pc : Nat} {Q : State → Prop} {ls : Array Slot} {st0 rest As : List Value} {b : Nat} {own C : String} {y : MethodName} {bytes : ByteArray} {ret : Option FieldType} {wsy Ts : List Cond} {rm : Room} {D : va_G} {cl : List vw_C} {tys : List (ClassId × FieldType)} {ws wc wr : va_W} {A : Nat → Prop} {S : Type} {post : Int32 → S → Prop} {w1 : S → va_W}
    (fix : CallFix p m c cc nL s args Ts own) (hM : Met l y wsy rm (gPc D cl tys (.ref b :: As) wc H.size) (va_Qi post (gB D cl tys (va_A wc H.size) w1) (va_A wc H.size)) 0 0 (va_A wc H.size)) (cw : CallW R s args own C index y bytes maxL ret wsy rm 0 0 n) (hK : va_K D cl tys s) (hP : va_P D cl ws H) (hD : va_D A ws) (hS : va_S A s.heap H locs) (hA : ∀ q, s.heap.size ≤ q → A q)
    (isC isR : List Nat) (hC : isC.map (fun i => ws[i]?) = wc.map some) (hR : isR.map (fun i => ws[i]?) = wr.map some) (hnd : (va_nd isR && va_nd isC && isR.all (fun i => !isC.contains i)) = true) (q0 : Nat) {ci : Nat} {fs : List Value} {qc : vw_C} (he : ws[q0]? = some (b, .inr (ci, fs))) (hc : cl[ci]? = some qc) (hqC : qc.1 = C)
    (hn : As.length = n) (hsize : ls.size = nL) (hstack : st0 = As.reverse ++ .ref b :: rest) (hW : (rest.map fun v => v.category).sum ≤ 8) (hf : cells ≤ R.cells ∧ slots ≤ R.slots) (hdg : decode cc pc = .ok (.invokevirtual index, 3))
    (kk : ∀ (r : Int32) (u : S) (H1 : Heap) (locs1 : List Loc), post r u → va_P D cl (wr ++ w1 u) H1 → va_D A (wr ++ w1 u) → va_S A s.heap H1 locs1 → W p l e R s m args below meth c H1 locs1 cells slots Q (F0 m (pc + 3) ls (.int r :: rest))) : W p l e R s m args below meth c H locs cells slots Q (F0 m pc ls st0) := by
  simp only [Bool.and_eq_true, List.all_eq_true, Bool.not_eq_true', List.contains_eq_mem, decide_eq_false_iff_not] at hnd
  obtain ⟨⟨hn1, hn2⟩, hn3⟩ := hnd
  have hPc := g_subP hP isC hC
  have hDc := hD.sub isC hn2 hC
  have hFc := va_free (wc := wc) hD hS hA isC hC
  refine va_calli (va_runV (As := As) (rest := rest) fix hM cw ⟨g_blind, by rw [← hqC]; exact va_recv hK hP hc he, g_pre hPc hK hDc⟩ rfl hn hsize hstack (lv_room hW) hdg ⟨hf.1, hf.2⟩) hS (fun q _ h => hFc q h) hFc (fun r u t H1 locs1 ht hvm hw hB hz1 hk1 hS => ?_)
  obtain ⟨hP1, hK1, hD1⟩ := hB
  rw [ht] at hP1
  obtain ⟨hP, hD⟩ := va_join (wr := wr) (w1 := w1 u) hP hD isC isR hC hR hn1 hn3 hk1 hFc hP1 hD1
  exact kk r u H1 locs1 hw hP hD hS
theorem gc_Si {p : Program} {l : Launch} {e : Env} {R : Room} {s : State} {m : MethodId} {args : Array Value} {below : List Frame} {meth : Method} {c : Code} {cc : ByteArray} {H : Heap} {locs : List Loc} {cells slots nL n index maxL pc : Nat} {Q : State → Prop} {ls : Array Slot} {st0 rest As : List Value} {own : String} {y : MethodName} {bytes : ByteArray} {ret : Option FieldType} {wsy Ts : List Cond} {rm : Room} {D : va_G} {cl : List vw_C} {tys : List (ClassId × FieldType)} {ws wc wr : va_W} {A : Nat → Prop} {S : Type} {post : Int32 → S → Prop} {w1 : S → va_W}
    (fix : CallFix p m c cc nL s args Ts own) (hM : Met l y wsy rm (gPc D cl tys As wc H.size) (va_Qi post (gB D cl tys (va_A wc H.size) w1) (va_A wc H.size)) 0 0 (va_A wc H.size)) (cw : CallB R s args own index y bytes maxL ret wsy rm 0 0 n ∧ (Cond.static y).before args s = true) (hK : va_K D cl tys s) (hP : va_P D cl ws H) (hD : va_D A ws) (hS : va_S A s.heap H locs) (hA : ∀ q, s.heap.size ≤ q → A q)
    (isC isR : List Nat) (hC : isC.map (fun i => ws[i]?) = wc.map some) (hR : isR.map (fun i => ws[i]?) = wr.map some) (hnd : (va_nd isR && va_nd isC && isR.all (fun i => !isC.contains i)) = true)
    (hn : As.length = n) (hsize : ls.size = nL) (hstack : st0 = As.reverse ++ rest) (hW : (rest.map fun v => v.category).sum ≤ 8) (hf : cells ≤ R.cells ∧ slots ≤ R.slots) (hdg : decode cc pc = .ok (.invokestatic index, 3))
    (kk : ∀ (r : Int32) (u : S) (H1 : Heap) (locs1 : List Loc), post r u → va_P D cl (wr ++ w1 u) H1 → va_D A (wr ++ w1 u) → va_S A s.heap H1 locs1 → W p l e R s m args below meth c H1 locs1 cells slots Q (F0 m (pc + 3) ls (.int r :: rest))) : W p l e R s m args below meth c H locs cells slots Q (F0 m pc ls st0) := by
  simp only [Bool.and_eq_true, List.all_eq_true, Bool.not_eq_true', List.contains_eq_mem, decide_eq_false_iff_not] at hnd
  obtain ⟨⟨hn1, hn2⟩, hn3⟩ := hnd
  have hPc := g_subP hP isC hC
  have hDc := hD.sub isC hn2 hC
  have hFc := va_free (wc := wc) hD hS hA isC hC
  refine va_calli (va_runS (As := As) (rest := rest) fix hM cw ⟨g_blind, g_pre hPc hK hDc⟩ rfl hn hsize hstack (lv_room hW) hdg ⟨hf.1, hf.2⟩) hS (fun q _ h => hFc q h) hFc (fun r u t H1 locs1 ht hvm hw hB hz1 hk1 hS => ?_)
  obtain ⟨hP1, hK1, hD1⟩ := hB
  rw [ht] at hP1
  obtain ⟨hP, hD⟩ := va_join (wr := wr) (w1 := w1 u) hP hD isC isR hC hR hn1 hn3 hk1 hFc hP1 hD1
  exact kk r u H1 locs1 hw hP hD hS
theorem gc_Vl {p : Program} {l : Launch} {e : Env} {R : Room} {s : State} {m : MethodId} {args : Array Value} {below : List Frame} {meth : Method} {c : Code} {cc : ByteArray} {H : Heap} {locs : List Loc} {cells slots nL n index maxL pc : Nat} {Q : State → Prop} {ls : Array Slot} {st0 rest As : List Value} {b : Nat} {own C : String} {y : MethodName} {bytes : ByteArray} {ret : Option FieldType} {wsy Ts : List Cond} {rm : Room} {D : va_G} {cl : List vw_C} {tys : List (ClassId × FieldType)} {ws wc wr : va_W} {A : Nat → Prop} {S : Type} {post : Int64 → S → Prop} {w1 : S → va_W}
    (fix : CallFix p m c cc nL s args Ts own) (hM : Met l y wsy rm (gPc D cl tys (.ref b :: As) wc H.size) (va_Ql post (gB D cl tys (va_A wc H.size) w1) (va_A wc H.size)) 0 0 (va_A wc H.size)) (cw : CallW R s args own C index y bytes maxL ret wsy rm 0 0 n) (hK : va_K D cl tys s) (hP : va_P D cl ws H) (hD : va_D A ws) (hS : va_S A s.heap H locs) (hA : ∀ q, s.heap.size ≤ q → A q)
    (isC isR : List Nat) (hC : isC.map (fun i => ws[i]?) = wc.map some) (hR : isR.map (fun i => ws[i]?) = wr.map some) (hnd : (va_nd isR && va_nd isC && isR.all (fun i => !isC.contains i)) = true) (q0 : Nat) {ci : Nat} {fs : List Value} {qc : vw_C} (he : ws[q0]? = some (b, .inr (ci, fs))) (hc : cl[ci]? = some qc) (hqC : qc.1 = C)
    (hn : As.length = n) (hsize : ls.size = nL) (hstack : st0 = As.reverse ++ .ref b :: rest) (hW : (rest.map fun v => v.category).sum ≤ 8) (hf : cells ≤ R.cells ∧ slots ≤ R.slots) (hdg : decode cc pc = .ok (.invokevirtual index, 3))
    (kk : ∀ (r : Int64) (u : S) (H1 : Heap) (locs1 : List Loc), post r u → va_P D cl (wr ++ w1 u) H1 → va_D A (wr ++ w1 u) → va_S A s.heap H1 locs1 → W p l e R s m args below meth c H1 locs1 cells slots Q (F0 m (pc + 3) ls (.long r :: rest))) : W p l e R s m args below meth c H locs cells slots Q (F0 m pc ls st0) := by
  simp only [Bool.and_eq_true, List.all_eq_true, Bool.not_eq_true', List.contains_eq_mem, decide_eq_false_iff_not] at hnd
  obtain ⟨⟨hn1, hn2⟩, hn3⟩ := hnd
  have hPc := g_subP hP isC hC
  have hDc := hD.sub isC hn2 hC
  have hFc := va_free (wc := wc) hD hS hA isC hC
  refine va_calll (va_runV (As := As) (rest := rest) fix hM cw ⟨g_blind, by rw [← hqC]; exact va_recv hK hP hc he, g_pre hPc hK hDc⟩ rfl hn hsize hstack (lv_room hW) hdg ⟨hf.1, hf.2⟩) hS (fun q _ h => hFc q h) hFc (fun r u t H1 locs1 ht hvm hw hB hz1 hk1 hS => ?_)
  obtain ⟨hP1, hK1, hD1⟩ := hB
  rw [ht] at hP1
  obtain ⟨hP, hD⟩ := va_join (wr := wr) (w1 := w1 u) hP hD isC isR hC hR hn1 hn3 hk1 hFc hP1 hD1
  exact kk r u H1 locs1 hw hP hD hS
theorem gc_Sl {p : Program} {l : Launch} {e : Env} {R : Room} {s : State} {m : MethodId} {args : Array Value} {below : List Frame} {meth : Method} {c : Code} {cc : ByteArray} {H : Heap} {locs : List Loc} {cells slots nL n index maxL pc : Nat} {Q : State → Prop} {ls : Array Slot} {st0 rest As : List Value} {own : String} {y : MethodName} {bytes : ByteArray} {ret : Option FieldType} {wsy Ts : List Cond} {rm : Room} {D : va_G} {cl : List vw_C} {tys : List (ClassId × FieldType)} {ws wc wr : va_W} {A : Nat → Prop} {S : Type} {post : Int64 → S → Prop} {w1 : S → va_W}
    (fix : CallFix p m c cc nL s args Ts own) (hM : Met l y wsy rm (gPc D cl tys As wc H.size) (va_Ql post (gB D cl tys (va_A wc H.size) w1) (va_A wc H.size)) 0 0 (va_A wc H.size)) (cw : CallB R s args own index y bytes maxL ret wsy rm 0 0 n ∧ (Cond.static y).before args s = true) (hK : va_K D cl tys s) (hP : va_P D cl ws H) (hD : va_D A ws) (hS : va_S A s.heap H locs) (hA : ∀ q, s.heap.size ≤ q → A q)
    (isC isR : List Nat) (hC : isC.map (fun i => ws[i]?) = wc.map some) (hR : isR.map (fun i => ws[i]?) = wr.map some) (hnd : (va_nd isR && va_nd isC && isR.all (fun i => !isC.contains i)) = true)
    (hn : As.length = n) (hsize : ls.size = nL) (hstack : st0 = As.reverse ++ rest) (hW : (rest.map fun v => v.category).sum ≤ 8) (hf : cells ≤ R.cells ∧ slots ≤ R.slots) (hdg : decode cc pc = .ok (.invokestatic index, 3))
    (kk : ∀ (r : Int64) (u : S) (H1 : Heap) (locs1 : List Loc), post r u → va_P D cl (wr ++ w1 u) H1 → va_D A (wr ++ w1 u) → va_S A s.heap H1 locs1 → W p l e R s m args below meth c H1 locs1 cells slots Q (F0 m (pc + 3) ls (.long r :: rest))) : W p l e R s m args below meth c H locs cells slots Q (F0 m pc ls st0) := by
  simp only [Bool.and_eq_true, List.all_eq_true, Bool.not_eq_true', List.contains_eq_mem, decide_eq_false_iff_not] at hnd
  obtain ⟨⟨hn1, hn2⟩, hn3⟩ := hnd
  have hPc := g_subP hP isC hC
  have hDc := hD.sub isC hn2 hC
  have hFc := va_free (wc := wc) hD hS hA isC hC
  refine va_calll (va_runS (As := As) (rest := rest) fix hM cw ⟨g_blind, g_pre hPc hK hDc⟩ rfl hn hsize hstack (lv_room hW) hdg ⟨hf.1, hf.2⟩) hS (fun q _ h => hFc q h) hFc (fun r u t H1 locs1 ht hvm hw hB hz1 hk1 hS => ?_)
  obtain ⟨hP1, hK1, hD1⟩ := hB
  rw [ht] at hP1
  obtain ⟨hP, hD⟩ := va_join (wr := wr) (w1 := w1 u) hP hD isC isR hC hR hn1 hn3 hk1 hFc hP1 hD1
  exact kk r u H1 locs1 hw hP hD hS
theorem gc_Vd {p : Program} {l : Launch} {e : Env} {R : Room} {s : State} {m : MethodId} {args : Array Value} {below : List Frame} {meth : Method} {c : Code} {cc : ByteArray} {H : Heap} {locs : List Loc} {cells slots nL n index maxL pc : Nat} {Q : State → Prop} {ls : Array Slot} {st0 rest As : List Value} {b : Nat} {own C : String} {y : MethodName} {bytes : ByteArray} {ret : Option FieldType} {wsy Ts : List Cond} {rm : Room} {D : va_G} {cl : List vw_C} {tys : List (ClassId × FieldType)} {ws wc wr : va_W} {A : Nat → Prop} {S : Type} {post : UInt64 → S → Prop} {w1 : S → va_W}
    (fix : CallFix p m c cc nL s args Ts own) (hM : Met l y wsy rm (gPc D cl tys (.ref b :: As) wc H.size) (va_Qd post (gB D cl tys (va_A wc H.size) w1) (va_A wc H.size)) 0 0 (va_A wc H.size)) (cw : CallW R s args own C index y bytes maxL ret wsy rm 0 0 n) (hK : va_K D cl tys s) (hP : va_P D cl ws H) (hD : va_D A ws) (hS : va_S A s.heap H locs) (hA : ∀ q, s.heap.size ≤ q → A q)
    (isC isR : List Nat) (hC : isC.map (fun i => ws[i]?) = wc.map some) (hR : isR.map (fun i => ws[i]?) = wr.map some) (hnd : (va_nd isR && va_nd isC && isR.all (fun i => !isC.contains i)) = true) (q0 : Nat) {ci : Nat} {fs : List Value} {qc : vw_C} (he : ws[q0]? = some (b, .inr (ci, fs))) (hc : cl[ci]? = some qc) (hqC : qc.1 = C)
    (hn : As.length = n) (hsize : ls.size = nL) (hstack : st0 = As.reverse ++ .ref b :: rest) (hW : (rest.map fun v => v.category).sum ≤ 8) (hf : cells ≤ R.cells ∧ slots ≤ R.slots) (hdg : decode cc pc = .ok (.invokevirtual index, 3))
    (kk : ∀ (r : UInt64) (u : S) (H1 : Heap) (locs1 : List Loc), post r u → va_P D cl (wr ++ w1 u) H1 → va_D A (wr ++ w1 u) → va_S A s.heap H1 locs1 → W p l e R s m args below meth c H1 locs1 cells slots Q (F0 m (pc + 3) ls (.double r :: rest))) : W p l e R s m args below meth c H locs cells slots Q (F0 m pc ls st0) := by
  simp only [Bool.and_eq_true, List.all_eq_true, Bool.not_eq_true', List.contains_eq_mem, decide_eq_false_iff_not] at hnd
  obtain ⟨⟨hn1, hn2⟩, hn3⟩ := hnd
  have hPc := g_subP hP isC hC
  have hDc := hD.sub isC hn2 hC
  have hFc := va_free (wc := wc) hD hS hA isC hC
  refine va_calld (va_runV (As := As) (rest := rest) fix hM cw ⟨g_blind, by rw [← hqC]; exact va_recv hK hP hc he, g_pre hPc hK hDc⟩ rfl hn hsize hstack (lv_room hW) hdg ⟨hf.1, hf.2⟩) hS (fun q _ h => hFc q h) hFc (fun r u t H1 locs1 ht hvm hw hB hz1 hk1 hS => ?_)
  obtain ⟨hP1, hK1, hD1⟩ := hB
  rw [ht] at hP1
  obtain ⟨hP, hD⟩ := va_join (wr := wr) (w1 := w1 u) hP hD isC isR hC hR hn1 hn3 hk1 hFc hP1 hD1
  exact kk r u H1 locs1 hw hP hD hS
theorem gc_Sd {p : Program} {l : Launch} {e : Env} {R : Room} {s : State} {m : MethodId} {args : Array Value} {below : List Frame} {meth : Method} {c : Code} {cc : ByteArray} {H : Heap} {locs : List Loc} {cells slots nL n index maxL pc : Nat} {Q : State → Prop} {ls : Array Slot} {st0 rest As : List Value} {own : String} {y : MethodName} {bytes : ByteArray} {ret : Option FieldType} {wsy Ts : List Cond} {rm : Room} {D : va_G} {cl : List vw_C} {tys : List (ClassId × FieldType)} {ws wc wr : va_W} {A : Nat → Prop} {S : Type} {post : UInt64 → S → Prop} {w1 : S → va_W}
    (fix : CallFix p m c cc nL s args Ts own) (hM : Met l y wsy rm (gPc D cl tys As wc H.size) (va_Qd post (gB D cl tys (va_A wc H.size) w1) (va_A wc H.size)) 0 0 (va_A wc H.size)) (cw : CallB R s args own index y bytes maxL ret wsy rm 0 0 n ∧ (Cond.static y).before args s = true) (hK : va_K D cl tys s) (hP : va_P D cl ws H) (hD : va_D A ws) (hS : va_S A s.heap H locs) (hA : ∀ q, s.heap.size ≤ q → A q)
    (isC isR : List Nat) (hC : isC.map (fun i => ws[i]?) = wc.map some) (hR : isR.map (fun i => ws[i]?) = wr.map some) (hnd : (va_nd isR && va_nd isC && isR.all (fun i => !isC.contains i)) = true)
    (hn : As.length = n) (hsize : ls.size = nL) (hstack : st0 = As.reverse ++ rest) (hW : (rest.map fun v => v.category).sum ≤ 8) (hf : cells ≤ R.cells ∧ slots ≤ R.slots) (hdg : decode cc pc = .ok (.invokestatic index, 3))
    (kk : ∀ (r : UInt64) (u : S) (H1 : Heap) (locs1 : List Loc), post r u → va_P D cl (wr ++ w1 u) H1 → va_D A (wr ++ w1 u) → va_S A s.heap H1 locs1 → W p l e R s m args below meth c H1 locs1 cells slots Q (F0 m (pc + 3) ls (.double r :: rest))) : W p l e R s m args below meth c H locs cells slots Q (F0 m pc ls st0) := by
  simp only [Bool.and_eq_true, List.all_eq_true, Bool.not_eq_true', List.contains_eq_mem, decide_eq_false_iff_not] at hnd
  obtain ⟨⟨hn1, hn2⟩, hn3⟩ := hnd
  have hPc := g_subP hP isC hC
  have hDc := hD.sub isC hn2 hC
  have hFc := va_free (wc := wc) hD hS hA isC hC
  refine va_calld (va_runS (As := As) (rest := rest) fix hM cw ⟨g_blind, g_pre hPc hK hDc⟩ rfl hn hsize hstack (lv_room hW) hdg ⟨hf.1, hf.2⟩) hS (fun q _ h => hFc q h) hFc (fun r u t H1 locs1 ht hvm hw hB hz1 hk1 hS => ?_)
  obtain ⟨hP1, hK1, hD1⟩ := hB
  rw [ht] at hP1
  obtain ⟨hP, hD⟩ := va_join (wr := wr) (w1 := w1 u) hP hD isC isR hC hR hn1 hn3 hk1 hFc hP1 hD1
  exact kk r u H1 locs1 hw hP hD hS
theorem gc_Vv {p : Program} {l : Launch} {e : Env} {R : Room} {s : State} {m : MethodId} {args : Array Value} {below : List Frame} {meth : Method} {c : Code} {cc : ByteArray} {H : Heap} {locs : List Loc} {cells slots nL n index maxL pc : Nat} {Q : State → Prop} {ls : Array Slot} {st0 rest As : List Value} {b : Nat} {own C : String} {y : MethodName} {bytes : ByteArray} {ret : Option FieldType} {wsy Ts : List Cond} {rm : Room} {D : va_G} {cl : List vw_C} {tys : List (ClassId × FieldType)} {ws wc wr : va_W} {A : Nat → Prop} {S : Type} {post : S → Prop} {w1 : S → va_W}
    (fix : CallFix p m c cc nL s args Ts own) (hM : Met l y wsy rm (gPc D cl tys (.ref b :: As) wc H.size) (va_Qv post (gB D cl tys (va_A wc H.size) w1) (va_A wc H.size)) 0 0 (va_A wc H.size)) (cw : CallW R s args own C index y bytes maxL ret wsy rm 0 0 n) (hK : va_K D cl tys s) (hP : va_P D cl ws H) (hD : va_D A ws) (hS : va_S A s.heap H locs) (hA : ∀ q, s.heap.size ≤ q → A q)
    (isC isR : List Nat) (hC : isC.map (fun i => ws[i]?) = wc.map some) (hR : isR.map (fun i => ws[i]?) = wr.map some) (hnd : (va_nd isR && va_nd isC && isR.all (fun i => !isC.contains i)) = true) (q0 : Nat) {ci : Nat} {fs : List Value} {qc : vw_C} (he : ws[q0]? = some (b, .inr (ci, fs))) (hc : cl[ci]? = some qc) (hqC : qc.1 = C)
    (hn : As.length = n) (hsize : ls.size = nL) (hstack : st0 = As.reverse ++ .ref b :: rest) (hW : (rest.map fun v => v.category).sum ≤ 8) (hf : cells ≤ R.cells ∧ slots ≤ R.slots) (hdg : decode cc pc = .ok (.invokevirtual index, 3))
    (kk : ∀ (u : S) (H1 : Heap) (locs1 : List Loc), post u → va_P D cl (wr ++ w1 u) H1 → va_D A (wr ++ w1 u) → va_S A s.heap H1 locs1 → W p l e R s m args below meth c H1 locs1 cells slots Q (F0 m (pc + 3) ls (rest))) : W p l e R s m args below meth c H locs cells slots Q (F0 m pc ls st0) := by
  simp only [Bool.and_eq_true, List.all_eq_true, Bool.not_eq_true', List.contains_eq_mem, decide_eq_false_iff_not] at hnd
  obtain ⟨⟨hn1, hn2⟩, hn3⟩ := hnd
  have hPc := g_subP hP isC hC
  have hDc := hD.sub isC hn2 hC
  have hFc := va_free (wc := wc) hD hS hA isC hC
  refine va_callv (va_runV (As := As) (rest := rest) fix hM cw ⟨g_blind, by rw [← hqC]; exact va_recv hK hP hc he, g_pre hPc hK hDc⟩ rfl hn hsize hstack (lv_room hW) hdg ⟨hf.1, hf.2⟩) hS (fun q _ h => hFc q h) hFc (fun u t H1 locs1 ht hvm hw hB hz1 hk1 hS => ?_)
  obtain ⟨hP1, hK1, hD1⟩ := hB
  rw [ht] at hP1
  obtain ⟨hP, hD⟩ := va_join (wr := wr) (w1 := w1 u) hP hD isC isR hC hR hn1 hn3 hk1 hFc hP1 hD1
  exact kk u H1 locs1 hw hP hD hS
theorem gc_Sv {p : Program} {l : Launch} {e : Env} {R : Room} {s : State} {m : MethodId} {args : Array Value} {below : List Frame} {meth : Method} {c : Code} {cc : ByteArray} {H : Heap} {locs : List Loc} {cells slots nL n index maxL pc : Nat} {Q : State → Prop} {ls : Array Slot} {st0 rest As : List Value} {own : String} {y : MethodName} {bytes : ByteArray} {ret : Option FieldType} {wsy Ts : List Cond} {rm : Room} {D : va_G} {cl : List vw_C} {tys : List (ClassId × FieldType)} {ws wc wr : va_W} {A : Nat → Prop} {S : Type} {post : S → Prop} {w1 : S → va_W}
    (fix : CallFix p m c cc nL s args Ts own) (hM : Met l y wsy rm (gPc D cl tys As wc H.size) (va_Qv post (gB D cl tys (va_A wc H.size) w1) (va_A wc H.size)) 0 0 (va_A wc H.size)) (cw : CallB R s args own index y bytes maxL ret wsy rm 0 0 n ∧ (Cond.static y).before args s = true) (hK : va_K D cl tys s) (hP : va_P D cl ws H) (hD : va_D A ws) (hS : va_S A s.heap H locs) (hA : ∀ q, s.heap.size ≤ q → A q)
    (isC isR : List Nat) (hC : isC.map (fun i => ws[i]?) = wc.map some) (hR : isR.map (fun i => ws[i]?) = wr.map some) (hnd : (va_nd isR && va_nd isC && isR.all (fun i => !isC.contains i)) = true)
    (hn : As.length = n) (hsize : ls.size = nL) (hstack : st0 = As.reverse ++ rest) (hW : (rest.map fun v => v.category).sum ≤ 8) (hf : cells ≤ R.cells ∧ slots ≤ R.slots) (hdg : decode cc pc = .ok (.invokestatic index, 3))
    (kk : ∀ (u : S) (H1 : Heap) (locs1 : List Loc), post u → va_P D cl (wr ++ w1 u) H1 → va_D A (wr ++ w1 u) → va_S A s.heap H1 locs1 → W p l e R s m args below meth c H1 locs1 cells slots Q (F0 m (pc + 3) ls (rest))) : W p l e R s m args below meth c H locs cells slots Q (F0 m pc ls st0) := by
  simp only [Bool.and_eq_true, List.all_eq_true, Bool.not_eq_true', List.contains_eq_mem, decide_eq_false_iff_not] at hnd
  obtain ⟨⟨hn1, hn2⟩, hn3⟩ := hnd
  have hPc := g_subP hP isC hC
  have hDc := hD.sub isC hn2 hC
  have hFc := va_free (wc := wc) hD hS hA isC hC
  refine va_callv (va_runS (As := As) (rest := rest) fix hM cw ⟨g_blind, g_pre hPc hK hDc⟩ rfl hn hsize hstack (lv_room hW) hdg ⟨hf.1, hf.2⟩) hS (fun q _ h => hFc q h) hFc (fun u t H1 locs1 ht hvm hw hB hz1 hk1 hS => ?_)
  obtain ⟨hP1, hK1, hD1⟩ := hB
  rw [ht] at hP1
  obtain ⟨hP, hD⟩ := va_join (wr := wr) (w1 := w1 u) hP hD isC isR hC hR hn1 hn3 hk1 hFc hP1 hD1
  exact kk u H1 locs1 hw hP hD hS
theorem g_reti {p : Program} {l : Launch} {e : Env} {R : Room} {s : State} {m : MethodId} {args : Array Value} {below : List Frame} {meth : Method} {c : Code} {cc : ByteArray} {H : Heap} {locs : List Loc} {cells slots pc : Nat} {ls : Array Slot} {D : va_G} {cl : List vw_C} {tys : List (ClassId × FieldType)} {A : Nat → Prop} {S : Type} {post : Int32 → S → Prop} {v : Int32} {w1 : S → va_W} {u : S} {ty : FieldType} (hx : p.tables.exec = Jvm.exec) (hb : c.code = cc) (hr : meth.sig.returnType = some ty) (hn : narrow ty (.int v) = .int v) (hlocks : meth.locks = false) (hw : post v u) (hP : va_P D cl (w1 u) H) (hK : va_K D cl tys s) (hD : va_D A (w1 u)) (hS : va_S A s.heap H locs) (hdg : decode cc pc = .ok (.ireturn, 1)) :
    W p l e R s m args below meth c H locs cells slots (MQ below (va_Qi post (gB D cl tys A w1) A) args s cells slots A) (F0 m pc ls [.int v]) :=
  W.zret hx hb hr hn (fun t ht hW => ⟨⟨v, u, rfl, hw, by rw [ht]; exact hP, va_K.moved hW.alike hK, hD⟩, hS.F ht⟩) hS.2.2 hdg hlocks
theorem g_retl {p : Program} {l : Launch} {e : Env} {R : Room} {s : State} {m : MethodId} {args : Array Value} {below : List Frame} {meth : Method} {c : Code} {cc : ByteArray} {H : Heap} {locs : List Loc} {cells slots pc : Nat} {ls : Array Slot} {D : va_G} {cl : List vw_C} {tys : List (ClassId × FieldType)} {A : Nat → Prop} {S : Type} {post : Int64 → S → Prop} {v : Int64} {w1 : S → va_W} {u : S} (hx : p.tables.exec = Jvm.exec) (hb : c.code = cc) (hr : meth.sig.returnType = some .long) (hlocks : meth.locks = false) (hw : post v u) (hP : va_P D cl (w1 u) H) (hK : va_K D cl tys s) (hD : va_D A (w1 u)) (hS : va_S A s.heap H locs) (hdg : decode cc pc = .ok (.lreturn, 1)) :
    W p l e R s m args below meth c H locs cells slots (MQ below (va_Ql post (gB D cl tys A w1) A) args s cells slots A) (F0 m pc ls [.long v]) :=
  W.lret hx hb hr (fun t ht hW => ⟨⟨v, u, rfl, hw, by rw [ht]; exact hP, va_K.moved hW.alike hK, hD⟩, hS.F ht⟩) hS.2.2 hdg hlocks
theorem g_retd {p : Program} {l : Launch} {e : Env} {R : Room} {s : State} {m : MethodId} {args : Array Value} {below : List Frame} {meth : Method} {c : Code} {cc : ByteArray} {H : Heap} {locs : List Loc} {cells slots pc : Nat} {ls : Array Slot} {D : va_G} {cl : List vw_C} {tys : List (ClassId × FieldType)} {A : Nat → Prop} {S : Type} {post : UInt64 → S → Prop} {v : UInt64} {w1 : S → va_W} {u : S} (hx : p.tables.exec = Jvm.exec) (hb : c.code = cc) (hr : meth.sig.returnType = some .double) (hlocks : meth.locks = false) (hw : post v u) (hP : va_P D cl (w1 u) H) (hK : va_K D cl tys s) (hD : va_D A (w1 u)) (hS : va_S A s.heap H locs) (hdg : decode cc pc = .ok (.dreturn, 1)) :
    W p l e R s m args below meth c H locs cells slots (MQ below (va_Qd post (gB D cl tys A w1) A) args s cells slots A) (F0 m pc ls [.double v]) :=
  W.dret hx hb hr (fun t ht hW => ⟨⟨v, u, rfl, hw, by rw [ht]; exact hP, va_K.moved hW.alike hK, hD⟩, hS.F ht⟩) hS.2.2 hdg hlocks
theorem g_retv {p : Program} {l : Launch} {e : Env} {R : Room} {s : State} {m : MethodId} {args : Array Value} {below : List Frame} {meth : Method} {c : Code} {cc : ByteArray} {H : Heap} {locs : List Loc} {cells slots pc : Nat} {ls : Array Slot} {D : va_G} {cl : List vw_C} {tys : List (ClassId × FieldType)} {A : Nat → Prop} {S : Type} {post : S → Prop} {w1 : S → va_W} {u : S} (hx : p.tables.exec = Jvm.exec) (hb : c.code = cc) (hr : meth.sig.returnType = none) (hlocks : meth.locks = false) (hw : post u) (hP : va_P D cl (w1 u) H) (hK : va_K D cl tys s) (hD : va_D A (w1 u)) (hS : va_S A s.heap H locs) (hdg : decode cc pc = .ok (.return_, 1)) :
    W p l e R s m args below meth c H locs cells slots (MQ below (va_Qv post (gB D cl tys A w1) A) args s cells slots A) (F0 m pc ls []) :=
  W.vret hx hb hr (fun t ht hW => ⟨⟨u, rfl, hw, by rw [ht]; exact hP, va_K.moved hW.alike hK, hD⟩, hS.F ht⟩) hS.2.2 hdg hlocks
theorem gv_iald {p : Program} {l : Launch} {e : Env} {R : Room} {s : State} {m : MethodId} {args : Array Value} {below : List Frame} {meth : Method} {c : Code} {cc : ByteArray} {H : Heap} {locs : List Loc} {cells slots pc : Nat} {Q : State → Prop} {ls : Array Slot} {D : va_G} {cl : List vw_C} {tys : List (ClassId × FieldType)} {ws : va_W} {a : Nat} {rest : List Value} (hexec : p.tables.exec = Jvm.exec) (hb : c.code = cc) (hK : va_K D cl tys s) (hP : va_P D cl ws H) (q0 t0 : Nat) {cA : ClassId} {n : Nat} {f : Nat → Int32} (ha : ws[q0]? = some (a, .inl (cA, n, .inl f))) (ht : tys[t0]? = some (cA, .int)) {i : Int32} {k : Nat} (hk : i.toNatClampNeg = k) (hin : vp_in i n) (hdg : decode cc pc = .ok (.iaload, 1))
    (kk : W p l e R s m args below meth c H locs cells slots Q (F0 m (pc + 1) ls (.int (f k) :: rest))) : W p l e R s m args below meth c H locs cells slots Q (F0 m pc ls (.int i :: .ref a :: rest)) := by
  subst hk
  exact va_iald hexec hb hK hP q0 t0 ha ht hin hdg kk
theorem gv_lald {p : Program} {l : Launch} {e : Env} {R : Room} {s : State} {m : MethodId} {args : Array Value} {below : List Frame} {meth : Method} {c : Code} {cc : ByteArray} {H : Heap} {locs : List Loc} {cells slots pc : Nat} {Q : State → Prop} {ls : Array Slot} {D : va_G} {cl : List vw_C} {tys : List (ClassId × FieldType)} {ws : va_W} {a : Nat} {rest : List Value} (hexec : p.tables.exec = Jvm.exec) (hb : c.code = cc) (hK : va_K D cl tys s) (hP : va_P D cl ws H) (q0 t0 : Nat) {cA : ClassId} {n : Nat} {f : Nat → Int64} (ha : ws[q0]? = some (a, .inl (cA, n, .inr (.inl f)))) (ht : tys[t0]? = some (cA, .long)) {i : Int32} {k : Nat} (hk : i.toNatClampNeg = k) (hin : vp_in i n) (hdg : decode cc pc = .ok (.laload, 1))
    (kk : W p l e R s m args below meth c H locs cells slots Q (F0 m (pc + 1) ls (.long (f k) :: rest))) : W p l e R s m args below meth c H locs cells slots Q (F0 m pc ls (.int i :: .ref a :: rest)) := by
  subst hk
  exact va_lald hexec hb hK hP q0 t0 ha ht hin hdg kk
theorem gv_iast {p : Program} {l : Launch} {e : Env} {R : Room} {s : State} {m : MethodId} {args : Array Value} {below : List Frame} {meth : Method} {c : Code} {cc : ByteArray} {H : Heap} {locs : List Loc} {cells slots pc : Nat} {Q : State → Prop} {ls : Array Slot} {D : va_G} {cl : List vw_C} {tys : List (ClassId × FieldType)} {ws : va_W} {A : Nat → Prop} {H0 : Heap} {a : Nat} {rest : List Value} (hexec : p.tables.exec = Jvm.exec) (hb : c.code = cc) (hK : va_K D cl tys s) (hP : va_P D cl ws H) (hD : va_D A ws) (hS : va_S A H0 H locs) (q0 t0 : Nat) {cA : ClassId} {n : Nat} {f : Nat → Int32} (ha : ws[q0]? = some (a, .inl (cA, n, .inl f))) (ht : tys[t0]? = some (cA, .int)) {i : Int32} {x : Int32} {k : Nat} (hk : i.toNatClampNeg = k) (hin : vp_in i n) (hdg : decode cc pc = .ok (.iastore, 1))
    (kk : ∀ (H1 : Heap) (locs1 : List Loc), va_P D cl (ws.set q0 (a, .inl (cA, n, .inl (upd f k x)))) H1 → va_D A (ws.set q0 (a, .inl (cA, n, .inl (upd f k x)))) → va_S A H0 H1 locs1 → W p l e R s m args below meth c H1 locs1 cells slots Q (F0 m (pc + 1) ls rest)) : W p l e R s m args below meth c H locs cells slots Q (F0 m pc ls (.int x :: .int i :: .ref a :: rest)) := by
  subst hk
  exact va_iast hexec hb hK hP hD hS q0 t0 ha ht hin hdg kk
theorem gv_last {p : Program} {l : Launch} {e : Env} {R : Room} {s : State} {m : MethodId} {args : Array Value} {below : List Frame} {meth : Method} {c : Code} {cc : ByteArray} {H : Heap} {locs : List Loc} {cells slots pc : Nat} {Q : State → Prop} {ls : Array Slot} {D : va_G} {cl : List vw_C} {tys : List (ClassId × FieldType)} {ws : va_W} {A : Nat → Prop} {H0 : Heap} {a : Nat} {rest : List Value} (hexec : p.tables.exec = Jvm.exec) (hb : c.code = cc) (hK : va_K D cl tys s) (hP : va_P D cl ws H) (hD : va_D A ws) (hS : va_S A H0 H locs) (q0 t0 : Nat) {cA : ClassId} {n : Nat} {f : Nat → Int64} (ha : ws[q0]? = some (a, .inl (cA, n, .inr (.inl f)))) (ht : tys[t0]? = some (cA, .long)) {i : Int32} {x : Int64} {k : Nat} (hk : i.toNatClampNeg = k) (hin : vp_in i n) (hdg : decode cc pc = .ok (.lastore, 1))
    (kk : ∀ (H1 : Heap) (locs1 : List Loc), va_P D cl (ws.set q0 (a, .inl (cA, n, .inr (.inl (vp_updL f k x))))) H1 → va_D A (ws.set q0 (a, .inl (cA, n, .inr (.inl (vp_updL f k x))))) → va_S A H0 H1 locs1 → W p l e R s m args below meth c H1 locs1 cells slots Q (F0 m (pc + 1) ls rest)) : W p l e R s m args below meth c H locs cells slots Q (F0 m pc ls (.long x :: .int i :: .ref a :: rest)) := by
  subst hk
  exact va_last hexec hb hK hP hD hS q0 t0 ha ht hin hdg kk
theorem ne_i {x k : Int32} {z : Int} (hz : k.toInt = z) (h : ¬ x = k) : x.toInt ≠ z := fun q => h (Int32.toInt_inj.mp (q.trans hz.symm))
theorem i_X0 : ∀ w ∈ u_ws RX0 TX0 1, w ∈ TBL := by decide +kernel
theorem i_X1 : ∀ w ∈ u_ws RX1 TX1 6, w ∈ TBL := by decide +kernel
theorem i_X2 : ∀ w ∈ u_ws RX2 TX2 9, w ∈ TBL := by decide +kernel
theorem i_X3 : ∀ w ∈ u_ws RX3 TX3 8, w ∈ TBL := by decide +kernel
theorem i_X4 : ∀ w ∈ u_ws RX4 TX4 17, w ∈ TBL := by decide +kernel
