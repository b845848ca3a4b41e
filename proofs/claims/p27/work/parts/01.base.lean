-- ===== PART A: goes FIRST, ahead of the names: the tables' words, and 'selects' of the private methods out of them =====
/-- a private method of a class that the tables say can be made, by its rows of tables_1 -/
def lw_okq (q : MethodName × Nat) : Prop := (q.1.cls ≠ "java/lang/invoke/MethodHandle" ∧ q.1.cls ≠ "java/lang/invoke/VarHandle") ∧ Cond.instantiable q.1.cls q.2 ∈ tables_1 ∧ Cond.privateMethod q.1 ∈ tables_1 ∧ Cond.instanceMethod q.1 ∈ tables_1
theorem lw_p0 : lw_okq (⟨"java/lang/Throwable", "fillInStackTrace", "(I)Ljava/lang/Throwable;"⟩, 6) := ⟨⟨by decide +kernel, by decide +kernel⟩, List.mem_of_getElem? (i := 159) (by decide +kernel), List.mem_of_getElem? (i := 157) (by decide +kernel), List.mem_of_getElem? (i := 158) (by decide +kernel)⟩
theorem lw_p1 : lw_okq (⟨"CreditBeams$Show", "isThere", "(III)Z"⟩, 9) := ⟨⟨by decide +kernel, by decide +kernel⟩, List.mem_of_getElem? (i := 34) (by decide +kernel), List.mem_of_getElem? (i := 247) (by decide +kernel), List.mem_of_getElem? (i := 248) (by decide +kernel)⟩
theorem lw_p2 : lw_okq (⟨"CreditBeams$Show", "endOf", "(I)I"⟩, 9) := ⟨⟨by decide +kernel, by decide +kernel⟩, List.mem_of_getElem? (i := 34) (by decide +kernel), List.mem_of_getElem? (i := 251) (by decide +kernel), List.mem_of_getElem? (i := 252) (by decide +kernel)⟩
theorem lw_p3 : lw_okq (⟨"CreditBeams", "saveState", "()V"⟩, 8) := ⟨⟨by decide +kernel, by decide +kernel⟩, List.mem_of_getElem? (i := 15) (by decide +kernel), List.mem_of_getElem? (i := 299) (by decide +kernel), List.mem_of_getElem? (i := 300) (by decide +kernel)⟩
theorem lw_p4 : lw_okq (⟨"CreditBeams$Credits", "putCell", "(II)V"⟩, 1) := ⟨⟨by decide +kernel, by decide +kernel⟩, List.mem_of_getElem? (i := 23) (by decide +kernel), List.mem_of_getElem? (i := 319) (by decide +kernel), List.mem_of_getElem? (i := 320) (by decide +kernel)⟩
theorem lw_p5 : lw_okq (⟨"CreditBeams", "showAnew", "()V"⟩, 8) := ⟨⟨by decide +kernel, by decide +kernel⟩, List.mem_of_getElem? (i := 15) (by decide +kernel), List.mem_of_getElem? (i := 323) (by decide +kernel), List.mem_of_getElem? (i := 324) (by decide +kernel)⟩
theorem lw_p6 : lw_okq (⟨"CreditBeams$Show", "findReach", "(III)V"⟩, 9) := ⟨⟨by decide +kernel, by decide +kernel⟩, List.mem_of_getElem? (i := 34) (by decide +kernel), List.mem_of_getElem? (i := 358) (by decide +kernel), List.mem_of_getElem? (i := 359) (by decide +kernel)⟩
theorem lw_p7 : lw_okq (⟨"CreditBeams$Show", "putLit", "(III)V"⟩, 9) := ⟨⟨by decide +kernel, by decide +kernel⟩, List.mem_of_getElem? (i := 34) (by decide +kernel), List.mem_of_getElem? (i := 365) (by decide +kernel), List.mem_of_getElem? (i := 366) (by decide +kernel)⟩
theorem lw_p8 : lw_okq (⟨"CreditBeams$Show", "lightInTurn", "(II)V"⟩, 9) := ⟨⟨by decide +kernel, by decide +kernel⟩, List.mem_of_getElem? (i := 34) (by decide +kernel), List.mem_of_getElem? (i := 369) (by decide +kernel), List.mem_of_getElem? (i := 370) (by decide +kernel)⟩
theorem lw_p9 : lw_okq (⟨"CreditBeams$Show", "lightTogether", "(II)V"⟩, 9) := ⟨⟨by decide +kernel, by decide +kernel⟩, List.mem_of_getElem? (i := 34) (by decide +kernel), List.mem_of_getElem? (i := 373) (by decide +kernel), List.mem_of_getElem? (i := 374) (by decide +kernel)⟩
theorem lw_p10 : lw_okq (⟨"CreditBeams$Show", "oldestReach", "(III)I"⟩, 9) := ⟨⟨by decide +kernel, by decide +kernel⟩, List.mem_of_getElem? (i := 34) (by decide +kernel), List.mem_of_getElem? (i := 381) (by decide +kernel), List.mem_of_getElem? (i := 382) (by decide +kernel)⟩
theorem lw_p11 : lw_okq (⟨"CreditBeams$Show", "lightEach", "(II)V"⟩, 9) := ⟨⟨by decide +kernel, by decide +kernel⟩, List.mem_of_getElem? (i := 34) (by decide +kernel), List.mem_of_getElem? (i := 385) (by decide +kernel), List.mem_of_getElem? (i := 386) (by decide +kernel)⟩
theorem lw_p12 : lw_okq (⟨"CreditBeams$Show", "finish", "(II)V"⟩, 9) := ⟨⟨by decide +kernel, by decide +kernel⟩, List.mem_of_getElem? (i := 34) (by decide +kernel), List.mem_of_getElem? (i := 389) (by decide +kernel), List.mem_of_getElem? (i := 390) (by decide +kernel)⟩
theorem lw_p13 : lw_okq (⟨"CreditBeams$Show", "noteClash", "(II)V"⟩, 9) := ⟨⟨by decide +kernel, by decide +kernel⟩, List.mem_of_getElem? (i := 34) (by decide +kernel), List.mem_of_getElem? (i := 400) (by decide +kernel), List.mem_of_getElem? (i := 401) (by decide +kernel)⟩
theorem lw_p14 : lw_okq (⟨"CreditBeams$Show", "firstClash", "(II)I"⟩, 9) := ⟨⟨by decide +kernel, by decide +kernel⟩, List.mem_of_getElem? (i := 34) (by decide +kernel), List.mem_of_getElem? (i := 404) (by decide +kernel), List.mem_of_getElem? (i := 405) (by decide +kernel)⟩
theorem lw_p15 : lw_okq (⟨"CreditBeams$Show", "seenLettersOf", "(II)I"⟩, 9) := ⟨⟨by decide +kernel, by decide +kernel⟩, List.mem_of_getElem? (i := 34) (by decide +kernel), List.mem_of_getElem? (i := 469) (by decide +kernel), List.mem_of_getElem? (i := 470) (by decide +kernel)⟩
def lw_privs_1 : List (MethodName × Nat) := [(⟨"java/lang/Throwable", "fillInStackTrace", "(I)Ljava/lang/Throwable;"⟩, 6), (⟨"CreditBeams$Show", "isThere", "(III)Z"⟩, 9), (⟨"CreditBeams$Show", "endOf", "(I)I"⟩, 9), (⟨"CreditBeams", "saveState", "()V"⟩, 8), (⟨"CreditBeams$Credits", "putCell", "(II)V"⟩, 1), (⟨"CreditBeams", "showAnew", "()V"⟩, 8), (⟨"CreditBeams$Show", "findReach", "(III)V"⟩, 9), (⟨"CreditBeams$Show", "putLit", "(III)V"⟩, 9), (⟨"CreditBeams$Show", "lightInTurn", "(II)V"⟩, 9), (⟨"CreditBeams$Show", "lightTogether", "(II)V"⟩, 9), (⟨"CreditBeams$Show", "oldestReach", "(III)I"⟩, 9), (⟨"CreditBeams$Show", "lightEach", "(II)V"⟩, 9), (⟨"CreditBeams$Show", "finish", "(II)V"⟩, 9), (⟨"CreditBeams$Show", "noteClash", "(II)V"⟩, 9), (⟨"CreditBeams$Show", "firstClash", "(II)I"⟩, 9), (⟨"CreditBeams$Show", "seenLettersOf", "(II)I"⟩, 9)]
theorem lw_r1 : ∀ q ∈ lw_privs_1, lw_okq q := List.forall_mem_cons.mpr ⟨lw_p0, List.forall_mem_cons.mpr ⟨lw_p1, List.forall_mem_cons.mpr ⟨lw_p2, List.forall_mem_cons.mpr ⟨lw_p3, List.forall_mem_cons.mpr ⟨lw_p4, List.forall_mem_cons.mpr ⟨lw_p5, List.forall_mem_cons.mpr ⟨lw_p6, List.forall_mem_cons.mpr ⟨lw_p7, List.forall_mem_cons.mpr ⟨lw_p8, List.forall_mem_cons.mpr ⟨lw_p9, List.forall_mem_cons.mpr ⟨lw_p10, List.forall_mem_cons.mpr ⟨lw_p11, List.forall_mem_cons.mpr ⟨lw_p12, List.forall_mem_cons.mpr ⟨lw_p13, List.forall_mem_cons.mpr ⟨lw_p14, List.forall_mem_cons.mpr ⟨lw_p15, fun _ h => absurd h List.not_mem_nil⟩⟩⟩⟩⟩⟩⟩⟩⟩⟩⟩⟩⟩⟩⟩⟩
theorem lw_p16 : lw_okq (⟨"CreditBeams", "coveringBeams", "(I)I"⟩, 8) := ⟨⟨by decide +kernel, by decide +kernel⟩, List.mem_of_getElem? (i := 15) (by decide +kernel), List.mem_of_getElem? (i := 483) (by decide +kernel), List.mem_of_getElem? (i := 484) (by decide +kernel)⟩
theorem lw_p17 : lw_okq (⟨"CreditBeams", "coveringBeats", "(I)I"⟩, 8) := ⟨⟨by decide +kernel, by decide +kernel⟩, List.mem_of_getElem? (i := 15) (by decide +kernel), List.mem_of_getElem? (i := 517) (by decide +kernel), List.mem_of_getElem? (i := 518) (by decide +kernel)⟩
theorem lw_p18 : lw_okq (⟨"CreditBeams", "lettersLost", "()I"⟩, 8) := ⟨⟨by decide +kernel, by decide +kernel⟩, List.mem_of_getElem? (i := 15) (by decide +kernel), List.mem_of_getElem? (i := 521) (by decide +kernel), List.mem_of_getElem? (i := 522) (by decide +kernel)⟩
theorem lw_p19 : lw_okq (⟨"CreditBeams$Credits", "closeGap", "(III)V"⟩, 1) := ⟨⟨by decide +kernel, by decide +kernel⟩, List.mem_of_getElem? (i := 23) (by decide +kernel), List.mem_of_getElem? (i := 589) (by decide +kernel), List.mem_of_getElem? (i := 590) (by decide +kernel)⟩
def lw_privs_2 : List (MethodName × Nat) := [(⟨"CreditBeams", "coveringBeams", "(I)I"⟩, 8), (⟨"CreditBeams", "coveringBeats", "(I)I"⟩, 8), (⟨"CreditBeams", "lettersLost", "()I"⟩, 8), (⟨"CreditBeams$Credits", "closeGap", "(III)V"⟩, 1)]
theorem lw_r2 : ∀ q ∈ lw_privs_2, lw_okq q := List.forall_mem_cons.mpr ⟨lw_p16, List.forall_mem_cons.mpr ⟨lw_p17, List.forall_mem_cons.mpr ⟨lw_p18, List.forall_mem_cons.mpr ⟨lw_p19, fun _ h => absurd h List.not_mem_nil⟩⟩⟩⟩
def lw_privs : List (MethodName × Nat) := lw_privs_1 ++ (lw_privs_2)
def lw_tbl : List Cond := k2_sels lw_privs ++ tables_1
theorem lw_privs_ok : ∀ q ∈ lw_privs, lw_okq q := by
  show ∀ q ∈ lw_privs_1 ++ (lw_privs_2), lw_okq q
  exact List.forall_mem_append.mpr ⟨lw_r1, lw_r2⟩
/-- the streams that the claim lets the run draw from -/
abbrev lw_cs : List Choice := [Jvm.Choice.named "NaN.bits"]
theorem lw_bits : nanBits ∈ lw_cs := by first | decide | exact List.mem_cons_self | simp [lw_cs, nanBits]

def RX0 : String := "CreditBeams$Credits"
def TX0 : u_T := fun k => match k with
  | _ => ("CreditBeams$Credits", "cells", "[I", true)
def tyX0 : Nat → FieldType := fun k => match k with
  | _ => .array .int
theorem nmX0 : ∀ a, a < 1 → ∀ b, b < 1 → a ≠ b → (TX0 a).2.1 ≠ (TX0 b).2.1 := by decide +kernel
theorem tyX0_ok : ∀ k, k < 1 → parseFieldDescriptor (TX0 k).2.2.1 = some (tyX0 k) := by decide +kernel
abbrev cX0_init : ByteArray := prog_2_method_1_code
def yX0_init : MethodName := ⟨RX0, "<init>", "()V"⟩
abbrev cX0_copyTo : ByteArray := prog_2_method_2_code
def yX0_copyTo : MethodName := ⟨RX0, "copyTo", "([II)V"⟩
abbrev cX0_copyFrom : ByteArray := prog_2_method_3_code
def yX0_copyFrom : MethodName := ⟨RX0, "copyFrom", "([II)V"⟩
abbrev cX0_putCell : ByteArray := prog_2_method_4_code
def yX0_putCell : MethodName := ⟨RX0, "putCell", "(II)V"⟩
abbrev cX0_closeGap : ByteArray := prog_2_method_5_code
def yX0_closeGap : MethodName := ⟨RX0, "closeGap", "(III)V"⟩
abbrev cX0_words : ByteArray := prog_2_method_6_code
def yX0_words : MethodName := ⟨RX0, "words", "()I"⟩
abbrev cX0_hasWord : ByteArray := prog_2_method_7_code
def yX0_hasWord : MethodName := ⟨RX0, "hasWord", "(I)Z"⟩
abbrev cX0_ofWord : ByteArray := prog_2_method_8_code
def yX0_ofWord : MethodName := ⟨RX0, "ofWord", "(II)I"⟩
abbrev cX0_putWord : ByteArray := prog_2_method_9_code
def yX0_putWord : MethodName := ⟨RX0, "putWord", "(III)V"⟩
abbrev cX0_addWord : ByteArray := prog_2_method_10_code
def yX0_addWord : MethodName := ⟨RX0, "addWord", "(IIII)I"⟩
abbrev cX0_dropWord : ByteArray := prog_2_method_11_code
def yX0_dropWord : MethodName := ⟨RX0, "dropWord", "(I)V"⟩
abbrev cX0_beams : ByteArray := prog_2_method_12_code
def yX0_beams : MethodName := ⟨RX0, "beams", "()I"⟩
abbrev cX0_hasBeam : ByteArray := prog_2_method_13_code
def yX0_hasBeam : MethodName := ⟨RX0, "hasBeam", "(I)Z"⟩
abbrev cX0_ofBeam : ByteArray := prog_2_method_14_code
def yX0_ofBeam : MethodName := ⟨RX0, "ofBeam", "(II)I"⟩
abbrev cX0_putBeam : ByteArray := prog_2_method_15_code
def yX0_putBeam : MethodName := ⟨RX0, "putBeam", "(III)V"⟩
abbrev cX0_addBeam : ByteArray := prog_2_method_16_code
def yX0_addBeam : MethodName := ⟨RX0, "addBeam", "(IIIII)I"⟩
abbrev cX0_dropBeam : ByteArray := prog_2_method_17_code
def yX0_dropBeam : MethodName := ⟨RX0, "dropBeam", "(I)V"⟩
abbrev cX0_setting : ByteArray := prog_2_method_18_code
def yX0_setting : MethodName := ⟨RX0, "setting", "(I)I"⟩
abbrev cX0_putSetting : ByteArray := prog_2_method_19_code
def yX0_putSetting : MethodName := ⟨RX0, "putSetting", "(II)V"⟩
abbrev cX0_letters : ByteArray := prog_2_method_20_code
def yX0_letters : MethodName := ⟨RX0, "letters", "()I"⟩
abbrev cX0_coveredBy : ByteArray := prog_2_method_21_code
def yX0_coveredBy : MethodName := ⟨RX0, "coveredBy", "(II)J"⟩
abbrev cX0_columnBits : ByteArray := prog_2_method_22_code
def yX0_columnBits : MethodName := ⟨RX0, "columnBits", "(II)J"⟩
def RX1 : String := "CreditBeams$OrderReader"
def TX1 : u_T := fun k => match k with
  | 0 => ("CreditBeams$OrderReader", "numbers", "[I", true)
  | 1 => ("CreditBeams$OrderReader", "kind", "I", false)
  | 2 => ("CreditBeams$OrderReader", "inOrder", "Z", false)
  | 3 => ("CreditBeams$OrderReader", "place", "I", false)
  | 4 => ("CreditBeams$OrderReader", "value", "I", false)
  | _ => ("CreditBeams$OrderReader", "minus", "Z", false)
def tyX1 : Nat → FieldType := fun k => match k with
  | 0 => .array .int
  | 1 => .int
  | 2 => .boolean
  | 3 => .int
  | 4 => .int
  | _ => .boolean
theorem nmX1 : ∀ a, a < 6 → ∀ b, b < 6 → a ≠ b → (TX1 a).2.1 ≠ (TX1 b).2.1 := by decide +kernel
theorem tyX1_ok : ∀ k, k < 6 → parseFieldDescriptor (TX1 k).2.2.1 = some (tyX1 k) := by decide +kernel
abbrev cX1_init : ByteArray := prog_3_method_1_code
def yX1_init : MethodName := ⟨RX1, "<init>", "()V"⟩
def RX2 : String := "CreditBeams$Show"
def TX2 : u_T := fun k => match k with
  | 0 => ("CreditBeams$Show", "credits", "LCreditBeams$Credits;", true)
  | 1 => ("CreditBeams$Show", "light", "[J", true)
  | 2 => ("CreditBeams$Show", "lit", "[I", true)
  | 3 => ("CreditBeams$Show", "whole", "[I", true)
  | 4 => ("CreditBeams$Show", "ends", "[I", true)
  | 5 => ("CreditBeams$Show", "clashes", "[I", true)
  | 6 => ("CreditBeams$Show", "clashPairs", "I", false)
  | 7 => ("CreditBeams$Show", "reach", "[I", true)
  | _ => ("CreditBeams$Show", "latest", "[I", true)
def tyX2 : Nat → FieldType := fun k => match k with
  | 0 => .object "CreditBeams$Credits"
  | 1 => .array .long
  | 2 => .array .int
  | 3 => .array .int
  | 4 => .array .int
  | 5 => .array .int
  | 6 => .int
  | 7 => .array .int
  | _ => .array .int
theorem nmX2 : ∀ a, a < 9 → ∀ b, b < 9 → a ≠ b → (TX2 a).2.1 ≠ (TX2 b).2.1 := by decide +kernel
theorem tyX2_ok : ∀ k, k < 9 → parseFieldDescriptor (TX2 k).2.2.1 = some (tyX2 k) := by decide +kernel
abbrev cX2_init : ByteArray := prog_4_method_1_code
def yX2_init : MethodName := ⟨RX2, "<init>", "(LCreditBeams$Credits;)V"⟩
abbrev cX2_shineAllBut : ByteArray := prog_4_method_3_code
def yX2_shineAllBut : MethodName := ⟨RX2, "shineAllBut", "(I)V"⟩
abbrev cX2_shine : ByteArray := prog_4_method_4_code
def yX2_shine : MethodName := ⟨RX2, "shine", "(IIIII)V"⟩
abbrev cX2_findReach : ByteArray := prog_4_method_5_code
def yX2_findReach : MethodName := ⟨RX2, "findReach", "(III)V"⟩
abbrev cX2_allOf : ByteArray := prog_4_method_6_code
def yX2_allOf : MethodName := ⟨RX2, "allOf", "(I)I"⟩
abbrev cX2_settleAll : ByteArray := prog_4_method_7_code
def yX2_settleAll : MethodName := ⟨RX2, "settleAll", "()V"⟩
abbrev cX2_settle : ByteArray := prog_4_method_8_code
def yX2_settle : MethodName := ⟨RX2, "settle", "(II)V"⟩
abbrev cX2_lightEach : ByteArray := prog_4_method_9_code
def yX2_lightEach : MethodName := ⟨RX2, "lightEach", "(II)V"⟩
abbrev cX2_lightInTurn : ByteArray := prog_4_method_10_code
def yX2_lightInTurn : MethodName := ⟨RX2, "lightInTurn", "(II)V"⟩
abbrev cX2_lightTogether : ByteArray := prog_4_method_11_code
def yX2_lightTogether : MethodName := ⟨RX2, "lightTogether", "(II)V"⟩
abbrev cX2_oldestReach : ByteArray := prog_4_method_12_code
def yX2_oldestReach : MethodName := ⟨RX2, "oldestReach", "(III)I"⟩
abbrev cX2_putLit : ByteArray := prog_4_method_13_code
def yX2_putLit : MethodName := ⟨RX2, "putLit", "(III)V"⟩
abbrev cX2_finish : ByteArray := prog_4_method_14_code
def yX2_finish : MethodName := ⟨RX2, "finish", "(II)V"⟩
abbrev cX2_nextBar : ByteArray := prog_4_method_15_code
def yX2_nextBar : MethodName := ⟨RX2, "nextBar", "(II)I"⟩
abbrev cX2_litBeat : ByteArray := prog_4_method_16_code
def yX2_litBeat : MethodName := ⟨RX2, "litBeat", "(II)I"⟩
abbrev cX2_wholeFrom : ByteArray := prog_4_method_17_code
def yX2_wholeFrom : MethodName := ⟨RX2, "wholeFrom", "(I)I"⟩
abbrev cX2_endOf : ByteArray := prog_4_method_18_code
def yX2_endOf : MethodName := ⟨RX2, "endOf", "(I)I"⟩
abbrev cX2_goesAt : ByteArray := prog_4_method_19_code
def yX2_goesAt : MethodName := ⟨RX2, "goesAt", "(I)I"⟩
abbrev cX2_firstLit : ByteArray := prog_4_method_20_code
def yX2_firstLit : MethodName := ⟨RX2, "firstLit", "(I)I"⟩
abbrev cX2_litLettersOf : ByteArray := prog_4_method_21_code
def yX2_litLettersOf : MethodName := ⟨RX2, "litLettersOf", "(I)I"⟩
abbrev cX2_litLetters : ByteArray := prog_4_method_22_code
def yX2_litLetters : MethodName := ⟨RX2, "litLetters", "()I"⟩
abbrev cX2_wholeWords : ByteArray := prog_4_method_23_code
def yX2_wholeWords : MethodName := ⟨RX2, "wholeWords", "()I"⟩
abbrev cX2_lastWhole : ByteArray := prog_4_method_24_code
def yX2_lastWhole : MethodName := ⟨RX2, "lastWhole", "()I"⟩
abbrev cX2_isSeen : ByteArray := prog_4_method_25_code
def yX2_isSeen : MethodName := ⟨RX2, "isSeen", "(III)Z"⟩
abbrev cX2_isThere : ByteArray := prog_4_method_26_code
def yX2_isThere : MethodName := ⟨RX2, "isThere", "(III)Z"⟩
abbrev cX2_seenLettersOf : ByteArray := prog_4_method_27_code
def yX2_seenLettersOf : MethodName := ⟨RX2, "seenLettersOf", "(II)I"⟩
abbrev cX2_seenLetters : ByteArray := prog_4_method_28_code
def yX2_seenLetters : MethodName := ⟨RX2, "seenLetters", "(I)I"⟩
abbrev cX2_seenWords : ByteArray := prog_4_method_29_code
def yX2_seenWords : MethodName := ⟨RX2, "seenWords", "(I)I"⟩
abbrev cX2_standingWords : ByteArray := prog_4_method_30_code
def yX2_standingWords : MethodName := ⟨RX2, "standingWords", "(I)I"⟩
abbrev cX2_emptyBeats : ByteArray := prog_4_method_31_code
def yX2_emptyBeats : MethodName := ⟨RX2, "emptyBeats", "()I"⟩
abbrev cX2_findClashes : ByteArray := prog_4_method_32_code
def yX2_findClashes : MethodName := ⟨RX2, "findClashes", "()V"⟩
abbrev cX2_noteClash : ByteArray := prog_4_method_33_code
def yX2_noteClash : MethodName := ⟨RX2, "noteClash", "(II)V"⟩
abbrev cX2_firstClash : ByteArray := prog_4_method_34_code
def yX2_firstClash : MethodName := ⟨RX2, "firstClash", "(II)I"⟩
abbrev cX2_clashesIn : ByteArray := prog_4_method_36_code
def yX2_clashesIn : MethodName := ⟨RX2, "clashesIn", "(I)I"⟩
abbrev cX2_clashBeats : ByteArray := prog_4_method_37_code
def yX2_clashBeats : MethodName := ⟨RX2, "clashBeats", "()I"⟩
abbrev cX2_clashPairs : ByteArray := prog_4_method_38_code
def yX2_clashPairs : MethodName := ⟨RX2, "clashPairs", "()I"⟩
def RX3 : String := "CreditBeams"
def TX3 : u_T := fun k => match k with
  | 0 => ("CreditBeams", "credits", "LCreditBeams$Credits;", true)
  | 1 => ("CreditBeams", "shown", "LCreditBeams$Show;", true)
  | 2 => ("CreditBeams", "trial", "LCreditBeams$Show;", true)
  | 3 => ("CreditBeams", "reader", "LCreditBeams$OrderReader;", true)
  | 4 => ("CreditBeams", "saved", "[I", true)
  | 5 => ("CreditBeams", "savedCount", "I", false)
  | 6 => ("CreditBeams", "buffer", "[I", true)
  | _ => ("CreditBeams", "bufferLength", "I", false)
def tyX3 : Nat → FieldType := fun k => match k with
  | 0 => .object "CreditBeams$Credits"
  | 1 => .object "CreditBeams$Show"
  | 2 => .object "CreditBeams$Show"
  | 3 => .object "CreditBeams$OrderReader"
  | 4 => .array .int
  | 5 => .int
  | 6 => .array .int
  | _ => .int
theorem nmX3 : ∀ a, a < 8 → ∀ b, b < 8 → a ≠ b → (TX3 a).2.1 ≠ (TX3 b).2.1 := by decide +kernel
theorem tyX3_ok : ∀ k, k < 8 → parseFieldDescriptor (TX3 k).2.2.1 = some (tyX3 k) := by decide +kernel
abbrev cX3_init : ByteArray := prog_1_method_1_code
def yX3_init : MethodName := ⟨RX3, "<init>", "()V"⟩
abbrev cX3_word : ByteArray := prog_1_method_2_code
def yX3_word : MethodName := ⟨RX3, "word", "(IIII)I"⟩
abbrev cX3_rule : ByteArray := prog_1_method_3_code
def yX3_rule : MethodName := ⟨RX3, "rule", "(III)I"⟩
abbrev cX3_cue : ByteArray := prog_1_method_4_code
def yX3_cue : MethodName := ⟨RX3, "cue", "(II)I"⟩
abbrev cX3_removeWord : ByteArray := prog_1_method_5_code
def yX3_removeWord : MethodName := ⟨RX3, "removeWord", "(I)I"⟩
abbrev cX3_beam : ByteArray := prog_1_method_6_code
def yX3_beam : MethodName := ⟨RX3, "beam", "(IIIII)I"⟩
abbrev cX3_turn : ByteArray := prog_1_method_7_code
def yX3_turn : MethodName := ⟨RX3, "turn", "(I)I"⟩
abbrev cX3_removeBeam : ByteArray := prog_1_method_8_code
def yX3_removeBeam : MethodName := ⟨RX3, "removeBeam", "(I)I"⟩
abbrev cX3_set : ByteArray := prog_1_method_9_code
def yX3_set : MethodName := ⟨RX3, "set", "(II)I"⟩
abbrev cX3_undo : ByteArray := prog_1_method_14_code
def yX3_undo : MethodName := ⟨RX3, "undo", "()I"⟩
abbrev cX3_wordOf : ByteArray := prog_1_method_15_code
def yX3_wordOf : MethodName := ⟨RX3, "wordOf", "(II)I"⟩
abbrev cX3_litAt : ByteArray := prog_1_method_16_code
def yX3_litAt : MethodName := ⟨RX3, "litAt", "(II)I"⟩
abbrev cX3_beamOf : ByteArray := prog_1_method_17_code
def yX3_beamOf : MethodName := ⟨RX3, "beamOf", "(II)I"⟩
abbrev cX3_beat : ByteArray := prog_1_method_18_code
def yX3_beat : MethodName := ⟨RX3, "beat", "(II)I"⟩
abbrev cX3_seen : ByteArray := prog_1_method_19_code
def yX3_seen : MethodName := ⟨RX3, "seen", "(III)I"⟩
abbrev cX3_count : ByteArray := prog_1_method_20_code
def yX3_count : MethodName := ⟨RX3, "count", "(I)I"⟩
abbrev cX3_litShare : ByteArray := prog_1_method_24_code
def yX3_litShare : MethodName := ⟨RX3, "litShare", "()D"⟩
abbrev cX3_within : ByteArray := prog_1_method_26_code
def yX3_within : MethodName := ⟨RX3, "within", "(III)Z"⟩
abbrev cX3_isBeat : ByteArray := prog_1_method_27_code
def yX3_isBeat : MethodName := ⟨RX3, "isBeat", "(I)Z"⟩
abbrev cX3_isWord : ByteArray := prog_1_method_28_code
def yX3_isWord : MethodName := ⟨RX3, "isWord", "(IIII)Z"⟩
abbrev cX3_isBeam : ByteArray := prog_1_method_29_code
def yX3_isBeam : MethodName := ⟨RX3, "isBeam", "(IIII)Z"⟩
abbrev cX3_saveState : ByteArray := prog_1_method_30_code
def yX3_saveState : MethodName := ⟨RX3, "saveState", "()V"⟩
abbrev cX3_showAnew : ByteArray := prog_1_method_31_code
def yX3_showAnew : MethodName := ⟨RX3, "showAnew", "()V"⟩
abbrev cX3_lettersLost : ByteArray := prog_1_method_33_code
def yX3_lettersLost : MethodName := ⟨RX3, "lettersLost", "()I"⟩
abbrev cX3_coveringBeats : ByteArray := prog_1_method_34_code
def yX3_coveringBeats : MethodName := ⟨RX3, "coveringBeats", "(I)I"⟩
abbrev cX3_coveringBeams : ByteArray := prog_1_method_35_code
def yX3_coveringBeams : MethodName := ⟨RX3, "coveringBeams", "(I)I"⟩
def RX4 : String := "CreditBeamsModel"
def TX4 : u_T := fun k => match k with
  | _ => ("", "", "", false)
def tyX4 : Nat → FieldType := fun k => match k with
  | _ => .int
theorem nmX4 : ∀ a, a < 0 → ∀ b, b < 0 → a ≠ b → (TX4 a).2.1 ≠ (TX4 b).2.1 := by decide +kernel
theorem tyX4_ok : ∀ k, k < 0 → parseFieldDescriptor (TX4 k).2.2.1 = some (tyX4 k) := by decide +kernel
def RJx145de : String := "java/io/Serializable"
def TJx145de : u_T := fun k => match k with
  | _ => ("", "", "", false)
def tyJx145de : Nat → FieldType := fun k => match k with
  | _ => .int
theorem nmJx145de : ∀ a, a < 0 → ∀ b, b < 0 → a ≠ b → (TJx145de a).2.1 ≠ (TJx145de b).2.1 := by decide +kernel
theorem tyJx145de_ok : ∀ k, k < 0 → parseFieldDescriptor (TJx145de k).2.2.1 = some (tyJx145de k) := by decide +kernel
def RJ9 : String := "java/lang/Math"
def TJ9 : u_T := fun k => match k with
  | _ => ("", "", "", false)
def tyJ9 : Nat → FieldType := fun k => match k with
  | _ => .int
theorem nmJ9 : ∀ a, a < 0 → ∀ b, b < 0 → a ≠ b → (TJ9 a).2.1 ≠ (TJ9 b).2.1 := by decide +kernel
theorem tyJ9_ok : ∀ k, k < 0 → parseFieldDescriptor (TJ9 k).2.2.1 = some (tyJ9 k) := by decide +kernel
abbrev cJ9_max_7cf53 : ByteArray := prog_11_method_65_code
def yJ9_max_7cf53 : MethodName := ⟨RJ9, "max", "(II)I"⟩
abbrev cJ9_min_7cf53 : ByteArray := prog_11_method_69_code
def yJ9_min_7cf53 : MethodName := ⟨RJ9, "min", "(II)I"⟩
def RJ0 : String := "java/lang/String"
def TJ0 : u_T := fun k => match k with
  | _ => ("", "", "", false)
def tyJ0 : Nat → FieldType := fun k => match k with
  | _ => .int
theorem nmJ0 : ∀ a, a < 0 → ∀ b, b < 0 → a ≠ b → (TJ0 a).2.1 ≠ (TJ0 b).2.1 := by decide +kernel
theorem tyJ0_ok : ∀ k, k < 0 → parseFieldDescriptor (TJ0 k).2.2.1 = some (tyJ0 k) := by decide +kernel
def RJ10 : String := "java/lang/System"
def TJ10 : u_T := fun k => match k with
  | _ => ("", "", "", false)
def tyJ10 : Nat → FieldType := fun k => match k with
  | _ => .int
theorem nmJ10 : ∀ a, a < 0 → ∀ b, b < 0 → a ≠ b → (TJ10 a).2.1 ≠ (TJ10 b).2.1 := by decide +kernel
theorem tyJ10_ok : ∀ k, k < 0 → parseFieldDescriptor (TJ10 k).2.2.1 = some (tyJ10 k) := by decide +kernel
def RJ7 : String := "java/util/Arrays"
def TJ7 : u_T := fun k => match k with
  | _ => ("", "", "", false)
def tyJ7 : Nat → FieldType := fun k => match k with
  | _ => .int
theorem nmJ7 : ∀ a, a < 0 → ∀ b, b < 0 → a ≠ b → (TJ7 a).2.1 ≠ (TJ7 b).2.1 := by decide +kernel
theorem tyJ7_ok : ∀ k, k < 0 → parseFieldDescriptor (TJ7 k).2.2.1 = some (tyJ7 k) := by decide +kernel
abbrev cJ7_fill_d0a16 : ByteArray := prog_16_method_101_code
def yJ7_fill_d0a16 : MethodName := ⟨RJ7, "fill", "([JJ)V"⟩
abbrev cJ7_fill_53178 : ByteArray := prog_16_method_103_code
def yJ7_fill_53178 : MethodName := ⟨RJ7, "fill", "([II)V"⟩
def RL : String := "CreditBeamsLaw"
abbrev cL_low : ByteArray := method_2_code
def yL_low : MethodName := ⟨RL, "low", "(II)I"⟩
abbrev cL_cell : ByteArray := method_3_code
def yL_cell : MethodName := ⟨RL, "cell", "([II)I"⟩
abbrev cL_word : ByteArray := method_4_code
def yL_word : MethodName := ⟨RL, "word", "(LCreditBeams;IIII)I"⟩
abbrev cL_beam : ByteArray := method_5_code
def yL_beam : MethodName := ⟨RL, "beam", "(LCreditBeams;IIIII)I"⟩
abbrev cL_undo : ByteArray := method_6_code
def yL_undo : MethodName := ⟨RL, "undo", "(LCreditBeams;)I"⟩
abbrev cL_words : ByteArray := method_7_code
def yL_words : MethodName := ⟨RL, "words", "(LCreditBeams;)Z"⟩
abbrev cL_beats : ByteArray := method_8_code
def yL_beats : MethodName := ⟨RL, "beats", "(LCreditBeams;I)Z"⟩
abbrev cL_act : ByteArray := method_9_code
def yL_act : MethodName := ⟨RL, "act", "(LCreditBeams;[II)I"⟩
abbrev cL_law : ByteArray := code
def yL_law : MethodName := ⟨RL, "law", "([I)Z"⟩
abbrev vwCl : List vw_C := [(RX0, TX0, 1), (RX1, TX1, 6), (RX2, TX2, 9), (RX3, TX3, 8)]
-- the words that travel: every method's list is its own code in front of these
def TBL : List Cond := lw_tbl.filter goodWord
theorem mem_T {i : Nat} {w : Cond} (h : tables_1[i]? = some w) (g : goodWord w = true) : w ∈ TBL := List.mem_filter.mpr ⟨List.mem_append_right _ (List.mem_of_getElem? h), g⟩
theorem mem_S {i : Nat} {w : Cond} (h : (k2_sels lw_privs)[i]? = some w) (g : goodWord w = true) : w ∈ TBL := List.mem_filter.mpr ⟨List.mem_append_left _ (List.mem_of_getElem? h), g⟩
theorem good_T {w : Cond} (h : w ∈ TBL) : (w.onTables && w.keeps) = true ∨ ∃ ty, w = .arrayClass ty := good_of_word (List.mem_filter.mp h).2
theorem goodIn_T {cw : Cond} (h5 : cw ∈ TBL) : GoodIn TBL (cw :: TBL) := by
  intro w hw
  rcases List.mem_cons.mp hw with rfl | hw
  · exact ⟨h5, good_T h5⟩
  · exact ⟨hw, good_T hw⟩
theorem g_V {own C : String} {idx : Nat} {y : MethodName} {cw : Cond} (h1 : .methodLink own idx y ∈ TBL) (h2 : .instanceMethod y ∈ TBL) (h3 : .selects C y y ∈ TBL) (h4 : .initialized C ∈ TBL) (h5 : cw ∈ TBL) : GoodIn TBL (wsV own idx C y (cw :: TBL)) := by
  intro w hw
  simp only [wsV, List.mem_append, List.mem_cons, List.not_mem_nil, or_false] at hw
  rcases hw with (rfl | rfl | rfl | rfl) | (rfl | hw)
  · exact ⟨h1, good_T h1⟩
  · exact ⟨h2, good_T h2⟩
  · exact ⟨h3, good_T h3⟩
  · exact ⟨h4, good_T h4⟩
  · exact ⟨h5, good_T h5⟩
  · exact ⟨hw, good_T hw⟩
theorem g_S {own : String} {idx : Nat} {y : MethodName} {cw : Cond} (h1 : .methodLink own idx y ∈ TBL) (h2 : .static y ∈ TBL) (h4 : .initialized y.cls ∈ TBL) (h5 : cw ∈ TBL) : GoodIn TBL (va_wsS own idx y (cw :: TBL)) := by
  intro w hw
  simp only [va_wsS, List.mem_append, List.mem_cons, List.not_mem_nil, or_false] at hw
  rcases hw with (rfl | rfl | rfl) | (rfl | hw)
  · exact ⟨h1, good_T h1⟩
  · exact ⟨h2, good_T h2⟩
  · exact ⟨h4, good_T h4⟩
  · exact ⟨h5, good_T h5⟩
  · exact ⟨hw, good_T hw⟩
abbrev gTy (cI cJ : ClassId) : List (ClassId × FieldType) := [(cI, .int), (cJ, .long)]
def gPc (D : va_G) (cl : List vw_C) (tys : List (ClassId × FieldType)) (av : List Value) (ws : va_W) (sz : Nat) : Array Value → State → Prop := va_Pc av (fun U => U.heap.size = sz ∧ va_P D cl ws U.heap ∧ va_K D cl tys U ∧ va_D (fun _ => True) ws)
def gB {S : Type} (D : va_G) (cl : List vw_C) (tys : List (ClassId × FieldType)) (A : Nat → Prop) (w1 : S → va_W) : S → State → Prop := fun u t => va_P D cl (w1 u) t.heap ∧ va_K D cl tys t ∧ va_D A (w1 u)
theorem g_blind {D : va_G} {cl : List vw_C} {tys : List (ClassId × FieldType)} {av : List Value} {ws : va_W} {sz : Nat} : FrameBlind (gPc D cl tys av ws sz) := fun a U g mk q => by
  obtain ⟨q0, q1, qP, qK, qD⟩ := q
  exact ⟨q0, q1, qP, va_K.moved (u := U) (U := U.calling g mk a) (Vm.Alike.refl U.vm) qK, qD⟩
theorem g_pre {D : va_G} {cl : List vw_C} {tys : List (ClassId × FieldType)} {av : List Value} {wc : va_W} {s : State} {H : Heap} {A : Nat → Prop} (hP : va_P D cl wc H) (hK : va_K D cl tys s) (hD : va_D A wc) : ∀ U : State, U.heap = H → s.WarmedH U.vm → gPc D cl tys av wc H.size av.toArray U :=
  fun U hU hW => ⟨rfl, by rw [hU], by rw [hU]; exact hP, va_K.moved hW.alike hK, hD.weaken (fun _ _ _ _ => trivial)⟩
theorem g_subP {D : va_G} {cl : List vw_C} {ws wc : va_W} {H : Heap} (hP : va_P D cl ws H) (isC : List Nat) (hC : isC.map (fun i => ws[i]?) = wc.map some) : va_P D cl wc H := by
  intro k q h
  have h1 : (wc.map some)[k]? = some (some q) := by rw [List.getElem?_map, h]; rfl
  rw [← hC, List.getElem?_map] at h1
  obtain ⟨i, -, h2⟩ := Option.map_eq_some_iff.mp h1
  exact hP i q h2
theorem gc_Vi {p : Program} {l : Launch} {e : Env} {R : Room} {s : State} {m : MethodId} {args : Array Value} {below : List Frame} {meth : Method} {c : Code} {cc : ByteArray} {H : Heap} {locs : List Loc} {cells slots nL n index maxL pc : Nat} {Q : State → Prop} {ls : Array Slot} {st0 rest As : List Value} {b : Nat} {own C : String} {y : MethodName} {bytes : ByteArray} {ret : Option FieldType} {wsy Ts : List Cond} {rm : Room} {D : va_G} {cl : List vw_C} {tys : List (ClassId × FieldType)} {ws wc wr : va_W} {A : Nat → Prop} {S : Type} {post : Int32 → S → Prop} {w1 : S → va_W}
    (fix : CallFix p m c cc nL s args Ts own) (hM : Met l y wsy rm (gPc D cl tys (.ref b :: As) wc H.size) (va_Qi post (gB D cl tys (va_A wc H.size) w1) (va_A wc H.size)) 0 0 (va_A wc H.size)) (cw : CallW R s args own C index y bytes maxL ret wsy rm 0 0 n) (hK : va_K D cl tys s) (hP : va_P D cl ws H) (hD : va_D A ws) (hS : va_S A s.heap H locs) (hA : ∀ q, s.heap.size ≤ q → A q)
    (isC isR : List Nat) (hC : isC.map (fun i => ws[i]?) = wc.map some) (hR : isR.map (fun i => ws[i]?) = wr.map some) (hnd : (va_nd isR && va_nd isC && isR.all (fun i => !isC.contains i)) = true) (q0 : Nat) {ci : Nat} {fs : List Value} {qc : vw_C} (he : ws[q0]? = some (b, .inr (ci, fs))) (hc : cl[ci]? = some qc) (hqC : qc.1 = C)
    (hn : As.length = n) (hsize : ls.size = nL) (hstack : st0 = As.reverse ++ .ref b :: rest) (hW : (rest.map fun v => v.category).sum ≤ 8) (hf : cells ≤ R.cells ∧ slots ≤ R.slots) (hdg : decode cc pc = .ok (.invokevirtual index, 3))
    (kk : ∀ (r : Int32) (u : S) (H1 : Heap) (locs1 : List Loc), post r u → va_P D cl (wr ++ w1 u) H1 → va_D A (wr ++ w1 u) → va_S A s.heap H1 locs1 → W p l e R s m args below meth c H1 locs1 cells slots Q (F0 m (pc + 3) ls (.int r :: rest))) : W p l e R s m args below meth c H locs cells slots Q (F0 m pc ls st0) := by
  simp only [Bool.and_eq_true, List.all_eq_true, Bool.not_eq_true', List.contains_eq_mem, decide_eq_false_iff_not] at hnd
  obtain ⟨⟨hn1, hn2⟩, hn3⟩ := hnd
  have hPc := g_subP hP isC hC
  have hDc := hD.sub isC hn2 hC
  have hFc := va_free (wc := wc) hD hS hA isC hC
  refine va_calli (va_runV (As := As) (rest := rest) fix hM cw ⟨g_blind, by rw [← hqC]; exact va_recv hK hP hc he, g_pre hPc hK hDc⟩ rfl hn hsize hstack (lv_room hW) hdg ⟨hf.1, hf.2⟩) hS (fun q _ h => hFc q h) hFc (fun r u t H1 locs1 ht hvm hw hB hz1 hk1 hS => ?_)
  obtain ⟨hP1, hK1, hD1⟩ := hB
  rw [ht] at hP1
  obtain ⟨hP, hD⟩ := va_join (wr := wr) (w1 := w1 u) hP hD isC isR hC hR hn1 hn3 hk1 hFc hP1 hD1
  exact kk r u H1 locs1 hw hP hD hS
theorem gc_Si {p : Program} {l : Launch} {e : Env} {R : Room} {s : State} {m : MethodId} {args : Array Value} {below : List Frame} {meth : Method} {c : Code} {cc : ByteArray} {H : Heap} {locs : List Loc} {cells slots nL n index maxL pc : Nat} {Q : State → Prop} {ls : Array Slot} {st0 rest As : List Value} {own : String} {y : MethodName} {bytes : ByteArray} {ret : Option FieldType} {wsy Ts : List Cond} {rm : Room} {D : va_G} {cl : List vw_C} {tys : List (ClassId × FieldType)} {ws wc wr : va_W} {A : Nat → Prop} {S : Type} {post : Int32 → S → Prop} {w1 : S → va_W}
    (fix : CallFix p m c cc nL s args Ts own) (hM : Met l y wsy rm (gPc D cl tys As wc H.size) (va_Qi post (gB D cl tys (va_A wc H.size) w1) (va_A wc H.size)) 0 0 (va_A wc H.size)) (cw : CallB R s args own index y bytes maxL ret wsy rm 0 0 n ∧ (Cond.static y).before args s = true) (hK : va_K D cl tys s) (hP : va_P D cl ws H) (hD : va_D A ws) (hS : va_S A s.heap H locs) (hA : ∀ q, s.heap.size ≤ q → A q)
    (isC isR : List Nat) (hC : isC.map (fun i => ws[i]?) = wc.map some) (hR : isR.map (fun i => ws[i]?) = wr.map some) (hnd : (va_nd isR && va_nd isC && isR.all (fun i => !isC.contains i)) = true)
    (hn : As.length = n) (hsize : ls.size = nL) (hstack : st0 = As.reverse ++ rest) (hW : (rest.map fun v => v.category).sum ≤ 8) (hf : cells ≤ R.cells ∧ slots ≤ R.slots) (hdg : decode cc pc = .ok (.invokestatic index, 3))
    (kk : ∀ (r : Int32) (u : S) (H1 : Heap) (locs1 : List Loc), post r u → va_P D cl (wr ++ w1 u) H1 → va_D A (wr ++ w1 u) → va_S A s.heap H1 locs1 → W p l e R s m args below meth c H1 locs1 cells slots Q (F0 m (pc + 3) ls (.int r :: rest))) : W p l e R s m args below meth c H locs cells slots Q (F0 m pc ls st0) := by
  simp only [Bool.and_eq_true, List.all_eq_true, Bool.not_eq_true', List.contains_eq_mem, decide_eq_false_iff_not] at hnd
  obtain ⟨⟨hn1, hn2⟩, hn3⟩ := hnd
  have hPc := g_subP hP isC hC
  have hDc := hD.sub isC hn2 hC
  have hFc := va_free (wc := wc) hD hS hA isC hC
  refine va_calli (va_runS (As := As) (rest := rest) fix hM cw ⟨g_blind, g_pre hPc hK hDc⟩ rfl hn hsize hstack (lv_room hW) hdg ⟨hf.1, hf.2⟩) hS (fun q _ h => hFc q h) hFc (fun r u t H1 locs1 ht hvm hw hB hz1 hk1 hS => ?_)
  obtain ⟨hP1, hK1, hD1⟩ := hB
  rw [ht] at hP1
  obtain ⟨hP, hD⟩ := va_join (wr := wr) (w1 := w1 u) hP hD isC isR hC hR hn1 hn3 hk1 hFc hP1 hD1
  exact kk r u H1 locs1 hw hP hD hS
theorem gc_Vl {p : Program} {l : Launch} {e : Env} {R : Room} {s : State} {m : MethodId} {args : Array Value} {below : List Frame} {meth : Method} {c : Code} {cc : ByteArray} {H : Heap} {locs : List Loc} {cells slots nL n index maxL pc : Nat} {Q : State → Prop} {ls : Array Slot} {st0 rest As : List Value} {b : Nat} {own C : String} {y : MethodName} {bytes : ByteArray} {ret : Option FieldType} {wsy Ts : List Cond} {rm : Room} {D : va_G} {cl : List vw_C} {tys : List (ClassId × FieldType)} {ws wc wr : va_W} {A : Nat → Prop} {S : Type} {post : Int64 → S → Prop} {w1 : S → va_W}
    (fix : CallFix p m c cc nL s args Ts own) (hM : Met l y wsy rm (gPc D cl tys (.ref b :: As) wc H.size) (va_Ql post (gB D cl tys (va_A wc H.size) w1) (va_A wc H.size)) 0 0 (va_A wc H.size)) (cw : CallW R s args own C index y bytes maxL ret wsy rm 0 0 n) (hK : va_K D cl tys s) (hP : va_P D cl ws H) (hD : va_D A ws) (hS : va_S A s.heap H locs) (hA : ∀ q, s.heap.size ≤ q → A q)
    (isC isR : List Nat) (hC : isC.map (fun i => ws[i]?) = wc.map some) (hR : isR.map (fun i => ws[i]?) = wr.map some) (hnd : (va_nd isR && va_nd isC && isR.all (fun i => !isC.contains i)) = true) (q0 : Nat) {ci : Nat} {fs : List Value} {qc : vw_C} (he : ws[q0]? = some (b, .inr (ci, fs))) (hc : cl[ci]? = some qc) (hqC : qc.1 = C)
    (hn : As.length = n) (hsize : ls.size = nL) (hstack : st0 = As.reverse ++ .ref b :: rest) (hW : (rest.map fun v => v.category).sum ≤ 8) (hf : cells ≤ R.cells ∧ slots ≤ R.slots) (hdg : decode cc pc = .ok (.invokevirtual index, 3))
    (kk : ∀ (r : Int64) (u : S) (H1 : Heap) (locs1 : List Loc), post r u → va_P D cl (wr ++ w1 u) H1 → va_D A (wr ++ w1 u) → va_S A s.heap H1 locs1 → W p l e R s m args below meth c H1 locs1 cells slots Q (F0 m (pc + 3) ls (.long r :: rest))) : W p l e R s m args below meth c H locs cells slots Q (F0 m pc ls st0) := by
  simp only [Bool.and_eq_true, List.all_eq_true, Bool.not_eq_true', List.contains_eq_mem, decide_eq_false_iff_not] at hnd
  obtain ⟨⟨hn1, hn2⟩, hn3⟩ := hnd
  have hPc := g_subP hP isC hC
  have hDc := hD.sub isC hn2 hC
  have hFc := va_free (wc := wc) hD hS hA isC hC
  refine va_calll (va_runV (As := As) (rest := rest) fix hM cw ⟨g_blind, by rw [← hqC]; exact va_recv hK hP hc he, g_pre hPc hK hDc⟩ rfl hn hsize hstack (lv_room hW) hdg ⟨hf.1, hf.2⟩) hS (fun q _ h => hFc q h) hFc (fun r u t H1 locs1 ht hvm hw hB hz1 hk1 hS => ?_)
  obtain ⟨hP1, hK1, hD1⟩ := hB
  rw [ht] at hP1
  obtain ⟨hP, hD⟩ := va_join (wr := wr) (w1 := w1 u) hP hD isC isR hC hR hn1 hn3 hk1 hFc hP1 hD1
  exact kk r u H1 locs1 hw hP hD hS
theorem gc_Sl {p : Program} {l : Launch} {e : Env} {R : Room} {s : State} {m : MethodId} {args : Array Value} {below : List Frame} {meth : Method} {c : Code} {cc : ByteArray} {H : Heap} {locs : List Loc} {cells slots nL n index maxL pc : Nat} {Q : State → Prop} {ls : Array Slot} {st0 rest As : List Value} {own : String} {y : MethodName} {bytes : ByteArray} {ret : Option FieldType} {wsy Ts : List Cond} {rm : Room} {D : va_G} {cl : List vw_C} {tys : List (ClassId × FieldType)} {ws wc wr : va_W} {A : Nat → Prop} {S : Type} {post : Int64 → S → Prop} {w1 : S → va_W}
    (fix : CallFix p m c cc nL s args Ts own) (hM : Met l y wsy rm (gPc D cl tys As wc H.size) (va_Ql post (gB D cl tys (va_A wc H.size) w1) (va_A wc H.size)) 0 0 (va_A wc H.size)) (cw : CallB R s args own index y bytes maxL ret wsy rm 0 0 n ∧ (Cond.static y).before args s = true) (hK : va_K D cl tys s) (hP : va_P D cl ws H) (hD : va_D A ws) (hS : va_S A s.heap H locs) (hA : ∀ q, s.heap.size ≤ q → A q)
    (isC isR : List Nat) (hC : isC.map (fun i => ws[i]?) = wc.map some) (hR : isR.map (fun i => ws[i]?) = wr.map some) (hnd : (va_nd isR && va_nd isC && isR.all (fun i => !isC.contains i)) = true)
    (hn : As.length = n) (hsize : ls.size = nL) (hstack : st0 = As.reverse ++ rest) (hW : (rest.map fun v => v.category).sum ≤ 8) (hf : cells ≤ R.cells ∧ slots ≤ R.slots) (hdg : decode cc pc = .ok (.invokestatic index, 3))
    (kk : ∀ (r : Int64) (u : S) (H1 : Heap) (locs1 : List Loc), post r u → va_P D cl (wr ++ w1 u) H1 → va_D A (wr ++ w1 u) → va_S A s.heap H1 locs1 → W p l e R s m args below meth c H1 locs1 cells slots Q (F0 m (pc + 3) ls (.long r :: rest))) : W p l e R s m args below meth c H locs cells slots Q (F0 m pc ls st0) := by
  simp only [Bool.and_eq_true, List.all_eq_true, Bool.not_eq_true', List.contains_eq_mem, decide_eq_false_iff_not] at hnd
  obtain ⟨⟨hn1, hn2⟩, hn3⟩ := hnd
  have hPc := g_subP hP isC hC
  have hDc := hD.sub isC hn2 hC
  have hFc := va_free (wc := wc) hD hS hA isC hC
  refine va_calll (va_runS (As := As) (rest := rest) fix hM cw ⟨g_blind, g_pre hPc hK hDc⟩ rfl hn hsize hstack (lv_room hW) hdg ⟨hf.1, hf.2⟩) hS (fun q _ h => hFc q h) hFc (fun r u t H1 locs1 ht hvm hw hB hz1 hk1 hS => ?_)
  obtain ⟨hP1, hK1, hD1⟩ := hB
  rw [ht] at hP1
  obtain ⟨hP, hD⟩ := va_join (wr := wr) (w1 := w1 u) hP hD isC isR hC hR hn1 hn3 hk1 hFc hP1 hD1
  exact kk r u H1 locs1 hw hP hD hS
theorem gc_Vd {p : Program} {l : Launch} {e : Env} {R : Room} {s : State} {m : MethodId} {args : Array Value} {below : List Frame} {meth : Method} {c : Code} {cc : ByteArray} {H : Heap} {locs : List Loc} {cells slots nL n index maxL pc : Nat} {Q : State → Prop} {ls : Array Slot} {st0 rest As : List Value} {b : Nat} {own C : String} {y : MethodName} {bytes : ByteArray} {ret : Option FieldType} {wsy Ts : List Cond} {rm : Room} {D : va_G} {cl : List vw_C} {tys : List (ClassId × FieldType)} {ws wc wr : va_W} {A : Nat → Prop} {S : Type} {post : UInt64 → S → Prop} {w1 : S → va_W}
    (fix : CallFix p m c cc nL s args Ts own) (hM : Met l y wsy rm (gPc D cl tys (.ref b :: As) wc H.size) (va_Qd post (gB D cl tys (va_A wc H.size) w1) (va_A wc H.size)) 0 0 (va_A wc H.size)) (cw : CallW R s args own C index y bytes maxL ret wsy rm 0 0 n) (hK : va_K D cl tys s) (hP : va_P D cl ws H) (hD : va_D A ws) (hS : va_S A s.heap H locs) (hA : ∀ q, s.heap.size ≤ q → A q)
    (isC isR : List Nat) (hC : isC.map (fun i => ws[i]?) = wc.map some) (hR : isR.map (fun i => ws[i]?) = wr.map some) (hnd : (va_nd isR && va_nd isC && isR.all (fun i => !isC.contains i)) = true) (q0 : Nat) {ci : Nat} {fs : List Value} {qc : vw_C} (he : ws[q0]? = some (b, .inr (ci, fs))) (hc : cl[ci]? = some qc) (hqC : qc.1 = C)
    (hn : As.length = n) (hsize : ls.size = nL) (hstack : st0 = As.reverse ++ .ref b :: rest) (hW : (rest.map fun v => v.category).sum ≤ 8) (hf : cells ≤ R.cells ∧ slots ≤ R.slots) (hdg : decode cc pc = .ok (.invokevirtual index, 3))
    (kk : ∀ (r : UInt64) (u : S) (H1 : Heap) (locs1 : List Loc), post r u → va_P D cl (wr ++ w1 u) H1 → va_D A (wr ++ w1 u) → va_S A s.heap H1 locs1 → W p l e R s m args below meth c H1 locs1 cells slots Q (F0 m (pc + 3) ls (.double r :: rest))) : W p l e R s m args below meth c H locs cells slots Q (F0 m pc ls st0) := by
  simp only [Bool.and_eq_true, List.all_eq_true, Bool.not_eq_true', List.contains_eq_mem, decide_eq_false_iff_not] at hnd
  obtain ⟨⟨hn1, hn2⟩, hn3⟩ := hnd
  have hPc := g_subP hP isC hC
  have hDc := hD.sub isC hn2 hC
  have hFc := va_free (wc := wc) hD hS hA isC hC
  refine va_calld (va_runV (As := As) (rest := rest) fix hM cw ⟨g_blind, by rw [← hqC]; exact va_recv hK hP hc he, g_pre hPc hK hDc⟩ rfl hn hsize hstack (lv_room hW) hdg ⟨hf.1, hf.2⟩) hS (fun q _ h => hFc q h) hFc (fun r u t H1 locs1 ht hvm hw hB hz1 hk1 hS => ?_)
  obtain ⟨hP1, hK1, hD1⟩ := hB
  rw [ht] at hP1
  obtain ⟨hP, hD⟩ := va_join (wr := wr) (w1 := w1 u) hP hD isC isR hC hR hn1 hn3 hk1 hFc hP1 hD1
  exact kk r u H1 locs1 hw hP hD hS
theorem gc_Sd {p : Program} {l : Launch} {e : Env} {R : Room} {s : State} {m : MethodId} {args : Array Value} {below : List Frame} {meth : Method} {c : Code} {cc : ByteArray} {H : Heap} {locs : List Loc} {cells slots nL n index maxL pc : Nat} {Q : State → Prop} {ls : Array Slot} {st0 rest As : List Value} {own : String} {y : MethodName} {bytes : ByteArray} {ret : Option FieldType} {wsy Ts : List Cond} {rm : Room} {D : va_G} {cl : List vw_C} {tys : List (ClassId × FieldType)} {ws wc wr : va_W} {A : Nat → Prop} {S : Type} {post : UInt64 → S → Prop} {w1 : S → va_W}
    (fix : CallFix p m c cc nL s args Ts own) (hM : Met l y wsy rm (gPc D cl tys As wc H.size) (va_Qd post (gB D cl tys (va_A wc H.size) w1) (va_A wc H.size)) 0 0 (va_A wc H.size)) (cw : CallB R s args own index y bytes maxL ret wsy rm 0 0 n ∧ (Cond.static y).before args s = true) (hK : va_K D cl tys s) (hP : va_P D cl ws H) (hD : va_D A ws) (hS : va_S A s.heap H locs) (hA : ∀ q, s.heap.size ≤ q → A q)
    (isC isR : List Nat) (hC : isC.map (fun i => ws[i]?) = wc.map some) (hR : isR.map (fun i => ws[i]?) = wr.map some) (hnd : (va_nd isR && va_nd isC && isR.all (fun i => !isC.contains i)) = true)
    (hn : As.length = n) (hsize : ls.size = nL) (hstack : st0 = As.reverse ++ rest) (hW : (rest.map fun v => v.category).sum ≤ 8) (hf : cells ≤ R.cells ∧ slots ≤ R.slots) (hdg : decode cc pc = .ok (.invokestatic index, 3))
    (kk : ∀ (r : UInt64) (u : S) (H1 : Heap) (locs1 : List Loc), post r u → va_P D cl (wr ++ w1 u) H1 → va_D A (wr ++ w1 u) → va_S A s.heap H1 locs1 → W p l e R s m args below meth c H1 locs1 cells slots Q (F0 m (pc + 3) ls (.double r :: rest))) : W p l e R s m args below meth c H locs cells slots Q (F0 m pc ls st0) := by
  simp only [Bool.and_eq_true, List.all_eq_true, Bool.not_eq_true', List.contains_eq_mem, decide_eq_false_iff_not] at hnd
  obtain ⟨⟨hn1, hn2⟩, hn3⟩ := hnd
  have hPc := g_subP hP isC hC
  have hDc := hD.sub isC hn2 hC
  have hFc := va_free (wc := wc) hD hS hA isC hC
  refine va_calld (va_runS (As := As) (rest := rest) fix hM cw ⟨g_blind, g_pre hPc hK hDc⟩ rfl hn hsize hstack (lv_room hW) hdg ⟨hf.1, hf.2⟩) hS (fun q _ h => hFc q h) hFc (fun r u t H1 locs1 ht hvm hw hB hz1 hk1 hS => ?_)
  obtain ⟨hP1, hK1, hD1⟩ := hB
  rw [ht] at hP1
  obtain ⟨hP, hD⟩ := va_join (wr := wr) (w1 := w1 u) hP hD isC isR hC hR hn1 hn3 hk1 hFc hP1 hD1
  exact kk r u H1 locs1 hw hP hD hS
theorem gc_Vv {p : Program} {l : Launch} {e : Env} {R : Room} {s : State} {m : MethodId} {args : Array Value} {below : List Frame} {meth : Method} {c : Code} {cc : ByteArray} {H : Heap} {locs : List Loc} {cells slots nL n index maxL pc : Nat} {Q : State → Prop} {ls : Array Slot} {st0 rest As : List Value} {b : Nat} {own C : String} {y : MethodName} {bytes : ByteArray} {ret : Option FieldType} {wsy Ts : List Cond} {rm : Room} {D : va_G} {cl : List vw_C} {tys : List (ClassId × FieldType)} {ws wc wr : va_W} {A : Nat → Prop} {S : Type} {post : S → Prop} {w1 : S → va_W}
    (fix : CallFix p m c cc nL s args Ts own) (hM : Met l y wsy rm (gPc D cl tys (.ref b :: As) wc H.size) (va_Qv post (gB D cl tys (va_A wc H.size) w1) (va_A wc H.size)) 0 0 (va_A wc H.size)) (cw : CallW R s args own C index y bytes maxL ret wsy rm 0 0 n) (hK : va_K D cl tys s) (hP : va_P D cl ws H) (hD : va_D A ws) (hS : va_S A s.heap H locs) (hA : ∀ q, s.heap.size ≤ q → A q)
    (isC isR : List Nat) (hC : isC.map (fun i => ws[i]?) = wc.map some) (hR : isR.map (fun i => ws[i]?) = wr.map some) (hnd : (va_nd isR && va_nd isC && isR.all (fun i => !isC.contains i)) = true) (q0 : Nat) {ci : Nat} {fs : List Value} {qc : vw_C} (he : ws[q0]? = some (b, .inr (ci, fs))) (hc : cl[ci]? = some qc) (hqC : qc.1 = C)
    (hn : As.length = n) (hsize : ls.size = nL) (hstack : st0 = As.reverse ++ .ref b :: rest) (hW : (rest.map fun v => v.category).sum ≤ 8) (hf : cells ≤ R.cells ∧ slots ≤ R.slots) (hdg : decode cc pc = .ok (.invokevirtual index, 3))
    (kk : ∀ (u : S) (H1 : Heap) (locs1 : List Loc), post u → va_P D cl (wr ++ w1 u) H1 → va_D A (wr ++ w1 u) → va_S A s.heap H1 locs1 → W p l e R s m args below meth c H1 locs1 cells slots Q (F0 m (pc + 3) ls (rest))) : W p l e R s m args below meth c H locs cells slots Q (F0 m pc ls st0) := by
  simp only [Bool.and_eq_true, List.all_eq_true, Bool.not_eq_true', List.contains_eq_mem, decide_eq_false_iff_not] at hnd
  obtain ⟨⟨hn1, hn2⟩, hn3⟩ := hnd
  have hPc := g_subP hP isC hC
  have hDc := hD.sub isC hn2 hC
  have hFc := va_free (wc := wc) hD hS hA isC hC
  refine va_callv (va_runV (As := As) (rest := rest) fix hM cw ⟨g_blind, by rw [← hqC]; exact va_recv hK hP hc he, g_pre hPc hK hDc⟩ rfl hn hsize hstack (lv_room hW) hdg ⟨hf.1, hf.2⟩) hS (fun q _ h => hFc q h) hFc (fun u t H1 locs1 ht hvm hw hB hz1 hk1 hS => ?_)
  obtain ⟨hP1, hK1, hD1⟩ := hB
  rw [ht] at hP1
  obtain ⟨hP, hD⟩ := va_join (wr := wr) (w1 := w1 u) hP hD isC isR hC hR hn1 hn3 hk1 hFc hP1 hD1
  exact kk u H1 locs1 hw hP hD hS
theorem gc_Sv {p : Program} {l : Launch} {e : Env} {R : Room} {s : State} {m : MethodId} {args : Array Value} {below : List Frame} {meth : Method} {c : Code} {cc : ByteArray} {H : Heap} {locs : List Loc} {cells slots nL n index maxL pc : Nat} {Q : State → Prop} {ls : Array Slot} {st0 rest As : List Value} {own : String} {y : MethodName} {bytes : ByteArray} {ret : Option FieldType} {wsy Ts : List Cond} {rm : Room} {D : va_G} {cl : List vw_C} {tys : List (ClassId × FieldType)} {ws wc wr : va_W} {A : Nat → Prop} {S : Type} {post : S → Prop} {w1 : S → va_W}
    (fix : CallFix p m c cc nL s args Ts own) (hM : Met l y wsy rm (gPc D cl tys As wc H.size) (va_Qv post (gB D cl tys (va_A wc H.size) w1) (va_A wc H.size)) 0 0 (va_A wc H.size)) (cw : CallB R s args own index y bytes maxL ret wsy rm 0 0 n ∧ (Cond.static y).before args s = true) (hK : va_K D cl tys s) (hP : va_P D cl ws H) (hD : va_D A ws) (hS : va_S A s.heap H locs) (hA : ∀ q, s.heap.size ≤ q → A q)
    (isC isR : List Nat) (hC : isC.map (fun i => ws[i]?) = wc.map some) (hR : isR.map (fun i => ws[i]?) = wr.map some) (hnd : (va_nd isR && va_nd isC && isR.all (fun i => !isC.contains i)) = true)
    (hn : As.length = n) (hsize : ls.size = nL) (hstack : st0 = As.reverse ++ rest) (hW : (rest.map fun v => v.category).sum ≤ 8) (hf : cells ≤ R.cells ∧ slots ≤ R.slots) (hdg : decode cc pc = .ok (.invokestatic index, 3))
    (kk : ∀ (u : S) (H1 : Heap) (locs1 : List Loc), post u → va_P D cl (wr ++ w1 u) H1 → va_D A (wr ++ w1 u) → va_S A s.heap H1 locs1 → W p l e R s m args below meth c H1 locs1 cells slots Q (F0 m (pc + 3) ls (rest))) : W p l e R s m args below meth c H locs cells slots Q (F0 m pc ls st0) := by
  simp only [Bool.and_eq_true, List.all_eq_true, Bool.not_eq_true', List.contains_eq_mem, decide_eq_false_iff_not] at hnd
  obtain ⟨⟨hn1, hn2⟩, hn3⟩ := hnd
  have hPc := g_subP hP isC hC
  have hDc := hD.sub isC hn2 hC
  have hFc := va_free (wc := wc) hD hS hA isC hC
  refine va_callv (va_runS (As := As) (rest := rest) fix hM cw ⟨g_blind, g_pre hPc hK hDc⟩ rfl hn hsize hstack (lv_room hW) hdg ⟨hf.1, hf.2⟩) hS (fun q _ h => hFc q h) hFc (fun u t H1 locs1 ht hvm hw hB hz1 hk1 hS => ?_)
  obtain ⟨hP1, hK1, hD1⟩ := hB
  rw [ht] at hP1
  obtain ⟨hP, hD⟩ := va_join (wr := wr) (w1 := w1 u) hP hD isC isR hC hR hn1 hn3 hk1 hFc hP1 hD1
  exact kk u H1 locs1 hw hP hD hS
theorem g_reti {p : Program} {l : Launch} {e : Env} {R : Room} {s : State} {m : MethodId} {args : Array Value} {below : List Frame} {meth : Method} {c : Code} {cc : ByteArray} {H : Heap} {locs : List Loc} {cells slots pc : Nat} {ls : Array Slot} {D : va_G} {cl : List vw_C} {tys : List (ClassId × FieldType)} {A : Nat → Prop} {S : Type} {post : Int32 → S → Prop} {v : Int32} {w1 : S → va_W} {u : S} {ty : FieldType} (hx : p.tables.exec = Jvm.exec) (hb : c.code = cc) (hr : meth.sig.returnType = some ty) (hn : narrow ty (.int v) = .int v) (hlocks : meth.locks = false) (hw : post v u) (hP : va_P D cl (w1 u) H) (hK : va_K D cl tys s) (hD : va_D A (w1 u)) (hS : va_S A s.heap H locs) (hdg : decode cc pc = .ok (.ireturn, 1)) :
    W p l e R s m args below meth c H locs cells slots (MQ below (va_Qi post (gB D cl tys A w1) A) args s cells slots A) (F0 m pc ls [.int v]) :=
  W.zret hx hb hr hn (fun t ht hW => ⟨⟨v, u, rfl, hw, by rw [ht]; exact hP, va_K.moved hW.alike hK, hD⟩, hS.F ht⟩) hS.2.2 hdg hlocks
theorem g_retl {p : Program} {l : Launch} {e : Env} {R : Room} {s : State} {m : MethodId} {args : Array Value} {below : List Frame} {meth : Method} {c : Code} {cc : ByteArray} {H : Heap} {locs : List Loc} {cells slots pc : Nat} {ls : Array Slot} {D : va_G} {cl : List vw_C} {tys : List (ClassId × FieldType)} {A : Nat → Prop} {S : Type} {post : Int64 → S → Prop} {v : Int64} {w1 : S → va_W} {u : S} (hx : p.tables.exec = Jvm.exec) (hb : c.code = cc) (hr : meth.sig.returnType = some .long) (hlocks : meth.locks = false) (hw : post v u) (hP : va_P D cl (w1 u) H) (hK : va_K D cl tys s) (hD : va_D A (w1 u)) (hS : va_S A s.heap H locs) (hdg : decode cc pc = .ok (.lreturn, 1)) :
    W p l e R s m args below meth c H locs cells slots (MQ below (va_Ql post (gB D cl tys A w1) A) args s cells slots A) (F0 m pc ls [.long v]) :=
  W.lret hx hb hr (fun t ht hW => ⟨⟨v, u, rfl, hw, by rw [ht]; exact hP, va_K.moved hW.alike hK, hD⟩, hS.F ht⟩) hS.2.2 hdg hlocks
theorem g_retd {p : Program} {l : Launch} {e : Env} {R : Room} {s : State} {m : MethodId} {args : Array Value} {below : List Frame} {meth : Method} {c : Code} {cc : ByteArray} {H : Heap} {locs : List Loc} {cells slots pc : Nat} {ls : Array Slot} {D : va_G} {cl : List vw_C} {tys : List (ClassId × FieldType)} {A : Nat → Prop} {S : Type} {post : UInt64 → S → Prop} {v : UInt64} {w1 : S → va_W} {u : S} (hx : p.tables.exec = Jvm.exec) (hb : c.code = cc) (hr : meth.sig.returnType = some .double) (hlocks : meth.locks = false) (hw : post v u) (hP : va_P D cl (w1 u) H) (hK : va_K D cl tys s) (hD : va_D A (w1 u)) (hS : va_S A s.heap H locs) (hdg : decode cc pc = .ok (.dreturn, 1)) :
    W p l e R s m args below meth c H locs cells slots (MQ below (va_Qd post (gB D cl tys A w1) A) args s cells slots A) (F0 m pc ls [.double v]) :=
  W.dret hx hb hr (fun t ht hW => ⟨⟨v, u, rfl, hw, by rw [ht]; exact hP, va_K.moved hW.alike hK, hD⟩, hS.F ht⟩) hS.2.2 hdg hlocks
theorem g_retv {p : Program} {l : Launch} {e : Env} {R : Room} {s : State} {m : MethodId} {args : Array Value} {below : List Frame} {meth : Method} {c : Code} {cc : ByteArray} {H : Heap} {locs : List Loc} {cells slots pc : Nat} {ls : Array Slot} {D : va_G} {cl : List vw_C} {tys : List (ClassId × FieldType)} {A : Nat → Prop} {S : Type} {post : S → Prop} {w1 : S → va_W} {u : S} (hx : p.tables.exec = Jvm.exec) (hb : c.code = cc) (hr : meth.sig.returnType = none) (hlocks : meth.locks = false) (hw : post u) (hP : va_P D cl (w1 u) H) (hK : va_K D cl tys s) (hD : va_D A (w1 u)) (hS : va_S A s.heap H locs) (hdg : decode cc pc = .ok (.return_, 1)) :
    W p l e R s m args below meth c H locs cells slots (MQ below (va_Qv post (gB D cl tys A w1) A) args s cells slots A) (F0 m pc ls []) :=
  W.vret hx hb hr (fun t ht hW => ⟨⟨u, rfl, hw, by rw [ht]; exact hP, va_K.moved hW.alike hK, hD⟩, hS.F ht⟩) hS.2.2 hdg hlocks
theorem gv_iald {p : Program} {l : Launch} {e : Env} {R : Room} {s : State} {m : MethodId} {args : Array Value} {below : List Frame} {meth : Method} {c : Code} {cc : ByteArray} {H : Heap} {locs : List Loc} {cells slots pc : Nat} {Q : State → Prop} {ls : Array Slot} {D : va_G} {cl : List vw_C} {tys : List (ClassId × FieldType)} {ws : va_W} {a : Nat} {rest : List Value} (hexec : p.tables.exec = Jvm.exec) (hb : c.code = cc) (hK : va_K D cl tys s) (hP : va_P D cl ws H) (q0 t0 : Nat) {cA : ClassId} {n : Nat} {f : Nat → Int32} (ha : ws[q0]? = some (a, .inl (cA, n, .inl f))) (ht : tys[t0]? = some (cA, .int)) {i : Int32} {k : Nat} (hk : i.toNatClampNeg = k) (hin : vp_in i n) (hdg : decode cc pc = .ok (.iaload, 1))
    (kk : W p l e R s m args below meth c H locs cells slots Q (F0 m (pc + 1) ls (.int (f k) :: rest))) : W p l e R s m args below meth c H locs cells slots Q (F0 m pc ls (.int i :: .ref a :: rest)) := by
  subst hk
  exact va_iald hexec hb hK hP q0 t0 ha ht hin hdg kk
theorem gv_lald {p : Program} {l : Launch} {e : Env} {R : Room} {s : State} {m : MethodId} {args : Array Value} {below : List Frame} {meth : Method} {c : Code} {cc : ByteArray} {H : Heap} {locs : List Loc} {cells slots pc : Nat} {Q : State → Prop} {ls : Array Slot} {D : va_G} {cl : List vw_C} {tys : List (ClassId × FieldType)} {ws : va_W} {a : Nat} {rest : List Value} (hexec : p.tables.exec = Jvm.exec) (hb : c.code = cc) (hK : va_K D cl tys s) (hP : va_P D cl ws H) (q0 t0 : Nat) {cA : ClassId} {n : Nat} {f : Nat → Int64} (ha : ws[q0]? = some (a, .inl (cA, n, .inr (.inl f)))) (ht : tys[t0]? = some (cA, .long)) {i : Int32} {k : Nat} (hk : i.toNatClampNeg = k) (hin : vp_in i n) (hdg : decode cc pc = .ok (.laload, 1))
    (kk : W p l e R s m args below meth c H locs cells slots Q (F0 m (pc + 1) ls (.long (f k) :: rest))) : W p l e R s m args below meth c H locs cells slots Q (F0 m pc ls (.int i :: .ref a :: rest)) := by
  subst hk
  exact va_lald hexec hb hK hP q0 t0 ha ht hin hdg kk
theorem gv_iast {p : Program} {l : Launch} {e : Env} {R : Room} {s : State} {m : MethodId} {args : Array Value} {below : List Frame} {meth : Method} {c : Code} {cc : ByteArray} {H : Heap} {locs : List Loc} {cells slots pc : Nat} {Q : State → Prop} {ls : Array Slot} {D : va_G} {cl : List vw_C} {tys : List (ClassId × FieldType)} {ws : va_W} {A : Nat → Prop} {H0 : Heap} {a : Nat} {rest : List Value} (hexec : p.tables.exec = Jvm.exec) (hb : c.code = cc) (hK : va_K D cl tys s) (hP : va_P D cl ws H) (hD : va_D A ws) (hS : va_S A H0 H locs) (q0 t0 : Nat) {cA : ClassId} {n : Nat} {f : Nat → Int32} (ha : ws[q0]? = some (a, .inl (cA, n, .inl f))) (ht : tys[t0]? = some (cA, .int)) {i : Int32} {x : Int32} {k : Nat} (hk : i.toNatClampNeg = k) (hin : vp_in i n) (hdg : decode cc pc = .ok (.iastore, 1))
    (kk : ∀ (H1 : Heap) (locs1 : List Loc), va_P D cl (ws.set q0 (a, .inl (cA, n, .inl (upd f k x)))) H1 → va_D A (ws.set q0 (a, .inl (cA, n, .inl (upd f k x)))) → va_S A H0 H1 locs1 → W p l e R s m args below meth c H1 locs1 cells slots Q (F0 m (pc + 1) ls rest)) : W p l e R s m args below meth c H locs cells slots Q (F0 m pc ls (.int x :: .int i :: .ref a :: rest)) := by
  subst hk
  exact va_iast hexec hb hK hP hD hS q0 t0 ha ht hin hdg kk
theorem gv_last {p : Program} {l : Launch} {e : Env} {R : Room} {s : State} {m : MethodId} {args : Array Value} {below : List Frame} {meth : Method} {c : Code} {cc : ByteArray} {H : Heap} {locs : List Loc} {cells slots pc : Nat} {Q : State → Prop} {ls : Array Slot} {D : va_G} {cl : List vw_C} {tys : List (ClassId × FieldType)} {ws : va_W} {A : Nat → Prop} {H0 : Heap} {a : Nat} {rest : List Value} (hexec : p.tables.exec = Jvm.exec) (hb : c.code = cc) (hK : va_K D cl tys s) (hP : va_P D cl ws H) (hD : va_D A ws) (hS : va_S A H0 H locs) (q0 t0 : Nat) {cA : ClassId} {n : Nat} {f : Nat → Int64} (ha : ws[q0]? = some (a, .inl (cA, n, .inr (.inl f)))) (ht : tys[t0]? = some (cA, .long)) {i : Int32} {x : Int64} {k : Nat} (hk : i.toNatClampNeg = k) (hin : vp_in i n) (hdg : decode cc pc = .ok (.lastore, 1))
    (kk : ∀ (H1 : Heap) (locs1 : List Loc), va_P D cl (ws.set q0 (a, .inl (cA, n, .inr (.inl (vp_updL f k x))))) H1 → va_D A (ws.set q0 (a, .inl (cA, n, .inr (.inl (vp_updL f k x))))) → va_S A H0 H1 locs1 → W p l e R s m args below meth c H1 locs1 cells slots Q (F0 m (pc + 1) ls rest)) : W p l e R s m args below meth c H locs cells slots Q (F0 m pc ls (.long x :: .int i :: .ref a :: rest)) := by
  subst hk
  exact va_last hexec hb hK hP hD hS q0 t0 ha ht hin hdg kk
theorem ne_i {x k : Int32} {z : Int} (hz : k.toInt = z) (h : ¬ x = k) : x.toInt ≠ z := fun q => h (Int32.toInt_inj.mp (q.trans hz.symm))
theorem i_X0 : ∀ w ∈ u_ws RX0 TX0 1, w ∈ TBL := by decide +kernel
theorem i_X1 : ∀ w ∈ u_ws RX1 TX1 6, w ∈ TBL := by decide +kernel
theorem i_X2 : ∀ w ∈ u_ws RX2 TX2 9, w ∈ TBL := by decide +kernel
theorem i_X3 : ∀ w ∈ u_ws RX3 TX3 8, w ∈ TBL := by decide +kernel
