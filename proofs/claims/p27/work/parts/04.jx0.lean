def B_J7_fill_d0a16_L6 (n_r0 : Nat) (x1 : Int64) (x4 : Int32) (Q : (Nat → Int64) → Prop) (rec6 : Int32 → (Nat → Int64) → Prop) (x3 : Int32) (s_r0 : Nat → Int64) : Prop :=
  ((x4 ≤ x3 → Q s_r0) ∧ (¬ x4 ≤ x3 → vp_in x3 n_r0 ∧ rec6 (x3 + 1) (vp_updL s_r0 x3.toNatClampNeg x1)))
noncomputable def P_J7_fill_d0a16_L6 (n_r0 : Nat) (x1 : Int64) (x4 : Int32) (Q : (Nat → Int64) → Prop) (n : Nat) : Int32 → (Nat → Int64) → Prop := Nat.rec (motive := fun _ => Int32 → (Nat → Int64) → Prop) (fun _ _ => False) (fun _ r => B_J7_fill_d0a16_L6 n_r0 x1 x4 Q r) n
theorem P_J7_fill_d0a16_L6_z (n_r0 : Nat) (x1 : Int64) (x4 : Int32) (Q : (Nat → Int64) → Prop) (x3 : Int32) (s_r0 : Nat → Int64) : P_J7_fill_d0a16_L6 n_r0 x1 x4 Q 0 x3 s_r0 = False := rfl
theorem P_J7_fill_d0a16_L6_s (n_r0 : Nat) (x1 : Int64) (x4 : Int32) (Q : (Nat → Int64) → Prop) (n : Nat) (x3 : Int32) (s_r0 : Nat → Int64) : P_J7_fill_d0a16_L6 n_r0 x1 x4 Q (n + 1) x3 s_r0 = B_J7_fill_d0a16_L6 n_r0 x1 x4 Q (P_J7_fill_d0a16_L6 n_r0 x1 x4 Q n) x3 s_r0 := rfl
def P_J7_fill_d0a16 (n_r0 : Nat) (p1 : Int64) (s_r0 : Nat → Int64) (Q : (Nat → Int64) → Prop) : Prop :=
  ∃ n : Nat, P_J7_fill_d0a16_L6 n_r0 p1 (nI n_r0) Q n 0 s_r0
def B_J7_fill_53178_L5 (n_r0 : Nat) (x1 : Int32) (x3 : Int32) (Q : (Nat → Int32) → Prop) (rec5 : Int32 → (Nat → Int32) → Prop) (x2 : Int32) (s_r0 : Nat → Int32) : Prop :=
  ((x3 ≤ x2 → Q s_r0) ∧ (¬ x3 ≤ x2 → vp_in x2 n_r0 ∧ rec5 (x2 + 1) (upd s_r0 x2.toNatClampNeg x1)))
noncomputable def P_J7_fill_53178_L5 (n_r0 : Nat) (x1 : Int32) (x3 : Int32) (Q : (Nat → Int32) → Prop) (n : Nat) : Int32 → (Nat → Int32) → Prop := Nat.rec (motive := fun _ => Int32 → (Nat → Int32) → Prop) (fun _ _ => False) (fun _ r => B_J7_fill_53178_L5 n_r0 x1 x3 Q r) n
theorem P_J7_fill_53178_L5_z (n_r0 : Nat) (x1 : Int32) (x3 : Int32) (Q : (Nat → Int32) → Prop) (x2 : Int32) (s_r0 : Nat → Int32) : P_J7_fill_53178_L5 n_r0 x1 x3 Q 0 x2 s_r0 = False := rfl
theorem P_J7_fill_53178_L5_s (n_r0 : Nat) (x1 : Int32) (x3 : Int32) (Q : (Nat → Int32) → Prop) (n : Nat) (x2 : Int32) (s_r0 : Nat → Int32) : P_J7_fill_53178_L5 n_r0 x1 x3 Q (n + 1) x2 s_r0 = B_J7_fill_53178_L5 n_r0 x1 x3 Q (P_J7_fill_53178_L5 n_r0 x1 x3 Q n) x2 s_r0 := rfl
def P_J7_fill_53178 (n_r0 : Nat) (p1 : Int32) (s_r0 : Nat → Int32) (Q : (Nat → Int32) → Prop) : Prop :=
  ∃ n : Nat, P_J7_fill_53178_L5 n_r0 p1 (nI n_r0) Q n 0 s_r0
def P_X0_copyTo (p1 : Int32) (s_cells : Nat → Int32) (s_r0 : Nat → Int32) (Q : (Nat → Int32) → Prop) : Prop :=
  ((p1 < 0 → Q s_r0) ∧ (¬ p1 < 0 → ((492 < (p1 + 82) → Q s_r0) ∧ (¬ 492 < (p1 + 82) → (¬ (0 : Int32) < 0 ∧ ¬ p1 < 0 ∧ ¬ (82 : Int32) < 0 ∧ 0 + 82 ≤ 82 ∧ p1.toNatClampNeg + 82 ≤ 492) ∧ Q (va_cpy s_cells s_r0 0 p1.toNatClampNeg 82)))))
def P_X0_copyFrom (p1 : Int32) (s_cells : Nat → Int32) (s_r0 : Nat → Int32) (Q : (Nat → Int32) → Prop) : Prop :=
  ((p1 < 0 → Q s_cells) ∧ (¬ p1 < 0 → ((492 < (p1 + 82) → Q s_cells) ∧ (¬ 492 < (p1 + 82) → (¬ p1 < 0 ∧ ¬ (0 : Int32) < 0 ∧ ¬ (82 : Int32) < 0 ∧ p1.toNatClampNeg + 82 ≤ 492 ∧ 0 + 82 ≤ 82) ∧ Q (va_cpy s_r0 s_cells p1.toNatClampNeg 0 82)))))
def P_X0_putCell (p0 : Int32) (p1 : Int32) (s_cells : Nat → Int32) (Q : (Nat → Int32) → Prop) : Prop :=
  ((p0 < 0 → Q s_cells) ∧ (¬ p0 < 0 → ((82 ≤ p0 → Q s_cells) ∧ (¬ 82 ≤ p0 → vp_in p0 82 ∧ Q (upd s_cells p0.toNatClampNeg p1)))))
def P_X0_closeGap (p0 : Int32) (p1 : Int32) (p2 : Int32) (s_cells : Nat → Int32) (Q : (Nat → Int32) → Prop) : Prop :=
  ((p0 < 0 → Q s_cells) ∧ (¬ p0 < 0 → ((p1 < 0 → Q s_cells) ∧ (¬ p1 < 0 → ((p2 < (p0 + p1) → Q s_cells) ∧ (¬ p2 < (p0 + p1) → ((82 < p2 → Q s_cells) ∧ (¬ 82 < p2 → (¬ (p0 + p1) < 0 ∧ ¬ p0 < 0 ∧ ¬ ((p2 - p0) - p1) < 0 ∧ (p0 + p1).toNatClampNeg + ((p2 - p0) - p1).toNatClampNeg ≤ 82 ∧ p0.toNatClampNeg + ((p2 - p0) - p1).toNatClampNeg ≤ 82) ∧ Q (va_cpy s_cells s_cells ((p0 + p1).toNatClampNeg) p0.toNatClampNeg (((p2 - p0) - p1).toNatClampNeg))))))))))
def P_X0_words (s_cells : Nat → Int32) (Q : Int32 → Prop) : Prop :=
  Q (s_cells 80)
def P_X0_hasWord (p0 : Int32) (s_cells : Nat → Int32) (Q : Int32 → Prop) : Prop :=
  ((p0 < 0 → Q 0) ∧ (¬ p0 < 0 → P_X0_words s_cells (fun (r_1 : Int32) => ((r_1 ≤ p0 → Q 0) ∧ (¬ r_1 ≤ p0 → Q 1)))))
def P_X0_ofWord (p0 : Int32) (p1 : Int32) (s_cells : Nat → Int32) (Q : Int32 → Prop) : Prop :=
  ((((p0 * 6) + p1) < 0 → Q (-1)) ∧ (¬ ((p0 * 6) + p1) < 0 → ((82 ≤ ((p0 * 6) + p1) → Q (-1)) ∧ (¬ 82 ≤ ((p0 * 6) + p1) → vp_in ((p0 * 6) + p1) 82 ∧ Q (s_cells (((p0 * 6) + p1).toNatClampNeg))))))
def P_X0_putWord (p0 : Int32) (p1 : Int32) (p2 : Int32) (s_cells : Nat → Int32) (Q : (Nat → Int32) → Prop) : Prop :=
  P_X0_putCell ((p0 * 6) + p1) p2 s_cells (fun (s_cells_1 : Nat → Int32) => Q s_cells_1)
def P_X0_addWord (p0 : Int32) (p1 : Int32) (p2 : Int32) (p3 : Int32) (s_cells : Nat → Int32) (Q : Int32 → (Nat → Int32) → Prop) : Prop :=
  P_X0_words s_cells (fun (r_1 : Int32) => P_X0_putWord r_1 0 p0 s_cells (fun (s_cells_2 : Nat → Int32) => P_X0_putWord r_1 1 p1 s_cells_2 (fun (s_cells_3 : Nat → Int32) => P_X0_putWord r_1 2 p2 s_cells_3 (fun (s_cells_4 : Nat → Int32) => P_X0_putWord r_1 3 p3 s_cells_4 (fun (s_cells_5 : Nat → Int32) => P_X0_putWord r_1 4 0 s_cells_5 (fun (s_cells_6 : Nat → Int32) => P_X0_putWord r_1 5 4 s_cells_6 (fun (s_cells_7 : Nat → Int32) => P_X0_putCell 80 (r_1 + 1) s_cells_7 (fun (s_cells_8 : Nat → Int32) => Q r_1 s_cells_8))))))))
def P_X0_dropWord (p0 : Int32) (s_cells : Nat → Int32) (Q : (Nat → Int32) → Prop) : Prop :=
  P_X0_closeGap (p0 * 6) 6 48 s_cells (fun (s_cells_1 : Nat → Int32) => P_X0_words s_cells_1 (fun (r_2 : Int32) => P_X0_putCell 80 (r_2 - 1) s_cells_1 (fun (s_cells_3 : Nat → Int32) => Q s_cells_3)))
def P_X0_beams (s_cells : Nat → Int32) (Q : Int32 → Prop) : Prop :=
  Q (s_cells 81)
def P_X0_hasBeam (p0 : Int32) (s_cells : Nat → Int32) (Q : Int32 → Prop) : Prop :=
  ((p0 < 0 → Q 0) ∧ (¬ p0 < 0 → P_X0_beams s_cells (fun (r_1 : Int32) => ((r_1 ≤ p0 → Q 0) ∧ (¬ r_1 ≤ p0 → Q 1)))))
def P_X0_ofBeam (p0 : Int32) (p1 : Int32) (s_cells : Nat → Int32) (Q : Int32 → Prop) : Prop :=
  ((((48 + (p0 * 5)) + p1) < 0 → Q (-1)) ∧ (¬ ((48 + (p0 * 5)) + p1) < 0 → ((82 ≤ ((48 + (p0 * 5)) + p1) → Q (-1)) ∧ (¬ 82 ≤ ((48 + (p0 * 5)) + p1) → vp_in ((48 + (p0 * 5)) + p1) 82 ∧ Q (s_cells (((48 + (p0 * 5)) + p1).toNatClampNeg))))))
def P_X0_putBeam (p0 : Int32) (p1 : Int32) (p2 : Int32) (s_cells : Nat → Int32) (Q : (Nat → Int32) → Prop) : Prop :=
  P_X0_putCell ((48 + (p0 * 5)) + p1) p2 s_cells (fun (s_cells_1 : Nat → Int32) => Q s_cells_1)
def P_X0_addBeam (p0 : Int32) (p1 : Int32) (p2 : Int32) (p3 : Int32) (p4 : Int32) (s_cells : Nat → Int32) (Q : Int32 → (Nat → Int32) → Prop) : Prop :=
  P_X0_beams s_cells (fun (r_1 : Int32) => P_X0_putBeam r_1 0 p0 s_cells (fun (s_cells_2 : Nat → Int32) => P_X0_putBeam r_1 1 p1 s_cells_2 (fun (s_cells_3 : Nat → Int32) => P_X0_putBeam r_1 2 p2 s_cells_3 (fun (s_cells_4 : Nat → Int32) => P_X0_putBeam r_1 3 p3 s_cells_4 (fun (s_cells_5 : Nat → Int32) => P_X0_putBeam r_1 4 p4 s_cells_5 (fun (s_cells_6 : Nat → Int32) => P_X0_putCell 81 (r_1 + 1) s_cells_6 (fun (s_cells_7 : Nat → Int32) => Q r_1 s_cells_7)))))))
def P_X0_dropBeam (p0 : Int32) (s_cells : Nat → Int32) (Q : (Nat → Int32) → Prop) : Prop :=
  P_X0_closeGap (48 + (p0 * 5)) 5 78 s_cells (fun (s_cells_1 : Nat → Int32) => P_X0_beams s_cells_1 (fun (r_2 : Int32) => P_X0_putCell 81 (r_2 - 1) s_cells_1 (fun (s_cells_3 : Nat → Int32) => Q s_cells_3)))
def P_X0_setting (p0 : Int32) (s_cells : Nat → Int32) (Q : Int32 → Prop) : Prop :=
  (((78 + p0) < 0 → Q (-1)) ∧ (¬ (78 + p0) < 0 → ((82 ≤ (78 + p0) → Q (-1)) ∧ (¬ 82 ≤ (78 + p0) → vp_in (78 + p0) 82 ∧ Q (s_cells ((78 + p0).toNatClampNeg))))))
def P_X0_putSetting (p0 : Int32) (p1 : Int32) (s_cells : Nat → Int32) (Q : (Nat → Int32) → Prop) : Prop :=
  P_X0_putCell (78 + p0) p1 s_cells (fun (s_cells_1 : Nat → Int32) => Q s_cells_1)
def B_X0_letters_L4 (s_cells : Nat → Int32) (Q : Int32 → Prop) (rec4 : Int32 → Int32 → Prop) (x1 : Int32) (x2 : Int32) : Prop :=
  P_X0_words s_cells (fun (r_1 : Int32) => ((r_1 ≤ x2 → Q x1) ∧ (¬ r_1 ≤ x2 → P_X0_ofWord x2 0 s_cells (fun (r_2 : Int32) => rec4 (x1 + r_2) (x2 + 1)))))
noncomputable def P_X0_letters_L4 (s_cells : Nat → Int32) (Q : Int32 → Prop) (n : Nat) : Int32 → Int32 → Prop := Nat.rec (motive := fun _ => Int32 → Int32 → Prop) (fun _ _ => False) (fun _ r => B_X0_letters_L4 s_cells Q r) n
theorem P_X0_letters_L4_z (s_cells : Nat → Int32) (Q : Int32 → Prop) (x1 : Int32) (x2 : Int32) : P_X0_letters_L4 s_cells Q 0 x1 x2 = False := rfl
theorem P_X0_letters_L4_s (s_cells : Nat → Int32) (Q : Int32 → Prop) (n : Nat) (x1 : Int32) (x2 : Int32) : P_X0_letters_L4 s_cells Q (n + 1) x1 x2 = B_X0_letters_L4 s_cells Q (P_X0_letters_L4 s_cells Q n) x1 x2 := rfl
def P_X0_letters (s_cells : Nat → Int32) (Q : Int32 → Prop) : Prop :=
  ∃ n : Nat, P_X0_letters_L4 s_cells Q n 0 0
def P_X0_columnBits (p0 : Int32) (p1 : Int32) (Q : Int64 → Prop) : Prop :=
  (((if 60 < (p0 + p1) then 60 else (p0 + p1)) ≤ (if p0 < 0 then 0 else p0) → Q 0) ∧ (¬ (if 60 < (p0 + p1) then 60 else (p0 + p1)) ≤ (if p0 < 0 then 0 else p0) → Q (((1 <<< (((if 60 < (p0 + p1) then 60 else (p0 + p1)) - (if p0 < 0 then 0 else p0)).toInt64 &&& 63)) - 1) <<< ((if p0 < 0 then 0 else p0).toInt64 &&& 63))))
def P_X0_coveredBy (p0 : Int32) (p1 : Int32) (s_cells : Nat → Int32) (Q : Int64 → Prop) : Prop :=
  P_X0_ofBeam p0 0 s_cells (fun (r_1 : Int32) => P_X0_ofBeam p0 1 s_cells (fun (r_2 : Int32) => P_X0_ofBeam p0 2 s_cells (fun (r_3 : Int32) => ((0 ≤ (p1 - r_1) → P_X0_ofBeam p0 3 s_cells (fun (r_4 : Int32) => P_X0_columnBits (r_2 + (r_3 * (p1 - r_1))) r_4 (fun (r_5 : Int64) => Q r_5))) ∧ (¬ 0 ≤ (p1 - r_1) → Q 0)))))
theorem k_28 : Cond.fieldLink RX0 11 "CreditBeams$Credits" "cells" "[I" ∈ TBL := mem_T (i := 28) (by decide +kernel) (by decide +kernel)
theorem k_309 : Cond.methodLink RX0 15 arraycopyName ∈ TBL := mem_T (i := 309) (by decide +kernel) (by decide +kernel)
theorem k_304 : Cond.native arraycopyName ∈ TBL := mem_T (i := 304) (by decide +kernel) (by decide +kernel)
theorem k_303 : Cond.static arraycopyName ∈ TBL := mem_T (i := 303) (by decide +kernel) (by decide +kernel)
theorem k_11 : Cond.initialized RJ10 ∈ TBL := mem_T (i := 11) (by decide +kernel) (by decide +kernel)
theorem k_200 : Cond.methodLink RX0 21 yX0_words ∈ TBL := mem_T (i := 200) (by decide +kernel) (by decide +kernel)
theorem k_189 : Cond.instanceMethod yX0_words ∈ TBL := mem_T (i := 189) (by decide +kernel) (by decide +kernel)
theorem k_190 : Cond.selects RX0 yX0_words yX0_words ∈ TBL := mem_T (i := 190) (by decide +kernel) (by decide +kernel)
theorem k_2 : Cond.initialized RX0 ∈ TBL := mem_T (i := 2) (by decide +kernel) (by decide +kernel)
theorem k_191 : Cond.code yX0_words cX0_words 1 (some .int) ∈ TBL := mem_T (i := 191) (by decide +kernel) (by decide +kernel)
theorem k_318 : Cond.methodLink RX0 25 yX0_putCell ∈ TBL := mem_T (i := 318) (by decide +kernel) (by decide +kernel)
theorem k_320 : Cond.instanceMethod yX0_putCell ∈ TBL := mem_T (i := 320) (by decide +kernel) (by decide +kernel)
theorem k_s4 : Cond.selects RX0 yX0_putCell yX0_putCell ∈ TBL := mem_S (i := 4) (by decide +kernel) (by decide +kernel)
theorem k_321 : Cond.code yX0_putCell cX0_putCell 3 none ∈ TBL := mem_T (i := 321) (by decide +kernel) (by decide +kernel)
theorem k_545 : Cond.methodLink RX0 29 yX0_putWord ∈ TBL := mem_T (i := 545) (by decide +kernel) (by decide +kernel)
theorem k_546 : Cond.instanceMethod yX0_putWord ∈ TBL := mem_T (i := 546) (by decide +kernel) (by decide +kernel)
theorem k_547 : Cond.selects RX0 yX0_putWord yX0_putWord ∈ TBL := mem_T (i := 547) (by decide +kernel) (by decide +kernel)
theorem k_548 : Cond.code yX0_putWord cX0_putWord 4 none ∈ TBL := mem_T (i := 548) (by decide +kernel) (by decide +kernel)
theorem k_588 : Cond.methodLink RX0 33 yX0_closeGap ∈ TBL := mem_T (i := 588) (by decide +kernel) (by decide +kernel)
theorem k_590 : Cond.instanceMethod yX0_closeGap ∈ TBL := mem_T (i := 590) (by decide +kernel) (by decide +kernel)
theorem k_s19 : Cond.selects RX0 yX0_closeGap yX0_closeGap ∈ TBL := mem_S (i := 19) (by decide +kernel) (by decide +kernel)
theorem k_591 : Cond.code yX0_closeGap cX0_closeGap 4 none ∈ TBL := mem_T (i := 591) (by decide +kernel) (by decide +kernel)
theorem k_513 : Cond.methodLink RX0 36 yX0_beams ∈ TBL := mem_T (i := 513) (by decide +kernel) (by decide +kernel)
theorem k_193 : Cond.instanceMethod yX0_beams ∈ TBL := mem_T (i := 193) (by decide +kernel) (by decide +kernel)
theorem k_194 : Cond.selects RX0 yX0_beams yX0_beams ∈ TBL := mem_T (i := 194) (by decide +kernel) (by decide +kernel)
theorem k_195 : Cond.code yX0_beams cX0_beams 1 (some .int) ∈ TBL := mem_T (i := 195) (by decide +kernel) (by decide +kernel)
theorem k_565 : Cond.methodLink RX0 39 yX0_putBeam ∈ TBL := mem_T (i := 565) (by decide +kernel) (by decide +kernel)
theorem k_566 : Cond.instanceMethod yX0_putBeam ∈ TBL := mem_T (i := 566) (by decide +kernel) (by decide +kernel)
theorem k_567 : Cond.selects RX0 yX0_putBeam yX0_putBeam ∈ TBL := mem_T (i := 567) (by decide +kernel) (by decide +kernel)
theorem k_568 : Cond.code yX0_putBeam cX0_putBeam 4 none ∈ TBL := mem_T (i := 568) (by decide +kernel) (by decide +kernel)
theorem k_201 : Cond.methodLink RX0 42 yX0_ofWord ∈ TBL := mem_T (i := 201) (by decide +kernel) (by decide +kernel)
theorem k_202 : Cond.instanceMethod yX0_ofWord ∈ TBL := mem_T (i := 202) (by decide +kernel) (by decide +kernel)
theorem k_203 : Cond.selects RX0 yX0_ofWord yX0_ofWord ∈ TBL := mem_T (i := 203) (by decide +kernel) (by decide +kernel)
theorem k_204 : Cond.code yX0_ofWord cX0_ofWord 4 (some .int) ∈ TBL := mem_T (i := 204) (by decide +kernel) (by decide +kernel)
theorem k_345 : Cond.methodLink RX0 53 yJ9_max_7cf53 ∈ TBL := mem_T (i := 345) (by decide +kernel) (by decide +kernel)
theorem k_232 : Cond.static yJ9_max_7cf53 ∈ TBL := mem_T (i := 232) (by decide +kernel) (by decide +kernel)
theorem k_9 : Cond.initialized RJ9 ∈ TBL := mem_T (i := 9) (by decide +kernel) (by decide +kernel)
theorem k_233 : Cond.code yJ9_max_7cf53 cJ9_max_7cf53 2 (some .int) ∈ TBL := mem_T (i := 233) (by decide +kernel) (by decide +kernel)
theorem k_346 : Cond.methodLink RX0 58 yJ9_min_7cf53 ∈ TBL := mem_T (i := 346) (by decide +kernel) (by decide +kernel)
theorem k_347 : Cond.static yJ9_min_7cf53 ∈ TBL := mem_T (i := 347) (by decide +kernel) (by decide +kernel)
theorem k_348 : Cond.code yJ9_min_7cf53 cJ9_min_7cf53 2 (some .int) ∈ TBL := mem_T (i := 348) (by decide +kernel) (by decide +kernel)
theorem k_490 : Cond.methodLink RX0 46 yX0_ofBeam ∈ TBL := mem_T (i := 490) (by decide +kernel) (by decide +kernel)
theorem k_335 : Cond.instanceMethod yX0_ofBeam ∈ TBL := mem_T (i := 335) (by decide +kernel) (by decide +kernel)
theorem k_336 : Cond.selects RX0 yX0_ofBeam yX0_ofBeam ∈ TBL := mem_T (i := 336) (by decide +kernel) (by decide +kernel)
theorem k_337 : Cond.code yX0_ofBeam cX0_ofBeam 4 (some .int) ∈ TBL := mem_T (i := 337) (by decide +kernel) (by decide +kernel)
theorem k_491 : Cond.methodLink RX0 49 yX0_columnBits ∈ TBL := mem_T (i := 491) (by decide +kernel) (by decide +kernel)
theorem k_343 : Cond.static yX0_columnBits ∈ TBL := mem_T (i := 343) (by decide +kernel) (by decide +kernel)
theorem k_344 : Cond.code yX0_columnBits cX0_columnBits 4 (some .long) ∈ TBL := mem_T (i := 344) (by decide +kernel) (by decide +kernel)
theorem dJ7_fill_d0a16_0 : decode cJ7_fill_d0a16 0 = .ok (.iconst 0, 1) := by decide +kernel
theorem dJ7_fill_d0a16_1 : decode cJ7_fill_d0a16 1 = .ok (.istore_n 3, 1) := by decide +kernel
theorem dJ7_fill_d0a16_2 : decode cJ7_fill_d0a16 2 = .ok (.aload_n 0, 1) := by decide +kernel
theorem dJ7_fill_d0a16_3 : decode cJ7_fill_d0a16 3 = .ok (.arraylength, 1) := by decide +kernel
theorem dJ7_fill_d0a16_4 : decode cJ7_fill_d0a16 4 = .ok (.istore 4, 2) := by decide +kernel
theorem dJ7_fill_d0a16_6 : decode cJ7_fill_d0a16 6 = .ok (.iload_n 3, 1) := by decide +kernel
theorem dJ7_fill_d0a16_7 : decode cJ7_fill_d0a16 7 = .ok (.iload 4, 2) := by decide +kernel
theorem dJ7_fill_d0a16_9 : decode cJ7_fill_d0a16 9 = .ok (.if_icmp .ge 13, 3) := by decide +kernel
theorem dJ7_fill_d0a16_12 : decode cJ7_fill_d0a16 12 = .ok (.aload_n 0, 1) := by decide +kernel
theorem dJ7_fill_d0a16_13 : decode cJ7_fill_d0a16 13 = .ok (.iload_n 3, 1) := by decide +kernel
theorem dJ7_fill_d0a16_14 : decode cJ7_fill_d0a16 14 = .ok (.lload_n 1, 1) := by decide +kernel
theorem dJ7_fill_d0a16_15 : decode cJ7_fill_d0a16 15 = .ok (.lastore, 1) := by decide +kernel
theorem dJ7_fill_d0a16_16 : decode cJ7_fill_d0a16 16 = .ok (.iinc 3 1, 3) := by decide +kernel
theorem dJ7_fill_d0a16_19 : decode cJ7_fill_d0a16 19 = .ok (.goto (-13), 3) := by decide +kernel
theorem dJ7_fill_d0a16_22 : decode cJ7_fill_d0a16 22 = .ok (.return_, 1) := by decide +kernel
theorem dJ7_fill_53178_0 : decode cJ7_fill_53178 0 = .ok (.iconst 0, 1) := by decide +kernel
theorem dJ7_fill_53178_1 : decode cJ7_fill_53178 1 = .ok (.istore_n 2, 1) := by decide +kernel
theorem dJ7_fill_53178_2 : decode cJ7_fill_53178 2 = .ok (.aload_n 0, 1) := by decide +kernel
theorem dJ7_fill_53178_3 : decode cJ7_fill_53178 3 = .ok (.arraylength, 1) := by decide +kernel
theorem dJ7_fill_53178_4 : decode cJ7_fill_53178 4 = .ok (.istore_n 3, 1) := by decide +kernel
theorem dJ7_fill_53178_5 : decode cJ7_fill_53178 5 = .ok (.iload_n 2, 1) := by decide +kernel
theorem dJ7_fill_53178_6 : decode cJ7_fill_53178 6 = .ok (.iload_n 3, 1) := by decide +kernel
theorem dJ7_fill_53178_7 : decode cJ7_fill_53178 7 = .ok (.if_icmp .ge 13, 3) := by decide +kernel
theorem dJ7_fill_53178_10 : decode cJ7_fill_53178 10 = .ok (.aload_n 0, 1) := by decide +kernel
theorem dJ7_fill_53178_11 : decode cJ7_fill_53178 11 = .ok (.iload_n 2, 1) := by decide +kernel
theorem dJ7_fill_53178_12 : decode cJ7_fill_53178 12 = .ok (.iload_n 1, 1) := by decide +kernel
theorem dJ7_fill_53178_13 : decode cJ7_fill_53178 13 = .ok (.iastore, 1) := by decide +kernel
theorem dJ7_fill_53178_14 : decode cJ7_fill_53178 14 = .ok (.iinc 2 1, 3) := by decide +kernel
theorem dJ7_fill_53178_17 : decode cJ7_fill_53178 17 = .ok (.goto (-12), 3) := by decide +kernel
theorem dJ7_fill_53178_20 : decode cJ7_fill_53178 20 = .ok (.return_, 1) := by decide +kernel
theorem dX0_copyTo_0 : decode cX0_copyTo 0 = .ok (.iload_n 2, 1) := by decide +kernel
theorem dX0_copyTo_1 : decode cX0_copyTo 1 = .ok (.ifCond .lt 24, 3) := by decide +kernel
theorem dX0_copyTo_4 : decode cX0_copyTo 4 = .ok (.iload_n 2, 1) := by decide +kernel
theorem dX0_copyTo_5 : decode cX0_copyTo 5 = .ok (.bipush 82, 2) := by decide +kernel
theorem dX0_copyTo_7 : decode cX0_copyTo 7 = .ok (.iadd, 1) := by decide +kernel
theorem dX0_copyTo_8 : decode cX0_copyTo 8 = .ok (.aload_n 1, 1) := by decide +kernel
theorem dX0_copyTo_9 : decode cX0_copyTo 9 = .ok (.arraylength, 1) := by decide +kernel
theorem dX0_copyTo_10 : decode cX0_copyTo 10 = .ok (.if_icmp .gt 15, 3) := by decide +kernel
theorem dX0_copyTo_13 : decode cX0_copyTo 13 = .ok (.aload_n 0, 1) := by decide +kernel
theorem dX0_copyTo_14 : decode cX0_copyTo 14 = .ok (.getfield 11, 3) := by decide +kernel
theorem dX0_copyTo_17 : decode cX0_copyTo 17 = .ok (.iconst 0, 1) := by decide +kernel
theorem dX0_copyTo_18 : decode cX0_copyTo 18 = .ok (.aload_n 1, 1) := by decide +kernel
theorem dX0_copyTo_19 : decode cX0_copyTo 19 = .ok (.iload_n 2, 1) := by decide +kernel
theorem dX0_copyTo_20 : decode cX0_copyTo 20 = .ok (.bipush 82, 2) := by decide +kernel
theorem dX0_copyTo_22 : decode cX0_copyTo 22 = .ok (.invokestatic 15, 3) := by decide +kernel
theorem dX0_copyTo_25 : decode cX0_copyTo 25 = .ok (.return_, 1) := by decide +kernel
theorem dX0_copyFrom_0 : decode cX0_copyFrom 0 = .ok (.iload_n 2, 1) := by decide +kernel
theorem dX0_copyFrom_1 : decode cX0_copyFrom 1 = .ok (.ifCond .lt 24, 3) := by decide +kernel
theorem dX0_copyFrom_4 : decode cX0_copyFrom 4 = .ok (.iload_n 2, 1) := by decide +kernel
theorem dX0_copyFrom_5 : decode cX0_copyFrom 5 = .ok (.bipush 82, 2) := by decide +kernel
theorem dX0_copyFrom_7 : decode cX0_copyFrom 7 = .ok (.iadd, 1) := by decide +kernel
theorem dX0_copyFrom_8 : decode cX0_copyFrom 8 = .ok (.aload_n 1, 1) := by decide +kernel
theorem dX0_copyFrom_9 : decode cX0_copyFrom 9 = .ok (.arraylength, 1) := by decide +kernel
theorem dX0_copyFrom_10 : decode cX0_copyFrom 10 = .ok (.if_icmp .gt 15, 3) := by decide +kernel
theorem dX0_copyFrom_13 : decode cX0_copyFrom 13 = .ok (.aload_n 1, 1) := by decide +kernel
theorem dX0_copyFrom_14 : decode cX0_copyFrom 14 = .ok (.iload_n 2, 1) := by decide +kernel
theorem dX0_copyFrom_15 : decode cX0_copyFrom 15 = .ok (.aload_n 0, 1) := by decide +kernel
theorem dX0_copyFrom_16 : decode cX0_copyFrom 16 = .ok (.getfield 11, 3) := by decide +kernel
theorem dX0_copyFrom_19 : decode cX0_copyFrom 19 = .ok (.iconst 0, 1) := by decide +kernel
theorem dX0_copyFrom_20 : decode cX0_copyFrom 20 = .ok (.bipush 82, 2) := by decide +kernel
theorem dX0_copyFrom_22 : decode cX0_copyFrom 22 = .ok (.invokestatic 15, 3) := by decide +kernel
theorem dX0_copyFrom_25 : decode cX0_copyFrom 25 = .ok (.return_, 1) := by decide +kernel
theorem dX0_putCell_0 : decode cX0_putCell 0 = .ok (.iload_n 1, 1) := by decide +kernel
theorem dX0_putCell_1 : decode cX0_putCell 1 = .ok (.ifCond .lt 19, 3) := by decide +kernel
theorem dX0_putCell_4 : decode cX0_putCell 4 = .ok (.iload_n 1, 1) := by decide +kernel
theorem dX0_putCell_5 : decode cX0_putCell 5 = .ok (.aload_n 0, 1) := by decide +kernel
theorem dX0_putCell_6 : decode cX0_putCell 6 = .ok (.getfield 11, 3) := by decide +kernel
theorem dX0_putCell_9 : decode cX0_putCell 9 = .ok (.arraylength, 1) := by decide +kernel
theorem dX0_putCell_10 : decode cX0_putCell 10 = .ok (.if_icmp .ge 10, 3) := by decide +kernel
theorem dX0_putCell_13 : decode cX0_putCell 13 = .ok (.aload_n 0, 1) := by decide +kernel
theorem dX0_putCell_14 : decode cX0_putCell 14 = .ok (.getfield 11, 3) := by decide +kernel
theorem dX0_putCell_17 : decode cX0_putCell 17 = .ok (.iload_n 1, 1) := by decide +kernel
theorem dX0_putCell_18 : decode cX0_putCell 18 = .ok (.iload_n 2, 1) := by decide +kernel
theorem dX0_putCell_19 : decode cX0_putCell 19 = .ok (.iastore, 1) := by decide +kernel
theorem dX0_putCell_20 : decode cX0_putCell 20 = .ok (.return_, 1) := by decide +kernel
theorem dX0_closeGap_0 : decode cX0_closeGap 0 = .ok (.iload_n 1, 1) := by decide +kernel
theorem dX0_closeGap_1 : decode cX0_closeGap 1 = .ok (.ifCond .lt 43, 3) := by decide +kernel
theorem dX0_closeGap_4 : decode cX0_closeGap 4 = .ok (.iload_n 2, 1) := by decide +kernel
theorem dX0_closeGap_5 : decode cX0_closeGap 5 = .ok (.ifCond .lt 39, 3) := by decide +kernel
theorem dX0_closeGap_8 : decode cX0_closeGap 8 = .ok (.iload_n 1, 1) := by decide +kernel
theorem dX0_closeGap_9 : decode cX0_closeGap 9 = .ok (.iload_n 2, 1) := by decide +kernel
theorem dX0_closeGap_10 : decode cX0_closeGap 10 = .ok (.iadd, 1) := by decide +kernel
theorem dX0_closeGap_11 : decode cX0_closeGap 11 = .ok (.iload_n 3, 1) := by decide +kernel
theorem dX0_closeGap_12 : decode cX0_closeGap 12 = .ok (.if_icmp .gt 32, 3) := by decide +kernel
theorem dX0_closeGap_15 : decode cX0_closeGap 15 = .ok (.iload_n 3, 1) := by decide +kernel
theorem dX0_closeGap_16 : decode cX0_closeGap 16 = .ok (.aload_n 0, 1) := by decide +kernel
theorem dX0_closeGap_17 : decode cX0_closeGap 17 = .ok (.getfield 11, 3) := by decide +kernel
theorem dX0_closeGap_20 : decode cX0_closeGap 20 = .ok (.arraylength, 1) := by decide +kernel
theorem dX0_closeGap_21 : decode cX0_closeGap 21 = .ok (.if_icmp .gt 23, 3) := by decide +kernel
theorem dX0_closeGap_24 : decode cX0_closeGap 24 = .ok (.aload_n 0, 1) := by decide +kernel
theorem dX0_closeGap_25 : decode cX0_closeGap 25 = .ok (.getfield 11, 3) := by decide +kernel
theorem dX0_closeGap_28 : decode cX0_closeGap 28 = .ok (.iload_n 1, 1) := by decide +kernel
theorem dX0_closeGap_29 : decode cX0_closeGap 29 = .ok (.iload_n 2, 1) := by decide +kernel
theorem dX0_closeGap_30 : decode cX0_closeGap 30 = .ok (.iadd, 1) := by decide +kernel
theorem dX0_closeGap_31 : decode cX0_closeGap 31 = .ok (.aload_n 0, 1) := by decide +kernel
theorem dX0_closeGap_32 : decode cX0_closeGap 32 = .ok (.getfield 11, 3) := by decide +kernel
theorem dX0_closeGap_35 : decode cX0_closeGap 35 = .ok (.iload_n 1, 1) := by decide +kernel
theorem dX0_closeGap_36 : decode cX0_closeGap 36 = .ok (.iload_n 3, 1) := by decide +kernel
theorem dX0_closeGap_37 : decode cX0_closeGap 37 = .ok (.iload_n 1, 1) := by decide +kernel
theorem dX0_closeGap_38 : decode cX0_closeGap 38 = .ok (.isub, 1) := by decide +kernel
theorem dX0_closeGap_39 : decode cX0_closeGap 39 = .ok (.iload_n 2, 1) := by decide +kernel
theorem dX0_closeGap_40 : decode cX0_closeGap 40 = .ok (.isub, 1) := by decide +kernel
theorem dX0_closeGap_41 : decode cX0_closeGap 41 = .ok (.invokestatic 15, 3) := by decide +kernel
theorem dX0_closeGap_44 : decode cX0_closeGap 44 = .ok (.return_, 1) := by decide +kernel
theorem dX0_words_0 : decode cX0_words 0 = .ok (.aload_n 0, 1) := by decide +kernel
theorem dX0_words_1 : decode cX0_words 1 = .ok (.getfield 11, 3) := by decide +kernel
theorem dX0_words_4 : decode cX0_words 4 = .ok (.bipush 80, 2) := by decide +kernel
theorem dX0_words_6 : decode cX0_words 6 = .ok (.iaload, 1) := by decide +kernel
theorem dX0_words_7 : decode cX0_words 7 = .ok (.ireturn, 1) := by decide +kernel
theorem dX0_hasWord_0 : decode cX0_hasWord 0 = .ok (.iload_n 1, 1) := by decide +kernel
theorem dX0_hasWord_1 : decode cX0_hasWord 1 = .ok (.ifCond .lt 15, 3) := by decide +kernel
theorem dX0_hasWord_4 : decode cX0_hasWord 4 = .ok (.iload_n 1, 1) := by decide +kernel
theorem dX0_hasWord_5 : decode cX0_hasWord 5 = .ok (.aload_n 0, 1) := by decide +kernel
theorem dX0_hasWord_6 : decode cX0_hasWord 6 = .ok (.invokevirtual 21, 3) := by decide +kernel
theorem dX0_hasWord_9 : decode cX0_hasWord 9 = .ok (.if_icmp .ge 7, 3) := by decide +kernel
theorem dX0_hasWord_12 : decode cX0_hasWord 12 = .ok (.iconst 1, 1) := by decide +kernel
theorem dX0_hasWord_13 : decode cX0_hasWord 13 = .ok (.goto 4, 3) := by decide +kernel
theorem dX0_hasWord_16 : decode cX0_hasWord 16 = .ok (.iconst 0, 1) := by decide +kernel
theorem dX0_hasWord_17 : decode cX0_hasWord 17 = .ok (.ireturn, 1) := by decide +kernel
theorem dX0_ofWord_0 : decode cX0_ofWord 0 = .ok (.iload_n 1, 1) := by decide +kernel
theorem dX0_ofWord_1 : decode cX0_ofWord 1 = .ok (.bipush 6, 2) := by decide +kernel
theorem dX0_ofWord_3 : decode cX0_ofWord 3 = .ok (.imul, 1) := by decide +kernel
theorem dX0_ofWord_4 : decode cX0_ofWord 4 = .ok (.iload_n 2, 1) := by decide +kernel
theorem dX0_ofWord_5 : decode cX0_ofWord 5 = .ok (.iadd, 1) := by decide +kernel
theorem dX0_ofWord_6 : decode cX0_ofWord 6 = .ok (.istore_n 3, 1) := by decide +kernel
theorem dX0_ofWord_7 : decode cX0_ofWord 7 = .ok (.iload_n 3, 1) := by decide +kernel
theorem dX0_ofWord_8 : decode cX0_ofWord 8 = .ok (.ifCond .lt 21, 3) := by decide +kernel
theorem dX0_ofWord_11 : decode cX0_ofWord 11 = .ok (.iload_n 3, 1) := by decide +kernel
theorem dX0_ofWord_12 : decode cX0_ofWord 12 = .ok (.aload_n 0, 1) := by decide +kernel
theorem dX0_ofWord_13 : decode cX0_ofWord 13 = .ok (.getfield 11, 3) := by decide +kernel
theorem dX0_ofWord_16 : decode cX0_ofWord 16 = .ok (.arraylength, 1) := by decide +kernel
theorem dX0_ofWord_17 : decode cX0_ofWord 17 = .ok (.if_icmp .ge 12, 3) := by decide +kernel
theorem dX0_ofWord_20 : decode cX0_ofWord 20 = .ok (.aload_n 0, 1) := by decide +kernel
theorem dX0_ofWord_21 : decode cX0_ofWord 21 = .ok (.getfield 11, 3) := by decide +kernel
theorem dX0_ofWord_24 : decode cX0_ofWord 24 = .ok (.iload_n 3, 1) := by decide +kernel
theorem dX0_ofWord_25 : decode cX0_ofWord 25 = .ok (.iaload, 1) := by decide +kernel
theorem dX0_ofWord_26 : decode cX0_ofWord 26 = .ok (.goto 4, 3) := by decide +kernel
theorem dX0_ofWord_29 : decode cX0_ofWord 29 = .ok (.iconst (-1), 1) := by decide +kernel
theorem dX0_ofWord_30 : decode cX0_ofWord 30 = .ok (.ireturn, 1) := by decide +kernel
theorem dX0_putWord_0 : decode cX0_putWord 0 = .ok (.aload_n 0, 1) := by decide +kernel
theorem dX0_putWord_1 : decode cX0_putWord 1 = .ok (.iload_n 1, 1) := by decide +kernel
theorem dX0_putWord_2 : decode cX0_putWord 2 = .ok (.bipush 6, 2) := by decide +kernel
theorem dX0_putWord_4 : decode cX0_putWord 4 = .ok (.imul, 1) := by decide +kernel
theorem dX0_putWord_5 : decode cX0_putWord 5 = .ok (.iload_n 2, 1) := by decide +kernel
theorem dX0_putWord_6 : decode cX0_putWord 6 = .ok (.iadd, 1) := by decide +kernel
theorem dX0_putWord_7 : decode cX0_putWord 7 = .ok (.iload_n 3, 1) := by decide +kernel
theorem dX0_putWord_8 : decode cX0_putWord 8 = .ok (.invokevirtual 25, 3) := by decide +kernel
theorem dX0_putWord_11 : decode cX0_putWord 11 = .ok (.return_, 1) := by decide +kernel
theorem dX0_addWord_0 : decode cX0_addWord 0 = .ok (.aload_n 0, 1) := by decide +kernel
theorem dX0_addWord_1 : decode cX0_addWord 1 = .ok (.invokevirtual 21, 3) := by decide +kernel
theorem dX0_addWord_4 : decode cX0_addWord 4 = .ok (.istore 5, 2) := by decide +kernel
theorem dX0_addWord_6 : decode cX0_addWord 6 = .ok (.aload_n 0, 1) := by decide +kernel
theorem dX0_addWord_7 : decode cX0_addWord 7 = .ok (.iload 5, 2) := by decide +kernel
theorem dX0_addWord_9 : decode cX0_addWord 9 = .ok (.iconst 0, 1) := by decide +kernel
theorem dX0_addWord_10 : decode cX0_addWord 10 = .ok (.iload_n 1, 1) := by decide +kernel
theorem dX0_addWord_11 : decode cX0_addWord 11 = .ok (.invokevirtual 29, 3) := by decide +kernel
theorem dX0_addWord_14 : decode cX0_addWord 14 = .ok (.aload_n 0, 1) := by decide +kernel
theorem dX0_addWord_15 : decode cX0_addWord 15 = .ok (.iload 5, 2) := by decide +kernel
theorem dX0_addWord_17 : decode cX0_addWord 17 = .ok (.iconst 1, 1) := by decide +kernel
theorem dX0_addWord_18 : decode cX0_addWord 18 = .ok (.iload_n 2, 1) := by decide +kernel
theorem dX0_addWord_19 : decode cX0_addWord 19 = .ok (.invokevirtual 29, 3) := by decide +kernel
theorem dX0_addWord_22 : decode cX0_addWord 22 = .ok (.aload_n 0, 1) := by decide +kernel
theorem dX0_addWord_23 : decode cX0_addWord 23 = .ok (.iload 5, 2) := by decide +kernel
theorem dX0_addWord_25 : decode cX0_addWord 25 = .ok (.iconst 2, 1) := by decide +kernel
theorem dX0_addWord_26 : decode cX0_addWord 26 = .ok (.iload_n 3, 1) := by decide +kernel
theorem dX0_addWord_27 : decode cX0_addWord 27 = .ok (.invokevirtual 29, 3) := by decide +kernel
theorem dX0_addWord_30 : decode cX0_addWord 30 = .ok (.aload_n 0, 1) := by decide +kernel
theorem dX0_addWord_31 : decode cX0_addWord 31 = .ok (.iload 5, 2) := by decide +kernel
theorem dX0_addWord_33 : decode cX0_addWord 33 = .ok (.iconst 3, 1) := by decide +kernel
theorem dX0_addWord_34 : decode cX0_addWord 34 = .ok (.iload 4, 2) := by decide +kernel
theorem dX0_addWord_36 : decode cX0_addWord 36 = .ok (.invokevirtual 29, 3) := by decide +kernel
theorem dX0_addWord_39 : decode cX0_addWord 39 = .ok (.aload_n 0, 1) := by decide +kernel
theorem dX0_addWord_40 : decode cX0_addWord 40 = .ok (.iload 5, 2) := by decide +kernel
theorem dX0_addWord_42 : decode cX0_addWord 42 = .ok (.iconst 4, 1) := by decide +kernel
theorem dX0_addWord_43 : decode cX0_addWord 43 = .ok (.iconst 0, 1) := by decide +kernel
theorem dX0_addWord_44 : decode cX0_addWord 44 = .ok (.invokevirtual 29, 3) := by decide +kernel
theorem dX0_addWord_47 : decode cX0_addWord 47 = .ok (.aload_n 0, 1) := by decide +kernel
theorem dX0_addWord_48 : decode cX0_addWord 48 = .ok (.iload 5, 2) := by decide +kernel
theorem dX0_addWord_50 : decode cX0_addWord 50 = .ok (.iconst 5, 1) := by decide +kernel
theorem dX0_addWord_51 : decode cX0_addWord 51 = .ok (.iconst 4, 1) := by decide +kernel
theorem dX0_addWord_52 : decode cX0_addWord 52 = .ok (.invokevirtual 29, 3) := by decide +kernel
theorem dX0_addWord_55 : decode cX0_addWord 55 = .ok (.aload_n 0, 1) := by decide +kernel
theorem dX0_addWord_56 : decode cX0_addWord 56 = .ok (.bipush 80, 2) := by decide +kernel
theorem dX0_addWord_58 : decode cX0_addWord 58 = .ok (.iload 5, 2) := by decide +kernel
theorem dX0_addWord_60 : decode cX0_addWord 60 = .ok (.iconst 1, 1) := by decide +kernel
theorem dX0_addWord_61 : decode cX0_addWord 61 = .ok (.iadd, 1) := by decide +kernel
theorem dX0_addWord_62 : decode cX0_addWord 62 = .ok (.invokevirtual 25, 3) := by decide +kernel
theorem dX0_addWord_65 : decode cX0_addWord 65 = .ok (.iload 5, 2) := by decide +kernel
theorem dX0_addWord_67 : decode cX0_addWord 67 = .ok (.ireturn, 1) := by decide +kernel
theorem dX0_dropWord_0 : decode cX0_dropWord 0 = .ok (.aload_n 0, 1) := by decide +kernel
theorem dX0_dropWord_1 : decode cX0_dropWord 1 = .ok (.iload_n 1, 1) := by decide +kernel
theorem dX0_dropWord_2 : decode cX0_dropWord 2 = .ok (.bipush 6, 2) := by decide +kernel
theorem dX0_dropWord_4 : decode cX0_dropWord 4 = .ok (.imul, 1) := by decide +kernel
theorem dX0_dropWord_5 : decode cX0_dropWord 5 = .ok (.bipush 6, 2) := by decide +kernel
theorem dX0_dropWord_7 : decode cX0_dropWord 7 = .ok (.bipush 48, 2) := by decide +kernel
theorem dX0_dropWord_9 : decode cX0_dropWord 9 = .ok (.invokevirtual 33, 3) := by decide +kernel
theorem dX0_dropWord_12 : decode cX0_dropWord 12 = .ok (.aload_n 0, 1) := by decide +kernel
theorem dX0_dropWord_13 : decode cX0_dropWord 13 = .ok (.bipush 80, 2) := by decide +kernel
theorem dX0_dropWord_15 : decode cX0_dropWord 15 = .ok (.aload_n 0, 1) := by decide +kernel
theorem dX0_dropWord_16 : decode cX0_dropWord 16 = .ok (.invokevirtual 21, 3) := by decide +kernel
theorem dX0_dropWord_19 : decode cX0_dropWord 19 = .ok (.iconst 1, 1) := by decide +kernel
theorem dX0_dropWord_20 : decode cX0_dropWord 20 = .ok (.isub, 1) := by decide +kernel
theorem dX0_dropWord_21 : decode cX0_dropWord 21 = .ok (.invokevirtual 25, 3) := by decide +kernel
theorem dX0_dropWord_24 : decode cX0_dropWord 24 = .ok (.return_, 1) := by decide +kernel
theorem dX0_beams_0 : decode cX0_beams 0 = .ok (.aload_n 0, 1) := by decide +kernel
theorem dX0_beams_1 : decode cX0_beams 1 = .ok (.getfield 11, 3) := by decide +kernel
theorem dX0_beams_4 : decode cX0_beams 4 = .ok (.bipush 81, 2) := by decide +kernel
theorem dX0_beams_6 : decode cX0_beams 6 = .ok (.iaload, 1) := by decide +kernel
theorem dX0_beams_7 : decode cX0_beams 7 = .ok (.ireturn, 1) := by decide +kernel
theorem dX0_hasBeam_0 : decode cX0_hasBeam 0 = .ok (.iload_n 1, 1) := by decide +kernel
theorem dX0_hasBeam_1 : decode cX0_hasBeam 1 = .ok (.ifCond .lt 15, 3) := by decide +kernel
theorem dX0_hasBeam_4 : decode cX0_hasBeam 4 = .ok (.iload_n 1, 1) := by decide +kernel
theorem dX0_hasBeam_5 : decode cX0_hasBeam 5 = .ok (.aload_n 0, 1) := by decide +kernel
theorem dX0_hasBeam_6 : decode cX0_hasBeam 6 = .ok (.invokevirtual 36, 3) := by decide +kernel
theorem dX0_hasBeam_9 : decode cX0_hasBeam 9 = .ok (.if_icmp .ge 7, 3) := by decide +kernel
theorem dX0_hasBeam_12 : decode cX0_hasBeam 12 = .ok (.iconst 1, 1) := by decide +kernel
theorem dX0_hasBeam_13 : decode cX0_hasBeam 13 = .ok (.goto 4, 3) := by decide +kernel
theorem dX0_hasBeam_16 : decode cX0_hasBeam 16 = .ok (.iconst 0, 1) := by decide +kernel
theorem dX0_hasBeam_17 : decode cX0_hasBeam 17 = .ok (.ireturn, 1) := by decide +kernel
theorem dX0_ofBeam_0 : decode cX0_ofBeam 0 = .ok (.bipush 48, 2) := by decide +kernel
theorem dX0_ofBeam_2 : decode cX0_ofBeam 2 = .ok (.iload_n 1, 1) := by decide +kernel
theorem dX0_ofBeam_3 : decode cX0_ofBeam 3 = .ok (.iconst 5, 1) := by decide +kernel
theorem dX0_ofBeam_4 : decode cX0_ofBeam 4 = .ok (.imul, 1) := by decide +kernel
theorem dX0_ofBeam_5 : decode cX0_ofBeam 5 = .ok (.iadd, 1) := by decide +kernel
theorem dX0_ofBeam_6 : decode cX0_ofBeam 6 = .ok (.iload_n 2, 1) := by decide +kernel
theorem dX0_ofBeam_7 : decode cX0_ofBeam 7 = .ok (.iadd, 1) := by decide +kernel
theorem dX0_ofBeam_8 : decode cX0_ofBeam 8 = .ok (.istore_n 3, 1) := by decide +kernel
theorem dX0_ofBeam_9 : decode cX0_ofBeam 9 = .ok (.iload_n 3, 1) := by decide +kernel
theorem dX0_ofBeam_10 : decode cX0_ofBeam 10 = .ok (.ifCond .lt 21, 3) := by decide +kernel
theorem dX0_ofBeam_13 : decode cX0_ofBeam 13 = .ok (.iload_n 3, 1) := by decide +kernel
theorem dX0_ofBeam_14 : decode cX0_ofBeam 14 = .ok (.aload_n 0, 1) := by decide +kernel
theorem dX0_ofBeam_15 : decode cX0_ofBeam 15 = .ok (.getfield 11, 3) := by decide +kernel
theorem dX0_ofBeam_18 : decode cX0_ofBeam 18 = .ok (.arraylength, 1) := by decide +kernel
theorem dX0_ofBeam_19 : decode cX0_ofBeam 19 = .ok (.if_icmp .ge 12, 3) := by decide +kernel
theorem dX0_ofBeam_22 : decode cX0_ofBeam 22 = .ok (.aload_n 0, 1) := by decide +kernel
theorem dX0_ofBeam_23 : decode cX0_ofBeam 23 = .ok (.getfield 11, 3) := by decide +kernel
theorem dX0_ofBeam_26 : decode cX0_ofBeam 26 = .ok (.iload_n 3, 1) := by decide +kernel
theorem dX0_ofBeam_27 : decode cX0_ofBeam 27 = .ok (.iaload, 1) := by decide +kernel
theorem dX0_ofBeam_28 : decode cX0_ofBeam 28 = .ok (.goto 4, 3) := by decide +kernel
theorem dX0_ofBeam_31 : decode cX0_ofBeam 31 = .ok (.iconst (-1), 1) := by decide +kernel
theorem dX0_ofBeam_32 : decode cX0_ofBeam 32 = .ok (.ireturn, 1) := by decide +kernel
theorem dX0_putBeam_0 : decode cX0_putBeam 0 = .ok (.aload_n 0, 1) := by decide +kernel
theorem dX0_putBeam_1 : decode cX0_putBeam 1 = .ok (.bipush 48, 2) := by decide +kernel
theorem dX0_putBeam_3 : decode cX0_putBeam 3 = .ok (.iload_n 1, 1) := by decide +kernel
theorem dX0_putBeam_4 : decode cX0_putBeam 4 = .ok (.iconst 5, 1) := by decide +kernel
theorem dX0_putBeam_5 : decode cX0_putBeam 5 = .ok (.imul, 1) := by decide +kernel
theorem dX0_putBeam_6 : decode cX0_putBeam 6 = .ok (.iadd, 1) := by decide +kernel
theorem dX0_putBeam_7 : decode cX0_putBeam 7 = .ok (.iload_n 2, 1) := by decide +kernel
theorem dX0_putBeam_8 : decode cX0_putBeam 8 = .ok (.iadd, 1) := by decide +kernel
theorem dX0_putBeam_9 : decode cX0_putBeam 9 = .ok (.iload_n 3, 1) := by decide +kernel
theorem dX0_putBeam_10 : decode cX0_putBeam 10 = .ok (.invokevirtual 25, 3) := by decide +kernel
theorem dX0_putBeam_13 : decode cX0_putBeam 13 = .ok (.return_, 1) := by decide +kernel
theorem dX0_addBeam_0 : decode cX0_addBeam 0 = .ok (.aload_n 0, 1) := by decide +kernel
theorem dX0_addBeam_1 : decode cX0_addBeam 1 = .ok (.invokevirtual 36, 3) := by decide +kernel
theorem dX0_addBeam_4 : decode cX0_addBeam 4 = .ok (.istore 6, 2) := by decide +kernel
theorem dX0_addBeam_6 : decode cX0_addBeam 6 = .ok (.aload_n 0, 1) := by decide +kernel
theorem dX0_addBeam_7 : decode cX0_addBeam 7 = .ok (.iload 6, 2) := by decide +kernel
theorem dX0_addBeam_9 : decode cX0_addBeam 9 = .ok (.iconst 0, 1) := by decide +kernel
theorem dX0_addBeam_10 : decode cX0_addBeam 10 = .ok (.iload_n 1, 1) := by decide +kernel
theorem dX0_addBeam_11 : decode cX0_addBeam 11 = .ok (.invokevirtual 39, 3) := by decide +kernel
theorem dX0_addBeam_14 : decode cX0_addBeam 14 = .ok (.aload_n 0, 1) := by decide +kernel
theorem dX0_addBeam_15 : decode cX0_addBeam 15 = .ok (.iload 6, 2) := by decide +kernel
theorem dX0_addBeam_17 : decode cX0_addBeam 17 = .ok (.iconst 1, 1) := by decide +kernel
theorem dX0_addBeam_18 : decode cX0_addBeam 18 = .ok (.iload_n 2, 1) := by decide +kernel
theorem dX0_addBeam_19 : decode cX0_addBeam 19 = .ok (.invokevirtual 39, 3) := by decide +kernel
theorem dX0_addBeam_22 : decode cX0_addBeam 22 = .ok (.aload_n 0, 1) := by decide +kernel
theorem dX0_addBeam_23 : decode cX0_addBeam 23 = .ok (.iload 6, 2) := by decide +kernel
theorem dX0_addBeam_25 : decode cX0_addBeam 25 = .ok (.iconst 2, 1) := by decide +kernel
theorem dX0_addBeam_26 : decode cX0_addBeam 26 = .ok (.iload_n 3, 1) := by decide +kernel
theorem dX0_addBeam_27 : decode cX0_addBeam 27 = .ok (.invokevirtual 39, 3) := by decide +kernel
theorem dX0_addBeam_30 : decode cX0_addBeam 30 = .ok (.aload_n 0, 1) := by decide +kernel
theorem dX0_addBeam_31 : decode cX0_addBeam 31 = .ok (.iload 6, 2) := by decide +kernel
theorem dX0_addBeam_33 : decode cX0_addBeam 33 = .ok (.iconst 3, 1) := by decide +kernel
theorem dX0_addBeam_34 : decode cX0_addBeam 34 = .ok (.iload 4, 2) := by decide +kernel
theorem dX0_addBeam_36 : decode cX0_addBeam 36 = .ok (.invokevirtual 39, 3) := by decide +kernel
theorem dX0_addBeam_39 : decode cX0_addBeam 39 = .ok (.aload_n 0, 1) := by decide +kernel
theorem dX0_addBeam_40 : decode cX0_addBeam 40 = .ok (.iload 6, 2) := by decide +kernel
theorem dX0_addBeam_42 : decode cX0_addBeam 42 = .ok (.iconst 4, 1) := by decide +kernel
theorem dX0_addBeam_43 : decode cX0_addBeam 43 = .ok (.iload 5, 2) := by decide +kernel
theorem dX0_addBeam_45 : decode cX0_addBeam 45 = .ok (.invokevirtual 39, 3) := by decide +kernel
theorem dX0_addBeam_48 : decode cX0_addBeam 48 = .ok (.aload_n 0, 1) := by decide +kernel
theorem dX0_addBeam_49 : decode cX0_addBeam 49 = .ok (.bipush 81, 2) := by decide +kernel
theorem dX0_addBeam_51 : decode cX0_addBeam 51 = .ok (.iload 6, 2) := by decide +kernel
theorem dX0_addBeam_53 : decode cX0_addBeam 53 = .ok (.iconst 1, 1) := by decide +kernel
theorem dX0_addBeam_54 : decode cX0_addBeam 54 = .ok (.iadd, 1) := by decide +kernel
theorem dX0_addBeam_55 : decode cX0_addBeam 55 = .ok (.invokevirtual 25, 3) := by decide +kernel
theorem dX0_addBeam_58 : decode cX0_addBeam 58 = .ok (.iload 6, 2) := by decide +kernel
theorem dX0_addBeam_60 : decode cX0_addBeam 60 = .ok (.ireturn, 1) := by decide +kernel
theorem dX0_dropBeam_0 : decode cX0_dropBeam 0 = .ok (.aload_n 0, 1) := by decide +kernel
theorem dX0_dropBeam_1 : decode cX0_dropBeam 1 = .ok (.bipush 48, 2) := by decide +kernel
theorem dX0_dropBeam_3 : decode cX0_dropBeam 3 = .ok (.iload_n 1, 1) := by decide +kernel
theorem dX0_dropBeam_4 : decode cX0_dropBeam 4 = .ok (.iconst 5, 1) := by decide +kernel
theorem dX0_dropBeam_5 : decode cX0_dropBeam 5 = .ok (.imul, 1) := by decide +kernel
theorem dX0_dropBeam_6 : decode cX0_dropBeam 6 = .ok (.iadd, 1) := by decide +kernel
theorem dX0_dropBeam_7 : decode cX0_dropBeam 7 = .ok (.iconst 5, 1) := by decide +kernel
theorem dX0_dropBeam_8 : decode cX0_dropBeam 8 = .ok (.bipush 78, 2) := by decide +kernel
theorem dX0_dropBeam_10 : decode cX0_dropBeam 10 = .ok (.invokevirtual 33, 3) := by decide +kernel
theorem dX0_dropBeam_13 : decode cX0_dropBeam 13 = .ok (.aload_n 0, 1) := by decide +kernel
theorem dX0_dropBeam_14 : decode cX0_dropBeam 14 = .ok (.bipush 81, 2) := by decide +kernel
theorem dX0_dropBeam_16 : decode cX0_dropBeam 16 = .ok (.aload_n 0, 1) := by decide +kernel
theorem dX0_dropBeam_17 : decode cX0_dropBeam 17 = .ok (.invokevirtual 36, 3) := by decide +kernel
theorem dX0_dropBeam_20 : decode cX0_dropBeam 20 = .ok (.iconst 1, 1) := by decide +kernel
theorem dX0_dropBeam_21 : decode cX0_dropBeam 21 = .ok (.isub, 1) := by decide +kernel
theorem dX0_dropBeam_22 : decode cX0_dropBeam 22 = .ok (.invokevirtual 25, 3) := by decide +kernel
theorem dX0_dropBeam_25 : decode cX0_dropBeam 25 = .ok (.return_, 1) := by decide +kernel
theorem dX0_setting_0 : decode cX0_setting 0 = .ok (.bipush 78, 2) := by decide +kernel
theorem dX0_setting_2 : decode cX0_setting 2 = .ok (.iload_n 1, 1) := by decide +kernel
theorem dX0_setting_3 : decode cX0_setting 3 = .ok (.iadd, 1) := by decide +kernel
theorem dX0_setting_4 : decode cX0_setting 4 = .ok (.istore_n 2, 1) := by decide +kernel
theorem dX0_setting_5 : decode cX0_setting 5 = .ok (.iload_n 2, 1) := by decide +kernel
theorem dX0_setting_6 : decode cX0_setting 6 = .ok (.ifCond .lt 21, 3) := by decide +kernel
theorem dX0_setting_9 : decode cX0_setting 9 = .ok (.iload_n 2, 1) := by decide +kernel
theorem dX0_setting_10 : decode cX0_setting 10 = .ok (.aload_n 0, 1) := by decide +kernel
theorem dX0_setting_11 : decode cX0_setting 11 = .ok (.getfield 11, 3) := by decide +kernel
theorem dX0_setting_14 : decode cX0_setting 14 = .ok (.arraylength, 1) := by decide +kernel
theorem dX0_setting_15 : decode cX0_setting 15 = .ok (.if_icmp .ge 12, 3) := by decide +kernel
theorem dX0_setting_18 : decode cX0_setting 18 = .ok (.aload_n 0, 1) := by decide +kernel
theorem dX0_setting_19 : decode cX0_setting 19 = .ok (.getfield 11, 3) := by decide +kernel
theorem dX0_setting_22 : decode cX0_setting 22 = .ok (.iload_n 2, 1) := by decide +kernel
theorem dX0_setting_23 : decode cX0_setting 23 = .ok (.iaload, 1) := by decide +kernel
theorem dX0_setting_24 : decode cX0_setting 24 = .ok (.goto 4, 3) := by decide +kernel
theorem dX0_setting_27 : decode cX0_setting 27 = .ok (.iconst (-1), 1) := by decide +kernel
theorem dX0_setting_28 : decode cX0_setting 28 = .ok (.ireturn, 1) := by decide +kernel
theorem dX0_putSetting_0 : decode cX0_putSetting 0 = .ok (.aload_n 0, 1) := by decide +kernel
theorem dX0_putSetting_1 : decode cX0_putSetting 1 = .ok (.bipush 78, 2) := by decide +kernel
theorem dX0_putSetting_3 : decode cX0_putSetting 3 = .ok (.iload_n 1, 1) := by decide +kernel
theorem dX0_putSetting_4 : decode cX0_putSetting 4 = .ok (.iadd, 1) := by decide +kernel
theorem dX0_putSetting_5 : decode cX0_putSetting 5 = .ok (.iload_n 2, 1) := by decide +kernel
theorem dX0_putSetting_6 : decode cX0_putSetting 6 = .ok (.invokevirtual 25, 3) := by decide +kernel
theorem dX0_putSetting_9 : decode cX0_putSetting 9 = .ok (.return_, 1) := by decide +kernel
theorem dX0_letters_0 : decode cX0_letters 0 = .ok (.iconst 0, 1) := by decide +kernel
theorem dX0_letters_1 : decode cX0_letters 1 = .ok (.istore_n 1, 1) := by decide +kernel
theorem dX0_letters_2 : decode cX0_letters 2 = .ok (.iconst 0, 1) := by decide +kernel
theorem dX0_letters_3 : decode cX0_letters 3 = .ok (.istore_n 2, 1) := by decide +kernel
theorem dX0_letters_4 : decode cX0_letters 4 = .ok (.iload_n 2, 1) := by decide +kernel
theorem dX0_letters_5 : decode cX0_letters 5 = .ok (.aload_n 0, 1) := by decide +kernel
theorem dX0_letters_6 : decode cX0_letters 6 = .ok (.invokevirtual 21, 3) := by decide +kernel
theorem dX0_letters_9 : decode cX0_letters 9 = .ok (.if_icmp .ge 18, 3) := by decide +kernel
theorem dX0_letters_12 : decode cX0_letters 12 = .ok (.iload_n 1, 1) := by decide +kernel
theorem dX0_letters_13 : decode cX0_letters 13 = .ok (.aload_n 0, 1) := by decide +kernel
theorem dX0_letters_14 : decode cX0_letters 14 = .ok (.iload_n 2, 1) := by decide +kernel
theorem dX0_letters_15 : decode cX0_letters 15 = .ok (.iconst 0, 1) := by decide +kernel
theorem dX0_letters_16 : decode cX0_letters 16 = .ok (.invokevirtual 42, 3) := by decide +kernel
theorem dX0_letters_19 : decode cX0_letters 19 = .ok (.iadd, 1) := by decide +kernel
theorem dX0_letters_20 : decode cX0_letters 20 = .ok (.istore_n 1, 1) := by decide +kernel
theorem dX0_letters_21 : decode cX0_letters 21 = .ok (.iinc 2 1, 3) := by decide +kernel
theorem dX0_letters_24 : decode cX0_letters 24 = .ok (.goto (-20), 3) := by decide +kernel
theorem dX0_letters_27 : decode cX0_letters 27 = .ok (.iload_n 1, 1) := by decide +kernel
theorem dX0_letters_28 : decode cX0_letters 28 = .ok (.ireturn, 1) := by decide +kernel
theorem dX0_columnBits_0 : decode cX0_columnBits 0 = .ok (.iload_n 0, 1) := by decide +kernel
theorem dX0_columnBits_1 : decode cX0_columnBits 1 = .ok (.iconst 0, 1) := by decide +kernel
theorem dX0_columnBits_2 : decode cX0_columnBits 2 = .ok (.invokestatic 53, 3) := by decide +kernel
theorem dX0_columnBits_5 : decode cX0_columnBits 5 = .ok (.istore_n 2, 1) := by decide +kernel
theorem dX0_columnBits_6 : decode cX0_columnBits 6 = .ok (.iload_n 0, 1) := by decide +kernel
theorem dX0_columnBits_7 : decode cX0_columnBits 7 = .ok (.iload_n 1, 1) := by decide +kernel
theorem dX0_columnBits_8 : decode cX0_columnBits 8 = .ok (.iadd, 1) := by decide +kernel
theorem dX0_columnBits_9 : decode cX0_columnBits 9 = .ok (.bipush 60, 2) := by decide +kernel
theorem dX0_columnBits_11 : decode cX0_columnBits 11 = .ok (.invokestatic 58, 3) := by decide +kernel
theorem dX0_columnBits_14 : decode cX0_columnBits 14 = .ok (.istore_n 3, 1) := by decide +kernel
theorem dX0_columnBits_15 : decode cX0_columnBits 15 = .ok (.iload_n 2, 1) := by decide +kernel
theorem dX0_columnBits_16 : decode cX0_columnBits 16 = .ok (.iload_n 3, 1) := by decide +kernel
theorem dX0_columnBits_17 : decode cX0_columnBits 17 = .ok (.if_icmp .ge 15, 3) := by decide +kernel
theorem dX0_columnBits_20 : decode cX0_columnBits 20 = .ok (.lconst 1, 1) := by decide +kernel
theorem dX0_columnBits_21 : decode cX0_columnBits 21 = .ok (.iload_n 3, 1) := by decide +kernel
theorem dX0_columnBits_22 : decode cX0_columnBits 22 = .ok (.iload_n 2, 1) := by decide +kernel
theorem dX0_columnBits_23 : decode cX0_columnBits 23 = .ok (.isub, 1) := by decide +kernel
theorem dX0_columnBits_24 : decode cX0_columnBits 24 = .ok (.lshl, 1) := by decide +kernel
theorem dX0_columnBits_25 : decode cX0_columnBits 25 = .ok (.lconst 1, 1) := by decide +kernel
theorem dX0_columnBits_26 : decode cX0_columnBits 26 = .ok (.lsub, 1) := by decide +kernel
theorem dX0_columnBits_27 : decode cX0_columnBits 27 = .ok (.iload_n 2, 1) := by decide +kernel
theorem dX0_columnBits_28 : decode cX0_columnBits 28 = .ok (.lshl, 1) := by decide +kernel
theorem dX0_columnBits_29 : decode cX0_columnBits 29 = .ok (.goto 4, 3) := by decide +kernel
theorem dX0_columnBits_32 : decode cX0_columnBits 32 = .ok (.lconst 0, 1) := by decide +kernel
theorem dX0_columnBits_33 : decode cX0_columnBits 33 = .ok (.lreturn, 1) := by decide +kernel
theorem dX0_coveredBy_0 : decode cX0_coveredBy 0 = .ok (.iload_n 2, 1) := by decide +kernel
theorem dX0_coveredBy_1 : decode cX0_coveredBy 1 = .ok (.aload_n 0, 1) := by decide +kernel
theorem dX0_coveredBy_2 : decode cX0_coveredBy 2 = .ok (.iload_n 1, 1) := by decide +kernel
theorem dX0_coveredBy_3 : decode cX0_coveredBy 3 = .ok (.iconst 0, 1) := by decide +kernel
theorem dX0_coveredBy_4 : decode cX0_coveredBy 4 = .ok (.invokevirtual 46, 3) := by decide +kernel
theorem dX0_coveredBy_7 : decode cX0_coveredBy 7 = .ok (.isub, 1) := by decide +kernel
theorem dX0_coveredBy_8 : decode cX0_coveredBy 8 = .ok (.istore_n 3, 1) := by decide +kernel
theorem dX0_coveredBy_9 : decode cX0_coveredBy 9 = .ok (.aload_n 0, 1) := by decide +kernel
theorem dX0_coveredBy_10 : decode cX0_coveredBy 10 = .ok (.iload_n 1, 1) := by decide +kernel
theorem dX0_coveredBy_11 : decode cX0_coveredBy 11 = .ok (.iconst 1, 1) := by decide +kernel
theorem dX0_coveredBy_12 : decode cX0_coveredBy 12 = .ok (.invokevirtual 46, 3) := by decide +kernel
theorem dX0_coveredBy_15 : decode cX0_coveredBy 15 = .ok (.aload_n 0, 1) := by decide +kernel
theorem dX0_coveredBy_16 : decode cX0_coveredBy 16 = .ok (.iload_n 1, 1) := by decide +kernel
theorem dX0_coveredBy_17 : decode cX0_coveredBy 17 = .ok (.iconst 2, 1) := by decide +kernel
theorem dX0_coveredBy_18 : decode cX0_coveredBy 18 = .ok (.invokevirtual 46, 3) := by decide +kernel
theorem dX0_coveredBy_21 : decode cX0_coveredBy 21 = .ok (.iload_n 3, 1) := by decide +kernel
theorem dX0_coveredBy_22 : decode cX0_coveredBy 22 = .ok (.imul, 1) := by decide +kernel
theorem dX0_coveredBy_23 : decode cX0_coveredBy 23 = .ok (.iadd, 1) := by decide +kernel
theorem dX0_coveredBy_24 : decode cX0_coveredBy 24 = .ok (.istore 4, 2) := by decide +kernel
theorem dX0_coveredBy_26 : decode cX0_coveredBy 26 = .ok (.iload_n 3, 1) := by decide +kernel
theorem dX0_coveredBy_27 : decode cX0_coveredBy 27 = .ok (.ifCond .ge 7, 3) := by decide +kernel
theorem dX0_coveredBy_30 : decode cX0_coveredBy 30 = .ok (.lconst 0, 1) := by decide +kernel
theorem dX0_coveredBy_31 : decode cX0_coveredBy 31 = .ok (.goto 14, 3) := by decide +kernel
theorem dX0_coveredBy_34 : decode cX0_coveredBy 34 = .ok (.iload 4, 2) := by decide +kernel
theorem dX0_coveredBy_36 : decode cX0_coveredBy 36 = .ok (.aload_n 0, 1) := by decide +kernel
theorem dX0_coveredBy_37 : decode cX0_coveredBy 37 = .ok (.iload_n 1, 1) := by decide +kernel
theorem dX0_coveredBy_38 : decode cX0_coveredBy 38 = .ok (.iconst 3, 1) := by decide +kernel
theorem dX0_coveredBy_39 : decode cX0_coveredBy 39 = .ok (.invokevirtual 46, 3) := by decide +kernel
theorem dX0_coveredBy_42 : decode cX0_coveredBy 42 = .ok (.invokestatic 49, 3) := by decide +kernel
theorem dX0_coveredBy_45 : decode cX0_coveredBy 45 = .ok (.lreturn, 1) := by decide +kernel
abbrev rm_J7_fill_d0a16 : Room := { frames := 0, cells := 0, slots := 0, locals := 0 }
set_option maxHeartbeats 4000000 in
set_option maxRecDepth 100000 in
theorem c_J7_fill_d0a16 (l : Launch) (dC : Nat → ClassId) (dI : Nat → Nat → Nat) (cI cJ : ClassId) (r0 : Nat) (n_r0 : Nat) (sz : Nat) (s_r0 : Nat → Int64) (p1 : Int64) (Q : (Nat → Int64) → Prop) (hw : P_J7_fill_d0a16 n_r0 p1 s_r0 Q) : Met l yJ7_fill_d0a16 (Cond.code yJ7_fill_d0a16 cJ7_fill_d0a16 5 none :: TBL) rm_J7_fill_d0a16 (gPc (dC, dI) vwCl (gTy cI cJ) [.ref r0, .long p1] [(r0, .inl (cJ, n_r0, .inr (.inl s_r0)))] sz) (va_Qv (fun (u : (Nat → Int64)) => Q u) (gB (dC, dI) vwCl (gTy cI cJ) (va_A [(r0, .inl (cJ, n_r0, .inr (.inl s_r0)))] sz) (fun (u : (Nat → Int64)) => [(r0, .inl (cJ, n_r0, .inr (.inl u)))])) (va_A [(r0, .inl (cJ, n_r0, .inr (.inl s_r0)))] sz)) 0 0 (va_A [(r0, .inl (cJ, n_r0, .inr (.inl s_r0)))] sz) := by
  refine Met.ofW (cc := cJ7_fill_d0a16) (maxL := 5) (ret := none) (by decide) rfl ?_
  intro p e s m args below meth c s₁ B hml hv
  obtain ⟨rfl, hsz, hP, hK, hD0⟩ := hv
  have hx := B.exec
  have hb := B.bytes
  have hr := B.returns
  have hts := atoms_spec (ws := Cond.code yJ7_fill_d0a16 cJ7_fill_d0a16 5 none :: TBL) B.pre
  have ht : ∀ w ∈ TBL, w.before ([.ref r0, .long p1] : List Value).toArray s = true := fun w h => hts w (List.mem_cons_of_mem _ h)
  clear hts
  have hown : s.vm.findClass RJ7 = some m.cls := findClass_of_methodNamed B.named
  have hlocks := B.notSynchronized
  clear B
  subst hsz
  have hD := hD0.self (sz := s.heap.size)
  clear hD0
  generalize hAe : va_A [(r0, .inl (cJ, n_r0, .inr (.inl s_r0)))] s.heap.size = A at hD ⊢
  have hA : ∀ q : Nat, s.heap.size ≤ q → A q := fun q h => by rw [← hAe]; exact Or.inr h
  clear hAe
  have hS : va_S A s.heap s.heap [] := va_S.rf
  have hP : va_P (dC, dI) vwCl [(r0, .inl (cJ, n_r0, .inr (.inl s_r0)))] s.heap := hP
  have hl := lv_entry ([.ref r0, .long p1]) (n := 5) (Nat.le_of_ble_eq_true rfl)
  rw [lg_entry_eq]
  generalize (lg_sl ([.ref r0, .long p1]) ++ List.replicate (5 - (lg_sl ([.ref r0, .long p1])).length) Slot.unset).toArray = ls at hl ⊢
  have hl : lv_has ls 5 [(0, .ref r0), (1, .long p1)] := hl
  generalize hQQ : MQ below _ _ _ 0 0 A = QQ
  show W p l e rm_J7_fill_d0a16 s m ([.ref r0, .long p1] : List Value).toArray below meth c s.heap [] 0 0 QQ (F0 m 0 ls [])
  have L6 : ∀ (x1 : Int64) (x4 : Int32), ∀ (n : Nat) (x3 : Int32) (s_r0 : Nat → Int64), P_J7_fill_d0a16_L6 n_r0 x1 x4 Q n x3 s_r0 → ∀ (H : Heap) (locs : List Loc) (ls : Array Slot), va_P (dC, dI) vwCl [(r0, .inl (cJ, n_r0, .inr (.inl s_r0)))] H → va_D A [(r0, .inl (cJ, n_r0, .inr (.inl s_r0)))] → va_S A s.heap H locs → lv_has ls 5 [(0, .ref r0), (1, .long x1), (3, .int x3), (4, .int x4)] → W p l e rm_J7_fill_d0a16 s m ([.ref r0, .long p1] : List Value).toArray below meth c H locs 0 0 QQ (F0 m 6 ls []) := by
    intro x1 x4
    intro n
    induction n with
    | zero => intro x3 s_r0 hw; rw [P_J7_fill_d0a16_L6_z] at hw; exact hw.elim
    | succ n ih =>
      intro x3 s_r0 hw
      rw [P_J7_fill_d0a16_L6_s] at hw
      generalize hrec : P_J7_fill_d0a16_L6 n_r0 x1 x4 Q n = rec6 at ih hw
      intro H locs ls hP hD hS hl
      unfold B_J7_fill_d0a16_L6 at hw
      refine lv_iload_n hx hb dJ7_fill_d0a16_6 rfl (lv_at hl 2 rfl) ?_
      refine lv_iload hx hb dJ7_fill_d0a16_7 (lv_at hl 3 rfl) ?_
      refine lv_icmp_ge (tgt := 22) hx hb dJ7_fill_d0a16_9 (by decide) (fun hc => ?_) (fun hc => ?_)
      · have hw := hw.1 hc
        rw [← hQQ]
        exact g_retv (u := s_r0) hx hb hr hlocks hw hP hK hD hS dJ7_fill_d0a16_22
      · have hw := hw.2 hc
        refine lv_aload_n hx hb dJ7_fill_d0a16_12 rfl (lv_at hl 0 rfl) ?_
        refine lv_iload_n hx hb dJ7_fill_d0a16_13 rfl (lv_at hl 2 rfl) ?_
        refine lv_lload_n hx hb dJ7_fill_d0a16_14 rfl (lv_at hl 1 rfl) ?_
        obtain ⟨hi_1, hw⟩ := hw
        refine gv_last hx hb hK hP hD hS 0 1 rfl rfl rfl hi_1 dJ7_fill_d0a16_15 (fun H locs hP hD hS => ?_)
        have hP : va_P (dC, dI) vwCl [(r0, .inl (cJ, n_r0, .inr (.inl (vp_updL s_r0 x3.toNatClampNeg x1))))] H := hP
        have hD : va_D A [(r0, .inl (cJ, n_r0, .inr (.inl (vp_updL s_r0 x3.toNatClampNeg x1))))] := hD
        refine lv_iinc (v := (x3 + 1)) (lv' := [(3, .int (x3 + 1)), (0, .ref r0), (1, .long x1), (4, .int x4)]) hx hb dJ7_fill_d0a16_16 hl (k := 2) rfl rfl (by decide) rfl (fun ls hl => ?_)
        refine lv_goto (tgt := 6) hx hb dJ7_fill_d0a16_19 (by decide) ?_
        exact ih (x3 + 1) (vp_updL s_r0 x3.toNatClampNeg x1) hw H locs ls hP hD hS (lv_sub (l' := [(0, .ref r0), (1, .long x1), (3, .int (x3 + 1)), (4, .int x4)]) hl [1, 2, 0, 3] rfl)
  obtain ⟨H, hHH⟩ : ∃ H, H = s.heap := ⟨_, rfl⟩
  rw [← hHH] at hP ⊢
  have hS : va_S A s.heap H [] := by rw [hHH]; exact hS
  clear hHH
  generalize ([] : List Loc) = locs at hS ⊢
  unfold P_J7_fill_d0a16 at hw
  refine lv_iconst (v := 0) hx hb dJ7_fill_d0a16_0 (by decide) ?_
  refine lv_istore_n (lv' := [(3, .int 0), (0, .ref r0), (1, .long p1)]) hx hb dJ7_fill_d0a16_1 rfl hl (by decide) rfl (fun ls hl => ?_)
  refine lv_aload_n hx hb dJ7_fill_d0a16_2 rfl (lv_at hl 1 rfl) ?_
  refine va_alen (v := (nI n_r0)) hx hb hK hP 0 1 rfl rfl rfl dJ7_fill_d0a16_3 ?_
  refine lv_istore (lv' := [(4, .int (nI n_r0)), (3, .int 0), (0, .ref r0), (1, .long p1)]) hx hb dJ7_fill_d0a16_4 hl (by decide) rfl (fun ls hl => ?_)
  obtain ⟨n, hw⟩ := hw
  exact L6 p1 (nI n_r0) n 0 s_r0 hw H locs ls hP hD hS (lv_sub (l' := [(0, .ref r0), (1, .long p1), (3, .int 0), (4, .int (nI n_r0))]) hl [2, 3, 1, 0] rfl)
abbrev rm_J7_fill_53178 : Room := { frames := 0, cells := 0, slots := 0, locals := 0 }
set_option maxHeartbeats 4000000 in
set_option maxRecDepth 100000 in
theorem c_J7_fill_53178 (l : Launch) (dC : Nat → ClassId) (dI : Nat → Nat → Nat) (cI cJ : ClassId) (r0 : Nat) (n_r0 : Nat) (sz : Nat) (s_r0 : Nat → Int32) (p1 : Int32) (Q : (Nat → Int32) → Prop) (hw : P_J7_fill_53178 n_r0 p1 s_r0 Q) : Met l yJ7_fill_53178 (Cond.code yJ7_fill_53178 cJ7_fill_53178 4 none :: TBL) rm_J7_fill_53178 (gPc (dC, dI) vwCl (gTy cI cJ) [.ref r0, .int p1] [(r0, .inl (cI, n_r0, .inl s_r0))] sz) (va_Qv (fun (u : (Nat → Int32)) => Q u) (gB (dC, dI) vwCl (gTy cI cJ) (va_A [(r0, .inl (cI, n_r0, .inl s_r0))] sz) (fun (u : (Nat → Int32)) => [(r0, .inl (cI, n_r0, .inl u))])) (va_A [(r0, .inl (cI, n_r0, .inl s_r0))] sz)) 0 0 (va_A [(r0, .inl (cI, n_r0, .inl s_r0))] sz) := by
  refine Met.ofW (cc := cJ7_fill_53178) (maxL := 4) (ret := none) (by decide) rfl ?_
  intro p e s m args below meth c s₁ B hml hv
  obtain ⟨rfl, hsz, hP, hK, hD0⟩ := hv
  have hx := B.exec
  have hb := B.bytes
  have hr := B.returns
  have hts := atoms_spec (ws := Cond.code yJ7_fill_53178 cJ7_fill_53178 4 none :: TBL) B.pre
  have ht : ∀ w ∈ TBL, w.before ([.ref r0, .int p1] : List Value).toArray s = true := fun w h => hts w (List.mem_cons_of_mem _ h)
  clear hts
  have hown : s.vm.findClass RJ7 = some m.cls := findClass_of_methodNamed B.named
  have hlocks := B.notSynchronized
  clear B
  subst hsz
  have hD := hD0.self (sz := s.heap.size)
  clear hD0
  generalize hAe : va_A [(r0, .inl (cI, n_r0, .inl s_r0))] s.heap.size = A at hD ⊢
  have hA : ∀ q : Nat, s.heap.size ≤ q → A q := fun q h => by rw [← hAe]; exact Or.inr h
  clear hAe
  have hS : va_S A s.heap s.heap [] := va_S.rf
  have hP : va_P (dC, dI) vwCl [(r0, .inl (cI, n_r0, .inl s_r0))] s.heap := hP
  have hl := lv_entry ([.ref r0, .int p1]) (n := 4) (Nat.le_of_ble_eq_true rfl)
  rw [lg_entry_eq]
  generalize (lg_sl ([.ref r0, .int p1]) ++ List.replicate (4 - (lg_sl ([.ref r0, .int p1])).length) Slot.unset).toArray = ls at hl ⊢
  have hl : lv_has ls 4 [(0, .ref r0), (1, .int p1)] := hl
  generalize hQQ : MQ below _ _ _ 0 0 A = QQ
  show W p l e rm_J7_fill_53178 s m ([.ref r0, .int p1] : List Value).toArray below meth c s.heap [] 0 0 QQ (F0 m 0 ls [])
  have L5 : ∀ (x1 : Int32) (x3 : Int32), ∀ (n : Nat) (x2 : Int32) (s_r0 : Nat → Int32), P_J7_fill_53178_L5 n_r0 x1 x3 Q n x2 s_r0 → ∀ (H : Heap) (locs : List Loc) (ls : Array Slot), va_P (dC, dI) vwCl [(r0, .inl (cI, n_r0, .inl s_r0))] H → va_D A [(r0, .inl (cI, n_r0, .inl s_r0))] → va_S A s.heap H locs → lv_has ls 4 [(0, .ref r0), (1, .int x1), (2, .int x2), (3, .int x3)] → W p l e rm_J7_fill_53178 s m ([.ref r0, .int p1] : List Value).toArray below meth c H locs 0 0 QQ (F0 m 5 ls []) := by
    intro x1 x3
    intro n
    induction n with
    | zero => intro x2 s_r0 hw; rw [P_J7_fill_53178_L5_z] at hw; exact hw.elim
    | succ n ih =>
      intro x2 s_r0 hw
      rw [P_J7_fill_53178_L5_s] at hw
      generalize hrec : P_J7_fill_53178_L5 n_r0 x1 x3 Q n = rec5 at ih hw
      intro H locs ls hP hD hS hl
      unfold B_J7_fill_53178_L5 at hw
      refine lv_iload_n hx hb dJ7_fill_53178_5 rfl (lv_at hl 2 rfl) ?_
      refine lv_iload_n hx hb dJ7_fill_53178_6 rfl (lv_at hl 3 rfl) ?_
      refine lv_icmp_ge (tgt := 20) hx hb dJ7_fill_53178_7 (by decide) (fun hc => ?_) (fun hc => ?_)
      · have hw := hw.1 hc
        rw [← hQQ]
        exact g_retv (u := s_r0) hx hb hr hlocks hw hP hK hD hS dJ7_fill_53178_20
      · have hw := hw.2 hc
        refine lv_aload_n hx hb dJ7_fill_53178_10 rfl (lv_at hl 0 rfl) ?_
        refine lv_iload_n hx hb dJ7_fill_53178_11 rfl (lv_at hl 2 rfl) ?_
        refine lv_iload_n hx hb dJ7_fill_53178_12 rfl (lv_at hl 1 rfl) ?_
        obtain ⟨hi_1, hw⟩ := hw
        refine gv_iast hx hb hK hP hD hS 0 0 rfl rfl rfl hi_1 dJ7_fill_53178_13 (fun H locs hP hD hS => ?_)
        have hP : va_P (dC, dI) vwCl [(r0, .inl (cI, n_r0, .inl (upd s_r0 x2.toNatClampNeg x1)))] H := hP
        have hD : va_D A [(r0, .inl (cI, n_r0, .inl (upd s_r0 x2.toNatClampNeg x1)))] := hD
        refine lv_iinc (v := (x2 + 1)) (lv' := [(2, .int (x2 + 1)), (0, .ref r0), (1, .int x1), (3, .int x3)]) hx hb dJ7_fill_53178_14 hl (k := 2) rfl rfl (by decide) rfl (fun ls hl => ?_)
        refine lv_goto (tgt := 5) hx hb dJ7_fill_53178_17 (by decide) ?_
        exact ih (x2 + 1) (upd s_r0 x2.toNatClampNeg x1) hw H locs ls hP hD hS (lv_sub (l' := [(0, .ref r0), (1, .int x1), (2, .int (x2 + 1)), (3, .int x3)]) hl [1, 2, 0, 3] rfl)
  obtain ⟨H, hHH⟩ : ∃ H, H = s.heap := ⟨_, rfl⟩
  rw [← hHH] at hP ⊢
  have hS : va_S A s.heap H [] := by rw [hHH]; exact hS
  clear hHH
  generalize ([] : List Loc) = locs at hS ⊢
  unfold P_J7_fill_53178 at hw
  refine lv_iconst (v := 0) hx hb dJ7_fill_53178_0 (by decide) ?_
  refine lv_istore_n (lv' := [(2, .int 0), (0, .ref r0), (1, .int p1)]) hx hb dJ7_fill_53178_1 rfl hl (by decide) rfl (fun ls hl => ?_)
  refine lv_aload_n hx hb dJ7_fill_53178_2 rfl (lv_at hl 1 rfl) ?_
  refine va_alen (v := (nI n_r0)) hx hb hK hP 0 0 rfl rfl rfl dJ7_fill_53178_3 ?_
  refine lv_istore_n (lv' := [(3, .int (nI n_r0)), (2, .int 0), (0, .ref r0), (1, .int p1)]) hx hb dJ7_fill_53178_4 rfl hl (by decide) rfl (fun ls hl => ?_)
  obtain ⟨n, hw⟩ := hw
  exact L5 p1 (nI n_r0) n 0 s_r0 hw H locs ls hP hD hS (lv_sub (l' := [(0, .ref r0), (1, .int p1), (2, .int 0), (3, .int (nI n_r0))]) hl [2, 3, 1, 0] rfl)
abbrev rm_X0_copyTo : Room := { frames := 1, cells := 0, slots := 0, locals := 26 }
set_option maxHeartbeats 4000000 in
set_option maxRecDepth 100000 in
theorem c_X0_copyTo (l : Launch) (dC : Nat → ClassId) (dI : Nat → Nat → Nat) (cI cJ : ClassId) (o o_cells r0 : Nat) (sz : Nat) (s_cells : Nat → Int32) (s_r0 : Nat → Int32) (p1 : Int32) (Q : (Nat → Int32) → Prop) (hw : P_X0_copyTo p1 s_cells s_r0 Q) : Met l yX0_copyTo (Cond.code yX0_copyTo cX0_copyTo 3 none :: TBL) rm_X0_copyTo (gPc (dC, dI) vwCl (gTy cI cJ) [.ref o, .ref r0, .int p1] [(o, .inr (0, [.ref o_cells])), (o_cells, .inl (cI, 82, .inl s_cells)), (r0, .inl (cI, 492, .inl s_r0))] sz) (va_Qv (fun (u : (Nat → Int32)) => Q u) (gB (dC, dI) vwCl (gTy cI cJ) (va_A [(o, .inr (0, [.ref o_cells])), (o_cells, .inl (cI, 82, .inl s_cells)), (r0, .inl (cI, 492, .inl s_r0))] sz) (fun (u : (Nat → Int32)) => [(o, .inr (0, [.ref o_cells])), (o_cells, .inl (cI, 82, .inl s_cells)), (r0, .inl (cI, 492, .inl u))])) (va_A [(o, .inr (0, [.ref o_cells])), (o_cells, .inl (cI, 82, .inl s_cells)), (r0, .inl (cI, 492, .inl s_r0))] sz)) 0 0 (va_A [(o, .inr (0, [.ref o_cells])), (o_cells, .inl (cI, 82, .inl s_cells)), (r0, .inl (cI, 492, .inl s_r0))] sz) := by
  refine Met.ofW (cc := cX0_copyTo) (maxL := 3) (ret := none) (by decide) rfl ?_
  intro p e s m args below meth c s₁ B hml hv
  obtain ⟨rfl, hsz, hP, hK, hD0⟩ := hv
  have hx := B.exec
  have hb := B.bytes
  have hr := B.returns
  have hts := atoms_spec (ws := Cond.code yX0_copyTo cX0_copyTo 3 none :: TBL) B.pre
  have ht : ∀ w ∈ TBL, w.before ([.ref o, .ref r0, .int p1] : List Value).toArray s = true := fun w h => hts w (List.mem_cons_of_mem _ h)
  clear hts
  have hown : s.vm.findClass RX0 = some m.cls := findClass_of_methodNamed B.named
  have hlocks := B.notSynchronized
  clear B
  subst hsz
  have hD := hD0.self (sz := s.heap.size)
  clear hD0
  generalize hAe : va_A [(o, .inr (0, [.ref o_cells])), (o_cells, .inl (cI, 82, .inl s_cells)), (r0, .inl (cI, 492, .inl s_r0))] s.heap.size = A at hD ⊢
  have hA : ∀ q : Nat, s.heap.size ≤ q → A q := fun q h => by rw [← hAe]; exact Or.inr h
  clear hAe
  have hS : va_S A s.heap s.heap [] := va_S.rf
  have hP : va_P (dC, dI) vwCl [(o, .inr (0, [.ref o_cells])), (o_cells, .inl (cI, 82, .inl s_cells)), (r0, .inl (cI, 492, .inl s_r0))] s.heap := hP
  have hl := lv_entry ([.ref o, .ref r0, .int p1]) (n := 3) (Nat.le_of_ble_eq_true rfl)
  rw [lg_entry_eq]
  generalize (lg_sl ([.ref o, .ref r0, .int p1]) ++ List.replicate (3 - (lg_sl ([.ref o, .ref r0, .int p1])).length) Slot.unset).toArray = ls at hl ⊢
  have hl : lv_has ls 3 [(0, .ref o), (1, .ref r0), (2, .int p1)] := hl
  generalize hQQ : MQ below _ _ _ 0 0 A = QQ
  show W p l e rm_X0_copyTo s m ([.ref o, .ref r0, .int p1] : List Value).toArray below meth c s.heap [] 0 0 QQ (F0 m 0 ls [])
  obtain ⟨H, hHH⟩ : ∃ H, H = s.heap := ⟨_, rfl⟩
  rw [← hHH] at hP ⊢
  have hS : va_S A s.heap H [] := by rw [hHH]; exact hS
  clear hHH
  generalize ([] : List Loc) = locs at hS ⊢
  unfold P_X0_copyTo at hw
  refine lv_iload_n hx hb dX0_copyTo_0 rfl (lv_at hl 2 rfl) ?_
  refine lv_if_lt (tgt := 25) hx hb dX0_copyTo_1 (by decide) (fun hc => ?_) (fun hc => ?_)
  · have hw := hw.1 hc
    rw [← hQQ]
    exact g_retv (u := s_r0) hx hb hr hlocks hw hP hK hD hS dX0_copyTo_25
  · have hw := hw.2 hc
    refine lv_iload_n hx hb dX0_copyTo_4 rfl (lv_at hl 2 rfl) ?_
    refine lv_bipush (v := 82) hx hb dX0_copyTo_5 (by decide) ?_
    refine lv_iadd hx hb dX0_copyTo_7 ?_
    refine lv_aload_n hx hb dX0_copyTo_8 rfl (lv_at hl 1 rfl) ?_
    refine va_alen (v := 492) hx hb hK hP 2 0 rfl rfl rfl dX0_copyTo_9 ?_
    refine lv_icmp_gt (tgt := 25) hx hb dX0_copyTo_10 (by decide) (fun hc => ?_) (fun hc => ?_)
    · have hw := hw.1 hc
      rw [← hQQ]
      exact g_retv (u := s_r0) hx hb hr hlocks hw hP hK hD hS dX0_copyTo_25
    · have hw := hw.2 hc
      refine lv_aload_n hx hb dX0_copyTo_13 rfl (lv_at hl 0 rfl) ?_
      refine va_get (D := (dC, dI)) (ci := 0) (v := .ref o_cells) (C := RX0) (T := TX0) (N := 1) hx hb ht i_X0 hown hK hP 0 rfl rfl 0 (by decide) (ht _ k_28) (fun _ h9 => h9) rfl dX0_copyTo_14 ?_
      refine lv_iconst (v := 0) hx hb dX0_copyTo_17 (by decide) ?_
      refine lv_aload_n hx hb dX0_copyTo_18 rfl (lv_at hl 1 rfl) ?_
      refine lv_iload_n hx hb dX0_copyTo_19 rfl (lv_at hl 2 rfl) ?_
      refine lv_bipush (v := 82) hx hb dX0_copyTo_20 (by decide) ?_
      obtain ⟨⟨hc_1, hc_2, hc_3, hc_4, hc_5⟩, hw⟩ := hw
      refine va_copyi hx hb (hml.trans hl.1.symm) hown (ht _ k_309) (ht _ k_304) (ht _ k_303) (ht _ k_11) hK hP hD hS 1 2 0 0 rfl rfl rfl rfl rfl hc_1 hc_2 hc_3 hc_4 hc_5 (fun _ _ => rfl) (Nat.le_of_ble_eq_true rfl) (Nat.le_of_ble_eq_true rfl) dX0_copyTo_22 (fun H locs hP hD hS => ?_)
      have hP : va_P (dC, dI) vwCl [(o, .inr (0, [.ref o_cells])), (o_cells, .inl (cI, 82, .inl s_cells)), (r0, .inl (cI, 492, .inl (va_cpy s_cells s_r0 0 p1.toNatClampNeg 82)))] H := hP
      have hD : va_D A [(o, .inr (0, [.ref o_cells])), (o_cells, .inl (cI, 82, .inl s_cells)), (r0, .inl (cI, 492, .inl (va_cpy s_cells s_r0 0 p1.toNatClampNeg 82)))] := hD
      rw [← hQQ]
      exact g_retv (u := (va_cpy s_cells s_r0 0 p1.toNatClampNeg 82)) hx hb hr hlocks hw hP hK hD hS dX0_copyTo_25
abbrev rm_X0_copyFrom : Room := { frames := 1, cells := 0, slots := 0, locals := 26 }
set_option maxHeartbeats 4000000 in
set_option maxRecDepth 100000 in
theorem c_X0_copyFrom (l : Launch) (dC : Nat → ClassId) (dI : Nat → Nat → Nat) (cI cJ : ClassId) (o o_cells r0 : Nat) (sz : Nat) (s_cells : Nat → Int32) (s_r0 : Nat → Int32) (p1 : Int32) (Q : (Nat → Int32) → Prop) (hw : P_X0_copyFrom p1 s_cells s_r0 Q) : Met l yX0_copyFrom (Cond.code yX0_copyFrom cX0_copyFrom 3 none :: TBL) rm_X0_copyFrom (gPc (dC, dI) vwCl (gTy cI cJ) [.ref o, .ref r0, .int p1] [(o, .inr (0, [.ref o_cells])), (o_cells, .inl (cI, 82, .inl s_cells)), (r0, .inl (cI, 492, .inl s_r0))] sz) (va_Qv (fun (u : (Nat → Int32)) => Q u) (gB (dC, dI) vwCl (gTy cI cJ) (va_A [(o, .inr (0, [.ref o_cells])), (o_cells, .inl (cI, 82, .inl s_cells)), (r0, .inl (cI, 492, .inl s_r0))] sz) (fun (u : (Nat → Int32)) => [(o, .inr (0, [.ref o_cells])), (o_cells, .inl (cI, 82, .inl u)), (r0, .inl (cI, 492, .inl s_r0))])) (va_A [(o, .inr (0, [.ref o_cells])), (o_cells, .inl (cI, 82, .inl s_cells)), (r0, .inl (cI, 492, .inl s_r0))] sz)) 0 0 (va_A [(o, .inr (0, [.ref o_cells])), (o_cells, .inl (cI, 82, .inl s_cells)), (r0, .inl (cI, 492, .inl s_r0))] sz) := by
  refine Met.ofW (cc := cX0_copyFrom) (maxL := 3) (ret := none) (by decide) rfl ?_
  intro p e s m args below meth c s₁ B hml hv
  obtain ⟨rfl, hsz, hP, hK, hD0⟩ := hv
  have hx := B.exec
  have hb := B.bytes
  have hr := B.returns
  have hts := atoms_spec (ws := Cond.code yX0_copyFrom cX0_copyFrom 3 none :: TBL) B.pre
  have ht : ∀ w ∈ TBL, w.before ([.ref o, .ref r0, .int p1] : List Value).toArray s = true := fun w h => hts w (List.mem_cons_of_mem _ h)
  clear hts
  have hown : s.vm.findClass RX0 = some m.cls := findClass_of_methodNamed B.named
  have hlocks := B.notSynchronized
  clear B
  subst hsz
  have hD := hD0.self (sz := s.heap.size)
  clear hD0
  generalize hAe : va_A [(o, .inr (0, [.ref o_cells])), (o_cells, .inl (cI, 82, .inl s_cells)), (r0, .inl (cI, 492, .inl s_r0))] s.heap.size = A at hD ⊢
  have hA : ∀ q : Nat, s.heap.size ≤ q → A q := fun q h => by rw [← hAe]; exact Or.inr h
  clear hAe
  have hS : va_S A s.heap s.heap [] := va_S.rf
  have hP : va_P (dC, dI) vwCl [(o, .inr (0, [.ref o_cells])), (o_cells, .inl (cI, 82, .inl s_cells)), (r0, .inl (cI, 492, .inl s_r0))] s.heap := hP
  have hl := lv_entry ([.ref o, .ref r0, .int p1]) (n := 3) (Nat.le_of_ble_eq_true rfl)
  rw [lg_entry_eq]
  generalize (lg_sl ([.ref o, .ref r0, .int p1]) ++ List.replicate (3 - (lg_sl ([.ref o, .ref r0, .int p1])).length) Slot.unset).toArray = ls at hl ⊢
  have hl : lv_has ls 3 [(0, .ref o), (1, .ref r0), (2, .int p1)] := hl
  generalize hQQ : MQ below _ _ _ 0 0 A = QQ
  show W p l e rm_X0_copyFrom s m ([.ref o, .ref r0, .int p1] : List Value).toArray below meth c s.heap [] 0 0 QQ (F0 m 0 ls [])
  obtain ⟨H, hHH⟩ : ∃ H, H = s.heap := ⟨_, rfl⟩
  rw [← hHH] at hP ⊢
  have hS : va_S A s.heap H [] := by rw [hHH]; exact hS
  clear hHH
  generalize ([] : List Loc) = locs at hS ⊢
  unfold P_X0_copyFrom at hw
  refine lv_iload_n hx hb dX0_copyFrom_0 rfl (lv_at hl 2 rfl) ?_
  refine lv_if_lt (tgt := 25) hx hb dX0_copyFrom_1 (by decide) (fun hc => ?_) (fun hc => ?_)
  · have hw := hw.1 hc
    rw [← hQQ]
    exact g_retv (u := s_cells) hx hb hr hlocks hw hP hK hD hS dX0_copyFrom_25
  · have hw := hw.2 hc
    refine lv_iload_n hx hb dX0_copyFrom_4 rfl (lv_at hl 2 rfl) ?_
    refine lv_bipush (v := 82) hx hb dX0_copyFrom_5 (by decide) ?_
    refine lv_iadd hx hb dX0_copyFrom_7 ?_
    refine lv_aload_n hx hb dX0_copyFrom_8 rfl (lv_at hl 1 rfl) ?_
    refine va_alen (v := 492) hx hb hK hP 2 0 rfl rfl rfl dX0_copyFrom_9 ?_
    refine lv_icmp_gt (tgt := 25) hx hb dX0_copyFrom_10 (by decide) (fun hc => ?_) (fun hc => ?_)
    · have hw := hw.1 hc
      rw [← hQQ]
      exact g_retv (u := s_cells) hx hb hr hlocks hw hP hK hD hS dX0_copyFrom_25
    · have hw := hw.2 hc
      refine lv_aload_n hx hb dX0_copyFrom_13 rfl (lv_at hl 1 rfl) ?_
      refine lv_iload_n hx hb dX0_copyFrom_14 rfl (lv_at hl 2 rfl) ?_
      refine lv_aload_n hx hb dX0_copyFrom_15 rfl (lv_at hl 0 rfl) ?_
      refine va_get (D := (dC, dI)) (ci := 0) (v := .ref o_cells) (C := RX0) (T := TX0) (N := 1) hx hb ht i_X0 hown hK hP 0 rfl rfl 0 (by decide) (ht _ k_28) (fun _ h9 => h9) rfl dX0_copyFrom_16 ?_
      refine lv_iconst (v := 0) hx hb dX0_copyFrom_19 (by decide) ?_
      refine lv_bipush (v := 82) hx hb dX0_copyFrom_20 (by decide) ?_
      obtain ⟨⟨hc_1, hc_2, hc_3, hc_4, hc_5⟩, hw⟩ := hw
      refine va_copyi hx hb (hml.trans hl.1.symm) hown (ht _ k_309) (ht _ k_304) (ht _ k_303) (ht _ k_11) hK hP hD hS 2 1 0 0 rfl rfl rfl rfl rfl hc_1 hc_2 hc_3 hc_4 hc_5 (fun _ _ => rfl) (Nat.le_of_ble_eq_true rfl) (Nat.le_of_ble_eq_true rfl) dX0_copyFrom_22 (fun H locs hP hD hS => ?_)
      have hP : va_P (dC, dI) vwCl [(o, .inr (0, [.ref o_cells])), (o_cells, .inl (cI, 82, .inl (va_cpy s_r0 s_cells p1.toNatClampNeg 0 82))), (r0, .inl (cI, 492, .inl s_r0))] H := hP
      have hD : va_D A [(o, .inr (0, [.ref o_cells])), (o_cells, .inl (cI, 82, .inl (va_cpy s_r0 s_cells p1.toNatClampNeg 0 82))), (r0, .inl (cI, 492, .inl s_r0))] := hD
      rw [← hQQ]
      exact g_retv (u := (va_cpy s_r0 s_cells p1.toNatClampNeg 0 82)) hx hb hr hlocks hw hP hK hD hS dX0_copyFrom_25
abbrev rm_X0_putCell : Room := { frames := 0, cells := 0, slots := 0, locals := 0 }
set_option maxHeartbeats 4000000 in
set_option maxRecDepth 100000 in
theorem c_X0_putCell (l : Launch) (dC : Nat → ClassId) (dI : Nat → Nat → Nat) (cI cJ : ClassId) (o o_cells : Nat) (sz : Nat) (s_cells : Nat → Int32) (p0 : Int32) (p1 : Int32) (Q : (Nat → Int32) → Prop) (hw : P_X0_putCell p0 p1 s_cells Q) : Met l yX0_putCell (Cond.code yX0_putCell cX0_putCell 3 none :: TBL) rm_X0_putCell (gPc (dC, dI) vwCl (gTy cI cJ) [.ref o, .int p0, .int p1] [(o, .inr (0, [.ref o_cells])), (o_cells, .inl (cI, 82, .inl s_cells))] sz) (va_Qv (fun (u : (Nat → Int32)) => Q u) (gB (dC, dI) vwCl (gTy cI cJ) (va_A [(o, .inr (0, [.ref o_cells])), (o_cells, .inl (cI, 82, .inl s_cells))] sz) (fun (u : (Nat → Int32)) => [(o, .inr (0, [.ref o_cells])), (o_cells, .inl (cI, 82, .inl u))])) (va_A [(o, .inr (0, [.ref o_cells])), (o_cells, .inl (cI, 82, .inl s_cells))] sz)) 0 0 (va_A [(o, .inr (0, [.ref o_cells])), (o_cells, .inl (cI, 82, .inl s_cells))] sz) := by
  refine Met.ofW (cc := cX0_putCell) (maxL := 3) (ret := none) (by decide) rfl ?_
  intro p e s m args below meth c s₁ B hml hv
  obtain ⟨rfl, hsz, hP, hK, hD0⟩ := hv
  have hx := B.exec
  have hb := B.bytes
  have hr := B.returns
  have hts := atoms_spec (ws := Cond.code yX0_putCell cX0_putCell 3 none :: TBL) B.pre
  have ht : ∀ w ∈ TBL, w.before ([.ref o, .int p0, .int p1] : List Value).toArray s = true := fun w h => hts w (List.mem_cons_of_mem _ h)
  clear hts
  have hown : s.vm.findClass RX0 = some m.cls := findClass_of_methodNamed B.named
  have hlocks := B.notSynchronized
  clear B
  subst hsz
  have hD := hD0.self (sz := s.heap.size)
  clear hD0
  generalize hAe : va_A [(o, .inr (0, [.ref o_cells])), (o_cells, .inl (cI, 82, .inl s_cells))] s.heap.size = A at hD ⊢
  have hA : ∀ q : Nat, s.heap.size ≤ q → A q := fun q h => by rw [← hAe]; exact Or.inr h
  clear hAe
  have hS : va_S A s.heap s.heap [] := va_S.rf
  have hP : va_P (dC, dI) vwCl [(o, .inr (0, [.ref o_cells])), (o_cells, .inl (cI, 82, .inl s_cells))] s.heap := hP
  have hl := lv_entry ([.ref o, .int p0, .int p1]) (n := 3) (Nat.le_of_ble_eq_true rfl)
  rw [lg_entry_eq]
  generalize (lg_sl ([.ref o, .int p0, .int p1]) ++ List.replicate (3 - (lg_sl ([.ref o, .int p0, .int p1])).length) Slot.unset).toArray = ls at hl ⊢
  have hl : lv_has ls 3 [(0, .ref o), (1, .int p0), (2, .int p1)] := hl
  generalize hQQ : MQ below _ _ _ 0 0 A = QQ
  show W p l e rm_X0_putCell s m ([.ref o, .int p0, .int p1] : List Value).toArray below meth c s.heap [] 0 0 QQ (F0 m 0 ls [])
  obtain ⟨H, hHH⟩ : ∃ H, H = s.heap := ⟨_, rfl⟩
  rw [← hHH] at hP ⊢
  have hS : va_S A s.heap H [] := by rw [hHH]; exact hS
  clear hHH
  generalize ([] : List Loc) = locs at hS ⊢
  unfold P_X0_putCell at hw
  refine lv_iload_n hx hb dX0_putCell_0 rfl (lv_at hl 1 rfl) ?_
  refine lv_if_lt (tgt := 20) hx hb dX0_putCell_1 (by decide) (fun hc => ?_) (fun hc => ?_)
  · have hw := hw.1 hc
    rw [← hQQ]
    exact g_retv (u := s_cells) hx hb hr hlocks hw hP hK hD hS dX0_putCell_20
  · have hw := hw.2 hc
    refine lv_iload_n hx hb dX0_putCell_4 rfl (lv_at hl 1 rfl) ?_
    refine lv_aload_n hx hb dX0_putCell_5 rfl (lv_at hl 0 rfl) ?_
    refine va_get (D := (dC, dI)) (ci := 0) (v := .ref o_cells) (C := RX0) (T := TX0) (N := 1) hx hb ht i_X0 hown hK hP 0 rfl rfl 0 (by decide) (ht _ k_28) (fun _ h9 => h9) rfl dX0_putCell_6 ?_
    refine va_alen (v := 82) hx hb hK hP 1 0 rfl rfl rfl dX0_putCell_9 ?_
    refine lv_icmp_ge (tgt := 20) hx hb dX0_putCell_10 (by decide) (fun hc => ?_) (fun hc => ?_)
    · have hw := hw.1 hc
      rw [← hQQ]
      exact g_retv (u := s_cells) hx hb hr hlocks hw hP hK hD hS dX0_putCell_20
    · have hw := hw.2 hc
      refine lv_aload_n hx hb dX0_putCell_13 rfl (lv_at hl 0 rfl) ?_
      refine va_get (D := (dC, dI)) (ci := 0) (v := .ref o_cells) (C := RX0) (T := TX0) (N := 1) hx hb ht i_X0 hown hK hP 0 rfl rfl 0 (by decide) (ht _ k_28) (fun _ h9 => h9) rfl dX0_putCell_14 ?_
      refine lv_iload_n hx hb dX0_putCell_17 rfl (lv_at hl 1 rfl) ?_
      refine lv_iload_n hx hb dX0_putCell_18 rfl (lv_at hl 2 rfl) ?_
      obtain ⟨hi_1, hw⟩ := hw
      refine gv_iast hx hb hK hP hD hS 1 0 rfl rfl rfl hi_1 dX0_putCell_19 (fun H locs hP hD hS => ?_)
      have hP : va_P (dC, dI) vwCl [(o, .inr (0, [.ref o_cells])), (o_cells, .inl (cI, 82, .inl (upd s_cells p0.toNatClampNeg p1)))] H := hP
      have hD : va_D A [(o, .inr (0, [.ref o_cells])), (o_cells, .inl (cI, 82, .inl (upd s_cells p0.toNatClampNeg p1)))] := hD
      rw [← hQQ]
      exact g_retv (u := (upd s_cells p0.toNatClampNeg p1)) hx hb hr hlocks hw hP hK hD hS dX0_putCell_20
abbrev rm_X0_closeGap : Room := { frames := 1, cells := 0, slots := 0, locals := 26 }
set_option maxHeartbeats 4000000 in
set_option maxRecDepth 100000 in
theorem c_X0_closeGap (l : Launch) (dC : Nat → ClassId) (dI : Nat → Nat → Nat) (cI cJ : ClassId) (o o_cells : Nat) (sz : Nat) (s_cells : Nat → Int32) (p0 : Int32) (p1 : Int32) (p2 : Int32) (Q : (Nat → Int32) → Prop) (hw : P_X0_closeGap p0 p1 p2 s_cells Q) : Met l yX0_closeGap (Cond.code yX0_closeGap cX0_closeGap 4 none :: TBL) rm_X0_closeGap (gPc (dC, dI) vwCl (gTy cI cJ) [.ref o, .int p0, .int p1, .int p2] [(o, .inr (0, [.ref o_cells])), (o_cells, .inl (cI, 82, .inl s_cells))] sz) (va_Qv (fun (u : (Nat → Int32)) => Q u) (gB (dC, dI) vwCl (gTy cI cJ) (va_A [(o, .inr (0, [.ref o_cells])), (o_cells, .inl (cI, 82, .inl s_cells))] sz) (fun (u : (Nat → Int32)) => [(o, .inr (0, [.ref o_cells])), (o_cells, .inl (cI, 82, .inl u))])) (va_A [(o, .inr (0, [.ref o_cells])), (o_cells, .inl (cI, 82, .inl s_cells))] sz)) 0 0 (va_A [(o, .inr (0, [.ref o_cells])), (o_cells, .inl (cI, 82, .inl s_cells))] sz) := by
  refine Met.ofW (cc := cX0_closeGap) (maxL := 4) (ret := none) (by decide) rfl ?_
  intro p e s m args below meth c s₁ B hml hv
  obtain ⟨rfl, hsz, hP, hK, hD0⟩ := hv
  have hx := B.exec
  have hb := B.bytes
  have hr := B.returns
  have hts := atoms_spec (ws := Cond.code yX0_closeGap cX0_closeGap 4 none :: TBL) B.pre
  have ht : ∀ w ∈ TBL, w.before ([.ref o, .int p0, .int p1, .int p2] : List Value).toArray s = true := fun w h => hts w (List.mem_cons_of_mem _ h)
  clear hts
  have hown : s.vm.findClass RX0 = some m.cls := findClass_of_methodNamed B.named
  have hlocks := B.notSynchronized
  clear B
  subst hsz
  have hD := hD0.self (sz := s.heap.size)
  clear hD0
  generalize hAe : va_A [(o, .inr (0, [.ref o_cells])), (o_cells, .inl (cI, 82, .inl s_cells))] s.heap.size = A at hD ⊢
  have hA : ∀ q : Nat, s.heap.size ≤ q → A q := fun q h => by rw [← hAe]; exact Or.inr h
  clear hAe
  have hS : va_S A s.heap s.heap [] := va_S.rf
  have hP : va_P (dC, dI) vwCl [(o, .inr (0, [.ref o_cells])), (o_cells, .inl (cI, 82, .inl s_cells))] s.heap := hP
  have hl := lv_entry ([.ref o, .int p0, .int p1, .int p2]) (n := 4) (Nat.le_of_ble_eq_true rfl)
  rw [lg_entry_eq]
  generalize (lg_sl ([.ref o, .int p0, .int p1, .int p2]) ++ List.replicate (4 - (lg_sl ([.ref o, .int p0, .int p1, .int p2])).length) Slot.unset).toArray = ls at hl ⊢
  have hl : lv_has ls 4 [(0, .ref o), (1, .int p0), (2, .int p1), (3, .int p2)] := hl
  generalize hQQ : MQ below _ _ _ 0 0 A = QQ
  show W p l e rm_X0_closeGap s m ([.ref o, .int p0, .int p1, .int p2] : List Value).toArray below meth c s.heap [] 0 0 QQ (F0 m 0 ls [])
  obtain ⟨H, hHH⟩ : ∃ H, H = s.heap := ⟨_, rfl⟩
  rw [← hHH] at hP ⊢
  have hS : va_S A s.heap H [] := by rw [hHH]; exact hS
  clear hHH
  generalize ([] : List Loc) = locs at hS ⊢
  unfold P_X0_closeGap at hw
  refine lv_iload_n hx hb dX0_closeGap_0 rfl (lv_at hl 1 rfl) ?_
  refine lv_if_lt (tgt := 44) hx hb dX0_closeGap_1 (by decide) (fun hc => ?_) (fun hc => ?_)
  · have hw := hw.1 hc
    rw [← hQQ]
    exact g_retv (u := s_cells) hx hb hr hlocks hw hP hK hD hS dX0_closeGap_44
  · have hw := hw.2 hc
    refine lv_iload_n hx hb dX0_closeGap_4 rfl (lv_at hl 2 rfl) ?_
    refine lv_if_lt (tgt := 44) hx hb dX0_closeGap_5 (by decide) (fun hc => ?_) (fun hc => ?_)
    · have hw := hw.1 hc
      rw [← hQQ]
      exact g_retv (u := s_cells) hx hb hr hlocks hw hP hK hD hS dX0_closeGap_44
    · have hw := hw.2 hc
      refine lv_iload_n hx hb dX0_closeGap_8 rfl (lv_at hl 1 rfl) ?_
      refine lv_iload_n hx hb dX0_closeGap_9 rfl (lv_at hl 2 rfl) ?_
      refine lv_iadd hx hb dX0_closeGap_10 ?_
      refine lv_iload_n hx hb dX0_closeGap_11 rfl (lv_at hl 3 rfl) ?_
      refine lv_icmp_gt (tgt := 44) hx hb dX0_closeGap_12 (by decide) (fun hc => ?_) (fun hc => ?_)
      · have hw := hw.1 hc
        rw [← hQQ]
        exact g_retv (u := s_cells) hx hb hr hlocks hw hP hK hD hS dX0_closeGap_44
      · have hw := hw.2 hc
        refine lv_iload_n hx hb dX0_closeGap_15 rfl (lv_at hl 3 rfl) ?_
        refine lv_aload_n hx hb dX0_closeGap_16 rfl (lv_at hl 0 rfl) ?_
        refine va_get (D := (dC, dI)) (ci := 0) (v := .ref o_cells) (C := RX0) (T := TX0) (N := 1) hx hb ht i_X0 hown hK hP 0 rfl rfl 0 (by decide) (ht _ k_28) (fun _ h9 => h9) rfl dX0_closeGap_17 ?_
        refine va_alen (v := 82) hx hb hK hP 1 0 rfl rfl rfl dX0_closeGap_20 ?_
        refine lv_icmp_gt (tgt := 44) hx hb dX0_closeGap_21 (by decide) (fun hc => ?_) (fun hc => ?_)
        · have hw := hw.1 hc
          rw [← hQQ]
          exact g_retv (u := s_cells) hx hb hr hlocks hw hP hK hD hS dX0_closeGap_44
        · have hw := hw.2 hc
          refine lv_aload_n hx hb dX0_closeGap_24 rfl (lv_at hl 0 rfl) ?_
          refine va_get (D := (dC, dI)) (ci := 0) (v := .ref o_cells) (C := RX0) (T := TX0) (N := 1) hx hb ht i_X0 hown hK hP 0 rfl rfl 0 (by decide) (ht _ k_28) (fun _ h9 => h9) rfl dX0_closeGap_25 ?_
          refine lv_iload_n hx hb dX0_closeGap_28 rfl (lv_at hl 1 rfl) ?_
          refine lv_iload_n hx hb dX0_closeGap_29 rfl (lv_at hl 2 rfl) ?_
          refine lv_iadd hx hb dX0_closeGap_30 ?_
          refine lv_aload_n hx hb dX0_closeGap_31 rfl (lv_at hl 0 rfl) ?_
          refine va_get (D := (dC, dI)) (ci := 0) (v := .ref o_cells) (C := RX0) (T := TX0) (N := 1) hx hb ht i_X0 hown hK hP 0 rfl rfl 0 (by decide) (ht _ k_28) (fun _ h9 => h9) rfl dX0_closeGap_32 ?_
          refine lv_iload_n hx hb dX0_closeGap_35 rfl (lv_at hl 1 rfl) ?_
          refine lv_iload_n hx hb dX0_closeGap_36 rfl (lv_at hl 3 rfl) ?_
          refine lv_iload_n hx hb dX0_closeGap_37 rfl (lv_at hl 1 rfl) ?_
          refine lv_isub hx hb dX0_closeGap_38 ?_
          refine lv_iload_n hx hb dX0_closeGap_39 rfl (lv_at hl 2 rfl) ?_
          refine lv_isub hx hb dX0_closeGap_40 ?_
          obtain ⟨⟨hc_1, hc_2, hc_3, hc_4, hc_5⟩, hw⟩ := hw
          refine va_copyi hx hb (hml.trans hl.1.symm) hown (ht _ k_309) (ht _ k_304) (ht _ k_303) (ht _ k_11) hK hP hD hS 1 1 0 0 rfl rfl rfl rfl rfl hc_1 hc_2 hc_3 hc_4 hc_5 (fun _ _ => rfl) (Nat.le_of_ble_eq_true rfl) (Nat.le_of_ble_eq_true rfl) dX0_closeGap_41 (fun H locs hP hD hS => ?_)
          have hP : va_P (dC, dI) vwCl [(o, .inr (0, [.ref o_cells])), (o_cells, .inl (cI, 82, .inl (va_cpy s_cells s_cells ((p0 + p1).toNatClampNeg) p0.toNatClampNeg (((p2 - p0) - p1).toNatClampNeg))))] H := hP
          have hD : va_D A [(o, .inr (0, [.ref o_cells])), (o_cells, .inl (cI, 82, .inl (va_cpy s_cells s_cells ((p0 + p1).toNatClampNeg) p0.toNatClampNeg (((p2 - p0) - p1).toNatClampNeg))))] := hD
          rw [← hQQ]
          exact g_retv (u := (va_cpy s_cells s_cells ((p0 + p1).toNatClampNeg) p0.toNatClampNeg (((p2 - p0) - p1).toNatClampNeg))) hx hb hr hlocks hw hP hK hD hS dX0_closeGap_44
abbrev rm_X0_words : Room := { frames := 0, cells := 0, slots := 0, locals := 0 }
set_option maxHeartbeats 4000000 in
set_option maxRecDepth 100000 in
theorem c_X0_words (l : Launch) (dC : Nat → ClassId) (dI : Nat → Nat → Nat) (cI cJ : ClassId) (o o_cells : Nat) (sz : Nat) (s_cells : Nat → Int32)  (Q : Int32 → Prop) (hw : P_X0_words s_cells Q) : Met l yX0_words (Cond.code yX0_words cX0_words 1 (some .int) :: TBL) rm_X0_words (gPc (dC, dI) vwCl (gTy cI cJ) [.ref o] [(o, .inr (0, [.ref o_cells])), (o_cells, .inl (cI, 82, .inl s_cells))] sz) (va_Qi (fun (r : Int32) (u : Unit) => Q r ) (gB (dC, dI) vwCl (gTy cI cJ) (va_A [(o, .inr (0, [.ref o_cells])), (o_cells, .inl (cI, 82, .inl s_cells))] sz) (fun (u : Unit) => [(o, .inr (0, [.ref o_cells])), (o_cells, .inl (cI, 82, .inl s_cells))])) (va_A [(o, .inr (0, [.ref o_cells])), (o_cells, .inl (cI, 82, .inl s_cells))] sz)) 0 0 (va_A [(o, .inr (0, [.ref o_cells])), (o_cells, .inl (cI, 82, .inl s_cells))] sz) := by
  refine Met.ofW (cc := cX0_words) (maxL := 1) (ret := (some .int)) (by decide) rfl ?_
  intro p e s m args below meth c s₁ B hml hv
  obtain ⟨rfl, hsz, hP, hK, hD0⟩ := hv
  have hx := B.exec
  have hb := B.bytes
  have hr := B.returns
  have hts := atoms_spec (ws := Cond.code yX0_words cX0_words 1 (some .int) :: TBL) B.pre
  have ht : ∀ w ∈ TBL, w.before ([.ref o] : List Value).toArray s = true := fun w h => hts w (List.mem_cons_of_mem _ h)
  clear hts
  have hown : s.vm.findClass RX0 = some m.cls := findClass_of_methodNamed B.named
  have hlocks := B.notSynchronized
  clear B
  subst hsz
  have hD := hD0.self (sz := s.heap.size)
  clear hD0
  generalize hAe : va_A [(o, .inr (0, [.ref o_cells])), (o_cells, .inl (cI, 82, .inl s_cells))] s.heap.size = A at hD ⊢
  have hA : ∀ q : Nat, s.heap.size ≤ q → A q := fun q h => by rw [← hAe]; exact Or.inr h
  clear hAe
  have hS : va_S A s.heap s.heap [] := va_S.rf
  have hP : va_P (dC, dI) vwCl [(o, .inr (0, [.ref o_cells])), (o_cells, .inl (cI, 82, .inl s_cells))] s.heap := hP
  have hl := lv_entry ([.ref o]) (n := 1) (Nat.le_of_ble_eq_true rfl)
  rw [lg_entry_eq]
  generalize (lg_sl ([.ref o]) ++ List.replicate (1 - (lg_sl ([.ref o])).length) Slot.unset).toArray = ls at hl ⊢
  have hl : lv_has ls 1 [(0, .ref o)] := hl
  generalize hQQ : MQ below _ _ _ 0 0 A = QQ
  show W p l e rm_X0_words s m ([.ref o] : List Value).toArray below meth c s.heap [] 0 0 QQ (F0 m 0 ls [])
  obtain ⟨H, hHH⟩ : ∃ H, H = s.heap := ⟨_, rfl⟩
  rw [← hHH] at hP ⊢
  have hS : va_S A s.heap H [] := by rw [hHH]; exact hS
  clear hHH
  generalize ([] : List Loc) = locs at hS ⊢
  unfold P_X0_words at hw
  refine lv_aload_n hx hb dX0_words_0 rfl (lv_at hl 0 rfl) ?_
  refine va_get (D := (dC, dI)) (ci := 0) (v := .ref o_cells) (C := RX0) (T := TX0) (N := 1) hx hb ht i_X0 hown hK hP 0 rfl rfl 0 (by decide) (ht _ k_28) (fun _ h9 => h9) rfl dX0_words_1 ?_
  refine lv_bipush (v := 80) hx hb dX0_words_4 (by decide) ?_
  refine gv_iald hx hb hK hP 1 0 rfl rfl (k := 80) (by decide) (by unfold vp_in; decide) dX0_words_6 ?_
  rw [← hQQ]
  exact g_reti (v := (s_cells 80)) (u := ()) hx hb hr rfl hlocks hw hP hK hD hS dX0_words_7
abbrev rm_X0_hasWord : Room := { frames := 1, cells := 0, slots := 0, locals := 20 }
set_option maxHeartbeats 4000000 in
set_option maxRecDepth 100000 in
theorem c_X0_hasWord (l : Launch) (dC : Nat → ClassId) (dI : Nat → Nat → Nat) (cI cJ : ClassId) (o o_cells : Nat) (sz : Nat) (s_cells : Nat → Int32) (p0 : Int32) (Q : Int32 → Prop) (hw : P_X0_hasWord p0 s_cells Q) : Met l yX0_hasWord (Cond.code yX0_hasWord cX0_hasWord 2 (some .boolean) :: TBL) rm_X0_hasWord (gPc (dC, dI) vwCl (gTy cI cJ) [.ref o, .int p0] [(o, .inr (0, [.ref o_cells])), (o_cells, .inl (cI, 82, .inl s_cells))] sz) (va_Qi (fun (r : Int32) (u : Unit) => Q r ) (gB (dC, dI) vwCl (gTy cI cJ) (va_A [(o, .inr (0, [.ref o_cells])), (o_cells, .inl (cI, 82, .inl s_cells))] sz) (fun (u : Unit) => [(o, .inr (0, [.ref o_cells])), (o_cells, .inl (cI, 82, .inl s_cells))])) (va_A [(o, .inr (0, [.ref o_cells])), (o_cells, .inl (cI, 82, .inl s_cells))] sz)) 0 0 (va_A [(o, .inr (0, [.ref o_cells])), (o_cells, .inl (cI, 82, .inl s_cells))] sz) := by
  refine Met.ofW (cc := cX0_hasWord) (maxL := 2) (ret := (some .boolean)) (by decide) rfl ?_
  intro p e s m args below meth c s₁ B hml hv
  obtain ⟨rfl, hsz, hP, hK, hD0⟩ := hv
  have hx := B.exec
  have hb := B.bytes
  have hr := B.returns
  have hts := atoms_spec (ws := Cond.code yX0_hasWord cX0_hasWord 2 (some .boolean) :: TBL) B.pre
  have ht : ∀ w ∈ TBL, w.before ([.ref o, .int p0] : List Value).toArray s = true := fun w h => hts w (List.mem_cons_of_mem _ h)
  clear hts
  have hown : s.vm.findClass RX0 = some m.cls := findClass_of_methodNamed B.named
  have hlocks := B.notSynchronized
  clear B
  subst hsz
  have hD := hD0.self (sz := s.heap.size)
  clear hD0
  generalize hAe : va_A [(o, .inr (0, [.ref o_cells])), (o_cells, .inl (cI, 82, .inl s_cells))] s.heap.size = A at hD ⊢
  have hA : ∀ q : Nat, s.heap.size ≤ q → A q := fun q h => by rw [← hAe]; exact Or.inr h
  clear hAe
  have hS : va_S A s.heap s.heap [] := va_S.rf
  have hP : va_P (dC, dI) vwCl [(o, .inr (0, [.ref o_cells])), (o_cells, .inl (cI, 82, .inl s_cells))] s.heap := hP
  have hl := lv_entry ([.ref o, .int p0]) (n := 2) (Nat.le_of_ble_eq_true rfl)
  rw [lg_entry_eq]
  generalize (lg_sl ([.ref o, .int p0]) ++ List.replicate (2 - (lg_sl ([.ref o, .int p0])).length) Slot.unset).toArray = ls at hl ⊢
  have hl : lv_has ls 2 [(0, .ref o), (1, .int p0)] := hl
  generalize hQQ : MQ below _ _ _ 0 0 A = QQ
  show W p l e rm_X0_hasWord s m ([.ref o, .int p0] : List Value).toArray below meth c s.heap [] 0 0 QQ (F0 m 0 ls [])
  obtain ⟨H, hHH⟩ : ∃ H, H = s.heap := ⟨_, rfl⟩
  rw [← hHH] at hP ⊢
  have hS : va_S A s.heap H [] := by rw [hHH]; exact hS
  clear hHH
  generalize ([] : List Loc) = locs at hS ⊢
  unfold P_X0_hasWord at hw
  refine lv_iload_n hx hb dX0_hasWord_0 rfl (lv_at hl 1 rfl) ?_
  refine lv_if_lt (tgt := 16) hx hb dX0_hasWord_1 (by decide) (fun hc => ?_) (fun hc => ?_)
  · have hw := hw.1 hc
    refine lv_iconst (v := 0) hx hb dX0_hasWord_16 (by decide) ?_
    rw [← hQQ]
    exact g_reti (v := 0) (u := ()) hx hb hr rfl hlocks hw hP hK hD hS dX0_hasWord_17
  · have hw := hw.2 hc
    refine lv_iload_n hx hb dX0_hasWord_4 rfl (lv_at hl 1 rfl) ?_
    refine lv_aload_n hx hb dX0_hasWord_5 rfl (lv_at hl 0 rfl) ?_
    refine gc_Vi (As := []) (rest := [.int p0]) (wr := []) ⟨hx, hb, hml, hown, ht⟩ (c_X0_words l dC dI cI cJ o o_cells H.size s_cells _ hw) (cwV 0 ht (g_V k_200 k_189 k_190 k_2 k_191) rfl rfl rfl (by decide +kernel) ⟨(Nat.le_of_ble_eq_true rfl), (Nat.le_of_ble_eq_true rfl)⟩) hK hP hD hS hA [0, 1] [] rfl rfl (by decide) 0 rfl rfl rfl rfl hl.1 rfl (Nat.le_of_ble_eq_true rfl) ⟨(Nat.le_of_ble_eq_true rfl), (Nat.le_of_ble_eq_true rfl)⟩ dX0_hasWord_6 (fun r_1 u H locs hw hP hD hS => ?_)
    try dsimp only at hw
    have hP : va_P (dC, dI) vwCl [(o, .inr (0, [.ref o_cells])), (o_cells, .inl (cI, 82, .inl s_cells))] H := hP
    have hD : va_D A [(o, .inr (0, [.ref o_cells])), (o_cells, .inl (cI, 82, .inl s_cells))] := hD
    refine lv_icmp_ge (tgt := 16) hx hb dX0_hasWord_9 (by decide) (fun hc => ?_) (fun hc => ?_)
    · have hw := hw.1 hc
      refine lv_iconst (v := 0) hx hb dX0_hasWord_16 (by decide) ?_
      rw [← hQQ]
      exact g_reti (v := 0) (u := ()) hx hb hr rfl hlocks hw hP hK hD hS dX0_hasWord_17
    · have hw := hw.2 hc
      refine lv_iconst (v := 1) hx hb dX0_hasWord_12 (by decide) ?_
      refine lv_goto (tgt := 17) hx hb dX0_hasWord_13 (by decide) ?_
      rw [← hQQ]
      exact g_reti (v := 1) (u := ()) hx hb hr rfl hlocks hw hP hK hD hS dX0_hasWord_17
abbrev rm_X0_ofWord : Room := { frames := 0, cells := 0, slots := 0, locals := 0 }
set_option maxHeartbeats 4000000 in
set_option maxRecDepth 100000 in
theorem c_X0_ofWord (l : Launch) (dC : Nat → ClassId) (dI : Nat → Nat → Nat) (cI cJ : ClassId) (o o_cells : Nat) (sz : Nat) (s_cells : Nat → Int32) (p0 : Int32) (p1 : Int32) (Q : Int32 → Prop) (hw : P_X0_ofWord p0 p1 s_cells Q) : Met l yX0_ofWord (Cond.code yX0_ofWord cX0_ofWord 4 (some .int) :: TBL) rm_X0_ofWord (gPc (dC, dI) vwCl (gTy cI cJ) [.ref o, .int p0, .int p1] [(o, .inr (0, [.ref o_cells])), (o_cells, .inl (cI, 82, .inl s_cells))] sz) (va_Qi (fun (r : Int32) (u : Unit) => Q r ) (gB (dC, dI) vwCl (gTy cI cJ) (va_A [(o, .inr (0, [.ref o_cells])), (o_cells, .inl (cI, 82, .inl s_cells))] sz) (fun (u : Unit) => [(o, .inr (0, [.ref o_cells])), (o_cells, .inl (cI, 82, .inl s_cells))])) (va_A [(o, .inr (0, [.ref o_cells])), (o_cells, .inl (cI, 82, .inl s_cells))] sz)) 0 0 (va_A [(o, .inr (0, [.ref o_cells])), (o_cells, .inl (cI, 82, .inl s_cells))] sz) := by
  refine Met.ofW (cc := cX0_ofWord) (maxL := 4) (ret := (some .int)) (by decide) rfl ?_
  intro p e s m args below meth c s₁ B hml hv
  obtain ⟨rfl, hsz, hP, hK, hD0⟩ := hv
  have hx := B.exec
  have hb := B.bytes
  have hr := B.returns
  have hts := atoms_spec (ws := Cond.code yX0_ofWord cX0_ofWord 4 (some .int) :: TBL) B.pre
  have ht : ∀ w ∈ TBL, w.before ([.ref o, .int p0, .int p1] : List Value).toArray s = true := fun w h => hts w (List.mem_cons_of_mem _ h)
  clear hts
  have hown : s.vm.findClass RX0 = some m.cls := findClass_of_methodNamed B.named
  have hlocks := B.notSynchronized
  clear B
  subst hsz
  have hD := hD0.self (sz := s.heap.size)
  clear hD0
  generalize hAe : va_A [(o, .inr (0, [.ref o_cells])), (o_cells, .inl (cI, 82, .inl s_cells))] s.heap.size = A at hD ⊢
  have hA : ∀ q : Nat, s.heap.size ≤ q → A q := fun q h => by rw [← hAe]; exact Or.inr h
  clear hAe
  have hS : va_S A s.heap s.heap [] := va_S.rf
  have hP : va_P (dC, dI) vwCl [(o, .inr (0, [.ref o_cells])), (o_cells, .inl (cI, 82, .inl s_cells))] s.heap := hP
  have hl := lv_entry ([.ref o, .int p0, .int p1]) (n := 4) (Nat.le_of_ble_eq_true rfl)
  rw [lg_entry_eq]
  generalize (lg_sl ([.ref o, .int p0, .int p1]) ++ List.replicate (4 - (lg_sl ([.ref o, .int p0, .int p1])).length) Slot.unset).toArray = ls at hl ⊢
  have hl : lv_has ls 4 [(0, .ref o), (1, .int p0), (2, .int p1)] := hl
  generalize hQQ : MQ below _ _ _ 0 0 A = QQ
  show W p l e rm_X0_ofWord s m ([.ref o, .int p0, .int p1] : List Value).toArray below meth c s.heap [] 0 0 QQ (F0 m 0 ls [])
  obtain ⟨H, hHH⟩ : ∃ H, H = s.heap := ⟨_, rfl⟩
  rw [← hHH] at hP ⊢
  have hS : va_S A s.heap H [] := by rw [hHH]; exact hS
  clear hHH
  generalize ([] : List Loc) = locs at hS ⊢
  unfold P_X0_ofWord at hw
  refine lv_iload_n hx hb dX0_ofWord_0 rfl (lv_at hl 1 rfl) ?_
  refine lv_bipush (v := 6) hx hb dX0_ofWord_1 (by decide) ?_
  refine lv_imul hx hb dX0_ofWord_3 ?_
  refine lv_iload_n hx hb dX0_ofWord_4 rfl (lv_at hl 2 rfl) ?_
  refine lv_iadd hx hb dX0_ofWord_5 ?_
  refine lv_istore_n (lv' := [(3, .int ((p0 * 6) + p1)), (0, .ref o), (1, .int p0), (2, .int p1)]) hx hb dX0_ofWord_6 rfl hl (by decide) rfl (fun ls hl => ?_)
  refine lv_iload_n hx hb dX0_ofWord_7 rfl (lv_at hl 0 rfl) ?_
  refine lv_if_lt (tgt := 29) hx hb dX0_ofWord_8 (by decide) (fun hc => ?_) (fun hc => ?_)
  · have hw := hw.1 hc
    refine lv_iconst (v := (-1)) hx hb dX0_ofWord_29 (by decide) ?_
    rw [← hQQ]
    exact g_reti (v := (-1)) (u := ()) hx hb hr rfl hlocks hw hP hK hD hS dX0_ofWord_30
  · have hw := hw.2 hc
    refine lv_iload_n hx hb dX0_ofWord_11 rfl (lv_at hl 0 rfl) ?_
    refine lv_aload_n hx hb dX0_ofWord_12 rfl (lv_at hl 1 rfl) ?_
    refine va_get (D := (dC, dI)) (ci := 0) (v := .ref o_cells) (C := RX0) (T := TX0) (N := 1) hx hb ht i_X0 hown hK hP 0 rfl rfl 0 (by decide) (ht _ k_28) (fun _ h9 => h9) rfl dX0_ofWord_13 ?_
    refine va_alen (v := 82) hx hb hK hP 1 0 rfl rfl rfl dX0_ofWord_16 ?_
    refine lv_icmp_ge (tgt := 29) hx hb dX0_ofWord_17 (by decide) (fun hc => ?_) (fun hc => ?_)
    · have hw := hw.1 hc
      refine lv_iconst (v := (-1)) hx hb dX0_ofWord_29 (by decide) ?_
      rw [← hQQ]
      exact g_reti (v := (-1)) (u := ()) hx hb hr rfl hlocks hw hP hK hD hS dX0_ofWord_30
    · have hw := hw.2 hc
      refine lv_aload_n hx hb dX0_ofWord_20 rfl (lv_at hl 1 rfl) ?_
      refine va_get (D := (dC, dI)) (ci := 0) (v := .ref o_cells) (C := RX0) (T := TX0) (N := 1) hx hb ht i_X0 hown hK hP 0 rfl rfl 0 (by decide) (ht _ k_28) (fun _ h9 => h9) rfl dX0_ofWord_21 ?_
      refine lv_iload_n hx hb dX0_ofWord_24 rfl (lv_at hl 0 rfl) ?_
      obtain ⟨hi_1, hw⟩ := hw
      refine gv_iald hx hb hK hP 1 0 rfl rfl rfl hi_1 dX0_ofWord_25 ?_
      refine lv_goto (tgt := 30) hx hb dX0_ofWord_26 (by decide) ?_
      rw [← hQQ]
      exact g_reti (v := (s_cells (((p0 * 6) + p1).toNatClampNeg))) (u := ()) hx hb hr rfl hlocks hw hP hK hD hS dX0_ofWord_30
abbrev rm_X0_putWord : Room := { frames := 1, cells := 0, slots := 0, locals := 22 }
set_option maxHeartbeats 4000000 in
set_option maxRecDepth 100000 in
theorem c_X0_putWord (l : Launch) (dC : Nat → ClassId) (dI : Nat → Nat → Nat) (cI cJ : ClassId) (o o_cells : Nat) (sz : Nat) (s_cells : Nat → Int32) (p0 : Int32) (p1 : Int32) (p2 : Int32) (Q : (Nat → Int32) → Prop) (hw : P_X0_putWord p0 p1 p2 s_cells Q) : Met l yX0_putWord (Cond.code yX0_putWord cX0_putWord 4 none :: TBL) rm_X0_putWord (gPc (dC, dI) vwCl (gTy cI cJ) [.ref o, .int p0, .int p1, .int p2] [(o, .inr (0, [.ref o_cells])), (o_cells, .inl (cI, 82, .inl s_cells))] sz) (va_Qv (fun (u : (Nat → Int32)) => Q u) (gB (dC, dI) vwCl (gTy cI cJ) (va_A [(o, .inr (0, [.ref o_cells])), (o_cells, .inl (cI, 82, .inl s_cells))] sz) (fun (u : (Nat → Int32)) => [(o, .inr (0, [.ref o_cells])), (o_cells, .inl (cI, 82, .inl u))])) (va_A [(o, .inr (0, [.ref o_cells])), (o_cells, .inl (cI, 82, .inl s_cells))] sz)) 0 0 (va_A [(o, .inr (0, [.ref o_cells])), (o_cells, .inl (cI, 82, .inl s_cells))] sz) := by
  refine Met.ofW (cc := cX0_putWord) (maxL := 4) (ret := none) (by decide) rfl ?_
  intro p e s m args below meth c s₁ B hml hv
  obtain ⟨rfl, hsz, hP, hK, hD0⟩ := hv
  have hx := B.exec
  have hb := B.bytes
  have hr := B.returns
  have hts := atoms_spec (ws := Cond.code yX0_putWord cX0_putWord 4 none :: TBL) B.pre
  have ht : ∀ w ∈ TBL, w.before ([.ref o, .int p0, .int p1, .int p2] : List Value).toArray s = true := fun w h => hts w (List.mem_cons_of_mem _ h)
  clear hts
  have hown : s.vm.findClass RX0 = some m.cls := findClass_of_methodNamed B.named
  have hlocks := B.notSynchronized
  clear B
  subst hsz
  have hD := hD0.self (sz := s.heap.size)
  clear hD0
  generalize hAe : va_A [(o, .inr (0, [.ref o_cells])), (o_cells, .inl (cI, 82, .inl s_cells))] s.heap.size = A at hD ⊢
  have hA : ∀ q : Nat, s.heap.size ≤ q → A q := fun q h => by rw [← hAe]; exact Or.inr h
  clear hAe
  have hS : va_S A s.heap s.heap [] := va_S.rf
  have hP : va_P (dC, dI) vwCl [(o, .inr (0, [.ref o_cells])), (o_cells, .inl (cI, 82, .inl s_cells))] s.heap := hP
  have hl := lv_entry ([.ref o, .int p0, .int p1, .int p2]) (n := 4) (Nat.le_of_ble_eq_true rfl)
  rw [lg_entry_eq]
  generalize (lg_sl ([.ref o, .int p0, .int p1, .int p2]) ++ List.replicate (4 - (lg_sl ([.ref o, .int p0, .int p1, .int p2])).length) Slot.unset).toArray = ls at hl ⊢
  have hl : lv_has ls 4 [(0, .ref o), (1, .int p0), (2, .int p1), (3, .int p2)] := hl
  generalize hQQ : MQ below _ _ _ 0 0 A = QQ
  show W p l e rm_X0_putWord s m ([.ref o, .int p0, .int p1, .int p2] : List Value).toArray below meth c s.heap [] 0 0 QQ (F0 m 0 ls [])
  obtain ⟨H, hHH⟩ : ∃ H, H = s.heap := ⟨_, rfl⟩
  rw [← hHH] at hP ⊢
  have hS : va_S A s.heap H [] := by rw [hHH]; exact hS
  clear hHH
  generalize ([] : List Loc) = locs at hS ⊢
  unfold P_X0_putWord at hw
  refine lv_aload_n hx hb dX0_putWord_0 rfl (lv_at hl 0 rfl) ?_
  refine lv_iload_n hx hb dX0_putWord_1 rfl (lv_at hl 1 rfl) ?_
  refine lv_bipush (v := 6) hx hb dX0_putWord_2 (by decide) ?_
  refine lv_imul hx hb dX0_putWord_4 ?_
  refine lv_iload_n hx hb dX0_putWord_5 rfl (lv_at hl 2 rfl) ?_
  refine lv_iadd hx hb dX0_putWord_6 ?_
  refine lv_iload_n hx hb dX0_putWord_7 rfl (lv_at hl 3 rfl) ?_
  refine gc_Vv (As := [.int ((p0 * 6) + p1), .int p2]) (rest := []) (wr := []) ⟨hx, hb, hml, hown, ht⟩ (c_X0_putCell l dC dI cI cJ o o_cells H.size s_cells ((p0 * 6) + p1) p2 _ hw) (cwV 2 ht (g_V k_318 k_320 k_s4 k_2 k_321) rfl rfl rfl (by decide +kernel) ⟨(Nat.le_of_ble_eq_true rfl), (Nat.le_of_ble_eq_true rfl)⟩) hK hP hD hS hA [0, 1] [] rfl rfl (by decide) 0 rfl rfl rfl rfl hl.1 rfl (Nat.le_of_ble_eq_true rfl) ⟨(Nat.le_of_ble_eq_true rfl), (Nat.le_of_ble_eq_true rfl)⟩ dX0_putWord_8 (fun u H locs hw hP hD hS => ?_)
  obtain ⟨s_cells_1, rfl⟩ : ∃ z, z = u := ⟨_, rfl⟩
  try dsimp only at hw
  have hP : va_P (dC, dI) vwCl [(o, .inr (0, [.ref o_cells])), (o_cells, .inl (cI, 82, .inl s_cells_1))] H := hP
  have hD : va_D A [(o, .inr (0, [.ref o_cells])), (o_cells, .inl (cI, 82, .inl s_cells_1))] := hD
  rw [← hQQ]
  exact g_retv (u := s_cells_1) hx hb hr hlocks hw hP hK hD hS dX0_putWord_11
abbrev rm_X0_addWord : Room := { frames := 2, cells := 0, slots := 0, locals := 45 }
set_option maxHeartbeats 4000000 in
set_option maxRecDepth 100000 in
theorem c_X0_addWord (l : Launch) (dC : Nat → ClassId) (dI : Nat → Nat → Nat) (cI cJ : ClassId) (o o_cells : Nat) (sz : Nat) (s_cells : Nat → Int32) (p0 : Int32) (p1 : Int32) (p2 : Int32) (p3 : Int32) (Q : Int32 → (Nat → Int32) → Prop) (hw : P_X0_addWord p0 p1 p2 p3 s_cells Q) : Met l yX0_addWord (Cond.code yX0_addWord cX0_addWord 6 (some .int) :: TBL) rm_X0_addWord (gPc (dC, dI) vwCl (gTy cI cJ) [.ref o, .int p0, .int p1, .int p2, .int p3] [(o, .inr (0, [.ref o_cells])), (o_cells, .inl (cI, 82, .inl s_cells))] sz) (va_Qi (fun (r : Int32) (u : (Nat → Int32)) => Q r u) (gB (dC, dI) vwCl (gTy cI cJ) (va_A [(o, .inr (0, [.ref o_cells])), (o_cells, .inl (cI, 82, .inl s_cells))] sz) (fun (u : (Nat → Int32)) => [(o, .inr (0, [.ref o_cells])), (o_cells, .inl (cI, 82, .inl u))])) (va_A [(o, .inr (0, [.ref o_cells])), (o_cells, .inl (cI, 82, .inl s_cells))] sz)) 0 0 (va_A [(o, .inr (0, [.ref o_cells])), (o_cells, .inl (cI, 82, .inl s_cells))] sz) := by
  refine Met.ofW (cc := cX0_addWord) (maxL := 6) (ret := (some .int)) (by decide) rfl ?_
  intro p e s m args below meth c s₁ B hml hv
  obtain ⟨rfl, hsz, hP, hK, hD0⟩ := hv
  have hx := B.exec
  have hb := B.bytes
  have hr := B.returns
  have hts := atoms_spec (ws := Cond.code yX0_addWord cX0_addWord 6 (some .int) :: TBL) B.pre
  have ht : ∀ w ∈ TBL, w.before ([.ref o, .int p0, .int p1, .int p2, .int p3] : List Value).toArray s = true := fun w h => hts w (List.mem_cons_of_mem _ h)
  clear hts
  have hown : s.vm.findClass RX0 = some m.cls := findClass_of_methodNamed B.named
  have hlocks := B.notSynchronized
  clear B
  subst hsz
  have hD := hD0.self (sz := s.heap.size)
  clear hD0
  generalize hAe : va_A [(o, .inr (0, [.ref o_cells])), (o_cells, .inl (cI, 82, .inl s_cells))] s.heap.size = A at hD ⊢
  have hA : ∀ q : Nat, s.heap.size ≤ q → A q := fun q h => by rw [← hAe]; exact Or.inr h
  clear hAe
  have hS : va_S A s.heap s.heap [] := va_S.rf
  have hP : va_P (dC, dI) vwCl [(o, .inr (0, [.ref o_cells])), (o_cells, .inl (cI, 82, .inl s_cells))] s.heap := hP
  have hl := lv_entry ([.ref o, .int p0, .int p1, .int p2, .int p3]) (n := 6) (Nat.le_of_ble_eq_true rfl)
  rw [lg_entry_eq]
  generalize (lg_sl ([.ref o, .int p0, .int p1, .int p2, .int p3]) ++ List.replicate (6 - (lg_sl ([.ref o, .int p0, .int p1, .int p2, .int p3])).length) Slot.unset).toArray = ls at hl ⊢
  have hl : lv_has ls 6 [(0, .ref o), (1, .int p0), (2, .int p1), (3, .int p2), (4, .int p3)] := hl
  generalize hQQ : MQ below _ _ _ 0 0 A = QQ
  show W p l e rm_X0_addWord s m ([.ref o, .int p0, .int p1, .int p2, .int p3] : List Value).toArray below meth c s.heap [] 0 0 QQ (F0 m 0 ls [])
  obtain ⟨H, hHH⟩ : ∃ H, H = s.heap := ⟨_, rfl⟩
  rw [← hHH] at hP ⊢
  have hS : va_S A s.heap H [] := by rw [hHH]; exact hS
  clear hHH
  generalize ([] : List Loc) = locs at hS ⊢
  unfold P_X0_addWord at hw
  refine lv_aload_n hx hb dX0_addWord_0 rfl (lv_at hl 0 rfl) ?_
  refine gc_Vi (As := []) (rest := []) (wr := []) ⟨hx, hb, hml, hown, ht⟩ (c_X0_words l dC dI cI cJ o o_cells H.size s_cells _ hw) (cwV 0 ht (g_V k_200 k_189 k_190 k_2 k_191) rfl rfl rfl (by decide +kernel) ⟨(Nat.le_of_ble_eq_true rfl), (Nat.le_of_ble_eq_true rfl)⟩) hK hP hD hS hA [0, 1] [] rfl rfl (by decide) 0 rfl rfl rfl rfl hl.1 rfl (Nat.le_of_ble_eq_true rfl) ⟨(Nat.le_of_ble_eq_true rfl), (Nat.le_of_ble_eq_true rfl)⟩ dX0_addWord_1 (fun r_1 u H locs hw hP hD hS => ?_)
  try dsimp only at hw
  have hP : va_P (dC, dI) vwCl [(o, .inr (0, [.ref o_cells])), (o_cells, .inl (cI, 82, .inl s_cells))] H := hP
  have hD : va_D A [(o, .inr (0, [.ref o_cells])), (o_cells, .inl (cI, 82, .inl s_cells))] := hD
  refine lv_istore (lv' := [(5, .int r_1), (0, .ref o), (1, .int p0), (2, .int p1), (3, .int p2), (4, .int p3)]) hx hb dX0_addWord_4 hl (by decide) rfl (fun ls hl => ?_)
  refine lv_aload_n hx hb dX0_addWord_6 rfl (lv_at hl 1 rfl) ?_
  refine lv_iload hx hb dX0_addWord_7 (lv_at hl 0 rfl) ?_
  refine lv_iconst (v := 0) hx hb dX0_addWord_9 (by decide) ?_
  refine lv_iload_n hx hb dX0_addWord_10 rfl (lv_at hl 2 rfl) ?_
  refine gc_Vv (As := [.int r_1, .int 0, .int p0]) (rest := []) (wr := []) ⟨hx, hb, hml, hown, ht⟩ (c_X0_putWord l dC dI cI cJ o o_cells H.size s_cells r_1 0 p0 _ hw) (cwV 3 ht (g_V k_545 k_546 k_547 k_2 k_548) rfl rfl rfl (by decide +kernel) ⟨(Nat.le_of_ble_eq_true rfl), (Nat.le_of_ble_eq_true rfl)⟩) hK hP hD hS hA [0, 1] [] rfl rfl (by decide) 0 rfl rfl rfl rfl hl.1 rfl (Nat.le_of_ble_eq_true rfl) ⟨(Nat.le_of_ble_eq_true rfl), (Nat.le_of_ble_eq_true rfl)⟩ dX0_addWord_11 (fun u H locs hw hP hD hS => ?_)
  obtain ⟨s_cells_2, rfl⟩ : ∃ z, z = u := ⟨_, rfl⟩
  try dsimp only at hw
  have hP : va_P (dC, dI) vwCl [(o, .inr (0, [.ref o_cells])), (o_cells, .inl (cI, 82, .inl s_cells_2))] H := hP
  have hD : va_D A [(o, .inr (0, [.ref o_cells])), (o_cells, .inl (cI, 82, .inl s_cells_2))] := hD
  refine lv_aload_n hx hb dX0_addWord_14 rfl (lv_at hl 1 rfl) ?_
  refine lv_iload hx hb dX0_addWord_15 (lv_at hl 0 rfl) ?_
  refine lv_iconst (v := 1) hx hb dX0_addWord_17 (by decide) ?_
  refine lv_iload_n hx hb dX0_addWord_18 rfl (lv_at hl 3 rfl) ?_
  refine gc_Vv (As := [.int r_1, .int 1, .int p1]) (rest := []) (wr := []) ⟨hx, hb, hml, hown, ht⟩ (c_X0_putWord l dC dI cI cJ o o_cells H.size s_cells_2 r_1 1 p1 _ hw) (cwV 3 ht (g_V k_545 k_546 k_547 k_2 k_548) rfl rfl rfl (by decide +kernel) ⟨(Nat.le_of_ble_eq_true rfl), (Nat.le_of_ble_eq_true rfl)⟩) hK hP hD hS hA [0, 1] [] rfl rfl (by decide) 0 rfl rfl rfl rfl hl.1 rfl (Nat.le_of_ble_eq_true rfl) ⟨(Nat.le_of_ble_eq_true rfl), (Nat.le_of_ble_eq_true rfl)⟩ dX0_addWord_19 (fun u H locs hw hP hD hS => ?_)
  obtain ⟨s_cells_3, rfl⟩ : ∃ z, z = u := ⟨_, rfl⟩
  try dsimp only at hw
  have hP : va_P (dC, dI) vwCl [(o, .inr (0, [.ref o_cells])), (o_cells, .inl (cI, 82, .inl s_cells_3))] H := hP
  have hD : va_D A [(o, .inr (0, [.ref o_cells])), (o_cells, .inl (cI, 82, .inl s_cells_3))] := hD
  refine lv_aload_n hx hb dX0_addWord_22 rfl (lv_at hl 1 rfl) ?_
  refine lv_iload hx hb dX0_addWord_23 (lv_at hl 0 rfl) ?_
  refine lv_iconst (v := 2) hx hb dX0_addWord_25 (by decide) ?_
  refine lv_iload_n hx hb dX0_addWord_26 rfl (lv_at hl 4 rfl) ?_
  refine gc_Vv (As := [.int r_1, .int 2, .int p2]) (rest := []) (wr := []) ⟨hx, hb, hml, hown, ht⟩ (c_X0_putWord l dC dI cI cJ o o_cells H.size s_cells_3 r_1 2 p2 _ hw) (cwV 3 ht (g_V k_545 k_546 k_547 k_2 k_548) rfl rfl rfl (by decide +kernel) ⟨(Nat.le_of_ble_eq_true rfl), (Nat.le_of_ble_eq_true rfl)⟩) hK hP hD hS hA [0, 1] [] rfl rfl (by decide) 0 rfl rfl rfl rfl hl.1 rfl (Nat.le_of_ble_eq_true rfl) ⟨(Nat.le_of_ble_eq_true rfl), (Nat.le_of_ble_eq_true rfl)⟩ dX0_addWord_27 (fun u H locs hw hP hD hS => ?_)
  obtain ⟨s_cells_4, rfl⟩ : ∃ z, z = u := ⟨_, rfl⟩
  try dsimp only at hw
  have hP : va_P (dC, dI) vwCl [(o, .inr (0, [.ref o_cells])), (o_cells, .inl (cI, 82, .inl s_cells_4))] H := hP
  have hD : va_D A [(o, .inr (0, [.ref o_cells])), (o_cells, .inl (cI, 82, .inl s_cells_4))] := hD
  refine lv_aload_n hx hb dX0_addWord_30 rfl (lv_at hl 1 rfl) ?_
  refine lv_iload hx hb dX0_addWord_31 (lv_at hl 0 rfl) ?_
  refine lv_iconst (v := 3) hx hb dX0_addWord_33 (by decide) ?_
  refine lv_iload hx hb dX0_addWord_34 (lv_at hl 5 rfl) ?_
  refine gc_Vv (As := [.int r_1, .int 3, .int p3]) (rest := []) (wr := []) ⟨hx, hb, hml, hown, ht⟩ (c_X0_putWord l dC dI cI cJ o o_cells H.size s_cells_4 r_1 3 p3 _ hw) (cwV 3 ht (g_V k_545 k_546 k_547 k_2 k_548) rfl rfl rfl (by decide +kernel) ⟨(Nat.le_of_ble_eq_true rfl), (Nat.le_of_ble_eq_true rfl)⟩) hK hP hD hS hA [0, 1] [] rfl rfl (by decide) 0 rfl rfl rfl rfl hl.1 rfl (Nat.le_of_ble_eq_true rfl) ⟨(Nat.le_of_ble_eq_true rfl), (Nat.le_of_ble_eq_true rfl)⟩ dX0_addWord_36 (fun u H locs hw hP hD hS => ?_)
  obtain ⟨s_cells_5, rfl⟩ : ∃ z, z = u := ⟨_, rfl⟩
  try dsimp only at hw
  have hP : va_P (dC, dI) vwCl [(o, .inr (0, [.ref o_cells])), (o_cells, .inl (cI, 82, .inl s_cells_5))] H := hP
  have hD : va_D A [(o, .inr (0, [.ref o_cells])), (o_cells, .inl (cI, 82, .inl s_cells_5))] := hD
  refine lv_aload_n hx hb dX0_addWord_39 rfl (lv_at hl 1 rfl) ?_
  refine lv_iload hx hb dX0_addWord_40 (lv_at hl 0 rfl) ?_
  refine lv_iconst (v := 4) hx hb dX0_addWord_42 (by decide) ?_
  refine lv_iconst (v := 0) hx hb dX0_addWord_43 (by decide) ?_
  refine gc_Vv (As := [.int r_1, .int 4, .int 0]) (rest := []) (wr := []) ⟨hx, hb, hml, hown, ht⟩ (c_X0_putWord l dC dI cI cJ o o_cells H.size s_cells_5 r_1 4 0 _ hw) (cwV 3 ht (g_V k_545 k_546 k_547 k_2 k_548) rfl rfl rfl (by decide +kernel) ⟨(Nat.le_of_ble_eq_true rfl), (Nat.le_of_ble_eq_true rfl)⟩) hK hP hD hS hA [0, 1] [] rfl rfl (by decide) 0 rfl rfl rfl rfl hl.1 rfl (Nat.le_of_ble_eq_true rfl) ⟨(Nat.le_of_ble_eq_true rfl), (Nat.le_of_ble_eq_true rfl)⟩ dX0_addWord_44 (fun u H locs hw hP hD hS => ?_)
  obtain ⟨s_cells_6, rfl⟩ : ∃ z, z = u := ⟨_, rfl⟩
  try dsimp only at hw
  have hP : va_P (dC, dI) vwCl [(o, .inr (0, [.ref o_cells])), (o_cells, .inl (cI, 82, .inl s_cells_6))] H := hP
  have hD : va_D A [(o, .inr (0, [.ref o_cells])), (o_cells, .inl (cI, 82, .inl s_cells_6))] := hD
  refine lv_aload_n hx hb dX0_addWord_47 rfl (lv_at hl 1 rfl) ?_
  refine lv_iload hx hb dX0_addWord_48 (lv_at hl 0 rfl) ?_
  refine lv_iconst (v := 5) hx hb dX0_addWord_50 (by decide) ?_
  refine lv_iconst (v := 4) hx hb dX0_addWord_51 (by decide) ?_
  refine gc_Vv (As := [.int r_1, .int 5, .int 4]) (rest := []) (wr := []) ⟨hx, hb, hml, hown, ht⟩ (c_X0_putWord l dC dI cI cJ o o_cells H.size s_cells_6 r_1 5 4 _ hw) (cwV 3 ht (g_V k_545 k_546 k_547 k_2 k_548) rfl rfl rfl (by decide +kernel) ⟨(Nat.le_of_ble_eq_true rfl), (Nat.le_of_ble_eq_true rfl)⟩) hK hP hD hS hA [0, 1] [] rfl rfl (by decide) 0 rfl rfl rfl rfl hl.1 rfl (Nat.le_of_ble_eq_true rfl) ⟨(Nat.le_of_ble_eq_true rfl), (Nat.le_of_ble_eq_true rfl)⟩ dX0_addWord_52 (fun u H locs hw hP hD hS => ?_)
  obtain ⟨s_cells_7, rfl⟩ : ∃ z, z = u := ⟨_, rfl⟩
  try dsimp only at hw
  have hP : va_P (dC, dI) vwCl [(o, .inr (0, [.ref o_cells])), (o_cells, .inl (cI, 82, .inl s_cells_7))] H := hP
  have hD : va_D A [(o, .inr (0, [.ref o_cells])), (o_cells, .inl (cI, 82, .inl s_cells_7))] := hD
  refine lv_aload_n hx hb dX0_addWord_55 rfl (lv_at hl 1 rfl) ?_
  refine lv_bipush (v := 80) hx hb dX0_addWord_56 (by decide) ?_
  refine lv_iload hx hb dX0_addWord_58 (lv_at hl 0 rfl) ?_
  refine lv_iconst (v := 1) hx hb dX0_addWord_60 (by decide) ?_
  refine lv_iadd hx hb dX0_addWord_61 ?_
  refine gc_Vv (As := [.int 80, .int (r_1 + 1)]) (rest := []) (wr := []) ⟨hx, hb, hml, hown, ht⟩ (c_X0_putCell l dC dI cI cJ o o_cells H.size s_cells_7 80 (r_1 + 1) _ hw) (cwV 2 ht (g_V k_318 k_320 k_s4 k_2 k_321) rfl rfl rfl (by decide +kernel) ⟨(Nat.le_of_ble_eq_true rfl), (Nat.le_of_ble_eq_true rfl)⟩) hK hP hD hS hA [0, 1] [] rfl rfl (by decide) 0 rfl rfl rfl rfl hl.1 rfl (Nat.le_of_ble_eq_true rfl) ⟨(Nat.le_of_ble_eq_true rfl), (Nat.le_of_ble_eq_true rfl)⟩ dX0_addWord_62 (fun u H locs hw hP hD hS => ?_)
  obtain ⟨s_cells_8, rfl⟩ : ∃ z, z = u := ⟨_, rfl⟩
  try dsimp only at hw
  have hP : va_P (dC, dI) vwCl [(o, .inr (0, [.ref o_cells])), (o_cells, .inl (cI, 82, .inl s_cells_8))] H := hP
  have hD : va_D A [(o, .inr (0, [.ref o_cells])), (o_cells, .inl (cI, 82, .inl s_cells_8))] := hD
  refine lv_iload hx hb dX0_addWord_65 (lv_at hl 0 rfl) ?_
  rw [← hQQ]
  exact g_reti (v := r_1) (u := s_cells_8) hx hb hr rfl hlocks hw hP hK hD hS dX0_addWord_67
abbrev rm_X0_dropWord : Room := { frames := 2, cells := 0, slots := 0, locals := 49 }
set_option maxHeartbeats 4000000 in
set_option maxRecDepth 100000 in
theorem c_X0_dropWord (l : Launch) (dC : Nat → ClassId) (dI : Nat → Nat → Nat) (cI cJ : ClassId) (o o_cells : Nat) (sz : Nat) (s_cells : Nat → Int32) (p0 : Int32) (Q : (Nat → Int32) → Prop) (hw : P_X0_dropWord p0 s_cells Q) : Met l yX0_dropWord (Cond.code yX0_dropWord cX0_dropWord 2 none :: TBL) rm_X0_dropWord (gPc (dC, dI) vwCl (gTy cI cJ) [.ref o, .int p0] [(o, .inr (0, [.ref o_cells])), (o_cells, .inl (cI, 82, .inl s_cells))] sz) (va_Qv (fun (u : (Nat → Int32)) => Q u) (gB (dC, dI) vwCl (gTy cI cJ) (va_A [(o, .inr (0, [.ref o_cells])), (o_cells, .inl (cI, 82, .inl s_cells))] sz) (fun (u : (Nat → Int32)) => [(o, .inr (0, [.ref o_cells])), (o_cells, .inl (cI, 82, .inl u))])) (va_A [(o, .inr (0, [.ref o_cells])), (o_cells, .inl (cI, 82, .inl s_cells))] sz)) 0 0 (va_A [(o, .inr (0, [.ref o_cells])), (o_cells, .inl (cI, 82, .inl s_cells))] sz) := by
  refine Met.ofW (cc := cX0_dropWord) (maxL := 2) (ret := none) (by decide) rfl ?_
  intro p e s m args below meth c s₁ B hml hv
  obtain ⟨rfl, hsz, hP, hK, hD0⟩ := hv
  have hx := B.exec
  have hb := B.bytes
  have hr := B.returns
  have hts := atoms_spec (ws := Cond.code yX0_dropWord cX0_dropWord 2 none :: TBL) B.pre
  have ht : ∀ w ∈ TBL, w.before ([.ref o, .int p0] : List Value).toArray s = true := fun w h => hts w (List.mem_cons_of_mem _ h)
  clear hts
  have hown : s.vm.findClass RX0 = some m.cls := findClass_of_methodNamed B.named
  have hlocks := B.notSynchronized
  clear B
  subst hsz
  have hD := hD0.self (sz := s.heap.size)
  clear hD0
  generalize hAe : va_A [(o, .inr (0, [.ref o_cells])), (o_cells, .inl (cI, 82, .inl s_cells))] s.heap.size = A at hD ⊢
  have hA : ∀ q : Nat, s.heap.size ≤ q → A q := fun q h => by rw [← hAe]; exact Or.inr h
  clear hAe
  have hS : va_S A s.heap s.heap [] := va_S.rf
  have hP : va_P (dC, dI) vwCl [(o, .inr (0, [.ref o_cells])), (o_cells, .inl (cI, 82, .inl s_cells))] s.heap := hP
  have hl := lv_entry ([.ref o, .int p0]) (n := 2) (Nat.le_of_ble_eq_true rfl)
  rw [lg_entry_eq]
  generalize (lg_sl ([.ref o, .int p0]) ++ List.replicate (2 - (lg_sl ([.ref o, .int p0])).length) Slot.unset).toArray = ls at hl ⊢
  have hl : lv_has ls 2 [(0, .ref o), (1, .int p0)] := hl
  generalize hQQ : MQ below _ _ _ 0 0 A = QQ
  show W p l e rm_X0_dropWord s m ([.ref o, .int p0] : List Value).toArray below meth c s.heap [] 0 0 QQ (F0 m 0 ls [])
  obtain ⟨H, hHH⟩ : ∃ H, H = s.heap := ⟨_, rfl⟩
  rw [← hHH] at hP ⊢
  have hS : va_S A s.heap H [] := by rw [hHH]; exact hS
  clear hHH
  generalize ([] : List Loc) = locs at hS ⊢
  unfold P_X0_dropWord at hw
  refine lv_aload_n hx hb dX0_dropWord_0 rfl (lv_at hl 0 rfl) ?_
  refine lv_iload_n hx hb dX0_dropWord_1 rfl (lv_at hl 1 rfl) ?_
  refine lv_bipush (v := 6) hx hb dX0_dropWord_2 (by decide) ?_
  refine lv_imul hx hb dX0_dropWord_4 ?_
  refine lv_bipush (v := 6) hx hb dX0_dropWord_5 (by decide) ?_
  refine lv_bipush (v := 48) hx hb dX0_dropWord_7 (by decide) ?_
  refine gc_Vv (As := [.int (p0 * 6), .int 6, .int 48]) (rest := []) (wr := []) ⟨hx, hb, hml, hown, ht⟩ (c_X0_closeGap l dC dI cI cJ o o_cells H.size s_cells (p0 * 6) 6 48 _ hw) (cwV 3 ht (g_V k_588 k_590 k_s19 k_2 k_591) rfl rfl rfl (by decide +kernel) ⟨(Nat.le_of_ble_eq_true rfl), (Nat.le_of_ble_eq_true rfl)⟩) hK hP hD hS hA [0, 1] [] rfl rfl (by decide) 0 rfl rfl rfl rfl hl.1 rfl (Nat.le_of_ble_eq_true rfl) ⟨(Nat.le_of_ble_eq_true rfl), (Nat.le_of_ble_eq_true rfl)⟩ dX0_dropWord_9 (fun u H locs hw hP hD hS => ?_)
  obtain ⟨s_cells_1, rfl⟩ : ∃ z, z = u := ⟨_, rfl⟩
  try dsimp only at hw
  have hP : va_P (dC, dI) vwCl [(o, .inr (0, [.ref o_cells])), (o_cells, .inl (cI, 82, .inl s_cells_1))] H := hP
  have hD : va_D A [(o, .inr (0, [.ref o_cells])), (o_cells, .inl (cI, 82, .inl s_cells_1))] := hD
  refine lv_aload_n hx hb dX0_dropWord_12 rfl (lv_at hl 0 rfl) ?_
  refine lv_bipush (v := 80) hx hb dX0_dropWord_13 (by decide) ?_
  refine lv_aload_n hx hb dX0_dropWord_15 rfl (lv_at hl 0 rfl) ?_
  refine gc_Vi (As := []) (rest := [.int 80, .ref o]) (wr := []) ⟨hx, hb, hml, hown, ht⟩ (c_X0_words l dC dI cI cJ o o_cells H.size s_cells_1 _ hw) (cwV 0 ht (g_V k_200 k_189 k_190 k_2 k_191) rfl rfl rfl (by decide +kernel) ⟨(Nat.le_of_ble_eq_true rfl), (Nat.le_of_ble_eq_true rfl)⟩) hK hP hD hS hA [0, 1] [] rfl rfl (by decide) 0 rfl rfl rfl rfl hl.1 rfl (Nat.le_of_ble_eq_true rfl) ⟨(Nat.le_of_ble_eq_true rfl), (Nat.le_of_ble_eq_true rfl)⟩ dX0_dropWord_16 (fun r_2 u H locs hw hP hD hS => ?_)
  try dsimp only at hw
  have hP : va_P (dC, dI) vwCl [(o, .inr (0, [.ref o_cells])), (o_cells, .inl (cI, 82, .inl s_cells_1))] H := hP
  have hD : va_D A [(o, .inr (0, [.ref o_cells])), (o_cells, .inl (cI, 82, .inl s_cells_1))] := hD
  refine lv_iconst (v := 1) hx hb dX0_dropWord_19 (by decide) ?_
  refine lv_isub hx hb dX0_dropWord_20 ?_
  refine gc_Vv (As := [.int 80, .int (r_2 - 1)]) (rest := []) (wr := []) ⟨hx, hb, hml, hown, ht⟩ (c_X0_putCell l dC dI cI cJ o o_cells H.size s_cells_1 80 (r_2 - 1) _ hw) (cwV 2 ht (g_V k_318 k_320 k_s4 k_2 k_321) rfl rfl rfl (by decide +kernel) ⟨(Nat.le_of_ble_eq_true rfl), (Nat.le_of_ble_eq_true rfl)⟩) hK hP hD hS hA [0, 1] [] rfl rfl (by decide) 0 rfl rfl rfl rfl hl.1 rfl (Nat.le_of_ble_eq_true rfl) ⟨(Nat.le_of_ble_eq_true rfl), (Nat.le_of_ble_eq_true rfl)⟩ dX0_dropWord_21 (fun u H locs hw hP hD hS => ?_)
  obtain ⟨s_cells_3, rfl⟩ : ∃ z, z = u := ⟨_, rfl⟩
  try dsimp only at hw
  have hP : va_P (dC, dI) vwCl [(o, .inr (0, [.ref o_cells])), (o_cells, .inl (cI, 82, .inl s_cells_3))] H := hP
  have hD : va_D A [(o, .inr (0, [.ref o_cells])), (o_cells, .inl (cI, 82, .inl s_cells_3))] := hD
  rw [← hQQ]
  exact g_retv (u := s_cells_3) hx hb hr hlocks hw hP hK hD hS dX0_dropWord_24
abbrev rm_X0_beams : Room := { frames := 0, cells := 0, slots := 0, locals := 0 }
set_option maxHeartbeats 4000000 in
set_option maxRecDepth 100000 in
theorem c_X0_beams (l : Launch) (dC : Nat → ClassId) (dI : Nat → Nat → Nat) (cI cJ : ClassId) (o o_cells : Nat) (sz : Nat) (s_cells : Nat → Int32)  (Q : Int32 → Prop) (hw : P_X0_beams s_cells Q) : Met l yX0_beams (Cond.code yX0_beams cX0_beams 1 (some .int) :: TBL) rm_X0_beams (gPc (dC, dI) vwCl (gTy cI cJ) [.ref o] [(o, .inr (0, [.ref o_cells])), (o_cells, .inl (cI, 82, .inl s_cells))] sz) (va_Qi (fun (r : Int32) (u : Unit) => Q r ) (gB (dC, dI) vwCl (gTy cI cJ) (va_A [(o, .inr (0, [.ref o_cells])), (o_cells, .inl (cI, 82, .inl s_cells))] sz) (fun (u : Unit) => [(o, .inr (0, [.ref o_cells])), (o_cells, .inl (cI, 82, .inl s_cells))])) (va_A [(o, .inr (0, [.ref o_cells])), (o_cells, .inl (cI, 82, .inl s_cells))] sz)) 0 0 (va_A [(o, .inr (0, [.ref o_cells])), (o_cells, .inl (cI, 82, .inl s_cells))] sz) := by
  refine Met.ofW (cc := cX0_beams) (maxL := 1) (ret := (some .int)) (by decide) rfl ?_
  intro p e s m args below meth c s₁ B hml hv
  obtain ⟨rfl, hsz, hP, hK, hD0⟩ := hv
  have hx := B.exec
  have hb := B.bytes
  have hr := B.returns
  have hts := atoms_spec (ws := Cond.code yX0_beams cX0_beams 1 (some .int) :: TBL) B.pre
  have ht : ∀ w ∈ TBL, w.before ([.ref o] : List Value).toArray s = true := fun w h => hts w (List.mem_cons_of_mem _ h)
  clear hts
  have hown : s.vm.findClass RX0 = some m.cls := findClass_of_methodNamed B.named
  have hlocks := B.notSynchronized
  clear B
  subst hsz
  have hD := hD0.self (sz := s.heap.size)
  clear hD0
  generalize hAe : va_A [(o, .inr (0, [.ref o_cells])), (o_cells, .inl (cI, 82, .inl s_cells))] s.heap.size = A at hD ⊢
  have hA : ∀ q : Nat, s.heap.size ≤ q → A q := fun q h => by rw [← hAe]; exact Or.inr h
  clear hAe
  have hS : va_S A s.heap s.heap [] := va_S.rf
  have hP : va_P (dC, dI) vwCl [(o, .inr (0, [.ref o_cells])), (o_cells, .inl (cI, 82, .inl s_cells))] s.heap := hP
  have hl := lv_entry ([.ref o]) (n := 1) (Nat.le_of_ble_eq_true rfl)
  rw [lg_entry_eq]
  generalize (lg_sl ([.ref o]) ++ List.replicate (1 - (lg_sl ([.ref o])).length) Slot.unset).toArray = ls at hl ⊢
  have hl : lv_has ls 1 [(0, .ref o)] := hl
  generalize hQQ : MQ below _ _ _ 0 0 A = QQ
  show W p l e rm_X0_beams s m ([.ref o] : List Value).toArray below meth c s.heap [] 0 0 QQ (F0 m 0 ls [])
  obtain ⟨H, hHH⟩ : ∃ H, H = s.heap := ⟨_, rfl⟩
  rw [← hHH] at hP ⊢
  have hS : va_S A s.heap H [] := by rw [hHH]; exact hS
  clear hHH
  generalize ([] : List Loc) = locs at hS ⊢
  unfold P_X0_beams at hw
  refine lv_aload_n hx hb dX0_beams_0 rfl (lv_at hl 0 rfl) ?_
  refine va_get (D := (dC, dI)) (ci := 0) (v := .ref o_cells) (C := RX0) (T := TX0) (N := 1) hx hb ht i_X0 hown hK hP 0 rfl rfl 0 (by decide) (ht _ k_28) (fun _ h9 => h9) rfl dX0_beams_1 ?_
  refine lv_bipush (v := 81) hx hb dX0_beams_4 (by decide) ?_
  refine gv_iald hx hb hK hP 1 0 rfl rfl (k := 81) (by decide) (by unfold vp_in; decide) dX0_beams_6 ?_
  rw [← hQQ]
  exact g_reti (v := (s_cells 81)) (u := ()) hx hb hr rfl hlocks hw hP hK hD hS dX0_beams_7
abbrev rm_X0_hasBeam : Room := { frames := 1, cells := 0, slots := 0, locals := 20 }
set_option maxHeartbeats 4000000 in
set_option maxRecDepth 100000 in
theorem c_X0_hasBeam (l : Launch) (dC : Nat → ClassId) (dI : Nat → Nat → Nat) (cI cJ : ClassId) (o o_cells : Nat) (sz : Nat) (s_cells : Nat → Int32) (p0 : Int32) (Q : Int32 → Prop) (hw : P_X0_hasBeam p0 s_cells Q) : Met l yX0_hasBeam (Cond.code yX0_hasBeam cX0_hasBeam 2 (some .boolean) :: TBL) rm_X0_hasBeam (gPc (dC, dI) vwCl (gTy cI cJ) [.ref o, .int p0] [(o, .inr (0, [.ref o_cells])), (o_cells, .inl (cI, 82, .inl s_cells))] sz) (va_Qi (fun (r : Int32) (u : Unit) => Q r ) (gB (dC, dI) vwCl (gTy cI cJ) (va_A [(o, .inr (0, [.ref o_cells])), (o_cells, .inl (cI, 82, .inl s_cells))] sz) (fun (u : Unit) => [(o, .inr (0, [.ref o_cells])), (o_cells, .inl (cI, 82, .inl s_cells))])) (va_A [(o, .inr (0, [.ref o_cells])), (o_cells, .inl (cI, 82, .inl s_cells))] sz)) 0 0 (va_A [(o, .inr (0, [.ref o_cells])), (o_cells, .inl (cI, 82, .inl s_cells))] sz) := by
  refine Met.ofW (cc := cX0_hasBeam) (maxL := 2) (ret := (some .boolean)) (by decide) rfl ?_
  intro p e s m args below meth c s₁ B hml hv
  obtain ⟨rfl, hsz, hP, hK, hD0⟩ := hv
  have hx := B.exec
  have hb := B.bytes
  have hr := B.returns
  have hts := atoms_spec (ws := Cond.code yX0_hasBeam cX0_hasBeam 2 (some .boolean) :: TBL) B.pre
  have ht : ∀ w ∈ TBL, w.before ([.ref o, .int p0] : List Value).toArray s = true := fun w h => hts w (List.mem_cons_of_mem _ h)
  clear hts
  have hown : s.vm.findClass RX0 = some m.cls := findClass_of_methodNamed B.named
  have hlocks := B.notSynchronized
  clear B
  subst hsz
  have hD := hD0.self (sz := s.heap.size)
  clear hD0
  generalize hAe : va_A [(o, .inr (0, [.ref o_cells])), (o_cells, .inl (cI, 82, .inl s_cells))] s.heap.size = A at hD ⊢
  have hA : ∀ q : Nat, s.heap.size ≤ q → A q := fun q h => by rw [← hAe]; exact Or.inr h
  clear hAe
  have hS : va_S A s.heap s.heap [] := va_S.rf
  have hP : va_P (dC, dI) vwCl [(o, .inr (0, [.ref o_cells])), (o_cells, .inl (cI, 82, .inl s_cells))] s.heap := hP
  have hl := lv_entry ([.ref o, .int p0]) (n := 2) (Nat.le_of_ble_eq_true rfl)
  rw [lg_entry_eq]
  generalize (lg_sl ([.ref o, .int p0]) ++ List.replicate (2 - (lg_sl ([.ref o, .int p0])).length) Slot.unset).toArray = ls at hl ⊢
  have hl : lv_has ls 2 [(0, .ref o), (1, .int p0)] := hl
  generalize hQQ : MQ below _ _ _ 0 0 A = QQ
  show W p l e rm_X0_hasBeam s m ([.ref o, .int p0] : List Value).toArray below meth c s.heap [] 0 0 QQ (F0 m 0 ls [])
  obtain ⟨H, hHH⟩ : ∃ H, H = s.heap := ⟨_, rfl⟩
  rw [← hHH] at hP ⊢
  have hS : va_S A s.heap H [] := by rw [hHH]; exact hS
  clear hHH
  generalize ([] : List Loc) = locs at hS ⊢
  unfold P_X0_hasBeam at hw
  refine lv_iload_n hx hb dX0_hasBeam_0 rfl (lv_at hl 1 rfl) ?_
  refine lv_if_lt (tgt := 16) hx hb dX0_hasBeam_1 (by decide) (fun hc => ?_) (fun hc => ?_)
  · have hw := hw.1 hc
    refine lv_iconst (v := 0) hx hb dX0_hasBeam_16 (by decide) ?_
    rw [← hQQ]
    exact g_reti (v := 0) (u := ()) hx hb hr rfl hlocks hw hP hK hD hS dX0_hasBeam_17
  · have hw := hw.2 hc
    refine lv_iload_n hx hb dX0_hasBeam_4 rfl (lv_at hl 1 rfl) ?_
    refine lv_aload_n hx hb dX0_hasBeam_5 rfl (lv_at hl 0 rfl) ?_
    refine gc_Vi (As := []) (rest := [.int p0]) (wr := []) ⟨hx, hb, hml, hown, ht⟩ (c_X0_beams l dC dI cI cJ o o_cells H.size s_cells _ hw) (cwV 0 ht (g_V k_513 k_193 k_194 k_2 k_195) rfl rfl rfl (by decide +kernel) ⟨(Nat.le_of_ble_eq_true rfl), (Nat.le_of_ble_eq_true rfl)⟩) hK hP hD hS hA [0, 1] [] rfl rfl (by decide) 0 rfl rfl rfl rfl hl.1 rfl (Nat.le_of_ble_eq_true rfl) ⟨(Nat.le_of_ble_eq_true rfl), (Nat.le_of_ble_eq_true rfl)⟩ dX0_hasBeam_6 (fun r_1 u H locs hw hP hD hS => ?_)
    try dsimp only at hw
    have hP : va_P (dC, dI) vwCl [(o, .inr (0, [.ref o_cells])), (o_cells, .inl (cI, 82, .inl s_cells))] H := hP
    have hD : va_D A [(o, .inr (0, [.ref o_cells])), (o_cells, .inl (cI, 82, .inl s_cells))] := hD
    refine lv_icmp_ge (tgt := 16) hx hb dX0_hasBeam_9 (by decide) (fun hc => ?_) (fun hc => ?_)
    · have hw := hw.1 hc
      refine lv_iconst (v := 0) hx hb dX0_hasBeam_16 (by decide) ?_
      rw [← hQQ]
      exact g_reti (v := 0) (u := ()) hx hb hr rfl hlocks hw hP hK hD hS dX0_hasBeam_17
    · have hw := hw.2 hc
      refine lv_iconst (v := 1) hx hb dX0_hasBeam_12 (by decide) ?_
      refine lv_goto (tgt := 17) hx hb dX0_hasBeam_13 (by decide) ?_
      rw [← hQQ]
      exact g_reti (v := 1) (u := ()) hx hb hr rfl hlocks hw hP hK hD hS dX0_hasBeam_17
abbrev rm_X0_ofBeam : Room := { frames := 0, cells := 0, slots := 0, locals := 0 }
set_option maxHeartbeats 4000000 in
set_option maxRecDepth 100000 in
theorem c_X0_ofBeam (l : Launch) (dC : Nat → ClassId) (dI : Nat → Nat → Nat) (cI cJ : ClassId) (o o_cells : Nat) (sz : Nat) (s_cells : Nat → Int32) (p0 : Int32) (p1 : Int32) (Q : Int32 → Prop) (hw : P_X0_ofBeam p0 p1 s_cells Q) : Met l yX0_ofBeam (Cond.code yX0_ofBeam cX0_ofBeam 4 (some .int) :: TBL) rm_X0_ofBeam (gPc (dC, dI) vwCl (gTy cI cJ) [.ref o, .int p0, .int p1] [(o, .inr (0, [.ref o_cells])), (o_cells, .inl (cI, 82, .inl s_cells))] sz) (va_Qi (fun (r : Int32) (u : Unit) => Q r ) (gB (dC, dI) vwCl (gTy cI cJ) (va_A [(o, .inr (0, [.ref o_cells])), (o_cells, .inl (cI, 82, .inl s_cells))] sz) (fun (u : Unit) => [(o, .inr (0, [.ref o_cells])), (o_cells, .inl (cI, 82, .inl s_cells))])) (va_A [(o, .inr (0, [.ref o_cells])), (o_cells, .inl (cI, 82, .inl s_cells))] sz)) 0 0 (va_A [(o, .inr (0, [.ref o_cells])), (o_cells, .inl (cI, 82, .inl s_cells))] sz) := by
  refine Met.ofW (cc := cX0_ofBeam) (maxL := 4) (ret := (some .int)) (by decide) rfl ?_
  intro p e s m args below meth c s₁ B hml hv
  obtain ⟨rfl, hsz, hP, hK, hD0⟩ := hv
  have hx := B.exec
  have hb := B.bytes
  have hr := B.returns
  have hts := atoms_spec (ws := Cond.code yX0_ofBeam cX0_ofBeam 4 (some .int) :: TBL) B.pre
  have ht : ∀ w ∈ TBL, w.before ([.ref o, .int p0, .int p1] : List Value).toArray s = true := fun w h => hts w (List.mem_cons_of_mem _ h)
  clear hts
  have hown : s.vm.findClass RX0 = some m.cls := findClass_of_methodNamed B.named
  have hlocks := B.notSynchronized
  clear B
  subst hsz
  have hD := hD0.self (sz := s.heap.size)
  clear hD0
  generalize hAe : va_A [(o, .inr (0, [.ref o_cells])), (o_cells, .inl (cI, 82, .inl s_cells))] s.heap.size = A at hD ⊢
  have hA : ∀ q : Nat, s.heap.size ≤ q → A q := fun q h => by rw [← hAe]; exact Or.inr h
  clear hAe
  have hS : va_S A s.heap s.heap [] := va_S.rf
  have hP : va_P (dC, dI) vwCl [(o, .inr (0, [.ref o_cells])), (o_cells, .inl (cI, 82, .inl s_cells))] s.heap := hP
  have hl := lv_entry ([.ref o, .int p0, .int p1]) (n := 4) (Nat.le_of_ble_eq_true rfl)
  rw [lg_entry_eq]
  generalize (lg_sl ([.ref o, .int p0, .int p1]) ++ List.replicate (4 - (lg_sl ([.ref o, .int p0, .int p1])).length) Slot.unset).toArray = ls at hl ⊢
  have hl : lv_has ls 4 [(0, .ref o), (1, .int p0), (2, .int p1)] := hl
  generalize hQQ : MQ below _ _ _ 0 0 A = QQ
  show W p l e rm_X0_ofBeam s m ([.ref o, .int p0, .int p1] : List Value).toArray below meth c s.heap [] 0 0 QQ (F0 m 0 ls [])
  obtain ⟨H, hHH⟩ : ∃ H, H = s.heap := ⟨_, rfl⟩
  rw [← hHH] at hP ⊢
  have hS : va_S A s.heap H [] := by rw [hHH]; exact hS
  clear hHH
  generalize ([] : List Loc) = locs at hS ⊢
  unfold P_X0_ofBeam at hw
  refine lv_bipush (v := 48) hx hb dX0_ofBeam_0 (by decide) ?_
  refine lv_iload_n hx hb dX0_ofBeam_2 rfl (lv_at hl 1 rfl) ?_
  refine lv_iconst (v := 5) hx hb dX0_ofBeam_3 (by decide) ?_
  refine lv_imul hx hb dX0_ofBeam_4 ?_
  refine lv_iadd hx hb dX0_ofBeam_5 ?_
  refine lv_iload_n hx hb dX0_ofBeam_6 rfl (lv_at hl 2 rfl) ?_
  refine lv_iadd hx hb dX0_ofBeam_7 ?_
  refine lv_istore_n (lv' := [(3, .int ((48 + (p0 * 5)) + p1)), (0, .ref o), (1, .int p0), (2, .int p1)]) hx hb dX0_ofBeam_8 rfl hl (by decide) rfl (fun ls hl => ?_)
  refine lv_iload_n hx hb dX0_ofBeam_9 rfl (lv_at hl 0 rfl) ?_
  refine lv_if_lt (tgt := 31) hx hb dX0_ofBeam_10 (by decide) (fun hc => ?_) (fun hc => ?_)
  · have hw := hw.1 hc
    refine lv_iconst (v := (-1)) hx hb dX0_ofBeam_31 (by decide) ?_
    rw [← hQQ]
    exact g_reti (v := (-1)) (u := ()) hx hb hr rfl hlocks hw hP hK hD hS dX0_ofBeam_32
  · have hw := hw.2 hc
    refine lv_iload_n hx hb dX0_ofBeam_13 rfl (lv_at hl 0 rfl) ?_
    refine lv_aload_n hx hb dX0_ofBeam_14 rfl (lv_at hl 1 rfl) ?_
    refine va_get (D := (dC, dI)) (ci := 0) (v := .ref o_cells) (C := RX0) (T := TX0) (N := 1) hx hb ht i_X0 hown hK hP 0 rfl rfl 0 (by decide) (ht _ k_28) (fun _ h9 => h9) rfl dX0_ofBeam_15 ?_
    refine va_alen (v := 82) hx hb hK hP 1 0 rfl rfl rfl dX0_ofBeam_18 ?_
    refine lv_icmp_ge (tgt := 31) hx hb dX0_ofBeam_19 (by decide) (fun hc => ?_) (fun hc => ?_)
    · have hw := hw.1 hc
      refine lv_iconst (v := (-1)) hx hb dX0_ofBeam_31 (by decide) ?_
      rw [← hQQ]
      exact g_reti (v := (-1)) (u := ()) hx hb hr rfl hlocks hw hP hK hD hS dX0_ofBeam_32
    · have hw := hw.2 hc
      refine lv_aload_n hx hb dX0_ofBeam_22 rfl (lv_at hl 1 rfl) ?_
      refine va_get (D := (dC, dI)) (ci := 0) (v := .ref o_cells) (C := RX0) (T := TX0) (N := 1) hx hb ht i_X0 hown hK hP 0 rfl rfl 0 (by decide) (ht _ k_28) (fun _ h9 => h9) rfl dX0_ofBeam_23 ?_
      refine lv_iload_n hx hb dX0_ofBeam_26 rfl (lv_at hl 0 rfl) ?_
      obtain ⟨hi_1, hw⟩ := hw
      refine gv_iald hx hb hK hP 1 0 rfl rfl rfl hi_1 dX0_ofBeam_27 ?_
      refine lv_goto (tgt := 32) hx hb dX0_ofBeam_28 (by decide) ?_
      rw [← hQQ]
      exact g_reti (v := (s_cells (((48 + (p0 * 5)) + p1).toNatClampNeg))) (u := ()) hx hb hr rfl hlocks hw hP hK hD hS dX0_ofBeam_32
abbrev rm_X0_putBeam : Room := { frames := 1, cells := 0, slots := 0, locals := 22 }
set_option maxHeartbeats 4000000 in
set_option maxRecDepth 100000 in
theorem c_X0_putBeam (l : Launch) (dC : Nat → ClassId) (dI : Nat → Nat → Nat) (cI cJ : ClassId) (o o_cells : Nat) (sz : Nat) (s_cells : Nat → Int32) (p0 : Int32) (p1 : Int32) (p2 : Int32) (Q : (Nat → Int32) → Prop) (hw : P_X0_putBeam p0 p1 p2 s_cells Q) : Met l yX0_putBeam (Cond.code yX0_putBeam cX0_putBeam 4 none :: TBL) rm_X0_putBeam (gPc (dC, dI) vwCl (gTy cI cJ) [.ref o, .int p0, .int p1, .int p2] [(o, .inr (0, [.ref o_cells])), (o_cells, .inl (cI, 82, .inl s_cells))] sz) (va_Qv (fun (u : (Nat → Int32)) => Q u) (gB (dC, dI) vwCl (gTy cI cJ) (va_A [(o, .inr (0, [.ref o_cells])), (o_cells, .inl (cI, 82, .inl s_cells))] sz) (fun (u : (Nat → Int32)) => [(o, .inr (0, [.ref o_cells])), (o_cells, .inl (cI, 82, .inl u))])) (va_A [(o, .inr (0, [.ref o_cells])), (o_cells, .inl (cI, 82, .inl s_cells))] sz)) 0 0 (va_A [(o, .inr (0, [.ref o_cells])), (o_cells, .inl (cI, 82, .inl s_cells))] sz) := by
  refine Met.ofW (cc := cX0_putBeam) (maxL := 4) (ret := none) (by decide) rfl ?_
  intro p e s m args below meth c s₁ B hml hv
  obtain ⟨rfl, hsz, hP, hK, hD0⟩ := hv
  have hx := B.exec
  have hb := B.bytes
  have hr := B.returns
  have hts := atoms_spec (ws := Cond.code yX0_putBeam cX0_putBeam 4 none :: TBL) B.pre
  have ht : ∀ w ∈ TBL, w.before ([.ref o, .int p0, .int p1, .int p2] : List Value).toArray s = true := fun w h => hts w (List.mem_cons_of_mem _ h)
  clear hts
  have hown : s.vm.findClass RX0 = some m.cls := findClass_of_methodNamed B.named
  have hlocks := B.notSynchronized
  clear B
  subst hsz
  have hD := hD0.self (sz := s.heap.size)
  clear hD0
  generalize hAe : va_A [(o, .inr (0, [.ref o_cells])), (o_cells, .inl (cI, 82, .inl s_cells))] s.heap.size = A at hD ⊢
  have hA : ∀ q : Nat, s.heap.size ≤ q → A q := fun q h => by rw [← hAe]; exact Or.inr h
  clear hAe
  have hS : va_S A s.heap s.heap [] := va_S.rf
  have hP : va_P (dC, dI) vwCl [(o, .inr (0, [.ref o_cells])), (o_cells, .inl (cI, 82, .inl s_cells))] s.heap := hP
  have hl := lv_entry ([.ref o, .int p0, .int p1, .int p2]) (n := 4) (Nat.le_of_ble_eq_true rfl)
  rw [lg_entry_eq]
  generalize (lg_sl ([.ref o, .int p0, .int p1, .int p2]) ++ List.replicate (4 - (lg_sl ([.ref o, .int p0, .int p1, .int p2])).length) Slot.unset).toArray = ls at hl ⊢
  have hl : lv_has ls 4 [(0, .ref o), (1, .int p0), (2, .int p1), (3, .int p2)] := hl
  generalize hQQ : MQ below _ _ _ 0 0 A = QQ
  show W p l e rm_X0_putBeam s m ([.ref o, .int p0, .int p1, .int p2] : List Value).toArray below meth c s.heap [] 0 0 QQ (F0 m 0 ls [])
  obtain ⟨H, hHH⟩ : ∃ H, H = s.heap := ⟨_, rfl⟩
  rw [← hHH] at hP ⊢
  have hS : va_S A s.heap H [] := by rw [hHH]; exact hS
  clear hHH
  generalize ([] : List Loc) = locs at hS ⊢
  unfold P_X0_putBeam at hw
  refine lv_aload_n hx hb dX0_putBeam_0 rfl (lv_at hl 0 rfl) ?_
  refine lv_bipush (v := 48) hx hb dX0_putBeam_1 (by decide) ?_
  refine lv_iload_n hx hb dX0_putBeam_3 rfl (lv_at hl 1 rfl) ?_
  refine lv_iconst (v := 5) hx hb dX0_putBeam_4 (by decide) ?_
  refine lv_imul hx hb dX0_putBeam_5 ?_
  refine lv_iadd hx hb dX0_putBeam_6 ?_
  refine lv_iload_n hx hb dX0_putBeam_7 rfl (lv_at hl 2 rfl) ?_
  refine lv_iadd hx hb dX0_putBeam_8 ?_
  refine lv_iload_n hx hb dX0_putBeam_9 rfl (lv_at hl 3 rfl) ?_
  refine gc_Vv (As := [.int ((48 + (p0 * 5)) + p1), .int p2]) (rest := []) (wr := []) ⟨hx, hb, hml, hown, ht⟩ (c_X0_putCell l dC dI cI cJ o o_cells H.size s_cells ((48 + (p0 * 5)) + p1) p2 _ hw) (cwV 2 ht (g_V k_318 k_320 k_s4 k_2 k_321) rfl rfl rfl (by decide +kernel) ⟨(Nat.le_of_ble_eq_true rfl), (Nat.le_of_ble_eq_true rfl)⟩) hK hP hD hS hA [0, 1] [] rfl rfl (by decide) 0 rfl rfl rfl rfl hl.1 rfl (Nat.le_of_ble_eq_true rfl) ⟨(Nat.le_of_ble_eq_true rfl), (Nat.le_of_ble_eq_true rfl)⟩ dX0_putBeam_10 (fun u H locs hw hP hD hS => ?_)
  obtain ⟨s_cells_1, rfl⟩ : ∃ z, z = u := ⟨_, rfl⟩
  try dsimp only at hw
  have hP : va_P (dC, dI) vwCl [(o, .inr (0, [.ref o_cells])), (o_cells, .inl (cI, 82, .inl s_cells_1))] H := hP
  have hD : va_D A [(o, .inr (0, [.ref o_cells])), (o_cells, .inl (cI, 82, .inl s_cells_1))] := hD
  rw [← hQQ]
  exact g_retv (u := s_cells_1) hx hb hr hlocks hw hP hK hD hS dX0_putBeam_13
abbrev rm_X0_addBeam : Room := { frames := 2, cells := 0, slots := 0, locals := 45 }
set_option maxHeartbeats 4000000 in
set_option maxRecDepth 100000 in
theorem c_X0_addBeam (l : Launch) (dC : Nat → ClassId) (dI : Nat → Nat → Nat) (cI cJ : ClassId) (o o_cells : Nat) (sz : Nat) (s_cells : Nat → Int32) (p0 : Int32) (p1 : Int32) (p2 : Int32) (p3 : Int32) (p4 : Int32) (Q : Int32 → (Nat → Int32) → Prop) (hw : P_X0_addBeam p0 p1 p2 p3 p4 s_cells Q) : Met l yX0_addBeam (Cond.code yX0_addBeam cX0_addBeam 7 (some .int) :: TBL) rm_X0_addBeam (gPc (dC, dI) vwCl (gTy cI cJ) [.ref o, .int p0, .int p1, .int p2, .int p3, .int p4] [(o, .inr (0, [.ref o_cells])), (o_cells, .inl (cI, 82, .inl s_cells))] sz) (va_Qi (fun (r : Int32) (u : (Nat → Int32)) => Q r u) (gB (dC, dI) vwCl (gTy cI cJ) (va_A [(o, .inr (0, [.ref o_cells])), (o_cells, .inl (cI, 82, .inl s_cells))] sz) (fun (u : (Nat → Int32)) => [(o, .inr (0, [.ref o_cells])), (o_cells, .inl (cI, 82, .inl u))])) (va_A [(o, .inr (0, [.ref o_cells])), (o_cells, .inl (cI, 82, .inl s_cells))] sz)) 0 0 (va_A [(o, .inr (0, [.ref o_cells])), (o_cells, .inl (cI, 82, .inl s_cells))] sz) := by
  refine Met.ofW (cc := cX0_addBeam) (maxL := 7) (ret := (some .int)) (by decide) rfl ?_
  intro p e s m args below meth c s₁ B hml hv
  obtain ⟨rfl, hsz, hP, hK, hD0⟩ := hv
  have hx := B.exec
  have hb := B.bytes
  have hr := B.returns
  have hts := atoms_spec (ws := Cond.code yX0_addBeam cX0_addBeam 7 (some .int) :: TBL) B.pre
  have ht : ∀ w ∈ TBL, w.before ([.ref o, .int p0, .int p1, .int p2, .int p3, .int p4] : List Value).toArray s = true := fun w h => hts w (List.mem_cons_of_mem _ h)
  clear hts
  have hown : s.vm.findClass RX0 = some m.cls := findClass_of_methodNamed B.named
  have hlocks := B.notSynchronized
  clear B
  subst hsz
  have hD := hD0.self (sz := s.heap.size)
  clear hD0
  generalize hAe : va_A [(o, .inr (0, [.ref o_cells])), (o_cells, .inl (cI, 82, .inl s_cells))] s.heap.size = A at hD ⊢
  have hA : ∀ q : Nat, s.heap.size ≤ q → A q := fun q h => by rw [← hAe]; exact Or.inr h
  clear hAe
  have hS : va_S A s.heap s.heap [] := va_S.rf
  have hP : va_P (dC, dI) vwCl [(o, .inr (0, [.ref o_cells])), (o_cells, .inl (cI, 82, .inl s_cells))] s.heap := hP
  have hl := lv_entry ([.ref o, .int p0, .int p1, .int p2, .int p3, .int p4]) (n := 7) (Nat.le_of_ble_eq_true rfl)
  rw [lg_entry_eq]
  generalize (lg_sl ([.ref o, .int p0, .int p1, .int p2, .int p3, .int p4]) ++ List.replicate (7 - (lg_sl ([.ref o, .int p0, .int p1, .int p2, .int p3, .int p4])).length) Slot.unset).toArray = ls at hl ⊢
  have hl : lv_has ls 7 [(0, .ref o), (1, .int p0), (2, .int p1), (3, .int p2), (4, .int p3), (5, .int p4)] := hl
  generalize hQQ : MQ below _ _ _ 0 0 A = QQ
  show W p l e rm_X0_addBeam s m ([.ref o, .int p0, .int p1, .int p2, .int p3, .int p4] : List Value).toArray below meth c s.heap [] 0 0 QQ (F0 m 0 ls [])
  obtain ⟨H, hHH⟩ : ∃ H, H = s.heap := ⟨_, rfl⟩
  rw [← hHH] at hP ⊢
  have hS : va_S A s.heap H [] := by rw [hHH]; exact hS
  clear hHH
  generalize ([] : List Loc) = locs at hS ⊢
  unfold P_X0_addBeam at hw
  refine lv_aload_n hx hb dX0_addBeam_0 rfl (lv_at hl 0 rfl) ?_
  refine gc_Vi (As := []) (rest := []) (wr := []) ⟨hx, hb, hml, hown, ht⟩ (c_X0_beams l dC dI cI cJ o o_cells H.size s_cells _ hw) (cwV 0 ht (g_V k_513 k_193 k_194 k_2 k_195) rfl rfl rfl (by decide +kernel) ⟨(Nat.le_of_ble_eq_true rfl), (Nat.le_of_ble_eq_true rfl)⟩) hK hP hD hS hA [0, 1] [] rfl rfl (by decide) 0 rfl rfl rfl rfl hl.1 rfl (Nat.le_of_ble_eq_true rfl) ⟨(Nat.le_of_ble_eq_true rfl), (Nat.le_of_ble_eq_true rfl)⟩ dX0_addBeam_1 (fun r_1 u H locs hw hP hD hS => ?_)
  try dsimp only at hw
  have hP : va_P (dC, dI) vwCl [(o, .inr (0, [.ref o_cells])), (o_cells, .inl (cI, 82, .inl s_cells))] H := hP
  have hD : va_D A [(o, .inr (0, [.ref o_cells])), (o_cells, .inl (cI, 82, .inl s_cells))] := hD
  refine lv_istore (lv' := [(6, .int r_1), (0, .ref o), (1, .int p0), (2, .int p1), (3, .int p2), (4, .int p3), (5, .int p4)]) hx hb dX0_addBeam_4 hl (by decide) rfl (fun ls hl => ?_)
  refine lv_aload_n hx hb dX0_addBeam_6 rfl (lv_at hl 1 rfl) ?_
  refine lv_iload hx hb dX0_addBeam_7 (lv_at hl 0 rfl) ?_
  refine lv_iconst (v := 0) hx hb dX0_addBeam_9 (by decide) ?_
  refine lv_iload_n hx hb dX0_addBeam_10 rfl (lv_at hl 2 rfl) ?_
  refine gc_Vv (As := [.int r_1, .int 0, .int p0]) (rest := []) (wr := []) ⟨hx, hb, hml, hown, ht⟩ (c_X0_putBeam l dC dI cI cJ o o_cells H.size s_cells r_1 0 p0 _ hw) (cwV 3 ht (g_V k_565 k_566 k_567 k_2 k_568) rfl rfl rfl (by decide +kernel) ⟨(Nat.le_of_ble_eq_true rfl), (Nat.le_of_ble_eq_true rfl)⟩) hK hP hD hS hA [0, 1] [] rfl rfl (by decide) 0 rfl rfl rfl rfl hl.1 rfl (Nat.le_of_ble_eq_true rfl) ⟨(Nat.le_of_ble_eq_true rfl), (Nat.le_of_ble_eq_true rfl)⟩ dX0_addBeam_11 (fun u H locs hw hP hD hS => ?_)
  obtain ⟨s_cells_2, rfl⟩ : ∃ z, z = u := ⟨_, rfl⟩
  try dsimp only at hw
  have hP : va_P (dC, dI) vwCl [(o, .inr (0, [.ref o_cells])), (o_cells, .inl (cI, 82, .inl s_cells_2))] H := hP
  have hD : va_D A [(o, .inr (0, [.ref o_cells])), (o_cells, .inl (cI, 82, .inl s_cells_2))] := hD
  refine lv_aload_n hx hb dX0_addBeam_14 rfl (lv_at hl 1 rfl) ?_
  refine lv_iload hx hb dX0_addBeam_15 (lv_at hl 0 rfl) ?_
  refine lv_iconst (v := 1) hx hb dX0_addBeam_17 (by decide) ?_
  refine lv_iload_n hx hb dX0_addBeam_18 rfl (lv_at hl 3 rfl) ?_
  refine gc_Vv (As := [.int r_1, .int 1, .int p1]) (rest := []) (wr := []) ⟨hx, hb, hml, hown, ht⟩ (c_X0_putBeam l dC dI cI cJ o o_cells H.size s_cells_2 r_1 1 p1 _ hw) (cwV 3 ht (g_V k_565 k_566 k_567 k_2 k_568) rfl rfl rfl (by decide +kernel) ⟨(Nat.le_of_ble_eq_true rfl), (Nat.le_of_ble_eq_true rfl)⟩) hK hP hD hS hA [0, 1] [] rfl rfl (by decide) 0 rfl rfl rfl rfl hl.1 rfl (Nat.le_of_ble_eq_true rfl) ⟨(Nat.le_of_ble_eq_true rfl), (Nat.le_of_ble_eq_true rfl)⟩ dX0_addBeam_19 (fun u H locs hw hP hD hS => ?_)
  obtain ⟨s_cells_3, rfl⟩ : ∃ z, z = u := ⟨_, rfl⟩
  try dsimp only at hw
  have hP : va_P (dC, dI) vwCl [(o, .inr (0, [.ref o_cells])), (o_cells, .inl (cI, 82, .inl s_cells_3))] H := hP
  have hD : va_D A [(o, .inr (0, [.ref o_cells])), (o_cells, .inl (cI, 82, .inl s_cells_3))] := hD
  refine lv_aload_n hx hb dX0_addBeam_22 rfl (lv_at hl 1 rfl) ?_
  refine lv_iload hx hb dX0_addBeam_23 (lv_at hl 0 rfl) ?_
  refine lv_iconst (v := 2) hx hb dX0_addBeam_25 (by decide) ?_
  refine lv_iload_n hx hb dX0_addBeam_26 rfl (lv_at hl 4 rfl) ?_
  refine gc_Vv (As := [.int r_1, .int 2, .int p2]) (rest := []) (wr := []) ⟨hx, hb, hml, hown, ht⟩ (c_X0_putBeam l dC dI cI cJ o o_cells H.size s_cells_3 r_1 2 p2 _ hw) (cwV 3 ht (g_V k_565 k_566 k_567 k_2 k_568) rfl rfl rfl (by decide +kernel) ⟨(Nat.le_of_ble_eq_true rfl), (Nat.le_of_ble_eq_true rfl)⟩) hK hP hD hS hA [0, 1] [] rfl rfl (by decide) 0 rfl rfl rfl rfl hl.1 rfl (Nat.le_of_ble_eq_true rfl) ⟨(Nat.le_of_ble_eq_true rfl), (Nat.le_of_ble_eq_true rfl)⟩ dX0_addBeam_27 (fun u H locs hw hP hD hS => ?_)
  obtain ⟨s_cells_4, rfl⟩ : ∃ z, z = u := ⟨_, rfl⟩
  try dsimp only at hw
  have hP : va_P (dC, dI) vwCl [(o, .inr (0, [.ref o_cells])), (o_cells, .inl (cI, 82, .inl s_cells_4))] H := hP
  have hD : va_D A [(o, .inr (0, [.ref o_cells])), (o_cells, .inl (cI, 82, .inl s_cells_4))] := hD
  refine lv_aload_n hx hb dX0_addBeam_30 rfl (lv_at hl 1 rfl) ?_
  refine lv_iload hx hb dX0_addBeam_31 (lv_at hl 0 rfl) ?_
  refine lv_iconst (v := 3) hx hb dX0_addBeam_33 (by decide) ?_
  refine lv_iload hx hb dX0_addBeam_34 (lv_at hl 5 rfl) ?_
  refine gc_Vv (As := [.int r_1, .int 3, .int p3]) (rest := []) (wr := []) ⟨hx, hb, hml, hown, ht⟩ (c_X0_putBeam l dC dI cI cJ o o_cells H.size s_cells_4 r_1 3 p3 _ hw) (cwV 3 ht (g_V k_565 k_566 k_567 k_2 k_568) rfl rfl rfl (by decide +kernel) ⟨(Nat.le_of_ble_eq_true rfl), (Nat.le_of_ble_eq_true rfl)⟩) hK hP hD hS hA [0, 1] [] rfl rfl (by decide) 0 rfl rfl rfl rfl hl.1 rfl (Nat.le_of_ble_eq_true rfl) ⟨(Nat.le_of_ble_eq_true rfl), (Nat.le_of_ble_eq_true rfl)⟩ dX0_addBeam_36 (fun u H locs hw hP hD hS => ?_)
  obtain ⟨s_cells_5, rfl⟩ : ∃ z, z = u := ⟨_, rfl⟩
  try dsimp only at hw
  have hP : va_P (dC, dI) vwCl [(o, .inr (0, [.ref o_cells])), (o_cells, .inl (cI, 82, .inl s_cells_5))] H := hP
  have hD : va_D A [(o, .inr (0, [.ref o_cells])), (o_cells, .inl (cI, 82, .inl s_cells_5))] := hD
  refine lv_aload_n hx hb dX0_addBeam_39 rfl (lv_at hl 1 rfl) ?_
  refine lv_iload hx hb dX0_addBeam_40 (lv_at hl 0 rfl) ?_
  refine lv_iconst (v := 4) hx hb dX0_addBeam_42 (by decide) ?_
  refine lv_iload hx hb dX0_addBeam_43 (lv_at hl 6 rfl) ?_
  refine gc_Vv (As := [.int r_1, .int 4, .int p4]) (rest := []) (wr := []) ⟨hx, hb, hml, hown, ht⟩ (c_X0_putBeam l dC dI cI cJ o o_cells H.size s_cells_5 r_1 4 p4 _ hw) (cwV 3 ht (g_V k_565 k_566 k_567 k_2 k_568) rfl rfl rfl (by decide +kernel) ⟨(Nat.le_of_ble_eq_true rfl), (Nat.le_of_ble_eq_true rfl)⟩) hK hP hD hS hA [0, 1] [] rfl rfl (by decide) 0 rfl rfl rfl rfl hl.1 rfl (Nat.le_of_ble_eq_true rfl) ⟨(Nat.le_of_ble_eq_true rfl), (Nat.le_of_ble_eq_true rfl)⟩ dX0_addBeam_45 (fun u H locs hw hP hD hS => ?_)
  obtain ⟨s_cells_6, rfl⟩ : ∃ z, z = u := ⟨_, rfl⟩
  try dsimp only at hw
  have hP : va_P (dC, dI) vwCl [(o, .inr (0, [.ref o_cells])), (o_cells, .inl (cI, 82, .inl s_cells_6))] H := hP
  have hD : va_D A [(o, .inr (0, [.ref o_cells])), (o_cells, .inl (cI, 82, .inl s_cells_6))] := hD
  refine lv_aload_n hx hb dX0_addBeam_48 rfl (lv_at hl 1 rfl) ?_
  refine lv_bipush (v := 81) hx hb dX0_addBeam_49 (by decide) ?_
  refine lv_iload hx hb dX0_addBeam_51 (lv_at hl 0 rfl) ?_
  refine lv_iconst (v := 1) hx hb dX0_addBeam_53 (by decide) ?_
  refine lv_iadd hx hb dX0_addBeam_54 ?_
  refine gc_Vv (As := [.int 81, .int (r_1 + 1)]) (rest := []) (wr := []) ⟨hx, hb, hml, hown, ht⟩ (c_X0_putCell l dC dI cI cJ o o_cells H.size s_cells_6 81 (r_1 + 1) _ hw) (cwV 2 ht (g_V k_318 k_320 k_s4 k_2 k_321) rfl rfl rfl (by decide +kernel) ⟨(Nat.le_of_ble_eq_true rfl), (Nat.le_of_ble_eq_true rfl)⟩) hK hP hD hS hA [0, 1] [] rfl rfl (by decide) 0 rfl rfl rfl rfl hl.1 rfl (Nat.le_of_ble_eq_true rfl) ⟨(Nat.le_of_ble_eq_true rfl), (Nat.le_of_ble_eq_true rfl)⟩ dX0_addBeam_55 (fun u H locs hw hP hD hS => ?_)
  obtain ⟨s_cells_7, rfl⟩ : ∃ z, z = u := ⟨_, rfl⟩
  try dsimp only at hw
  have hP : va_P (dC, dI) vwCl [(o, .inr (0, [.ref o_cells])), (o_cells, .inl (cI, 82, .inl s_cells_7))] H := hP
  have hD : va_D A [(o, .inr (0, [.ref o_cells])), (o_cells, .inl (cI, 82, .inl s_cells_7))] := hD
  refine lv_iload hx hb dX0_addBeam_58 (lv_at hl 0 rfl) ?_
  rw [← hQQ]
  exact g_reti (v := r_1) (u := s_cells_7) hx hb hr rfl hlocks hw hP hK hD hS dX0_addBeam_60
abbrev rm_X0_dropBeam : Room := { frames := 2, cells := 0, slots := 0, locals := 49 }
set_option maxHeartbeats 4000000 in
set_option maxRecDepth 100000 in
theorem c_X0_dropBeam (l : Launch) (dC : Nat → ClassId) (dI : Nat → Nat → Nat) (cI cJ : ClassId) (o o_cells : Nat) (sz : Nat) (s_cells : Nat → Int32) (p0 : Int32) (Q : (Nat → Int32) → Prop) (hw : P_X0_dropBeam p0 s_cells Q) : Met l yX0_dropBeam (Cond.code yX0_dropBeam cX0_dropBeam 2 none :: TBL) rm_X0_dropBeam (gPc (dC, dI) vwCl (gTy cI cJ) [.ref o, .int p0] [(o, .inr (0, [.ref o_cells])), (o_cells, .inl (cI, 82, .inl s_cells))] sz) (va_Qv (fun (u : (Nat → Int32)) => Q u) (gB (dC, dI) vwCl (gTy cI cJ) (va_A [(o, .inr (0, [.ref o_cells])), (o_cells, .inl (cI, 82, .inl s_cells))] sz) (fun (u : (Nat → Int32)) => [(o, .inr (0, [.ref o_cells])), (o_cells, .inl (cI, 82, .inl u))])) (va_A [(o, .inr (0, [.ref o_cells])), (o_cells, .inl (cI, 82, .inl s_cells))] sz)) 0 0 (va_A [(o, .inr (0, [.ref o_cells])), (o_cells, .inl (cI, 82, .inl s_cells))] sz) := by
  refine Met.ofW (cc := cX0_dropBeam) (maxL := 2) (ret := none) (by decide) rfl ?_
  intro p e s m args below meth c s₁ B hml hv
  obtain ⟨rfl, hsz, hP, hK, hD0⟩ := hv
  have hx := B.exec
  have hb := B.bytes
  have hr := B.returns
  have hts := atoms_spec (ws := Cond.code yX0_dropBeam cX0_dropBeam 2 none :: TBL) B.pre
  have ht : ∀ w ∈ TBL, w.before ([.ref o, .int p0] : List Value).toArray s = true := fun w h => hts w (List.mem_cons_of_mem _ h)
  clear hts
  have hown : s.vm.findClass RX0 = some m.cls := findClass_of_methodNamed B.named
  have hlocks := B.notSynchronized
  clear B
  subst hsz
  have hD := hD0.self (sz := s.heap.size)
  clear hD0
  generalize hAe : va_A [(o, .inr (0, [.ref o_cells])), (o_cells, .inl (cI, 82, .inl s_cells))] s.heap.size = A at hD ⊢
  have hA : ∀ q : Nat, s.heap.size ≤ q → A q := fun q h => by rw [← hAe]; exact Or.inr h
  clear hAe
  have hS : va_S A s.heap s.heap [] := va_S.rf
  have hP : va_P (dC, dI) vwCl [(o, .inr (0, [.ref o_cells])), (o_cells, .inl (cI, 82, .inl s_cells))] s.heap := hP
  have hl := lv_entry ([.ref o, .int p0]) (n := 2) (Nat.le_of_ble_eq_true rfl)
  rw [lg_entry_eq]
  generalize (lg_sl ([.ref o, .int p0]) ++ List.replicate (2 - (lg_sl ([.ref o, .int p0])).length) Slot.unset).toArray = ls at hl ⊢
  have hl : lv_has ls 2 [(0, .ref o), (1, .int p0)] := hl
  generalize hQQ : MQ below _ _ _ 0 0 A = QQ
  show W p l e rm_X0_dropBeam s m ([.ref o, .int p0] : List Value).toArray below meth c s.heap [] 0 0 QQ (F0 m 0 ls [])
  obtain ⟨H, hHH⟩ : ∃ H, H = s.heap := ⟨_, rfl⟩
  rw [← hHH] at hP ⊢
  have hS : va_S A s.heap H [] := by rw [hHH]; exact hS
  clear hHH
  generalize ([] : List Loc) = locs at hS ⊢
  unfold P_X0_dropBeam at hw
  refine lv_aload_n hx hb dX0_dropBeam_0 rfl (lv_at hl 0 rfl) ?_
  refine lv_bipush (v := 48) hx hb dX0_dropBeam_1 (by decide) ?_
  refine lv_iload_n hx hb dX0_dropBeam_3 rfl (lv_at hl 1 rfl) ?_
  refine lv_iconst (v := 5) hx hb dX0_dropBeam_4 (by decide) ?_
  refine lv_imul hx hb dX0_dropBeam_5 ?_
  refine lv_iadd hx hb dX0_dropBeam_6 ?_
  refine lv_iconst (v := 5) hx hb dX0_dropBeam_7 (by decide) ?_
  refine lv_bipush (v := 78) hx hb dX0_dropBeam_8 (by decide) ?_
  refine gc_Vv (As := [.int (48 + (p0 * 5)), .int 5, .int 78]) (rest := []) (wr := []) ⟨hx, hb, hml, hown, ht⟩ (c_X0_closeGap l dC dI cI cJ o o_cells H.size s_cells (48 + (p0 * 5)) 5 78 _ hw) (cwV 3 ht (g_V k_588 k_590 k_s19 k_2 k_591) rfl rfl rfl (by decide +kernel) ⟨(Nat.le_of_ble_eq_true rfl), (Nat.le_of_ble_eq_true rfl)⟩) hK hP hD hS hA [0, 1] [] rfl rfl (by decide) 0 rfl rfl rfl rfl hl.1 rfl (Nat.le_of_ble_eq_true rfl) ⟨(Nat.le_of_ble_eq_true rfl), (Nat.le_of_ble_eq_true rfl)⟩ dX0_dropBeam_10 (fun u H locs hw hP hD hS => ?_)
  obtain ⟨s_cells_1, rfl⟩ : ∃ z, z = u := ⟨_, rfl⟩
  try dsimp only at hw
  have hP : va_P (dC, dI) vwCl [(o, .inr (0, [.ref o_cells])), (o_cells, .inl (cI, 82, .inl s_cells_1))] H := hP
  have hD : va_D A [(o, .inr (0, [.ref o_cells])), (o_cells, .inl (cI, 82, .inl s_cells_1))] := hD
  refine lv_aload_n hx hb dX0_dropBeam_13 rfl (lv_at hl 0 rfl) ?_
  refine lv_bipush (v := 81) hx hb dX0_dropBeam_14 (by decide) ?_
  refine lv_aload_n hx hb dX0_dropBeam_16 rfl (lv_at hl 0 rfl) ?_
  refine gc_Vi (As := []) (rest := [.int 81, .ref o]) (wr := []) ⟨hx, hb, hml, hown, ht⟩ (c_X0_beams l dC dI cI cJ o o_cells H.size s_cells_1 _ hw) (cwV 0 ht (g_V k_513 k_193 k_194 k_2 k_195) rfl rfl rfl (by decide +kernel) ⟨(Nat.le_of_ble_eq_true rfl), (Nat.le_of_ble_eq_true rfl)⟩) hK hP hD hS hA [0, 1] [] rfl rfl (by decide) 0 rfl rfl rfl rfl hl.1 rfl (Nat.le_of_ble_eq_true rfl) ⟨(Nat.le_of_ble_eq_true rfl), (Nat.le_of_ble_eq_true rfl)⟩ dX0_dropBeam_17 (fun r_2 u H locs hw hP hD hS => ?_)
  try dsimp only at hw
  have hP : va_P (dC, dI) vwCl [(o, .inr (0, [.ref o_cells])), (o_cells, .inl (cI, 82, .inl s_cells_1))] H := hP
  have hD : va_D A [(o, .inr (0, [.ref o_cells])), (o_cells, .inl (cI, 82, .inl s_cells_1))] := hD
  refine lv_iconst (v := 1) hx hb dX0_dropBeam_20 (by decide) ?_
  refine lv_isub hx hb dX0_dropBeam_21 ?_
  refine gc_Vv (As := [.int 81, .int (r_2 - 1)]) (rest := []) (wr := []) ⟨hx, hb, hml, hown, ht⟩ (c_X0_putCell l dC dI cI cJ o o_cells H.size s_cells_1 81 (r_2 - 1) _ hw) (cwV 2 ht (g_V k_318 k_320 k_s4 k_2 k_321) rfl rfl rfl (by decide +kernel) ⟨(Nat.le_of_ble_eq_true rfl), (Nat.le_of_ble_eq_true rfl)⟩) hK hP hD hS hA [0, 1] [] rfl rfl (by decide) 0 rfl rfl rfl rfl hl.1 rfl (Nat.le_of_ble_eq_true rfl) ⟨(Nat.le_of_ble_eq_true rfl), (Nat.le_of_ble_eq_true rfl)⟩ dX0_dropBeam_22 (fun u H locs hw hP hD hS => ?_)
  obtain ⟨s_cells_3, rfl⟩ : ∃ z, z = u := ⟨_, rfl⟩
  try dsimp only at hw
  have hP : va_P (dC, dI) vwCl [(o, .inr (0, [.ref o_cells])), (o_cells, .inl (cI, 82, .inl s_cells_3))] H := hP
  have hD : va_D A [(o, .inr (0, [.ref o_cells])), (o_cells, .inl (cI, 82, .inl s_cells_3))] := hD
  rw [← hQQ]
  exact g_retv (u := s_cells_3) hx hb hr hlocks hw hP hK hD hS dX0_dropBeam_25
abbrev rm_X0_setting : Room := { frames := 0, cells := 0, slots := 0, locals := 0 }
set_option maxHeartbeats 4000000 in
set_option maxRecDepth 100000 in
theorem c_X0_setting (l : Launch) (dC : Nat → ClassId) (dI : Nat → Nat → Nat) (cI cJ : ClassId) (o o_cells : Nat) (sz : Nat) (s_cells : Nat → Int32) (p0 : Int32) (Q : Int32 → Prop) (hw : P_X0_setting p0 s_cells Q) : Met l yX0_setting (Cond.code yX0_setting cX0_setting 3 (some .int) :: TBL) rm_X0_setting (gPc (dC, dI) vwCl (gTy cI cJ) [.ref o, .int p0] [(o, .inr (0, [.ref o_cells])), (o_cells, .inl (cI, 82, .inl s_cells))] sz) (va_Qi (fun (r : Int32) (u : Unit) => Q r ) (gB (dC, dI) vwCl (gTy cI cJ) (va_A [(o, .inr (0, [.ref o_cells])), (o_cells, .inl (cI, 82, .inl s_cells))] sz) (fun (u : Unit) => [(o, .inr (0, [.ref o_cells])), (o_cells, .inl (cI, 82, .inl s_cells))])) (va_A [(o, .inr (0, [.ref o_cells])), (o_cells, .inl (cI, 82, .inl s_cells))] sz)) 0 0 (va_A [(o, .inr (0, [.ref o_cells])), (o_cells, .inl (cI, 82, .inl s_cells))] sz) := by
  refine Met.ofW (cc := cX0_setting) (maxL := 3) (ret := (some .int)) (by decide) rfl ?_
  intro p e s m args below meth c s₁ B hml hv
  obtain ⟨rfl, hsz, hP, hK, hD0⟩ := hv
  have hx := B.exec
  have hb := B.bytes
  have hr := B.returns
  have hts := atoms_spec (ws := Cond.code yX0_setting cX0_setting 3 (some .int) :: TBL) B.pre
  have ht : ∀ w ∈ TBL, w.before ([.ref o, .int p0] : List Value).toArray s = true := fun w h => hts w (List.mem_cons_of_mem _ h)
  clear hts
  have hown : s.vm.findClass RX0 = some m.cls := findClass_of_methodNamed B.named
  have hlocks := B.notSynchronized
  clear B
  subst hsz
  have hD := hD0.self (sz := s.heap.size)
  clear hD0
  generalize hAe : va_A [(o, .inr (0, [.ref o_cells])), (o_cells, .inl (cI, 82, .inl s_cells))] s.heap.size = A at hD ⊢
  have hA : ∀ q : Nat, s.heap.size ≤ q → A q := fun q h => by rw [← hAe]; exact Or.inr h
  clear hAe
  have hS : va_S A s.heap s.heap [] := va_S.rf
  have hP : va_P (dC, dI) vwCl [(o, .inr (0, [.ref o_cells])), (o_cells, .inl (cI, 82, .inl s_cells))] s.heap := hP
  have hl := lv_entry ([.ref o, .int p0]) (n := 3) (Nat.le_of_ble_eq_true rfl)
  rw [lg_entry_eq]
  generalize (lg_sl ([.ref o, .int p0]) ++ List.replicate (3 - (lg_sl ([.ref o, .int p0])).length) Slot.unset).toArray = ls at hl ⊢
  have hl : lv_has ls 3 [(0, .ref o), (1, .int p0)] := hl
  generalize hQQ : MQ below _ _ _ 0 0 A = QQ
  show W p l e rm_X0_setting s m ([.ref o, .int p0] : List Value).toArray below meth c s.heap [] 0 0 QQ (F0 m 0 ls [])
  obtain ⟨H, hHH⟩ : ∃ H, H = s.heap := ⟨_, rfl⟩
  rw [← hHH] at hP ⊢
  have hS : va_S A s.heap H [] := by rw [hHH]; exact hS
  clear hHH
  generalize ([] : List Loc) = locs at hS ⊢
  unfold P_X0_setting at hw
  refine lv_bipush (v := 78) hx hb dX0_setting_0 (by decide) ?_
  refine lv_iload_n hx hb dX0_setting_2 rfl (lv_at hl 1 rfl) ?_
  refine lv_iadd hx hb dX0_setting_3 ?_
  refine lv_istore_n (lv' := [(2, .int (78 + p0)), (0, .ref o), (1, .int p0)]) hx hb dX0_setting_4 rfl hl (by decide) rfl (fun ls hl => ?_)
  refine lv_iload_n hx hb dX0_setting_5 rfl (lv_at hl 0 rfl) ?_
  refine lv_if_lt (tgt := 27) hx hb dX0_setting_6 (by decide) (fun hc => ?_) (fun hc => ?_)
  · have hw := hw.1 hc
    refine lv_iconst (v := (-1)) hx hb dX0_setting_27 (by decide) ?_
    rw [← hQQ]
    exact g_reti (v := (-1)) (u := ()) hx hb hr rfl hlocks hw hP hK hD hS dX0_setting_28
  · have hw := hw.2 hc
    refine lv_iload_n hx hb dX0_setting_9 rfl (lv_at hl 0 rfl) ?_
    refine lv_aload_n hx hb dX0_setting_10 rfl (lv_at hl 1 rfl) ?_
    refine va_get (D := (dC, dI)) (ci := 0) (v := .ref o_cells) (C := RX0) (T := TX0) (N := 1) hx hb ht i_X0 hown hK hP 0 rfl rfl 0 (by decide) (ht _ k_28) (fun _ h9 => h9) rfl dX0_setting_11 ?_
    refine va_alen (v := 82) hx hb hK hP 1 0 rfl rfl rfl dX0_setting_14 ?_
    refine lv_icmp_ge (tgt := 27) hx hb dX0_setting_15 (by decide) (fun hc => ?_) (fun hc => ?_)
    · have hw := hw.1 hc
      refine lv_iconst (v := (-1)) hx hb dX0_setting_27 (by decide) ?_
      rw [← hQQ]
      exact g_reti (v := (-1)) (u := ()) hx hb hr rfl hlocks hw hP hK hD hS dX0_setting_28
    · have hw := hw.2 hc
      refine lv_aload_n hx hb dX0_setting_18 rfl (lv_at hl 1 rfl) ?_
      refine va_get (D := (dC, dI)) (ci := 0) (v := .ref o_cells) (C := RX0) (T := TX0) (N := 1) hx hb ht i_X0 hown hK hP 0 rfl rfl 0 (by decide) (ht _ k_28) (fun _ h9 => h9) rfl dX0_setting_19 ?_
      refine lv_iload_n hx hb dX0_setting_22 rfl (lv_at hl 0 rfl) ?_
      obtain ⟨hi_1, hw⟩ := hw
      refine gv_iald hx hb hK hP 1 0 rfl rfl rfl hi_1 dX0_setting_23 ?_
      refine lv_goto (tgt := 28) hx hb dX0_setting_24 (by decide) ?_
      rw [← hQQ]
      exact g_reti (v := (s_cells ((78 + p0).toNatClampNeg))) (u := ()) hx hb hr rfl hlocks hw hP hK hD hS dX0_setting_28
abbrev rm_X0_putSetting : Room := { frames := 1, cells := 0, slots := 0, locals := 22 }
set_option maxHeartbeats 4000000 in
set_option maxRecDepth 100000 in
theorem c_X0_putSetting (l : Launch) (dC : Nat → ClassId) (dI : Nat → Nat → Nat) (cI cJ : ClassId) (o o_cells : Nat) (sz : Nat) (s_cells : Nat → Int32) (p0 : Int32) (p1 : Int32) (Q : (Nat → Int32) → Prop) (hw : P_X0_putSetting p0 p1 s_cells Q) : Met l yX0_putSetting (Cond.code yX0_putSetting cX0_putSetting 3 none :: TBL) rm_X0_putSetting (gPc (dC, dI) vwCl (gTy cI cJ) [.ref o, .int p0, .int p1] [(o, .inr (0, [.ref o_cells])), (o_cells, .inl (cI, 82, .inl s_cells))] sz) (va_Qv (fun (u : (Nat → Int32)) => Q u) (gB (dC, dI) vwCl (gTy cI cJ) (va_A [(o, .inr (0, [.ref o_cells])), (o_cells, .inl (cI, 82, .inl s_cells))] sz) (fun (u : (Nat → Int32)) => [(o, .inr (0, [.ref o_cells])), (o_cells, .inl (cI, 82, .inl u))])) (va_A [(o, .inr (0, [.ref o_cells])), (o_cells, .inl (cI, 82, .inl s_cells))] sz)) 0 0 (va_A [(o, .inr (0, [.ref o_cells])), (o_cells, .inl (cI, 82, .inl s_cells))] sz) := by
  refine Met.ofW (cc := cX0_putSetting) (maxL := 3) (ret := none) (by decide) rfl ?_
  intro p e s m args below meth c s₁ B hml hv
  obtain ⟨rfl, hsz, hP, hK, hD0⟩ := hv
  have hx := B.exec
  have hb := B.bytes
  have hr := B.returns
  have hts := atoms_spec (ws := Cond.code yX0_putSetting cX0_putSetting 3 none :: TBL) B.pre
  have ht : ∀ w ∈ TBL, w.before ([.ref o, .int p0, .int p1] : List Value).toArray s = true := fun w h => hts w (List.mem_cons_of_mem _ h)
  clear hts
  have hown : s.vm.findClass RX0 = some m.cls := findClass_of_methodNamed B.named
  have hlocks := B.notSynchronized
  clear B
  subst hsz
  have hD := hD0.self (sz := s.heap.size)
  clear hD0
  generalize hAe : va_A [(o, .inr (0, [.ref o_cells])), (o_cells, .inl (cI, 82, .inl s_cells))] s.heap.size = A at hD ⊢
  have hA : ∀ q : Nat, s.heap.size ≤ q → A q := fun q h => by rw [← hAe]; exact Or.inr h
  clear hAe
  have hS : va_S A s.heap s.heap [] := va_S.rf
  have hP : va_P (dC, dI) vwCl [(o, .inr (0, [.ref o_cells])), (o_cells, .inl (cI, 82, .inl s_cells))] s.heap := hP
  have hl := lv_entry ([.ref o, .int p0, .int p1]) (n := 3) (Nat.le_of_ble_eq_true rfl)
  rw [lg_entry_eq]
  generalize (lg_sl ([.ref o, .int p0, .int p1]) ++ List.replicate (3 - (lg_sl ([.ref o, .int p0, .int p1])).length) Slot.unset).toArray = ls at hl ⊢
  have hl : lv_has ls 3 [(0, .ref o), (1, .int p0), (2, .int p1)] := hl
  generalize hQQ : MQ below _ _ _ 0 0 A = QQ
  show W p l e rm_X0_putSetting s m ([.ref o, .int p0, .int p1] : List Value).toArray below meth c s.heap [] 0 0 QQ (F0 m 0 ls [])
  obtain ⟨H, hHH⟩ : ∃ H, H = s.heap := ⟨_, rfl⟩
  rw [← hHH] at hP ⊢
  have hS : va_S A s.heap H [] := by rw [hHH]; exact hS
  clear hHH
  generalize ([] : List Loc) = locs at hS ⊢
  unfold P_X0_putSetting at hw
  refine lv_aload_n hx hb dX0_putSetting_0 rfl (lv_at hl 0 rfl) ?_
  refine lv_bipush (v := 78) hx hb dX0_putSetting_1 (by decide) ?_
  refine lv_iload_n hx hb dX0_putSetting_3 rfl (lv_at hl 1 rfl) ?_
  refine lv_iadd hx hb dX0_putSetting_4 ?_
  refine lv_iload_n hx hb dX0_putSetting_5 rfl (lv_at hl 2 rfl) ?_
  refine gc_Vv (As := [.int (78 + p0), .int p1]) (rest := []) (wr := []) ⟨hx, hb, hml, hown, ht⟩ (c_X0_putCell l dC dI cI cJ o o_cells H.size s_cells (78 + p0) p1 _ hw) (cwV 2 ht (g_V k_318 k_320 k_s4 k_2 k_321) rfl rfl rfl (by decide +kernel) ⟨(Nat.le_of_ble_eq_true rfl), (Nat.le_of_ble_eq_true rfl)⟩) hK hP hD hS hA [0, 1] [] rfl rfl (by decide) 0 rfl rfl rfl rfl hl.1 rfl (Nat.le_of_ble_eq_true rfl) ⟨(Nat.le_of_ble_eq_true rfl), (Nat.le_of_ble_eq_true rfl)⟩ dX0_putSetting_6 (fun u H locs hw hP hD hS => ?_)
  obtain ⟨s_cells_1, rfl⟩ : ∃ z, z = u := ⟨_, rfl⟩
  try dsimp only at hw
  have hP : va_P (dC, dI) vwCl [(o, .inr (0, [.ref o_cells])), (o_cells, .inl (cI, 82, .inl s_cells_1))] H := hP
  have hD : va_D A [(o, .inr (0, [.ref o_cells])), (o_cells, .inl (cI, 82, .inl s_cells_1))] := hD
  rw [← hQQ]
  exact g_retv (u := s_cells_1) hx hb hr hlocks hw hP hK hD hS dX0_putSetting_9
abbrev rm_X0_letters : Room := { frames := 1, cells := 0, slots := 0, locals := 23 }
set_option maxHeartbeats 4000000 in
set_option maxRecDepth 100000 in
theorem c_X0_letters (l : Launch) (dC : Nat → ClassId) (dI : Nat → Nat → Nat) (cI cJ : ClassId) (o o_cells : Nat) (sz : Nat) (s_cells : Nat → Int32)  (Q : Int32 → Prop) (hw : P_X0_letters s_cells Q) : Met l yX0_letters (Cond.code yX0_letters cX0_letters 3 (some .int) :: TBL) rm_X0_letters (gPc (dC, dI) vwCl (gTy cI cJ) [.ref o] [(o, .inr (0, [.ref o_cells])), (o_cells, .inl (cI, 82, .inl s_cells))] sz) (va_Qi (fun (r : Int32) (u : Unit) => Q r ) (gB (dC, dI) vwCl (gTy cI cJ) (va_A [(o, .inr (0, [.ref o_cells])), (o_cells, .inl (cI, 82, .inl s_cells))] sz) (fun (u : Unit) => [(o, .inr (0, [.ref o_cells])), (o_cells, .inl (cI, 82, .inl s_cells))])) (va_A [(o, .inr (0, [.ref o_cells])), (o_cells, .inl (cI, 82, .inl s_cells))] sz)) 0 0 (va_A [(o, .inr (0, [.ref o_cells])), (o_cells, .inl (cI, 82, .inl s_cells))] sz) := by
  refine Met.ofW (cc := cX0_letters) (maxL := 3) (ret := (some .int)) (by decide) rfl ?_
  intro p e s m args below meth c s₁ B hml hv
  obtain ⟨rfl, hsz, hP, hK, hD0⟩ := hv
  have hx := B.exec
  have hb := B.bytes
  have hr := B.returns
  have hts := atoms_spec (ws := Cond.code yX0_letters cX0_letters 3 (some .int) :: TBL) B.pre
  have ht : ∀ w ∈ TBL, w.before ([.ref o] : List Value).toArray s = true := fun w h => hts w (List.mem_cons_of_mem _ h)
  clear hts
  have hown : s.vm.findClass RX0 = some m.cls := findClass_of_methodNamed B.named
  have hlocks := B.notSynchronized
  clear B
  subst hsz
  have hD := hD0.self (sz := s.heap.size)
  clear hD0
  generalize hAe : va_A [(o, .inr (0, [.ref o_cells])), (o_cells, .inl (cI, 82, .inl s_cells))] s.heap.size = A at hD ⊢
  have hA : ∀ q : Nat, s.heap.size ≤ q → A q := fun q h => by rw [← hAe]; exact Or.inr h
  clear hAe
  have hS : va_S A s.heap s.heap [] := va_S.rf
  have hP : va_P (dC, dI) vwCl [(o, .inr (0, [.ref o_cells])), (o_cells, .inl (cI, 82, .inl s_cells))] s.heap := hP
  have hl := lv_entry ([.ref o]) (n := 3) (Nat.le_of_ble_eq_true rfl)
  rw [lg_entry_eq]
  generalize (lg_sl ([.ref o]) ++ List.replicate (3 - (lg_sl ([.ref o])).length) Slot.unset).toArray = ls at hl ⊢
  have hl : lv_has ls 3 [(0, .ref o)] := hl
  generalize hQQ : MQ below _ _ _ 0 0 A = QQ
  show W p l e rm_X0_letters s m ([.ref o] : List Value).toArray below meth c s.heap [] 0 0 QQ (F0 m 0 ls [])
  have L4 : ∀ (n : Nat) (x1 : Int32) (x2 : Int32), P_X0_letters_L4 s_cells Q n x1 x2 → ∀ (H : Heap) (locs : List Loc) (ls : Array Slot), va_P (dC, dI) vwCl [(o, .inr (0, [.ref o_cells])), (o_cells, .inl (cI, 82, .inl s_cells))] H → va_D A [(o, .inr (0, [.ref o_cells])), (o_cells, .inl (cI, 82, .inl s_cells))] → va_S A s.heap H locs → lv_has ls 3 [(0, .ref o), (1, .int x1), (2, .int x2)] → W p l e rm_X0_letters s m ([.ref o] : List Value).toArray below meth c H locs 0 0 QQ (F0 m 4 ls []) := by
    intro n
    induction n with
    | zero => intro x1 x2 hw; rw [P_X0_letters_L4_z] at hw; exact hw.elim
    | succ n ih =>
      intro x1 x2 hw
      rw [P_X0_letters_L4_s] at hw
      generalize hrec : P_X0_letters_L4 s_cells Q n = rec4 at ih hw
      intro H locs ls hP hD hS hl
      unfold B_X0_letters_L4 at hw
      refine lv_iload_n hx hb dX0_letters_4 rfl (lv_at hl 2 rfl) ?_
      refine lv_aload_n hx hb dX0_letters_5 rfl (lv_at hl 0 rfl) ?_
      refine gc_Vi (As := []) (rest := [.int x2]) (wr := []) ⟨hx, hb, hml, hown, ht⟩ (c_X0_words l dC dI cI cJ o o_cells H.size s_cells _ hw) (cwV 0 ht (g_V k_200 k_189 k_190 k_2 k_191) rfl rfl rfl (by decide +kernel) ⟨(Nat.le_of_ble_eq_true rfl), (Nat.le_of_ble_eq_true rfl)⟩) hK hP hD hS hA [0, 1] [] rfl rfl (by decide) 0 rfl rfl rfl rfl hl.1 rfl (Nat.le_of_ble_eq_true rfl) ⟨(Nat.le_of_ble_eq_true rfl), (Nat.le_of_ble_eq_true rfl)⟩ dX0_letters_6 (fun r_1 u H locs hw hP hD hS => ?_)
      try dsimp only at hw
      have hP : va_P (dC, dI) vwCl [(o, .inr (0, [.ref o_cells])), (o_cells, .inl (cI, 82, .inl s_cells))] H := hP
      have hD : va_D A [(o, .inr (0, [.ref o_cells])), (o_cells, .inl (cI, 82, .inl s_cells))] := hD
      refine lv_icmp_ge (tgt := 27) hx hb dX0_letters_9 (by decide) (fun hc => ?_) (fun hc => ?_)
      · have hw := hw.1 hc
        refine lv_iload_n hx hb dX0_letters_27 rfl (lv_at hl 1 rfl) ?_
        rw [← hQQ]
        exact g_reti (v := x1) (u := ()) hx hb hr rfl hlocks hw hP hK hD hS dX0_letters_28
      · have hw := hw.2 hc
        refine lv_iload_n hx hb dX0_letters_12 rfl (lv_at hl 1 rfl) ?_
        refine lv_aload_n hx hb dX0_letters_13 rfl (lv_at hl 0 rfl) ?_
        refine lv_iload_n hx hb dX0_letters_14 rfl (lv_at hl 2 rfl) ?_
        refine lv_iconst (v := 0) hx hb dX0_letters_15 (by decide) ?_
        refine gc_Vi (As := [.int x2, .int 0]) (rest := [.int x1]) (wr := []) ⟨hx, hb, hml, hown, ht⟩ (c_X0_ofWord l dC dI cI cJ o o_cells H.size s_cells x2 0 _ hw) (cwV 2 ht (g_V k_201 k_202 k_203 k_2 k_204) rfl rfl rfl (by decide +kernel) ⟨(Nat.le_of_ble_eq_true rfl), (Nat.le_of_ble_eq_true rfl)⟩) hK hP hD hS hA [0, 1] [] rfl rfl (by decide) 0 rfl rfl rfl rfl hl.1 rfl (Nat.le_of_ble_eq_true rfl) ⟨(Nat.le_of_ble_eq_true rfl), (Nat.le_of_ble_eq_true rfl)⟩ dX0_letters_16 (fun r_2 u H locs hw hP hD hS => ?_)
        try dsimp only at hw
        have hP : va_P (dC, dI) vwCl [(o, .inr (0, [.ref o_cells])), (o_cells, .inl (cI, 82, .inl s_cells))] H := hP
        have hD : va_D A [(o, .inr (0, [.ref o_cells])), (o_cells, .inl (cI, 82, .inl s_cells))] := hD
        refine lv_iadd hx hb dX0_letters_19 ?_
        refine lv_istore_n (lv' := [(1, .int (x1 + r_2)), (0, .ref o), (2, .int x2)]) hx hb dX0_letters_20 rfl hl (by decide) rfl (fun ls hl => ?_)
        refine lv_iinc (v := (x2 + 1)) (lv' := [(2, .int (x2 + 1)), (1, .int (x1 + r_2)), (0, .ref o)]) hx hb dX0_letters_21 hl (k := 2) rfl rfl (by decide) rfl (fun ls hl => ?_)
        refine lv_goto (tgt := 4) hx hb dX0_letters_24 (by decide) ?_
        exact ih (x1 + r_2) (x2 + 1) hw H locs ls hP hD hS (lv_sub (l' := [(0, .ref o), (1, .int (x1 + r_2)), (2, .int (x2 + 1))]) hl [2, 1, 0] rfl)
  obtain ⟨H, hHH⟩ : ∃ H, H = s.heap := ⟨_, rfl⟩
  rw [← hHH] at hP ⊢
  have hS : va_S A s.heap H [] := by rw [hHH]; exact hS
  clear hHH
  generalize ([] : List Loc) = locs at hS ⊢
  unfold P_X0_letters at hw
  refine lv_iconst (v := 0) hx hb dX0_letters_0 (by decide) ?_
  refine lv_istore_n (lv' := [(1, .int 0), (0, .ref o)]) hx hb dX0_letters_1 rfl hl (by decide) rfl (fun ls hl => ?_)
  refine lv_iconst (v := 0) hx hb dX0_letters_2 (by decide) ?_
  refine lv_istore_n (lv' := [(2, .int 0), (1, .int 0), (0, .ref o)]) hx hb dX0_letters_3 rfl hl (by decide) rfl (fun ls hl => ?_)
  obtain ⟨n, hw⟩ := hw
  exact L4  n 0 0 hw H locs ls hP hD hS (lv_sub (l' := [(0, .ref o), (1, .int 0), (2, .int 0)]) hl [2, 1, 0] rfl)
abbrev rm_X0_columnBits : Room := { frames := 1, cells := 0, slots := 0, locals := 23 }
set_option maxHeartbeats 4000000 in
set_option maxRecDepth 100000 in
theorem c_X0_columnBits (l : Launch) (dC : Nat → ClassId) (dI : Nat → Nat → Nat) (cI cJ : ClassId) (sz : Nat)  (p0 : Int32) (p1 : Int32) (Q : Int64 → Prop) (hw : P_X0_columnBits p0 p1 Q) : Met l yX0_columnBits (Cond.code yX0_columnBits cX0_columnBits 4 (some .long) :: TBL) rm_X0_columnBits (gPc (dC, dI) vwCl (gTy cI cJ) [.int p0, .int p1] [] sz) (va_Ql (fun (r : Int64) (u : Unit) => Q r ) (gB (dC, dI) vwCl (gTy cI cJ) (va_A [] sz) (fun (u : Unit) => [])) (va_A [] sz)) 0 0 (va_A [] sz) := by
  refine Met.ofW (cc := cX0_columnBits) (maxL := 4) (ret := (some .long)) (by decide) rfl ?_
  intro p e s m args below meth c s₁ B hml hv
  obtain ⟨rfl, hsz, hP, hK, hD0⟩ := hv
  have hx := B.exec
  have hb := B.bytes
  have hr := B.returns
  have hts := atoms_spec (ws := Cond.code yX0_columnBits cX0_columnBits 4 (some .long) :: TBL) B.pre
  have ht : ∀ w ∈ TBL, w.before ([.int p0, .int p1] : List Value).toArray s = true := fun w h => hts w (List.mem_cons_of_mem _ h)
  clear hts
  have hown : s.vm.findClass RX0 = some m.cls := findClass_of_methodNamed B.named
  have hlocks := B.notSynchronized
  clear B
  subst hsz
  have hD := hD0.self (sz := s.heap.size)
  clear hD0
  generalize hAe : va_A [] s.heap.size = A at hD ⊢
  have hA : ∀ q : Nat, s.heap.size ≤ q → A q := fun q h => by rw [← hAe]; exact Or.inr h
  clear hAe
  have hS : va_S A s.heap s.heap [] := va_S.rf
  have hP : va_P (dC, dI) vwCl [] s.heap := hP
  have hl := lv_entry ([.int p0, .int p1]) (n := 4) (Nat.le_of_ble_eq_true rfl)
  rw [lg_entry_eq]
  generalize (lg_sl ([.int p0, .int p1]) ++ List.replicate (4 - (lg_sl ([.int p0, .int p1])).length) Slot.unset).toArray = ls at hl ⊢
  have hl : lv_has ls 4 [(0, .int p0), (1, .int p1)] := hl
  generalize hQQ : MQ below _ _ _ 0 0 A = QQ
  show W p l e rm_X0_columnBits s m ([.int p0, .int p1] : List Value).toArray below meth c s.heap [] 0 0 QQ (F0 m 0 ls [])
  obtain ⟨H, hHH⟩ : ∃ H, H = s.heap := ⟨_, rfl⟩
  rw [← hHH] at hP ⊢
  have hS : va_S A s.heap H [] := by rw [hHH]; exact hS
  clear hHH
  generalize ([] : List Loc) = locs at hS ⊢
  unfold P_X0_columnBits at hw
  refine lv_iload_n hx hb dX0_columnBits_0 rfl (lv_at hl 0 rfl) ?_
  refine lv_iconst (v := 0) hx hb dX0_columnBits_1 (by decide) ?_
  refine va_mmax hx hb (hml.trans hl.1.symm) hown (ht _ k_345) (ht _ k_232) (ht _ k_9) (ht _ k_233) (Nat.le_of_ble_eq_true rfl) (Nat.le_of_ble_eq_true rfl) (Nat.zero_le _) (Nat.zero_le _) dX0_columnBits_2 ?_
  refine lv_istore_n (lv' := [(2, .int (if p0 < 0 then 0 else p0)), (0, .int p0), (1, .int p1)]) hx hb dX0_columnBits_5 rfl hl (by decide) rfl (fun ls hl => ?_)
  refine lv_iload_n hx hb dX0_columnBits_6 rfl (lv_at hl 1 rfl) ?_
  refine lv_iload_n hx hb dX0_columnBits_7 rfl (lv_at hl 2 rfl) ?_
  refine lv_iadd hx hb dX0_columnBits_8 ?_
  refine lv_bipush (v := 60) hx hb dX0_columnBits_9 (by decide) ?_
  refine va_mmin hx hb (hml.trans hl.1.symm) hown (ht _ k_346) (ht _ k_347) (ht _ k_9) (ht _ k_348) (Nat.le_of_ble_eq_true rfl) (Nat.le_of_ble_eq_true rfl) (Nat.zero_le _) (Nat.zero_le _) dX0_columnBits_11 ?_
  refine lv_istore_n (lv' := [(3, .int (if 60 < (p0 + p1) then 60 else (p0 + p1))), (2, .int (if p0 < 0 then 0 else p0)), (0, .int p0), (1, .int p1)]) hx hb dX0_columnBits_14 rfl hl (by decide) rfl (fun ls hl => ?_)
  refine lv_iload_n hx hb dX0_columnBits_15 rfl (lv_at hl 1 rfl) ?_
  refine lv_iload_n hx hb dX0_columnBits_16 rfl (lv_at hl 0 rfl) ?_
  refine lv_icmp_ge (tgt := 32) hx hb dX0_columnBits_17 (by decide) (fun hc => ?_) (fun hc => ?_)
  · have hw := hw.1 hc
    refine lv_lconst (v := 0) hx hb dX0_columnBits_32 (by decide) ?_
    rw [← hQQ]
    exact g_retl (v := 0) (u := ()) hx hb hr hlocks hw hP hK hD hS dX0_columnBits_33
  · have hw := hw.2 hc
    refine lv_lconst (v := 1) hx hb dX0_columnBits_20 (by decide) ?_
    refine lv_iload_n hx hb dX0_columnBits_21 rfl (lv_at hl 0 rfl) ?_
    refine lv_iload_n hx hb dX0_columnBits_22 rfl (lv_at hl 1 rfl) ?_
    refine lv_isub hx hb dX0_columnBits_23 ?_
    refine lv_lshl (v := (1 <<< (((if 60 < (p0 + p1) then 60 else (p0 + p1)) - (if p0 < 0 then 0 else p0)).toInt64 &&& 63))) hx hb dX0_columnBits_24 rfl ?_
    refine lv_lconst (v := 1) hx hb dX0_columnBits_25 (by decide) ?_
    refine lv_lsub hx hb dX0_columnBits_26 ?_
    refine lv_iload_n hx hb dX0_columnBits_27 rfl (lv_at hl 1 rfl) ?_
    refine lv_lshl (v := (((1 <<< (((if 60 < (p0 + p1) then 60 else (p0 + p1)) - (if p0 < 0 then 0 else p0)).toInt64 &&& 63)) - 1) <<< ((if p0 < 0 then 0 else p0).toInt64 &&& 63))) hx hb dX0_columnBits_28 rfl ?_
    refine lv_goto (tgt := 33) hx hb dX0_columnBits_29 (by decide) ?_
    rw [← hQQ]
    exact g_retl (v := (((1 <<< (((if 60 < (p0 + p1) then 60 else (p0 + p1)) - (if p0 < 0 then 0 else p0)).toInt64 &&& 63)) - 1) <<< ((if p0 < 0 then 0 else p0).toInt64 &&& 63))) (u := ()) hx hb hr hlocks hw hP hK hD hS dX0_columnBits_33
abbrev rm_X0_coveredBy : Room := { frames := 2, cells := 0, slots := 0, locals := 46 }
set_option maxHeartbeats 4000000 in
set_option maxRecDepth 100000 in
theorem c_X0_coveredBy (l : Launch) (dC : Nat → ClassId) (dI : Nat → Nat → Nat) (cI cJ : ClassId) (o o_cells : Nat) (sz : Nat) (s_cells : Nat → Int32) (p0 : Int32) (p1 : Int32) (Q : Int64 → Prop) (hw : P_X0_coveredBy p0 p1 s_cells Q) : Met l yX0_coveredBy (Cond.code yX0_coveredBy cX0_coveredBy 5 (some .long) :: TBL) rm_X0_coveredBy (gPc (dC, dI) vwCl (gTy cI cJ) [.ref o, .int p0, .int p1] [(o, .inr (0, [.ref o_cells])), (o_cells, .inl (cI, 82, .inl s_cells))] sz) (va_Ql (fun (r : Int64) (u : Unit) => Q r ) (gB (dC, dI) vwCl (gTy cI cJ) (va_A [(o, .inr (0, [.ref o_cells])), (o_cells, .inl (cI, 82, .inl s_cells))] sz) (fun (u : Unit) => [(o, .inr (0, [.ref o_cells])), (o_cells, .inl (cI, 82, .inl s_cells))])) (va_A [(o, .inr (0, [.ref o_cells])), (o_cells, .inl (cI, 82, .inl s_cells))] sz)) 0 0 (va_A [(o, .inr (0, [.ref o_cells])), (o_cells, .inl (cI, 82, .inl s_cells))] sz) := by
  refine Met.ofW (cc := cX0_coveredBy) (maxL := 5) (ret := (some .long)) (by decide) rfl ?_
  intro p e s m args below meth c s₁ B hml hv
  obtain ⟨rfl, hsz, hP, hK, hD0⟩ := hv
  have hx := B.exec
  have hb := B.bytes
  have hr := B.returns
  have hts := atoms_spec (ws := Cond.code yX0_coveredBy cX0_coveredBy 5 (some .long) :: TBL) B.pre
  have ht : ∀ w ∈ TBL, w.before ([.ref o, .int p0, .int p1] : List Value).toArray s = true := fun w h => hts w (List.mem_cons_of_mem _ h)
  clear hts
  have hown : s.vm.findClass RX0 = some m.cls := findClass_of_methodNamed B.named
  have hlocks := B.notSynchronized
  clear B
  subst hsz
  have hD := hD0.self (sz := s.heap.size)
  clear hD0
  generalize hAe : va_A [(o, .inr (0, [.ref o_cells])), (o_cells, .inl (cI, 82, .inl s_cells))] s.heap.size = A at hD ⊢
  have hA : ∀ q : Nat, s.heap.size ≤ q → A q := fun q h => by rw [← hAe]; exact Or.inr h
  clear hAe
  have hS : va_S A s.heap s.heap [] := va_S.rf
  have hP : va_P (dC, dI) vwCl [(o, .inr (0, [.ref o_cells])), (o_cells, .inl (cI, 82, .inl s_cells))] s.heap := hP
  have hl := lv_entry ([.ref o, .int p0, .int p1]) (n := 5) (Nat.le_of_ble_eq_true rfl)
  rw [lg_entry_eq]
  generalize (lg_sl ([.ref o, .int p0, .int p1]) ++ List.replicate (5 - (lg_sl ([.ref o, .int p0, .int p1])).length) Slot.unset).toArray = ls at hl ⊢
  have hl : lv_has ls 5 [(0, .ref o), (1, .int p0), (2, .int p1)] := hl
  generalize hQQ : MQ below _ _ _ 0 0 A = QQ
  show W p l e rm_X0_coveredBy s m ([.ref o, .int p0, .int p1] : List Value).toArray below meth c s.heap [] 0 0 QQ (F0 m 0 ls [])
  obtain ⟨H, hHH⟩ : ∃ H, H = s.heap := ⟨_, rfl⟩
  rw [← hHH] at hP ⊢
  have hS : va_S A s.heap H [] := by rw [hHH]; exact hS
  clear hHH
  generalize ([] : List Loc) = locs at hS ⊢
  unfold P_X0_coveredBy at hw
  refine lv_iload_n hx hb dX0_coveredBy_0 rfl (lv_at hl 2 rfl) ?_
  refine lv_aload_n hx hb dX0_coveredBy_1 rfl (lv_at hl 0 rfl) ?_
  refine lv_iload_n hx hb dX0_coveredBy_2 rfl (lv_at hl 1 rfl) ?_
  refine lv_iconst (v := 0) hx hb dX0_coveredBy_3 (by decide) ?_
  refine gc_Vi (As := [.int p0, .int 0]) (rest := [.int p1]) (wr := []) ⟨hx, hb, hml, hown, ht⟩ (c_X0_ofBeam l dC dI cI cJ o o_cells H.size s_cells p0 0 _ hw) (cwV 2 ht (g_V k_490 k_335 k_336 k_2 k_337) rfl rfl rfl (by decide +kernel) ⟨(Nat.le_of_ble_eq_true rfl), (Nat.le_of_ble_eq_true rfl)⟩) hK hP hD hS hA [0, 1] [] rfl rfl (by decide) 0 rfl rfl rfl rfl hl.1 rfl (Nat.le_of_ble_eq_true rfl) ⟨(Nat.le_of_ble_eq_true rfl), (Nat.le_of_ble_eq_true rfl)⟩ dX0_coveredBy_4 (fun r_1 u H locs hw hP hD hS => ?_)
  try dsimp only at hw
  have hP : va_P (dC, dI) vwCl [(o, .inr (0, [.ref o_cells])), (o_cells, .inl (cI, 82, .inl s_cells))] H := hP
  have hD : va_D A [(o, .inr (0, [.ref o_cells])), (o_cells, .inl (cI, 82, .inl s_cells))] := hD
  refine lv_isub hx hb dX0_coveredBy_7 ?_
  refine lv_istore_n (lv' := [(3, .int (p1 - r_1)), (0, .ref o), (1, .int p0), (2, .int p1)]) hx hb dX0_coveredBy_8 rfl hl (by decide) rfl (fun ls hl => ?_)
  refine lv_aload_n hx hb dX0_coveredBy_9 rfl (lv_at hl 1 rfl) ?_
  refine lv_iload_n hx hb dX0_coveredBy_10 rfl (lv_at hl 2 rfl) ?_
  refine lv_iconst (v := 1) hx hb dX0_coveredBy_11 (by decide) ?_
  refine gc_Vi (As := [.int p0, .int 1]) (rest := []) (wr := []) ⟨hx, hb, hml, hown, ht⟩ (c_X0_ofBeam l dC dI cI cJ o o_cells H.size s_cells p0 1 _ hw) (cwV 2 ht (g_V k_490 k_335 k_336 k_2 k_337) rfl rfl rfl (by decide +kernel) ⟨(Nat.le_of_ble_eq_true rfl), (Nat.le_of_ble_eq_true rfl)⟩) hK hP hD hS hA [0, 1] [] rfl rfl (by decide) 0 rfl rfl rfl rfl hl.1 rfl (Nat.le_of_ble_eq_true rfl) ⟨(Nat.le_of_ble_eq_true rfl), (Nat.le_of_ble_eq_true rfl)⟩ dX0_coveredBy_12 (fun r_2 u H locs hw hP hD hS => ?_)
  try dsimp only at hw
  have hP : va_P (dC, dI) vwCl [(o, .inr (0, [.ref o_cells])), (o_cells, .inl (cI, 82, .inl s_cells))] H := hP
  have hD : va_D A [(o, .inr (0, [.ref o_cells])), (o_cells, .inl (cI, 82, .inl s_cells))] := hD
  refine lv_aload_n hx hb dX0_coveredBy_15 rfl (lv_at hl 1 rfl) ?_
  refine lv_iload_n hx hb dX0_coveredBy_16 rfl (lv_at hl 2 rfl) ?_
  refine lv_iconst (v := 2) hx hb dX0_coveredBy_17 (by decide) ?_
  refine gc_Vi (As := [.int p0, .int 2]) (rest := [.int r_2]) (wr := []) ⟨hx, hb, hml, hown, ht⟩ (c_X0_ofBeam l dC dI cI cJ o o_cells H.size s_cells p0 2 _ hw) (cwV 2 ht (g_V k_490 k_335 k_336 k_2 k_337) rfl rfl rfl (by decide +kernel) ⟨(Nat.le_of_ble_eq_true rfl), (Nat.le_of_ble_eq_true rfl)⟩) hK hP hD hS hA [0, 1] [] rfl rfl (by decide) 0 rfl rfl rfl rfl hl.1 rfl (Nat.le_of_ble_eq_true rfl) ⟨(Nat.le_of_ble_eq_true rfl), (Nat.le_of_ble_eq_true rfl)⟩ dX0_coveredBy_18 (fun r_3 u H locs hw hP hD hS => ?_)
  try dsimp only at hw
  have hP : va_P (dC, dI) vwCl [(o, .inr (0, [.ref o_cells])), (o_cells, .inl (cI, 82, .inl s_cells))] H := hP
  have hD : va_D A [(o, .inr (0, [.ref o_cells])), (o_cells, .inl (cI, 82, .inl s_cells))] := hD
  refine lv_iload_n hx hb dX0_coveredBy_21 rfl (lv_at hl 0 rfl) ?_
  refine lv_imul hx hb dX0_coveredBy_22 ?_
  refine lv_iadd hx hb dX0_coveredBy_23 ?_
  refine lv_istore (lv' := [(4, .int (r_2 + (r_3 * (p1 - r_1)))), (3, .int (p1 - r_1)), (0, .ref o), (1, .int p0), (2, .int p1)]) hx hb dX0_coveredBy_24 hl (by decide) rfl (fun ls hl => ?_)
  refine lv_iload_n hx hb dX0_coveredBy_26 rfl (lv_at hl 1 rfl) ?_
  refine lv_if_ge (tgt := 34) hx hb dX0_coveredBy_27 (by decide) (fun hc => ?_) (fun hc => ?_)
  · have hw := hw.1 hc
    refine lv_iload hx hb dX0_coveredBy_34 (lv_at hl 0 rfl) ?_
    refine lv_aload_n hx hb dX0_coveredBy_36 rfl (lv_at hl 2 rfl) ?_
    refine lv_iload_n hx hb dX0_coveredBy_37 rfl (lv_at hl 3 rfl) ?_
    refine lv_iconst (v := 3) hx hb dX0_coveredBy_38 (by decide) ?_
    refine gc_Vi (As := [.int p0, .int 3]) (rest := [.int (r_2 + (r_3 * (p1 - r_1)))]) (wr := []) ⟨hx, hb, hml, hown, ht⟩ (c_X0_ofBeam l dC dI cI cJ o o_cells H.size s_cells p0 3 _ hw) (cwV 2 ht (g_V k_490 k_335 k_336 k_2 k_337) rfl rfl rfl (by decide +kernel) ⟨(Nat.le_of_ble_eq_true rfl), (Nat.le_of_ble_eq_true rfl)⟩) hK hP hD hS hA [0, 1] [] rfl rfl (by decide) 0 rfl rfl rfl rfl hl.1 rfl (Nat.le_of_ble_eq_true rfl) ⟨(Nat.le_of_ble_eq_true rfl), (Nat.le_of_ble_eq_true rfl)⟩ dX0_coveredBy_39 (fun r_4 u H locs hw hP hD hS => ?_)
    try dsimp only at hw
    have hP : va_P (dC, dI) vwCl [(o, .inr (0, [.ref o_cells])), (o_cells, .inl (cI, 82, .inl s_cells))] H := hP
    have hD : va_D A [(o, .inr (0, [.ref o_cells])), (o_cells, .inl (cI, 82, .inl s_cells))] := hD
    refine gc_Sl (As := [.int (r_2 + (r_3 * (p1 - r_1))), .int r_4]) (rest := []) (wr := [(o, .inr (0, [.ref o_cells])), (o_cells, .inl (cI, 82, .inl s_cells))]) ⟨hx, hb, hml, hown, ht⟩ (c_X0_columnBits l dC dI cI cJ  H.size (r_2 + (r_3 * (p1 - r_1))) r_4 _ hw) (va_cwS 2 ht (g_S k_491 k_343 k_2 k_344) rfl rfl rfl (by decide +kernel) ⟨(Nat.le_of_ble_eq_true rfl), (Nat.le_of_ble_eq_true rfl)⟩) hK hP hD hS hA [] [0, 1] rfl rfl (by decide) rfl hl.1 rfl (Nat.le_of_ble_eq_true rfl) ⟨(Nat.le_of_ble_eq_true rfl), (Nat.le_of_ble_eq_true rfl)⟩ dX0_coveredBy_42 (fun r_5 u H locs hw hP hD hS => ?_)
    try dsimp only at hw
    have hP : va_P (dC, dI) vwCl [(o, .inr (0, [.ref o_cells])), (o_cells, .inl (cI, 82, .inl s_cells))] H := hP
    have hD : va_D A [(o, .inr (0, [.ref o_cells])), (o_cells, .inl (cI, 82, .inl s_cells))] := hD
    rw [← hQQ]
    exact g_retl (v := r_5) (u := ()) hx hb hr hlocks hw hP hK hD hS dX0_coveredBy_45
  · have hw := hw.2 hc
    refine lv_lconst (v := 0) hx hb dX0_coveredBy_30 (by decide) ?_
    refine lv_goto (tgt := 45) hx hb dX0_coveredBy_31 (by decide) ?_
    rw [← hQQ]
    exact g_retl (v := 0) (u := ()) hx hb hr hlocks hw hP hK hD hS dX0_coveredBy_45
