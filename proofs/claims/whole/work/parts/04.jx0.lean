def B_J7_fill_d0a16_L6 (n_r0 : Nat) (x1 : Int64) (x4 : Int32) (Q : (Nat → Int64) → Prop) (rec6 : Int32 → (Nat → Int64) → Prop) (x3 : Int32) (s_r0 : Nat → Int64) : Prop :=
  ((x4 ≤ x3 → Q s_r0) ∧ (¬ x4 ≤ x3 → vp_in x3 n_r0 ∧ rec6 (x3 + 1) (vp_updL s_r0 x3.toNatClampNeg x1)))
noncomputable def P_J7_fill_d0a16_L6 (n_r0 : Nat) (x1 : Int64) (x4 : Int32) (Q : (Nat → Int64) → Prop) (n : Nat) : Int32 → (Nat → Int64) → Prop := Nat.rec (motive := fun _ => Int32 → (Nat → Int64) → Prop) (fun _ _ => False) (fun _ r => B_J7_fill_d0a16_L6 n_r0 x1 x4 Q r) n
theorem P_J7_fill_d0a16_L6_z (n_r0 : Nat) (x1 : Int64) (x4 : Int32) (Q : (Nat → Int64) → Prop) (x3 : Int32) (s_r0 : Nat → Int64) : P_J7_fill_d0a16_L6 n_r0 x1 x4 Q 0 x3 s_r0 = False := rfl
theorem P_J7_fill_d0a16_L6_s (n_r0 : Nat) (x1 : Int64) (x4 : Int32) (Q : (Nat → Int64) → Prop) (n : Nat) (x3 : Int32) (s_r0 : Nat → Int64) : P_J7_fill_d0a16_L6 n_r0 x1 x4 Q (n + 1) x3 s_r0 = B_J7_fill_d0a16_L6 n_r0 x1 x4 Q (P_J7_fill_d0a16_L6 n_r0 x1 x4 Q n) x3 s_r0 := rfl
def P_J7_fill_d0a16 (n_r0 : Nat) (p1 : Int64) (s_r0 : Nat → Int64) (Q : (Nat → Int64) → Prop) : Prop :=
  ∃ n : Nat, P_J7_fill_d0a16_L6 n_r0 p1 (nI n_r0) Q n 0 s_r0
def B_J7_fill_53178_L5 (n_r0 : Nat) (x1 : Int32) (x3 : Int32) (Q : (Nat → Int32) → Prop) (rec5 : Int32 → (Nat → Int32) → Prop) (x2 : Int32) (s_r0 : Nat → Int32) : Prop :=
  ((x3 ≤ x2 → Q s_r0) ∧ (¬ x3 ≤ x2 → vp_in x2 n_r0 ∧ rec5 (x2 + 1) (upd s_r0 x2.toNatClampNeg x1)))
noncomputable def P_J7_fill_53178_L5 (n_r0 : Nat) (x1 : Int32) (x3 : Int32) (Q : (Nat → Int32) → Prop) (n : Nat) : Int32 → (Nat → Int32) → Prop := Nat.rec (motive := fun _ => Int32 → (Nat → Int32) → Prop) (fun _ _ => False) (fun _ r => B_J7_fill_53178_L5 n_r0 x1 x3 Q r) n
theorem P_J7_fill_53178_L5_z (n_r0 : Nat) (x1 : Int32) (x3 : Int32) (Q : (Nat → Int32) → Prop) (x2 : Int32) (s_r0 : Nat → Int32) : P_J7_fill_53178_L5 n_r0 x1 x3 Q 0 x2 s_r0 = False := rfl
theorem P_J7_fill_53178_L5_s (n_r0 : Nat) (x1 : Int32) (x3 : Int32) (Q : (Nat → Int32) → Prop) (n : Nat) (x2 : Int32) (s_r0 : Nat → Int32) : P_J7_fill_53178_L5 n_r0 x1 x3 Q (n + 1) x2 s_r0 = B_J7_fill_53178_L5 n_r0 x1 x3 Q (P_J7_fill_53178_L5 n_r0 x1 x3 Q n) x2 s_r0 := rfl
def P_J7_fill_53178 (n_r0 : Nat) (p1 : Int32) (s_r0 : Nat → Int32) (Q : (Nat → Int32) → Prop) : Prop :=
  ∃ n : Nat, P_J7_fill_53178_L5 n_r0 p1 (nI n_r0) Q n 0 s_r0
def P_Jxe99ae_isNaN_b9ae7 (p0 : UInt64) (Q : Int32 → Prop) : Prop :=
  (((Op.cmpValue (FP.dcmp p0 p0) .l) = 0 → Q 0) ∧ (¬ (Op.cmpValue (FP.dcmp p0 p0) .l) = 0 → Q 1))
def P_Jxe99ae_doubleToLongBits_ccdee (p0 : UInt64) (Q : Int64 → Prop) : Prop :=
  P_Jxe99ae_isNaN_b9ae7 p0 (fun (r_1 : Int32) => ((¬ r_1 = 0 → Q 9221120237041090560) ∧ (r_1 = 0 → Q p0.toInt64)))
def P_X0_copyTo (p1 : Int32) (s_cells : Nat → Int32) (s_r0 : Nat → Int32) (Q : (Nat → Int32) → Prop) : Prop :=
  ((p1 < 0 → Q s_r0) ∧ (¬ p1 < 0 → ((492 < (p1 + 82) → Q s_r0) ∧ (¬ 492 < (p1 + 82) → (¬ (0 : Int32) < 0 ∧ ¬ p1 < 0 ∧ ¬ (82 : Int32) < 0 ∧ 0 + 82 ≤ 82 ∧ p1.toNatClampNeg + 82 ≤ 492) ∧ Q (va_cpy s_cells s_r0 0 p1.toNatClampNeg 82)))))
def P_X0_copyFrom (p1 : Int32) (s_cells : Nat → Int32) (s_r0 : Nat → Int32) (Q : (Nat → Int32) → Prop) : Prop :=
  ((p1 < 0 → Q s_cells) ∧ (¬ p1 < 0 → ((492 < (p1 + 82) → Q s_cells) ∧ (¬ 492 < (p1 + 82) → (¬ p1 < 0 ∧ ¬ (0 : Int32) < 0 ∧ ¬ (82 : Int32) < 0 ∧ p1.toNatClampNeg + 82 ≤ 492 ∧ 0 + 82 ≤ 82) ∧ Q (va_cpy s_r0 s_cells p1.toNatClampNeg 0 82)))))
def P_X0_putCell (p0 : Int32) (p1 : Int32) (s_cells : Nat → Int32) (Q : (Nat → Int32) → Prop) : Prop :=
  ((p0 < 0 → Q s_cells) ∧ (¬ p0 < 0 → ((82 ≤ p0 → Q s_cells) ∧ (¬ 82 ≤ p0 → vp_in p0 82 ∧ Q (upd s_cells p0.toNatClampNeg p1)))))
def P_X0_closeGap (p0 : Int32) (p1 : Int32) (p2 : Int32) (s_cells : Nat → Int32) (Q : (Nat → Int32) → Prop) : Prop :=
  ((p0 < 0 → Q s_cells) ∧ (¬ p0 < 0 → ((p1 < 0 → Q s_cells) ∧ (¬ p1 < 0 → ((p2 < (p0 + p1) → Q s_cells) ∧ (¬ p2 < (p0 + p1) → ((82 < p2 → Q s_cells) ∧ (¬ 82 < p2 → (¬ (p0 + p1) < 0 ∧ ¬ p0 < 0 ∧ ¬ ((p2 - p0) - p1) < 0 ∧ (p0 + p1).toNatClampNeg + ((p2 - p0) - p1).toNatClampNeg ≤ 82 ∧ p0.toNatClampNeg + ((p2 - p0) - p1).toNatClampNeg ≤ 82) ∧ Q (va_cpy s_cells s_cells ((p0 + p1).toNatClampNeg) p0.toNatClampNeg (((p2 - p0) - p1).toNatClampNeg))))))))))
def P_X0_words (s_cells : Nat → Int32) (Q : Int32 → Prop) : Prop :=
  Q (s_cells 80)
def P_X0_hasWord (p0 : Int32) (s_cells : Nat → Int32) (Q : Int32 → Prop) : Prop :=
  ((p0 < 0 → Q 0) ∧ (¬ p0 < 0 → P_X0_words s_cells (fun (r_1 : Int32) => ((r_1 ≤ p0 → Q 0) ∧ (¬ r_1 ≤ p0 → Q 1)))))
def P_X0_ofWord (p0 : Int32) (p1 : Int32) (s_cells : Nat → Int32) (Q : Int32 → Prop) : Prop :=
  ((((p0 * 6) + p1) < 0 → Q (-1)) ∧ (¬ ((p0 * 6) + p1) < 0 → ((82 ≤ ((p0 * 6) + p1) → Q (-1)) ∧ (¬ 82 ≤ ((p0 * 6) + p1) → vp_in ((p0 * 6) + p1) 82 ∧ Q (s_cells (((p0 * 6) + p1).toNatClampNeg))))))
def P_X0_putWord (p0 : Int32) (p1 : Int32) (p2 : Int32) (s_cells : Nat → Int32) (Q : (Nat → Int32) → Prop) : Prop :=
  P_X0_putCell ((p0 * 6) + p1) p2 s_cells (fun (s_cells_1 : Nat → Int32) => Q s_cells_1)
def P_X0_addWord (p0 : Int32) (p1 : Int32) (p2 : Int32) (p3 : Int32) (s_cells : Nat → Int32) (Q : Int32 → (Nat → Int32) → Prop) : Prop :=
  P_X0_words s_cells (fun (r_1 : Int32) => P_X0_putWord r_1 0 p0 s_cells (fun (s_cells_2 : Nat → Int32) => P_X0_putWord r_1 1 p1 s_cells_2 (fun (s_cells_3 : Nat → Int32) => P_X0_putWord r_1 2 p2 s_cells_3 (fun (s_cells_4 : Nat → Int32) => P_X0_putWord r_1 3 p3 s_cells_4 (fun (s_cells_5 : Nat → Int32) => P_X0_putWord r_1 4 0 s_cells_5 (fun (s_cells_6 : Nat → Int32) => P_X0_putWord r_1 5 4 s_cells_6 (fun (s_cells_7 : Nat → Int32) => P_X0_putCell 80 (r_1 + 1) s_cells_7 (fun (s_cells_8 : Nat → Int32) => Q r_1 s_cells_8))))))))
def P_X0_dropWord (p0 : Int32) (s_cells : Nat → Int32) (Q : (Nat → Int32) → Prop) : Prop :=
  P_X0_closeGap (p0 * 6) 6 48 s_cells (fun (s_cells_1 : Nat → Int32) => P_X0_words s_cells_1 (fun (r_2 : Int32) => P_X0_putCell 80 (r_2 - 1) s_cells_1 (fun (s_cells_3 : Nat → Int32) => Q s_cells_3)))
def P_X0_beams (s_cells : Nat → Int32) (Q : Int32 → Prop) : Prop :=
  Q (s_cells 81)
def P_X0_hasBeam (p0 : Int32) (s_cells : Nat → Int32) (Q : Int32 → Prop) : Prop :=
  ((p0 < 0 → Q 0) ∧ (¬ p0 < 0 → P_X0_beams s_cells (fun (r_1 : Int32) => ((r_1 ≤ p0 → Q 0) ∧ (¬ r_1 ≤ p0 → Q 1)))))
def P_X0_ofBeam (p0 : Int32) (p1 : Int32) (s_cells : Nat → Int32) (Q : Int32 → Prop) : Prop :=
  ((((48 + (p0 * 5)) + p1) < 0 → Q (-1)) ∧ (¬ ((48 + (p0 * 5)) + p1) < 0 → ((82 ≤ ((48 + (p0 * 5)) + p1) → Q (-1)) ∧ (¬ 82 ≤ ((48 + (p0 * 5)) + p1) → vp_in ((48 + (p0 * 5)) + p1) 82 ∧ Q (s_cells (((48 + (p0 * 5)) + p1).toNatClampNeg))))))
def P_X0_putBeam (p0 : Int32) (p1 : Int32) (p2 : Int32) (s_cells : Nat → Int32) (Q : (Nat → Int32) → Prop) : Prop :=
  P_X0_putCell ((48 + (p0 * 5)) + p1) p2 s_cells (fun (s_cells_1 : Nat → Int32) => Q s_cells_1)
def P_X0_addBeam (p0 : Int32) (p1 : Int32) (p2 : Int32) (p3 : Int32) (p4 : Int32) (s_cells : Nat → Int32) (Q : Int32 → (Nat → Int32) → Prop) : Prop :=
  P_X0_beams s_cells (fun (r_1 : Int32) => P_X0_putBeam r_1 0 p0 s_cells (fun (s_cells_2 : Nat → Int32) => P_X0_putBeam r_1 1 p1 s_cells_2 (fun (s_cells_3 : Nat → Int32) => P_X0_putBeam r_1 2 p2 s_cells_3 (fun (s_cells_4 : Nat → Int32) => P_X0_putBeam r_1 3 p3 s_cells_4 (fun (s_cells_5 : Nat → Int32) => P_X0_putBeam r_1 4 p4 s_cells_5 (fun (s_cells_6 : Nat → Int32) => P_X0_putCell 81 (r_1 + 1) s_cells_6 (fun (s_cells_7 : Nat → Int32) => Q r_1 s_cells_7)))))))
def P_X0_dropBeam (p0 : Int32) (s_cells : Nat → Int32) (Q : (Nat → Int32) → Prop) : Prop :=
  P_X0_closeGap (48 + (p0 * 5)) 5 78 s_cells (fun (s_cells_1 : Nat → Int32) => P_X0_beams s_cells_1 (fun (r_2 : Int32) => P_X0_putCell 81 (r_2 - 1) s_cells_1 (fun (s_cells_3 : Nat → Int32) => Q s_cells_3)))
def P_X0_setting (p0 : Int32) (s_cells : Nat → Int32) (Q : Int32 → Prop) : Prop :=
  (((78 + p0) < 0 → Q (-1)) ∧ (¬ (78 + p0) < 0 → ((82 ≤ (78 + p0) → Q (-1)) ∧ (¬ 82 ≤ (78 + p0) → vp_in (78 + p0) 82 ∧ Q (s_cells ((78 + p0).toNatClampNeg))))))
def P_X0_putSetting (p0 : Int32) (p1 : Int32) (s_cells : Nat → Int32) (Q : (Nat → Int32) → Prop) : Prop :=
  P_X0_putCell (78 + p0) p1 s_cells (fun (s_cells_1 : Nat → Int32) => Q s_cells_1)
def B_X0_letters_L4 (s_cells : Nat → Int32) (Q : Int32 → Prop) (rec4 : Int32 → Int32 → Prop) (x1 : Int32) (x2 : Int32) : Prop :=
  P_X0_words s_cells (fun (r_1 : Int32) => ((r_1 ≤ x2 → Q x1) ∧ (¬ r_1 ≤ x2 → P_X0_ofWord x2 0 s_cells (fun (r_2 : Int32) => rec4 (x1 + r_2) (x2 + 1)))))
noncomputable def P_X0_letters_L4 (s_cells : Nat → Int32) (Q : Int32 → Prop) (n : Nat) : Int32 → Int32 → Prop := Nat.rec (motive := fun _ => Int32 → Int32 → Prop) (fun _ _ => False) (fun _ r => B_X0_letters_L4 s_cells Q r) n
theorem P_X0_letters_L4_z (s_cells : Nat → Int32) (Q : Int32 → Prop) (x1 : Int32) (x2 : Int32) : P_X0_letters_L4 s_cells Q 0 x1 x2 = False := rfl
theorem P_X0_letters_L4_s (s_cells : Nat → Int32) (Q : Int32 → Prop) (n : Nat) (x1 : Int32) (x2 : Int32) : P_X0_letters_L4 s_cells Q (n + 1) x1 x2 = B_X0_letters_L4 s_cells Q (P_X0_letters_L4 s_cells Q n) x1 x2 := rfl
def P_X0_letters (s_cells : Nat → Int32) (Q : Int32 → Prop) : Prop :=
  ∃ n : Nat, P_X0_letters_L4 s_cells Q n 0 0
def P_X0_columnBits (p0 : Int32) (p1 : Int32) (Q : Int64 → Prop) : Prop :=
  (((if 60 < (p0 + p1) then 60 else (p0 + p1)) ≤ (if p0 < 0 then 0 else p0) → Q 0) ∧ (¬ (if 60 < (p0 + p1) then 60 else (p0 + p1)) ≤ (if p0 < 0 then 0 else p0) → Q (((1 <<< (((if 60 < (p0 + p1) then 60 else (p0 + p1)) - (if p0 < 0 then 0 else p0)).toInt64 &&& 63)) - 1) <<< ((if p0 < 0 then 0 else p0).toInt64 &&& 63))))
def P_X0_coveredBy (p0 : Int32) (p1 : Int32) (s_cells : Nat → Int32) (Q : Int64 → Prop) : Prop :=
  P_X0_ofBeam p0 0 s_cells (fun (r_1 : Int32) => P_X0_ofBeam p0 1 s_cells (fun (r_2 : Int32) => P_X0_ofBeam p0 2 s_cells (fun (r_3 : Int32) => ((0 ≤ (p1 - r_1) → P_X0_ofBeam p0 3 s_cells (fun (r_4 : Int32) => P_X0_columnBits (r_2 + (r_3 * (p1 - r_1))) r_4 (fun (r_5 : Int64) => Q r_5))) ∧ (¬ 0 ≤ (p1 - r_1) → Q 0)))))
def P_X1_start (s_inOrder : Int32) (Q : Int32 → Prop) : Prop :=
  Q 0
def P_X1_tellsWord (s_kind : Int32) (Q : Int32 → Prop) : Prop :=
  ((¬ s_kind = 119 → Q 0) ∧ (s_kind = 119 → Q 1))
def P_X1_number (p0 : Int32) (s_numbers : Nat → Int32) (Q : Int32 → Prop) : Prop :=
  ((p0 < 0 → Q (-1)) ∧ (¬ p0 < 0 → ((4 ≤ p0 → Q (-1)) ∧ (¬ 4 ≤ p0 → vp_in p0 4 ∧ Q (s_numbers p0.toNatClampNeg)))))
def P_X1_endCode (s_kind : Int32) (s_place : Int32) (Q : Int32 → Prop) : Prop :=
  ((¬ s_kind = 119 → ((s_place < 0 → Q (-1)) ∧ (¬ s_place < 0 → ((3 ≤ s_place → Q (-1)) ∧ (¬ 3 ≤ s_place → vp_in s_place 3 ∧ Q (tBE s_place.toNatClampNeg)))))) ∧ (s_kind = 119 → ((s_place < 0 → Q (-1)) ∧ (¬ s_place < 0 → ((4 ≤ s_place → Q (-1)) ∧ (¬ 4 ≤ s_place → vp_in s_place 4 ∧ Q (tWE s_place.toNatClampNeg)))))))
def P_X1_startNumber (s_value : Int32) (s_minus : Int32) (Q : Int32 → Int32 → Prop) : Prop :=
  Q (-1) 0
def P_X1_endNumber_J72 (s_place : Int32) (s_value : Int32) (s_minus : Int32) (Q : Int32 → (Nat → Int32) → Int32 → Int32 → Int32 → Int32 → Prop) (x1 : Int32) (t0 : Int32) (s_numbers : Nat → Int32) : Prop :=
  (narrow .boolean (.int t0) = .int t0 ∧ fits .boolean (.int t0) = true) ∧ P_X1_startNumber s_value s_minus (fun (s_value_3 : Int32) (s_minus_4 : Int32) => ((x1 = 0 → Q 1 s_numbers t0 (s_place + 1) s_value_3 s_minus_4) ∧ (¬ x1 = 0 → Q 2 s_numbers t0 (s_place + 1) s_value_3 s_minus_4)))
def P_X1_endNumber_J61 (s_place : Int32) (s_value : Int32) (s_minus : Int32) (Q : Int32 → (Nat → Int32) → Int32 → Int32 → Int32 → Int32 → Prop) (t0 : Int32) (s_numbers : Nat → Int32) : Prop :=
  ((¬ t0 = 0 → P_X1_endNumber_J72 s_place s_value s_minus Q t0 0 s_numbers) ∧ (t0 = 0 → P_X1_endNumber_J72 s_place s_value s_minus Q t0 1 s_numbers))
def P_X1_endNumber_J47 (s_kind : Int32) (s_place : Int32) (s_value : Int32) (s_minus : Int32) (Q : Int32 → (Nat → Int32) → Int32 → Int32 → Int32 → Int32 → Prop) (s_numbers : Nat → Int32) : Prop :=
  P_X1_endCode s_kind s_place (fun (r_5 : Int32) => ((¬ r_5 = 59 → P_X1_endNumber_J61 s_place s_value s_minus Q 0 s_numbers) ∧ (r_5 = 59 → P_X1_endNumber_J61 s_place s_value s_minus Q 1 s_numbers)))
def P_X1_endNumber_J46 (s_numbers : Nat → Int32) (s_kind : Int32) (s_place : Int32) (s_value : Int32) (s_minus : Int32) (Q : Int32 → (Nat → Int32) → Int32 → Int32 → Int32 → Int32 → Prop) (t0 : Int32) (t1 : Int32) : Prop :=
  vp_in t1 4 ∧ P_X1_endNumber_J47 s_kind s_place s_value s_minus Q (upd s_numbers t1.toNatClampNeg t0)
def P_X1_endNumber (s_numbers : Nat → Int32) (s_kind : Int32) (s_inOrder : Int32) (s_place : Int32) (s_value : Int32) (s_minus : Int32) (Q : Int32 → (Nat → Int32) → Int32 → Int32 → Int32 → Int32 → Prop) : Prop :=
  ((s_place < 0 → P_X1_endNumber_J47 s_kind s_place s_value s_minus Q s_numbers) ∧ (¬ s_place < 0 → ((4 ≤ s_place → P_X1_endNumber_J47 s_kind s_place s_value s_minus Q s_numbers) ∧ (¬ 4 ≤ s_place → ((s_minus = 0 → P_X1_endNumber_J46 s_numbers s_kind s_place s_value s_minus Q s_value s_place) ∧ (¬ s_minus = 0 → P_X1_endNumber_J46 s_numbers s_kind s_place s_value s_minus Q (-s_value) s_place))))))
def P_X1_startOrder_J14 (s_value : Int32) (s_minus : Int32) (Q : Int32 → Int32 → Int32 → Int32 → Int32 → Int32 → Prop) (x1 : Int32) : Prop :=
  P_X1_startNumber s_value s_minus (fun (s_value_1 : Int32) (s_minus_2 : Int32) => Q 1 x1 1 0 s_value_1 s_minus_2)
def P_X1_startOrder (p0 : Int32) (s_kind : Int32) (s_inOrder : Int32) (s_place : Int32) (s_value : Int32) (s_minus : Int32) (Q : Int32 → Int32 → Int32 → Int32 → Int32 → Int32 → Prop) : Prop :=
  ((p0 = 119 → P_X1_startOrder_J14 s_value s_minus Q p0) ∧ (¬ p0 = 119 → ((p0 = 98 → P_X1_startOrder_J14 s_value s_minus Q p0) ∧ (¬ p0 = 98 → Q 0 s_kind s_inOrder s_place s_value s_minus))))
def P_X1_least (s_kind : Int32) (s_place : Int32) (Q : Int32 → Prop) : Prop :=
  ((¬ s_kind = 119 → Q 0) ∧ (s_kind = 119 → ((¬ s_place = 0 → Q 0) ∧ (s_place = 0 → Q 1))))
def P_X1_most (s_kind : Int32) (s_place : Int32) (Q : Int32 → Prop) : Prop :=
  ((¬ s_kind = 119 → ((s_place < 0 → Q (-1)) ∧ (¬ s_place < 0 → ((3 ≤ s_place → Q (-1)) ∧ (¬ 3 ≤ s_place → vp_in s_place 3 ∧ Q (tBM s_place.toNatClampNeg)))))) ∧ (s_kind = 119 → ((s_place < 0 → Q (-1)) ∧ (¬ s_place < 0 → ((4 ≤ s_place → Q (-1)) ∧ (¬ 4 ≤ s_place → vp_in s_place 4 ∧ Q (tWM s_place.toNatClampNeg)))))))
def P_X1_takeDigit_J30 (s_kind : Int32) (s_place : Int32) (s_value : Int32) (Q : Int32 → Int32 → Prop) (t0 : Int32) : Prop :=
  P_X1_least s_kind s_place (fun (r_1 : Int32) => ((t0 < r_1 → Q 0 s_value) ∧ (¬ t0 < r_1 → P_X1_most s_kind s_place (fun (r_2 : Int32) => ((t0 ≤ r_2 → Q 1 t0) ∧ (¬ t0 ≤ r_2 → Q 0 s_value))))))
def P_X1_takeDigit (p0 : Int32) (s_kind : Int32) (s_place : Int32) (s_value : Int32) (Q : Int32 → Int32 → Prop) : Prop :=
  ((¬ s_value = 0 → ((¬ s_value = (-1) → P_X1_takeDigit_J30 s_kind s_place s_value Q ((10 * s_value) + p0)) ∧ (s_value = (-1) → P_X1_takeDigit_J30 s_kind s_place s_value Q p0))) ∧ (s_value = 0 → Q 0 s_value))
def P_X1_takeMinus_J22 (s_value : Int32) (s_minus : Int32) (Q : Int32 → Int32 → Prop) (t0 : Int32) : Prop :=
  ((t0 = 0 → Q 0 s_minus) ∧ (¬ t0 = 0 → ((¬ s_minus = 0 → Q 0 s_minus) ∧ (s_minus = 0 → ((s_value = (-1) → Q 1 1) ∧ (¬ s_value = (-1) → Q 0 s_minus))))))
def P_X1_takeMinus_J21 (s_value : Int32) (s_minus : Int32) (Q : Int32 → Int32 → Prop)  : Prop :=
  P_X1_takeMinus_J22 s_value s_minus Q 0
def P_X1_takeMinus (s_kind : Int32) (s_place : Int32) (s_value : Int32) (s_minus : Int32) (Q : Int32 → Int32 → Prop) : Prop :=
  ((¬ s_kind = 98 → P_X1_takeMinus_J21 s_value s_minus Q ) ∧ (s_kind = 98 → ((¬ s_place = 2 → P_X1_takeMinus_J21 s_value s_minus Q ) ∧ (s_place = 2 → P_X1_takeMinus_J22 s_value s_minus Q 1))))
def P_X1_feed_J34 (s_numbers : Nat → Int32) (s_kind : Int32) (s_inOrder : Int32) (s_place : Int32) (s_value : Int32) (s_minus : Int32) (Q : Int32 → (Nat → Int32) → Int32 → Int32 → Int32 → Int32 → Int32 → Prop) (x1 : Int32) : Prop :=
  ((¬ x1 = 45 → ((s_value = (-1) → Q 0 s_numbers s_kind s_inOrder s_place s_value s_minus) ∧ (¬ s_value = (-1) → P_X1_endCode s_kind s_place (fun (r_1 : Int32) => ((¬ x1 = r_1 → Q 0 s_numbers s_kind s_inOrder s_place s_value s_minus) ∧ (x1 = r_1 → P_X1_endNumber s_numbers s_kind s_inOrder s_place s_value s_minus (fun (r_2 : Int32) (s_numbers_3 : Nat → Int32) (s_inOrder_4 : Int32) (s_place_5 : Int32) (s_value_6 : Int32) (s_minus_7 : Int32) => Q r_2 s_numbers_3 s_kind s_inOrder_4 s_place_5 s_value_6 s_minus_7))))))) ∧ (x1 = 45 → P_X1_takeMinus s_kind s_place s_value s_minus (fun (r_8 : Int32) (s_minus_9 : Int32) => Q r_8 s_numbers s_kind s_inOrder s_place s_value s_minus_9)))
def P_X1_feed (p0 : Int32) (s_numbers : Nat → Int32) (s_kind : Int32) (s_inOrder : Int32) (s_place : Int32) (s_value : Int32) (s_minus : Int32) (Q : Int32 → (Nat → Int32) → Int32 → Int32 → Int32 → Int32 → Int32 → Prop) : Prop :=
  ((¬ s_inOrder = 0 → ((p0 < 48 → P_X1_feed_J34 s_numbers s_kind s_inOrder s_place s_value s_minus Q p0) ∧ (¬ p0 < 48 → ((57 < p0 → P_X1_feed_J34 s_numbers s_kind s_inOrder s_place s_value s_minus Q p0) ∧ (¬ 57 < p0 → P_X1_takeDigit (p0 - 48) s_kind s_place s_value (fun (r_10 : Int32) (s_value_11 : Int32) => Q r_10 s_numbers s_kind s_inOrder s_place s_value_11 s_minus)))))) ∧ (s_inOrder = 0 → P_X1_startOrder p0 s_kind s_inOrder s_place s_value s_minus (fun (r_12 : Int32) (s_kind_13 : Int32) (s_inOrder_14 : Int32) (s_place_15 : Int32) (s_value_16 : Int32) (s_minus_17 : Int32) => Q r_12 s_numbers s_kind_13 s_inOrder_14 s_place_15 s_value_16 s_minus_17)))
theorem k_1196 : Cond.methodLink RJxe99ae 122 yJxe99ae_isNaN_b9ae7 ∈ TBL := mem_T (i := 1196) (by decide +kernel) (by decide +kernel)
theorem k_1197 : Cond.static yJxe99ae_isNaN_b9ae7 ∈ TBL := mem_T (i := 1197) (by decide +kernel) (by decide +kernel)
theorem k_16 : Cond.initialized RJxe99ae ∈ TBL := mem_T (i := 16) (by decide +kernel) (by decide +kernel)
theorem k_1198 : Cond.code yJxe99ae_isNaN_b9ae7 cJxe99ae_isNaN_b9ae7 2 (some .boolean) ∈ TBL := mem_T (i := 1198) (by decide +kernel) (by decide +kernel)
theorem k_1202 : Cond.constantLong RJxe99ae 137 (9221120237041090560) ∈ TBL := mem_T (i := 1202) (by decide +kernel) (by decide +kernel)
theorem k_1199 : Cond.methodLink RJxe99ae 134 ⟨"java/lang/Double", "doubleToRawLongBits", "(D)J"⟩ ∈ TBL := mem_T (i := 1199) (by decide +kernel) (by decide +kernel)
theorem k_1201 : Cond.native ⟨"java/lang/Double", "doubleToRawLongBits", "(D)J"⟩ ∈ TBL := mem_T (i := 1201) (by decide +kernel) (by decide +kernel)
theorem k_1200 : Cond.static ⟨"java/lang/Double", "doubleToRawLongBits", "(D)J"⟩ ∈ TBL := mem_T (i := 1200) (by decide +kernel) (by decide +kernel)
theorem k_31 : Cond.fieldLink RX0 11 "CreditBeams$Credits" "cells" "[I" ∈ TBL := mem_T (i := 31) (by decide +kernel) (by decide +kernel)
theorem k_622 : Cond.methodLink RX0 15 arraycopyName ∈ TBL := mem_T (i := 622) (by decide +kernel) (by decide +kernel)
theorem k_544 : Cond.native arraycopyName ∈ TBL := mem_T (i := 544) (by decide +kernel) (by decide +kernel)
theorem k_543 : Cond.static arraycopyName ∈ TBL := mem_T (i := 543) (by decide +kernel) (by decide +kernel)
theorem k_11 : Cond.initialized RJ10 ∈ TBL := mem_T (i := 11) (by decide +kernel) (by decide +kernel)
theorem k_189 : Cond.methodLink RX0 21 yX0_words ∈ TBL := mem_T (i := 189) (by decide +kernel) (by decide +kernel)
theorem k_190 : Cond.instanceMethod yX0_words ∈ TBL := mem_T (i := 190) (by decide +kernel) (by decide +kernel)
theorem k_191 : Cond.selects RX0 yX0_words yX0_words ∈ TBL := mem_T (i := 191) (by decide +kernel) (by decide +kernel)
theorem k_2 : Cond.initialized RX0 ∈ TBL := mem_T (i := 2) (by decide +kernel) (by decide +kernel)
theorem k_192 : Cond.code yX0_words cX0_words 1 (some .int) ∈ TBL := mem_T (i := 192) (by decide +kernel) (by decide +kernel)
theorem k_631 : Cond.methodLink RX0 25 yX0_putCell ∈ TBL := mem_T (i := 631) (by decide +kernel) (by decide +kernel)
theorem k_633 : Cond.instanceMethod yX0_putCell ∈ TBL := mem_T (i := 633) (by decide +kernel) (by decide +kernel)
theorem k_s31 : Cond.selects RX0 yX0_putCell yX0_putCell ∈ TBL := mem_S (i := 31) (by decide +kernel) (by decide +kernel)
theorem k_634 : Cond.code yX0_putCell cX0_putCell 3 none ∈ TBL := mem_T (i := 634) (by decide +kernel) (by decide +kernel)
theorem k_627 : Cond.methodLink RX0 29 yX0_putWord ∈ TBL := mem_T (i := 627) (by decide +kernel) (by decide +kernel)
theorem k_628 : Cond.instanceMethod yX0_putWord ∈ TBL := mem_T (i := 628) (by decide +kernel) (by decide +kernel)
theorem k_629 : Cond.selects RX0 yX0_putWord yX0_putWord ∈ TBL := mem_T (i := 629) (by decide +kernel) (by decide +kernel)
theorem k_630 : Cond.code yX0_putWord cX0_putWord 4 none ∈ TBL := mem_T (i := 630) (by decide +kernel) (by decide +kernel)
theorem k_668 : Cond.methodLink RX0 33 yX0_closeGap ∈ TBL := mem_T (i := 668) (by decide +kernel) (by decide +kernel)
theorem k_670 : Cond.instanceMethod yX0_closeGap ∈ TBL := mem_T (i := 670) (by decide +kernel) (by decide +kernel)
theorem k_s33 : Cond.selects RX0 yX0_closeGap yX0_closeGap ∈ TBL := mem_S (i := 33) (by decide +kernel) (by decide +kernel)
theorem k_671 : Cond.code yX0_closeGap cX0_closeGap 4 none ∈ TBL := mem_T (i := 671) (by decide +kernel) (by decide +kernel)
theorem k_406 : Cond.methodLink RX0 36 yX0_beams ∈ TBL := mem_T (i := 406) (by decide +kernel) (by decide +kernel)
theorem k_293 : Cond.instanceMethod yX0_beams ∈ TBL := mem_T (i := 293) (by decide +kernel) (by decide +kernel)
theorem k_294 : Cond.selects RX0 yX0_beams yX0_beams ∈ TBL := mem_T (i := 294) (by decide +kernel) (by decide +kernel)
theorem k_295 : Cond.code yX0_beams cX0_beams 1 (some .int) ∈ TBL := mem_T (i := 295) (by decide +kernel) (by decide +kernel)
theorem k_685 : Cond.methodLink RX0 39 yX0_putBeam ∈ TBL := mem_T (i := 685) (by decide +kernel) (by decide +kernel)
theorem k_686 : Cond.instanceMethod yX0_putBeam ∈ TBL := mem_T (i := 686) (by decide +kernel) (by decide +kernel)
theorem k_687 : Cond.selects RX0 yX0_putBeam yX0_putBeam ∈ TBL := mem_T (i := 687) (by decide +kernel) (by decide +kernel)
theorem k_688 : Cond.code yX0_putBeam cX0_putBeam 4 none ∈ TBL := mem_T (i := 688) (by decide +kernel) (by decide +kernel)
theorem k_193 : Cond.methodLink RX0 42 yX0_ofWord ∈ TBL := mem_T (i := 193) (by decide +kernel) (by decide +kernel)
theorem k_194 : Cond.instanceMethod yX0_ofWord ∈ TBL := mem_T (i := 194) (by decide +kernel) (by decide +kernel)
theorem k_195 : Cond.selects RX0 yX0_ofWord yX0_ofWord ∈ TBL := mem_T (i := 195) (by decide +kernel) (by decide +kernel)
theorem k_196 : Cond.code yX0_ofWord cX0_ofWord 4 (some .int) ∈ TBL := mem_T (i := 196) (by decide +kernel) (by decide +kernel)
theorem k_424 : Cond.methodLink RX0 53 yJ9_max_7cf53 ∈ TBL := mem_T (i := 424) (by decide +kernel) (by decide +kernel)
theorem k_309 : Cond.static yJ9_max_7cf53 ∈ TBL := mem_T (i := 309) (by decide +kernel) (by decide +kernel)
theorem k_13 : Cond.initialized RJ9 ∈ TBL := mem_T (i := 13) (by decide +kernel) (by decide +kernel)
theorem k_310 : Cond.code yJ9_max_7cf53 cJ9_max_7cf53 2 (some .int) ∈ TBL := mem_T (i := 310) (by decide +kernel) (by decide +kernel)
theorem k_425 : Cond.methodLink RX0 58 yJ9_min_7cf53 ∈ TBL := mem_T (i := 425) (by decide +kernel) (by decide +kernel)
theorem k_426 : Cond.static yJ9_min_7cf53 ∈ TBL := mem_T (i := 426) (by decide +kernel) (by decide +kernel)
theorem k_427 : Cond.code yJ9_min_7cf53 cJ9_min_7cf53 2 (some .int) ∈ TBL := mem_T (i := 427) (by decide +kernel) (by decide +kernel)
theorem k_420 : Cond.methodLink RX0 46 yX0_ofBeam ∈ TBL := mem_T (i := 420) (by decide +kernel) (by decide +kernel)
theorem k_409 : Cond.instanceMethod yX0_ofBeam ∈ TBL := mem_T (i := 409) (by decide +kernel) (by decide +kernel)
theorem k_410 : Cond.selects RX0 yX0_ofBeam yX0_ofBeam ∈ TBL := mem_T (i := 410) (by decide +kernel) (by decide +kernel)
theorem k_411 : Cond.code yX0_ofBeam cX0_ofBeam 4 (some .int) ∈ TBL := mem_T (i := 411) (by decide +kernel) (by decide +kernel)
theorem k_421 : Cond.methodLink RX0 49 yX0_columnBits ∈ TBL := mem_T (i := 421) (by decide +kernel) (by decide +kernel)
theorem k_422 : Cond.static yX0_columnBits ∈ TBL := mem_T (i := 422) (by decide +kernel) (by decide +kernel)
theorem k_423 : Cond.code yX0_columnBits cX0_columnBits 4 (some .long) ∈ TBL := mem_T (i := 423) (by decide +kernel) (by decide +kernel)
theorem k_79 : Cond.fieldLink RX1 15 "CreditBeams$OrderReader" "inOrder" "Z" ∈ TBL := mem_T (i := 79) (by decide +kernel) (by decide +kernel)
theorem k_78 : Cond.fieldLink RX1 19 "CreditBeams$OrderReader" "kind" "I" ∈ TBL := mem_T (i := 78) (by decide +kernel) (by decide +kernel)
theorem k_77 : Cond.fieldLink RX1 9 "CreditBeams$OrderReader" "numbers" "[I" ∈ TBL := mem_T (i := 77) (by decide +kernel) (by decide +kernel)
theorem k_80 : Cond.fieldLink RX1 43 "CreditBeams$OrderReader" "place" "I" ∈ TBL := mem_T (i := 80) (by decide +kernel) (by decide +kernel)
theorem k_175 : Cond.fieldLink RX1 68 "CreditBeams$OrderReader" "BEAM_ENDS" "[C" ∈ TBL := mem_T (i := 175) (by decide +kernel) (by decide +kernel)
theorem k_173 : Cond.fieldLink RX1 64 "CreditBeams$OrderReader" "WORD_ENDS" "[C" ∈ TBL := mem_T (i := 173) (by decide +kernel) (by decide +kernel)
theorem k_81 : Cond.fieldLink RX1 34 "CreditBeams$OrderReader" "value" "I" ∈ TBL := mem_T (i := 81) (by decide +kernel) (by decide +kernel)
theorem k_82 : Cond.fieldLink RX1 49 "CreditBeams$OrderReader" "minus" "Z" ∈ TBL := mem_T (i := 82) (by decide +kernel) (by decide +kernel)
theorem k_145 : Cond.methodLink RX1 46 yX1_startNumber ∈ TBL := mem_T (i := 145) (by decide +kernel) (by decide +kernel)
theorem k_147 : Cond.instanceMethod yX1_startNumber ∈ TBL := mem_T (i := 147) (by decide +kernel) (by decide +kernel)
theorem k_s2 : Cond.selects RX1 yX1_startNumber yX1_startNumber ∈ TBL := mem_S (i := 2) (by decide +kernel) (by decide +kernel)
theorem k_4 : Cond.initialized RX1 ∈ TBL := mem_T (i := 4) (by decide +kernel) (by decide +kernel)
theorem k_148 : Cond.code yX1_startNumber cX1_startNumber 1 none ∈ TBL := mem_T (i := 148) (by decide +kernel) (by decide +kernel)
theorem k_169 : Cond.methodLink RX1 37 yX1_endCode ∈ TBL := mem_T (i := 169) (by decide +kernel) (by decide +kernel)
theorem k_171 : Cond.instanceMethod yX1_endCode ∈ TBL := mem_T (i := 171) (by decide +kernel) (by decide +kernel)
theorem k_s7 : Cond.selects RX1 yX1_endCode yX1_endCode ∈ TBL := mem_S (i := 7) (by decide +kernel) (by decide +kernel)
theorem k_172 : Cond.code yX1_endCode cX1_endCode 1 (some .int) ∈ TBL := mem_T (i := 172) (by decide +kernel) (by decide +kernel)
theorem k_163 : Cond.fieldLink RX1 61 "CreditBeams$OrderReader" "BEAM_MOST" "[I" ∈ TBL := mem_T (i := 163) (by decide +kernel) (by decide +kernel)
theorem k_161 : Cond.fieldLink RX1 58 "CreditBeams$OrderReader" "WORD_MOST" "[I" ∈ TBL := mem_T (i := 161) (by decide +kernel) (by decide +kernel)
theorem k_153 : Cond.methodLink RX1 52 yX1_least ∈ TBL := mem_T (i := 153) (by decide +kernel) (by decide +kernel)
theorem k_155 : Cond.instanceMethod yX1_least ∈ TBL := mem_T (i := 155) (by decide +kernel) (by decide +kernel)
theorem k_s4 : Cond.selects RX1 yX1_least yX1_least ∈ TBL := mem_S (i := 4) (by decide +kernel) (by decide +kernel)
theorem k_156 : Cond.code yX1_least cX1_least 1 (some .int) ∈ TBL := mem_T (i := 156) (by decide +kernel) (by decide +kernel)
theorem k_157 : Cond.methodLink RX1 55 yX1_most ∈ TBL := mem_T (i := 157) (by decide +kernel) (by decide +kernel)
theorem k_159 : Cond.instanceMethod yX1_most ∈ TBL := mem_T (i := 159) (by decide +kernel) (by decide +kernel)
theorem k_s5 : Cond.selects RX1 yX1_most yX1_most ∈ TBL := mem_S (i := 5) (by decide +kernel) (by decide +kernel)
theorem k_160 : Cond.code yX1_most cX1_most 1 (some .int) ∈ TBL := mem_T (i := 160) (by decide +kernel) (by decide +kernel)
theorem k_177 : Cond.methodLink RX1 40 yX1_endNumber ∈ TBL := mem_T (i := 177) (by decide +kernel) (by decide +kernel)
theorem k_179 : Cond.instanceMethod yX1_endNumber ∈ TBL := mem_T (i := 179) (by decide +kernel) (by decide +kernel)
theorem k_s8 : Cond.selects RX1 yX1_endNumber yX1_endNumber ∈ TBL := mem_S (i := 8) (by decide +kernel) (by decide +kernel)
theorem k_180 : Cond.code yX1_endNumber cX1_endNumber 2 (some .int) ∈ TBL := mem_T (i := 180) (by decide +kernel) (by decide +kernel)
theorem k_165 : Cond.methodLink RX1 30 yX1_takeMinus ∈ TBL := mem_T (i := 165) (by decide +kernel) (by decide +kernel)
theorem k_167 : Cond.instanceMethod yX1_takeMinus ∈ TBL := mem_T (i := 167) (by decide +kernel) (by decide +kernel)
theorem k_s6 : Cond.selects RX1 yX1_takeMinus yX1_takeMinus ∈ TBL := mem_S (i := 6) (by decide +kernel) (by decide +kernel)
theorem k_168 : Cond.code yX1_takeMinus cX1_takeMinus 2 (some .int) ∈ TBL := mem_T (i := 168) (by decide +kernel) (by decide +kernel)
theorem k_149 : Cond.methodLink RX1 27 yX1_takeDigit ∈ TBL := mem_T (i := 149) (by decide +kernel) (by decide +kernel)
theorem k_151 : Cond.instanceMethod yX1_takeDigit ∈ TBL := mem_T (i := 151) (by decide +kernel) (by decide +kernel)
theorem k_s3 : Cond.selects RX1 yX1_takeDigit yX1_takeDigit ∈ TBL := mem_S (i := 3) (by decide +kernel) (by decide +kernel)
theorem k_152 : Cond.code yX1_takeDigit cX1_takeDigit 3 (some .int) ∈ TBL := mem_T (i := 152) (by decide +kernel) (by decide +kernel)
theorem k_141 : Cond.methodLink RX1 23 yX1_startOrder ∈ TBL := mem_T (i := 141) (by decide +kernel) (by decide +kernel)
theorem k_143 : Cond.instanceMethod yX1_startOrder ∈ TBL := mem_T (i := 143) (by decide +kernel) (by decide +kernel)
theorem k_s1 : Cond.selects RX1 yX1_startOrder yX1_startOrder ∈ TBL := mem_S (i := 1) (by decide +kernel) (by decide +kernel)
theorem k_144 : Cond.code yX1_startOrder cX1_startOrder 2 (some .int) ∈ TBL := mem_T (i := 144) (by decide +kernel) (by decide +kernel)
theorem dJ7_fill_d0a16_0 : decode cJ7_fill_d0a16 0 = .ok (.iconst 0, 1) := by decide +kernel
theorem dJ7_fill_d0a16_1 : decode cJ7_fill_d0a16 1 = .ok (.istore_n 3, 1) := by decide +kernel
theorem dJ7_fill_d0a16_2 : decode cJ7_fill_d0a16 2 = .ok (.aload_n 0, 1) := by decide +kernel
theorem dJ7_fill_d0a16_3 : decode cJ7_fill_d0a16 3 = .ok (.arraylength, 1) := by decide +kernel
theorem dJ7_fill_d0a16_4 : decode cJ7_fill_d0a16 4 = .ok (.istore 4, 2) := by decide +kernel
theorem dJ7_fill_d0a16_6 : decode cJ7_fill_d0a16 6 = .ok (.iload_n 3, 1) := by decide +kernel
theorem dJ7_fill_d0a16_7 : decode cJ7_fill_d0a16 7 = .ok (.iload 4, 2) := by decide +kernel
theorem dJ7_fill_d0a16_9 : decode cJ7_fill_d0a16 9 = .ok (.if_icmp .ge 13, 3) := by decide +kernel
theorem dJ7_fill_d0a16_12 : decode cJ7_fill_d0a16 12 = .ok (.aload_n 0, 1) := by decide +kernel
theorem dJ7_fill_d0a16_13 : decode cJ7_fill_d0a16 13 = .ok (.iload_n 3, 1) := by decide +kernel
theorem dJ7_fill_d0a16_14 : decode cJ7_fill_d0a16 14 = .ok (.lload_n 1, 1) := by decide +kernel
theorem dJ7_fill_d0a16_15 : decode cJ7_fill_d0a16 15 = .ok (.lastore, 1) := by decide +kernel
theorem dJ7_fill_d0a16_16 : decode cJ7_fill_d0a16 16 = .ok (.iinc 3 1, 3) := by decide +kernel
theorem dJ7_fill_d0a16_19 : decode cJ7_fill_d0a16 19 = .ok (.goto (-13), 3) := by decide +kernel
theorem dJ7_fill_d0a16_22 : decode cJ7_fill_d0a16 22 = .ok (.return_, 1) := by decide +kernel
theorem dJ7_fill_53178_0 : decode cJ7_fill_53178 0 = .ok (.iconst 0, 1) := by decide +kernel
theorem dJ7_fill_53178_1 : decode cJ7_fill_53178 1 = .ok (.istore_n 2, 1) := by decide +kernel
theorem dJ7_fill_53178_2 : decode cJ7_fill_53178 2 = .ok (.aload_n 0, 1) := by decide +kernel
theorem dJ7_fill_53178_3 : decode cJ7_fill_53178 3 = .ok (.arraylength, 1) := by decide +kernel
theorem dJ7_fill_53178_4 : decode cJ7_fill_53178 4 = .ok (.istore_n 3, 1) := by decide +kernel
theorem dJ7_fill_53178_5 : decode cJ7_fill_53178 5 = .ok (.iload_n 2, 1) := by decide +kernel
theorem dJ7_fill_53178_6 : decode cJ7_fill_53178 6 = .ok (.iload_n 3, 1) := by decide +kernel
theorem dJ7_fill_53178_7 : decode cJ7_fill_53178 7 = .ok (.if_icmp .ge 13, 3) := by decide +kernel
theorem dJ7_fill_53178_10 : decode cJ7_fill_53178 10 = .ok (.aload_n 0, 1) := by decide +kernel
theorem dJ7_fill_53178_11 : decode cJ7_fill_53178 11 = .ok (.iload_n 2, 1) := by decide +kernel
theorem dJ7_fill_53178_12 : decode cJ7_fill_53178 12 = .ok (.iload_n 1, 1) := by decide +kernel
theorem dJ7_fill_53178_13 : decode cJ7_fill_53178 13 = .ok (.iastore, 1) := by decide +kernel
theorem dJ7_fill_53178_14 : decode cJ7_fill_53178 14 = .ok (.iinc 2 1, 3) := by decide +kernel
theorem dJ7_fill_53178_17 : decode cJ7_fill_53178 17 = .ok (.goto (-12), 3) := by decide +kernel
theorem dJ7_fill_53178_20 : decode cJ7_fill_53178 20 = .ok (.return_, 1) := by decide +kernel
theorem dJxe99ae_isNaN_b9ae7_0 : decode cJxe99ae_isNaN_b9ae7 0 = .ok (.dload_n 0, 1) := by decide +kernel
theorem dJxe99ae_isNaN_b9ae7_1 : decode cJxe99ae_isNaN_b9ae7 1 = .ok (.dload_n 0, 1) := by decide +kernel
theorem dJxe99ae_isNaN_b9ae7_2 : decode cJxe99ae_isNaN_b9ae7 2 = .ok (.dcmp .l, 1) := by decide +kernel
theorem dJxe99ae_isNaN_b9ae7_3 : decode cJxe99ae_isNaN_b9ae7 3 = .ok (.ifCond .eq 7, 3) := by decide +kernel
theorem dJxe99ae_isNaN_b9ae7_6 : decode cJxe99ae_isNaN_b9ae7 6 = .ok (.iconst 1, 1) := by decide +kernel
theorem dJxe99ae_isNaN_b9ae7_7 : decode cJxe99ae_isNaN_b9ae7 7 = .ok (.goto 4, 3) := by decide +kernel
theorem dJxe99ae_isNaN_b9ae7_10 : decode cJxe99ae_isNaN_b9ae7 10 = .ok (.iconst 0, 1) := by decide +kernel
theorem dJxe99ae_isNaN_b9ae7_11 : decode cJxe99ae_isNaN_b9ae7 11 = .ok (.ireturn, 1) := by decide +kernel
theorem dJxe99ae_doubleToLongBits_ccdee_0 : decode cJxe99ae_doubleToLongBits_ccdee 0 = .ok (.dload_n 0, 1) := by decide +kernel
theorem dJxe99ae_doubleToLongBits_ccdee_1 : decode cJxe99ae_doubleToLongBits_ccdee 1 = .ok (.invokestatic 122, 3) := by decide +kernel
theorem dJxe99ae_doubleToLongBits_ccdee_4 : decode cJxe99ae_doubleToLongBits_ccdee 4 = .ok (.ifCond .ne 8, 3) := by decide +kernel
theorem dJxe99ae_doubleToLongBits_ccdee_7 : decode cJxe99ae_doubleToLongBits_ccdee 7 = .ok (.dload_n 0, 1) := by decide +kernel
theorem dJxe99ae_doubleToLongBits_ccdee_8 : decode cJxe99ae_doubleToLongBits_ccdee 8 = .ok (.invokestatic 134, 3) := by decide +kernel
theorem dJxe99ae_doubleToLongBits_ccdee_11 : decode cJxe99ae_doubleToLongBits_ccdee 11 = .ok (.lreturn, 1) := by decide +kernel
theorem dJxe99ae_doubleToLongBits_ccdee_12 : decode cJxe99ae_doubleToLongBits_ccdee 12 = .ok (.ldc2_w 137, 3) := by decide +kernel
theorem dJxe99ae_doubleToLongBits_ccdee_15 : decode cJxe99ae_doubleToLongBits_ccdee 15 = .ok (.lreturn, 1) := by decide +kernel
theorem dX0_copyTo_0 : decode cX0_copyTo 0 = .ok (.iload_n 2, 1) := by decide +kernel
theorem dX0_copyTo_1 : decode cX0_copyTo 1 = .ok (.ifCond .lt 24, 3) := by decide +kernel
theorem dX0_copyTo_4 : decode cX0_copyTo 4 = .ok (.iload_n 2, 1) := by decide +kernel
theorem dX0_copyTo_5 : decode cX0_copyTo 5 = .ok (.bipush 82, 2) := by decide +kernel
theorem dX0_copyTo_7 : decode cX0_copyTo 7 = .ok (.iadd, 1) := by decide +kernel
theorem dX0_copyTo_8 : decode cX0_copyTo 8 = .ok (.aload_n 1, 1) := by decide +kernel
theorem dX0_copyTo_9 : decode cX0_copyTo 9 = .ok (.arraylength, 1) := by decide +kernel
theorem dX0_copyTo_10 : decode cX0_copyTo 10 = .ok (.if_icmp .gt 15, 3) := by decide +kernel
theorem dX0_copyTo_13 : decode cX0_copyTo 13 = .ok (.aload_n 0, 1) := by decide +kernel
theorem dX0_copyTo_14 : decode cX0_copyTo 14 = .ok (.getfield 11, 3) := by decide +kernel
theorem dX0_copyTo_17 : decode cX0_copyTo 17 = .ok (.iconst 0, 1) := by decide +kernel
theorem dX0_copyTo_18 : decode cX0_copyTo 18 = .ok (.aload_n 1, 1) := by decide +kernel
theorem dX0_copyTo_19 : decode cX0_copyTo 19 = .ok (.iload_n 2, 1) := by decide +kernel
theorem dX0_copyTo_20 : decode cX0_copyTo 20 = .ok (.bipush 82, 2) := by decide +kernel
theorem dX0_copyTo_22 : decode cX0_copyTo 22 = .ok (.invokestatic 15, 3) := by decide +kernel
theorem dX0_copyTo_25 : decode cX0_copyTo 25 = .ok (.return_, 1) := by decide +kernel
theorem dX0_copyFrom_0 : decode cX0_copyFrom 0 = .ok (.iload_n 2, 1) := by decide +kernel
theorem dX0_copyFrom_1 : decode cX0_copyFrom 1 = .ok (.ifCond .lt 24, 3) := by decide +kernel
theorem dX0_copyFrom_4 : decode cX0_copyFrom 4 = .ok (.iload_n 2, 1) := by decide +kernel
theorem dX0_copyFrom_5 : decode cX0_copyFrom 5 = .ok (.bipush 82, 2) := by decide +kernel
theorem dX0_copyFrom_7 : decode cX0_copyFrom 7 = .ok (.iadd, 1) := by decide +kernel
theorem dX0_copyFrom_8 : decode cX0_copyFrom 8 = .ok (.aload_n 1, 1) := by decide +kernel
theorem dX0_copyFrom_9 : decode cX0_copyFrom 9 = .ok (.arraylength, 1) := by decide +kernel
theorem dX0_copyFrom_10 : decode cX0_copyFrom 10 = .ok (.if_icmp .gt 15, 3) := by decide +kernel
theorem dX0_copyFrom_13 : decode cX0_copyFrom 13 = .ok (.aload_n 1, 1) := by decide +kernel
theorem dX0_copyFrom_14 : decode cX0_copyFrom 14 = .ok (.iload_n 2, 1) := by decide +kernel
theorem dX0_copyFrom_15 : decode cX0_copyFrom 15 = .ok (.aload_n 0, 1) := by decide +kernel
theorem dX0_copyFrom_16 : decode cX0_copyFrom 16 = .ok (.getfield 11, 3) := by decide +kernel
theorem dX0_copyFrom_19 : decode cX0_copyFrom 19 = .ok (.iconst 0, 1) := by decide +kernel
theorem dX0_copyFrom_20 : decode cX0_copyFrom 20 = .ok (.bipush 82, 2) := by decide +kernel
theorem dX0_copyFrom_22 : decode cX0_copyFrom 22 = .ok (.invokestatic 15, 3) := by decide +kernel
theorem dX0_copyFrom_25 : decode cX0_copyFrom 25 = .ok (.return_, 1) := by decide +kernel
theorem dX0_putCell_0 : decode cX0_putCell 0 = .ok (.iload_n 1, 1) := by decide +kernel
theorem dX0_putCell_1 : decode cX0_putCell 1 = .ok (.ifCond .lt 19, 3) := by decide +kernel
theorem dX0_putCell_4 : decode cX0_putCell 4 = .ok (.iload_n 1, 1) := by decide +kernel
theorem dX0_putCell_5 : decode cX0_putCell 5 = .ok (.aload_n 0, 1) := by decide +kernel
theorem dX0_putCell_6 : decode cX0_putCell 6 = .ok (.getfield 11, 3) := by decide +kernel
theorem dX0_putCell_9 : decode cX0_putCell 9 = .ok (.arraylength, 1) := by decide +kernel
theorem dX0_putCell_10 : decode cX0_putCell 10 = .ok (.if_icmp .ge 10, 3) := by decide +kernel
theorem dX0_putCell_13 : decode cX0_putCell 13 = .ok (.aload_n 0, 1) := by decide +kernel
theorem dX0_putCell_14 : decode cX0_putCell 14 = .ok (.getfield 11, 3) := by decide +kernel
theorem dX0_putCell_17 : decode cX0_putCell 17 = .ok (.iload_n 1, 1) := by decide +kernel
theorem dX0_putCell_18 : decode cX0_putCell 18 = .ok (.iload_n 2, 1) := by decide +kernel
theorem dX0_putCell_19 : decode cX0_putCell 19 = .ok (.iastore, 1) := by decide +kernel
theorem dX0_putCell_20 : decode cX0_putCell 20 = .ok (.return_, 1) := by decide +kernel
theorem dX0_closeGap_0 : decode cX0_closeGap 0 = .ok (.iload_n 1, 1) := by decide +kernel
theorem dX0_closeGap_1 : decode cX0_closeGap 1 = .ok (.ifCond .lt 43, 3) := by decide +kernel
theorem dX0_closeGap_4 : decode cX0_closeGap 4 = .ok (.iload_n 2, 1) := by decide +kernel
theorem dX0_closeGap_5 : decode cX0_closeGap 5 = .ok (.ifCond .lt 39, 3) := by decide +kernel
theorem dX0_closeGap_8 : decode cX0_closeGap 8 = .ok (.iload_n 1, 1) := by decide +kernel
theorem dX0_closeGap_9 : decode cX0_closeGap 9 = .ok (.iload_n 2, 1) := by decide +kernel
theorem dX0_closeGap_10 : decode cX0_closeGap 10 = .ok (.iadd, 1) := by decide +kernel
theorem dX0_closeGap_11 : decode cX0_closeGap 11 = .ok (.iload_n 3, 1) := by decide +kernel
theorem dX0_closeGap_12 : decode cX0_closeGap 12 = .ok (.if_icmp .gt 32, 3) := by decide +kernel
theorem dX0_closeGap_15 : decode cX0_closeGap 15 = .ok (.iload_n 3, 1) := by decide +kernel
theorem dX0_closeGap_16 : decode cX0_closeGap 16 = .ok (.aload_n 0, 1) := by decide +kernel
theorem dX0_closeGap_17 : decode cX0_closeGap 17 = .ok (.getfield 11, 3) := by decide +kernel
theorem dX0_closeGap_20 : decode cX0_closeGap 20 = .ok (.arraylength, 1) := by decide +kernel
theorem dX0_closeGap_21 : decode cX0_closeGap 21 = .ok (.if_icmp .gt 23, 3) := by decide +kernel
theorem dX0_closeGap_24 : decode cX0_closeGap 24 = .ok (.aload_n 0, 1) := by decide +kernel
theorem dX0_closeGap_25 : decode cX0_closeGap 25 = .ok (.getfield 11, 3) := by decide +kernel
theorem dX0_closeGap_28 : decode cX0_closeGap 28 = .ok (.iload_n 1, 1) := by decide +kernel
theorem dX0_closeGap_29 : decode cX0_closeGap 29 = .ok (.iload_n 2, 1) := by decide +kernel
theorem dX0_closeGap_30 : decode cX0_closeGap 30 = .ok (.iadd, 1) := by decide +kernel
theorem dX0_closeGap_31 : decode cX0_closeGap 31 = .ok (.aload_n 0, 1) := by decide +kernel
theorem dX0_closeGap_32 : decode cX0_closeGap 32 = .ok (.getfield 11, 3) := by decide +kernel
theorem dX0_closeGap_35 : decode cX0_closeGap 35 = .ok (.iload_n 1, 1) := by decide +kernel
theorem dX0_closeGap_36 : decode cX0_closeGap 36 = .ok (.iload_n 3, 1) := by decide +kernel
theorem dX0_closeGap_37 : decode cX0_closeGap 37 = .ok (.iload_n 1, 1) := by decide +kernel
theorem dX0_closeGap_38 : decode cX0_closeGap 38 = .ok (.isub, 1) := by decide +kernel
theorem dX0_closeGap_39 : decode cX0_closeGap 39 = .ok (.iload_n 2, 1) := by decide +kernel
theorem dX0_closeGap_40 : decode cX0_closeGap 40 = .ok (.isub, 1) := by decide +kernel
theorem dX0_closeGap_41 : decode cX0_closeGap 41 = .ok (.invokestatic 15, 3) := by decide +kernel
theorem dX0_closeGap_44 : decode cX0_closeGap 44 = .ok (.return_, 1) := by decide +kernel
theorem dX0_words_0 : decode cX0_words 0 = .ok (.aload_n 0, 1) := by decide +kernel
theorem dX0_words_1 : decode cX0_words 1 = .ok (.getfield 11, 3) := by decide +kernel
theorem dX0_words_4 : decode cX0_words 4 = .ok (.bipush 80, 2) := by decide +kernel
theorem dX0_words_6 : decode cX0_words 6 = .ok (.iaload, 1) := by decide +kernel
theorem dX0_words_7 : decode cX0_words 7 = .ok (.ireturn, 1) := by decide +kernel
theorem dX0_hasWord_0 : decode cX0_hasWord 0 = .ok (.iload_n 1, 1) := by decide +kernel
theorem dX0_hasWord_1 : decode cX0_hasWord 1 = .ok (.ifCond .lt 15, 3) := by decide +kernel
theorem dX0_hasWord_4 : decode cX0_hasWord 4 = .ok (.iload_n 1, 1) := by decide +kernel
theorem dX0_hasWord_5 : decode cX0_hasWord 5 = .ok (.aload_n 0, 1) := by decide +kernel
theorem dX0_hasWord_6 : decode cX0_hasWord 6 = .ok (.invokevirtual 21, 3) := by decide +kernel
theorem dX0_hasWord_9 : decode cX0_hasWord 9 = .ok (.if_icmp .ge 7, 3) := by decide +kernel
theorem dX0_hasWord_12 : decode cX0_hasWord 12 = .ok (.iconst 1, 1) := by decide +kernel
theorem dX0_hasWord_13 : decode cX0_hasWord 13 = .ok (.goto 4, 3) := by decide +kernel
theorem dX0_hasWord_16 : decode cX0_hasWord 16 = .ok (.iconst 0, 1) := by decide +kernel
theorem dX0_hasWord_17 : decode cX0_hasWord 17 = .ok (.ireturn, 1) := by decide +kernel
theorem dX0_ofWord_0 : decode cX0_ofWord 0 = .ok (.iload_n 1, 1) := by decide +kernel
theorem dX0_ofWord_1 : decode cX0_ofWord 1 = .ok (.bipush 6, 2) := by decide +kernel
theorem dX0_ofWord_3 : decode cX0_ofWord 3 = .ok (.imul, 1) := by decide +kernel
theorem dX0_ofWord_4 : decode cX0_ofWord 4 = .ok (.iload_n 2, 1) := by decide +kernel
theorem dX0_ofWord_5 : decode cX0_ofWord 5 = .ok (.iadd, 1) := by decide +kernel
theorem dX0_ofWord_6 : decode cX0_ofWord 6 = .ok (.istore_n 3, 1) := by decide +kernel
theorem dX0_ofWord_7 : decode cX0_ofWord 7 = .ok (.iload_n 3, 1) := by decide +kernel
theorem dX0_ofWord_8 : decode cX0_ofWord 8 = .ok (.ifCond .lt 21, 3) := by decide +kernel
theorem dX0_ofWord_11 : decode cX0_ofWord 11 = .ok (.iload_n 3, 1) := by decide +kernel
theorem dX0_ofWord_12 : decode cX0_ofWord 12 = .ok (.aload_n 0, 1) := by decide +kernel
theorem dX0_ofWord_13 : decode cX0_ofWord 13 = .ok (.getfield 11, 3) := by decide +kernel
theorem dX0_ofWord_16 : decode cX0_ofWord 16 = .ok (.arraylength, 1) := by decide +kernel
theorem dX0_ofWord_17 : decode cX0_ofWord 17 = .ok (.if_icmp .ge 12, 3) := by decide +kernel
theorem dX0_ofWord_20 : decode cX0_ofWord 20 = .ok (.aload_n 0, 1) := by decide +kernel
theorem dX0_ofWord_21 : decode cX0_ofWord 21 = .ok (.getfield 11, 3) := by decide +kernel
theorem dX0_ofWord_24 : decode cX0_ofWord 24 = .ok (.iload_n 3, 1) := by decide +kernel
theorem dX0_ofWord_25 : decode cX0_ofWord 25 = .ok (.iaload, 1) := by decide +kernel
theorem dX0_ofWord_26 : decode cX0_ofWord 26 = .ok (.goto 4, 3) := by decide +kernel
theorem dX0_ofWord_29 : decode cX0_ofWord 29 = .ok (.iconst (-1), 1) := by decide +kernel
theorem dX0_ofWord_30 : decode cX0_ofWord 30 = .ok (.ireturn, 1) := by decide +kernel
theorem dX0_putWord_0 : decode cX0_putWord 0 = .ok (.aload_n 0, 1) := by decide +kernel
theorem dX0_putWord_1 : decode cX0_putWord 1 = .ok (.iload_n 1, 1) := by decide +kernel
theorem dX0_putWord_2 : decode cX0_putWord 2 = .ok (.bipush 6, 2) := by decide +kernel
theorem dX0_putWord_4 : decode cX0_putWord 4 = .ok (.imul, 1) := by decide +kernel
theorem dX0_putWord_5 : decode cX0_putWord 5 = .ok (.iload_n 2, 1) := by decide +kernel
theorem dX0_putWord_6 : decode cX0_putWord 6 = .ok (.iadd, 1) := by decide +kernel
theorem dX0_putWord_7 : decode cX0_putWord 7 = .ok (.iload_n 3, 1) := by decide +kernel
theorem dX0_putWord_8 : decode cX0_putWord 8 = .ok (.invokevirtual 25, 3) := by decide +kernel
theorem dX0_putWord_11 : decode cX0_putWord 11 = .ok (.return_, 1) := by decide +kernel
theorem dX0_addWord_0 : decode cX0_addWord 0 = .ok (.aload_n 0, 1) := by decide +kernel
theorem dX0_addWord_1 : decode cX0_addWord 1 = .ok (.invokevirtual 21, 3) := by decide +kernel
theorem dX0_addWord_4 : decode cX0_addWord 4 = .ok (.istore 5, 2) := by decide +kernel
theorem dX0_addWord_6 : decode cX0_addWord 6 = .ok (.aload_n 0, 1) := by decide +kernel
theorem dX0_addWord_7 : decode cX0_addWord 7 = .ok (.iload 5, 2) := by decide +kernel
theorem dX0_addWord_9 : decode cX0_addWord 9 = .ok (.iconst 0, 1) := by decide +kernel
theorem dX0_addWord_10 : decode cX0_addWord 10 = .ok (.iload_n 1, 1) := by decide +kernel
theorem dX0_addWord_11 : decode cX0_addWord 11 = .ok (.invokevirtual 29, 3) := by decide +kernel
theorem dX0_addWord_14 : decode cX0_addWord 14 = .ok (.aload_n 0, 1) := by decide +kernel
theorem dX0_addWord_15 : decode cX0_addWord 15 = .ok (.iload 5, 2) := by decide +kernel
theorem dX0_addWord_17 : decode cX0_addWord 17 = .ok (.iconst 1, 1) := by decide +kernel
theorem dX0_addWord_18 : decode cX0_addWord 18 = .ok (.iload_n 2, 1) := by decide +kernel
theorem dX0_addWord_19 : decode cX0_addWord 19 = .ok (.invokevirtual 29, 3) := by decide +kernel
theorem dX0_addWord_22 : decode cX0_addWord 22 = .ok (.aload_n 0, 1) := by decide +kernel
theorem dX0_addWord_23 : decode cX0_addWord 23 = .ok (.iload 5, 2) := by decide +kernel
theorem dX0_addWord_25 : decode cX0_addWord 25 = .ok (.iconst 2, 1) := by decide +kernel
theorem dX0_addWord_26 : decode cX0_addWord 26 = .ok (.iload_n 3, 1) := by decide +kernel
theorem dX0_addWord_27 : decode cX0_addWord 27 = .ok (.invokevirtual 29, 3) := by decide +kernel
theorem dX0_addWord_30 : decode cX0_addWord 30 = .ok (.aload_n 0, 1) := by decide +kernel
theorem dX0_addWord_31 : decode cX0_addWord 31 = .ok (.iload 5, 2) := by decide +kernel
theorem dX0_addWord_33 : decode cX0_addWord 33 = .ok (.iconst 3, 1) := by decide +kernel
theorem dX0_addWord_34 : decode cX0_addWord 34 = .ok (.iload 4, 2) := by decide +kernel
theorem dX0_addWord_36 : decode cX0_addWord 36 = .ok (.invokevirtual 29, 3) := by decide +kernel
theorem dX0_addWord_39 : decode cX0_addWord 39 = .ok (.aload_n 0, 1) := by decide +kernel
theorem dX0_addWord_40 : decode cX0_addWord 40 = .ok (.iload 5, 2) := by decide +kernel
theorem dX0_addWord_42 : decode cX0_addWord 42 = .ok (.iconst 4, 1) := by decide +kernel
theorem dX0_addWord_43 : decode cX0_addWord 43 = .ok (.iconst 0, 1) := by decide +kernel
theorem dX0_addWord_44 : decode cX0_addWord 44 = .ok (.invokevirtual 29, 3) := by decide +kernel
theorem dX0_addWord_47 : decode cX0_addWord 47 = .ok (.aload_n 0, 1) := by decide +kernel
theorem dX0_addWord_48 : decode cX0_addWord 48 = .ok (.iload 5, 2) := by decide +kernel
theorem dX0_addWord_50 : decode cX0_addWord 50 = .ok (.iconst 5, 1) := by decide +kernel
theorem dX0_addWord_51 : decode cX0_addWord 51 = .ok (.iconst 4, 1) := by decide +kernel
theorem dX0_addWord_52 : decode cX0_addWord 52 = .ok (.invokevirtual 29, 3) := by decide +kernel
theorem dX0_addWord_55 : decode cX0_addWord 55 = .ok (.aload_n 0, 1) := by decide +kernel
theorem dX0_addWord_56 : decode cX0_addWord 56 = .ok (.bipush 80, 2) := by decide +kernel
theorem dX0_addWord_58 : decode cX0_addWord 58 = .ok (.iload 5, 2) := by decide +kernel
theorem dX0_addWord_60 : decode cX0_addWord 60 = .ok (.iconst 1, 1) := by decide +kernel
theorem dX0_addWord_61 : decode cX0_addWord 61 = .ok (.iadd, 1) := by decide +kernel
theorem dX0_addWord_62 : decode cX0_addWord 62 = .ok (.invokevirtual 25, 3) := by decide +kernel
theorem dX0_addWord_65 : decode cX0_addWord 65 = .ok (.iload 5, 2) := by decide +kernel
theorem dX0_addWord_67 : decode cX0_addWord 67 = .ok (.ireturn, 1) := by decide +kernel
theorem dX0_dropWord_0 : decode cX0_dropWord 0 = .ok (.aload_n 0, 1) := by decide +kernel
theorem dX0_dropWord_1 : decode cX0_dropWord 1 = .ok (.iload_n 1, 1) := by decide +kernel
theorem dX0_dropWord_2 : decode cX0_dropWord 2 = .ok (.bipush 6, 2) := by decide +kernel
theorem dX0_dropWord_4 : decode cX0_dropWord 4 = .ok (.imul, 1) := by decide +kernel
theorem dX0_dropWord_5 : decode cX0_dropWord 5 = .ok (.bipush 6, 2) := by decide +kernel
theorem dX0_dropWord_7 : decode cX0_dropWord 7 = .ok (.bipush 48, 2) := by decide +kernel
theorem dX0_dropWord_9 : decode cX0_dropWord 9 = .ok (.invokevirtual 33, 3) := by decide +kernel
theorem dX0_dropWord_12 : decode cX0_dropWord 12 = .ok (.aload_n 0, 1) := by decide +kernel
theorem dX0_dropWord_13 : decode cX0_dropWord 13 = .ok (.bipush 80, 2) := by decide +kernel
theorem dX0_dropWord_15 : decode cX0_dropWord 15 = .ok (.aload_n 0, 1) := by decide +kernel
theorem dX0_dropWord_16 : decode cX0_dropWord 16 = .ok (.invokevirtual 21, 3) := by decide +kernel
theorem dX0_dropWord_19 : decode cX0_dropWord 19 = .ok (.iconst 1, 1) := by decide +kernel
theorem dX0_dropWord_20 : decode cX0_dropWord 20 = .ok (.isub, 1) := by decide +kernel
theorem dX0_dropWord_21 : decode cX0_dropWord 21 = .ok (.invokevirtual 25, 3) := by decide +kernel
theorem dX0_dropWord_24 : decode cX0_dropWord 24 = .ok (.return_, 1) := by decide +kernel
theorem dX0_beams_0 : decode cX0_beams 0 = .ok (.aload_n 0, 1) := by decide +kernel
theorem dX0_beams_1 : decode cX0_beams 1 = .ok (.getfield 11, 3) := by decide +kernel
theorem dX0_beams_4 : decode cX0_beams 4 = .ok (.bipush 81, 2) := by decide +kernel
theorem dX0_beams_6 : decode cX0_beams 6 = .ok (.iaload, 1) := by decide +kernel
theorem dX0_beams_7 : decode cX0_beams 7 = .ok (.ireturn, 1) := by decide +kernel
theorem dX0_hasBeam_0 : decode cX0_hasBeam 0 = .ok (.iload_n 1, 1) := by decide +kernel
theorem dX0_hasBeam_1 : decode cX0_hasBeam 1 = .ok (.ifCond .lt 15, 3) := by decide +kernel
theorem dX0_hasBeam_4 : decode cX0_hasBeam 4 = .ok (.iload_n 1, 1) := by decide +kernel
theorem dX0_hasBeam_5 : decode cX0_hasBeam 5 = .ok (.aload_n 0, 1) := by decide +kernel
theorem dX0_hasBeam_6 : decode cX0_hasBeam 6 = .ok (.invokevirtual 36, 3) := by decide +kernel
theorem dX0_hasBeam_9 : decode cX0_hasBeam 9 = .ok (.if_icmp .ge 7, 3) := by decide +kernel
theorem dX0_hasBeam_12 : decode cX0_hasBeam 12 = .ok (.iconst 1, 1) := by decide +kernel
theorem dX0_hasBeam_13 : decode cX0_hasBeam 13 = .ok (.goto 4, 3) := by decide +kernel
theorem dX0_hasBeam_16 : decode cX0_hasBeam 16 = .ok (.iconst 0, 1) := by decide +kernel
theorem dX0_hasBeam_17 : decode cX0_hasBeam 17 = .ok (.ireturn, 1) := by decide +kernel
theorem dX0_ofBeam_0 : decode cX0_ofBeam 0 = .ok (.bipush 48, 2) := by decide +kernel
theorem dX0_ofBeam_2 : decode cX0_ofBeam 2 = .ok (.iload_n 1, 1) := by decide +kernel
theorem dX0_ofBeam_3 : decode cX0_ofBeam 3 = .ok (.iconst 5, 1) := by decide +kernel
theorem dX0_ofBeam_4 : decode cX0_ofBeam 4 = .ok (.imul, 1) := by decide +kernel
theorem dX0_ofBeam_5 : decode cX0_ofBeam 5 = .ok (.iadd, 1) := by decide +kernel
theorem dX0_ofBeam_6 : decode cX0_ofBeam 6 = .ok (.iload_n 2, 1) := by decide +kernel
theorem dX0_ofBeam_7 : decode cX0_ofBeam 7 = .ok (.iadd, 1) := by decide +kernel
theorem dX0_ofBeam_8 : decode cX0_ofBeam 8 = .ok (.istore_n 3, 1) := by decide +kernel
theorem dX0_ofBeam_9 : decode cX0_ofBeam 9 = .ok (.iload_n 3, 1) := by decide +kernel
theorem dX0_ofBeam_10 : decode cX0_ofBeam 10 = .ok (.ifCond .lt 21, 3) := by decide +kernel
theorem dX0_ofBeam_13 : decode cX0_ofBeam 13 = .ok (.iload_n 3, 1) := by decide +kernel
theorem dX0_ofBeam_14 : decode cX0_ofBeam 14 = .ok (.aload_n 0, 1) := by decide +kernel
theorem dX0_ofBeam_15 : decode cX0_ofBeam 15 = .ok (.getfield 11, 3) := by decide +kernel
theorem dX0_ofBeam_18 : decode cX0_ofBeam 18 = .ok (.arraylength, 1) := by decide +kernel
theorem dX0_ofBeam_19 : decode cX0_ofBeam 19 = .ok (.if_icmp .ge 12, 3) := by decide +kernel
theorem dX0_ofBeam_22 : decode cX0_ofBeam 22 = .ok (.aload_n 0, 1) := by decide +kernel
theorem dX0_ofBeam_23 : decode cX0_ofBeam 23 = .ok (.getfield 11, 3) := by decide +kernel
theorem dX0_ofBeam_26 : decode cX0_ofBeam 26 = .ok (.iload_n 3, 1) := by decide +kernel
theorem dX0_ofBeam_27 : decode cX0_ofBeam 27 = .ok (.iaload, 1) := by decide +kernel
theorem dX0_ofBeam_28 : decode cX0_ofBeam 28 = .ok (.goto 4, 3) := by decide +kernel
theorem dX0_ofBeam_31 : decode cX0_ofBeam 31 = .ok (.iconst (-1), 1) := by decide +kernel
theorem dX0_ofBeam_32 : decode cX0_ofBeam 32 = .ok (.ireturn, 1) := by decide +kernel
theorem dX0_putBeam_0 : decode cX0_putBeam 0 = .ok (.aload_n 0, 1) := by decide +kernel
theorem dX0_putBeam_1 : decode cX0_putBeam 1 = .ok (.bipush 48, 2) := by decide +kernel
theorem dX0_putBeam_3 : decode cX0_putBeam 3 = .ok (.iload_n 1, 1) := by decide +kernel
theorem dX0_putBeam_4 : decode cX0_putBeam 4 = .ok (.iconst 5, 1) := by decide +kernel
theorem dX0_putBeam_5 : decode cX0_putBeam 5 = .ok (.imul, 1) := by decide +kernel
theorem dX0_putBeam_6 : decode cX0_putBeam 6 = .ok (.iadd, 1) := by decide +kernel
theorem dX0_putBeam_7 : decode cX0_putBeam 7 = .ok (.iload_n 2, 1) := by decide +kernel
theorem dX0_putBeam_8 : decode cX0_putBeam 8 = .ok (.iadd, 1) := by decide +kernel
theorem dX0_putBeam_9 : decode cX0_putBeam 9 = .ok (.iload_n 3, 1) := by decide +kernel
theorem dX0_putBeam_10 : decode cX0_putBeam 10 = .ok (.invokevirtual 25, 3) := by decide +kernel
theorem dX0_putBeam_13 : decode cX0_putBeam 13 = .ok (.return_, 1) := by decide +kernel
theorem dX0_addBeam_0 : decode cX0_addBeam 0 = .ok (.aload_n 0, 1) := by decide +kernel
theorem dX0_addBeam_1 : decode cX0_addBeam 1 = .ok (.invokevirtual 36, 3) := by decide +kernel
theorem dX0_addBeam_4 : decode cX0_addBeam 4 = .ok (.istore 6, 2) := by decide +kernel
theorem dX0_addBeam_6 : decode cX0_addBeam 6 = .ok (.aload_n 0, 1) := by decide +kernel
theorem dX0_addBeam_7 : decode cX0_addBeam 7 = .ok (.iload 6, 2) := by decide +kernel
theorem dX0_addBeam_9 : decode cX0_addBeam 9 = .ok (.iconst 0, 1) := by decide +kernel
theorem dX0_addBeam_10 : decode cX0_addBeam 10 = .ok (.iload_n 1, 1) := by decide +kernel
theorem dX0_addBeam_11 : decode cX0_addBeam 11 = .ok (.invokevirtual 39, 3) := by decide +kernel
theorem dX0_addBeam_14 : decode cX0_addBeam 14 = .ok (.aload_n 0, 1) := by decide +kernel
theorem dX0_addBeam_15 : decode cX0_addBeam 15 = .ok (.iload 6, 2) := by decide +kernel
theorem dX0_addBeam_17 : decode cX0_addBeam 17 = .ok (.iconst 1, 1) := by decide +kernel
theorem dX0_addBeam_18 : decode cX0_addBeam 18 = .ok (.iload_n 2, 1) := by decide +kernel
theorem dX0_addBeam_19 : decode cX0_addBeam 19 = .ok (.invokevirtual 39, 3) := by decide +kernel
theorem dX0_addBeam_22 : decode cX0_addBeam 22 = .ok (.aload_n 0, 1) := by decide +kernel
theorem dX0_addBeam_23 : decode cX0_addBeam 23 = .ok (.iload 6, 2) := by decide +kernel
theorem dX0_addBeam_25 : decode cX0_addBeam 25 = .ok (.iconst 2, 1) := by decide +kernel
theorem dX0_addBeam_26 : decode cX0_addBeam 26 = .ok (.iload_n 3, 1) := by decide +kernel
theorem dX0_addBeam_27 : decode cX0_addBeam 27 = .ok (.invokevirtual 39, 3) := by decide +kernel
theorem dX0_addBeam_30 : decode cX0_addBeam 30 = .ok (.aload_n 0, 1) := by decide +kernel
theorem dX0_addBeam_31 : decode cX0_addBeam 31 = .ok (.iload 6, 2) := by decide +kernel
theorem dX0_addBeam_33 : decode cX0_addBeam 33 = .ok (.iconst 3, 1) := by decide +kernel
theorem dX0_addBeam_34 : decode cX0_addBeam 34 = .ok (.iload 4, 2) := by decide +kernel
theorem dX0_addBeam_36 : decode cX0_addBeam 36 = .ok (.invokevirtual 39, 3) := by decide +kernel
theorem dX0_addBeam_39 : decode cX0_addBeam 39 = .ok (.aload_n 0, 1) := by decide +kernel
theorem dX0_addBeam_40 : decode cX0_addBeam 40 = .ok (.iload 6, 2) := by decide +kernel
theorem dX0_addBeam_42 : decode cX0_addBeam 42 = .ok (.iconst 4, 1) := by decide +kernel
theorem dX0_addBeam_43 : decode cX0_addBeam 43 = .ok (.iload 5, 2) := by decide +kernel
theorem dX0_addBeam_45 : decode cX0_addBeam 45 = .ok (.invokevirtual 39, 3) := by decide +kernel
theorem dX0_addBeam_48 : decode cX0_addBeam 48 = .ok (.aload_n 0, 1) := by decide +kernel
theorem dX0_addBeam_49 : decode cX0_addBeam 49 = .ok (.bipush 81, 2) := by decide +kernel
theorem dX0_addBeam_51 : decode cX0_addBeam 51 = .ok (.iload 6, 2) := by decide +kernel
theorem dX0_addBeam_53 : decode cX0_addBeam 53 = .ok (.iconst 1, 1) := by decide +kernel
theorem dX0_addBeam_54 : decode cX0_addBeam 54 = .ok (.iadd, 1) := by decide +kernel
theorem dX0_addBeam_55 : decode cX0_addBeam 55 = .ok (.invokevirtual 25, 3) := by decide +kernel
theorem dX0_addBeam_58 : decode cX0_addBeam 58 = .ok (.iload 6, 2) := by decide +kernel
theorem dX0_addBeam_60 : decode cX0_addBeam 60 = .ok (.ireturn, 1) := by decide +kernel
theorem dX0_dropBeam_0 : decode cX0_dropBeam 0 = .ok (.aload_n 0, 1) := by decide +kernel
theorem dX0_dropBeam_1 : decode cX0_dropBeam 1 = .ok (.bipush 48, 2) := by decide +kernel
theorem dX0_dropBeam_3 : decode cX0_dropBeam 3 = .ok (.iload_n 1, 1) := by decide +kernel
theorem dX0_dropBeam_4 : decode cX0_dropBeam 4 = .ok (.iconst 5, 1) := by decide +kernel
theorem dX0_dropBeam_5 : decode cX0_dropBeam 5 = .ok (.imul, 1) := by decide +kernel
theorem dX0_dropBeam_6 : decode cX0_dropBeam 6 = .ok (.iadd, 1) := by decide +kernel
theorem dX0_dropBeam_7 : decode cX0_dropBeam 7 = .ok (.iconst 5, 1) := by decide +kernel
theorem dX0_dropBeam_8 : decode cX0_dropBeam 8 = .ok (.bipush 78, 2) := by decide +kernel
theorem dX0_dropBeam_10 : decode cX0_dropBeam 10 = .ok (.invokevirtual 33, 3) := by decide +kernel
theorem dX0_dropBeam_13 : decode cX0_dropBeam 13 = .ok (.aload_n 0, 1) := by decide +kernel
theorem dX0_dropBeam_14 : decode cX0_dropBeam 14 = .ok (.bipush 81, 2) := by decide +kernel
theorem dX0_dropBeam_16 : decode cX0_dropBeam 16 = .ok (.aload_n 0, 1) := by decide +kernel
theorem dX0_dropBeam_17 : decode cX0_dropBeam 17 = .ok (.invokevirtual 36, 3) := by decide +kernel
theorem dX0_dropBeam_20 : decode cX0_dropBeam 20 = .ok (.iconst 1, 1) := by decide +kernel
theorem dX0_dropBeam_21 : decode cX0_dropBeam 21 = .ok (.isub, 1) := by decide +kernel
theorem dX0_dropBeam_22 : decode cX0_dropBeam 22 = .ok (.invokevirtual 25, 3) := by decide +kernel
theorem dX0_dropBeam_25 : decode cX0_dropBeam 25 = .ok (.return_, 1) := by decide +kernel
theorem dX0_setting_0 : decode cX0_setting 0 = .ok (.bipush 78, 2) := by decide +kernel
theorem dX0_setting_2 : decode cX0_setting 2 = .ok (.iload_n 1, 1) := by decide +kernel
theorem dX0_setting_3 : decode cX0_setting 3 = .ok (.iadd, 1) := by decide +kernel
theorem dX0_setting_4 : decode cX0_setting 4 = .ok (.istore_n 2, 1) := by decide +kernel
theorem dX0_setting_5 : decode cX0_setting 5 = .ok (.iload_n 2, 1) := by decide +kernel
theorem dX0_setting_6 : decode cX0_setting 6 = .ok (.ifCond .lt 21, 3) := by decide +kernel
theorem dX0_setting_9 : decode cX0_setting 9 = .ok (.iload_n 2, 1) := by decide +kernel
theorem dX0_setting_10 : decode cX0_setting 10 = .ok (.aload_n 0, 1) := by decide +kernel
theorem dX0_setting_11 : decode cX0_setting 11 = .ok (.getfield 11, 3) := by decide +kernel
theorem dX0_setting_14 : decode cX0_setting 14 = .ok (.arraylength, 1) := by decide +kernel
theorem dX0_setting_15 : decode cX0_setting 15 = .ok (.if_icmp .ge 12, 3) := by decide +kernel
theorem dX0_setting_18 : decode cX0_setting 18 = .ok (.aload_n 0, 1) := by decide +kernel
theorem dX0_setting_19 : decode cX0_setting 19 = .ok (.getfield 11, 3) := by decide +kernel
theorem dX0_setting_22 : decode cX0_setting 22 = .ok (.iload_n 2, 1) := by decide +kernel
theorem dX0_setting_23 : decode cX0_setting 23 = .ok (.iaload, 1) := by decide +kernel
theorem dX0_setting_24 : decode cX0_setting 24 = .ok (.goto 4, 3) := by decide +kernel
theorem dX0_setting_27 : decode cX0_setting 27 = .ok (.iconst (-1), 1) := by decide +kernel
theorem dX0_setting_28 : decode cX0_setting 28 = .ok (.ireturn, 1) := by decide +kernel
theorem dX0_putSetting_0 : decode cX0_putSetting 0 = .ok (.aload_n 0, 1) := by decide +kernel
theorem dX0_putSetting_1 : decode cX0_putSetting 1 = .ok (.bipush 78, 2) := by decide +kernel
theorem dX0_putSetting_3 : decode cX0_putSetting 3 = .ok (.iload_n 1, 1) := by decide +kernel
theorem dX0_putSetting_4 : decode cX0_putSetting 4 = .ok (.iadd, 1) := by decide +kernel
theorem dX0_putSetting_5 : decode cX0_putSetting 5 = .ok (.iload_n 2, 1) := by decide +kernel
theorem dX0_putSetting_6 : decode cX0_putSetting 6 = .ok (.invokevirtual 25, 3) := by decide +kernel
theorem dX0_putSetting_9 : decode cX0_putSetting 9 = .ok (.return_, 1) := by decide +kernel
theorem dX0_letters_0 : decode cX0_letters 0 = .ok (.iconst 0, 1) := by decide +kernel
theorem dX0_letters_1 : decode cX0_letters 1 = .ok (.istore_n 1, 1) := by decide +kernel
theorem dX0_letters_2 : decode cX0_letters 2 = .ok (.iconst 0, 1) := by decide +kernel
theorem dX0_letters_3 : decode cX0_letters 3 = .ok (.istore_n 2, 1) := by decide +kernel
theorem dX0_letters_4 : decode cX0_letters 4 = .ok (.iload_n 2, 1) := by decide +kernel
theorem dX0_letters_5 : decode cX0_letters 5 = .ok (.aload_n 0, 1) := by decide +kernel
theorem dX0_letters_6 : decode cX0_letters 6 = .ok (.invokevirtual 21, 3) := by decide +kernel
theorem dX0_letters_9 : decode cX0_letters 9 = .ok (.if_icmp .ge 18, 3) := by decide +kernel
theorem dX0_letters_12 : decode cX0_letters 12 = .ok (.iload_n 1, 1) := by decide +kernel
theorem dX0_letters_13 : decode cX0_letters 13 = .ok (.aload_n 0, 1) := by decide +kernel
theorem dX0_letters_14 : decode cX0_letters 14 = .ok (.iload_n 2, 1) := by decide +kernel
theorem dX0_letters_15 : decode cX0_letters 15 = .ok (.iconst 0, 1) := by decide +kernel
theorem dX0_letters_16 : decode cX0_letters 16 = .ok (.invokevirtual 42, 3) := by decide +kernel
theorem dX0_letters_19 : decode cX0_letters 19 = .ok (.iadd, 1) := by decide +kernel
theorem dX0_letters_20 : decode cX0_letters 20 = .ok (.istore_n 1, 1) := by decide +kernel
theorem dX0_letters_21 : decode cX0_letters 21 = .ok (.iinc 2 1, 3) := by decide +kernel
theorem dX0_letters_24 : decode cX0_letters 24 = .ok (.goto (-20), 3) := by decide +kernel
theorem dX0_letters_27 : decode cX0_letters 27 = .ok (.iload_n 1, 1) := by decide +kernel
theorem dX0_letters_28 : decode cX0_letters 28 = .ok (.ireturn, 1) := by decide +kernel
theorem dX0_columnBits_0 : decode cX0_columnBits 0 = .ok (.iload_n 0, 1) := by decide +kernel
theorem dX0_columnBits_1 : decode cX0_columnBits 1 = .ok (.iconst 0, 1) := by decide +kernel
theorem dX0_columnBits_2 : decode cX0_columnBits 2 = .ok (.invokestatic 53, 3) := by decide +kernel
theorem dX0_columnBits_5 : decode cX0_columnBits 5 = .ok (.istore_n 2, 1) := by decide +kernel
theorem dX0_columnBits_6 : decode cX0_columnBits 6 = .ok (.iload_n 0, 1) := by decide +kernel
theorem dX0_columnBits_7 : decode cX0_columnBits 7 = .ok (.iload_n 1, 1) := by decide +kernel
theorem dX0_columnBits_8 : decode cX0_columnBits 8 = .ok (.iadd, 1) := by decide +kernel
theorem dX0_columnBits_9 : decode cX0_columnBits 9 = .ok (.bipush 60, 2) := by decide +kernel
theorem dX0_columnBits_11 : decode cX0_columnBits 11 = .ok (.invokestatic 58, 3) := by decide +kernel
theorem dX0_columnBits_14 : decode cX0_columnBits 14 = .ok (.istore_n 3, 1) := by decide +kernel
theorem dX0_columnBits_15 : decode cX0_columnBits 15 = .ok (.iload_n 2, 1) := by decide +kernel
theorem dX0_columnBits_16 : decode cX0_columnBits 16 = .ok (.iload_n 3, 1) := by decide +kernel
theorem dX0_columnBits_17 : decode cX0_columnBits 17 = .ok (.if_icmp .ge 15, 3) := by decide +kernel
theorem dX0_columnBits_20 : decode cX0_columnBits 20 = .ok (.lconst 1, 1) := by decide +kernel
theorem dX0_columnBits_21 : decode cX0_columnBits 21 = .ok (.iload_n 3, 1) := by decide +kernel
theorem dX0_columnBits_22 : decode cX0_columnBits 22 = .ok (.iload_n 2, 1) := by decide +kernel
theorem dX0_columnBits_23 : decode cX0_columnBits 23 = .ok (.isub, 1) := by decide +kernel
theorem dX0_columnBits_24 : decode cX0_columnBits 24 = .ok (.lshl, 1) := by decide +kernel
theorem dX0_columnBits_25 : decode cX0_columnBits 25 = .ok (.lconst 1, 1) := by decide +kernel
theorem dX0_columnBits_26 : decode cX0_columnBits 26 = .ok (.lsub, 1) := by decide +kernel
theorem dX0_columnBits_27 : decode cX0_columnBits 27 = .ok (.iload_n 2, 1) := by decide +kernel
theorem dX0_columnBits_28 : decode cX0_columnBits 28 = .ok (.lshl, 1) := by decide +kernel
theorem dX0_columnBits_29 : decode cX0_columnBits 29 = .ok (.goto 4, 3) := by decide +kernel
theorem dX0_columnBits_32 : decode cX0_columnBits 32 = .ok (.lconst 0, 1) := by decide +kernel
theorem dX0_columnBits_33 : decode cX0_columnBits 33 = .ok (.lreturn, 1) := by decide +kernel
theorem dX0_coveredBy_0 : decode cX0_coveredBy 0 = .ok (.iload_n 2, 1) := by decide +kernel
theorem dX0_coveredBy_1 : decode cX0_coveredBy 1 = .ok (.aload_n 0, 1) := by decide +kernel
theorem dX0_coveredBy_2 : decode cX0_coveredBy 2 = .ok (.iload_n 1, 1) := by decide +kernel
theorem dX0_coveredBy_3 : decode cX0_coveredBy 3 = .ok (.iconst 0, 1) := by decide +kernel
theorem dX0_coveredBy_4 : decode cX0_coveredBy 4 = .ok (.invokevirtual 46, 3) := by decide +kernel
theorem dX0_coveredBy_7 : decode cX0_coveredBy 7 = .ok (.isub, 1) := by decide +kernel
theorem dX0_coveredBy_8 : decode cX0_coveredBy 8 = .ok (.istore_n 3, 1) := by decide +kernel
theorem dX0_coveredBy_9 : decode cX0_coveredBy 9 = .ok (.aload_n 0, 1) := by decide +kernel
theorem dX0_coveredBy_10 : decode cX0_coveredBy 10 = .ok (.iload_n 1, 1) := by decide +kernel
theorem dX0_coveredBy_11 : decode cX0_coveredBy 11 = .ok (.iconst 1, 1) := by decide +kernel
theorem dX0_coveredBy_12 : decode cX0_coveredBy 12 = .ok (.invokevirtual 46, 3) := by decide +kernel
theorem dX0_coveredBy_15 : decode cX0_coveredBy 15 = .ok (.aload_n 0, 1) := by decide +kernel
theorem dX0_coveredBy_16 : decode cX0_coveredBy 16 = .ok (.iload_n 1, 1) := by decide +kernel
theorem dX0_coveredBy_17 : decode cX0_coveredBy 17 = .ok (.iconst 2, 1) := by decide +kernel
theorem dX0_coveredBy_18 : decode cX0_coveredBy 18 = .ok (.invokevirtual 46, 3) := by decide +kernel
theorem dX0_coveredBy_21 : decode cX0_coveredBy 21 = .ok (.iload_n 3, 1) := by decide +kernel
theorem dX0_coveredBy_22 : decode cX0_coveredBy 22 = .ok (.imul, 1) := by decide +kernel
theorem dX0_coveredBy_23 : decode cX0_coveredBy 23 = .ok (.iadd, 1) := by decide +kernel
theorem dX0_coveredBy_24 : decode cX0_coveredBy 24 = .ok (.istore 4, 2) := by decide +kernel
theorem dX0_coveredBy_26 : decode cX0_coveredBy 26 = .ok (.iload_n 3, 1) := by decide +kernel
theorem dX0_coveredBy_27 : decode cX0_coveredBy 27 = .ok (.ifCond .ge 7, 3) := by decide +kernel
theorem dX0_coveredBy_30 : decode cX0_coveredBy 30 = .ok (.lconst 0, 1) := by decide +kernel
theorem dX0_coveredBy_31 : decode cX0_coveredBy 31 = .ok (.goto 14, 3) := by decide +kernel
theorem dX0_coveredBy_34 : decode cX0_coveredBy 34 = .ok (.iload 4, 2) := by decide +kernel
theorem dX0_coveredBy_36 : decode cX0_coveredBy 36 = .ok (.aload_n 0, 1) := by decide +kernel
theorem dX0_coveredBy_37 : decode cX0_coveredBy 37 = .ok (.iload_n 1, 1) := by decide +kernel
theorem dX0_coveredBy_38 : decode cX0_coveredBy 38 = .ok (.iconst 3, 1) := by decide +kernel
theorem dX0_coveredBy_39 : decode cX0_coveredBy 39 = .ok (.invokevirtual 46, 3) := by decide +kernel
theorem dX0_coveredBy_42 : decode cX0_coveredBy 42 = .ok (.invokestatic 49, 3) := by decide +kernel
theorem dX0_coveredBy_45 : decode cX0_coveredBy 45 = .ok (.lreturn, 1) := by decide +kernel
theorem dX1_start_0 : decode cX1_start 0 = .ok (.aload_n 0, 1) := by decide +kernel
theorem dX1_start_1 : decode cX1_start 1 = .ok (.iconst 0, 1) := by decide +kernel
theorem dX1_start_2 : decode cX1_start 2 = .ok (.putfield 15, 3) := by decide +kernel
theorem dX1_start_5 : decode cX1_start 5 = .ok (.return_, 1) := by decide +kernel
theorem dX1_tellsWord_0 : decode cX1_tellsWord 0 = .ok (.aload_n 0, 1) := by decide +kernel
theorem dX1_tellsWord_1 : decode cX1_tellsWord 1 = .ok (.getfield 19, 3) := by decide +kernel
theorem dX1_tellsWord_4 : decode cX1_tellsWord 4 = .ok (.bipush 119, 2) := by decide +kernel
theorem dX1_tellsWord_6 : decode cX1_tellsWord 6 = .ok (.if_icmp .ne 7, 3) := by decide +kernel
theorem dX1_tellsWord_9 : decode cX1_tellsWord 9 = .ok (.iconst 1, 1) := by decide +kernel
theorem dX1_tellsWord_10 : decode cX1_tellsWord 10 = .ok (.goto 4, 3) := by decide +kernel
theorem dX1_tellsWord_13 : decode cX1_tellsWord 13 = .ok (.iconst 0, 1) := by decide +kernel
theorem dX1_tellsWord_14 : decode cX1_tellsWord 14 = .ok (.ireturn, 1) := by decide +kernel
theorem dX1_number_0 : decode cX1_number 0 = .ok (.iload_n 1, 1) := by decide +kernel
theorem dX1_number_1 : decode cX1_number 1 = .ok (.ifCond .lt 21, 3) := by decide +kernel
theorem dX1_number_4 : decode cX1_number 4 = .ok (.iload_n 1, 1) := by decide +kernel
theorem dX1_number_5 : decode cX1_number 5 = .ok (.aload_n 0, 1) := by decide +kernel
theorem dX1_number_6 : decode cX1_number 6 = .ok (.getfield 9, 3) := by decide +kernel
theorem dX1_number_9 : decode cX1_number 9 = .ok (.arraylength, 1) := by decide +kernel
theorem dX1_number_10 : decode cX1_number 10 = .ok (.if_icmp .ge 12, 3) := by decide +kernel
theorem dX1_number_13 : decode cX1_number 13 = .ok (.aload_n 0, 1) := by decide +kernel
theorem dX1_number_14 : decode cX1_number 14 = .ok (.getfield 9, 3) := by decide +kernel
theorem dX1_number_17 : decode cX1_number 17 = .ok (.iload_n 1, 1) := by decide +kernel
theorem dX1_number_18 : decode cX1_number 18 = .ok (.iaload, 1) := by decide +kernel
theorem dX1_number_19 : decode cX1_number 19 = .ok (.goto 4, 3) := by decide +kernel
theorem dX1_number_22 : decode cX1_number 22 = .ok (.iconst (-1), 1) := by decide +kernel
theorem dX1_number_23 : decode cX1_number 23 = .ok (.ireturn, 1) := by decide +kernel
theorem dX1_endCode_0 : decode cX1_endCode 0 = .ok (.aload_n 0, 1) := by decide +kernel
theorem dX1_endCode_1 : decode cX1_endCode 1 = .ok (.getfield 19, 3) := by decide +kernel
theorem dX1_endCode_4 : decode cX1_endCode 4 = .ok (.bipush 119, 2) := by decide +kernel
theorem dX1_endCode_6 : decode cX1_endCode 6 = .ok (.if_icmp .ne 34, 3) := by decide +kernel
theorem dX1_endCode_9 : decode cX1_endCode 9 = .ok (.aload_n 0, 1) := by decide +kernel
theorem dX1_endCode_10 : decode cX1_endCode 10 = .ok (.getfield 43, 3) := by decide +kernel
theorem dX1_endCode_13 : decode cX1_endCode 13 = .ok (.ifCond .lt 25, 3) := by decide +kernel
theorem dX1_endCode_16 : decode cX1_endCode 16 = .ok (.aload_n 0, 1) := by decide +kernel
theorem dX1_endCode_17 : decode cX1_endCode 17 = .ok (.getfield 43, 3) := by decide +kernel
theorem dX1_endCode_20 : decode cX1_endCode 20 = .ok (.getstatic 64, 3) := by decide +kernel
theorem dX1_endCode_23 : decode cX1_endCode 23 = .ok (.arraylength, 1) := by decide +kernel
theorem dX1_endCode_24 : decode cX1_endCode 24 = .ok (.if_icmp .ge 14, 3) := by decide +kernel
theorem dX1_endCode_27 : decode cX1_endCode 27 = .ok (.getstatic 64, 3) := by decide +kernel
theorem dX1_endCode_30 : decode cX1_endCode 30 = .ok (.aload_n 0, 1) := by decide +kernel
theorem dX1_endCode_31 : decode cX1_endCode 31 = .ok (.getfield 43, 3) := by decide +kernel
theorem dX1_endCode_34 : decode cX1_endCode 34 = .ok (.caload, 1) := by decide +kernel
theorem dX1_endCode_35 : decode cX1_endCode 35 = .ok (.goto 4, 3) := by decide +kernel
theorem dX1_endCode_38 : decode cX1_endCode 38 = .ok (.iconst (-1), 1) := by decide +kernel
theorem dX1_endCode_39 : decode cX1_endCode 39 = .ok (.ireturn, 1) := by decide +kernel
theorem dX1_endCode_40 : decode cX1_endCode 40 = .ok (.aload_n 0, 1) := by decide +kernel
theorem dX1_endCode_41 : decode cX1_endCode 41 = .ok (.getfield 43, 3) := by decide +kernel
theorem dX1_endCode_44 : decode cX1_endCode 44 = .ok (.ifCond .lt 25, 3) := by decide +kernel
theorem dX1_endCode_47 : decode cX1_endCode 47 = .ok (.aload_n 0, 1) := by decide +kernel
theorem dX1_endCode_48 : decode cX1_endCode 48 = .ok (.getfield 43, 3) := by decide +kernel
theorem dX1_endCode_51 : decode cX1_endCode 51 = .ok (.getstatic 68, 3) := by decide +kernel
theorem dX1_endCode_54 : decode cX1_endCode 54 = .ok (.arraylength, 1) := by decide +kernel
theorem dX1_endCode_55 : decode cX1_endCode 55 = .ok (.if_icmp .ge 14, 3) := by decide +kernel
theorem dX1_endCode_58 : decode cX1_endCode 58 = .ok (.getstatic 68, 3) := by decide +kernel
theorem dX1_endCode_61 : decode cX1_endCode 61 = .ok (.aload_n 0, 1) := by decide +kernel
theorem dX1_endCode_62 : decode cX1_endCode 62 = .ok (.getfield 43, 3) := by decide +kernel
theorem dX1_endCode_65 : decode cX1_endCode 65 = .ok (.caload, 1) := by decide +kernel
theorem dX1_endCode_66 : decode cX1_endCode 66 = .ok (.goto 4, 3) := by decide +kernel
theorem dX1_endCode_69 : decode cX1_endCode 69 = .ok (.iconst (-1), 1) := by decide +kernel
theorem dX1_endCode_70 : decode cX1_endCode 70 = .ok (.ireturn, 1) := by decide +kernel
theorem dX1_startNumber_0 : decode cX1_startNumber 0 = .ok (.aload_n 0, 1) := by decide +kernel
theorem dX1_startNumber_1 : decode cX1_startNumber 1 = .ok (.iconst (-1), 1) := by decide +kernel
theorem dX1_startNumber_2 : decode cX1_startNumber 2 = .ok (.putfield 34, 3) := by decide +kernel
theorem dX1_startNumber_5 : decode cX1_startNumber 5 = .ok (.aload_n 0, 1) := by decide +kernel
theorem dX1_startNumber_6 : decode cX1_startNumber 6 = .ok (.iconst 0, 1) := by decide +kernel
theorem dX1_startNumber_7 : decode cX1_startNumber 7 = .ok (.putfield 49, 3) := by decide +kernel
theorem dX1_startNumber_10 : decode cX1_startNumber 10 = .ok (.return_, 1) := by decide +kernel
theorem dX1_endNumber_0 : decode cX1_endNumber 0 = .ok (.aload_n 0, 1) := by decide +kernel
theorem dX1_endNumber_1 : decode cX1_endNumber 1 = .ok (.getfield 43, 3) := by decide +kernel
theorem dX1_endNumber_4 : decode cX1_endNumber 4 = .ok (.ifCond .lt 43, 3) := by decide +kernel
theorem dX1_endNumber_7 : decode cX1_endNumber 7 = .ok (.aload_n 0, 1) := by decide +kernel
theorem dX1_endNumber_8 : decode cX1_endNumber 8 = .ok (.getfield 43, 3) := by decide +kernel
theorem dX1_endNumber_11 : decode cX1_endNumber 11 = .ok (.aload_n 0, 1) := by decide +kernel
theorem dX1_endNumber_12 : decode cX1_endNumber 12 = .ok (.getfield 9, 3) := by decide +kernel
theorem dX1_endNumber_15 : decode cX1_endNumber 15 = .ok (.arraylength, 1) := by decide +kernel
theorem dX1_endNumber_16 : decode cX1_endNumber 16 = .ok (.if_icmp .ge 31, 3) := by decide +kernel
theorem dX1_endNumber_19 : decode cX1_endNumber 19 = .ok (.aload_n 0, 1) := by decide +kernel
theorem dX1_endNumber_20 : decode cX1_endNumber 20 = .ok (.getfield 9, 3) := by decide +kernel
theorem dX1_endNumber_23 : decode cX1_endNumber 23 = .ok (.aload_n 0, 1) := by decide +kernel
theorem dX1_endNumber_24 : decode cX1_endNumber 24 = .ok (.getfield 43, 3) := by decide +kernel
theorem dX1_endNumber_27 : decode cX1_endNumber 27 = .ok (.aload_n 0, 1) := by decide +kernel
theorem dX1_endNumber_28 : decode cX1_endNumber 28 = .ok (.getfield 49, 3) := by decide +kernel
theorem dX1_endNumber_31 : decode cX1_endNumber 31 = .ok (.ifCond .eq 11, 3) := by decide +kernel
theorem dX1_endNumber_34 : decode cX1_endNumber 34 = .ok (.aload_n 0, 1) := by decide +kernel
theorem dX1_endNumber_35 : decode cX1_endNumber 35 = .ok (.getfield 34, 3) := by decide +kernel
theorem dX1_endNumber_38 : decode cX1_endNumber 38 = .ok (.ineg, 1) := by decide +kernel
theorem dX1_endNumber_39 : decode cX1_endNumber 39 = .ok (.goto 7, 3) := by decide +kernel
theorem dX1_endNumber_42 : decode cX1_endNumber 42 = .ok (.aload_n 0, 1) := by decide +kernel
theorem dX1_endNumber_43 : decode cX1_endNumber 43 = .ok (.getfield 34, 3) := by decide +kernel
theorem dX1_endNumber_46 : decode cX1_endNumber 46 = .ok (.iastore, 1) := by decide +kernel
theorem dX1_endNumber_47 : decode cX1_endNumber 47 = .ok (.aload_n 0, 1) := by decide +kernel
theorem dX1_endNumber_48 : decode cX1_endNumber 48 = .ok (.invokevirtual 37, 3) := by decide +kernel
theorem dX1_endNumber_51 : decode cX1_endNumber 51 = .ok (.bipush 59, 2) := by decide +kernel
theorem dX1_endNumber_53 : decode cX1_endNumber 53 = .ok (.if_icmp .ne 7, 3) := by decide +kernel
theorem dX1_endNumber_56 : decode cX1_endNumber 56 = .ok (.iconst 1, 1) := by decide +kernel
theorem dX1_endNumber_57 : decode cX1_endNumber 57 = .ok (.goto 4, 3) := by decide +kernel
theorem dX1_endNumber_60 : decode cX1_endNumber 60 = .ok (.iconst 0, 1) := by decide +kernel
theorem dX1_endNumber_61 : decode cX1_endNumber 61 = .ok (.istore_n 1, 1) := by decide +kernel
theorem dX1_endNumber_62 : decode cX1_endNumber 62 = .ok (.aload_n 0, 1) := by decide +kernel
theorem dX1_endNumber_63 : decode cX1_endNumber 63 = .ok (.iload_n 1, 1) := by decide +kernel
theorem dX1_endNumber_64 : decode cX1_endNumber 64 = .ok (.ifCond .ne 7, 3) := by decide +kernel
theorem dX1_endNumber_67 : decode cX1_endNumber 67 = .ok (.iconst 1, 1) := by decide +kernel
theorem dX1_endNumber_68 : decode cX1_endNumber 68 = .ok (.goto 4, 3) := by decide +kernel
theorem dX1_endNumber_71 : decode cX1_endNumber 71 = .ok (.iconst 0, 1) := by decide +kernel
theorem dX1_endNumber_72 : decode cX1_endNumber 72 = .ok (.putfield 15, 3) := by decide +kernel
theorem dX1_endNumber_75 : decode cX1_endNumber 75 = .ok (.aload_n 0, 1) := by decide +kernel
theorem dX1_endNumber_76 : decode cX1_endNumber 76 = .ok (.dup, 1) := by decide +kernel
theorem dX1_endNumber_77 : decode cX1_endNumber 77 = .ok (.getfield 43, 3) := by decide +kernel
theorem dX1_endNumber_80 : decode cX1_endNumber 80 = .ok (.iconst 1, 1) := by decide +kernel
theorem dX1_endNumber_81 : decode cX1_endNumber 81 = .ok (.iadd, 1) := by decide +kernel
theorem dX1_endNumber_82 : decode cX1_endNumber 82 = .ok (.putfield 43, 3) := by decide +kernel
theorem dX1_endNumber_85 : decode cX1_endNumber 85 = .ok (.aload_n 0, 1) := by decide +kernel
theorem dX1_endNumber_86 : decode cX1_endNumber 86 = .ok (.invokevirtual 46, 3) := by decide +kernel
theorem dX1_endNumber_89 : decode cX1_endNumber 89 = .ok (.iload_n 1, 1) := by decide +kernel
theorem dX1_endNumber_90 : decode cX1_endNumber 90 = .ok (.ifCond .eq 7, 3) := by decide +kernel
theorem dX1_endNumber_93 : decode cX1_endNumber 93 = .ok (.iconst 2, 1) := by decide +kernel
theorem dX1_endNumber_94 : decode cX1_endNumber 94 = .ok (.goto 4, 3) := by decide +kernel
theorem dX1_endNumber_97 : decode cX1_endNumber 97 = .ok (.iconst 1, 1) := by decide +kernel
theorem dX1_endNumber_98 : decode cX1_endNumber 98 = .ok (.ireturn, 1) := by decide +kernel
theorem dX1_startOrder_0 : decode cX1_startOrder 0 = .ok (.iload_n 1, 1) := by decide +kernel
theorem dX1_startOrder_1 : decode cX1_startOrder 1 = .ok (.bipush 119, 2) := by decide +kernel
theorem dX1_startOrder_3 : decode cX1_startOrder 3 = .ok (.if_icmp .eq 11, 3) := by decide +kernel
theorem dX1_startOrder_6 : decode cX1_startOrder 6 = .ok (.iload_n 1, 1) := by decide +kernel
theorem dX1_startOrder_7 : decode cX1_startOrder 7 = .ok (.bipush 98, 2) := by decide +kernel
theorem dX1_startOrder_9 : decode cX1_startOrder 9 = .ok (.if_icmp .eq 5, 3) := by decide +kernel
theorem dX1_startOrder_12 : decode cX1_startOrder 12 = .ok (.iconst 0, 1) := by decide +kernel
theorem dX1_startOrder_13 : decode cX1_startOrder 13 = .ok (.ireturn, 1) := by decide +kernel
theorem dX1_startOrder_14 : decode cX1_startOrder 14 = .ok (.aload_n 0, 1) := by decide +kernel
theorem dX1_startOrder_15 : decode cX1_startOrder 15 = .ok (.iload_n 1, 1) := by decide +kernel
theorem dX1_startOrder_16 : decode cX1_startOrder 16 = .ok (.putfield 19, 3) := by decide +kernel
theorem dX1_startOrder_19 : decode cX1_startOrder 19 = .ok (.aload_n 0, 1) := by decide +kernel
theorem dX1_startOrder_20 : decode cX1_startOrder 20 = .ok (.iconst 1, 1) := by decide +kernel
theorem dX1_startOrder_21 : decode cX1_startOrder 21 = .ok (.putfield 15, 3) := by decide +kernel
theorem dX1_startOrder_24 : decode cX1_startOrder 24 = .ok (.aload_n 0, 1) := by decide +kernel
theorem dX1_startOrder_25 : decode cX1_startOrder 25 = .ok (.iconst 0, 1) := by decide +kernel
theorem dX1_startOrder_26 : decode cX1_startOrder 26 = .ok (.putfield 43, 3) := by decide +kernel
theorem dX1_startOrder_29 : decode cX1_startOrder 29 = .ok (.aload_n 0, 1) := by decide +kernel
theorem dX1_startOrder_30 : decode cX1_startOrder 30 = .ok (.invokevirtual 46, 3) := by decide +kernel
theorem dX1_startOrder_33 : decode cX1_startOrder 33 = .ok (.iconst 1, 1) := by decide +kernel
theorem dX1_startOrder_34 : decode cX1_startOrder 34 = .ok (.ireturn, 1) := by decide +kernel
theorem dX1_least_0 : decode cX1_least 0 = .ok (.aload_n 0, 1) := by decide +kernel
theorem dX1_least_1 : decode cX1_least 1 = .ok (.getfield 19, 3) := by decide +kernel
theorem dX1_least_4 : decode cX1_least 4 = .ok (.bipush 119, 2) := by decide +kernel
theorem dX1_least_6 : decode cX1_least 6 = .ok (.if_icmp .ne 14, 3) := by decide +kernel
theorem dX1_least_9 : decode cX1_least 9 = .ok (.aload_n 0, 1) := by decide +kernel
theorem dX1_least_10 : decode cX1_least 10 = .ok (.getfield 43, 3) := by decide +kernel
theorem dX1_least_13 : decode cX1_least 13 = .ok (.ifCond .ne 7, 3) := by decide +kernel
theorem dX1_least_16 : decode cX1_least 16 = .ok (.iconst 1, 1) := by decide +kernel
theorem dX1_least_17 : decode cX1_least 17 = .ok (.goto 4, 3) := by decide +kernel
theorem dX1_least_20 : decode cX1_least 20 = .ok (.iconst 0, 1) := by decide +kernel
theorem dX1_least_21 : decode cX1_least 21 = .ok (.ireturn, 1) := by decide +kernel
theorem dX1_most_0 : decode cX1_most 0 = .ok (.aload_n 0, 1) := by decide +kernel
theorem dX1_most_1 : decode cX1_most 1 = .ok (.getfield 19, 3) := by decide +kernel
theorem dX1_most_4 : decode cX1_most 4 = .ok (.bipush 119, 2) := by decide +kernel
theorem dX1_most_6 : decode cX1_most 6 = .ok (.if_icmp .ne 34, 3) := by decide +kernel
theorem dX1_most_9 : decode cX1_most 9 = .ok (.aload_n 0, 1) := by decide +kernel
theorem dX1_most_10 : decode cX1_most 10 = .ok (.getfield 43, 3) := by decide +kernel
theorem dX1_most_13 : decode cX1_most 13 = .ok (.ifCond .lt 25, 3) := by decide +kernel
theorem dX1_most_16 : decode cX1_most 16 = .ok (.aload_n 0, 1) := by decide +kernel
theorem dX1_most_17 : decode cX1_most 17 = .ok (.getfield 43, 3) := by decide +kernel
theorem dX1_most_20 : decode cX1_most 20 = .ok (.getstatic 58, 3) := by decide +kernel
theorem dX1_most_23 : decode cX1_most 23 = .ok (.arraylength, 1) := by decide +kernel
theorem dX1_most_24 : decode cX1_most 24 = .ok (.if_icmp .ge 14, 3) := by decide +kernel
theorem dX1_most_27 : decode cX1_most 27 = .ok (.getstatic 58, 3) := by decide +kernel
theorem dX1_most_30 : decode cX1_most 30 = .ok (.aload_n 0, 1) := by decide +kernel
theorem dX1_most_31 : decode cX1_most 31 = .ok (.getfield 43, 3) := by decide +kernel
theorem dX1_most_34 : decode cX1_most 34 = .ok (.iaload, 1) := by decide +kernel
theorem dX1_most_35 : decode cX1_most 35 = .ok (.goto 4, 3) := by decide +kernel
theorem dX1_most_38 : decode cX1_most 38 = .ok (.iconst (-1), 1) := by decide +kernel
theorem dX1_most_39 : decode cX1_most 39 = .ok (.ireturn, 1) := by decide +kernel
theorem dX1_most_40 : decode cX1_most 40 = .ok (.aload_n 0, 1) := by decide +kernel
theorem dX1_most_41 : decode cX1_most 41 = .ok (.getfield 43, 3) := by decide +kernel
theorem dX1_most_44 : decode cX1_most 44 = .ok (.ifCond .lt 25, 3) := by decide +kernel
theorem dX1_most_47 : decode cX1_most 47 = .ok (.aload_n 0, 1) := by decide +kernel
theorem dX1_most_48 : decode cX1_most 48 = .ok (.getfield 43, 3) := by decide +kernel
theorem dX1_most_51 : decode cX1_most 51 = .ok (.getstatic 61, 3) := by decide +kernel
theorem dX1_most_54 : decode cX1_most 54 = .ok (.arraylength, 1) := by decide +kernel
theorem dX1_most_55 : decode cX1_most 55 = .ok (.if_icmp .ge 14, 3) := by decide +kernel
theorem dX1_most_58 : decode cX1_most 58 = .ok (.getstatic 61, 3) := by decide +kernel
theorem dX1_most_61 : decode cX1_most 61 = .ok (.aload_n 0, 1) := by decide +kernel
theorem dX1_most_62 : decode cX1_most 62 = .ok (.getfield 43, 3) := by decide +kernel
theorem dX1_most_65 : decode cX1_most 65 = .ok (.iaload, 1) := by decide +kernel
theorem dX1_most_66 : decode cX1_most 66 = .ok (.goto 4, 3) := by decide +kernel
theorem dX1_most_69 : decode cX1_most 69 = .ok (.iconst (-1), 1) := by decide +kernel
theorem dX1_most_70 : decode cX1_most 70 = .ok (.ireturn, 1) := by decide +kernel
theorem dX1_takeDigit_0 : decode cX1_takeDigit 0 = .ok (.aload_n 0, 1) := by decide +kernel
theorem dX1_takeDigit_1 : decode cX1_takeDigit 1 = .ok (.getfield 34, 3) := by decide +kernel
theorem dX1_takeDigit_4 : decode cX1_takeDigit 4 = .ok (.ifCond .ne 5, 3) := by decide +kernel
theorem dX1_takeDigit_7 : decode cX1_takeDigit 7 = .ok (.iconst 0, 1) := by decide +kernel
theorem dX1_takeDigit_8 : decode cX1_takeDigit 8 = .ok (.ireturn, 1) := by decide +kernel
theorem dX1_takeDigit_9 : decode cX1_takeDigit 9 = .ok (.aload_n 0, 1) := by decide +kernel
theorem dX1_takeDigit_10 : decode cX1_takeDigit 10 = .ok (.getfield 34, 3) := by decide +kernel
theorem dX1_takeDigit_13 : decode cX1_takeDigit 13 = .ok (.iconst (-1), 1) := by decide +kernel
theorem dX1_takeDigit_14 : decode cX1_takeDigit 14 = .ok (.if_icmp .ne 7, 3) := by decide +kernel
theorem dX1_takeDigit_17 : decode cX1_takeDigit 17 = .ok (.iload_n 1, 1) := by decide +kernel
theorem dX1_takeDigit_18 : decode cX1_takeDigit 18 = .ok (.goto 12, 3) := by decide +kernel
theorem dX1_takeDigit_21 : decode cX1_takeDigit 21 = .ok (.bipush 10, 2) := by decide +kernel
theorem dX1_takeDigit_23 : decode cX1_takeDigit 23 = .ok (.aload_n 0, 1) := by decide +kernel
theorem dX1_takeDigit_24 : decode cX1_takeDigit 24 = .ok (.getfield 34, 3) := by decide +kernel
theorem dX1_takeDigit_27 : decode cX1_takeDigit 27 = .ok (.imul, 1) := by decide +kernel
theorem dX1_takeDigit_28 : decode cX1_takeDigit 28 = .ok (.iload_n 1, 1) := by decide +kernel
theorem dX1_takeDigit_29 : decode cX1_takeDigit 29 = .ok (.iadd, 1) := by decide +kernel
theorem dX1_takeDigit_30 : decode cX1_takeDigit 30 = .ok (.istore_n 2, 1) := by decide +kernel
theorem dX1_takeDigit_31 : decode cX1_takeDigit 31 = .ok (.iload_n 2, 1) := by decide +kernel
theorem dX1_takeDigit_32 : decode cX1_takeDigit 32 = .ok (.aload_n 0, 1) := by decide +kernel
theorem dX1_takeDigit_33 : decode cX1_takeDigit 33 = .ok (.invokevirtual 52, 3) := by decide +kernel
theorem dX1_takeDigit_36 : decode cX1_takeDigit 36 = .ok (.if_icmp .lt 11, 3) := by decide +kernel
theorem dX1_takeDigit_39 : decode cX1_takeDigit 39 = .ok (.iload_n 2, 1) := by decide +kernel
theorem dX1_takeDigit_40 : decode cX1_takeDigit 40 = .ok (.aload_n 0, 1) := by decide +kernel
theorem dX1_takeDigit_41 : decode cX1_takeDigit 41 = .ok (.invokevirtual 55, 3) := by decide +kernel
theorem dX1_takeDigit_44 : decode cX1_takeDigit 44 = .ok (.if_icmp .le 5, 3) := by decide +kernel
theorem dX1_takeDigit_47 : decode cX1_takeDigit 47 = .ok (.iconst 0, 1) := by decide +kernel
theorem dX1_takeDigit_48 : decode cX1_takeDigit 48 = .ok (.ireturn, 1) := by decide +kernel
theorem dX1_takeDigit_49 : decode cX1_takeDigit 49 = .ok (.aload_n 0, 1) := by decide +kernel
theorem dX1_takeDigit_50 : decode cX1_takeDigit 50 = .ok (.iload_n 2, 1) := by decide +kernel
theorem dX1_takeDigit_51 : decode cX1_takeDigit 51 = .ok (.putfield 34, 3) := by decide +kernel
theorem dX1_takeDigit_54 : decode cX1_takeDigit 54 = .ok (.iconst 1, 1) := by decide +kernel
theorem dX1_takeDigit_55 : decode cX1_takeDigit 55 = .ok (.ireturn, 1) := by decide +kernel
theorem dX1_takeMinus_0 : decode cX1_takeMinus 0 = .ok (.aload_n 0, 1) := by decide +kernel
theorem dX1_takeMinus_1 : decode cX1_takeMinus 1 = .ok (.getfield 19, 3) := by decide +kernel
theorem dX1_takeMinus_4 : decode cX1_takeMinus 4 = .ok (.bipush 98, 2) := by decide +kernel
theorem dX1_takeMinus_6 : decode cX1_takeMinus 6 = .ok (.if_icmp .ne 15, 3) := by decide +kernel
theorem dX1_takeMinus_9 : decode cX1_takeMinus 9 = .ok (.aload_n 0, 1) := by decide +kernel
theorem dX1_takeMinus_10 : decode cX1_takeMinus 10 = .ok (.getfield 43, 3) := by decide +kernel
theorem dX1_takeMinus_13 : decode cX1_takeMinus 13 = .ok (.iconst 2, 1) := by decide +kernel
theorem dX1_takeMinus_14 : decode cX1_takeMinus 14 = .ok (.if_icmp .ne 7, 3) := by decide +kernel
theorem dX1_takeMinus_17 : decode cX1_takeMinus 17 = .ok (.iconst 1, 1) := by decide +kernel
theorem dX1_takeMinus_18 : decode cX1_takeMinus 18 = .ok (.goto 4, 3) := by decide +kernel
theorem dX1_takeMinus_21 : decode cX1_takeMinus 21 = .ok (.iconst 0, 1) := by decide +kernel
theorem dX1_takeMinus_22 : decode cX1_takeMinus 22 = .ok (.istore_n 1, 1) := by decide +kernel
theorem dX1_takeMinus_23 : decode cX1_takeMinus 23 = .ok (.iload_n 1, 1) := by decide +kernel
theorem dX1_takeMinus_24 : decode cX1_takeMinus 24 = .ok (.ifCond .eq 18, 3) := by decide +kernel
theorem dX1_takeMinus_27 : decode cX1_takeMinus 27 = .ok (.aload_n 0, 1) := by decide +kernel
theorem dX1_takeMinus_28 : decode cX1_takeMinus 28 = .ok (.getfield 49, 3) := by decide +kernel
theorem dX1_takeMinus_31 : decode cX1_takeMinus 31 = .ok (.ifCond .ne 11, 3) := by decide +kernel
theorem dX1_takeMinus_34 : decode cX1_takeMinus 34 = .ok (.aload_n 0, 1) := by decide +kernel
theorem dX1_takeMinus_35 : decode cX1_takeMinus 35 = .ok (.getfield 34, 3) := by decide +kernel
theorem dX1_takeMinus_38 : decode cX1_takeMinus 38 = .ok (.iconst (-1), 1) := by decide +kernel
theorem dX1_takeMinus_39 : decode cX1_takeMinus 39 = .ok (.if_icmp .eq 5, 3) := by decide +kernel
theorem dX1_takeMinus_42 : decode cX1_takeMinus 42 = .ok (.iconst 0, 1) := by decide +kernel
theorem dX1_takeMinus_43 : decode cX1_takeMinus 43 = .ok (.ireturn, 1) := by decide +kernel
theorem dX1_takeMinus_44 : decode cX1_takeMinus 44 = .ok (.aload_n 0, 1) := by decide +kernel
theorem dX1_takeMinus_45 : decode cX1_takeMinus 45 = .ok (.iconst 1, 1) := by decide +kernel
theorem dX1_takeMinus_46 : decode cX1_takeMinus 46 = .ok (.putfield 49, 3) := by decide +kernel
theorem dX1_takeMinus_49 : decode cX1_takeMinus 49 = .ok (.iconst 1, 1) := by decide +kernel
theorem dX1_takeMinus_50 : decode cX1_takeMinus 50 = .ok (.ireturn, 1) := by decide +kernel
theorem dX1_feed_0 : decode cX1_feed 0 = .ok (.aload_n 0, 1) := by decide +kernel
theorem dX1_feed_1 : decode cX1_feed 1 = .ok (.getfield 15, 3) := by decide +kernel
theorem dX1_feed_4 : decode cX1_feed 4 = .ok (.ifCond .ne 9, 3) := by decide +kernel
theorem dX1_feed_7 : decode cX1_feed 7 = .ok (.aload_n 0, 1) := by decide +kernel
theorem dX1_feed_8 : decode cX1_feed 8 = .ok (.iload_n 1, 1) := by decide +kernel
theorem dX1_feed_9 : decode cX1_feed 9 = .ok (.invokevirtual 23, 3) := by decide +kernel
theorem dX1_feed_12 : decode cX1_feed 12 = .ok (.ireturn, 1) := by decide +kernel
theorem dX1_feed_13 : decode cX1_feed 13 = .ok (.iload_n 1, 1) := by decide +kernel
theorem dX1_feed_14 : decode cX1_feed 14 = .ok (.bipush 48, 2) := by decide +kernel
theorem dX1_feed_16 : decode cX1_feed 16 = .ok (.if_icmp .lt 18, 3) := by decide +kernel
theorem dX1_feed_19 : decode cX1_feed 19 = .ok (.iload_n 1, 1) := by decide +kernel
theorem dX1_feed_20 : decode cX1_feed 20 = .ok (.bipush 57, 2) := by decide +kernel
theorem dX1_feed_22 : decode cX1_feed 22 = .ok (.if_icmp .gt 12, 3) := by decide +kernel
theorem dX1_feed_25 : decode cX1_feed 25 = .ok (.aload_n 0, 1) := by decide +kernel
theorem dX1_feed_26 : decode cX1_feed 26 = .ok (.iload_n 1, 1) := by decide +kernel
theorem dX1_feed_27 : decode cX1_feed 27 = .ok (.bipush 48, 2) := by decide +kernel
theorem dX1_feed_29 : decode cX1_feed 29 = .ok (.isub, 1) := by decide +kernel
theorem dX1_feed_30 : decode cX1_feed 30 = .ok (.invokevirtual 27, 3) := by decide +kernel
theorem dX1_feed_33 : decode cX1_feed 33 = .ok (.ireturn, 1) := by decide +kernel
theorem dX1_feed_34 : decode cX1_feed 34 = .ok (.iload_n 1, 1) := by decide +kernel
theorem dX1_feed_35 : decode cX1_feed 35 = .ok (.bipush 45, 2) := by decide +kernel
theorem dX1_feed_37 : decode cX1_feed 37 = .ok (.if_icmp .ne 8, 3) := by decide +kernel
theorem dX1_feed_40 : decode cX1_feed 40 = .ok (.aload_n 0, 1) := by decide +kernel
theorem dX1_feed_41 : decode cX1_feed 41 = .ok (.invokevirtual 30, 3) := by decide +kernel
theorem dX1_feed_44 : decode cX1_feed 44 = .ok (.ireturn, 1) := by decide +kernel
theorem dX1_feed_45 : decode cX1_feed 45 = .ok (.aload_n 0, 1) := by decide +kernel
theorem dX1_feed_46 : decode cX1_feed 46 = .ok (.getfield 34, 3) := by decide +kernel
theorem dX1_feed_49 : decode cX1_feed 49 = .ok (.iconst (-1), 1) := by decide +kernel
theorem dX1_feed_50 : decode cX1_feed 50 = .ok (.if_icmp .eq 18, 3) := by decide +kernel
theorem dX1_feed_53 : decode cX1_feed 53 = .ok (.iload_n 1, 1) := by decide +kernel
theorem dX1_feed_54 : decode cX1_feed 54 = .ok (.aload_n 0, 1) := by decide +kernel
theorem dX1_feed_55 : decode cX1_feed 55 = .ok (.invokevirtual 37, 3) := by decide +kernel
theorem dX1_feed_58 : decode cX1_feed 58 = .ok (.if_icmp .ne 10, 3) := by decide +kernel
theorem dX1_feed_61 : decode cX1_feed 61 = .ok (.aload_n 0, 1) := by decide +kernel
theorem dX1_feed_62 : decode cX1_feed 62 = .ok (.invokevirtual 40, 3) := by decide +kernel
theorem dX1_feed_65 : decode cX1_feed 65 = .ok (.goto 4, 3) := by decide +kernel
theorem dX1_feed_68 : decode cX1_feed 68 = .ok (.iconst 0, 1) := by decide +kernel
theorem dX1_feed_69 : decode cX1_feed 69 = .ok (.ireturn, 1) := by decide +kernel
abbrev rm_J7_fill_d0a16 : Room := { frames := 0, cells := 0, slots := 0, locals := 0 }
set_option maxHeartbeats 4000000 in
set_option maxRecDepth 100000 in
theorem c_J7_fill_d0a16 (l : Launch) (dC : Nat → ClassId) (dI : Nat → Nat → Nat) (cI cJ : ClassId) (r0 : Nat) (n_r0 : Nat) (sz : Nat) (s_r0 : Nat → Int64) (p1 : Int64) (Q : (Nat → Int64) → Prop) (hw : P_J7_fill_d0a16 n_r0 p1 s_r0 Q) : Met l yJ7_fill_d0a16 (Cond.code yJ7_fill_d0a16 cJ7_fill_d0a16 5 none :: TBL) rm_J7_fill_d0a16 (gPc (dC, dI) vwCl (gTy cI cJ) [.ref r0, .long p1] [(r0, .inl (cJ, n_r0, .inr (.inl s_r0)))] sz) (va_Qv (fun (u : (Nat → Int64)) => Q u) (gB (dC, dI) vwCl (gTy cI cJ) (va_A [(r0, .inl (cJ, n_r0, .inr (.inl s_r0)))] sz) (fun (u : (Nat → Int64)) => [(r0, .inl (cJ, n_r0, .inr (.inl u)))])) (va_A [(r0, .inl (cJ, n_r0, .inr (.inl s_r0)))] sz)) 0 0 (va_A [(r0, .inl (cJ, n_r0, .inr (.inl s_r0)))] sz) := by
  refine Met.ofW (cc := cJ7_fill_d0a16) (maxL := 5) (ret := none) (by decide) rfl ?_
  intro p e s m args below meth c s₁ B hml hv
  obtain ⟨rfl, hsz, hP, hK, hD0⟩ := hv
  have hx := B.exec
  have hb := B.bytes
  have hr := B.returns
  have hts := atoms_spec (ws := Cond.code yJ7_fill_d0a16 cJ7_fill_d0a16 5 none :: TBL) B.pre
  have ht : ∀ w ∈ TBL, w.before ([.ref r0, .long p1] : List Value).toArray s = true := fun w h => hts w (List.mem_cons_of_mem _ h)
  clear hts
  have hown : s.vm.findClass RJ7 = some m.cls := findClass_of_methodNamed B.named
  have hlocks := B.notSynchronized
  clear B
  subst hsz
  have hD := hD0.self (sz := s.heap.size)
  clear hD0
  generalize hAe : va_A [(r0, .inl (cJ, n_r0, .inr (.inl s_r0)))] s.heap.size = A at hD ⊢
  have hA : ∀ q : Nat, s.heap.size ≤ q → A q := fun q h => by rw [← hAe]; exact Or.inr h
  clear hAe
  have hS : va_S A s.heap s.heap [] := va_S.rf
  have hP : va_P (dC, dI) vwCl [(r0, .inl (cJ, n_r0, .inr (.inl s_r0)))] s.heap := hP
  have hl := lv_entry ([.ref r0, .long p1]) (n := 5) (Nat.le_of_ble_eq_true rfl)
  rw [lg_entry_eq]
  generalize (lg_sl ([.ref r0, .long p1]) ++ List.replicate (5 - (lg_sl ([.ref r0, .long p1])).length) Slot.unset).toArray = ls at hl ⊢
  have hl : lv_has ls 5 [(0, .ref r0), (1, .long p1)] := hl
  generalize hQQ : MQ below _ _ _ 0 0 A = QQ
  show W p l e rm_J7_fill_d0a16 s m ([.ref r0, .long p1] : List Value).toArray below meth c s.heap [] 0 0 QQ (F0 m 0 ls [])
  have L6 : ∀ (x1 : Int64) (x4 : Int32), ∀ (n : Nat) (x3 : Int32) (s_r0 : Nat → Int64), P_J7_fill_d0a16_L6 n_r0 x1 x4 Q n x3 s_r0 → ∀ (H : Heap) (locs : List Loc) (ls : Array Slot), va_P (dC, dI) vwCl [(r0, .inl (cJ, n_r0, .inr (.inl s_r0)))] H → va_D A [(r0, .inl (cJ, n_r0, .inr (.inl s_r0)))] → va_S A s.heap H locs → lv_has ls 5 [(0, .ref r0), (1, .long x1), (3, .int x3), (4, .int x4)] → W p l e rm_J7_fill_d0a16 s m ([.ref r0, .long p1] : List Value).toArray below meth c H locs 0 0 QQ (F0 m 6 ls []) := by
    intro x1 x4
    intro n
    induction n with
    | zero => intro x3 s_r0 hw; rw [P_J7_fill_d0a16_L6_z] at hw; exact hw.elim
    | succ n ih =>
      intro x3 s_r0 hw
      rw [P_J7_fill_d0a16_L6_s] at hw
      generalize hrec : P_J7_fill_d0a16_L6 n_r0 x1 x4 Q n = rec6 at ih hw
      intro H locs ls hP hD hS hl
      unfold B_J7_fill_d0a16_L6 at hw
      refine lv_iload_n hx hb dJ7_fill_d0a16_6 rfl (lv_at hl 2 rfl) ?_
      refine lv_iload hx hb dJ7_fill_d0a16_7 (lv_at hl 3 rfl) ?_
      refine lv_icmp_ge (tgt := 22) hx hb dJ7_fill_d0a16_9 (by decide) (fun hc => ?_) (fun hc => ?_)
      · have hw := hw.1 hc
        rw [← hQQ]
        exact g_retv (u := s_r0) hx hb hr hlocks hw hP hK hD hS dJ7_fill_d0a16_22
      · have hw := hw.2 hc
        refine lv_aload_n hx hb dJ7_fill_d0a16_12 rfl (lv_at hl 0 rfl) ?_
        refine lv_iload_n hx hb dJ7_fill_d0a16_13 rfl (lv_at hl 2 rfl) ?_
        refine lv_lload_n hx hb dJ7_fill_d0a16_14 rfl (lv_at hl 1 rfl) ?_
        obtain ⟨hi_1, hw⟩ := hw
        refine gv_last hx hb hK hP hD hS 0 1 rfl rfl rfl hi_1 dJ7_fill_d0a16_15 (fun H locs hP hD hS => ?_)
        have hP : va_P (dC, dI) vwCl [(r0, .inl (cJ, n_r0, .inr (.inl (vp_updL s_r0 x3.toNatClampNeg x1))))] H := hP
        have hD : va_D A [(r0, .inl (cJ, n_r0, .inr (.inl (vp_updL s_r0 x3.toNatClampNeg x1))))] := hD
        refine lv_iinc (v := (x3 + 1)) (lv' := [(3, .int (x3 + 1)), (0, .ref r0), (1, .long x1), (4, .int x4)]) hx hb dJ7_fill_d0a16_16 hl (k := 2) rfl rfl (by decide) rfl (fun ls hl => ?_)
        refine lv_goto (tgt := 6) hx hb dJ7_fill_d0a16_19 (by decide) ?_
        exact ih (x3 + 1) (vp_updL s_r0 x3.toNatClampNeg x1) hw H locs ls hP hD hS (lv_sub (l' := [(0, .ref r0), (1, .long x1), (3, .int (x3 + 1)), (4, .int x4)]) hl [1, 2, 0, 3] rfl)
  obtain ⟨H, hHH⟩ : ∃ H, H = s.heap := ⟨_, rfl⟩
  rw [← hHH] at hP ⊢
  have hS : va_S A s.heap H [] := by rw [hHH]; exact hS
  clear hHH
  generalize ([] : List Loc) = locs at hS ⊢
  unfold P_J7_fill_d0a16 at hw
  refine lv_iconst (v := 0) hx hb dJ7_fill_d0a16_0 (by decide) ?_
  refine lv_istore_n (lv' := [(3, .int 0), (0, .ref r0), (1, .long p1)]) hx hb dJ7_fill_d0a16_1 rfl hl (by decide) rfl (fun ls hl => ?_)
  refine lv_aload_n hx hb dJ7_fill_d0a16_2 rfl (lv_at hl 1 rfl) ?_
  refine va_alen (v := (nI n_r0)) hx hb hK hP 0 1 rfl rfl rfl dJ7_fill_d0a16_3 ?_
  refine lv_istore (lv' := [(4, .int (nI n_r0)), (3, .int 0), (0, .ref r0), (1, .long p1)]) hx hb dJ7_fill_d0a16_4 hl (by decide) rfl (fun ls hl => ?_)
  obtain ⟨n, hw⟩ := hw
  exact L6 p1 (nI n_r0) n 0 s_r0 hw H locs ls hP hD hS (lv_sub (l' := [(0, .ref r0), (1, .long p1), (3, .int 0), (4, .int (nI n_r0))]) hl [2, 3, 1, 0] rfl)
abbrev rm_J7_fill_53178 : Room := { frames := 0, cells := 0, slots := 0, locals := 0 }
set_option maxHeartbeats 4000000 in
set_option maxRecDepth 100000 in
theorem c_J7_fill_53178 (l : Launch) (dC : Nat → ClassId) (dI : Nat → Nat → Nat) (cI cJ : ClassId) (r0 : Nat) (n_r0 : Nat) (sz : Nat) (s_r0 : Nat → Int32) (p1 : Int32) (Q : (Nat → Int32) → Prop) (hw : P_J7_fill_53178 n_r0 p1 s_r0 Q) : Met l yJ7_fill_53178 (Cond.code yJ7_fill_53178 cJ7_fill_53178 4 none :: TBL) rm_J7_fill_53178 (gPc (dC, dI) vwCl (gTy cI cJ) [.ref r0, .int p1] [(r0, .inl (cI, n_r0, .inl s_r0))] sz) (va_Qv (fun (u : (Nat → Int32)) => Q u) (gB (dC, dI) vwCl (gTy cI cJ) (va_A [(r0, .inl (cI, n_r0, .inl s_r0))] sz) (fun (u : (Nat → Int32)) => [(r0, .inl (cI, n_r0, .inl u))])) (va_A [(r0, .inl (cI, n_r0, .inl s_r0))] sz)) 0 0 (va_A [(r0, .inl (cI, n_r0, .inl s_r0))] sz) := by
  refine Met.ofW (cc := cJ7_fill_53178) (maxL := 4) (ret := none) (by decide) rfl ?_
  intro p e s m args below meth c s₁ B hml hv
  obtain ⟨rfl, hsz, hP, hK, hD0⟩ := hv
  have hx := B.exec
  have hb := B.bytes
  have hr := B.returns
  have hts := atoms_spec (ws := Cond.code yJ7_fill_53178 cJ7_fill_53178 4 none :: TBL) B.pre
  have ht : ∀ w ∈ TBL, w.before ([.ref r0, .int p1] : List Value).toArray s = true := fun w h => hts w (List.mem_cons_of_mem _ h)
  clear hts
  have hown : s.vm.findClass RJ7 = some m.cls := findClass_of_methodNamed B.named
  have hlocks := B.notSynchronized
  clear B
  subst hsz
  have hD := hD0.self (sz := s.heap.size)
  clear hD0
  generalize hAe : va_A [(r0, .inl (cI, n_r0, .inl s_r0))] s.heap.size = A at hD ⊢
  have hA : ∀ q : Nat, s.heap.size ≤ q → A q := fun q h => by rw [← hAe]; exact Or.inr h
  clear hAe
  have hS : va_S A s.heap s.heap [] := va_S.rf
  have hP : va_P (dC, dI) vwCl [(r0, .inl (cI, n_r0, .inl s_r0))] s.heap := hP
  have hl := lv_entry ([.ref r0, .int p1]) (n := 4) (Nat.le_of_ble_eq_true rfl)
  rw [lg_entry_eq]
  generalize (lg_sl ([.ref r0, .int p1]) ++ List.replicate (4 - (lg_sl ([.ref r0, .int p1])).length) Slot.unset).toArray = ls at hl ⊢
  have hl : lv_has ls 4 [(0, .ref r0), (1, .int p1)] := hl
  generalize hQQ : MQ below _ _ _ 0 0 A = QQ
  show W p l e rm_J7_fill_53178 s m ([.ref r0, .int p1] : List Value).toArray below meth c s.heap [] 0 0 QQ (F0 m 0 ls [])
  have L5 : ∀ (x1 : Int32) (x3 : Int32), ∀ (n : Nat) (x2 : Int32) (s_r0 : Nat → Int32), P_J7_fill_53178_L5 n_r0 x1 x3 Q n x2 s_r0 → ∀ (H : Heap) (locs : List Loc) (ls : Array Slot), va_P (dC, dI) vwCl [(r0, .inl (cI, n_r0, .inl s_r0))] H → va_D A [(r0, .inl (cI, n_r0, .inl s_r0))] → va_S A s.heap H locs → lv_has ls 4 [(0, .ref r0), (1, .int x1), (2, .int x2), (3, .int x3)] → W p l e rm_J7_fill_53178 s m ([.ref r0, .int p1] : List Value).toArray below meth c H locs 0 0 QQ (F0 m 5 ls []) := by
    intro x1 x3
    intro n
    induction n with
    | zero => intro x2 s_r0 hw; rw [P_J7_fill_53178_L5_z] at hw; exact hw.elim
    | succ n ih =>
      intro x2 s_r0 hw
      rw [P_J7_fill_53178_L5_s] at hw
      generalize hrec : P_J7_fill_53178_L5 n_r0 x1 x3 Q n = rec5 at ih hw
      intro H locs ls hP hD hS hl
      unfold B_J7_fill_53178_L5 at hw
      refine lv_iload_n hx hb dJ7_fill_53178_5 rfl (lv_at hl 2 rfl) ?_
      refine lv_iload_n hx hb dJ7_fill_53178_6 rfl (lv_at hl 3 rfl) ?_
      refine lv_icmp_ge (tgt := 20) hx hb dJ7_fill_53178_7 (by decide) (fun hc => ?_) (fun hc => ?_)
      · have hw := hw.1 hc
        rw [← hQQ]
        exact g_retv (u := s_r0) hx hb hr hlocks hw hP hK hD hS dJ7_fill_53178_20
      · have hw := hw.2 hc
        refine lv_aload_n hx hb dJ7_fill_53178_10 rfl (lv_at hl 0 rfl) ?_
        refine lv_iload_n hx hb dJ7_fill_53178_11 rfl (lv_at hl 2 rfl) ?_
        refine lv_iload_n hx hb dJ7_fill_53178_12 rfl (lv_at hl 1 rfl) ?_
        obtain ⟨hi_1, hw⟩ := hw
        refine gv_iast hx hb hK hP hD hS 0 0 rfl rfl rfl hi_1 dJ7_fill_53178_13 (fun H locs hP hD hS => ?_)
        have hP : va_P (dC, dI) vwCl [(r0, .inl (cI, n_r0, .inl (upd s_r0 x2.toNatClampNeg x1)))] H := hP
        have hD : va_D A [(r0, .inl (cI, n_r0, .inl (upd s_r0 x2.toNatClampNeg x1)))] := hD
        refine lv_iinc (v := (x2 + 1)) (lv' := [(2, .int (x2 + 1)), (0, .ref r0), (1, .int x1), (3, .int x3)]) hx hb dJ7_fill_53178_14 hl (k := 2) rfl rfl (by decide) rfl (fun ls hl => ?_)
        refine lv_goto (tgt := 5) hx hb dJ7_fill_53178_17 (by decide) ?_
        exact ih (x2 + 1) (upd s_r0 x2.toNatClampNeg x1) hw H locs ls hP hD hS (lv_sub (l' := [(0, .ref r0), (1, .int x1), (2, .int (x2 + 1)), (3, .int x3)]) hl [1, 2, 0, 3] rfl)
  obtain ⟨H, hHH⟩ : ∃ H, H = s.heap := ⟨_, rfl⟩
  rw [← hHH] at hP ⊢
  have hS : va_S A s.heap H [] := by rw [hHH]; exact hS
  clear hHH
  generalize ([] : List Loc) = locs at hS ⊢
  unfold P_J7_fill_53178 at hw
  refine lv_iconst (v := 0) hx hb dJ7_fill_53178_0 (by decide) ?_
  refine lv_istore_n (lv' := [(2, .int 0), (0, .ref r0), (1, .int p1)]) hx hb dJ7_fill_53178_1 rfl hl (by decide) rfl (fun ls hl => ?_)
  refine lv_aload_n hx hb dJ7_fill_53178_2 rfl (lv_at hl 1 rfl) ?_
  refine va_alen (v := (nI n_r0)) hx hb hK hP 0 0 rfl rfl rfl dJ7_fill_53178_3 ?_
  refine lv_istore_n (lv' := [(3, .int (nI n_r0)), (2, .int 0), (0, .ref r0), (1, .int p1)]) hx hb dJ7_fill_53178_4 rfl hl (by decide) rfl (fun ls hl => ?_)
  obtain ⟨n, hw⟩ := hw
  exact L5 p1 (nI n_r0) n 0 s_r0 hw H locs ls hP hD hS (lv_sub (l' := [(0, .ref r0), (1, .int p1), (2, .int 0), (3, .int (nI n_r0))]) hl [2, 3, 1, 0] rfl)
abbrev rm_Jxe99ae_isNaN_b9ae7 : Room := { frames := 0, cells := 0, slots := 0, locals := 0 }
set_option maxHeartbeats 4000000 in
set_option maxRecDepth 100000 in
theorem c_Jxe99ae_isNaN_b9ae7 (l : Launch) (dC : Nat → ClassId) (dI : Nat → Nat → Nat) (cI cJ : ClassId) (sz : Nat)  (p0 : UInt64) (Q : Int32 → Prop) (hw : P_Jxe99ae_isNaN_b9ae7 p0 Q) : Met l yJxe99ae_isNaN_b9ae7 (Cond.code yJxe99ae_isNaN_b9ae7 cJxe99ae_isNaN_b9ae7 2 (some .boolean) :: TBL) rm_Jxe99ae_isNaN_b9ae7 (gPc (dC, dI) vwCl (gTy cI cJ) [.double p0] [] sz) (va_Qi (fun (r : Int32) (u : Unit) => Q r ) (gB (dC, dI) vwCl (gTy cI cJ) (va_A [] sz) (fun (u : Unit) => [])) (va_A [] sz)) 0 0 (va_A [] sz) := by
  refine Met.ofW (cc := cJxe99ae_isNaN_b9ae7) (maxL := 2) (ret := (some .boolean)) (by decide) rfl ?_
  intro p e s m args below meth c s₁ B hml hv
  obtain ⟨rfl, hsz, hP, hK, hD0⟩ := hv
  have hx := B.exec
  have hb := B.bytes
  have hr := B.returns
  have hts := atoms_spec (ws := Cond.code yJxe99ae_isNaN_b9ae7 cJxe99ae_isNaN_b9ae7 2 (some .boolean) :: TBL) B.pre
  have ht : ∀ w ∈ TBL, w.before ([.double p0] : List Value).toArray s = true := fun w h => hts w (List.mem_cons_of_mem _ h)
  clear hts
  have hown : s.vm.findClass RJxe99ae = some m.cls := findClass_of_methodNamed B.named
  have hlocks := B.notSynchronized
  clear B
  subst hsz
  have hD := hD0.self (sz := s.heap.size)
  clear hD0
  generalize hAe : va_A [] s.heap.size = A at hD ⊢
  have hA : ∀ q : Nat, s.heap.size ≤ q → A q := fun q h => by rw [← hAe]; exact Or.inr h
  clear hAe
  have hS : va_S A s.heap s.heap [] := va_S.rf
  have hP : va_P (dC, dI) vwCl [] s.heap := hP
  have hl := lv_entry ([.double p0]) (n := 2) (Nat.le_of_ble_eq_true rfl)
  rw [lg_entry_eq]
  generalize (lg_sl ([.double p0]) ++ List.replicate (2 - (lg_sl ([.double p0])).length) Slot.unset).toArray = ls at hl ⊢
  have hl : lv_has ls 2 [(0, .double p0)] := hl
  generalize hQQ : MQ below _ _ _ 0 0 A = QQ
  show W p l e rm_Jxe99ae_isNaN_b9ae7 s m ([.double p0] : List Value).toArray below meth c s.heap [] 0 0 QQ (F0 m 0 ls [])
  obtain ⟨H, hHH⟩ : ∃ H, H = s.heap := ⟨_, rfl⟩
  rw [← hHH] at hP ⊢
  have hS : va_S A s.heap H [] := by rw [hHH]; exact hS
  clear hHH
  generalize ([] : List Loc) = locs at hS ⊢
  unfold P_Jxe99ae_isNaN_b9ae7 at hw
  refine lv_dload_n hx hb dJxe99ae_isNaN_b9ae7_0 rfl (lv_at hl 0 rfl) ?_
  refine lv_dload_n hx hb dJxe99ae_isNaN_b9ae7_1 rfl (lv_at hl 0 rfl) ?_
  refine lv_dcmp hx hb dJxe99ae_isNaN_b9ae7_2 ?_
  refine lv_if_eq (tgt := 10) hx hb dJxe99ae_isNaN_b9ae7_3 (by decide) (fun hc => ?_) (fun hc => ?_)
  · have hw := hw.1 hc
    refine lv_iconst (v := 0) hx hb dJxe99ae_isNaN_b9ae7_10 (by decide) ?_
    rw [← hQQ]
    exact g_reti (v := 0) (u := ()) hx hb hr rfl hlocks hw hP hK hD hS dJxe99ae_isNaN_b9ae7_11
  · have hw := hw.2 hc
    refine lv_iconst (v := 1) hx hb dJxe99ae_isNaN_b9ae7_6 (by decide) ?_
    refine lv_goto (tgt := 11) hx hb dJxe99ae_isNaN_b9ae7_7 (by decide) ?_
    rw [← hQQ]
    exact g_reti (v := 1) (u := ()) hx hb hr rfl hlocks hw hP hK hD hS dJxe99ae_isNaN_b9ae7_11
abbrev rm_Jxe99ae_doubleToLongBits_ccdee : Room := { frames := 1, cells := 0, slots := 0, locals := 23 }
set_option maxHeartbeats 4000000 in
set_option maxRecDepth 100000 in
theorem c_Jxe99ae_doubleToLongBits_ccdee (l : Launch) (dC : Nat → ClassId) (dI : Nat → Nat → Nat) (cI cJ : ClassId) (sz : Nat)  (p0 : UInt64) (Q : Int64 → Prop) (hw : P_Jxe99ae_doubleToLongBits_ccdee p0 Q) : Met l yJxe99ae_doubleToLongBits_ccdee (Cond.code yJxe99ae_doubleToLongBits_ccdee cJxe99ae_doubleToLongBits_ccdee 2 (some .long) :: TBL) rm_Jxe99ae_doubleToLongBits_ccdee (gPc (dC, dI) vwCl (gTy cI cJ) [.double p0] [] sz) (va_Ql (fun (r : Int64) (u : Unit) => Q r ) (gB (dC, dI) vwCl (gTy cI cJ) (va_A [] sz) (fun (u : Unit) => [])) (va_A [] sz)) 0 0 (va_A [] sz) := by
  refine Met.ofW (cc := cJxe99ae_doubleToLongBits_ccdee) (maxL := 2) (ret := (some .long)) (by decide) rfl ?_
  intro p e s m args below meth c s₁ B hml hv
  obtain ⟨rfl, hsz, hP, hK, hD0⟩ := hv
  have hx := B.exec
  have hb := B.bytes
  have hr := B.returns
  have hts := atoms_spec (ws := Cond.code yJxe99ae_doubleToLongBits_ccdee cJxe99ae_doubleToLongBits_ccdee 2 (some .long) :: TBL) B.pre
  have ht : ∀ w ∈ TBL, w.before ([.double p0] : List Value).toArray s = true := fun w h => hts w (List.mem_cons_of_mem _ h)
  clear hts
  have hown : s.vm.findClass RJxe99ae = some m.cls := findClass_of_methodNamed B.named
  have hlocks := B.notSynchronized
  clear B
  subst hsz
  have hD := hD0.self (sz := s.heap.size)
  clear hD0
  generalize hAe : va_A [] s.heap.size = A at hD ⊢
  have hA : ∀ q : Nat, s.heap.size ≤ q → A q := fun q h => by rw [← hAe]; exact Or.inr h
  clear hAe
  have hS : va_S A s.heap s.heap [] := va_S.rf
  have hP : va_P (dC, dI) vwCl [] s.heap := hP
  have hl := lv_entry ([.double p0]) (n := 2) (Nat.le_of_ble_eq_true rfl)
  rw [lg_entry_eq]
  generalize (lg_sl ([.double p0]) ++ List.replicate (2 - (lg_sl ([.double p0])).length) Slot.unset).toArray = ls at hl ⊢
  have hl : lv_has ls 2 [(0, .double p0)] := hl
  generalize hQQ : MQ below _ _ _ 0 0 A = QQ
  show W p l e rm_Jxe99ae_doubleToLongBits_ccdee s m ([.double p0] : List Value).toArray below meth c s.heap [] 0 0 QQ (F0 m 0 ls [])
  obtain ⟨H, hHH⟩ : ∃ H, H = s.heap := ⟨_, rfl⟩
  rw [← hHH] at hP ⊢
  have hS : va_S A s.heap H [] := by rw [hHH]; exact hS
  clear hHH
  generalize ([] : List Loc) = locs at hS ⊢
  unfold P_Jxe99ae_doubleToLongBits_ccdee at hw
  refine lv_dload_n hx hb dJxe99ae_doubleToLongBits_ccdee_0 rfl (lv_at hl 0 rfl) ?_
  refine gc_Si (As := [.double p0]) (rest := []) (wr := []) ⟨hx, hb, hml, hown, ht⟩ (c_Jxe99ae_isNaN_b9ae7 l dC dI cI cJ  H.size p0 _ hw) (va_cwS 1 ht (g_S k_1196 k_1197 k_16 k_1198) rfl rfl rfl (by decide +kernel) ⟨(Nat.le_of_ble_eq_true rfl), (Nat.le_of_ble_eq_true rfl)⟩) hK hP hD hS hA [] [] rfl rfl (by decide) rfl hl.1 rfl (Nat.le_of_ble_eq_true rfl) ⟨(Nat.le_of_ble_eq_true rfl), (Nat.le_of_ble_eq_true rfl)⟩ dJxe99ae_doubleToLongBits_ccdee_1 (fun r_1 u H locs hw hP hD hS => ?_)
  try dsimp only at hw
  have hP : va_P (dC, dI) vwCl [] H := hP
  have hD : va_D A [] := hD
  refine lv_if_ne (tgt := 12) hx hb dJxe99ae_doubleToLongBits_ccdee_4 (by decide) (fun hc => ?_) (fun hc => ?_)
  · have hw := hw.1 hc
    refine lv_ldc2 (v := 9221120237041090560) hx hb hown (ht _ k_1202) dJxe99ae_doubleToLongBits_ccdee_12 ?_
    rw [← hQQ]
    exact g_retl (v := 9221120237041090560) (u := ()) hx hb hr hlocks hw hP hK hD hS dJxe99ae_doubleToLongBits_ccdee_15
  · have hw := hw.2 hc
    refine lv_dload_n hx hb dJxe99ae_doubleToLongBits_ccdee_7 rfl (lv_at hl 0 rfl) ?_
    refine vn_d2l hx hb (hml.trans hl.1.symm) hown (ht _ k_1199) (ht _ k_1201) (ht _ k_1200) (ht _ k_16) (Nat.le_of_ble_eq_true rfl) (Nat.le_of_ble_eq_true rfl) dJxe99ae_doubleToLongBits_ccdee_8 ?_
    rw [← hQQ]
    exact g_retl (v := p0.toInt64) (u := ()) hx hb hr hlocks hw hP hK hD hS dJxe99ae_doubleToLongBits_ccdee_11
abbrev rm_X0_copyTo : Room := { frames := 1, cells := 0, slots := 0, locals := 26 }
set_option maxHeartbeats 4000000 in
set_option maxRecDepth 100000 in
theorem c_X0_copyTo (l : Launch) (dC : Nat → ClassId) (dI : Nat → Nat → Nat) (cI cJ : ClassId) (o o_cells r0 : Nat) (sz : Nat) (s_cells : Nat → Int32) (s_r0 : Nat → Int32) (p1 : Int32) (Q : (Nat → Int32) → Prop) (hw : P_X0_copyTo p1 s_cells s_r0 Q) : Met l yX0_copyTo (Cond.code yX0_copyTo cX0_copyTo 3 none :: TBL) rm_X0_copyTo (gPc (dC, dI) vwCl (gTy cI cJ) [.ref o, .ref r0, .int p1] [(o, .inr (0, [.ref o_cells])), (o_cells, .inl (cI, 82, .inl s_cells)), (r0, .inl (cI, 492, .inl s_r0))] sz) (va_Qv (fun (u : (Nat → Int32)) => Q u) (gB (dC, dI) vwCl (gTy cI cJ) (va_A [(o, .inr (0, [.ref o_cells])), (o_cells, .inl (cI, 82, .inl s_cells)), (r0, .inl (cI, 492, .inl s_r0))] sz) (fun (u : (Nat → Int32)) => [(o, .inr (0, [.ref o_cells])), (o_cells, .inl (cI, 82, .inl s_cells)), (r0, .inl (cI, 492, .inl u))])) (va_A [(o, .inr (0, [.ref o_cells])), (o_cells, .inl (cI, 82, .inl s_cells)), (r0, .inl (cI, 492, .inl s_r0))] sz)) 0 0 (va_A [(o, .inr (0, [.ref o_cells])), (o_cells, .inl (cI, 82, .inl s_cells)), (r0, .inl (cI, 492, .inl s_r0))] sz) := by
  refine Met.ofW (cc := cX0_copyTo) (maxL := 3) (ret := none) (by decide) rfl ?_
  intro p e s m args below meth c s₁ B hml hv
  obtain ⟨rfl, hsz, hP, hK, hD0⟩ := hv
  have hx := B.exec
  have hb := B.bytes
  have hr := B.returns
  have hts := atoms_spec (ws := Cond.code yX0_copyTo cX0_copyTo 3 none :: TBL) B.pre
  have ht : ∀ w ∈ TBL, w.before ([.ref o, .ref r0, .int p1] : List Value).toArray s = true := fun w h => hts w (List.mem_cons_of_mem _ h)
  clear hts
  have hown : s.vm.findClass RX0 = some m.cls := findClass_of_methodNamed B.named
  have hlocks := B.notSynchronized
  clear B
  subst hsz
  have hD := hD0.self (sz := s.heap.size)
  clear hD0
  generalize hAe : va_A [(o, .inr (0, [.ref o_cells])), (o_cells, .inl (cI, 82, .inl s_cells)), (r0, .inl (cI, 492, .inl s_r0))] s.heap.size = A at hD ⊢
  have hA : ∀ q : Nat, s.heap.size ≤ q → A q := fun q h => by rw [← hAe]; exact Or.inr h
  clear hAe
  have hS : va_S A s.heap s.heap [] := va_S.rf
  have hP : va_P (dC, dI) vwCl [(o, .inr (0, [.ref o_cells])), (o_cells, .inl (cI, 82, .inl s_cells)), (r0, .inl (cI, 492, .inl s_r0))] s.heap := hP
  have hl := lv_entry ([.ref o, .ref r0, .int p1]) (n := 3) (Nat.le_of_ble_eq_true rfl)
  rw [lg_entry_eq]
  generalize (lg_sl ([.ref o, .ref r0, .int p1]) ++ List.replicate (3 - (lg_sl ([.ref o, .ref r0, .int p1])).length) Slot.unset).toArray = ls at hl ⊢
  have hl : lv_has ls 3 [(0, .ref o), (1, .ref r0), (2, .int p1)] := hl
  generalize hQQ : MQ below _ _ _ 0 0 A = QQ
  show W p l e rm_X0_copyTo s m ([.ref o, .ref r0, .int p1] : List Value).toArray below meth c s.heap [] 0 0 QQ (F0 m 0 ls [])
  obtain ⟨H, hHH⟩ : ∃ H, H = s.heap := ⟨_, rfl⟩
  rw [← hHH] at hP ⊢
  have hS : va_S A s.heap H [] := by rw [hHH]; exact hS
  clear hHH
  generalize ([] : List Loc) = locs at hS ⊢
  unfold P_X0_copyTo at hw
  refine lv_iload_n hx hb dX0_copyTo_0 rfl (lv_at hl 2 rfl) ?_
  refine lv_if_lt (tgt := 25) hx hb dX0_copyTo_1 (by decide) (fun hc => ?_) (fun hc => ?_)
  · have hw := hw.1 hc
    rw [← hQQ]
    exact g_retv (u := s_r0) hx hb hr hlocks hw hP hK hD hS dX0_copyTo_25
  · have hw := hw.2 hc
    refine lv_iload_n hx hb dX0_copyTo_4 rfl (lv_at hl 2 rfl) ?_
    refine lv_bipush (v := 82) hx hb dX0_copyTo_5 (by decide) ?_
    refine lv_iadd hx hb dX0_copyTo_7 ?_
    refine lv_aload_n hx hb dX0_copyTo_8 rfl (lv_at hl 1 rfl) ?_
    refine va_alen (v := 492) hx hb hK hP 2 0 rfl rfl rfl dX0_copyTo_9 ?_
    refine lv_icmp_gt (tgt := 25) hx hb dX0_copyTo_10 (by decide) (fun hc => ?_) (fun hc => ?_)
    · have hw := hw.1 hc
      rw [← hQQ]
      exact g_retv (u := s_r0) hx hb hr hlocks hw hP hK hD hS dX0_copyTo_25
    · have hw := hw.2 hc
      refine lv_aload_n hx hb dX0_copyTo_13 rfl (lv_at hl 0 rfl) ?_
      refine va_get (D := (dC, dI)) (ci := 0) (v := .ref o_cells) (C := RX0) (T := TX0) (N := 1) hx hb ht i_X0 hown hK hP 0 rfl rfl 0 (by decide) (ht _ k_31) (fun _ h9 => h9) rfl dX0_copyTo_14 ?_
      refine lv_iconst (v := 0) hx hb dX0_copyTo_17 (by decide) ?_
      refine lv_aload_n hx hb dX0_copyTo_18 rfl (lv_at hl 1 rfl) ?_
      refine lv_iload_n hx hb dX0_copyTo_19 rfl (lv_at hl 2 rfl) ?_
      refine lv_bipush (v := 82) hx hb dX0_copyTo_20 (by decide) ?_
      obtain ⟨⟨hc_1, hc_2, hc_3, hc_4, hc_5⟩, hw⟩ := hw
      refine va_copyi hx hb (hml.trans hl.1.symm) hown (ht _ k_622) (ht _ k_544) (ht _ k_543) (ht _ k_11) hK hP hD hS 1 2 0 0 rfl rfl rfl rfl rfl hc_1 hc_2 hc_3 hc_4 hc_5 (fun _ _ => rfl) (Nat.le_of_ble_eq_true rfl) (Nat.le_of_ble_eq_true rfl) dX0_copyTo_22 (fun H locs hP hD hS => ?_)
      have hP : va_P (dC, dI) vwCl [(o, .inr (0, [.ref o_cells])), (o_cells, .inl (cI, 82, .inl s_cells)), (r0, .inl (cI, 492, .inl (va_cpy s_cells s_r0 0 p1.toNatClampNeg 82)))] H := hP
      have hD : va_D A [(o, .inr (0, [.ref o_cells])), (o_cells, .inl (cI, 82, .inl s_cells)), (r0, .inl (cI, 492, .inl (va_cpy s_cells s_r0 0 p1.toNatClampNeg 82)))] := hD
      rw [← hQQ]
      exact g_retv (u := (va_cpy s_cells s_r0 0 p1.toNatClampNeg 82)) hx hb hr hlocks hw hP hK hD hS dX0_copyTo_25
abbrev rm_X0_copyFrom : Room := { frames := 1, cells := 0, slots := 0, locals := 26 }
set_option maxHeartbeats 4000000 in
set_option maxRecDepth 100000 in
theorem c_X0_copyFrom (l : Launch) (dC : Nat → ClassId) (dI : Nat → Nat → Nat) (cI cJ : ClassId) (o o_cells r0 : Nat) (sz : Nat) (s_cells : Nat → Int32) (s_r0 : Nat → Int32) (p1 : Int32) (Q : (Nat → Int32) → Prop) (hw : P_X0_copyFrom p1 s_cells s_r0 Q) : Met l yX0_copyFrom (Cond.code yX0_copyFrom cX0_copyFrom 3 none :: TBL) rm_X0_copyFrom (gPc (dC, dI) vwCl (gTy cI cJ) [.ref o, .ref r0, .int p1] [(o, .inr (0, [.ref o_cells])), (o_cells, .inl (cI, 82, .inl s_cells)), (r0, .inl (cI, 492, .inl s_r0))] sz) (va_Qv (fun (u : (Nat → Int32)) => Q u) (gB (dC, dI) vwCl (gTy cI cJ) (va_A [(o, .inr (0, [.ref o_cells])), (o_cells, .inl (cI, 82, .inl s_cells)), (r0, .inl (cI, 492, .inl s_r0))] sz) (fun (u : (Nat → Int32)) => [(o, .inr (0, [.ref o_cells])), (o_cells, .inl (cI, 82, .inl u)), (r0, .inl (cI, 492, .inl s_r0))])) (va_A [(o, .inr (0, [.ref o_cells])), (o_cells, .inl (cI, 82, .inl s_cells)), (r0, .inl (cI, 492, .inl s_r0))] sz)) 0 0 (va_A [(o, .inr (0, [.ref o_cells])), (o_cells, .inl (cI, 82, .inl s_cells)), (r0, .inl (cI, 492, .inl s_r0))] sz) := by
  refine Met.ofW (cc := cX0_copyFrom) (maxL := 3) (ret := none) (by decide) rfl ?_
  intro p e s m args below meth c s₁ B hml hv
  obtain ⟨rfl, hsz, hP, hK, hD0⟩ := hv
  have hx := B.exec
  have hb := B.bytes
  have hr := B.returns
  have hts := atoms_spec (ws := Cond.code yX0_copyFrom cX0_copyFrom 3 none :: TBL) B.pre
  have ht : ∀ w ∈ TBL, w.before ([.ref o, .ref r0, .int p1] : List Value).toArray s = true := fun w h => hts w (List.mem_cons_of_mem _ h)
  clear hts
  have hown : s.vm.findClass RX0 = some m.cls := findClass_of_methodNamed B.named
  have hlocks := B.notSynchronized
  clear B
  subst hsz
  have hD := hD0.self (sz := s.heap.size)
  clear hD0
  generalize hAe : va_A [(o, .inr (0, [.ref o_cells])), (o_cells, .inl (cI, 82, .inl s_cells)), (r0, .inl (cI, 492, .inl s_r0))] s.heap.size = A at hD ⊢
  have hA : ∀ q : Nat, s.heap.size ≤ q → A q := fun q h => by rw [← hAe]; exact Or.inr h
  clear hAe
  have hS : va_S A s.heap s.heap [] := va_S.rf
  have hP : va_P (dC, dI) vwCl [(o, .inr (0, [.ref o_cells])), (o_cells, .inl (cI, 82, .inl s_cells)), (r0, .inl (cI, 492, .inl s_r0))] s.heap := hP
  have hl := lv_entry ([.ref o, .ref r0, .int p1]) (n := 3) (Nat.le_of_ble_eq_true rfl)
  rw [lg_entry_eq]
  generalize (lg_sl ([.ref o, .ref r0, .int p1]) ++ List.replicate (3 - (lg_sl ([.ref o, .ref r0, .int p1])).length) Slot.unset).toArray = ls at hl ⊢
  have hl : lv_has ls 3 [(0, .ref o), (1, .ref r0), (2, .int p1)] := hl
  generalize hQQ : MQ below _ _ _ 0 0 A = QQ
  show W p l e rm_X0_copyFrom s m ([.ref o, .ref r0, .int p1] : List Value).toArray below meth c s.heap [] 0 0 QQ (F0 m 0 ls [])
  obtain ⟨H, hHH⟩ : ∃ H, H = s.heap := ⟨_, rfl⟩
  rw [← hHH] at hP ⊢
  have hS : va_S A s.heap H [] := by rw [hHH]; exact hS
  clear hHH
  generalize ([] : List Loc) = locs at hS ⊢
  unfold P_X0_copyFrom at hw
  refine lv_iload_n hx hb dX0_copyFrom_0 rfl (lv_at hl 2 rfl) ?_
  refine lv_if_lt (tgt := 25) hx hb dX0_copyFrom_1 (by decide) (fun hc => ?_) (fun hc => ?_)
  · have hw := hw.1 hc
    rw [← hQQ]
    exact g_retv (u := s_cells) hx hb hr hlocks hw hP hK hD hS dX0_copyFrom_25
  · have hw := hw.2 hc
    refine lv_iload_n hx hb dX0_copyFrom_4 rfl (lv_at hl 2 rfl) ?_
    refine lv_bipush (v := 82) hx hb dX0_copyFrom_5 (by decide) ?_
    refine lv_iadd hx hb dX0_copyFrom_7 ?_
    refine lv_aload_n hx hb dX0_copyFrom_8 rfl (lv_at hl 1 rfl) ?_
    refine va_alen (v := 492) hx hb hK hP 2 0 rfl rfl rfl dX0_copyFrom_9 ?_
    refine lv_icmp_gt (tgt := 25) hx hb dX0_copyFrom_10 (by decide) (fun hc => ?_) (fun hc => ?_)
    · have hw := hw.1 hc
      rw [← hQQ]
      exact g_retv (u := s_cells) hx hb hr hlocks hw hP hK hD hS dX0_copyFrom_25
    · have hw := hw.2 hc
      refine lv_aload_n hx hb dX0_copyFrom_13 rfl (lv_at hl 1 rfl) ?_
      refine lv_iload_n hx hb dX0_copyFrom_14 rfl (lv_at hl 2 rfl) ?_
      refine lv_aload_n hx hb dX0_copyFrom_15 rfl (lv_at hl 0 rfl) ?_
      refine va_get (D := (dC, dI)) (ci := 0) (v := .ref o_cells) (C := RX0) (T := TX0) (N := 1) hx hb ht i_X0 hown hK hP 0 rfl rfl 0 (by decide) (ht _ k_31) (fun _ h9 => h9) rfl dX0_copyFrom_16 ?_
      refine lv_iconst (v := 0) hx hb dX0_copyFrom_19 (by decide) ?_
      refine lv_bipush (v := 82) hx hb dX0_copyFrom_20 (by decide) ?_
      obtain ⟨⟨hc_1, hc_2, hc_3, hc_4, hc_5⟩, hw⟩ := hw
      refine va_copyi hx hb (hml.trans hl.1.symm) hown (ht _ k_622) (ht _ k_544) (ht _ k_543) (ht _ k_11) hK hP hD hS 2 1 0 0 rfl rfl rfl rfl rfl hc_1 hc_2 hc_3 hc_4 hc_5 (fun _ _ => rfl) (Nat.le_of_ble_eq_true rfl) (Nat.le_of_ble_eq_true rfl) dX0_copyFrom_22 (fun H locs hP hD hS => ?_)
      have hP : va_P (dC, dI) vwCl [(o, .inr (0, [.ref o_cells])), (o_cells, .inl (cI, 82, .inl (va_cpy s_r0 s_cells p1.toNatClampNeg 0 82))), (r0, .inl (cI, 492, .inl s_r0))] H := hP
      have hD : va_D A [(o, .inr (0, [.ref o_cells])), (o_cells, .inl (cI, 82, .inl (va_cpy s_r0 s_cells p1.toNatClampNeg 0 82))), (r0, .inl (cI, 492, .inl s_r0))] := hD
      rw [← hQQ]
      exact g_retv (u := (va_cpy s_r0 s_cells p1.toNatClampNeg 0 82)) hx hb hr hlocks hw hP hK hD hS dX0_copyFrom_25
abbrev rm_X0_putCell : Room := { frames := 0, cells := 0, slots := 0, locals := 0 }
set_option maxHeartbeats 4000000 in
set_option maxRecDepth 100000 in
theorem c_X0_putCell (l : Launch) (dC : Nat → ClassId) (dI : Nat → Nat → Nat) (cI cJ : ClassId) (o o_cells : Nat) (sz : Nat) (s_cells : Nat → Int32) (p0 : Int32) (p1 : Int32) (Q : (Nat → Int32) → Prop) (hw : P_X0_putCell p0 p1 s_cells Q) : Met l yX0_putCell (Cond.code yX0_putCell cX0_putCell 3 none :: TBL) rm_X0_putCell (gPc (dC, dI) vwCl (gTy cI cJ) [.ref o, .int p0, .int p1] [(o, .inr (0, [.ref o_cells])), (o_cells, .inl (cI, 82, .inl s_cells))] sz) (va_Qv (fun (u : (Nat → Int32)) => Q u) (gB (dC, dI) vwCl (gTy cI cJ) (va_A [(o, .inr (0, [.ref o_cells])), (o_cells, .inl (cI, 82, .inl s_cells))] sz) (fun (u : (Nat → Int32)) => [(o, .inr (0, [.ref o_cells])), (o_cells, .inl (cI, 82, .inl u))])) (va_A [(o, .inr (0, [.ref o_cells])), (o_cells, .inl (cI, 82, .inl s_cells))] sz)) 0 0 (va_A [(o, .inr (0, [.ref o_cells])), (o_cells, .inl (cI, 82, .inl s_cells))] sz) := by
  refine Met.ofW (cc := cX0_putCell) (maxL := 3) (ret := none) (by decide) rfl ?_
  intro p e s m args below meth c s₁ B hml hv
  obtain ⟨rfl, hsz, hP, hK, hD0⟩ := hv
  have hx := B.exec
  have hb := B.bytes
  have hr := B.returns
  have hts := atoms_spec (ws := Cond.code yX0_putCell cX0_putCell 3 none :: TBL) B.pre
  have ht : ∀ w ∈ TBL, w.before ([.ref o, .int p0, .int p1] : List Value).toArray s = true := fun w h => hts w (List.mem_cons_of_mem _ h)
  clear hts
  have hown : s.vm.findClass RX0 = some m.cls := findClass_of_methodNamed B.named
  have hlocks := B.notSynchronized
  clear B
  subst hsz
  have hD := hD0.self (sz := s.heap.size)
  clear hD0
  generalize hAe : va_A [(o, .inr (0, [.ref o_cells])), (o_cells, .inl (cI, 82, .inl s_cells))] s.heap.size = A at hD ⊢
  have hA : ∀ q : Nat, s.heap.size ≤ q → A q := fun q h => by rw [← hAe]; exact Or.inr h
  clear hAe
  have hS : va_S A s.heap s.heap [] := va_S.rf
  have hP : va_P (dC, dI) vwCl [(o, .inr (0, [.ref o_cells])), (o_cells, .inl (cI, 82, .inl s_cells))] s.heap := hP
  have hl := lv_entry ([.ref o, .int p0, .int p1]) (n := 3) (Nat.le_of_ble_eq_true rfl)
  rw [lg_entry_eq]
  generalize (lg_sl ([.ref o, .int p0, .int p1]) ++ List.replicate (3 - (lg_sl ([.ref o, .int p0, .int p1])).length) Slot.unset).toArray = ls at hl ⊢
  have hl : lv_has ls 3 [(0, .ref o), (1, .int p0), (2, .int p1)] := hl
  generalize hQQ : MQ below _ _ _ 0 0 A = QQ
  show W p l e rm_X0_putCell s m ([.ref o, .int p0, .int p1] : List Value).toArray below meth c s.heap [] 0 0 QQ (F0 m 0 ls [])
  obtain ⟨H, hHH⟩ : ∃ H, H = s.heap := ⟨_, rfl⟩
  rw [← hHH] at hP ⊢
  have hS : va_S A s.heap H [] := by rw [hHH]; exact hS
  clear hHH
  generalize ([] : List Loc) = locs at hS ⊢
  unfold P_X0_putCell at hw
  refine lv_iload_n hx hb dX0_putCell_0 rfl (lv_at hl 1 rfl) ?_
  refine lv_if_lt (tgt := 20) hx hb dX0_putCell_1 (by decide) (fun hc => ?_) (fun hc => ?_)
  · have hw := hw.1 hc
    rw [← hQQ]
    exact g_retv (u := s_cells) hx hb hr hlocks hw hP hK hD hS dX0_putCell_20
  · have hw := hw.2 hc
    refine lv_iload_n hx hb dX0_putCell_4 rfl (lv_at hl 1 rfl) ?_
    refine lv_aload_n hx hb dX0_putCell_5 rfl (lv_at hl 0 rfl) ?_
    refine va_get (D := (dC, dI)) (ci := 0) (v := .ref o_cells) (C := RX0) (T := TX0) (N := 1) hx hb ht i_X0 hown hK hP 0 rfl rfl 0 (by decide) (ht _ k_31) (fun _ h9 => h9) rfl dX0_putCell_6 ?_
    refine va_alen (v := 82) hx hb hK hP 1 0 rfl rfl rfl dX0_putCell_9 ?_
    refine lv_icmp_ge (tgt := 20) hx hb dX0_putCell_10 (by decide) (fun hc => ?_) (fun hc => ?_)
    · have hw := hw.1 hc
      rw [← hQQ]
      exact g_retv (u := s_cells) hx hb hr hlocks hw hP hK hD hS dX0_putCell_20
    · have hw := hw.2 hc
      refine lv_aload_n hx hb dX0_putCell_13 rfl (lv_at hl 0 rfl) ?_
      refine va_get (D := (dC, dI)) (ci := 0) (v := .ref o_cells) (C := RX0) (T := TX0) (N := 1) hx hb ht i_X0 hown hK hP 0 rfl rfl 0 (by decide) (ht _ k_31) (fun _ h9 => h9) rfl dX0_putCell_14 ?_
      refine lv_iload_n hx hb dX0_putCell_17 rfl (lv_at hl 1 rfl) ?_
      refine lv_iload_n hx hb dX0_putCell_18 rfl (lv_at hl 2 rfl) ?_
      obtain ⟨hi_1, hw⟩ := hw
      refine gv_iast hx hb hK hP hD hS 1 0 rfl rfl rfl hi_1 dX0_putCell_19 (fun H locs hP hD hS => ?_)
      have hP : va_P (dC, dI) vwCl [(o, .inr (0, [.ref o_cells])), (o_cells, .inl (cI, 82, .inl (upd s_cells p0.toNatClampNeg p1)))] H := hP
      have hD : va_D A [(o, .inr (0, [.ref o_cells])), (o_cells, .inl (cI, 82, .inl (upd s_cells p0.toNatClampNeg p1)))] := hD
      rw [← hQQ]
      exact g_retv (u := (upd s_cells p0.toNatClampNeg p1)) hx hb hr hlocks hw hP hK hD hS dX0_putCell_20
abbrev rm_X0_closeGap : Room := { frames := 1, cells := 0, slots := 0, locals := 26 }
set_option maxHeartbeats 4000000 in
set_option maxRecDepth 100000 in
theorem c_X0_closeGap (l : Launch) (dC : Nat → ClassId) (dI : Nat → Nat → Nat) (cI cJ : ClassId) (o o_cells : Nat) (sz : Nat) (s_cells : Nat → Int32) (p0 : Int32) (p1 : Int32) (p2 : Int32) (Q : (Nat → Int32) → Prop) (hw : P_X0_closeGap p0 p1 p2 s_cells Q) : Met l yX0_closeGap (Cond.code yX0_closeGap cX0_closeGap 4 none :: TBL) rm_X0_closeGap (gPc (dC, dI) vwCl (gTy cI cJ) [.ref o, .int p0, .int p1, .int p2] [(o, .inr (0, [.ref o_cells])), (o_cells, .inl (cI, 82, .inl s_cells))] sz) (va_Qv (fun (u : (Nat → Int32)) => Q u) (gB (dC, dI) vwCl (gTy cI cJ) (va_A [(o, .inr (0, [.ref o_cells])), (o_cells, .inl (cI, 82, .inl s_cells))] sz) (fun (u : (Nat → Int32)) => [(o, .inr (0, [.ref o_cells])), (o_cells, .inl (cI, 82, .inl u))])) (va_A [(o, .inr (0, [.ref o_cells])), (o_cells, .inl (cI, 82, .inl s_cells))] sz)) 0 0 (va_A [(o, .inr (0, [.ref o_cells])), (o_cells, .inl (cI, 82, .inl s_cells))] sz) := by
  refine Met.ofW (cc := cX0_closeGap) (maxL := 4) (ret := none) (by decide) rfl ?_
  intro p e s m args below meth c s₁ B hml hv
  obtain ⟨rfl, hsz, hP, hK, hD0⟩ := hv
  have hx := B.exec
  have hb := B.bytes
  have hr := B.returns
  have hts := atoms_spec (ws := Cond.code yX0_closeGap cX0_closeGap 4 none :: TBL) B.pre
  have ht : ∀ w ∈ TBL, w.before ([.ref o, .int p0, .int p1, .int p2] : List Value).toArray s = true := fun w h => hts w (List.mem_cons_of_mem _ h)
  clear hts
  have hown : s.vm.findClass RX0 = some m.cls := findClass_of_methodNamed B.named
  have hlocks := B.notSynchronized
  clear B
  subst hsz
  have hD := hD0.self (sz := s.heap.size)
  clear hD0
  generalize hAe : va_A [(o, .inr (0, [.ref o_cells])), (o_cells, .inl (cI, 82, .inl s_cells))] s.heap.size = A at hD ⊢
  have hA : ∀ q : Nat, s.heap.size ≤ q → A q := fun q h => by rw [← hAe]; exact Or.inr h
  clear hAe
  have hS : va_S A s.heap s.heap [] := va_S.rf
  have hP : va_P (dC, dI) vwCl [(o, .inr (0, [.ref o_cells])), (o_cells, .inl (cI, 82, .inl s_cells))] s.heap := hP
  have hl := lv_entry ([.ref o, .int p0, .int p1, .int p2]) (n := 4) (Nat.le_of_ble_eq_true rfl)
  rw [lg_entry_eq]
  generalize (lg_sl ([.ref o, .int p0, .int p1, .int p2]) ++ List.replicate (4 - (lg_sl ([.ref o, .int p0, .int p1, .int p2])).length) Slot.unset).toArray = ls at hl ⊢
  have hl : lv_has ls 4 [(0, .ref o), (1, .int p0), (2, .int p1), (3, .int p2)] := hl
  generalize hQQ : MQ below _ _ _ 0 0 A = QQ
  show W p l e rm_X0_closeGap s m ([.ref o, .int p0, .int p1, .int p2] : List Value).toArray below meth c s.heap [] 0 0 QQ (F0 m 0 ls [])
  obtain ⟨H, hHH⟩ : ∃ H, H = s.heap := ⟨_, rfl⟩
  rw [← hHH] at hP ⊢
  have hS : va_S A s.heap H [] := by rw [hHH]; exact hS
  clear hHH
  generalize ([] : List Loc) = locs at hS ⊢
  unfold P_X0_closeGap at hw
  refine lv_iload_n hx hb dX0_closeGap_0 rfl (lv_at hl 1 rfl) ?_
  refine lv_if_lt (tgt := 44) hx hb dX0_closeGap_1 (by decide) (fun hc => ?_) (fun hc => ?_)
  · have hw := hw.1 hc
    rw [← hQQ]
    exact g_retv (u := s_cells) hx hb hr hlocks hw hP hK hD hS dX0_closeGap_44
  · have hw := hw.2 hc
    refine lv_iload_n hx hb dX0_closeGap_4 rfl (lv_at hl 2 rfl) ?_
    refine lv_if_lt (tgt := 44) hx hb dX0_closeGap_5 (by decide) (fun hc => ?_) (fun hc => ?_)
    · have hw := hw.1 hc
      rw [← hQQ]
      exact g_retv (u := s_cells) hx hb hr hlocks hw hP hK hD hS dX0_closeGap_44
    · have hw := hw.2 hc
      refine lv_iload_n hx hb dX0_closeGap_8 rfl (lv_at hl 1 rfl) ?_
      refine lv_iload_n hx hb dX0_closeGap_9 rfl (lv_at hl 2 rfl) ?_
      refine lv_iadd hx hb dX0_closeGap_10 ?_
      refine lv_iload_n hx hb dX0_closeGap_11 rfl (lv_at hl 3 rfl) ?_
      refine lv_icmp_gt (tgt := 44) hx hb dX0_closeGap_12 (by decide) (fun hc => ?_) (fun hc => ?_)
      · have hw := hw.1 hc
        rw [← hQQ]
        exact g_retv (u := s_cells) hx hb hr hlocks hw hP hK hD hS dX0_closeGap_44
      · have hw := hw.2 hc
        refine lv_iload_n hx hb dX0_closeGap_15 rfl (lv_at hl 3 rfl) ?_
        refine lv_aload_n hx hb dX0_closeGap_16 rfl (lv_at hl 0 rfl) ?_
        refine va_get (D := (dC, dI)) (ci := 0) (v := .ref o_cells) (C := RX0) (T := TX0) (N := 1) hx hb ht i_X0 hown hK hP 0 rfl rfl 0 (by decide) (ht _ k_31) (fun _ h9 => h9) rfl dX0_closeGap_17 ?_
        refine va_alen (v := 82) hx hb hK hP 1 0 rfl rfl rfl dX0_closeGap_20 ?_
        refine lv_icmp_gt (tgt := 44) hx hb dX0_closeGap_21 (by decide) (fun hc => ?_) (fun hc => ?_)
        · have hw := hw.1 hc
          rw [← hQQ]
          exact g_retv (u := s_cells) hx hb hr hlocks hw hP hK hD hS dX0_closeGap_44
        · have hw := hw.2 hc
          refine lv_aload_n hx hb dX0_closeGap_24 rfl (lv_at hl 0 rfl) ?_
          refine va_get (D := (dC, dI)) (ci := 0) (v := .ref o_cells) (C := RX0) (T := TX0) (N := 1) hx hb ht i_X0 hown hK hP 0 rfl rfl 0 (by decide) (ht _ k_31) (fun _ h9 => h9) rfl dX0_closeGap_25 ?_
          refine lv_iload_n hx hb dX0_closeGap_28 rfl (lv_at hl 1 rfl) ?_
          refine lv_iload_n hx hb dX0_closeGap_29 rfl (lv_at hl 2 rfl) ?_
          refine lv_iadd hx hb dX0_closeGap_30 ?_
          refine lv_aload_n hx hb dX0_closeGap_31 rfl (lv_at hl 0 rfl) ?_
          refine va_get (D := (dC, dI)) (ci := 0) (v := .ref o_cells) (C := RX0) (T := TX0) (N := 1) hx hb ht i_X0 hown hK hP 0 rfl rfl 0 (by decide) (ht _ k_31) (fun _ h9 => h9) rfl dX0_closeGap_32 ?_
          refine lv_iload_n hx hb dX0_closeGap_35 rfl (lv_at hl 1 rfl) ?_
          refine lv_iload_n hx hb dX0_closeGap_36 rfl (lv_at hl 3 rfl) ?_
          refine lv_iload_n hx hb dX0_closeGap_37 rfl (lv_at hl 1 rfl) ?_
          refine lv_isub hx hb dX0_closeGap_38 ?_
          refine lv_iload_n hx hb dX0_closeGap_39 rfl (lv_at hl 2 rfl) ?_
          refine lv_isub hx hb dX0_closeGap_40 ?_
          obtain ⟨⟨hc_1, hc_2, hc_3, hc_4, hc_5⟩, hw⟩ := hw
          refine va_copyi hx hb (hml.trans hl.1.symm) hown (ht _ k_622) (ht _ k_544) (ht _ k_543) (ht _ k_11) hK hP hD hS 1 1 0 0 rfl rfl rfl rfl rfl hc_1 hc_2 hc_3 hc_4 hc_5 (fun _ _ => rfl) (Nat.le_of_ble_eq_true rfl) (Nat.le_of_ble_eq_true rfl) dX0_closeGap_41 (fun H locs hP hD hS => ?_)
          have hP : va_P (dC, dI) vwCl [(o, .inr (0, [.ref o_cells])), (o_cells, .inl (cI, 82, .inl (va_cpy s_cells s_cells ((p0 + p1).toNatClampNeg) p0.toNatClampNeg (((p2 - p0) - p1).toNatClampNeg))))] H := hP
          have hD : va_D A [(o, .inr (0, [.ref o_cells])), (o_cells, .inl (cI, 82, .inl (va_cpy s_cells s_cells ((p0 + p1).toNatClampNeg) p0.toNatClampNeg (((p2 - p0) - p1).toNatClampNeg))))] := hD
          rw [← hQQ]
          exact g_retv (u := (va_cpy s_cells s_cells ((p0 + p1).toNatClampNeg) p0.toNatClampNeg (((p2 - p0) - p1).toNatClampNeg))) hx hb hr hlocks hw hP hK hD hS dX0_closeGap_44
abbrev rm_X0_words : Room := { frames := 0, cells := 0, slots := 0, locals := 0 }
set_option maxHeartbeats 4000000 in
set_option maxRecDepth 100000 in
theorem c_X0_words (l : Launch) (dC : Nat → ClassId) (dI : Nat → Nat → Nat) (cI cJ : ClassId) (o o_cells : Nat) (sz : Nat) (s_cells : Nat → Int32)  (Q : Int32 → Prop) (hw : P_X0_words s_cells Q) : Met l yX0_words (Cond.code yX0_words cX0_words 1 (some .int) :: TBL) rm_X0_words (gPc (dC, dI) vwCl (gTy cI cJ) [.ref o] [(o, .inr (0, [.ref o_cells])), (o_cells, .inl (cI, 82, .inl s_cells))] sz) (va_Qi (fun (r : Int32) (u : Unit) => Q r ) (gB (dC, dI) vwCl (gTy cI cJ) (va_A [(o, .inr (0, [.ref o_cells])), (o_cells, .inl (cI, 82, .inl s_cells))] sz) (fun (u : Unit) => [(o, .inr (0, [.ref o_cells])), (o_cells, .inl (cI, 82, .inl s_cells))])) (va_A [(o, .inr (0, [.ref o_cells])), (o_cells, .inl (cI, 82, .inl s_cells))] sz)) 0 0 (va_A [(o, .inr (0, [.ref o_cells])), (o_cells, .inl (cI, 82, .inl s_cells))] sz) := by
  refine Met.ofW (cc := cX0_words) (maxL := 1) (ret := (some .int)) (by decide) rfl ?_
  intro p e s m args below meth c s₁ B hml hv
  obtain ⟨rfl, hsz, hP, hK, hD0⟩ := hv
  have hx := B.exec
  have hb := B.bytes
  have hr := B.returns
  have hts := atoms_spec (ws := Cond.code yX0_words cX0_words 1 (some .int) :: TBL) B.pre
  have ht : ∀ w ∈ TBL, w.before ([.ref o] : List Value).toArray s = true := fun w h => hts w (List.mem_cons_of_mem _ h)
  clear hts
  have hown : s.vm.findClass RX0 = some m.cls := findClass_of_methodNamed B.named
  have hlocks := B.notSynchronized
  clear B
  subst hsz
  have hD := hD0.self (sz := s.heap.size)
  clear hD0
  generalize hAe : va_A [(o, .inr (0, [.ref o_cells])), (o_cells, .inl (cI, 82, .inl s_cells))] s.heap.size = A at hD ⊢
  have hA : ∀ q : Nat, s.heap.size ≤ q → A q := fun q h => by rw [← hAe]; exact Or.inr h
  clear hAe
  have hS : va_S A s.heap s.heap [] := va_S.rf
  have hP : va_P (dC, dI) vwCl [(o, .inr (0, [.ref o_cells])), (o_cells, .inl (cI, 82, .inl s_cells))] s.heap := hP
  have hl := lv_entry ([.ref o]) (n := 1) (Nat.le_of_ble_eq_true rfl)
  rw [lg_entry_eq]
  generalize (lg_sl ([.ref o]) ++ List.replicate (1 - (lg_sl ([.ref o])).length) Slot.unset).toArray = ls at hl ⊢
  have hl : lv_has ls 1 [(0, .ref o)] := hl
  generalize hQQ : MQ below _ _ _ 0 0 A = QQ
  show W p l e rm_X0_words s m ([.ref o] : List Value).toArray below meth c s.heap [] 0 0 QQ (F0 m 0 ls [])
  obtain ⟨H, hHH⟩ : ∃ H, H = s.heap := ⟨_, rfl⟩
  rw [← hHH] at hP ⊢
  have hS : va_S A s.heap H [] := by rw [hHH]; exact hS
  clear hHH
  generalize ([] : List Loc) = locs at hS ⊢
  unfold P_X0_words at hw
  refine lv_aload_n hx hb dX0_words_0 rfl (lv_at hl 0 rfl) ?_
  refine va_get (D := (dC, dI)) (ci := 0) (v := .ref o_cells) (C := RX0) (T := TX0) (N := 1) hx hb ht i_X0 hown hK hP 0 rfl rfl 0 (by decide) (ht _ k_31) (fun _ h9 => h9) rfl dX0_words_1 ?_
  refine lv_bipush (v := 80) hx hb dX0_words_4 (by decide) ?_
  refine gv_iald hx hb hK hP 1 0 rfl rfl (k := 80) (by decide) (by unfold vp_in; decide) dX0_words_6 ?_
  rw [← hQQ]
  exact g_reti (v := (s_cells 80)) (u := ()) hx hb hr rfl hlocks hw hP hK hD hS dX0_words_7
abbrev rm_X0_hasWord : Room := { frames := 1, cells := 0, slots := 0, locals := 20 }
set_option maxHeartbeats 4000000 in
set_option maxRecDepth 100000 in
theorem c_X0_hasWord (l : Launch) (dC : Nat → ClassId) (dI : Nat → Nat → Nat) (cI cJ : ClassId) (o o_cells : Nat) (sz : Nat) (s_cells : Nat → Int32) (p0 : Int32) (Q : Int32 → Prop) (hw : P_X0_hasWord p0 s_cells Q) : Met l yX0_hasWord (Cond.code yX0_hasWord cX0_hasWord 2 (some .boolean) :: TBL) rm_X0_hasWord (gPc (dC, dI) vwCl (gTy cI cJ) [.ref o, .int p0] [(o, .inr (0, [.ref o_cells])), (o_cells, .inl (cI, 82, .inl s_cells))] sz) (va_Qi (fun (r : Int32) (u : Unit) => Q r ) (gB (dC, dI) vwCl (gTy cI cJ) (va_A [(o, .inr (0, [.ref o_cells])), (o_cells, .inl (cI, 82, .inl s_cells))] sz) (fun (u : Unit) => [(o, .inr (0, [.ref o_cells])), (o_cells, .inl (cI, 82, .inl s_cells))])) (va_A [(o, .inr (0, [.ref o_cells])), (o_cells, .inl (cI, 82, .inl s_cells))] sz)) 0 0 (va_A [(o, .inr (0, [.ref o_cells])), (o_cells, .inl (cI, 82, .inl s_cells))] sz) := by
  refine Met.ofW (cc := cX0_hasWord) (maxL := 2) (ret := (some .boolean)) (by decide) rfl ?_
  intro p e s m args below meth c s₁ B hml hv
  obtain ⟨rfl, hsz, hP, hK, hD0⟩ := hv
  have hx := B.exec
  have hb := B.bytes
  have hr := B.returns
  have hts := atoms_spec (ws := Cond.code yX0_hasWord cX0_hasWord 2 (some .boolean) :: TBL) B.pre
  have ht : ∀ w ∈ TBL, w.before ([.ref o, .int p0] : List Value).toArray s = true := fun w h => hts w (List.mem_cons_of_mem _ h)
  clear hts
  have hown : s.vm.findClass RX0 = some m.cls := findClass_of_methodNamed B.named
  have hlocks := B.notSynchronized
  clear B
  subst hsz
  have hD := hD0.self (sz := s.heap.size)
  clear hD0
  generalize hAe : va_A [(o, .inr (0, [.ref o_cells])), (o_cells, .inl (cI, 82, .inl s_cells))] s.heap.size = A at hD ⊢
  have hA : ∀ q : Nat, s.heap.size ≤ q → A q := fun q h => by rw [← hAe]; exact Or.inr h
  clear hAe
  have hS : va_S A s.heap s.heap [] := va_S.rf
  have hP : va_P (dC, dI) vwCl [(o, .inr (0, [.ref o_cells])), (o_cells, .inl (cI, 82, .inl s_cells))] s.heap := hP
  have hl := lv_entry ([.ref o, .int p0]) (n := 2) (Nat.le_of_ble_eq_true rfl)
  rw [lg_entry_eq]
  generalize (lg_sl ([.ref o, .int p0]) ++ List.replicate (2 - (lg_sl ([.ref o, .int p0])).length) Slot.unset).toArray = ls at hl ⊢
  have hl : lv_has ls 2 [(0, .ref o), (1, .int p0)] := hl
  generalize hQQ : MQ below _ _ _ 0 0 A = QQ
  show W p l e rm_X0_hasWord s m ([.ref o, .int p0] : List Value).toArray below meth c s.heap [] 0 0 QQ (F0 m 0 ls [])
  obtain ⟨H, hHH⟩ : ∃ H, H = s.heap := ⟨_, rfl⟩
  rw [← hHH] at hP ⊢
  have hS : va_S A s.heap H [] := by rw [hHH]; exact hS
  clear hHH
  generalize ([] : List Loc) = locs at hS ⊢
  unfold P_X0_hasWord at hw
  refine lv_iload_n hx hb dX0_hasWord_0 rfl (lv_at hl 1 rfl) ?_
  refine lv_if_lt (tgt := 16) hx hb dX0_hasWord_1 (by decide) (fun hc => ?_) (fun hc => ?_)
  · have hw := hw.1 hc
    refine lv_iconst (v := 0) hx hb dX0_hasWord_16 (by decide) ?_
    rw [← hQQ]
    exact g_reti (v := 0) (u := ()) hx hb hr rfl hlocks hw hP hK hD hS dX0_hasWord_17
  · have hw := hw.2 hc
    refine lv_iload_n hx hb dX0_hasWord_4 rfl (lv_at hl 1 rfl) ?_
    refine lv_aload_n hx hb dX0_hasWord_5 rfl (lv_at hl 0 rfl) ?_
    refine gc_Vi (As := []) (rest := [.int p0]) (wr := []) ⟨hx, hb, hml, hown, ht⟩ (c_X0_words l dC dI cI cJ o o_cells H.size s_cells _ hw) (cwV 0 ht (g_V k_189 k_190 k_191 k_2 k_192) rfl rfl rfl (by decide +kernel) ⟨(Nat.le_of_ble_eq_true rfl), (Nat.le_of_ble_eq_true rfl)⟩) hK hP hD hS hA [0, 1] [] rfl rfl (by decide) 0 rfl rfl rfl rfl hl.1 rfl (Nat.le_of_ble_eq_true rfl) ⟨(Nat.le_of_ble_eq_true rfl), (Nat.le_of_ble_eq_true rfl)⟩ dX0_hasWord_6 (fun r_1 u H locs hw hP hD hS => ?_)
    try dsimp only at hw
    have hP : va_P (dC, dI) vwCl [(o, .inr (0, [.ref o_cells])), (o_cells, .inl (cI, 82, .inl s_cells))] H := hP
    have hD : va_D A [(o, .inr (0, [.ref o_cells])), (o_cells, .inl (cI, 82, .inl s_cells))] := hD
    refine lv_icmp_ge (tgt := 16) hx hb dX0_hasWord_9 (by decide) (fun hc => ?_) (fun hc => ?_)
    · have hw := hw.1 hc
      refine lv_iconst (v := 0) hx hb dX0_hasWord_16 (by decide) ?_
      rw [← hQQ]
      exact g_reti (v := 0) (u := ()) hx hb hr rfl hlocks hw hP hK hD hS dX0_hasWord_17
    · have hw := hw.2 hc
      refine lv_iconst (v := 1) hx hb dX0_hasWord_12 (by decide) ?_
      refine lv_goto (tgt := 17) hx hb dX0_hasWord_13 (by decide) ?_
      rw [← hQQ]
      exact g_reti (v := 1) (u := ()) hx hb hr rfl hlocks hw hP hK hD hS dX0_hasWord_17
abbrev rm_X0_ofWord : Room := { frames := 0, cells := 0, slots := 0, locals := 0 }
set_option maxHeartbeats 4000000 in
set_option maxRecDepth 100000 in
theorem c_X0_ofWord (l : Launch) (dC : Nat → ClassId) (dI : Nat → Nat → Nat) (cI cJ : ClassId) (o o_cells : Nat) (sz : Nat) (s_cells : Nat → Int32) (p0 : Int32) (p1 : Int32) (Q : Int32 → Prop) (hw : P_X0_ofWord p0 p1 s_cells Q) : Met l yX0_ofWord (Cond.code yX0_ofWord cX0_ofWord 4 (some .int) :: TBL) rm_X0_ofWord (gPc (dC, dI) vwCl (gTy cI cJ) [.ref o, .int p0, .int p1] [(o, .inr (0, [.ref o_cells])), (o_cells, .inl (cI, 82, .inl s_cells))] sz) (va_Qi (fun (r : Int32) (u : Unit) => Q r ) (gB (dC, dI) vwCl (gTy cI cJ) (va_A [(o, .inr (0, [.ref o_cells])), (o_cells, .inl (cI, 82, .inl s_cells))] sz) (fun (u : Unit) => [(o, .inr (0, [.ref o_cells])), (o_cells, .inl (cI, 82, .inl s_cells))])) (va_A [(o, .inr (0, [.ref o_cells])), (o_cells, .inl (cI, 82, .inl s_cells))] sz)) 0 0 (va_A [(o, .inr (0, [.ref o_cells])), (o_cells, .inl (cI, 82, .inl s_cells))] sz) := by
  refine Met.ofW (cc := cX0_ofWord) (maxL := 4) (ret := (some .int)) (by decide) rfl ?_
  intro p e s m args below meth c s₁ B hml hv
  obtain ⟨rfl, hsz, hP, hK, hD0⟩ := hv
  have hx := B.exec
  have hb := B.bytes
  have hr := B.returns
  have hts := atoms_spec (ws := Cond.code yX0_ofWord cX0_ofWord 4 (some .int) :: TBL) B.pre
  have ht : ∀ w ∈ TBL, w.before ([.ref o, .int p0, .int p1] : List Value).toArray s = true := fun w h => hts w (List.mem_cons_of_mem _ h)
  clear hts
  have hown : s.vm.findClass RX0 = some m.cls := findClass_of_methodNamed B.named
  have hlocks := B.notSynchronized
  clear B
  subst hsz
  have hD := hD0.self (sz := s.heap.size)
  clear hD0
  generalize hAe : va_A [(o, .inr (0, [.ref o_cells])), (o_cells, .inl (cI, 82, .inl s_cells))] s.heap.size = A at hD ⊢
  have hA : ∀ q : Nat, s.heap.size ≤ q → A q := fun q h => by rw [← hAe]; exact Or.inr h
  clear hAe
  have hS : va_S A s.heap s.heap [] := va_S.rf
  have hP : va_P (dC, dI) vwCl [(o, .inr (0, [.ref o_cells])), (o_cells, .inl (cI, 82, .inl s_cells))] s.heap := hP
  have hl := lv_entry ([.ref o, .int p0, .int p1]) (n := 4) (Nat.le_of_ble_eq_true rfl)
  rw [lg_entry_eq]
  generalize (lg_sl ([.ref o, .int p0, .int p1]) ++ List.replicate (4 - (lg_sl ([.ref o, .int p0, .int p1])).length) Slot.unset).toArray = ls at hl ⊢
  have hl : lv_has ls 4 [(0, .ref o), (1, .int p0), (2, .int p1)] := hl
  generalize hQQ : MQ below _ _ _ 0 0 A = QQ
  show W p l e rm_X0_ofWord s m ([.ref o, .int p0, .int p1] : List Value).toArray below meth c s.heap [] 0 0 QQ (F0 m 0 ls [])
  obtain ⟨H, hHH⟩ : ∃ H, H = s.heap := ⟨_, rfl⟩
  rw [← hHH] at hP ⊢
  have hS : va_S A s.heap H [] := by rw [hHH]; exact hS
  clear hHH
  generalize ([] : List Loc) = locs at hS ⊢
  unfold P_X0_ofWord at hw
  refine lv_iload_n hx hb dX0_ofWord_0 rfl (lv_at hl 1 rfl) ?_
  refine lv_bipush (v := 6) hx hb dX0_ofWord_1 (by decide) ?_
  refine lv_imul hx hb dX0_ofWord_3 ?_
  refine lv_iload_n hx hb dX0_ofWord_4 rfl (lv_at hl 2 rfl) ?_
  refine lv_iadd hx hb dX0_ofWord_5 ?_
  refine lv_istore_n (lv' := [(3, .int ((p0 * 6) + p1)), (0, .ref o), (1, .int p0), (2, .int p1)]) hx hb dX0_ofWord_6 rfl hl (by decide) rfl (fun ls hl => ?_)
  refine lv_iload_n hx hb dX0_ofWord_7 rfl (lv_at hl 0 rfl) ?_
  refine lv_if_lt (tgt := 29) hx hb dX0_ofWord_8 (by decide) (fun hc => ?_) (fun hc => ?_)
  · have hw := hw.1 hc
    refine lv_iconst (v := (-1)) hx hb dX0_ofWord_29 (by decide) ?_
    rw [← hQQ]
    exact g_reti (v := (-1)) (u := ()) hx hb hr rfl hlocks hw hP hK hD hS dX0_ofWord_30
  · have hw := hw.2 hc
    refine lv_iload_n hx hb dX0_ofWord_11 rfl (lv_at hl 0 rfl) ?_
    refine lv_aload_n hx hb dX0_ofWord_12 rfl (lv_at hl 1 rfl) ?_
    refine va_get (D := (dC, dI)) (ci := 0) (v := .ref o_cells) (C := RX0) (T := TX0) (N := 1) hx hb ht i_X0 hown hK hP 0 rfl rfl 0 (by decide) (ht _ k_31) (fun _ h9 => h9) rfl dX0_ofWord_13 ?_
    refine va_alen (v := 82) hx hb hK hP 1 0 rfl rfl rfl dX0_ofWord_16 ?_
    refine lv_icmp_ge (tgt := 29) hx hb dX0_ofWord_17 (by decide) (fun hc => ?_) (fun hc => ?_)
    · have hw := hw.1 hc
      refine lv_iconst (v := (-1)) hx hb dX0_ofWord_29 (by decide) ?_
      rw [← hQQ]
      exact g_reti (v := (-1)) (u := ()) hx hb hr rfl hlocks hw hP hK hD hS dX0_ofWord_30
    · have hw := hw.2 hc
      refine lv_aload_n hx hb dX0_ofWord_20 rfl (lv_at hl 1 rfl) ?_
      refine va_get (D := (dC, dI)) (ci := 0) (v := .ref o_cells) (C := RX0) (T := TX0) (N := 1) hx hb ht i_X0 hown hK hP 0 rfl rfl 0 (by decide) (ht _ k_31) (fun _ h9 => h9) rfl dX0_ofWord_21 ?_
      refine lv_iload_n hx hb dX0_ofWord_24 rfl (lv_at hl 0 rfl) ?_
      obtain ⟨hi_1, hw⟩ := hw
      refine gv_iald hx hb hK hP 1 0 rfl rfl rfl hi_1 dX0_ofWord_25 ?_
      refine lv_goto (tgt := 30) hx hb dX0_ofWord_26 (by decide) ?_
      rw [← hQQ]
      exact g_reti (v := (s_cells (((p0 * 6) + p1).toNatClampNeg))) (u := ()) hx hb hr rfl hlocks hw hP hK hD hS dX0_ofWord_30
abbrev rm_X0_putWord : Room := { frames := 1, cells := 0, slots := 0, locals := 22 }
set_option maxHeartbeats 4000000 in
set_option maxRecDepth 100000 in
theorem c_X0_putWord (l : Launch) (dC : Nat → ClassId) (dI : Nat → Nat → Nat) (cI cJ : ClassId) (o o_cells : Nat) (sz : Nat) (s_cells : Nat → Int32) (p0 : Int32) (p1 : Int32) (p2 : Int32) (Q : (Nat → Int32) → Prop) (hw : P_X0_putWord p0 p1 p2 s_cells Q) : Met l yX0_putWord (Cond.code yX0_putWord cX0_putWord 4 none :: TBL) rm_X0_putWord (gPc (dC, dI) vwCl (gTy cI cJ) [.ref o, .int p0, .int p1, .int p2] [(o, .inr (0, [.ref o_cells])), (o_cells, .inl (cI, 82, .inl s_cells))] sz) (va_Qv (fun (u : (Nat → Int32)) => Q u) (gB (dC, dI) vwCl (gTy cI cJ) (va_A [(o, .inr (0, [.ref o_cells])), (o_cells, .inl (cI, 82, .inl s_cells))] sz) (fun (u : (Nat → Int32)) => [(o, .inr (0, [.ref o_cells])), (o_cells, .inl (cI, 82, .inl u))])) (va_A [(o, .inr (0, [.ref o_cells])), (o_cells, .inl (cI, 82, .inl s_cells))] sz)) 0 0 (va_A [(o, .inr (0, [.ref o_cells])), (o_cells, .inl (cI, 82, .inl s_cells))] sz) := by
  refine Met.ofW (cc := cX0_putWord) (maxL := 4) (ret := none) (by decide) rfl ?_
  intro p e s m args below meth c s₁ B hml hv
  obtain ⟨rfl, hsz, hP, hK, hD0⟩ := hv
  have hx := B.exec
  have hb := B.bytes
  have hr := B.returns
  have hts := atoms_spec (ws := Cond.code yX0_putWord cX0_putWord 4 none :: TBL) B.pre
  have ht : ∀ w ∈ TBL, w.before ([.ref o, .int p0, .int p1, .int p2] : List Value).toArray s = true := fun w h => hts w (List.mem_cons_of_mem _ h)
  clear hts
  have hown : s.vm.findClass RX0 = some m.cls := findClass_of_methodNamed B.named
  have hlocks := B.notSynchronized
  clear B
  subst hsz
  have hD := hD0.self (sz := s.heap.size)
  clear hD0
  generalize hAe : va_A [(o, .inr (0, [.ref o_cells])), (o_cells, .inl (cI, 82, .inl s_cells))] s.heap.size = A at hD ⊢
  have hA : ∀ q : Nat, s.heap.size ≤ q → A q := fun q h => by rw [← hAe]; exact Or.inr h
  clear hAe
  have hS : va_S A s.heap s.heap [] := va_S.rf
  have hP : va_P (dC, dI) vwCl [(o, .inr (0, [.ref o_cells])), (o_cells, .inl (cI, 82, .inl s_cells))] s.heap := hP
  have hl := lv_entry ([.ref o, .int p0, .int p1, .int p2]) (n := 4) (Nat.le_of_ble_eq_true rfl)
  rw [lg_entry_eq]
  generalize (lg_sl ([.ref o, .int p0, .int p1, .int p2]) ++ List.replicate (4 - (lg_sl ([.ref o, .int p0, .int p1, .int p2])).length) Slot.unset).toArray = ls at hl ⊢
  have hl : lv_has ls 4 [(0, .ref o), (1, .int p0), (2, .int p1), (3, .int p2)] := hl
  generalize hQQ : MQ below _ _ _ 0 0 A = QQ
  show W p l e rm_X0_putWord s m ([.ref o, .int p0, .int p1, .int p2] : List Value).toArray below meth c s.heap [] 0 0 QQ (F0 m 0 ls [])
  obtain ⟨H, hHH⟩ : ∃ H, H = s.heap := ⟨_, rfl⟩
  rw [← hHH] at hP ⊢
  have hS : va_S A s.heap H [] := by rw [hHH]; exact hS
  clear hHH
  generalize ([] : List Loc) = locs at hS ⊢
  unfold P_X0_putWord at hw
  refine lv_aload_n hx hb dX0_putWord_0 rfl (lv_at hl 0 rfl) ?_
  refine lv_iload_n hx hb dX0_putWord_1 rfl (lv_at hl 1 rfl) ?_
  refine lv_bipush (v := 6) hx hb dX0_putWord_2 (by decide) ?_
  refine lv_imul hx hb dX0_putWord_4 ?_
  refine lv_iload_n hx hb dX0_putWord_5 rfl (lv_at hl 2 rfl) ?_
  refine lv_iadd hx hb dX0_putWord_6 ?_
  refine lv_iload_n hx hb dX0_putWord_7 rfl (lv_at hl 3 rfl) ?_
  refine gc_Vv (As := [.int ((p0 * 6) + p1), .int p2]) (rest := []) (wr := []) ⟨hx, hb, hml, hown, ht⟩ (c_X0_putCell l dC dI cI cJ o o_cells H.size s_cells ((p0 * 6) + p1) p2 _ hw) (cwV 2 ht (g_V k_631 k_633 k_s31 k_2 k_634) rfl rfl rfl (by decide +kernel) ⟨(Nat.le_of_ble_eq_true rfl), (Nat.le_of_ble_eq_true rfl)⟩) hK hP hD hS hA [0, 1] [] rfl rfl (by decide) 0 rfl rfl rfl rfl hl.1 rfl (Nat.le_of_ble_eq_true rfl) ⟨(Nat.le_of_ble_eq_true rfl), (Nat.le_of_ble_eq_true rfl)⟩ dX0_putWord_8 (fun u H locs hw hP hD hS => ?_)
  obtain ⟨s_cells_1, rfl⟩ : ∃ z, z = u := ⟨_, rfl⟩
  try dsimp only at hw
  have hP : va_P (dC, dI) vwCl [(o, .inr (0, [.ref o_cells])), (o_cells, .inl (cI, 82, .inl s_cells_1))] H := hP
  have hD : va_D A [(o, .inr (0, [.ref o_cells])), (o_cells, .inl (cI, 82, .inl s_cells_1))] := hD
  rw [← hQQ]
  exact g_retv (u := s_cells_1) hx hb hr hlocks hw hP hK hD hS dX0_putWord_11
abbrev rm_X0_addWord : Room := { frames := 2, cells := 0, slots := 0, locals := 45 }
set_option maxHeartbeats 4000000 in
set_option maxRecDepth 100000 in
theorem c_X0_addWord (l : Launch) (dC : Nat → ClassId) (dI : Nat → Nat → Nat) (cI cJ : ClassId) (o o_cells : Nat) (sz : Nat) (s_cells : Nat → Int32) (p0 : Int32) (p1 : Int32) (p2 : Int32) (p3 : Int32) (Q : Int32 → (Nat → Int32) → Prop) (hw : P_X0_addWord p0 p1 p2 p3 s_cells Q) : Met l yX0_addWord (Cond.code yX0_addWord cX0_addWord 6 (some .int) :: TBL) rm_X0_addWord (gPc (dC, dI) vwCl (gTy cI cJ) [.ref o, .int p0, .int p1, .int p2, .int p3] [(o, .inr (0, [.ref o_cells])), (o_cells, .inl (cI, 82, .inl s_cells))] sz) (va_Qi (fun (r : Int32) (u : (Nat → Int32)) => Q r u) (gB (dC, dI) vwCl (gTy cI cJ) (va_A [(o, .inr (0, [.ref o_cells])), (o_cells, .inl (cI, 82, .inl s_cells))] sz) (fun (u : (Nat → Int32)) => [(o, .inr (0, [.ref o_cells])), (o_cells, .inl (cI, 82, .inl u))])) (va_A [(o, .inr (0, [.ref o_cells])), (o_cells, .inl (cI, 82, .inl s_cells))] sz)) 0 0 (va_A [(o, .inr (0, [.ref o_cells])), (o_cells, .inl (cI, 82, .inl s_cells))] sz) := by
  refine Met.ofW (cc := cX0_addWord) (maxL := 6) (ret := (some .int)) (by decide) rfl ?_
  intro p e s m args below meth c s₁ B hml hv
  obtain ⟨rfl, hsz, hP, hK, hD0⟩ := hv
  have hx := B.exec
  have hb := B.bytes
  have hr := B.returns
  have hts := atoms_spec (ws := Cond.code yX0_addWord cX0_addWord 6 (some .int) :: TBL) B.pre
  have ht : ∀ w ∈ TBL, w.before ([.ref o, .int p0, .int p1, .int p2, .int p3] : List Value).toArray s = true := fun w h => hts w (List.mem_cons_of_mem _ h)
  clear hts
  have hown : s.vm.findClass RX0 = some m.cls := findClass_of_methodNamed B.named
  have hlocks := B.notSynchronized
  clear B
  subst hsz
  have hD := hD0.self (sz := s.heap.size)
  clear hD0
  generalize hAe : va_A [(o, .inr (0, [.ref o_cells])), (o_cells, .inl (cI, 82, .inl s_cells))] s.heap.size = A at hD ⊢
  have hA : ∀ q : Nat, s.heap.size ≤ q → A q := fun q h => by rw [← hAe]; exact Or.inr h
  clear hAe
  have hS : va_S A s.heap s.heap [] := va_S.rf
  have hP : va_P (dC, dI) vwCl [(o, .inr (0, [.ref o_cells])), (o_cells, .inl (cI, 82, .inl s_cells))] s.heap := hP
  have hl := lv_entry ([.ref o, .int p0, .int p1, .int p2, .int p3]) (n := 6) (Nat.le_of_ble_eq_true rfl)
  rw [lg_entry_eq]
  generalize (lg_sl ([.ref o, .int p0, .int p1, .int p2, .int p3]) ++ List.replicate (6 - (lg_sl ([.ref o, .int p0, .int p1, .int p2, .int p3])).length) Slot.unset).toArray = ls at hl ⊢
  have hl : lv_has ls 6 [(0, .ref o), (1, .int p0), (2, .int p1), (3, .int p2), (4, .int p3)] := hl
  generalize hQQ : MQ below _ _ _ 0 0 A = QQ
  show W p l e rm_X0_addWord s m ([.ref o, .int p0, .int p1, .int p2, .int p3] : List Value).toArray below meth c s.heap [] 0 0 QQ (F0 m 0 ls [])
  obtain ⟨H, hHH⟩ : ∃ H, H = s.heap := ⟨_, rfl⟩
  rw [← hHH] at hP ⊢
  have hS : va_S A s.heap H [] := by rw [hHH]; exact hS
  clear hHH
  generalize ([] : List Loc) = locs at hS ⊢
  unfold P_X0_addWord at hw
  refine lv_aload_n hx hb dX0_addWord_0 rfl (lv_at hl 0 rfl) ?_
  refine gc_Vi (As := []) (rest := []) (wr := []) ⟨hx, hb, hml, hown, ht⟩ (c_X0_words l dC dI cI cJ o o_cells H.size s_cells _ hw) (cwV 0 ht (g_V k_189 k_190 k_191 k_2 k_192) rfl rfl rfl (by decide +kernel) ⟨(Nat.le_of_ble_eq_true rfl), (Nat.le_of_ble_eq_true rfl)⟩) hK hP hD hS hA [0, 1] [] rfl rfl (by decide) 0 rfl rfl rfl rfl hl.1 rfl (Nat.le_of_ble_eq_true rfl) ⟨(Nat.le_of_ble_eq_true rfl), (Nat.le_of_ble_eq_true rfl)⟩ dX0_addWord_1 (fun r_1 u H locs hw hP hD hS => ?_)
  try dsimp only at hw
  have hP : va_P (dC, dI) vwCl [(o, .inr (0, [.ref o_cells])), (o_cells, .inl (cI, 82, .inl s_cells))] H := hP
  have hD : va_D A [(o, .inr (0, [.ref o_cells])), (o_cells, .inl (cI, 82, .inl s_cells))] := hD
  refine lv_istore (lv' := [(5, .int r_1), (0, .ref o), (1, .int p0), (2, .int p1), (3, .int p2), (4, .int p3)]) hx hb dX0_addWord_4 hl (by decide) rfl (fun ls hl => ?_)
  refine lv_aload_n hx hb dX0_addWord_6 rfl (lv_at hl 1 rfl) ?_
  refine lv_iload hx hb dX0_addWord_7 (lv_at hl 0 rfl) ?_
  refine lv_iconst (v := 0) hx hb dX0_addWord_9 (by decide) ?_
  refine lv_iload_n hx hb dX0_addWord_10 rfl (lv_at hl 2 rfl) ?_
  refine gc_Vv (As := [.int r_1, .int 0, .int p0]) (rest := []) (wr := []) ⟨hx, hb, hml, hown, ht⟩ (c_X0_putWord l dC dI cI cJ o o_cells H.size s_cells r_1 0 p0 _ hw) (cwV 3 ht (g_V k_627 k_628 k_629 k_2 k_630) rfl rfl rfl (by decide +kernel) ⟨(Nat.le_of_ble_eq_true rfl), (Nat.le_of_ble_eq_true rfl)⟩) hK hP hD hS hA [0, 1] [] rfl rfl (by decide) 0 rfl rfl rfl rfl hl.1 rfl (Nat.le_of_ble_eq_true rfl) ⟨(Nat.le_of_ble_eq_true rfl), (Nat.le_of_ble_eq_true rfl)⟩ dX0_addWord_11 (fun u H locs hw hP hD hS => ?_)
  obtain ⟨s_cells_2, rfl⟩ : ∃ z, z = u := ⟨_, rfl⟩
  try dsimp only at hw
  have hP : va_P (dC, dI) vwCl [(o, .inr (0, [.ref o_cells])), (o_cells, .inl (cI, 82, .inl s_cells_2))] H := hP
  have hD : va_D A [(o, .inr (0, [.ref o_cells])), (o_cells, .inl (cI, 82, .inl s_cells_2))] := hD
  refine lv_aload_n hx hb dX0_addWord_14 rfl (lv_at hl 1 rfl) ?_
  refine lv_iload hx hb dX0_addWord_15 (lv_at hl 0 rfl) ?_
  refine lv_iconst (v := 1) hx hb dX0_addWord_17 (by decide) ?_
  refine lv_iload_n hx hb dX0_addWord_18 rfl (lv_at hl 3 rfl) ?_
  refine gc_Vv (As := [.int r_1, .int 1, .int p1]) (rest := []) (wr := []) ⟨hx, hb, hml, hown, ht⟩ (c_X0_putWord l dC dI cI cJ o o_cells H.size s_cells_2 r_1 1 p1 _ hw) (cwV 3 ht (g_V k_627 k_628 k_629 k_2 k_630) rfl rfl rfl (by decide +kernel) ⟨(Nat.le_of_ble_eq_true rfl), (Nat.le_of_ble_eq_true rfl)⟩) hK hP hD hS hA [0, 1] [] rfl rfl (by decide) 0 rfl rfl rfl rfl hl.1 rfl (Nat.le_of_ble_eq_true rfl) ⟨(Nat.le_of_ble_eq_true rfl), (Nat.le_of_ble_eq_true rfl)⟩ dX0_addWord_19 (fun u H locs hw hP hD hS => ?_)
  obtain ⟨s_cells_3, rfl⟩ : ∃ z, z = u := ⟨_, rfl⟩
  try dsimp only at hw
  have hP : va_P (dC, dI) vwCl [(o, .inr (0, [.ref o_cells])), (o_cells, .inl (cI, 82, .inl s_cells_3))] H := hP
  have hD : va_D A [(o, .inr (0, [.ref o_cells])), (o_cells, .inl (cI, 82, .inl s_cells_3))] := hD
  refine lv_aload_n hx hb dX0_addWord_22 rfl (lv_at hl 1 rfl) ?_
  refine lv_iload hx hb dX0_addWord_23 (lv_at hl 0 rfl) ?_
  refine lv_iconst (v := 2) hx hb dX0_addWord_25 (by decide) ?_
  refine lv_iload_n hx hb dX0_addWord_26 rfl (lv_at hl 4 rfl) ?_
  refine gc_Vv (As := [.int r_1, .int 2, .int p2]) (rest := []) (wr := []) ⟨hx, hb, hml, hown, ht⟩ (c_X0_putWord l dC dI cI cJ o o_cells H.size s_cells_3 r_1 2 p2 _ hw) (cwV 3 ht (g_V k_627 k_628 k_629 k_2 k_630) rfl rfl rfl (by decide +kernel) ⟨(Nat.le_of_ble_eq_true rfl), (Nat.le_of_ble_eq_true rfl)⟩) hK hP hD hS hA [0, 1] [] rfl rfl (by decide) 0 rfl rfl rfl rfl hl.1 rfl (Nat.le_of_ble_eq_true rfl) ⟨(Nat.le_of_ble_eq_true rfl), (Nat.le_of_ble_eq_true rfl)⟩ dX0_addWord_27 (fun u H locs hw hP hD hS => ?_)
  obtain ⟨s_cells_4, rfl⟩ : ∃ z, z = u := ⟨_, rfl⟩
  try dsimp only at hw
  have hP : va_P (dC, dI) vwCl [(o, .inr (0, [.ref o_cells])), (o_cells, .inl (cI, 82, .inl s_cells_4))] H := hP
  have hD : va_D A [(o, .inr (0, [.ref o_cells])), (o_cells, .inl (cI, 82, .inl s_cells_4))] := hD
  refine lv_aload_n hx hb dX0_addWord_30 rfl (lv_at hl 1 rfl) ?_
  refine lv_iload hx hb dX0_addWord_31 (lv_at hl 0 rfl) ?_
  refine lv_iconst (v := 3) hx hb dX0_addWord_33 (by decide) ?_
  refine lv_iload hx hb dX0_addWord_34 (lv_at hl 5 rfl) ?_
  refine gc_Vv (As := [.int r_1, .int 3, .int p3]) (rest := []) (wr := []) ⟨hx, hb, hml, hown, ht⟩ (c_X0_putWord l dC dI cI cJ o o_cells H.size s_cells_4 r_1 3 p3 _ hw) (cwV 3 ht (g_V k_627 k_628 k_629 k_2 k_630) rfl rfl rfl (by decide +kernel) ⟨(Nat.le_of_ble_eq_true rfl), (Nat.le_of_ble_eq_true rfl)⟩) hK hP hD hS hA [0, 1] [] rfl rfl (by decide) 0 rfl rfl rfl rfl hl.1 rfl (Nat.le_of_ble_eq_true rfl) ⟨(Nat.le_of_ble_eq_true rfl), (Nat.le_of_ble_eq_true rfl)⟩ dX0_addWord_36 (fun u H locs hw hP hD hS => ?_)
  obtain ⟨s_cells_5, rfl⟩ : ∃ z, z = u := ⟨_, rfl⟩
  try dsimp only at hw
  have hP : va_P (dC, dI) vwCl [(o, .inr (0, [.ref o_cells])), (o_cells, .inl (cI, 82, .inl s_cells_5))] H := hP
  have hD : va_D A [(o, .inr (0, [.ref o_cells])), (o_cells, .inl (cI, 82, .inl s_cells_5))] := hD
  refine lv_aload_n hx hb dX0_addWord_39 rfl (lv_at hl 1 rfl) ?_
  refine lv_iload hx hb dX0_addWord_40 (lv_at hl 0 rfl) ?_
  refine lv_iconst (v := 4) hx hb dX0_addWord_42 (by decide) ?_
  refine lv_iconst (v := 0) hx hb dX0_addWord_43 (by decide) ?_
  refine gc_Vv (As := [.int r_1, .int 4, .int 0]) (rest := []) (wr := []) ⟨hx, hb, hml, hown, ht⟩ (c_X0_putWord l dC dI cI cJ o o_cells H.size s_cells_5 r_1 4 0 _ hw) (cwV 3 ht (g_V k_627 k_628 k_629 k_2 k_630) rfl rfl rfl (by decide +kernel) ⟨(Nat.le_of_ble_eq_true rfl), (Nat.le_of_ble_eq_true rfl)⟩) hK hP hD hS hA [0, 1] [] rfl rfl (by decide) 0 rfl rfl rfl rfl hl.1 rfl (Nat.le_of_ble_eq_true rfl) ⟨(Nat.le_of_ble_eq_true rfl), (Nat.le_of_ble_eq_true rfl)⟩ dX0_addWord_44 (fun u H locs hw hP hD hS => ?_)
  obtain ⟨s_cells_6, rfl⟩ : ∃ z, z = u := ⟨_, rfl⟩
  try dsimp only at hw
  have hP : va_P (dC, dI) vwCl [(o, .inr (0, [.ref o_cells])), (o_cells, .inl (cI, 82, .inl s_cells_6))] H := hP
  have hD : va_D A [(o, .inr (0, [.ref o_cells])), (o_cells, .inl (cI, 82, .inl s_cells_6))] := hD
  refine lv_aload_n hx hb dX0_addWord_47 rfl (lv_at hl 1 rfl) ?_
  refine lv_iload hx hb dX0_addWord_48 (lv_at hl 0 rfl) ?_
  refine lv_iconst (v := 5) hx hb dX0_addWord_50 (by decide) ?_
  refine lv_iconst (v := 4) hx hb dX0_addWord_51 (by decide) ?_
  refine gc_Vv (As := [.int r_1, .int 5, .int 4]) (rest := []) (wr := []) ⟨hx, hb, hml, hown, ht⟩ (c_X0_putWord l dC dI cI cJ o o_cells H.size s_cells_6 r_1 5 4 _ hw) (cwV 3 ht (g_V k_627 k_628 k_629 k_2 k_630) rfl rfl rfl (by decide +kernel) ⟨(Nat.le_of_ble_eq_true rfl), (Nat.le_of_ble_eq_true rfl)⟩) hK hP hD hS hA [0, 1] [] rfl rfl (by decide) 0 rfl rfl rfl rfl hl.1 rfl (Nat.le_of_ble_eq_true rfl) ⟨(Nat.le_of_ble_eq_true rfl), (Nat.le_of_ble_eq_true rfl)⟩ dX0_addWord_52 (fun u H locs hw hP hD hS => ?_)
  obtain ⟨s_cells_7, rfl⟩ : ∃ z, z = u := ⟨_, rfl⟩
  try dsimp only at hw
  have hP : va_P (dC, dI) vwCl [(o, .inr (0, [.ref o_cells])), (o_cells, .inl (cI, 82, .inl s_cells_7))] H := hP
  have hD : va_D A [(o, .inr (0, [.ref o_cells])), (o_cells, .inl (cI, 82, .inl s_cells_7))] := hD
  refine lv_aload_n hx hb dX0_addWord_55 rfl (lv_at hl 1 rfl) ?_
  refine lv_bipush (v := 80) hx hb dX0_addWord_56 (by decide) ?_
  refine lv_iload hx hb dX0_addWord_58 (lv_at hl 0 rfl) ?_
  refine lv_iconst (v := 1) hx hb dX0_addWord_60 (by decide) ?_
  refine lv_iadd hx hb dX0_addWord_61 ?_
  refine gc_Vv (As := [.int 80, .int (r_1 + 1)]) (rest := []) (wr := []) ⟨hx, hb, hml, hown, ht⟩ (c_X0_putCell l dC dI cI cJ o o_cells H.size s_cells_7 80 (r_1 + 1) _ hw) (cwV 2 ht (g_V k_631 k_633 k_s31 k_2 k_634) rfl rfl rfl (by decide +kernel) ⟨(Nat.le_of_ble_eq_true rfl), (Nat.le_of_ble_eq_true rfl)⟩) hK hP hD hS hA [0, 1] [] rfl rfl (by decide) 0 rfl rfl rfl rfl hl.1 rfl (Nat.le_of_ble_eq_true rfl) ⟨(Nat.le_of_ble_eq_true rfl), (Nat.le_of_ble_eq_true rfl)⟩ dX0_addWord_62 (fun u H locs hw hP hD hS => ?_)
  obtain ⟨s_cells_8, rfl⟩ : ∃ z, z = u := ⟨_, rfl⟩
  try dsimp only at hw
  have hP : va_P (dC, dI) vwCl [(o, .inr (0, [.ref o_cells])), (o_cells, .inl (cI, 82, .inl s_cells_8))] H := hP
  have hD : va_D A [(o, .inr (0, [.ref o_cells])), (o_cells, .inl (cI, 82, .inl s_cells_8))] := hD
  refine lv_iload hx hb dX0_addWord_65 (lv_at hl 0 rfl) ?_
  rw [← hQQ]
  exact g_reti (v := r_1) (u := s_cells_8) hx hb hr rfl hlocks hw hP hK hD hS dX0_addWord_67
abbrev rm_X0_dropWord : Room := { frames := 2, cells := 0, slots := 0, locals := 49 }
set_option maxHeartbeats 4000000 in
set_option maxRecDepth 100000 in
theorem c_X0_dropWord (l : Launch) (dC : Nat → ClassId) (dI : Nat → Nat → Nat) (cI cJ : ClassId) (o o_cells : Nat) (sz : Nat) (s_cells : Nat → Int32) (p0 : Int32) (Q : (Nat → Int32) → Prop) (hw : P_X0_dropWord p0 s_cells Q) : Met l yX0_dropWord (Cond.code yX0_dropWord cX0_dropWord 2 none :: TBL) rm_X0_dropWord (gPc (dC, dI) vwCl (gTy cI cJ) [.ref o, .int p0] [(o, .inr (0, [.ref o_cells])), (o_cells, .inl (cI, 82, .inl s_cells))] sz) (va_Qv (fun (u : (Nat → Int32)) => Q u) (gB (dC, dI) vwCl (gTy cI cJ) (va_A [(o, .inr (0, [.ref o_cells])), (o_cells, .inl (cI, 82, .inl s_cells))] sz) (fun (u : (Nat → Int32)) => [(o, .inr (0, [.ref o_cells])), (o_cells, .inl (cI, 82, .inl u))])) (va_A [(o, .inr (0, [.ref o_cells])), (o_cells, .inl (cI, 82, .inl s_cells))] sz)) 0 0 (va_A [(o, .inr (0, [.ref o_cells])), (o_cells, .inl (cI, 82, .inl s_cells))] sz) := by
  refine Met.ofW (cc := cX0_dropWord) (maxL := 2) (ret := none) (by decide) rfl ?_
  intro p e s m args below meth c s₁ B hml hv
  obtain ⟨rfl, hsz, hP, hK, hD0⟩ := hv
  have hx := B.exec
  have hb := B.bytes
  have hr := B.returns
  have hts := atoms_spec (ws := Cond.code yX0_dropWord cX0_dropWord 2 none :: TBL) B.pre
  have ht : ∀ w ∈ TBL, w.before ([.ref o, .int p0] : List Value).toArray s = true := fun w h => hts w (List.mem_cons_of_mem _ h)
  clear hts
  have hown : s.vm.findClass RX0 = some m.cls := findClass_of_methodNamed B.named
  have hlocks := B.notSynchronized
  clear B
  subst hsz
  have hD := hD0.self (sz := s.heap.size)
  clear hD0
  generalize hAe : va_A [(o, .inr (0, [.ref o_cells])), (o_cells, .inl (cI, 82, .inl s_cells))] s.heap.size = A at hD ⊢
  have hA : ∀ q : Nat, s.heap.size ≤ q → A q := fun q h => by rw [← hAe]; exact Or.inr h
  clear hAe
  have hS : va_S A s.heap s.heap [] := va_S.rf
  have hP : va_P (dC, dI) vwCl [(o, .inr (0, [.ref o_cells])), (o_cells, .inl (cI, 82, .inl s_cells))] s.heap := hP
  have hl := lv_entry ([.ref o, .int p0]) (n := 2) (Nat.le_of_ble_eq_true rfl)
  rw [lg_entry_eq]
  generalize (lg_sl ([.ref o, .int p0]) ++ List.replicate (2 - (lg_sl ([.ref o, .int p0])).length) Slot.unset).toArray = ls at hl ⊢
  have hl : lv_has ls 2 [(0, .ref o), (1, .int p0)] := hl
  generalize hQQ : MQ below _ _ _ 0 0 A = QQ
  show W p l e rm_X0_dropWord s m ([.ref o, .int p0] : List Value).toArray below meth c s.heap [] 0 0 QQ (F0 m 0 ls [])
  obtain ⟨H, hHH⟩ : ∃ H, H = s.heap := ⟨_, rfl⟩
  rw [← hHH] at hP ⊢
  have hS : va_S A s.heap H [] := by rw [hHH]; exact hS
  clear hHH
  generalize ([] : List Loc) = locs at hS ⊢
  unfold P_X0_dropWord at hw
  refine lv_aload_n hx hb dX0_dropWord_0 rfl (lv_at hl 0 rfl) ?_
  refine lv_iload_n hx hb dX0_dropWord_1 rfl (lv_at hl 1 rfl) ?_
  refine lv_bipush (v := 6) hx hb dX0_dropWord_2 (by decide) ?_
  refine lv_imul hx hb dX0_dropWord_4 ?_
  refine lv_bipush (v := 6) hx hb dX0_dropWord_5 (by decide) ?_
  refine lv_bipush (v := 48) hx hb dX0_dropWord_7 (by decide) ?_
  refine gc_Vv (As := [.int (p0 * 6), .int 6, .int 48]) (rest := []) (wr := []) ⟨hx, hb, hml, hown, ht⟩ (c_X0_closeGap l dC dI cI cJ o o_cells H.size s_cells (p0 * 6) 6 48 _ hw) (cwV 3 ht (g_V k_668 k_670 k_s33 k_2 k_671) rfl rfl rfl (by decide +kernel) ⟨(Nat.le_of_ble_eq_true rfl), (Nat.le_of_ble_eq_true rfl)⟩) hK hP hD hS hA [0, 1] [] rfl rfl (by decide) 0 rfl rfl rfl rfl hl.1 rfl (Nat.le_of_ble_eq_true rfl) ⟨(Nat.le_of_ble_eq_true rfl), (Nat.le_of_ble_eq_true rfl)⟩ dX0_dropWord_9 (fun u H locs hw hP hD hS => ?_)
  obtain ⟨s_cells_1, rfl⟩ : ∃ z, z = u := ⟨_, rfl⟩
  try dsimp only at hw
  have hP : va_P (dC, dI) vwCl [(o, .inr (0, [.ref o_cells])), (o_cells, .inl (cI, 82, .inl s_cells_1))] H := hP
  have hD : va_D A [(o, .inr (0, [.ref o_cells])), (o_cells, .inl (cI, 82, .inl s_cells_1))] := hD
  refine lv_aload_n hx hb dX0_dropWord_12 rfl (lv_at hl 0 rfl) ?_
  refine lv_bipush (v := 80) hx hb dX0_dropWord_13 (by decide) ?_
  refine lv_aload_n hx hb dX0_dropWord_15 rfl (lv_at hl 0 rfl) ?_
  refine gc_Vi (As := []) (rest := [.int 80, .ref o]) (wr := []) ⟨hx, hb, hml, hown, ht⟩ (c_X0_words l dC dI cI cJ o o_cells H.size s_cells_1 _ hw) (cwV 0 ht (g_V k_189 k_190 k_191 k_2 k_192) rfl rfl rfl (by decide +kernel) ⟨(Nat.le_of_ble_eq_true rfl), (Nat.le_of_ble_eq_true rfl)⟩) hK hP hD hS hA [0, 1] [] rfl rfl (by decide) 0 rfl rfl rfl rfl hl.1 rfl (Nat.le_of_ble_eq_true rfl) ⟨(Nat.le_of_ble_eq_true rfl), (Nat.le_of_ble_eq_true rfl)⟩ dX0_dropWord_16 (fun r_2 u H locs hw hP hD hS => ?_)
  try dsimp only at hw
  have hP : va_P (dC, dI) vwCl [(o, .inr (0, [.ref o_cells])), (o_cells, .inl (cI, 82, .inl s_cells_1))] H := hP
  have hD : va_D A [(o, .inr (0, [.ref o_cells])), (o_cells, .inl (cI, 82, .inl s_cells_1))] := hD
  refine lv_iconst (v := 1) hx hb dX0_dropWord_19 (by decide) ?_
  refine lv_isub hx hb dX0_dropWord_20 ?_
  refine gc_Vv (As := [.int 80, .int (r_2 - 1)]) (rest := []) (wr := []) ⟨hx, hb, hml, hown, ht⟩ (c_X0_putCell l dC dI cI cJ o o_cells H.size s_cells_1 80 (r_2 - 1) _ hw) (cwV 2 ht (g_V k_631 k_633 k_s31 k_2 k_634) rfl rfl rfl (by decide +kernel) ⟨(Nat.le_of_ble_eq_true rfl), (Nat.le_of_ble_eq_true rfl)⟩) hK hP hD hS hA [0, 1] [] rfl rfl (by decide) 0 rfl rfl rfl rfl hl.1 rfl (Nat.le_of_ble_eq_true rfl) ⟨(Nat.le_of_ble_eq_true rfl), (Nat.le_of_ble_eq_true rfl)⟩ dX0_dropWord_21 (fun u H locs hw hP hD hS => ?_)
  obtain ⟨s_cells_3, rfl⟩ : ∃ z, z = u := ⟨_, rfl⟩
  try dsimp only at hw
  have hP : va_P (dC, dI) vwCl [(o, .inr (0, [.ref o_cells])), (o_cells, .inl (cI, 82, .inl s_cells_3))] H := hP
  have hD : va_D A [(o, .inr (0, [.ref o_cells])), (o_cells, .inl (cI, 82, .inl s_cells_3))] := hD
  rw [← hQQ]
  exact g_retv (u := s_cells_3) hx hb hr hlocks hw hP hK hD hS dX0_dropWord_24
abbrev rm_X0_beams : Room := { frames := 0, cells := 0, slots := 0, locals := 0 }
set_option maxHeartbeats 4000000 in
set_option maxRecDepth 100000 in
theorem c_X0_beams (l : Launch) (dC : Nat → ClassId) (dI : Nat → Nat → Nat) (cI cJ : ClassId) (o o_cells : Nat) (sz : Nat) (s_cells : Nat → Int32)  (Q : Int32 → Prop) (hw : P_X0_beams s_cells Q) : Met l yX0_beams (Cond.code yX0_beams cX0_beams 1 (some .int) :: TBL) rm_X0_beams (gPc (dC, dI) vwCl (gTy cI cJ) [.ref o] [(o, .inr (0, [.ref o_cells])), (o_cells, .inl (cI, 82, .inl s_cells))] sz) (va_Qi (fun (r : Int32) (u : Unit) => Q r ) (gB (dC, dI) vwCl (gTy cI cJ) (va_A [(o, .inr (0, [.ref o_cells])), (o_cells, .inl (cI, 82, .inl s_cells))] sz) (fun (u : Unit) => [(o, .inr (0, [.ref o_cells])), (o_cells, .inl (cI, 82, .inl s_cells))])) (va_A [(o, .inr (0, [.ref o_cells])), (o_cells, .inl (cI, 82, .inl s_cells))] sz)) 0 0 (va_A [(o, .inr (0, [.ref o_cells])), (o_cells, .inl (cI, 82, .inl s_cells))] sz) := by
  refine Met.ofW (cc := cX0_beams) (maxL := 1) (ret := (some .int)) (by decide) rfl ?_
  intro p e s m args below meth c s₁ B hml hv
  obtain ⟨rfl, hsz, hP, hK, hD0⟩ := hv
  have hx := B.exec
  have hb := B.bytes
  have hr := B.returns
  have hts := atoms_spec (ws := Cond.code yX0_beams cX0_beams 1 (some .int) :: TBL) B.pre
  have ht : ∀ w ∈ TBL, w.before ([.ref o] : List Value).toArray s = true := fun w h => hts w (List.mem_cons_of_mem _ h)
  clear hts
  have hown : s.vm.findClass RX0 = some m.cls := findClass_of_methodNamed B.named
  have hlocks := B.notSynchronized
  clear B
  subst hsz
  have hD := hD0.self (sz := s.heap.size)
  clear hD0
  generalize hAe : va_A [(o, .inr (0, [.ref o_cells])), (o_cells, .inl (cI, 82, .inl s_cells))] s.heap.size = A at hD ⊢
  have hA : ∀ q : Nat, s.heap.size ≤ q → A q := fun q h => by rw [← hAe]; exact Or.inr h
  clear hAe
  have hS : va_S A s.heap s.heap [] := va_S.rf
  have hP : va_P (dC, dI) vwCl [(o, .inr (0, [.ref o_cells])), (o_cells, .inl (cI, 82, .inl s_cells))] s.heap := hP
  have hl := lv_entry ([.ref o]) (n := 1) (Nat.le_of_ble_eq_true rfl)
  rw [lg_entry_eq]
  generalize (lg_sl ([.ref o]) ++ List.replicate (1 - (lg_sl ([.ref o])).length) Slot.unset).toArray = ls at hl ⊢
  have hl : lv_has ls 1 [(0, .ref o)] := hl
  generalize hQQ : MQ below _ _ _ 0 0 A = QQ
  show W p l e rm_X0_beams s m ([.ref o] : List Value).toArray below meth c s.heap [] 0 0 QQ (F0 m 0 ls [])
  obtain ⟨H, hHH⟩ : ∃ H, H = s.heap := ⟨_, rfl⟩
  rw [← hHH] at hP ⊢
  have hS : va_S A s.heap H [] := by rw [hHH]; exact hS
  clear hHH
  generalize ([] : List Loc) = locs at hS ⊢
  unfold P_X0_beams at hw
  refine lv_aload_n hx hb dX0_beams_0 rfl (lv_at hl 0 rfl) ?_
  refine va_get (D := (dC, dI)) (ci := 0) (v := .ref o_cells) (C := RX0) (T := TX0) (N := 1) hx hb ht i_X0 hown hK hP 0 rfl rfl 0 (by decide) (ht _ k_31) (fun _ h9 => h9) rfl dX0_beams_1 ?_
  refine lv_bipush (v := 81) hx hb dX0_beams_4 (by decide) ?_
  refine gv_iald hx hb hK hP 1 0 rfl rfl (k := 81) (by decide) (by unfold vp_in; decide) dX0_beams_6 ?_
  rw [← hQQ]
  exact g_reti (v := (s_cells 81)) (u := ()) hx hb hr rfl hlocks hw hP hK hD hS dX0_beams_7
abbrev rm_X0_hasBeam : Room := { frames := 1, cells := 0, slots := 0, locals := 20 }
set_option maxHeartbeats 4000000 in
set_option maxRecDepth 100000 in
theorem c_X0_hasBeam (l : Launch) (dC : Nat → ClassId) (dI : Nat → Nat → Nat) (cI cJ : ClassId) (o o_cells : Nat) (sz : Nat) (s_cells : Nat → Int32) (p0 : Int32) (Q : Int32 → Prop) (hw : P_X0_hasBeam p0 s_cells Q) : Met l yX0_hasBeam (Cond.code yX0_hasBeam cX0_hasBeam 2 (some .boolean) :: TBL) rm_X0_hasBeam (gPc (dC, dI) vwCl (gTy cI cJ) [.ref o, .int p0] [(o, .inr (0, [.ref o_cells])), (o_cells, .inl (cI, 82, .inl s_cells))] sz) (va_Qi (fun (r : Int32) (u : Unit) => Q r ) (gB (dC, dI) vwCl (gTy cI cJ) (va_A [(o, .inr (0, [.ref o_cells])), (o_cells, .inl (cI, 82, .inl s_cells))] sz) (fun (u : Unit) => [(o, .inr (0, [.ref o_cells])), (o_cells, .inl (cI, 82, .inl s_cells))])) (va_A [(o, .inr (0, [.ref o_cells])), (o_cells, .inl (cI, 82, .inl s_cells))] sz)) 0 0 (va_A [(o, .inr (0, [.ref o_cells])), (o_cells, .inl (cI, 82, .inl s_cells))] sz) := by
  refine Met.ofW (cc := cX0_hasBeam) (maxL := 2) (ret := (some .boolean)) (by decide) rfl ?_
  intro p e s m args below meth c s₁ B hml hv
  obtain ⟨rfl, hsz, hP, hK, hD0⟩ := hv
  have hx := B.exec
  have hb := B.bytes
  have hr := B.returns
  have hts := atoms_spec (ws := Cond.code yX0_hasBeam cX0_hasBeam 2 (some .boolean) :: TBL) B.pre
  have ht : ∀ w ∈ TBL, w.before ([.ref o, .int p0] : List Value).toArray s = true := fun w h => hts w (List.mem_cons_of_mem _ h)
  clear hts
  have hown : s.vm.findClass RX0 = some m.cls := findClass_of_methodNamed B.named
  have hlocks := B.notSynchronized
  clear B
  subst hsz
  have hD := hD0.self (sz := s.heap.size)
  clear hD0
  generalize hAe : va_A [(o, .inr (0, [.ref o_cells])), (o_cells, .inl (cI, 82, .inl s_cells))] s.heap.size = A at hD ⊢
  have hA : ∀ q : Nat, s.heap.size ≤ q → A q := fun q h => by rw [← hAe]; exact Or.inr h
  clear hAe
  have hS : va_S A s.heap s.heap [] := va_S.rf
  have hP : va_P (dC, dI) vwCl [(o, .inr (0, [.ref o_cells])), (o_cells, .inl (cI, 82, .inl s_cells))] s.heap := hP
  have hl := lv_entry ([.ref o, .int p0]) (n := 2) (Nat.le_of_ble_eq_true rfl)
  rw [lg_entry_eq]
  generalize (lg_sl ([.ref o, .int p0]) ++ List.replicate (2 - (lg_sl ([.ref o, .int p0])).length) Slot.unset).toArray = ls at hl ⊢
  have hl : lv_has ls 2 [(0, .ref o), (1, .int p0)] := hl
  generalize hQQ : MQ below _ _ _ 0 0 A = QQ
  show W p l e rm_X0_hasBeam s m ([.ref o, .int p0] : List Value).toArray below meth c s.heap [] 0 0 QQ (F0 m 0 ls [])
  obtain ⟨H, hHH⟩ : ∃ H, H = s.heap := ⟨_, rfl⟩
  rw [← hHH] at hP ⊢
  have hS : va_S A s.heap H [] := by rw [hHH]; exact hS
  clear hHH
  generalize ([] : List Loc) = locs at hS ⊢
  unfold P_X0_hasBeam at hw
  refine lv_iload_n hx hb dX0_hasBeam_0 rfl (lv_at hl 1 rfl) ?_
  refine lv_if_lt (tgt := 16) hx hb dX0_hasBeam_1 (by decide) (fun hc => ?_) (fun hc => ?_)
  · have hw := hw.1 hc
    refine lv_iconst (v := 0) hx hb dX0_hasBeam_16 (by decide) ?_
    rw [← hQQ]
    exact g_reti (v := 0) (u := ()) hx hb hr rfl hlocks hw hP hK hD hS dX0_hasBeam_17
  · have hw := hw.2 hc
    refine lv_iload_n hx hb dX0_hasBeam_4 rfl (lv_at hl 1 rfl) ?_
    refine lv_aload_n hx hb dX0_hasBeam_5 rfl (lv_at hl 0 rfl) ?_
    refine gc_Vi (As := []) (rest := [.int p0]) (wr := []) ⟨hx, hb, hml, hown, ht⟩ (c_X0_beams l dC dI cI cJ o o_cells H.size s_cells _ hw) (cwV 0 ht (g_V k_406 k_293 k_294 k_2 k_295) rfl rfl rfl (by decide +kernel) ⟨(Nat.le_of_ble_eq_true rfl), (Nat.le_of_ble_eq_true rfl)⟩) hK hP hD hS hA [0, 1] [] rfl rfl (by decide) 0 rfl rfl rfl rfl hl.1 rfl (Nat.le_of_ble_eq_true rfl) ⟨(Nat.le_of_ble_eq_true rfl), (Nat.le_of_ble_eq_true rfl)⟩ dX0_hasBeam_6 (fun r_1 u H locs hw hP hD hS => ?_)
    try dsimp only at hw
    have hP : va_P (dC, dI) vwCl [(o, .inr (0, [.ref o_cells])), (o_cells, .inl (cI, 82, .inl s_cells))] H := hP
    have hD : va_D A [(o, .inr (0, [.ref o_cells])), (o_cells, .inl (cI, 82, .inl s_cells))] := hD
    refine lv_icmp_ge (tgt := 16) hx hb dX0_hasBeam_9 (by decide) (fun hc => ?_) (fun hc => ?_)
    · have hw := hw.1 hc
      refine lv_iconst (v := 0) hx hb dX0_hasBeam_16 (by decide) ?_
      rw [← hQQ]
      exact g_reti (v := 0) (u := ()) hx hb hr rfl hlocks hw hP hK hD hS dX0_hasBeam_17
    · have hw := hw.2 hc
      refine lv_iconst (v := 1) hx hb dX0_hasBeam_12 (by decide) ?_
      refine lv_goto (tgt := 17) hx hb dX0_hasBeam_13 (by decide) ?_
      rw [← hQQ]
      exact g_reti (v := 1) (u := ()) hx hb hr rfl hlocks hw hP hK hD hS dX0_hasBeam_17
abbrev rm_X0_ofBeam : Room := { frames := 0, cells := 0, slots := 0, locals := 0 }
set_option maxHeartbeats 4000000 in
set_option maxRecDepth 100000 in
theorem c_X0_ofBeam (l : Launch) (dC : Nat → ClassId) (dI : Nat → Nat → Nat) (cI cJ : ClassId) (o o_cells : Nat) (sz : Nat) (s_cells : Nat → Int32) (p0 : Int32) (p1 : Int32) (Q : Int32 → Prop) (hw : P_X0_ofBeam p0 p1 s_cells Q) : Met l yX0_ofBeam (Cond.code yX0_ofBeam cX0_ofBeam 4 (some .int) :: TBL) rm_X0_ofBeam (gPc (dC, dI) vwCl (gTy cI cJ) [.ref o, .int p0, .int p1] [(o, .inr (0, [.ref o_cells])), (o_cells, .inl (cI, 82, .inl s_cells))] sz) (va_Qi (fun (r : Int32) (u : Unit) => Q r ) (gB (dC, dI) vwCl (gTy cI cJ) (va_A [(o, .inr (0, [.ref o_cells])), (o_cells, .inl (cI, 82, .inl s_cells))] sz) (fun (u : Unit) => [(o, .inr (0, [.ref o_cells])), (o_cells, .inl (cI, 82, .inl s_cells))])) (va_A [(o, .inr (0, [.ref o_cells])), (o_cells, .inl (cI, 82, .inl s_cells))] sz)) 0 0 (va_A [(o, .inr (0, [.ref o_cells])), (o_cells, .inl (cI, 82, .inl s_cells))] sz) := by
  refine Met.ofW (cc := cX0_ofBeam) (maxL := 4) (ret := (some .int)) (by decide) rfl ?_
  intro p e s m args below meth c s₁ B hml hv
  obtain ⟨rfl, hsz, hP, hK, hD0⟩ := hv
  have hx := B.exec
  have hb := B.bytes
  have hr := B.returns
  have hts := atoms_spec (ws := Cond.code yX0_ofBeam cX0_ofBeam 4 (some .int) :: TBL) B.pre
  have ht : ∀ w ∈ TBL, w.before ([.ref o, .int p0, .int p1] : List Value).toArray s = true := fun w h => hts w (List.mem_cons_of_mem _ h)
  clear hts
  have hown : s.vm.findClass RX0 = some m.cls := findClass_of_methodNamed B.named
  have hlocks := B.notSynchronized
  clear B
  subst hsz
  have hD := hD0.self (sz := s.heap.size)
  clear hD0
  generalize hAe : va_A [(o, .inr (0, [.ref o_cells])), (o_cells, .inl (cI, 82, .inl s_cells))] s.heap.size = A at hD ⊢
  have hA : ∀ q : Nat, s.heap.size ≤ q → A q := fun q h => by rw [← hAe]; exact Or.inr h
  clear hAe
  have hS : va_S A s.heap s.heap [] := va_S.rf
  have hP : va_P (dC, dI) vwCl [(o, .inr (0, [.ref o_cells])), (o_cells, .inl (cI, 82, .inl s_cells))] s.heap := hP
  have hl := lv_entry ([.ref o, .int p0, .int p1]) (n := 4) (Nat.le_of_ble_eq_true rfl)
  rw [lg_entry_eq]
  generalize (lg_sl ([.ref o, .int p0, .int p1]) ++ List.replicate (4 - (lg_sl ([.ref o, .int p0, .int p1])).length) Slot.unset).toArray = ls at hl ⊢
  have hl : lv_has ls 4 [(0, .ref o), (1, .int p0), (2, .int p1)] := hl
  generalize hQQ : MQ below _ _ _ 0 0 A = QQ
  show W p l e rm_X0_ofBeam s m ([.ref o, .int p0, .int p1] : List Value).toArray below meth c s.heap [] 0 0 QQ (F0 m 0 ls [])
  obtain ⟨H, hHH⟩ : ∃ H, H = s.heap := ⟨_, rfl⟩
  rw [← hHH] at hP ⊢
  have hS : va_S A s.heap H [] := by rw [hHH]; exact hS
  clear hHH
  generalize ([] : List Loc) = locs at hS ⊢
  unfold P_X0_ofBeam at hw
  refine lv_bipush (v := 48) hx hb dX0_ofBeam_0 (by decide) ?_
  refine lv_iload_n hx hb dX0_ofBeam_2 rfl (lv_at hl 1 rfl) ?_
  refine lv_iconst (v := 5) hx hb dX0_ofBeam_3 (by decide) ?_
  refine lv_imul hx hb dX0_ofBeam_4 ?_
  refine lv_iadd hx hb dX0_ofBeam_5 ?_
  refine lv_iload_n hx hb dX0_ofBeam_6 rfl (lv_at hl 2 rfl) ?_
  refine lv_iadd hx hb dX0_ofBeam_7 ?_
  refine lv_istore_n (lv' := [(3, .int ((48 + (p0 * 5)) + p1)), (0, .ref o), (1, .int p0), (2, .int p1)]) hx hb dX0_ofBeam_8 rfl hl (by decide) rfl (fun ls hl => ?_)
  refine lv_iload_n hx hb dX0_ofBeam_9 rfl (lv_at hl 0 rfl) ?_
  refine lv_if_lt (tgt := 31) hx hb dX0_ofBeam_10 (by decide) (fun hc => ?_) (fun hc => ?_)
  · have hw := hw.1 hc
    refine lv_iconst (v := (-1)) hx hb dX0_ofBeam_31 (by decide) ?_
    rw [← hQQ]
    exact g_reti (v := (-1)) (u := ()) hx hb hr rfl hlocks hw hP hK hD hS dX0_ofBeam_32
  · have hw := hw.2 hc
    refine lv_iload_n hx hb dX0_ofBeam_13 rfl (lv_at hl 0 rfl) ?_
    refine lv_aload_n hx hb dX0_ofBeam_14 rfl (lv_at hl 1 rfl) ?_
    refine va_get (D := (dC, dI)) (ci := 0) (v := .ref o_cells) (C := RX0) (T := TX0) (N := 1) hx hb ht i_X0 hown hK hP 0 rfl rfl 0 (by decide) (ht _ k_31) (fun _ h9 => h9) rfl dX0_ofBeam_15 ?_
    refine va_alen (v := 82) hx hb hK hP 1 0 rfl rfl rfl dX0_ofBeam_18 ?_
    refine lv_icmp_ge (tgt := 31) hx hb dX0_ofBeam_19 (by decide) (fun hc => ?_) (fun hc => ?_)
    · have hw := hw.1 hc
      refine lv_iconst (v := (-1)) hx hb dX0_ofBeam_31 (by decide) ?_
      rw [← hQQ]
      exact g_reti (v := (-1)) (u := ()) hx hb hr rfl hlocks hw hP hK hD hS dX0_ofBeam_32
    · have hw := hw.2 hc
      refine lv_aload_n hx hb dX0_ofBeam_22 rfl (lv_at hl 1 rfl) ?_
      refine va_get (D := (dC, dI)) (ci := 0) (v := .ref o_cells) (C := RX0) (T := TX0) (N := 1) hx hb ht i_X0 hown hK hP 0 rfl rfl 0 (by decide) (ht _ k_31) (fun _ h9 => h9) rfl dX0_ofBeam_23 ?_
      refine lv_iload_n hx hb dX0_ofBeam_26 rfl (lv_at hl 0 rfl) ?_
      obtain ⟨hi_1, hw⟩ := hw
      refine gv_iald hx hb hK hP 1 0 rfl rfl rfl hi_1 dX0_ofBeam_27 ?_
      refine lv_goto (tgt := 32) hx hb dX0_ofBeam_28 (by decide) ?_
      rw [← hQQ]
      exact g_reti (v := (s_cells (((48 + (p0 * 5)) + p1).toNatClampNeg))) (u := ()) hx hb hr rfl hlocks hw hP hK hD hS dX0_ofBeam_32
abbrev rm_X0_putBeam : Room := { frames := 1, cells := 0, slots := 0, locals := 22 }
set_option maxHeartbeats 4000000 in
set_option maxRecDepth 100000 in
theorem c_X0_putBeam (l : Launch) (dC : Nat → ClassId) (dI : Nat → Nat → Nat) (cI cJ : ClassId) (o o_cells : Nat) (sz : Nat) (s_cells : Nat → Int32) (p0 : Int32) (p1 : Int32) (p2 : Int32) (Q : (Nat → Int32) → Prop) (hw : P_X0_putBeam p0 p1 p2 s_cells Q) : Met l yX0_putBeam (Cond.code yX0_putBeam cX0_putBeam 4 none :: TBL) rm_X0_putBeam (gPc (dC, dI) vwCl (gTy cI cJ) [.ref o, .int p0, .int p1, .int p2] [(o, .inr (0, [.ref o_cells])), (o_cells, .inl (cI, 82, .inl s_cells))] sz) (va_Qv (fun (u : (Nat → Int32)) => Q u) (gB (dC, dI) vwCl (gTy cI cJ) (va_A [(o, .inr (0, [.ref o_cells])), (o_cells, .inl (cI, 82, .inl s_cells))] sz) (fun (u : (Nat → Int32)) => [(o, .inr (0, [.ref o_cells])), (o_cells, .inl (cI, 82, .inl u))])) (va_A [(o, .inr (0, [.ref o_cells])), (o_cells, .inl (cI, 82, .inl s_cells))] sz)) 0 0 (va_A [(o, .inr (0, [.ref o_cells])), (o_cells, .inl (cI, 82, .inl s_cells))] sz) := by
  refine Met.ofW (cc := cX0_putBeam) (maxL := 4) (ret := none) (by decide) rfl ?_
  intro p e s m args below meth c s₁ B hml hv
  obtain ⟨rfl, hsz, hP, hK, hD0⟩ := hv
  have hx := B.exec
  have hb := B.bytes
  have hr := B.returns
  have hts := atoms_spec (ws := Cond.code yX0_putBeam cX0_putBeam 4 none :: TBL) B.pre
  have ht : ∀ w ∈ TBL, w.before ([.ref o, .int p0, .int p1, .int p2] : List Value).toArray s = true := fun w h => hts w (List.mem_cons_of_mem _ h)
  clear hts
  have hown : s.vm.findClass RX0 = some m.cls := findClass_of_methodNamed B.named
  have hlocks := B.notSynchronized
  clear B
  subst hsz
  have hD := hD0.self (sz := s.heap.size)
  clear hD0
  generalize hAe : va_A [(o, .inr (0, [.ref o_cells])), (o_cells, .inl (cI, 82, .inl s_cells))] s.heap.size = A at hD ⊢
  have hA : ∀ q : Nat, s.heap.size ≤ q → A q := fun q h => by rw [← hAe]; exact Or.inr h
  clear hAe
  have hS : va_S A s.heap s.heap [] := va_S.rf
  have hP : va_P (dC, dI) vwCl [(o, .inr (0, [.ref o_cells])), (o_cells, .inl (cI, 82, .inl s_cells))] s.heap := hP
  have hl := lv_entry ([.ref o, .int p0, .int p1, .int p2]) (n := 4) (Nat.le_of_ble_eq_true rfl)
  rw [lg_entry_eq]
  generalize (lg_sl ([.ref o, .int p0, .int p1, .int p2]) ++ List.replicate (4 - (lg_sl ([.ref o, .int p0, .int p1, .int p2])).length) Slot.unset).toArray = ls at hl ⊢
  have hl : lv_has ls 4 [(0, .ref o), (1, .int p0), (2, .int p1), (3, .int p2)] := hl
  generalize hQQ : MQ below _ _ _ 0 0 A = QQ
  show W p l e rm_X0_putBeam s m ([.ref o, .int p0, .int p1, .int p2] : List Value).toArray below meth c s.heap [] 0 0 QQ (F0 m 0 ls [])
  obtain ⟨H, hHH⟩ : ∃ H, H = s.heap := ⟨_, rfl⟩
  rw [← hHH] at hP ⊢
  have hS : va_S A s.heap H [] := by rw [hHH]; exact hS
  clear hHH
  generalize ([] : List Loc) = locs at hS ⊢
  unfold P_X0_putBeam at hw
  refine lv_aload_n hx hb dX0_putBeam_0 rfl (lv_at hl 0 rfl) ?_
  refine lv_bipush (v := 48) hx hb dX0_putBeam_1 (by decide) ?_
  refine lv_iload_n hx hb dX0_putBeam_3 rfl (lv_at hl 1 rfl) ?_
  refine lv_iconst (v := 5) hx hb dX0_putBeam_4 (by decide) ?_
  refine lv_imul hx hb dX0_putBeam_5 ?_
  refine lv_iadd hx hb dX0_putBeam_6 ?_
  refine lv_iload_n hx hb dX0_putBeam_7 rfl (lv_at hl 2 rfl) ?_
  refine lv_iadd hx hb dX0_putBeam_8 ?_
  refine lv_iload_n hx hb dX0_putBeam_9 rfl (lv_at hl 3 rfl) ?_
  refine gc_Vv (As := [.int ((48 + (p0 * 5)) + p1), .int p2]) (rest := []) (wr := []) ⟨hx, hb, hml, hown, ht⟩ (c_X0_putCell l dC dI cI cJ o o_cells H.size s_cells ((48 + (p0 * 5)) + p1) p2 _ hw) (cwV 2 ht (g_V k_631 k_633 k_s31 k_2 k_634) rfl rfl rfl (by decide +kernel) ⟨(Nat.le_of_ble_eq_true rfl), (Nat.le_of_ble_eq_true rfl)⟩) hK hP hD hS hA [0, 1] [] rfl rfl (by decide) 0 rfl rfl rfl rfl hl.1 rfl (Nat.le_of_ble_eq_true rfl) ⟨(Nat.le_of_ble_eq_true rfl), (Nat.le_of_ble_eq_true rfl)⟩ dX0_putBeam_10 (fun u H locs hw hP hD hS => ?_)
  obtain ⟨s_cells_1, rfl⟩ : ∃ z, z = u := ⟨_, rfl⟩
  try dsimp only at hw
  have hP : va_P (dC, dI) vwCl [(o, .inr (0, [.ref o_cells])), (o_cells, .inl (cI, 82, .inl s_cells_1))] H := hP
  have hD : va_D A [(o, .inr (0, [.ref o_cells])), (o_cells, .inl (cI, 82, .inl s_cells_1))] := hD
  rw [← hQQ]
  exact g_retv (u := s_cells_1) hx hb hr hlocks hw hP hK hD hS dX0_putBeam_13
abbrev rm_X0_addBeam : Room := { frames := 2, cells := 0, slots := 0, locals := 45 }
set_option maxHeartbeats 4000000 in
set_option maxRecDepth 100000 in
theorem c_X0_addBeam (l : Launch) (dC : Nat → ClassId) (dI : Nat → Nat → Nat) (cI cJ : ClassId) (o o_cells : Nat) (sz : Nat) (s_cells : Nat → Int32) (p0 : Int32) (p1 : Int32) (p2 : Int32) (p3 : Int32) (p4 : Int32) (Q : Int32 → (Nat → Int32) → Prop) (hw : P_X0_addBeam p0 p1 p2 p3 p4 s_cells Q) : Met l yX0_addBeam (Cond.code yX0_addBeam cX0_addBeam 7 (some .int) :: TBL) rm_X0_addBeam (gPc (dC, dI) vwCl (gTy cI cJ) [.ref o, .int p0, .int p1, .int p2, .int p3, .int p4] [(o, .inr (0, [.ref o_cells])), (o_cells, .inl (cI, 82, .inl s_cells))] sz) (va_Qi (fun (r : Int32) (u : (Nat → Int32)) => Q r u) (gB (dC, dI) vwCl (gTy cI cJ) (va_A [(o, .inr (0, [.ref o_cells])), (o_cells, .inl (cI, 82, .inl s_cells))] sz) (fun (u : (Nat → Int32)) => [(o, .inr (0, [.ref o_cells])), (o_cells, .inl (cI, 82, .inl u))])) (va_A [(o, .inr (0, [.ref o_cells])), (o_cells, .inl (cI, 82, .inl s_cells))] sz)) 0 0 (va_A [(o, .inr (0, [.ref o_cells])), (o_cells, .inl (cI, 82, .inl s_cells))] sz) := by
  refine Met.ofW (cc := cX0_addBeam) (maxL := 7) (ret := (some .int)) (by decide) rfl ?_
  intro p e s m args below meth c s₁ B hml hv
  obtain ⟨rfl, hsz, hP, hK, hD0⟩ := hv
  have hx := B.exec
  have hb := B.bytes
  have hr := B.returns
  have hts := atoms_spec (ws := Cond.code yX0_addBeam cX0_addBeam 7 (some .int) :: TBL) B.pre
  have ht : ∀ w ∈ TBL, w.before ([.ref o, .int p0, .int p1, .int p2, .int p3, .int p4] : List Value).toArray s = true := fun w h => hts w (List.mem_cons_of_mem _ h)
  clear hts
  have hown : s.vm.findClass RX0 = some m.cls := findClass_of_methodNamed B.named
  have hlocks := B.notSynchronized
  clear B
  subst hsz
  have hD := hD0.self (sz := s.heap.size)
  clear hD0
  generalize hAe : va_A [(o, .inr (0, [.ref o_cells])), (o_cells, .inl (cI, 82, .inl s_cells))] s.heap.size = A at hD ⊢
  have hA : ∀ q : Nat, s.heap.size ≤ q → A q := fun q h => by rw [← hAe]; exact Or.inr h
  clear hAe
  have hS : va_S A s.heap s.heap [] := va_S.rf
  have hP : va_P (dC, dI) vwCl [(o, .inr (0, [.ref o_cells])), (o_cells, .inl (cI, 82, .inl s_cells))] s.heap := hP
  have hl := lv_entry ([.ref o, .int p0, .int p1, .int p2, .int p3, .int p4]) (n := 7) (Nat.le_of_ble_eq_true rfl)
  rw [lg_entry_eq]
  generalize (lg_sl ([.ref o, .int p0, .int p1, .int p2, .int p3, .int p4]) ++ List.replicate (7 - (lg_sl ([.ref o, .int p0, .int p1, .int p2, .int p3, .int p4])).length) Slot.unset).toArray = ls at hl ⊢
  have hl : lv_has ls 7 [(0, .ref o), (1, .int p0), (2, .int p1), (3, .int p2), (4, .int p3), (5, .int p4)] := hl
  generalize hQQ : MQ below _ _ _ 0 0 A = QQ
  show W p l e rm_X0_addBeam s m ([.ref o, .int p0, .int p1, .int p2, .int p3, .int p4] : List Value).toArray below meth c s.heap [] 0 0 QQ (F0 m 0 ls [])
  obtain ⟨H, hHH⟩ : ∃ H, H = s.heap := ⟨_, rfl⟩
  rw [← hHH] at hP ⊢
  have hS : va_S A s.heap H [] := by rw [hHH]; exact hS
  clear hHH
  generalize ([] : List Loc) = locs at hS ⊢
  unfold P_X0_addBeam at hw
  refine lv_aload_n hx hb dX0_addBeam_0 rfl (lv_at hl 0 rfl) ?_
  refine gc_Vi (As := []) (rest := []) (wr := []) ⟨hx, hb, hml, hown, ht⟩ (c_X0_beams l dC dI cI cJ o o_cells H.size s_cells _ hw) (cwV 0 ht (g_V k_406 k_293 k_294 k_2 k_295) rfl rfl rfl (by decide +kernel) ⟨(Nat.le_of_ble_eq_true rfl), (Nat.le_of_ble_eq_true rfl)⟩) hK hP hD hS hA [0, 1] [] rfl rfl (by decide) 0 rfl rfl rfl rfl hl.1 rfl (Nat.le_of_ble_eq_true rfl) ⟨(Nat.le_of_ble_eq_true rfl), (Nat.le_of_ble_eq_true rfl)⟩ dX0_addBeam_1 (fun r_1 u H locs hw hP hD hS => ?_)
  try dsimp only at hw
  have hP : va_P (dC, dI) vwCl [(o, .inr (0, [.ref o_cells])), (o_cells, .inl (cI, 82, .inl s_cells))] H := hP
  have hD : va_D A [(o, .inr (0, [.ref o_cells])), (o_cells, .inl (cI, 82, .inl s_cells))] := hD
  refine lv_istore (lv' := [(6, .int r_1), (0, .ref o), (1, .int p0), (2, .int p1), (3, .int p2), (4, .int p3), (5, .int p4)]) hx hb dX0_addBeam_4 hl (by decide) rfl (fun ls hl => ?_)
  refine lv_aload_n hx hb dX0_addBeam_6 rfl (lv_at hl 1 rfl) ?_
  refine lv_iload hx hb dX0_addBeam_7 (lv_at hl 0 rfl) ?_
  refine lv_iconst (v := 0) hx hb dX0_addBeam_9 (by decide) ?_
  refine lv_iload_n hx hb dX0_addBeam_10 rfl (lv_at hl 2 rfl) ?_
  refine gc_Vv (As := [.int r_1, .int 0, .int p0]) (rest := []) (wr := []) ⟨hx, hb, hml, hown, ht⟩ (c_X0_putBeam l dC dI cI cJ o o_cells H.size s_cells r_1 0 p0 _ hw) (cwV 3 ht (g_V k_685 k_686 k_687 k_2 k_688) rfl rfl rfl (by decide +kernel) ⟨(Nat.le_of_ble_eq_true rfl), (Nat.le_of_ble_eq_true rfl)⟩) hK hP hD hS hA [0, 1] [] rfl rfl (by decide) 0 rfl rfl rfl rfl hl.1 rfl (Nat.le_of_ble_eq_true rfl) ⟨(Nat.le_of_ble_eq_true rfl), (Nat.le_of_ble_eq_true rfl)⟩ dX0_addBeam_11 (fun u H locs hw hP hD hS => ?_)
  obtain ⟨s_cells_2, rfl⟩ : ∃ z, z = u := ⟨_, rfl⟩
  try dsimp only at hw
  have hP : va_P (dC, dI) vwCl [(o, .inr (0, [.ref o_cells])), (o_cells, .inl (cI, 82, .inl s_cells_2))] H := hP
  have hD : va_D A [(o, .inr (0, [.ref o_cells])), (o_cells, .inl (cI, 82, .inl s_cells_2))] := hD
  refine lv_aload_n hx hb dX0_addBeam_14 rfl (lv_at hl 1 rfl) ?_
  refine lv_iload hx hb dX0_addBeam_15 (lv_at hl 0 rfl) ?_
  refine lv_iconst (v := 1) hx hb dX0_addBeam_17 (by decide) ?_
  refine lv_iload_n hx hb dX0_addBeam_18 rfl (lv_at hl 3 rfl) ?_
  refine gc_Vv (As := [.int r_1, .int 1, .int p1]) (rest := []) (wr := []) ⟨hx, hb, hml, hown, ht⟩ (c_X0_putBeam l dC dI cI cJ o o_cells H.size s_cells_2 r_1 1 p1 _ hw) (cwV 3 ht (g_V k_685 k_686 k_687 k_2 k_688) rfl rfl rfl (by decide +kernel) ⟨(Nat.le_of_ble_eq_true rfl), (Nat.le_of_ble_eq_true rfl)⟩) hK hP hD hS hA [0, 1] [] rfl rfl (by decide) 0 rfl rfl rfl rfl hl.1 rfl (Nat.le_of_ble_eq_true rfl) ⟨(Nat.le_of_ble_eq_true rfl), (Nat.le_of_ble_eq_true rfl)⟩ dX0_addBeam_19 (fun u H locs hw hP hD hS => ?_)
  obtain ⟨s_cells_3, rfl⟩ : ∃ z, z = u := ⟨_, rfl⟩
  try dsimp only at hw
  have hP : va_P (dC, dI) vwCl [(o, .inr (0, [.ref o_cells])), (o_cells, .inl (cI, 82, .inl s_cells_3))] H := hP
  have hD : va_D A [(o, .inr (0, [.ref o_cells])), (o_cells, .inl (cI, 82, .inl s_cells_3))] := hD
  refine lv_aload_n hx hb dX0_addBeam_22 rfl (lv_at hl 1 rfl) ?_
  refine lv_iload hx hb dX0_addBeam_23 (lv_at hl 0 rfl) ?_
  refine lv_iconst (v := 2) hx hb dX0_addBeam_25 (by decide) ?_
  refine lv_iload_n hx hb dX0_addBeam_26 rfl (lv_at hl 4 rfl) ?_
  refine gc_Vv (As := [.int r_1, .int 2, .int p2]) (rest := []) (wr := []) ⟨hx, hb, hml, hown, ht⟩ (c_X0_putBeam l dC dI cI cJ o o_cells H.size s_cells_3 r_1 2 p2 _ hw) (cwV 3 ht (g_V k_685 k_686 k_687 k_2 k_688) rfl rfl rfl (by decide +kernel) ⟨(Nat.le_of_ble_eq_true rfl), (Nat.le_of_ble_eq_true rfl)⟩) hK hP hD hS hA [0, 1] [] rfl rfl (by decide) 0 rfl rfl rfl rfl hl.1 rfl (Nat.le_of_ble_eq_true rfl) ⟨(Nat.le_of_ble_eq_true rfl), (Nat.le_of_ble_eq_true rfl)⟩ dX0_addBeam_27 (fun u H locs hw hP hD hS => ?_)
  obtain ⟨s_cells_4, rfl⟩ : ∃ z, z = u := ⟨_, rfl⟩
  try dsimp only at hw
  have hP : va_P (dC, dI) vwCl [(o, .inr (0, [.ref o_cells])), (o_cells, .inl (cI, 82, .inl s_cells_4))] H := hP
  have hD : va_D A [(o, .inr (0, [.ref o_cells])), (o_cells, .inl (cI, 82, .inl s_cells_4))] := hD
  refine lv_aload_n hx hb dX0_addBeam_30 rfl (lv_at hl 1 rfl) ?_
  refine lv_iload hx hb dX0_addBeam_31 (lv_at hl 0 rfl) ?_
  refine lv_iconst (v := 3) hx hb dX0_addBeam_33 (by decide) ?_
  refine lv_iload hx hb dX0_addBeam_34 (lv_at hl 5 rfl) ?_
  refine gc_Vv (As := [.int r_1, .int 3, .int p3]) (rest := []) (wr := []) ⟨hx, hb, hml, hown, ht⟩ (c_X0_putBeam l dC dI cI cJ o o_cells H.size s_cells_4 r_1 3 p3 _ hw) (cwV 3 ht (g_V k_685 k_686 k_687 k_2 k_688) rfl rfl rfl (by decide +kernel) ⟨(Nat.le_of_ble_eq_true rfl), (Nat.le_of_ble_eq_true rfl)⟩) hK hP hD hS hA [0, 1] [] rfl rfl (by decide) 0 rfl rfl rfl rfl hl.1 rfl (Nat.le_of_ble_eq_true rfl) ⟨(Nat.le_of_ble_eq_true rfl), (Nat.le_of_ble_eq_true rfl)⟩ dX0_addBeam_36 (fun u H locs hw hP hD hS => ?_)
  obtain ⟨s_cells_5, rfl⟩ : ∃ z, z = u := ⟨_, rfl⟩
  try dsimp only at hw
  have hP : va_P (dC, dI) vwCl [(o, .inr (0, [.ref o_cells])), (o_cells, .inl (cI, 82, .inl s_cells_5))] H := hP
  have hD : va_D A [(o, .inr (0, [.ref o_cells])), (o_cells, .inl (cI, 82, .inl s_cells_5))] := hD
  refine lv_aload_n hx hb dX0_addBeam_39 rfl (lv_at hl 1 rfl) ?_
  refine lv_iload hx hb dX0_addBeam_40 (lv_at hl 0 rfl) ?_
  refine lv_iconst (v := 4) hx hb dX0_addBeam_42 (by decide) ?_
  refine lv_iload hx hb dX0_addBeam_43 (lv_at hl 6 rfl) ?_
  refine gc_Vv (As := [.int r_1, .int 4, .int p4]) (rest := []) (wr := []) ⟨hx, hb, hml, hown, ht⟩ (c_X0_putBeam l dC dI cI cJ o o_cells H.size s_cells_5 r_1 4 p4 _ hw) (cwV 3 ht (g_V k_685 k_686 k_687 k_2 k_688) rfl rfl rfl (by decide +kernel) ⟨(Nat.le_of_ble_eq_true rfl), (Nat.le_of_ble_eq_true rfl)⟩) hK hP hD hS hA [0, 1] [] rfl rfl (by decide) 0 rfl rfl rfl rfl hl.1 rfl (Nat.le_of_ble_eq_true rfl) ⟨(Nat.le_of_ble_eq_true rfl), (Nat.le_of_ble_eq_true rfl)⟩ dX0_addBeam_45 (fun u H locs hw hP hD hS => ?_)
  obtain ⟨s_cells_6, rfl⟩ : ∃ z, z = u := ⟨_, rfl⟩
  try dsimp only at hw
  have hP : va_P (dC, dI) vwCl [(o, .inr (0, [.ref o_cells])), (o_cells, .inl (cI, 82, .inl s_cells_6))] H := hP
  have hD : va_D A [(o, .inr (0, [.ref o_cells])), (o_cells, .inl (cI, 82, .inl s_cells_6))] := hD
  refine lv_aload_n hx hb dX0_addBeam_48 rfl (lv_at hl 1 rfl) ?_
  refine lv_bipush (v := 81) hx hb dX0_addBeam_49 (by decide) ?_
  refine lv_iload hx hb dX0_addBeam_51 (lv_at hl 0 rfl) ?_
  refine lv_iconst (v := 1) hx hb dX0_addBeam_53 (by decide) ?_
  refine lv_iadd hx hb dX0_addBeam_54 ?_
  refine gc_Vv (As := [.int 81, .int (r_1 + 1)]) (rest := []) (wr := []) ⟨hx, hb, hml, hown, ht⟩ (c_X0_putCell l dC dI cI cJ o o_cells H.size s_cells_6 81 (r_1 + 1) _ hw) (cwV 2 ht (g_V k_631 k_633 k_s31 k_2 k_634) rfl rfl rfl (by decide +kernel) ⟨(Nat.le_of_ble_eq_true rfl), (Nat.le_of_ble_eq_true rfl)⟩) hK hP hD hS hA [0, 1] [] rfl rfl (by decide) 0 rfl rfl rfl rfl hl.1 rfl (Nat.le_of_ble_eq_true rfl) ⟨(Nat.le_of_ble_eq_true rfl), (Nat.le_of_ble_eq_true rfl)⟩ dX0_addBeam_55 (fun u H locs hw hP hD hS => ?_)
  obtain ⟨s_cells_7, rfl⟩ : ∃ z, z = u := ⟨_, rfl⟩
  try dsimp only at hw
  have hP : va_P (dC, dI) vwCl [(o, .inr (0, [.ref o_cells])), (o_cells, .inl (cI, 82, .inl s_cells_7))] H := hP
  have hD : va_D A [(o, .inr (0, [.ref o_cells])), (o_cells, .inl (cI, 82, .inl s_cells_7))] := hD
  refine lv_iload hx hb dX0_addBeam_58 (lv_at hl 0 rfl) ?_
  rw [← hQQ]
  exact g_reti (v := r_1) (u := s_cells_7) hx hb hr rfl hlocks hw hP hK hD hS dX0_addBeam_60
abbrev rm_X0_dropBeam : Room := { frames := 2, cells := 0, slots := 0, locals := 49 }
set_option maxHeartbeats 4000000 in
set_option maxRecDepth 100000 in
theorem c_X0_dropBeam (l : Launch) (dC : Nat → ClassId) (dI : Nat → Nat → Nat) (cI cJ : ClassId) (o o_cells : Nat) (sz : Nat) (s_cells : Nat → Int32) (p0 : Int32) (Q : (Nat → Int32) → Prop) (hw : P_X0_dropBeam p0 s_cells Q) : Met l yX0_dropBeam (Cond.code yX0_dropBeam cX0_dropBeam 2 none :: TBL) rm_X0_dropBeam (gPc (dC, dI) vwCl (gTy cI cJ) [.ref o, .int p0] [(o, .inr (0, [.ref o_cells])), (o_cells, .inl (cI, 82, .inl s_cells))] sz) (va_Qv (fun (u : (Nat → Int32)) => Q u) (gB (dC, dI) vwCl (gTy cI cJ) (va_A [(o, .inr (0, [.ref o_cells])), (o_cells, .inl (cI, 82, .inl s_cells))] sz) (fun (u : (Nat → Int32)) => [(o, .inr (0, [.ref o_cells])), (o_cells, .inl (cI, 82, .inl u))])) (va_A [(o, .inr (0, [.ref o_cells])), (o_cells, .inl (cI, 82, .inl s_cells))] sz)) 0 0 (va_A [(o, .inr (0, [.ref o_cells])), (o_cells, .inl (cI, 82, .inl s_cells))] sz) := by
  refine Met.ofW (cc := cX0_dropBeam) (maxL := 2) (ret := none) (by decide) rfl ?_
  intro p e s m args below meth c s₁ B hml hv
  obtain ⟨rfl, hsz, hP, hK, hD0⟩ := hv
  have hx := B.exec
  have hb := B.bytes
  have hr := B.returns
  have hts := atoms_spec (ws := Cond.code yX0_dropBeam cX0_dropBeam 2 none :: TBL) B.pre
  have ht : ∀ w ∈ TBL, w.before ([.ref o, .int p0] : List Value).toArray s = true := fun w h => hts w (List.mem_cons_of_mem _ h)
  clear hts
  have hown : s.vm.findClass RX0 = some m.cls := findClass_of_methodNamed B.named
  have hlocks := B.notSynchronized
  clear B
  subst hsz
  have hD := hD0.self (sz := s.heap.size)
  clear hD0
  generalize hAe : va_A [(o, .inr (0, [.ref o_cells])), (o_cells, .inl (cI, 82, .inl s_cells))] s.heap.size = A at hD ⊢
  have hA : ∀ q : Nat, s.heap.size ≤ q → A q := fun q h => by rw [← hAe]; exact Or.inr h
  clear hAe
  have hS : va_S A s.heap s.heap [] := va_S.rf
  have hP : va_P (dC, dI) vwCl [(o, .inr (0, [.ref o_cells])), (o_cells, .inl (cI, 82, .inl s_cells))] s.heap := hP
  have hl := lv_entry ([.ref o, .int p0]) (n := 2) (Nat.le_of_ble_eq_true rfl)
  rw [lg_entry_eq]
  generalize (lg_sl ([.ref o, .int p0]) ++ List.replicate (2 - (lg_sl ([.ref o, .int p0])).length) Slot.unset).toArray = ls at hl ⊢
  have hl : lv_has ls 2 [(0, .ref o), (1, .int p0)] := hl
  generalize hQQ : MQ below _ _ _ 0 0 A = QQ
  show W p l e rm_X0_dropBeam s m ([.ref o, .int p0] : List Value).toArray below meth c s.heap [] 0 0 QQ (F0 m 0 ls [])
  obtain ⟨H, hHH⟩ : ∃ H, H = s.heap := ⟨_, rfl⟩
  rw [← hHH] at hP ⊢
  have hS : va_S A s.heap H [] := by rw [hHH]; exact hS
  clear hHH
  generalize ([] : List Loc) = locs at hS ⊢
  unfold P_X0_dropBeam at hw
  refine lv_aload_n hx hb dX0_dropBeam_0 rfl (lv_at hl 0 rfl) ?_
  refine lv_bipush (v := 48) hx hb dX0_dropBeam_1 (by decide) ?_
  refine lv_iload_n hx hb dX0_dropBeam_3 rfl (lv_at hl 1 rfl) ?_
  refine lv_iconst (v := 5) hx hb dX0_dropBeam_4 (by decide) ?_
  refine lv_imul hx hb dX0_dropBeam_5 ?_
  refine lv_iadd hx hb dX0_dropBeam_6 ?_
  refine lv_iconst (v := 5) hx hb dX0_dropBeam_7 (by decide) ?_
  refine lv_bipush (v := 78) hx hb dX0_dropBeam_8 (by decide) ?_
  refine gc_Vv (As := [.int (48 + (p0 * 5)), .int 5, .int 78]) (rest := []) (wr := []) ⟨hx, hb, hml, hown, ht⟩ (c_X0_closeGap l dC dI cI cJ o o_cells H.size s_cells (48 + (p0 * 5)) 5 78 _ hw) (cwV 3 ht (g_V k_668 k_670 k_s33 k_2 k_671) rfl rfl rfl (by decide +kernel) ⟨(Nat.le_of_ble_eq_true rfl), (Nat.le_of_ble_eq_true rfl)⟩) hK hP hD hS hA [0, 1] [] rfl rfl (by decide) 0 rfl rfl rfl rfl hl.1 rfl (Nat.le_of_ble_eq_true rfl) ⟨(Nat.le_of_ble_eq_true rfl), (Nat.le_of_ble_eq_true rfl)⟩ dX0_dropBeam_10 (fun u H locs hw hP hD hS => ?_)
  obtain ⟨s_cells_1, rfl⟩ : ∃ z, z = u := ⟨_, rfl⟩
  try dsimp only at hw
  have hP : va_P (dC, dI) vwCl [(o, .inr (0, [.ref o_cells])), (o_cells, .inl (cI, 82, .inl s_cells_1))] H := hP
  have hD : va_D A [(o, .inr (0, [.ref o_cells])), (o_cells, .inl (cI, 82, .inl s_cells_1))] := hD
  refine lv_aload_n hx hb dX0_dropBeam_13 rfl (lv_at hl 0 rfl) ?_
  refine lv_bipush (v := 81) hx hb dX0_dropBeam_14 (by decide) ?_
  refine lv_aload_n hx hb dX0_dropBeam_16 rfl (lv_at hl 0 rfl) ?_
  refine gc_Vi (As := []) (rest := [.int 81, .ref o]) (wr := []) ⟨hx, hb, hml, hown, ht⟩ (c_X0_beams l dC dI cI cJ o o_cells H.size s_cells_1 _ hw) (cwV 0 ht (g_V k_406 k_293 k_294 k_2 k_295) rfl rfl rfl (by decide +kernel) ⟨(Nat.le_of_ble_eq_true rfl), (Nat.le_of_ble_eq_true rfl)⟩) hK hP hD hS hA [0, 1] [] rfl rfl (by decide) 0 rfl rfl rfl rfl hl.1 rfl (Nat.le_of_ble_eq_true rfl) ⟨(Nat.le_of_ble_eq_true rfl), (Nat.le_of_ble_eq_true rfl)⟩ dX0_dropBeam_17 (fun r_2 u H locs hw hP hD hS => ?_)
  try dsimp only at hw
  have hP : va_P (dC, dI) vwCl [(o, .inr (0, [.ref o_cells])), (o_cells, .inl (cI, 82, .inl s_cells_1))] H := hP
  have hD : va_D A [(o, .inr (0, [.ref o_cells])), (o_cells, .inl (cI, 82, .inl s_cells_1))] := hD
  refine lv_iconst (v := 1) hx hb dX0_dropBeam_20 (by decide) ?_
  refine lv_isub hx hb dX0_dropBeam_21 ?_
  refine gc_Vv (As := [.int 81, .int (r_2 - 1)]) (rest := []) (wr := []) ⟨hx, hb, hml, hown, ht⟩ (c_X0_putCell l dC dI cI cJ o o_cells H.size s_cells_1 81 (r_2 - 1) _ hw) (cwV 2 ht (g_V k_631 k_633 k_s31 k_2 k_634) rfl rfl rfl (by decide +kernel) ⟨(Nat.le_of_ble_eq_true rfl), (Nat.le_of_ble_eq_true rfl)⟩) hK hP hD hS hA [0, 1] [] rfl rfl (by decide) 0 rfl rfl rfl rfl hl.1 rfl (Nat.le_of_ble_eq_true rfl) ⟨(Nat.le_of_ble_eq_true rfl), (Nat.le_of_ble_eq_true rfl)⟩ dX0_dropBeam_22 (fun u H locs hw hP hD hS => ?_)
  obtain ⟨s_cells_3, rfl⟩ : ∃ z, z = u := ⟨_, rfl⟩
  try dsimp only at hw
  have hP : va_P (dC, dI) vwCl [(o, .inr (0, [.ref o_cells])), (o_cells, .inl (cI, 82, .inl s_cells_3))] H := hP
  have hD : va_D A [(o, .inr (0, [.ref o_cells])), (o_cells, .inl (cI, 82, .inl s_cells_3))] := hD
  rw [← hQQ]
  exact g_retv (u := s_cells_3) hx hb hr hlocks hw hP hK hD hS dX0_dropBeam_25
abbrev rm_X0_setting : Room := { frames := 0, cells := 0, slots := 0, locals := 0 }
set_option maxHeartbeats 4000000 in
set_option maxRecDepth 100000 in
theorem c_X0_setting (l : Launch) (dC : Nat → ClassId) (dI : Nat → Nat → Nat) (cI cJ : ClassId) (o o_cells : Nat) (sz : Nat) (s_cells : Nat → Int32) (p0 : Int32) (Q : Int32 → Prop) (hw : P_X0_setting p0 s_cells Q) : Met l yX0_setting (Cond.code yX0_setting cX0_setting 3 (some .int) :: TBL) rm_X0_setting (gPc (dC, dI) vwCl (gTy cI cJ) [.ref o, .int p0] [(o, .inr (0, [.ref o_cells])), (o_cells, .inl (cI, 82, .inl s_cells))] sz) (va_Qi (fun (r : Int32) (u : Unit) => Q r ) (gB (dC, dI) vwCl (gTy cI cJ) (va_A [(o, .inr (0, [.ref o_cells])), (o_cells, .inl (cI, 82, .inl s_cells))] sz) (fun (u : Unit) => [(o, .inr (0, [.ref o_cells])), (o_cells, .inl (cI, 82, .inl s_cells))])) (va_A [(o, .inr (0, [.ref o_cells])), (o_cells, .inl (cI, 82, .inl s_cells))] sz)) 0 0 (va_A [(o, .inr (0, [.ref o_cells])), (o_cells, .inl (cI, 82, .inl s_cells))] sz) := by
  refine Met.ofW (cc := cX0_setting) (maxL := 3) (ret := (some .int)) (by decide) rfl ?_
  intro p e s m args below meth c s₁ B hml hv
  obtain ⟨rfl, hsz, hP, hK, hD0⟩ := hv
  have hx := B.exec
  have hb := B.bytes
  have hr := B.returns
  have hts := atoms_spec (ws := Cond.code yX0_setting cX0_setting 3 (some .int) :: TBL) B.pre
  have ht : ∀ w ∈ TBL, w.before ([.ref o, .int p0] : List Value).toArray s = true := fun w h => hts w (List.mem_cons_of_mem _ h)
  clear hts
  have hown : s.vm.findClass RX0 = some m.cls := findClass_of_methodNamed B.named
  have hlocks := B.notSynchronized
  clear B
  subst hsz
  have hD := hD0.self (sz := s.heap.size)
  clear hD0
  generalize hAe : va_A [(o, .inr (0, [.ref o_cells])), (o_cells, .inl (cI, 82, .inl s_cells))] s.heap.size = A at hD ⊢
  have hA : ∀ q : Nat, s.heap.size ≤ q → A q := fun q h => by rw [← hAe]; exact Or.inr h
  clear hAe
  have hS : va_S A s.heap s.heap [] := va_S.rf
  have hP : va_P (dC, dI) vwCl [(o, .inr (0, [.ref o_cells])), (o_cells, .inl (cI, 82, .inl s_cells))] s.heap := hP
  have hl := lv_entry ([.ref o, .int p0]) (n := 3) (Nat.le_of_ble_eq_true rfl)
  rw [lg_entry_eq]
  generalize (lg_sl ([.ref o, .int p0]) ++ List.replicate (3 - (lg_sl ([.ref o, .int p0])).length) Slot.unset).toArray = ls at hl ⊢
  have hl : lv_has ls 3 [(0, .ref o), (1, .int p0)] := hl
  generalize hQQ : MQ below _ _ _ 0 0 A = QQ
  show W p l e rm_X0_setting s m ([.ref o, .int p0] : List Value).toArray below meth c s.heap [] 0 0 QQ (F0 m 0 ls [])
  obtain ⟨H, hHH⟩ : ∃ H, H = s.heap := ⟨_, rfl⟩
  rw [← hHH] at hP ⊢
  have hS : va_S A s.heap H [] := by rw [hHH]; exact hS
  clear hHH
  generalize ([] : List Loc) = locs at hS ⊢
  unfold P_X0_setting at hw
  refine lv_bipush (v := 78) hx hb dX0_setting_0 (by decide) ?_
  refine lv_iload_n hx hb dX0_setting_2 rfl (lv_at hl 1 rfl) ?_
  refine lv_iadd hx hb dX0_setting_3 ?_
  refine lv_istore_n (lv' := [(2, .int (78 + p0)), (0, .ref o), (1, .int p0)]) hx hb dX0_setting_4 rfl hl (by decide) rfl (fun ls hl => ?_)
  refine lv_iload_n hx hb dX0_setting_5 rfl (lv_at hl 0 rfl) ?_
  refine lv_if_lt (tgt := 27) hx hb dX0_setting_6 (by decide) (fun hc => ?_) (fun hc => ?_)
  · have hw := hw.1 hc
    refine lv_iconst (v := (-1)) hx hb dX0_setting_27 (by decide) ?_
    rw [← hQQ]
    exact g_reti (v := (-1)) (u := ()) hx hb hr rfl hlocks hw hP hK hD hS dX0_setting_28
  · have hw := hw.2 hc
    refine lv_iload_n hx hb dX0_setting_9 rfl (lv_at hl 0 rfl) ?_
    refine lv_aload_n hx hb dX0_setting_10 rfl (lv_at hl 1 rfl) ?_
    refine va_get (D := (dC, dI)) (ci := 0) (v := .ref o_cells) (C := RX0) (T := TX0) (N := 1) hx hb ht i_X0 hown hK hP 0 rfl rfl 0 (by decide) (ht _ k_31) (fun _ h9 => h9) rfl dX0_setting_11 ?_
    refine va_alen (v := 82) hx hb hK hP 1 0 rfl rfl rfl dX0_setting_14 ?_
    refine lv_icmp_ge (tgt := 27) hx hb dX0_setting_15 (by decide) (fun hc => ?_) (fun hc => ?_)
    · have hw := hw.1 hc
      refine lv_iconst (v := (-1)) hx hb dX0_setting_27 (by decide) ?_
      rw [← hQQ]
      exact g_reti (v := (-1)) (u := ()) hx hb hr rfl hlocks hw hP hK hD hS dX0_setting_28
    · have hw := hw.2 hc
      refine lv_aload_n hx hb dX0_setting_18 rfl (lv_at hl 1 rfl) ?_
      refine va_get (D := (dC, dI)) (ci := 0) (v := .ref o_cells) (C := RX0) (T := TX0) (N := 1) hx hb ht i_X0 hown hK hP 0 rfl rfl 0 (by decide) (ht _ k_31) (fun _ h9 => h9) rfl dX0_setting_19 ?_
      refine lv_iload_n hx hb dX0_setting_22 rfl (lv_at hl 0 rfl) ?_
      obtain ⟨hi_1, hw⟩ := hw
      refine gv_iald hx hb hK hP 1 0 rfl rfl rfl hi_1 dX0_setting_23 ?_
      refine lv_goto (tgt := 28) hx hb dX0_setting_24 (by decide) ?_
      rw [← hQQ]
      exact g_reti (v := (s_cells ((78 + p0).toNatClampNeg))) (u := ()) hx hb hr rfl hlocks hw hP hK hD hS dX0_setting_28
abbrev rm_X0_putSetting : Room := { frames := 1, cells := 0, slots := 0, locals := 22 }
set_option maxHeartbeats 4000000 in
set_option maxRecDepth 100000 in
theorem c_X0_putSetting (l : Launch) (dC : Nat → ClassId) (dI : Nat → Nat → Nat) (cI cJ : ClassId) (o o_cells : Nat) (sz : Nat) (s_cells : Nat → Int32) (p0 : Int32) (p1 : Int32) (Q : (Nat → Int32) → Prop) (hw : P_X0_putSetting p0 p1 s_cells Q) : Met l yX0_putSetting (Cond.code yX0_putSetting cX0_putSetting 3 none :: TBL) rm_X0_putSetting (gPc (dC, dI) vwCl (gTy cI cJ) [.ref o, .int p0, .int p1] [(o, .inr (0, [.ref o_cells])), (o_cells, .inl (cI, 82, .inl s_cells))] sz) (va_Qv (fun (u : (Nat → Int32)) => Q u) (gB (dC, dI) vwCl (gTy cI cJ) (va_A [(o, .inr (0, [.ref o_cells])), (o_cells, .inl (cI, 82, .inl s_cells))] sz) (fun (u : (Nat → Int32)) => [(o, .inr (0, [.ref o_cells])), (o_cells, .inl (cI, 82, .inl u))])) (va_A [(o, .inr (0, [.ref o_cells])), (o_cells, .inl (cI, 82, .inl s_cells))] sz)) 0 0 (va_A [(o, .inr (0, [.ref o_cells])), (o_cells, .inl (cI, 82, .inl s_cells))] sz) := by
  refine Met.ofW (cc := cX0_putSetting) (maxL := 3) (ret := none) (by decide) rfl ?_
  intro p e s m args below meth c s₁ B hml hv
  obtain ⟨rfl, hsz, hP, hK, hD0⟩ := hv
  have hx := B.exec
  have hb := B.bytes
  have hr := B.returns
  have hts := atoms_spec (ws := Cond.code yX0_putSetting cX0_putSetting 3 none :: TBL) B.pre
  have ht : ∀ w ∈ TBL, w.before ([.ref o, .int p0, .int p1] : List Value).toArray s = true := fun w h => hts w (List.mem_cons_of_mem _ h)
  clear hts
  have hown : s.vm.findClass RX0 = some m.cls := findClass_of_methodNamed B.named
  have hlocks := B.notSynchronized
  clear B
  subst hsz
  have hD := hD0.self (sz := s.heap.size)
  clear hD0
  generalize hAe : va_A [(o, .inr (0, [.ref o_cells])), (o_cells, .inl (cI, 82, .inl s_cells))] s.heap.size = A at hD ⊢
  have hA : ∀ q : Nat, s.heap.size ≤ q → A q := fun q h => by rw [← hAe]; exact Or.inr h
  clear hAe
  have hS : va_S A s.heap s.heap [] := va_S.rf
  have hP : va_P (dC, dI) vwCl [(o, .inr (0, [.ref o_cells])), (o_cells, .inl (cI, 82, .inl s_cells))] s.heap := hP
  have hl := lv_entry ([.ref o, .int p0, .int p1]) (n := 3) (Nat.le_of_ble_eq_true rfl)
  rw [lg_entry_eq]
  generalize (lg_sl ([.ref o, .int p0, .int p1]) ++ List.replicate (3 - (lg_sl ([.ref o, .int p0, .int p1])).length) Slot.unset).toArray = ls at hl ⊢
  have hl : lv_has ls 3 [(0, .ref o), (1, .int p0), (2, .int p1)] := hl
  generalize hQQ : MQ below _ _ _ 0 0 A = QQ
  show W p l e rm_X0_putSetting s m ([.ref o, .int p0, .int p1] : List Value).toArray below meth c s.heap [] 0 0 QQ (F0 m 0 ls [])
  obtain ⟨H, hHH⟩ : ∃ H, H = s.heap := ⟨_, rfl⟩
  rw [← hHH] at hP ⊢
  have hS : va_S A s.heap H [] := by rw [hHH]; exact hS
  clear hHH
  generalize ([] : List Loc) = locs at hS ⊢
  unfold P_X0_putSetting at hw
  refine lv_aload_n hx hb dX0_putSetting_0 rfl (lv_at hl 0 rfl) ?_
  refine lv_bipush (v := 78) hx hb dX0_putSetting_1 (by decide) ?_
  refine lv_iload_n hx hb dX0_putSetting_3 rfl (lv_at hl 1 rfl) ?_
  refine lv_iadd hx hb dX0_putSetting_4 ?_
  refine lv_iload_n hx hb dX0_putSetting_5 rfl (lv_at hl 2 rfl) ?_
  refine gc_Vv (As := [.int (78 + p0), .int p1]) (rest := []) (wr := []) ⟨hx, hb, hml, hown, ht⟩ (c_X0_putCell l dC dI cI cJ o o_cells H.size s_cells (78 + p0) p1 _ hw) (cwV 2 ht (g_V k_631 k_633 k_s31 k_2 k_634) rfl rfl rfl (by decide +kernel) ⟨(Nat.le_of_ble_eq_true rfl), (Nat.le_of_ble_eq_true rfl)⟩) hK hP hD hS hA [0, 1] [] rfl rfl (by decide) 0 rfl rfl rfl rfl hl.1 rfl (Nat.le_of_ble_eq_true rfl) ⟨(Nat.le_of_ble_eq_true rfl), (Nat.le_of_ble_eq_true rfl)⟩ dX0_putSetting_6 (fun u H locs hw hP hD hS => ?_)
  obtain ⟨s_cells_1, rfl⟩ : ∃ z, z = u := ⟨_, rfl⟩
  try dsimp only at hw
  have hP : va_P (dC, dI) vwCl [(o, .inr (0, [.ref o_cells])), (o_cells, .inl (cI, 82, .inl s_cells_1))] H := hP
  have hD : va_D A [(o, .inr (0, [.ref o_cells])), (o_cells, .inl (cI, 82, .inl s_cells_1))] := hD
  rw [← hQQ]
  exact g_retv (u := s_cells_1) hx hb hr hlocks hw hP hK hD hS dX0_putSetting_9
abbrev rm_X0_letters : Room := { frames := 1, cells := 0, slots := 0, locals := 23 }
set_option maxHeartbeats 4000000 in
set_option maxRecDepth 100000 in
theorem c_X0_letters (l : Launch) (dC : Nat → ClassId) (dI : Nat → Nat → Nat) (cI cJ : ClassId) (o o_cells : Nat) (sz : Nat) (s_cells : Nat → Int32)  (Q : Int32 → Prop) (hw : P_X0_letters s_cells Q) : Met l yX0_letters (Cond.code yX0_letters cX0_letters 3 (some .int) :: TBL) rm_X0_letters (gPc (dC, dI) vwCl (gTy cI cJ) [.ref o] [(o, .inr (0, [.ref o_cells])), (o_cells, .inl (cI, 82, .inl s_cells))] sz) (va_Qi (fun (r : Int32) (u : Unit) => Q r ) (gB (dC, dI) vwCl (gTy cI cJ) (va_A [(o, .inr (0, [.ref o_cells])), (o_cells, .inl (cI, 82, .inl s_cells))] sz) (fun (u : Unit) => [(o, .inr (0, [.ref o_cells])), (o_cells, .inl (cI, 82, .inl s_cells))])) (va_A [(o, .inr (0, [.ref o_cells])), (o_cells, .inl (cI, 82, .inl s_cells))] sz)) 0 0 (va_A [(o, .inr (0, [.ref o_cells])), (o_cells, .inl (cI, 82, .inl s_cells))] sz) := by
  refine Met.ofW (cc := cX0_letters) (maxL := 3) (ret := (some .int)) (by decide) rfl ?_
  intro p e s m args below meth c s₁ B hml hv
  obtain ⟨rfl, hsz, hP, hK, hD0⟩ := hv
  have hx := B.exec
  have hb := B.bytes
  have hr := B.returns
  have hts := atoms_spec (ws := Cond.code yX0_letters cX0_letters 3 (some .int) :: TBL) B.pre
  have ht : ∀ w ∈ TBL, w.before ([.ref o] : List Value).toArray s = true := fun w h => hts w (List.mem_cons_of_mem _ h)
  clear hts
  have hown : s.vm.findClass RX0 = some m.cls := findClass_of_methodNamed B.named
  have hlocks := B.notSynchronized
  clear B
  subst hsz
  have hD := hD0.self (sz := s.heap.size)
  clear hD0
  generalize hAe : va_A [(o, .inr (0, [.ref o_cells])), (o_cells, .inl (cI, 82, .inl s_cells))] s.heap.size = A at hD ⊢
  have hA : ∀ q : Nat, s.heap.size ≤ q → A q := fun q h => by rw [← hAe]; exact Or.inr h
  clear hAe
  have hS : va_S A s.heap s.heap [] := va_S.rf
  have hP : va_P (dC, dI) vwCl [(o, .inr (0, [.ref o_cells])), (o_cells, .inl (cI, 82, .inl s_cells))] s.heap := hP
  have hl := lv_entry ([.ref o]) (n := 3) (Nat.le_of_ble_eq_true rfl)
  rw [lg_entry_eq]
  generalize (lg_sl ([.ref o]) ++ List.replicate (3 - (lg_sl ([.ref o])).length) Slot.unset).toArray = ls at hl ⊢
  have hl : lv_has ls 3 [(0, .ref o)] := hl
  generalize hQQ : MQ below _ _ _ 0 0 A = QQ
  show W p l e rm_X0_letters s m ([.ref o] : List Value).toArray below meth c s.heap [] 0 0 QQ (F0 m 0 ls [])
  have L4 : ∀ (n : Nat) (x1 : Int32) (x2 : Int32), P_X0_letters_L4 s_cells Q n x1 x2 → ∀ (H : Heap) (locs : List Loc) (ls : Array Slot), va_P (dC, dI) vwCl [(o, .inr (0, [.ref o_cells])), (o_cells, .inl (cI, 82, .inl s_cells))] H → va_D A [(o, .inr (0, [.ref o_cells])), (o_cells, .inl (cI, 82, .inl s_cells))] → va_S A s.heap H locs → lv_has ls 3 [(0, .ref o), (1, .int x1), (2, .int x2)] → W p l e rm_X0_letters s m ([.ref o] : List Value).toArray below meth c H locs 0 0 QQ (F0 m 4 ls []) := by
    intro n
    induction n with
    | zero => intro x1 x2 hw; rw [P_X0_letters_L4_z] at hw; exact hw.elim
    | succ n ih =>
      intro x1 x2 hw
      rw [P_X0_letters_L4_s] at hw
      generalize hrec : P_X0_letters_L4 s_cells Q n = rec4 at ih hw
      intro H locs ls hP hD hS hl
      unfold B_X0_letters_L4 at hw
      refine lv_iload_n hx hb dX0_letters_4 rfl (lv_at hl 2 rfl) ?_
      refine lv_aload_n hx hb dX0_letters_5 rfl (lv_at hl 0 rfl) ?_
      refine gc_Vi (As := []) (rest := [.int x2]) (wr := []) ⟨hx, hb, hml, hown, ht⟩ (c_X0_words l dC dI cI cJ o o_cells H.size s_cells _ hw) (cwV 0 ht (g_V k_189 k_190 k_191 k_2 k_192) rfl rfl rfl (by decide +kernel) ⟨(Nat.le_of_ble_eq_true rfl), (Nat.le_of_ble_eq_true rfl)⟩) hK hP hD hS hA [0, 1] [] rfl rfl (by decide) 0 rfl rfl rfl rfl hl.1 rfl (Nat.le_of_ble_eq_true rfl) ⟨(Nat.le_of_ble_eq_true rfl), (Nat.le_of_ble_eq_true rfl)⟩ dX0_letters_6 (fun r_1 u H locs hw hP hD hS => ?_)
      try dsimp only at hw
      have hP : va_P (dC, dI) vwCl [(o, .inr (0, [.ref o_cells])), (o_cells, .inl (cI, 82, .inl s_cells))] H := hP
      have hD : va_D A [(o, .inr (0, [.ref o_cells])), (o_cells, .inl (cI, 82, .inl s_cells))] := hD
      refine lv_icmp_ge (tgt := 27) hx hb dX0_letters_9 (by decide) (fun hc => ?_) (fun hc => ?_)
      · have hw := hw.1 hc
        refine lv_iload_n hx hb dX0_letters_27 rfl (lv_at hl 1 rfl) ?_
        rw [← hQQ]
        exact g_reti (v := x1) (u := ()) hx hb hr rfl hlocks hw hP hK hD hS dX0_letters_28
      · have hw := hw.2 hc
        refine lv_iload_n hx hb dX0_letters_12 rfl (lv_at hl 1 rfl) ?_
        refine lv_aload_n hx hb dX0_letters_13 rfl (lv_at hl 0 rfl) ?_
        refine lv_iload_n hx hb dX0_letters_14 rfl (lv_at hl 2 rfl) ?_
        refine lv_iconst (v := 0) hx hb dX0_letters_15 (by decide) ?_
        refine gc_Vi (As := [.int x2, .int 0]) (rest := [.int x1]) (wr := []) ⟨hx, hb, hml, hown, ht⟩ (c_X0_ofWord l dC dI cI cJ o o_cells H.size s_cells x2 0 _ hw) (cwV 2 ht (g_V k_193 k_194 k_195 k_2 k_196) rfl rfl rfl (by decide +kernel) ⟨(Nat.le_of_ble_eq_true rfl), (Nat.le_of_ble_eq_true rfl)⟩) hK hP hD hS hA [0, 1] [] rfl rfl (by decide) 0 rfl rfl rfl rfl hl.1 rfl (Nat.le_of_ble_eq_true rfl) ⟨(Nat.le_of_ble_eq_true rfl), (Nat.le_of_ble_eq_true rfl)⟩ dX0_letters_16 (fun r_2 u H locs hw hP hD hS => ?_)
        try dsimp only at hw
        have hP : va_P (dC, dI) vwCl [(o, .inr (0, [.ref o_cells])), (o_cells, .inl (cI, 82, .inl s_cells))] H := hP
        have hD : va_D A [(o, .inr (0, [.ref o_cells])), (o_cells, .inl (cI, 82, .inl s_cells))] := hD
        refine lv_iadd hx hb dX0_letters_19 ?_
        refine lv_istore_n (lv' := [(1, .int (x1 + r_2)), (0, .ref o), (2, .int x2)]) hx hb dX0_letters_20 rfl hl (by decide) rfl (fun ls hl => ?_)
        refine lv_iinc (v := (x2 + 1)) (lv' := [(2, .int (x2 + 1)), (1, .int (x1 + r_2)), (0, .ref o)]) hx hb dX0_letters_21 hl (k := 2) rfl rfl (by decide) rfl (fun ls hl => ?_)
        refine lv_goto (tgt := 4) hx hb dX0_letters_24 (by decide) ?_
        exact ih (x1 + r_2) (x2 + 1) hw H locs ls hP hD hS (lv_sub (l' := [(0, .ref o), (1, .int (x1 + r_2)), (2, .int (x2 + 1))]) hl [2, 1, 0] rfl)
  obtain ⟨H, hHH⟩ : ∃ H, H = s.heap := ⟨_, rfl⟩
  rw [← hHH] at hP ⊢
  have hS : va_S A s.heap H [] := by rw [hHH]; exact hS
  clear hHH
  generalize ([] : List Loc) = locs at hS ⊢
  unfold P_X0_letters at hw
  refine lv_iconst (v := 0) hx hb dX0_letters_0 (by decide) ?_
  refine lv_istore_n (lv' := [(1, .int 0), (0, .ref o)]) hx hb dX0_letters_1 rfl hl (by decide) rfl (fun ls hl => ?_)
  refine lv_iconst (v := 0) hx hb dX0_letters_2 (by decide) ?_
  refine lv_istore_n (lv' := [(2, .int 0), (1, .int 0), (0, .ref o)]) hx hb dX0_letters_3 rfl hl (by decide) rfl (fun ls hl => ?_)
  obtain ⟨n, hw⟩ := hw
  exact L4  n 0 0 hw H locs ls hP hD hS (lv_sub (l' := [(0, .ref o), (1, .int 0), (2, .int 0)]) hl [2, 1, 0] rfl)
abbrev rm_X0_columnBits : Room := { frames := 1, cells := 0, slots := 0, locals := 23 }
set_option maxHeartbeats 4000000 in
set_option maxRecDepth 100000 in
theorem c_X0_columnBits (l : Launch) (dC : Nat → ClassId) (dI : Nat → Nat → Nat) (cI cJ : ClassId) (sz : Nat)  (p0 : Int32) (p1 : Int32) (Q : Int64 → Prop) (hw : P_X0_columnBits p0 p1 Q) : Met l yX0_columnBits (Cond.code yX0_columnBits cX0_columnBits 4 (some .long) :: TBL) rm_X0_columnBits (gPc (dC, dI) vwCl (gTy cI cJ) [.int p0, .int p1] [] sz) (va_Ql (fun (r : Int64) (u : Unit) => Q r ) (gB (dC, dI) vwCl (gTy cI cJ) (va_A [] sz) (fun (u : Unit) => [])) (va_A [] sz)) 0 0 (va_A [] sz) := by
  refine Met.ofW (cc := cX0_columnBits) (maxL := 4) (ret := (some .long)) (by decide) rfl ?_
  intro p e s m args below meth c s₁ B hml hv
  obtain ⟨rfl, hsz, hP, hK, hD0⟩ := hv
  have hx := B.exec
  have hb := B.bytes
  have hr := B.returns
  have hts := atoms_spec (ws := Cond.code yX0_columnBits cX0_columnBits 4 (some .long) :: TBL) B.pre
  have ht : ∀ w ∈ TBL, w.before ([.int p0, .int p1] : List Value).toArray s = true := fun w h => hts w (List.mem_cons_of_mem _ h)
  clear hts
  have hown : s.vm.findClass RX0 = some m.cls := findClass_of_methodNamed B.named
  have hlocks := B.notSynchronized
  clear B
  subst hsz
  have hD := hD0.self (sz := s.heap.size)
  clear hD0
  generalize hAe : va_A [] s.heap.size = A at hD ⊢
  have hA : ∀ q : Nat, s.heap.size ≤ q → A q := fun q h => by rw [← hAe]; exact Or.inr h
  clear hAe
  have hS : va_S A s.heap s.heap [] := va_S.rf
  have hP : va_P (dC, dI) vwCl [] s.heap := hP
  have hl := lv_entry ([.int p0, .int p1]) (n := 4) (Nat.le_of_ble_eq_true rfl)
  rw [lg_entry_eq]
  generalize (lg_sl ([.int p0, .int p1]) ++ List.replicate (4 - (lg_sl ([.int p0, .int p1])).length) Slot.unset).toArray = ls at hl ⊢
  have hl : lv_has ls 4 [(0, .int p0), (1, .int p1)] := hl
  generalize hQQ : MQ below _ _ _ 0 0 A = QQ
  show W p l e rm_X0_columnBits s m ([.int p0, .int p1] : List Value).toArray below meth c s.heap [] 0 0 QQ (F0 m 0 ls [])
  obtain ⟨H, hHH⟩ : ∃ H, H = s.heap := ⟨_, rfl⟩
  rw [← hHH] at hP ⊢
  have hS : va_S A s.heap H [] := by rw [hHH]; exact hS
  clear hHH
  generalize ([] : List Loc) = locs at hS ⊢
  unfold P_X0_columnBits at hw
  refine lv_iload_n hx hb dX0_columnBits_0 rfl (lv_at hl 0 rfl) ?_
  refine lv_iconst (v := 0) hx hb dX0_columnBits_1 (by decide) ?_
  refine va_mmax hx hb (hml.trans hl.1.symm) hown (ht _ k_424) (ht _ k_309) (ht _ k_13) (ht _ k_310) (Nat.le_of_ble_eq_true rfl) (Nat.le_of_ble_eq_true rfl) (Nat.zero_le _) (Nat.zero_le _) dX0_columnBits_2 ?_
  refine lv_istore_n (lv' := [(2, .int (if p0 < 0 then 0 else p0)), (0, .int p0), (1, .int p1)]) hx hb dX0_columnBits_5 rfl hl (by decide) rfl (fun ls hl => ?_)
  refine lv_iload_n hx hb dX0_columnBits_6 rfl (lv_at hl 1 rfl) ?_
  refine lv_iload_n hx hb dX0_columnBits_7 rfl (lv_at hl 2 rfl) ?_
  refine lv_iadd hx hb dX0_columnBits_8 ?_
  refine lv_bipush (v := 60) hx hb dX0_columnBits_9 (by decide) ?_
  refine va_mmin hx hb (hml.trans hl.1.symm) hown (ht _ k_425) (ht _ k_426) (ht _ k_13) (ht _ k_427) (Nat.le_of_ble_eq_true rfl) (Nat.le_of_ble_eq_true rfl) (Nat.zero_le _) (Nat.zero_le _) dX0_columnBits_11 ?_
  refine lv_istore_n (lv' := [(3, .int (if 60 < (p0 + p1) then 60 else (p0 + p1))), (2, .int (if p0 < 0 then 0 else p0)), (0, .int p0), (1, .int p1)]) hx hb dX0_columnBits_14 rfl hl (by decide) rfl (fun ls hl => ?_)
  refine lv_iload_n hx hb dX0_columnBits_15 rfl (lv_at hl 1 rfl) ?_
  refine lv_iload_n hx hb dX0_columnBits_16 rfl (lv_at hl 0 rfl) ?_
  refine lv_icmp_ge (tgt := 32) hx hb dX0_columnBits_17 (by decide) (fun hc => ?_) (fun hc => ?_)
  · have hw := hw.1 hc
    refine lv_lconst (v := 0) hx hb dX0_columnBits_32 (by decide) ?_
    rw [← hQQ]
    exact g_retl (v := 0) (u := ()) hx hb hr hlocks hw hP hK hD hS dX0_columnBits_33
  · have hw := hw.2 hc
    refine lv_lconst (v := 1) hx hb dX0_columnBits_20 (by decide) ?_
    refine lv_iload_n hx hb dX0_columnBits_21 rfl (lv_at hl 0 rfl) ?_
    refine lv_iload_n hx hb dX0_columnBits_22 rfl (lv_at hl 1 rfl) ?_
    refine lv_isub hx hb dX0_columnBits_23 ?_
    refine lv_lshl (v := (1 <<< (((if 60 < (p0 + p1) then 60 else (p0 + p1)) - (if p0 < 0 then 0 else p0)).toInt64 &&& 63))) hx hb dX0_columnBits_24 rfl ?_
    refine lv_lconst (v := 1) hx hb dX0_columnBits_25 (by decide) ?_
    refine lv_lsub hx hb dX0_columnBits_26 ?_
    refine lv_iload_n hx hb dX0_columnBits_27 rfl (lv_at hl 1 rfl) ?_
    refine lv_lshl (v := (((1 <<< (((if 60 < (p0 + p1) then 60 else (p0 + p1)) - (if p0 < 0 then 0 else p0)).toInt64 &&& 63)) - 1) <<< ((if p0 < 0 then 0 else p0).toInt64 &&& 63))) hx hb dX0_columnBits_28 rfl ?_
    refine lv_goto (tgt := 33) hx hb dX0_columnBits_29 (by decide) ?_
    rw [← hQQ]
    exact g_retl (v := (((1 <<< (((if 60 < (p0 + p1) then 60 else (p0 + p1)) - (if p0 < 0 then 0 else p0)).toInt64 &&& 63)) - 1) <<< ((if p0 < 0 then 0 else p0).toInt64 &&& 63))) (u := ()) hx hb hr hlocks hw hP hK hD hS dX0_columnBits_33
abbrev rm_X0_coveredBy : Room := { frames := 2, cells := 0, slots := 0, locals := 46 }
set_option maxHeartbeats 4000000 in
set_option maxRecDepth 100000 in
theorem c_X0_coveredBy (l : Launch) (dC : Nat → ClassId) (dI : Nat → Nat → Nat) (cI cJ : ClassId) (o o_cells : Nat) (sz : Nat) (s_cells : Nat → Int32) (p0 : Int32) (p1 : Int32) (Q : Int64 → Prop) (hw : P_X0_coveredBy p0 p1 s_cells Q) : Met l yX0_coveredBy (Cond.code yX0_coveredBy cX0_coveredBy 5 (some .long) :: TBL) rm_X0_coveredBy (gPc (dC, dI) vwCl (gTy cI cJ) [.ref o, .int p0, .int p1] [(o, .inr (0, [.ref o_cells])), (o_cells, .inl (cI, 82, .inl s_cells))] sz) (va_Ql (fun (r : Int64) (u : Unit) => Q r ) (gB (dC, dI) vwCl (gTy cI cJ) (va_A [(o, .inr (0, [.ref o_cells])), (o_cells, .inl (cI, 82, .inl s_cells))] sz) (fun (u : Unit) => [(o, .inr (0, [.ref o_cells])), (o_cells, .inl (cI, 82, .inl s_cells))])) (va_A [(o, .inr (0, [.ref o_cells])), (o_cells, .inl (cI, 82, .inl s_cells))] sz)) 0 0 (va_A [(o, .inr (0, [.ref o_cells])), (o_cells, .inl (cI, 82, .inl s_cells))] sz) := by
  refine Met.ofW (cc := cX0_coveredBy) (maxL := 5) (ret := (some .long)) (by decide) rfl ?_
  intro p e s m args below meth c s₁ B hml hv
  obtain ⟨rfl, hsz, hP, hK, hD0⟩ := hv
  have hx := B.exec
  have hb := B.bytes
  have hr := B.returns
  have hts := atoms_spec (ws := Cond.code yX0_coveredBy cX0_coveredBy 5 (some .long) :: TBL) B.pre
  have ht : ∀ w ∈ TBL, w.before ([.ref o, .int p0, .int p1] : List Value).toArray s = true := fun w h => hts w (List.mem_cons_of_mem _ h)
  clear hts
  have hown : s.vm.findClass RX0 = some m.cls := findClass_of_methodNamed B.named
  have hlocks := B.notSynchronized
  clear B
  subst hsz
  have hD := hD0.self (sz := s.heap.size)
  clear hD0
  generalize hAe : va_A [(o, .inr (0, [.ref o_cells])), (o_cells, .inl (cI, 82, .inl s_cells))] s.heap.size = A at hD ⊢
  have hA : ∀ q : Nat, s.heap.size ≤ q → A q := fun q h => by rw [← hAe]; exact Or.inr h
  clear hAe
  have hS : va_S A s.heap s.heap [] := va_S.rf
  have hP : va_P (dC, dI) vwCl [(o, .inr (0, [.ref o_cells])), (o_cells, .inl (cI, 82, .inl s_cells))] s.heap := hP
  have hl := lv_entry ([.ref o, .int p0, .int p1]) (n := 5) (Nat.le_of_ble_eq_true rfl)
  rw [lg_entry_eq]
  generalize (lg_sl ([.ref o, .int p0, .int p1]) ++ List.replicate (5 - (lg_sl ([.ref o, .int p0, .int p1])).length) Slot.unset).toArray = ls at hl ⊢
  have hl : lv_has ls 5 [(0, .ref o), (1, .int p0), (2, .int p1)] := hl
  generalize hQQ : MQ below _ _ _ 0 0 A = QQ
  show W p l e rm_X0_coveredBy s m ([.ref o, .int p0, .int p1] : List Value).toArray below meth c s.heap [] 0 0 QQ (F0 m 0 ls [])
  obtain ⟨H, hHH⟩ : ∃ H, H = s.heap := ⟨_, rfl⟩
  rw [← hHH] at hP ⊢
  have hS : va_S A s.heap H [] := by rw [hHH]; exact hS
  clear hHH
  generalize ([] : List Loc) = locs at hS ⊢
  unfold P_X0_coveredBy at hw
  refine lv_iload_n hx hb dX0_coveredBy_0 rfl (lv_at hl 2 rfl) ?_
  refine lv_aload_n hx hb dX0_coveredBy_1 rfl (lv_at hl 0 rfl) ?_
  refine lv_iload_n hx hb dX0_coveredBy_2 rfl (lv_at hl 1 rfl) ?_
  refine lv_iconst (v := 0) hx hb dX0_coveredBy_3 (by decide) ?_
  refine gc_Vi (As := [.int p0, .int 0]) (rest := [.int p1]) (wr := []) ⟨hx, hb, hml, hown, ht⟩ (c_X0_ofBeam l dC dI cI cJ o o_cells H.size s_cells p0 0 _ hw) (cwV 2 ht (g_V k_420 k_409 k_410 k_2 k_411) rfl rfl rfl (by decide +kernel) ⟨(Nat.le_of_ble_eq_true rfl), (Nat.le_of_ble_eq_true rfl)⟩) hK hP hD hS hA [0, 1] [] rfl rfl (by decide) 0 rfl rfl rfl rfl hl.1 rfl (Nat.le_of_ble_eq_true rfl) ⟨(Nat.le_of_ble_eq_true rfl), (Nat.le_of_ble_eq_true rfl)⟩ dX0_coveredBy_4 (fun r_1 u H locs hw hP hD hS => ?_)
  try dsimp only at hw
  have hP : va_P (dC, dI) vwCl [(o, .inr (0, [.ref o_cells])), (o_cells, .inl (cI, 82, .inl s_cells))] H := hP
  have hD : va_D A [(o, .inr (0, [.ref o_cells])), (o_cells, .inl (cI, 82, .inl s_cells))] := hD
  refine lv_isub hx hb dX0_coveredBy_7 ?_
  refine lv_istore_n (lv' := [(3, .int (p1 - r_1)), (0, .ref o), (1, .int p0), (2, .int p1)]) hx hb dX0_coveredBy_8 rfl hl (by decide) rfl (fun ls hl => ?_)
  refine lv_aload_n hx hb dX0_coveredBy_9 rfl (lv_at hl 1 rfl) ?_
  refine lv_iload_n hx hb dX0_coveredBy_10 rfl (lv_at hl 2 rfl) ?_
  refine lv_iconst (v := 1) hx hb dX0_coveredBy_11 (by decide) ?_
  refine gc_Vi (As := [.int p0, .int 1]) (rest := []) (wr := []) ⟨hx, hb, hml, hown, ht⟩ (c_X0_ofBeam l dC dI cI cJ o o_cells H.size s_cells p0 1 _ hw) (cwV 2 ht (g_V k_420 k_409 k_410 k_2 k_411) rfl rfl rfl (by decide +kernel) ⟨(Nat.le_of_ble_eq_true rfl), (Nat.le_of_ble_eq_true rfl)⟩) hK hP hD hS hA [0, 1] [] rfl rfl (by decide) 0 rfl rfl rfl rfl hl.1 rfl (Nat.le_of_ble_eq_true rfl) ⟨(Nat.le_of_ble_eq_true rfl), (Nat.le_of_ble_eq_true rfl)⟩ dX0_coveredBy_12 (fun r_2 u H locs hw hP hD hS => ?_)
  try dsimp only at hw
  have hP : va_P (dC, dI) vwCl [(o, .inr (0, [.ref o_cells])), (o_cells, .inl (cI, 82, .inl s_cells))] H := hP
  have hD : va_D A [(o, .inr (0, [.ref o_cells])), (o_cells, .inl (cI, 82, .inl s_cells))] := hD
  refine lv_aload_n hx hb dX0_coveredBy_15 rfl (lv_at hl 1 rfl) ?_
  refine lv_iload_n hx hb dX0_coveredBy_16 rfl (lv_at hl 2 rfl) ?_
  refine lv_iconst (v := 2) hx hb dX0_coveredBy_17 (by decide) ?_
  refine gc_Vi (As := [.int p0, .int 2]) (rest := [.int r_2]) (wr := []) ⟨hx, hb, hml, hown, ht⟩ (c_X0_ofBeam l dC dI cI cJ o o_cells H.size s_cells p0 2 _ hw) (cwV 2 ht (g_V k_420 k_409 k_410 k_2 k_411) rfl rfl rfl (by decide +kernel) ⟨(Nat.le_of_ble_eq_true rfl), (Nat.le_of_ble_eq_true rfl)⟩) hK hP hD hS hA [0, 1] [] rfl rfl (by decide) 0 rfl rfl rfl rfl hl.1 rfl (Nat.le_of_ble_eq_true rfl) ⟨(Nat.le_of_ble_eq_true rfl), (Nat.le_of_ble_eq_true rfl)⟩ dX0_coveredBy_18 (fun r_3 u H locs hw hP hD hS => ?_)
  try dsimp only at hw
  have hP : va_P (dC, dI) vwCl [(o, .inr (0, [.ref o_cells])), (o_cells, .inl (cI, 82, .inl s_cells))] H := hP
  have hD : va_D A [(o, .inr (0, [.ref o_cells])), (o_cells, .inl (cI, 82, .inl s_cells))] := hD
  refine lv_iload_n hx hb dX0_coveredBy_21 rfl (lv_at hl 0 rfl) ?_
  refine lv_imul hx hb dX0_coveredBy_22 ?_
  refine lv_iadd hx hb dX0_coveredBy_23 ?_
  refine lv_istore (lv' := [(4, .int (r_2 + (r_3 * (p1 - r_1)))), (3, .int (p1 - r_1)), (0, .ref o), (1, .int p0), (2, .int p1)]) hx hb dX0_coveredBy_24 hl (by decide) rfl (fun ls hl => ?_)
  refine lv_iload_n hx hb dX0_coveredBy_26 rfl (lv_at hl 1 rfl) ?_
  refine lv_if_ge (tgt := 34) hx hb dX0_coveredBy_27 (by decide) (fun hc => ?_) (fun hc => ?_)
  · have hw := hw.1 hc
    refine lv_iload hx hb dX0_coveredBy_34 (lv_at hl 0 rfl) ?_
    refine lv_aload_n hx hb dX0_coveredBy_36 rfl (lv_at hl 2 rfl) ?_
    refine lv_iload_n hx hb dX0_coveredBy_37 rfl (lv_at hl 3 rfl) ?_
    refine lv_iconst (v := 3) hx hb dX0_coveredBy_38 (by decide) ?_
    refine gc_Vi (As := [.int p0, .int 3]) (rest := [.int (r_2 + (r_3 * (p1 - r_1)))]) (wr := []) ⟨hx, hb, hml, hown, ht⟩ (c_X0_ofBeam l dC dI cI cJ o o_cells H.size s_cells p0 3 _ hw) (cwV 2 ht (g_V k_420 k_409 k_410 k_2 k_411) rfl rfl rfl (by decide +kernel) ⟨(Nat.le_of_ble_eq_true rfl), (Nat.le_of_ble_eq_true rfl)⟩) hK hP hD hS hA [0, 1] [] rfl rfl (by decide) 0 rfl rfl rfl rfl hl.1 rfl (Nat.le_of_ble_eq_true rfl) ⟨(Nat.le_of_ble_eq_true rfl), (Nat.le_of_ble_eq_true rfl)⟩ dX0_coveredBy_39 (fun r_4 u H locs hw hP hD hS => ?_)
    try dsimp only at hw
    have hP : va_P (dC, dI) vwCl [(o, .inr (0, [.ref o_cells])), (o_cells, .inl (cI, 82, .inl s_cells))] H := hP
    have hD : va_D A [(o, .inr (0, [.ref o_cells])), (o_cells, .inl (cI, 82, .inl s_cells))] := hD
    refine gc_Sl (As := [.int (r_2 + (r_3 * (p1 - r_1))), .int r_4]) (rest := []) (wr := [(o, .inr (0, [.ref o_cells])), (o_cells, .inl (cI, 82, .inl s_cells))]) ⟨hx, hb, hml, hown, ht⟩ (c_X0_columnBits l dC dI cI cJ  H.size (r_2 + (r_3 * (p1 - r_1))) r_4 _ hw) (va_cwS 2 ht (g_S k_421 k_422 k_2 k_423) rfl rfl rfl (by decide +kernel) ⟨(Nat.le_of_ble_eq_true rfl), (Nat.le_of_ble_eq_true rfl)⟩) hK hP hD hS hA [] [0, 1] rfl rfl (by decide) rfl hl.1 rfl (Nat.le_of_ble_eq_true rfl) ⟨(Nat.le_of_ble_eq_true rfl), (Nat.le_of_ble_eq_true rfl)⟩ dX0_coveredBy_42 (fun r_5 u H locs hw hP hD hS => ?_)
    try dsimp only at hw
    have hP : va_P (dC, dI) vwCl [(o, .inr (0, [.ref o_cells])), (o_cells, .inl (cI, 82, .inl s_cells))] H := hP
    have hD : va_D A [(o, .inr (0, [.ref o_cells])), (o_cells, .inl (cI, 82, .inl s_cells))] := hD
    rw [← hQQ]
    exact g_retl (v := r_5) (u := ()) hx hb hr hlocks hw hP hK hD hS dX0_coveredBy_45
  · have hw := hw.2 hc
    refine lv_lconst (v := 0) hx hb dX0_coveredBy_30 (by decide) ?_
    refine lv_goto (tgt := 45) hx hb dX0_coveredBy_31 (by decide) ?_
    rw [← hQQ]
    exact g_retl (v := 0) (u := ()) hx hb hr hlocks hw hP hK hD hS dX0_coveredBy_45
abbrev rm_X1_start : Room := { frames := 0, cells := 0, slots := 0, locals := 0 }
set_option maxHeartbeats 4000000 in
set_option maxRecDepth 100000 in
theorem c_X1_start (l : Launch) (dC : Nat → ClassId) (dI : Nat → Nat → Nat) (cI cJ : ClassId) (o o_numbers : Nat) (sz : Nat) (s_inOrder : Int32) (s_kind : Int32) (s_place : Int32) (s_value : Int32) (s_minus : Int32)  (Q : Int32 → Prop) (hw : P_X1_start s_inOrder Q) : Met l yX1_start (Cond.code yX1_start cX1_start 1 none :: TBL) rm_X1_start (gPc (dC, dI) vwCl (gTy cI cJ) [.ref o] [(o, .inr (1, [.ref o_numbers, .int s_kind, .int s_inOrder, .int s_place, .int s_value, .int s_minus]))] sz) (va_Qv (fun (u : Int32) => Q u) (gB (dC, dI) vwCl (gTy cI cJ) (va_A [(o, .inr (1, [.ref o_numbers, .int s_kind, .int s_inOrder, .int s_place, .int s_value, .int s_minus]))] sz) (fun (u : Int32) => [(o, .inr (1, [.ref o_numbers, .int s_kind, .int u, .int s_place, .int s_value, .int s_minus]))])) (va_A [(o, .inr (1, [.ref o_numbers, .int s_kind, .int s_inOrder, .int s_place, .int s_value, .int s_minus]))] sz)) 0 0 (va_A [(o, .inr (1, [.ref o_numbers, .int s_kind, .int s_inOrder, .int s_place, .int s_value, .int s_minus]))] sz) := by
  refine Met.ofW (cc := cX1_start) (maxL := 1) (ret := none) (by decide) rfl ?_
  intro p e s m args below meth c s₁ B hml hv
  obtain ⟨rfl, hsz, hP, hK, hD0⟩ := hv
  have hx := B.exec
  have hb := B.bytes
  have hr := B.returns
  have hts := atoms_spec (ws := Cond.code yX1_start cX1_start 1 none :: TBL) B.pre
  have ht : ∀ w ∈ TBL, w.before ([.ref o] : List Value).toArray s = true := fun w h => hts w (List.mem_cons_of_mem _ h)
  clear hts
  have hown : s.vm.findClass RX1 = some m.cls := findClass_of_methodNamed B.named
  have hlocks := B.notSynchronized
  clear B
  subst hsz
  have hD := hD0.self (sz := s.heap.size)
  clear hD0
  generalize hAe : va_A [(o, .inr (1, [.ref o_numbers, .int s_kind, .int s_inOrder, .int s_place, .int s_value, .int s_minus]))] s.heap.size = A at hD ⊢
  have hA : ∀ q : Nat, s.heap.size ≤ q → A q := fun q h => by rw [← hAe]; exact Or.inr h
  clear hAe
  have hS : va_S A s.heap s.heap [] := va_S.rf
  have hP : va_P (dC, dI) vwCl [(o, .inr (1, [.ref o_numbers, .int s_kind, .int s_inOrder, .int s_place, .int s_value, .int s_minus]))] s.heap := hP
  have hl := lv_entry ([.ref o]) (n := 1) (Nat.le_of_ble_eq_true rfl)
  rw [lg_entry_eq]
  generalize (lg_sl ([.ref o]) ++ List.replicate (1 - (lg_sl ([.ref o])).length) Slot.unset).toArray = ls at hl ⊢
  have hl : lv_has ls 1 [(0, .ref o)] := hl
  generalize hQQ : MQ below _ _ _ 0 0 A = QQ
  show W p l e rm_X1_start s m ([.ref o] : List Value).toArray below meth c s.heap [] 0 0 QQ (F0 m 0 ls [])
  obtain ⟨H, hHH⟩ : ∃ H, H = s.heap := ⟨_, rfl⟩
  rw [← hHH] at hP ⊢
  have hS : va_S A s.heap H [] := by rw [hHH]; exact hS
  clear hHH
  generalize ([] : List Loc) = locs at hS ⊢
  unfold P_X1_start at hw
  refine lv_aload_n hx hb dX1_start_0 rfl (lv_at hl 0 rfl) ?_
  refine lv_iconst (v := 0) hx hb dX1_start_1 (by decide) ?_
  refine va_put (D := (dC, dI)) (ci := 1) (v := .int 0) (ty := .boolean) (C := RX1) (T := TX1) (N := 6) hx hb ht i_X1 tyX1 tyX1_ok nmX1 hown hK hP hD hS 0 rfl rfl 2 (by decide) (ht _ k_79) (fun _ h9 => h9) rfl (by decide +kernel) rfl rfl (Nat.le_of_ble_eq_true rfl) dX1_start_2 (fun H locs hP hD hS => ?_)
  have hP : va_P (dC, dI) vwCl [(o, .inr (1, [.ref o_numbers, .int s_kind, .int 0, .int s_place, .int s_value, .int s_minus]))] H := hP
  have hD : va_D A [(o, .inr (1, [.ref o_numbers, .int s_kind, .int 0, .int s_place, .int s_value, .int s_minus]))] := hD
  rw [← hQQ]
  exact g_retv (u := 0) hx hb hr hlocks hw hP hK hD hS dX1_start_5
abbrev rm_X1_tellsWord : Room := { frames := 0, cells := 0, slots := 0, locals := 0 }
set_option maxHeartbeats 4000000 in
set_option maxRecDepth 100000 in
theorem c_X1_tellsWord (l : Launch) (dC : Nat → ClassId) (dI : Nat → Nat → Nat) (cI cJ : ClassId) (o o_numbers : Nat) (sz : Nat) (s_kind : Int32) (s_inOrder : Int32) (s_place : Int32) (s_value : Int32) (s_minus : Int32)  (Q : Int32 → Prop) (hw : P_X1_tellsWord s_kind Q) : Met l yX1_tellsWord (Cond.code yX1_tellsWord cX1_tellsWord 1 (some .boolean) :: TBL) rm_X1_tellsWord (gPc (dC, dI) vwCl (gTy cI cJ) [.ref o] [(o, .inr (1, [.ref o_numbers, .int s_kind, .int s_inOrder, .int s_place, .int s_value, .int s_minus]))] sz) (va_Qi (fun (r : Int32) (u : Unit) => Q r ) (gB (dC, dI) vwCl (gTy cI cJ) (va_A [(o, .inr (1, [.ref o_numbers, .int s_kind, .int s_inOrder, .int s_place, .int s_value, .int s_minus]))] sz) (fun (u : Unit) => [(o, .inr (1, [.ref o_numbers, .int s_kind, .int s_inOrder, .int s_place, .int s_value, .int s_minus]))])) (va_A [(o, .inr (1, [.ref o_numbers, .int s_kind, .int s_inOrder, .int s_place, .int s_value, .int s_minus]))] sz)) 0 0 (va_A [(o, .inr (1, [.ref o_numbers, .int s_kind, .int s_inOrder, .int s_place, .int s_value, .int s_minus]))] sz) := by
  refine Met.ofW (cc := cX1_tellsWord) (maxL := 1) (ret := (some .boolean)) (by decide) rfl ?_
  intro p e s m args below meth c s₁ B hml hv
  obtain ⟨rfl, hsz, hP, hK, hD0⟩ := hv
  have hx := B.exec
  have hb := B.bytes
  have hr := B.returns
  have hts := atoms_spec (ws := Cond.code yX1_tellsWord cX1_tellsWord 1 (some .boolean) :: TBL) B.pre
  have ht : ∀ w ∈ TBL, w.before ([.ref o] : List Value).toArray s = true := fun w h => hts w (List.mem_cons_of_mem _ h)
  clear hts
  have hown : s.vm.findClass RX1 = some m.cls := findClass_of_methodNamed B.named
  have hlocks := B.notSynchronized
  clear B
  subst hsz
  have hD := hD0.self (sz := s.heap.size)
  clear hD0
  generalize hAe : va_A [(o, .inr (1, [.ref o_numbers, .int s_kind, .int s_inOrder, .int s_place, .int s_value, .int s_minus]))] s.heap.size = A at hD ⊢
  have hA : ∀ q : Nat, s.heap.size ≤ q → A q := fun q h => by rw [← hAe]; exact Or.inr h
  clear hAe
  have hS : va_S A s.heap s.heap [] := va_S.rf
  have hP : va_P (dC, dI) vwCl [(o, .inr (1, [.ref o_numbers, .int s_kind, .int s_inOrder, .int s_place, .int s_value, .int s_minus]))] s.heap := hP
  have hl := lv_entry ([.ref o]) (n := 1) (Nat.le_of_ble_eq_true rfl)
  rw [lg_entry_eq]
  generalize (lg_sl ([.ref o]) ++ List.replicate (1 - (lg_sl ([.ref o])).length) Slot.unset).toArray = ls at hl ⊢
  have hl : lv_has ls 1 [(0, .ref o)] := hl
  generalize hQQ : MQ below _ _ _ 0 0 A = QQ
  show W p l e rm_X1_tellsWord s m ([.ref o] : List Value).toArray below meth c s.heap [] 0 0 QQ (F0 m 0 ls [])
  obtain ⟨H, hHH⟩ : ∃ H, H = s.heap := ⟨_, rfl⟩
  rw [← hHH] at hP ⊢
  have hS : va_S A s.heap H [] := by rw [hHH]; exact hS
  clear hHH
  generalize ([] : List Loc) = locs at hS ⊢
  unfold P_X1_tellsWord at hw
  refine lv_aload_n hx hb dX1_tellsWord_0 rfl (lv_at hl 0 rfl) ?_
  refine va_get (D := (dC, dI)) (ci := 1) (v := .int s_kind) (C := RX1) (T := TX1) (N := 6) hx hb ht i_X1 hown hK hP 0 rfl rfl 1 (by decide) (ht _ k_78) (fun _ h9 => h9) rfl dX1_tellsWord_1 ?_
  refine lv_bipush (v := 119) hx hb dX1_tellsWord_4 (by decide) ?_
  refine lv_icmp_ne (tgt := 13) hx hb dX1_tellsWord_6 (by decide) (fun hc => ?_) (fun hc => ?_)
  · have hw := hw.1 hc
    refine lv_iconst (v := 0) hx hb dX1_tellsWord_13 (by decide) ?_
    rw [← hQQ]
    exact g_reti (v := 0) (u := ()) hx hb hr rfl hlocks hw hP hK hD hS dX1_tellsWord_14
  · have hw := hw.2 hc
    refine lv_iconst (v := 1) hx hb dX1_tellsWord_9 (by decide) ?_
    refine lv_goto (tgt := 14) hx hb dX1_tellsWord_10 (by decide) ?_
    rw [← hQQ]
    exact g_reti (v := 1) (u := ()) hx hb hr rfl hlocks hw hP hK hD hS dX1_tellsWord_14
abbrev rm_X1_number : Room := { frames := 0, cells := 0, slots := 0, locals := 0 }
set_option maxHeartbeats 4000000 in
set_option maxRecDepth 100000 in
theorem c_X1_number (l : Launch) (dC : Nat → ClassId) (dI : Nat → Nat → Nat) (cI cJ : ClassId) (o o_numbers : Nat) (sz : Nat) (s_numbers : Nat → Int32) (s_kind : Int32) (s_inOrder : Int32) (s_place : Int32) (s_value : Int32) (s_minus : Int32) (p0 : Int32) (Q : Int32 → Prop) (hw : P_X1_number p0 s_numbers Q) : Met l yX1_number (Cond.code yX1_number cX1_number 2 (some .int) :: TBL) rm_X1_number (gPc (dC, dI) vwCl (gTy cI cJ) [.ref o, .int p0] [(o, .inr (1, [.ref o_numbers, .int s_kind, .int s_inOrder, .int s_place, .int s_value, .int s_minus])), (o_numbers, .inl (cI, 4, .inl s_numbers))] sz) (va_Qi (fun (r : Int32) (u : Unit) => Q r ) (gB (dC, dI) vwCl (gTy cI cJ) (va_A [(o, .inr (1, [.ref o_numbers, .int s_kind, .int s_inOrder, .int s_place, .int s_value, .int s_minus])), (o_numbers, .inl (cI, 4, .inl s_numbers))] sz) (fun (u : Unit) => [(o, .inr (1, [.ref o_numbers, .int s_kind, .int s_inOrder, .int s_place, .int s_value, .int s_minus])), (o_numbers, .inl (cI, 4, .inl s_numbers))])) (va_A [(o, .inr (1, [.ref o_numbers, .int s_kind, .int s_inOrder, .int s_place, .int s_value, .int s_minus])), (o_numbers, .inl (cI, 4, .inl s_numbers))] sz)) 0 0 (va_A [(o, .inr (1, [.ref o_numbers, .int s_kind, .int s_inOrder, .int s_place, .int s_value, .int s_minus])), (o_numbers, .inl (cI, 4, .inl s_numbers))] sz) := by
  refine Met.ofW (cc := cX1_number) (maxL := 2) (ret := (some .int)) (by decide) rfl ?_
  intro p e s m args below meth c s₁ B hml hv
  obtain ⟨rfl, hsz, hP, hK, hD0⟩ := hv
  have hx := B.exec
  have hb := B.bytes
  have hr := B.returns
  have hts := atoms_spec (ws := Cond.code yX1_number cX1_number 2 (some .int) :: TBL) B.pre
  have ht : ∀ w ∈ TBL, w.before ([.ref o, .int p0] : List Value).toArray s = true := fun w h => hts w (List.mem_cons_of_mem _ h)
  clear hts
  have hown : s.vm.findClass RX1 = some m.cls := findClass_of_methodNamed B.named
  have hlocks := B.notSynchronized
  clear B
  subst hsz
  have hD := hD0.self (sz := s.heap.size)
  clear hD0
  generalize hAe : va_A [(o, .inr (1, [.ref o_numbers, .int s_kind, .int s_inOrder, .int s_place, .int s_value, .int s_minus])), (o_numbers, .inl (cI, 4, .inl s_numbers))] s.heap.size = A at hD ⊢
  have hA : ∀ q : Nat, s.heap.size ≤ q → A q := fun q h => by rw [← hAe]; exact Or.inr h
  clear hAe
  have hS : va_S A s.heap s.heap [] := va_S.rf
  have hP : va_P (dC, dI) vwCl [(o, .inr (1, [.ref o_numbers, .int s_kind, .int s_inOrder, .int s_place, .int s_value, .int s_minus])), (o_numbers, .inl (cI, 4, .inl s_numbers))] s.heap := hP
  have hl := lv_entry ([.ref o, .int p0]) (n := 2) (Nat.le_of_ble_eq_true rfl)
  rw [lg_entry_eq]
  generalize (lg_sl ([.ref o, .int p0]) ++ List.replicate (2 - (lg_sl ([.ref o, .int p0])).length) Slot.unset).toArray = ls at hl ⊢
  have hl : lv_has ls 2 [(0, .ref o), (1, .int p0)] := hl
  generalize hQQ : MQ below _ _ _ 0 0 A = QQ
  show W p l e rm_X1_number s m ([.ref o, .int p0] : List Value).toArray below meth c s.heap [] 0 0 QQ (F0 m 0 ls [])
  obtain ⟨H, hHH⟩ : ∃ H, H = s.heap := ⟨_, rfl⟩
  rw [← hHH] at hP ⊢
  have hS : va_S A s.heap H [] := by rw [hHH]; exact hS
  clear hHH
  generalize ([] : List Loc) = locs at hS ⊢
  unfold P_X1_number at hw
  refine lv_iload_n hx hb dX1_number_0 rfl (lv_at hl 1 rfl) ?_
  refine lv_if_lt (tgt := 22) hx hb dX1_number_1 (by decide) (fun hc => ?_) (fun hc => ?_)
  · have hw := hw.1 hc
    refine lv_iconst (v := (-1)) hx hb dX1_number_22 (by decide) ?_
    rw [← hQQ]
    exact g_reti (v := (-1)) (u := ()) hx hb hr rfl hlocks hw hP hK hD hS dX1_number_23
  · have hw := hw.2 hc
    refine lv_iload_n hx hb dX1_number_4 rfl (lv_at hl 1 rfl) ?_
    refine lv_aload_n hx hb dX1_number_5 rfl (lv_at hl 0 rfl) ?_
    refine va_get (D := (dC, dI)) (ci := 1) (v := .ref o_numbers) (C := RX1) (T := TX1) (N := 6) hx hb ht i_X1 hown hK hP 0 rfl rfl 0 (by decide) (ht _ k_77) (fun _ h9 => h9) rfl dX1_number_6 ?_
    refine va_alen (v := 4) hx hb hK hP 1 0 rfl rfl rfl dX1_number_9 ?_
    refine lv_icmp_ge (tgt := 22) hx hb dX1_number_10 (by decide) (fun hc => ?_) (fun hc => ?_)
    · have hw := hw.1 hc
      refine lv_iconst (v := (-1)) hx hb dX1_number_22 (by decide) ?_
      rw [← hQQ]
      exact g_reti (v := (-1)) (u := ()) hx hb hr rfl hlocks hw hP hK hD hS dX1_number_23
    · have hw := hw.2 hc
      refine lv_aload_n hx hb dX1_number_13 rfl (lv_at hl 0 rfl) ?_
      refine va_get (D := (dC, dI)) (ci := 1) (v := .ref o_numbers) (C := RX1) (T := TX1) (N := 6) hx hb ht i_X1 hown hK hP 0 rfl rfl 0 (by decide) (ht _ k_77) (fun _ h9 => h9) rfl dX1_number_14 ?_
      refine lv_iload_n hx hb dX1_number_17 rfl (lv_at hl 1 rfl) ?_
      obtain ⟨hi_1, hw⟩ := hw
      refine gv_iald hx hb hK hP 1 0 rfl rfl rfl hi_1 dX1_number_18 ?_
      refine lv_goto (tgt := 23) hx hb dX1_number_19 (by decide) ?_
      rw [← hQQ]
      exact g_reti (v := (s_numbers p0.toNatClampNeg)) (u := ()) hx hb hr rfl hlocks hw hP hK hD hS dX1_number_23
abbrev rm_X1_endCode : Room := { frames := 0, cells := 0, slots := 0, locals := 0 }
set_option maxHeartbeats 4000000 in
set_option maxRecDepth 100000 in
theorem c_X1_endCode (l : Launch) (dC : Nat → ClassId) (dI : Nat → Nat → Nat) (cI cJ : ClassId) (z : Nat → Nat) (o o_numbers : Nat) (sz : Nat) (s_kind : Int32) (s_place : Int32) (s_inOrder : Int32) (s_value : Int32) (s_minus : Int32)  (Q : Int32 → Prop) (hw : P_X1_endCode s_kind s_place Q) : Met l yX1_endCode (Cond.code yX1_endCode cX1_endCode 1 (some .int) :: TBL) rm_X1_endCode (gPcE z (dC, dI) vwCl (gTy cI cJ) [.ref o] [(o, .inr (1, [.ref o_numbers, .int s_kind, .int s_inOrder, .int s_place, .int s_value, .int s_minus]))] sz) (va_Qi (fun (r : Int32) (u : Unit) => Q r ) (gB (dC, dI) vwCl (gTy cI cJ) (va_A [(o, .inr (1, [.ref o_numbers, .int s_kind, .int s_inOrder, .int s_place, .int s_value, .int s_minus]))] sz) (fun (u : Unit) => [(o, .inr (1, [.ref o_numbers, .int s_kind, .int s_inOrder, .int s_place, .int s_value, .int s_minus]))])) (va_A [(o, .inr (1, [.ref o_numbers, .int s_kind, .int s_inOrder, .int s_place, .int s_value, .int s_minus]))] sz)) 0 0 (va_A [(o, .inr (1, [.ref o_numbers, .int s_kind, .int s_inOrder, .int s_place, .int s_value, .int s_minus]))] sz) := by
  refine Met.ofW (cc := cX1_endCode) (maxL := 1) (ret := (some .int)) (by decide) rfl ?_
  intro p e s m args below meth c s₁ B hml hv
  obtain ⟨rfl, ⟨hsz, hP, hK, hD0⟩, hE⟩ := hv
  have hx := B.exec
  have hb := B.bytes
  have hr := B.returns
  have hts := atoms_spec (ws := Cond.code yX1_endCode cX1_endCode 1 (some .int) :: TBL) B.pre
  have ht : ∀ w ∈ TBL, w.before ([.ref o] : List Value).toArray s = true := fun w h => hts w (List.mem_cons_of_mem _ h)
  clear hts
  have hown : s.vm.findClass RX1 = some m.cls := findClass_of_methodNamed B.named
  have hlocks := B.notSynchronized
  clear B
  subst hsz
  have hD := hD0.self (sz := s.heap.size)
  clear hD0
  generalize hAe : va_A [(o, .inr (1, [.ref o_numbers, .int s_kind, .int s_inOrder, .int s_place, .int s_value, .int s_minus]))] s.heap.size = A at hD hE ⊢
  have hA : ∀ q : Nat, s.heap.size ≤ q → A q := fun q h => by rw [← hAe]; exact Or.inr h
  clear hAe
  have hS : va_S A s.heap s.heap [] := va_S.rf
  have hP : va_P (dC, dI) vwCl [(o, .inr (1, [.ref o_numbers, .int s_kind, .int s_inOrder, .int s_place, .int s_value, .int s_minus]))] s.heap := hP
  have hl := lv_entry ([.ref o]) (n := 1) (Nat.le_of_ble_eq_true rfl)
  rw [lg_entry_eq]
  generalize (lg_sl ([.ref o]) ++ List.replicate (1 - (lg_sl ([.ref o])).length) Slot.unset).toArray = ls at hl ⊢
  have hl : lv_has ls 1 [(0, .ref o)] := hl
  generalize hQQ : MQ below _ _ _ 0 0 A = QQ
  show W p l e rm_X1_endCode s m ([.ref o] : List Value).toArray below meth c s.heap [] 0 0 QQ (F0 m 0 ls [])
  obtain ⟨H, hHH⟩ : ∃ H, H = s.heap := ⟨_, rfl⟩
  rw [← hHH] at hP ⊢
  have hS : va_S A s.heap H [] := by rw [hHH]; exact hS
  clear hHH
  generalize ([] : List Loc) = locs at hS ⊢
  unfold P_X1_endCode at hw
  refine lv_aload_n hx hb dX1_endCode_0 rfl (lv_at hl 0 rfl) ?_
  refine va_get (D := (dC, dI)) (ci := 1) (v := .int s_kind) (C := RX1) (T := TX1) (N := 6) hx hb ht i_X1 hown hK hP 0 rfl rfl 1 (by decide) (ht _ k_78) (fun _ h9 => h9) rfl dX1_endCode_1 ?_
  refine lv_bipush (v := 119) hx hb dX1_endCode_4 (by decide) ?_
  refine lv_icmp_ne (tgt := 40) hx hb dX1_endCode_6 (by decide) (fun hc => ?_) (fun hc => ?_)
  · have hw := hw.1 hc
    refine lv_aload_n hx hb dX1_endCode_40 rfl (lv_at hl 0 rfl) ?_
    refine va_get (D := (dC, dI)) (ci := 1) (v := .int s_place) (C := RX1) (T := TX1) (N := 6) hx hb ht i_X1 hown hK hP 0 rfl rfl 3 (by decide) (ht _ k_80) (fun _ h9 => h9) rfl dX1_endCode_41 ?_
    refine lv_if_lt (tgt := 69) hx hb dX1_endCode_44 (by decide) (fun hc => ?_) (fun hc => ?_)
    · have hw := hw.1 hc
      refine lv_iconst (v := (-1)) hx hb dX1_endCode_69 (by decide) ?_
      rw [← hQQ]
      exact g_reti (v := (-1)) (u := ()) hx hb hr rfl hlocks hw hP hK hD hS dX1_endCode_70
    · have hw := hw.2 hc
      refine lv_aload_n hx hb dX1_endCode_47 rfl (lv_at hl 0 rfl) ?_
      refine va_get (D := (dC, dI)) (ci := 1) (v := .int s_place) (C := RX1) (T := TX1) (N := 6) hx hb ht i_X1 hown hK hP 0 rfl rfl 3 (by decide) (ht _ k_80) (fun _ h9 => h9) rfl dX1_endCode_48 ?_
      refine va_gets (v := .ref (z 3)) hx hb hE.1.2.2.2.1 hS hown (ht _ k_175) (fun _ h9 => h9) dX1_endCode_51 ?_
      refine va_tlen (v := 3) hx hb hE.1.2.2.2.2 hS rfl dX1_endCode_54 ?_
      refine lv_icmp_ge (tgt := 69) hx hb dX1_endCode_55 (by decide) (fun hc => ?_) (fun hc => ?_)
      · have hw := hw.1 hc
        refine lv_iconst (v := (-1)) hx hb dX1_endCode_69 (by decide) ?_
        rw [← hQQ]
        exact g_reti (v := (-1)) (u := ()) hx hb hr rfl hlocks hw hP hK hD hS dX1_endCode_70
      · have hw := hw.2 hc
        refine va_gets (v := .ref (z 3)) hx hb hE.1.2.2.2.1 hS hown (ht _ k_175) (fun _ h9 => h9) dX1_endCode_58 ?_
        refine lv_aload_n hx hb dX1_endCode_61 rfl (lv_at hl 0 rfl) ?_
        refine va_get (D := (dC, dI)) (ci := 1) (v := .int s_place) (C := RX1) (T := TX1) (N := 6) hx hb ht i_X1 hown hK hP 0 rfl rfl 3 (by decide) (ht _ k_80) (fun _ h9 => h9) rfl dX1_endCode_62 ?_
        obtain ⟨hi_1, hw⟩ := hw
        refine va_tc (v := .int (tBE s_place.toNatClampNeg)) hx hb hE.1.2.2.2.2 hS hi_1 rfl dX1_endCode_65 ?_
        refine lv_goto (tgt := 70) hx hb dX1_endCode_66 (by decide) ?_
        rw [← hQQ]
        exact g_reti (v := (tBE s_place.toNatClampNeg)) (u := ()) hx hb hr rfl hlocks hw hP hK hD hS dX1_endCode_70
  · have hw := hw.2 hc
    refine lv_aload_n hx hb dX1_endCode_9 rfl (lv_at hl 0 rfl) ?_
    refine va_get (D := (dC, dI)) (ci := 1) (v := .int s_place) (C := RX1) (T := TX1) (N := 6) hx hb ht i_X1 hown hK hP 0 rfl rfl 3 (by decide) (ht _ k_80) (fun _ h9 => h9) rfl dX1_endCode_10 ?_
    refine lv_if_lt (tgt := 38) hx hb dX1_endCode_13 (by decide) (fun hc => ?_) (fun hc => ?_)
    · have hw := hw.1 hc
      refine lv_iconst (v := (-1)) hx hb dX1_endCode_38 (by decide) ?_
      rw [← hQQ]
      exact g_reti (v := (-1)) (u := ()) hx hb hr rfl hlocks hw hP hK hD hS dX1_endCode_39
    · have hw := hw.2 hc
      refine lv_aload_n hx hb dX1_endCode_16 rfl (lv_at hl 0 rfl) ?_
      refine va_get (D := (dC, dI)) (ci := 1) (v := .int s_place) (C := RX1) (T := TX1) (N := 6) hx hb ht i_X1 hown hK hP 0 rfl rfl 3 (by decide) (ht _ k_80) (fun _ h9 => h9) rfl dX1_endCode_17 ?_
      refine va_gets (v := .ref (z 1)) hx hb hE.1.2.1.1 hS hown (ht _ k_173) (fun _ h9 => h9) dX1_endCode_20 ?_
      refine va_tlen (v := 4) hx hb hE.1.2.1.2 hS rfl dX1_endCode_23 ?_
      refine lv_icmp_ge (tgt := 38) hx hb dX1_endCode_24 (by decide) (fun hc => ?_) (fun hc => ?_)
      · have hw := hw.1 hc
        refine lv_iconst (v := (-1)) hx hb dX1_endCode_38 (by decide) ?_
        rw [← hQQ]
        exact g_reti (v := (-1)) (u := ()) hx hb hr rfl hlocks hw hP hK hD hS dX1_endCode_39
      · have hw := hw.2 hc
        refine va_gets (v := .ref (z 1)) hx hb hE.1.2.1.1 hS hown (ht _ k_173) (fun _ h9 => h9) dX1_endCode_27 ?_
        refine lv_aload_n hx hb dX1_endCode_30 rfl (lv_at hl 0 rfl) ?_
        refine va_get (D := (dC, dI)) (ci := 1) (v := .int s_place) (C := RX1) (T := TX1) (N := 6) hx hb ht i_X1 hown hK hP 0 rfl rfl 3 (by decide) (ht _ k_80) (fun _ h9 => h9) rfl dX1_endCode_31 ?_
        obtain ⟨hi_2, hw⟩ := hw
        refine va_tc (v := .int (tWE s_place.toNatClampNeg)) hx hb hE.1.2.1.2 hS hi_2 rfl dX1_endCode_34 ?_
        refine lv_goto (tgt := 39) hx hb dX1_endCode_35 (by decide) ?_
        rw [← hQQ]
        exact g_reti (v := (tWE s_place.toNatClampNeg)) (u := ()) hx hb hr rfl hlocks hw hP hK hD hS dX1_endCode_39
abbrev rm_X1_startNumber : Room := { frames := 0, cells := 0, slots := 0, locals := 0 }
set_option maxHeartbeats 4000000 in
set_option maxRecDepth 100000 in
theorem c_X1_startNumber (l : Launch) (dC : Nat → ClassId) (dI : Nat → Nat → Nat) (cI cJ : ClassId) (o o_numbers : Nat) (sz : Nat) (s_value : Int32) (s_minus : Int32) (s_kind : Int32) (s_inOrder : Int32) (s_place : Int32)  (Q : Int32 → Int32 → Prop) (hw : P_X1_startNumber s_value s_minus Q) : Met l yX1_startNumber (Cond.code yX1_startNumber cX1_startNumber 1 none :: TBL) rm_X1_startNumber (gPc (dC, dI) vwCl (gTy cI cJ) [.ref o] [(o, .inr (1, [.ref o_numbers, .int s_kind, .int s_inOrder, .int s_place, .int s_value, .int s_minus]))] sz) (va_Qv (fun (u : Int32 × Int32) => Q u.1 u.2) (gB (dC, dI) vwCl (gTy cI cJ) (va_A [(o, .inr (1, [.ref o_numbers, .int s_kind, .int s_inOrder, .int s_place, .int s_value, .int s_minus]))] sz) (fun (u : Int32 × Int32) => [(o, .inr (1, [.ref o_numbers, .int s_kind, .int s_inOrder, .int s_place, .int u.1, .int u.2]))])) (va_A [(o, .inr (1, [.ref o_numbers, .int s_kind, .int s_inOrder, .int s_place, .int s_value, .int s_minus]))] sz)) 0 0 (va_A [(o, .inr (1, [.ref o_numbers, .int s_kind, .int s_inOrder, .int s_place, .int s_value, .int s_minus]))] sz) := by
  refine Met.ofW (cc := cX1_startNumber) (maxL := 1) (ret := none) (by decide) rfl ?_
  intro p e s m args below meth c s₁ B hml hv
  obtain ⟨rfl, hsz, hP, hK, hD0⟩ := hv
  have hx := B.exec
  have hb := B.bytes
  have hr := B.returns
  have hts := atoms_spec (ws := Cond.code yX1_startNumber cX1_startNumber 1 none :: TBL) B.pre
  have ht : ∀ w ∈ TBL, w.before ([.ref o] : List Value).toArray s = true := fun w h => hts w (List.mem_cons_of_mem _ h)
  clear hts
  have hown : s.vm.findClass RX1 = some m.cls := findClass_of_methodNamed B.named
  have hlocks := B.notSynchronized
  clear B
  subst hsz
  have hD := hD0.self (sz := s.heap.size)
  clear hD0
  generalize hAe : va_A [(o, .inr (1, [.ref o_numbers, .int s_kind, .int s_inOrder, .int s_place, .int s_value, .int s_minus]))] s.heap.size = A at hD ⊢
  have hA : ∀ q : Nat, s.heap.size ≤ q → A q := fun q h => by rw [← hAe]; exact Or.inr h
  clear hAe
  have hS : va_S A s.heap s.heap [] := va_S.rf
  have hP : va_P (dC, dI) vwCl [(o, .inr (1, [.ref o_numbers, .int s_kind, .int s_inOrder, .int s_place, .int s_value, .int s_minus]))] s.heap := hP
  have hl := lv_entry ([.ref o]) (n := 1) (Nat.le_of_ble_eq_true rfl)
  rw [lg_entry_eq]
  generalize (lg_sl ([.ref o]) ++ List.replicate (1 - (lg_sl ([.ref o])).length) Slot.unset).toArray = ls at hl ⊢
  have hl : lv_has ls 1 [(0, .ref o)] := hl
  generalize hQQ : MQ below _ _ _ 0 0 A = QQ
  show W p l e rm_X1_startNumber s m ([.ref o] : List Value).toArray below meth c s.heap [] 0 0 QQ (F0 m 0 ls [])
  obtain ⟨H, hHH⟩ : ∃ H, H = s.heap := ⟨_, rfl⟩
  rw [← hHH] at hP ⊢
  have hS : va_S A s.heap H [] := by rw [hHH]; exact hS
  clear hHH
  generalize ([] : List Loc) = locs at hS ⊢
  unfold P_X1_startNumber at hw
  refine lv_aload_n hx hb dX1_startNumber_0 rfl (lv_at hl 0 rfl) ?_
  refine lv_iconst (v := (-1)) hx hb dX1_startNumber_1 (by decide) ?_
  refine va_put (D := (dC, dI)) (ci := 1) (v := .int (-1)) (ty := .int) (C := RX1) (T := TX1) (N := 6) hx hb ht i_X1 tyX1 tyX1_ok nmX1 hown hK hP hD hS 0 rfl rfl 4 (by decide) (ht _ k_81) (fun _ h9 => h9) rfl (by decide +kernel) rfl rfl (Nat.le_of_ble_eq_true rfl) dX1_startNumber_2 (fun H locs hP hD hS => ?_)
  have hP : va_P (dC, dI) vwCl [(o, .inr (1, [.ref o_numbers, .int s_kind, .int s_inOrder, .int s_place, .int (-1), .int s_minus]))] H := hP
  have hD : va_D A [(o, .inr (1, [.ref o_numbers, .int s_kind, .int s_inOrder, .int s_place, .int (-1), .int s_minus]))] := hD
  refine lv_aload_n hx hb dX1_startNumber_5 rfl (lv_at hl 0 rfl) ?_
  refine lv_iconst (v := 0) hx hb dX1_startNumber_6 (by decide) ?_
  refine va_put (D := (dC, dI)) (ci := 1) (v := .int 0) (ty := .boolean) (C := RX1) (T := TX1) (N := 6) hx hb ht i_X1 tyX1 tyX1_ok nmX1 hown hK hP hD hS 0 rfl rfl 5 (by decide) (ht _ k_82) (fun _ h9 => h9) rfl (by decide +kernel) rfl rfl (Nat.le_of_ble_eq_true rfl) dX1_startNumber_7 (fun H locs hP hD hS => ?_)
  have hP : va_P (dC, dI) vwCl [(o, .inr (1, [.ref o_numbers, .int s_kind, .int s_inOrder, .int s_place, .int (-1), .int 0]))] H := hP
  have hD : va_D A [(o, .inr (1, [.ref o_numbers, .int s_kind, .int s_inOrder, .int s_place, .int (-1), .int 0]))] := hD
  rw [← hQQ]
  exact g_retv (u := ((-1), 0)) hx hb hr hlocks hw hP hK hD hS dX1_startNumber_10
abbrev rm_X1_endNumber : Room := { frames := 1, cells := 0, slots := 0, locals := 20 }
set_option maxHeartbeats 4000000 in
set_option maxRecDepth 100000 in
theorem c_X1_endNumber (l : Launch) (dC : Nat → ClassId) (dI : Nat → Nat → Nat) (cI cJ : ClassId) (z : Nat → Nat) (o o_numbers : Nat) (sz : Nat) (s_numbers : Nat → Int32) (s_kind : Int32) (s_inOrder : Int32) (s_place : Int32) (s_value : Int32) (s_minus : Int32)  (Q : Int32 → (Nat → Int32) → Int32 → Int32 → Int32 → Int32 → Prop) (hw : P_X1_endNumber s_numbers s_kind s_inOrder s_place s_value s_minus Q) : Met l yX1_endNumber (Cond.code yX1_endNumber cX1_endNumber 2 (some .int) :: TBL) rm_X1_endNumber (gPcE z (dC, dI) vwCl (gTy cI cJ) [.ref o] [(o, .inr (1, [.ref o_numbers, .int s_kind, .int s_inOrder, .int s_place, .int s_value, .int s_minus])), (o_numbers, .inl (cI, 4, .inl s_numbers))] sz) (va_Qi (fun (r : Int32) (u : (Nat → Int32) × Int32 × Int32 × Int32 × Int32) => Q r u.1 u.2.1 u.2.2.1 u.2.2.2.1 u.2.2.2.2) (gB (dC, dI) vwCl (gTy cI cJ) (va_A [(o, .inr (1, [.ref o_numbers, .int s_kind, .int s_inOrder, .int s_place, .int s_value, .int s_minus])), (o_numbers, .inl (cI, 4, .inl s_numbers))] sz) (fun (u : (Nat → Int32) × Int32 × Int32 × Int32 × Int32) => [(o, .inr (1, [.ref o_numbers, .int s_kind, .int u.2.1, .int u.2.2.1, .int u.2.2.2.1, .int u.2.2.2.2])), (o_numbers, .inl (cI, 4, .inl u.1))])) (va_A [(o, .inr (1, [.ref o_numbers, .int s_kind, .int s_inOrder, .int s_place, .int s_value, .int s_minus])), (o_numbers, .inl (cI, 4, .inl s_numbers))] sz)) 0 0 (va_A [(o, .inr (1, [.ref o_numbers, .int s_kind, .int s_inOrder, .int s_place, .int s_value, .int s_minus])), (o_numbers, .inl (cI, 4, .inl s_numbers))] sz) := by
  refine Met.ofW (cc := cX1_endNumber) (maxL := 2) (ret := (some .int)) (by decide) rfl ?_
  intro p e s m args below meth c s₁ B hml hv
  obtain ⟨rfl, ⟨hsz, hP, hK, hD0⟩, hE⟩ := hv
  have hx := B.exec
  have hb := B.bytes
  have hr := B.returns
  have hts := atoms_spec (ws := Cond.code yX1_endNumber cX1_endNumber 2 (some .int) :: TBL) B.pre
  have ht : ∀ w ∈ TBL, w.before ([.ref o] : List Value).toArray s = true := fun w h => hts w (List.mem_cons_of_mem _ h)
  clear hts
  have hown : s.vm.findClass RX1 = some m.cls := findClass_of_methodNamed B.named
  have hlocks := B.notSynchronized
  clear B
  subst hsz
  have hD := hD0.self (sz := s.heap.size)
  clear hD0
  generalize hAe : va_A [(o, .inr (1, [.ref o_numbers, .int s_kind, .int s_inOrder, .int s_place, .int s_value, .int s_minus])), (o_numbers, .inl (cI, 4, .inl s_numbers))] s.heap.size = A at hD hE ⊢
  have hA : ∀ q : Nat, s.heap.size ≤ q → A q := fun q h => by rw [← hAe]; exact Or.inr h
  clear hAe
  have hS : va_S A s.heap s.heap [] := va_S.rf
  have hP : va_P (dC, dI) vwCl [(o, .inr (1, [.ref o_numbers, .int s_kind, .int s_inOrder, .int s_place, .int s_value, .int s_minus])), (o_numbers, .inl (cI, 4, .inl s_numbers))] s.heap := hP
  have hl := lv_entry ([.ref o]) (n := 2) (Nat.le_of_ble_eq_true rfl)
  rw [lg_entry_eq]
  generalize (lg_sl ([.ref o]) ++ List.replicate (2 - (lg_sl ([.ref o])).length) Slot.unset).toArray = ls at hl ⊢
  have hl : lv_has ls 2 [(0, .ref o)] := hl
  generalize hQQ : MQ below _ _ _ 0 0 A = QQ
  show W p l e rm_X1_endNumber s m ([.ref o] : List Value).toArray below meth c s.heap [] 0 0 QQ (F0 m 0 ls [])
  have J72 : ∀ (x1 : Int32) (t0 : Int32) (s_numbers : Nat → Int32), P_X1_endNumber_J72 s_place s_value s_minus Q x1 t0 s_numbers → ∀ (H : Heap) (locs : List Loc) (ls : Array Slot), va_P (dC, dI) vwCl [(o, .inr (1, [.ref o_numbers, .int s_kind, .int s_inOrder, .int s_place, .int s_value, .int s_minus])), (o_numbers, .inl (cI, 4, .inl s_numbers))] H → va_D A [(o, .inr (1, [.ref o_numbers, .int s_kind, .int s_inOrder, .int s_place, .int s_value, .int s_minus])), (o_numbers, .inl (cI, 4, .inl s_numbers))] → va_S A s.heap H locs → lv_has ls 2 [(0, .ref o), (1, .int x1)] → W p l e rm_X1_endNumber s m ([.ref o] : List Value).toArray below meth c H locs 0 0 QQ (F0 m 72 ls [.int t0, .ref o]) := by
    intro x1 t0 s_numbers hw H locs ls hP hD hS hl
    unfold P_X1_endNumber_J72 at hw
    obtain ⟨⟨hb_1, hb_2⟩, hw⟩ := hw
    refine va_put (D := (dC, dI)) (ci := 1) (v := .int t0) (ty := .boolean) (C := RX1) (T := TX1) (N := 6) hx hb ht i_X1 tyX1 tyX1_ok nmX1 hown hK hP hD hS 0 rfl rfl 2 (by decide) (ht _ k_79) (fun _ h9 => h9) rfl (by decide +kernel) hb_1 hb_2 (Nat.le_of_ble_eq_true rfl) dX1_endNumber_72 (fun H locs hP hD hS => ?_)
    have hP : va_P (dC, dI) vwCl [(o, .inr (1, [.ref o_numbers, .int s_kind, .int t0, .int s_place, .int s_value, .int s_minus])), (o_numbers, .inl (cI, 4, .inl s_numbers))] H := hP
    have hD : va_D A [(o, .inr (1, [.ref o_numbers, .int s_kind, .int t0, .int s_place, .int s_value, .int s_minus])), (o_numbers, .inl (cI, 4, .inl s_numbers))] := hD
    refine lv_aload_n hx hb dX1_endNumber_75 rfl (lv_at hl 0 rfl) ?_
    refine lv_dup hx hb dX1_endNumber_76 rfl ?_
    refine va_get (D := (dC, dI)) (ci := 1) (v := .int s_place) (C := RX1) (T := TX1) (N := 6) hx hb ht i_X1 hown hK hP 0 rfl rfl 3 (by decide) (ht _ k_80) (fun _ h9 => h9) rfl dX1_endNumber_77 ?_
    refine lv_iconst (v := 1) hx hb dX1_endNumber_80 (by decide) ?_
    refine lv_iadd hx hb dX1_endNumber_81 ?_
    refine va_put (D := (dC, dI)) (ci := 1) (v := .int (s_place + 1)) (ty := .int) (C := RX1) (T := TX1) (N := 6) hx hb ht i_X1 tyX1 tyX1_ok nmX1 hown hK hP hD hS 0 rfl rfl 3 (by decide) (ht _ k_80) (fun _ h9 => h9) rfl (by decide +kernel) rfl rfl (Nat.le_of_ble_eq_true rfl) dX1_endNumber_82 (fun H locs hP hD hS => ?_)
    have hP : va_P (dC, dI) vwCl [(o, .inr (1, [.ref o_numbers, .int s_kind, .int t0, .int (s_place + 1), .int s_value, .int s_minus])), (o_numbers, .inl (cI, 4, .inl s_numbers))] H := hP
    have hD : va_D A [(o, .inr (1, [.ref o_numbers, .int s_kind, .int t0, .int (s_place + 1), .int s_value, .int s_minus])), (o_numbers, .inl (cI, 4, .inl s_numbers))] := hD
    refine lv_aload_n hx hb dX1_endNumber_85 rfl (lv_at hl 0 rfl) ?_
    refine gc_Vv (As := []) (rest := []) (wr := [(o_numbers, .inl (cI, 4, .inl s_numbers))]) ⟨hx, hb, hml, hown, ht⟩ (c_X1_startNumber l dC dI cI cJ o o_numbers H.size s_value s_minus s_kind t0 (s_place + 1) _ hw) (cwV 0 ht (g_V k_145 k_147 k_s2 k_4 k_148) rfl rfl rfl (by decide +kernel) ⟨(Nat.le_of_ble_eq_true rfl), (Nat.le_of_ble_eq_true rfl)⟩) hK hP hD hS hA [0] [1] rfl rfl (by decide) 0 rfl rfl rfl rfl hl.1 rfl (Nat.le_of_ble_eq_true rfl) ⟨(Nat.le_of_ble_eq_true rfl), (Nat.le_of_ble_eq_true rfl)⟩ dX1_endNumber_86 (fun u H locs hw hP hD hS => ?_)
    obtain ⟨s_value_3, s_minus_4⟩ := u
    try dsimp only at hw
    have hP : va_P (dC, dI) vwCl [(o_numbers, .inl (cI, 4, .inl s_numbers)), (o, .inr (1, [.ref o_numbers, .int s_kind, .int t0, .int (s_place + 1), .int s_value_3, .int s_minus_4]))] H := hP
    have hD : va_D A [(o_numbers, .inl (cI, 4, .inl s_numbers)), (o, .inr (1, [.ref o_numbers, .int s_kind, .int t0, .int (s_place + 1), .int s_value_3, .int s_minus_4]))] := hD
    refine lv_iload_n hx hb dX1_endNumber_89 rfl (lv_at hl 1 rfl) ?_
    refine lv_if_eq (tgt := 97) hx hb dX1_endNumber_90 (by decide) (fun hc => ?_) (fun hc => ?_)
    · have hw := hw.1 hc
      refine lv_iconst (v := 1) hx hb dX1_endNumber_97 (by decide) ?_
      rw [← hQQ]
      exact g_reti (v := 1) (u := (s_numbers, t0, (s_place + 1), s_value_3, s_minus_4)) hx hb hr rfl hlocks hw (hP.sub (ws' := [(o, .inr (1, [.ref o_numbers, .int s_kind, .int t0, .int (s_place + 1), .int s_value_3, .int s_minus_4])), (o_numbers, .inl (cI, 4, .inl s_numbers))]) [1, 0] rfl) hK (hD.sub (ws' := [(o, .inr (1, [.ref o_numbers, .int s_kind, .int t0, .int (s_place + 1), .int s_value_3, .int s_minus_4])), (o_numbers, .inl (cI, 4, .inl s_numbers))]) [1, 0] (by decide) rfl) hS dX1_endNumber_98
    · have hw := hw.2 hc
      refine lv_iconst (v := 2) hx hb dX1_endNumber_93 (by decide) ?_
      refine lv_goto (tgt := 98) hx hb dX1_endNumber_94 (by decide) ?_
      rw [← hQQ]
      exact g_reti (v := 2) (u := (s_numbers, t0, (s_place + 1), s_value_3, s_minus_4)) hx hb hr rfl hlocks hw (hP.sub (ws' := [(o, .inr (1, [.ref o_numbers, .int s_kind, .int t0, .int (s_place + 1), .int s_value_3, .int s_minus_4])), (o_numbers, .inl (cI, 4, .inl s_numbers))]) [1, 0] rfl) hK (hD.sub (ws' := [(o, .inr (1, [.ref o_numbers, .int s_kind, .int t0, .int (s_place + 1), .int s_value_3, .int s_minus_4])), (o_numbers, .inl (cI, 4, .inl s_numbers))]) [1, 0] (by decide) rfl) hS dX1_endNumber_98
  have J61 : ∀ (t0 : Int32) (s_numbers : Nat → Int32), P_X1_endNumber_J61 s_place s_value s_minus Q t0 s_numbers → ∀ (H : Heap) (locs : List Loc) (ls : Array Slot), va_P (dC, dI) vwCl [(o, .inr (1, [.ref o_numbers, .int s_kind, .int s_inOrder, .int s_place, .int s_value, .int s_minus])), (o_numbers, .inl (cI, 4, .inl s_numbers))] H → va_D A [(o, .inr (1, [.ref o_numbers, .int s_kind, .int s_inOrder, .int s_place, .int s_value, .int s_minus])), (o_numbers, .inl (cI, 4, .inl s_numbers))] → va_S A s.heap H locs → lv_has ls 2 [(0, .ref o)] → W p l e rm_X1_endNumber s m ([.ref o] : List Value).toArray below meth c H locs 0 0 QQ (F0 m 61 ls [.int t0]) := by
    intro t0 s_numbers hw H locs ls hP hD hS hl
    unfold P_X1_endNumber_J61 at hw
    refine lv_istore_n (lv' := [(1, .int t0), (0, .ref o)]) hx hb dX1_endNumber_61 rfl hl (by decide) rfl (fun ls hl => ?_)
    refine lv_aload_n hx hb dX1_endNumber_62 rfl (lv_at hl 1 rfl) ?_
    refine lv_iload_n hx hb dX1_endNumber_63 rfl (lv_at hl 0 rfl) ?_
    refine lv_if_ne (tgt := 71) hx hb dX1_endNumber_64 (by decide) (fun hc => ?_) (fun hc => ?_)
    · have hw := hw.1 hc
      refine lv_iconst (v := 0) hx hb dX1_endNumber_71 (by decide) ?_
      exact J72 t0 0 s_numbers hw H locs ls hP hD hS (lv_sub (l' := [(0, .ref o), (1, .int t0)]) hl [1, 0] rfl)
    · have hw := hw.2 hc
      refine lv_iconst (v := 1) hx hb dX1_endNumber_67 (by decide) ?_
      refine lv_goto (tgt := 72) hx hb dX1_endNumber_68 (by decide) ?_
      exact J72 t0 1 s_numbers hw H locs ls hP hD hS (lv_sub (l' := [(0, .ref o), (1, .int t0)]) hl [1, 0] rfl)
  have J47 : ∀ (s_numbers : Nat → Int32), P_X1_endNumber_J47 s_kind s_place s_value s_minus Q s_numbers → ∀ (H : Heap) (locs : List Loc) (ls : Array Slot), va_P (dC, dI) vwCl [(o, .inr (1, [.ref o_numbers, .int s_kind, .int s_inOrder, .int s_place, .int s_value, .int s_minus])), (o_numbers, .inl (cI, 4, .inl s_numbers))] H → va_D A [(o, .inr (1, [.ref o_numbers, .int s_kind, .int s_inOrder, .int s_place, .int s_value, .int s_minus])), (o_numbers, .inl (cI, 4, .inl s_numbers))] → va_S A s.heap H locs → lv_has ls 2 [(0, .ref o)] → W p l e rm_X1_endNumber s m ([.ref o] : List Value).toArray below meth c H locs 0 0 QQ (F0 m 47 ls []) := by
    intro s_numbers hw H locs ls hP hD hS hl
    unfold P_X1_endNumber_J47 at hw
    refine lv_aload_n hx hb dX1_endNumber_47 rfl (lv_at hl 0 rfl) ?_
    refine gcE_Vi (As := []) (rest := []) (wr := [(o_numbers, .inl (cI, 4, .inl s_numbers))]) ⟨hx, hb, hml, hown, ht⟩ (c_X1_endCode l dC dI cI cJ z o o_numbers H.size s_kind s_place s_inOrder s_value s_minus _ hw) (cwV 0 ht (g_V k_169 k_171 k_s7 k_4 k_172) rfl rfl rfl (by decide +kernel) ⟨(Nat.le_of_ble_eq_true rfl), (Nat.le_of_ble_eq_true rfl)⟩) hK hP hD hS hA hE [0] [1] rfl rfl (by decide) 0 rfl rfl rfl rfl hl.1 rfl (Nat.le_of_ble_eq_true rfl) ⟨(Nat.le_of_ble_eq_true rfl), (Nat.le_of_ble_eq_true rfl)⟩ dX1_endNumber_48 (fun r_5 u H locs hw hP hD hS => ?_)
    try dsimp only at hw
    have hP : va_P (dC, dI) vwCl [(o_numbers, .inl (cI, 4, .inl s_numbers)), (o, .inr (1, [.ref o_numbers, .int s_kind, .int s_inOrder, .int s_place, .int s_value, .int s_minus]))] H := hP
    have hD : va_D A [(o_numbers, .inl (cI, 4, .inl s_numbers)), (o, .inr (1, [.ref o_numbers, .int s_kind, .int s_inOrder, .int s_place, .int s_value, .int s_minus]))] := hD
    refine lv_bipush (v := 59) hx hb dX1_endNumber_51 (by decide) ?_
    refine lv_icmp_ne (tgt := 60) hx hb dX1_endNumber_53 (by decide) (fun hc => ?_) (fun hc => ?_)
    · have hw := hw.1 hc
      refine lv_iconst (v := 0) hx hb dX1_endNumber_60 (by decide) ?_
      exact J61 0 s_numbers hw H locs ls (hP.sub (ws' := [(o, .inr (1, [.ref o_numbers, .int s_kind, .int s_inOrder, .int s_place, .int s_value, .int s_minus])), (o_numbers, .inl (cI, 4, .inl s_numbers))]) [1, 0] rfl) (hD.sub (ws' := [(o, .inr (1, [.ref o_numbers, .int s_kind, .int s_inOrder, .int s_place, .int s_value, .int s_minus])), (o_numbers, .inl (cI, 4, .inl s_numbers))]) [1, 0] (by decide) rfl) hS hl
    · have hw := hw.2 hc
      refine lv_iconst (v := 1) hx hb dX1_endNumber_56 (by decide) ?_
      refine lv_goto (tgt := 61) hx hb dX1_endNumber_57 (by decide) ?_
      exact J61 1 s_numbers hw H locs ls (hP.sub (ws' := [(o, .inr (1, [.ref o_numbers, .int s_kind, .int s_inOrder, .int s_place, .int s_value, .int s_minus])), (o_numbers, .inl (cI, 4, .inl s_numbers))]) [1, 0] rfl) (hD.sub (ws' := [(o, .inr (1, [.ref o_numbers, .int s_kind, .int s_inOrder, .int s_place, .int s_value, .int s_minus])), (o_numbers, .inl (cI, 4, .inl s_numbers))]) [1, 0] (by decide) rfl) hS hl
  have J46 : ∀ (t0 : Int32) (t1 : Int32), P_X1_endNumber_J46 s_numbers s_kind s_place s_value s_minus Q t0 t1 → ∀ (H : Heap) (locs : List Loc) (ls : Array Slot), va_P (dC, dI) vwCl [(o, .inr (1, [.ref o_numbers, .int s_kind, .int s_inOrder, .int s_place, .int s_value, .int s_minus])), (o_numbers, .inl (cI, 4, .inl s_numbers))] H → va_D A [(o, .inr (1, [.ref o_numbers, .int s_kind, .int s_inOrder, .int s_place, .int s_value, .int s_minus])), (o_numbers, .inl (cI, 4, .inl s_numbers))] → va_S A s.heap H locs → lv_has ls 2 [(0, .ref o)] → W p l e rm_X1_endNumber s m ([.ref o] : List Value).toArray below meth c H locs 0 0 QQ (F0 m 46 ls [.int t0, .int t1, .ref o_numbers]) := by
    intro t0 t1 hw H locs ls hP hD hS hl
    unfold P_X1_endNumber_J46 at hw
    obtain ⟨hi_6, hw⟩ := hw
    refine gv_iast hx hb hK hP hD hS 1 0 rfl rfl rfl hi_6 dX1_endNumber_46 (fun H locs hP hD hS => ?_)
    have hP : va_P (dC, dI) vwCl [(o, .inr (1, [.ref o_numbers, .int s_kind, .int s_inOrder, .int s_place, .int s_value, .int s_minus])), (o_numbers, .inl (cI, 4, .inl (upd s_numbers t1.toNatClampNeg t0)))] H := hP
    have hD : va_D A [(o, .inr (1, [.ref o_numbers, .int s_kind, .int s_inOrder, .int s_place, .int s_value, .int s_minus])), (o_numbers, .inl (cI, 4, .inl (upd s_numbers t1.toNatClampNeg t0)))] := hD
    exact J47 (upd s_numbers t1.toNatClampNeg t0) hw H locs ls hP hD hS hl
  obtain ⟨H, hHH⟩ : ∃ H, H = s.heap := ⟨_, rfl⟩
  rw [← hHH] at hP ⊢
  have hS : va_S A s.heap H [] := by rw [hHH]; exact hS
  clear hHH
  generalize ([] : List Loc) = locs at hS ⊢
  unfold P_X1_endNumber at hw
  refine lv_aload_n hx hb dX1_endNumber_0 rfl (lv_at hl 0 rfl) ?_
  refine va_get (D := (dC, dI)) (ci := 1) (v := .int s_place) (C := RX1) (T := TX1) (N := 6) hx hb ht i_X1 hown hK hP 0 rfl rfl 3 (by decide) (ht _ k_80) (fun _ h9 => h9) rfl dX1_endNumber_1 ?_
  refine lv_if_lt (tgt := 47) hx hb dX1_endNumber_4 (by decide) (fun hc => ?_) (fun hc => ?_)
  · have hw := hw.1 hc
    exact J47 s_numbers hw H locs ls hP hD hS hl
  · have hw := hw.2 hc
    refine lv_aload_n hx hb dX1_endNumber_7 rfl (lv_at hl 0 rfl) ?_
    refine va_get (D := (dC, dI)) (ci := 1) (v := .int s_place) (C := RX1) (T := TX1) (N := 6) hx hb ht i_X1 hown hK hP 0 rfl rfl 3 (by decide) (ht _ k_80) (fun _ h9 => h9) rfl dX1_endNumber_8 ?_
    refine lv_aload_n hx hb dX1_endNumber_11 rfl (lv_at hl 0 rfl) ?_
    refine va_get (D := (dC, dI)) (ci := 1) (v := .ref o_numbers) (C := RX1) (T := TX1) (N := 6) hx hb ht i_X1 hown hK hP 0 rfl rfl 0 (by decide) (ht _ k_77) (fun _ h9 => h9) rfl dX1_endNumber_12 ?_
    refine va_alen (v := 4) hx hb hK hP 1 0 rfl rfl rfl dX1_endNumber_15 ?_
    refine lv_icmp_ge (tgt := 47) hx hb dX1_endNumber_16 (by decide) (fun hc => ?_) (fun hc => ?_)
    · have hw := hw.1 hc
      exact J47 s_numbers hw H locs ls hP hD hS hl
    · have hw := hw.2 hc
      refine lv_aload_n hx hb dX1_endNumber_19 rfl (lv_at hl 0 rfl) ?_
      refine va_get (D := (dC, dI)) (ci := 1) (v := .ref o_numbers) (C := RX1) (T := TX1) (N := 6) hx hb ht i_X1 hown hK hP 0 rfl rfl 0 (by decide) (ht _ k_77) (fun _ h9 => h9) rfl dX1_endNumber_20 ?_
      refine lv_aload_n hx hb dX1_endNumber_23 rfl (lv_at hl 0 rfl) ?_
      refine va_get (D := (dC, dI)) (ci := 1) (v := .int s_place) (C := RX1) (T := TX1) (N := 6) hx hb ht i_X1 hown hK hP 0 rfl rfl 3 (by decide) (ht _ k_80) (fun _ h9 => h9) rfl dX1_endNumber_24 ?_
      refine lv_aload_n hx hb dX1_endNumber_27 rfl (lv_at hl 0 rfl) ?_
      refine va_get (D := (dC, dI)) (ci := 1) (v := .int s_minus) (C := RX1) (T := TX1) (N := 6) hx hb ht i_X1 hown hK hP 0 rfl rfl 5 (by decide) (ht _ k_82) (fun _ h9 => h9) rfl dX1_endNumber_28 ?_
      refine lv_if_eq (tgt := 42) hx hb dX1_endNumber_31 (by decide) (fun hc => ?_) (fun hc => ?_)
      · have hw := hw.1 hc
        refine lv_aload_n hx hb dX1_endNumber_42 rfl (lv_at hl 0 rfl) ?_
        refine va_get (D := (dC, dI)) (ci := 1) (v := .int s_value) (C := RX1) (T := TX1) (N := 6) hx hb ht i_X1 hown hK hP 0 rfl rfl 4 (by decide) (ht _ k_81) (fun _ h9 => h9) rfl dX1_endNumber_43 ?_
        exact J46 s_value s_place hw H locs ls hP hD hS hl
      · have hw := hw.2 hc
        refine lv_aload_n hx hb dX1_endNumber_34 rfl (lv_at hl 0 rfl) ?_
        refine va_get (D := (dC, dI)) (ci := 1) (v := .int s_value) (C := RX1) (T := TX1) (N := 6) hx hb ht i_X1 hown hK hP 0 rfl rfl 4 (by decide) (ht _ k_81) (fun _ h9 => h9) rfl dX1_endNumber_35 ?_
        refine lv_ineg hx hb dX1_endNumber_38 ?_
        refine lv_goto (tgt := 46) hx hb dX1_endNumber_39 (by decide) ?_
        exact J46 (-s_value) s_place hw H locs ls hP hD hS hl
abbrev rm_X1_startOrder : Room := { frames := 1, cells := 0, slots := 0, locals := 20 }
set_option maxHeartbeats 4000000 in
set_option maxRecDepth 100000 in
theorem c_X1_startOrder (l : Launch) (dC : Nat → ClassId) (dI : Nat → Nat → Nat) (cI cJ : ClassId) (o o_numbers : Nat) (sz : Nat) (s_kind : Int32) (s_inOrder : Int32) (s_place : Int32) (s_value : Int32) (s_minus : Int32) (p0 : Int32) (Q : Int32 → Int32 → Int32 → Int32 → Int32 → Int32 → Prop) (hw : P_X1_startOrder p0 s_kind s_inOrder s_place s_value s_minus Q) : Met l yX1_startOrder (Cond.code yX1_startOrder cX1_startOrder 2 (some .int) :: TBL) rm_X1_startOrder (gPc (dC, dI) vwCl (gTy cI cJ) [.ref o, .int p0] [(o, .inr (1, [.ref o_numbers, .int s_kind, .int s_inOrder, .int s_place, .int s_value, .int s_minus]))] sz) (va_Qi (fun (r : Int32) (u : Int32 × Int32 × Int32 × Int32 × Int32) => Q r u.1 u.2.1 u.2.2.1 u.2.2.2.1 u.2.2.2.2) (gB (dC, dI) vwCl (gTy cI cJ) (va_A [(o, .inr (1, [.ref o_numbers, .int s_kind, .int s_inOrder, .int s_place, .int s_value, .int s_minus]))] sz) (fun (u : Int32 × Int32 × Int32 × Int32 × Int32) => [(o, .inr (1, [.ref o_numbers, .int u.1, .int u.2.1, .int u.2.2.1, .int u.2.2.2.1, .int u.2.2.2.2]))])) (va_A [(o, .inr (1, [.ref o_numbers, .int s_kind, .int s_inOrder, .int s_place, .int s_value, .int s_minus]))] sz)) 0 0 (va_A [(o, .inr (1, [.ref o_numbers, .int s_kind, .int s_inOrder, .int s_place, .int s_value, .int s_minus]))] sz) := by
  refine Met.ofW (cc := cX1_startOrder) (maxL := 2) (ret := (some .int)) (by decide) rfl ?_
  intro p e s m args below meth c s₁ B hml hv
  obtain ⟨rfl, hsz, hP, hK, hD0⟩ := hv
  have hx := B.exec
  have hb := B.bytes
  have hr := B.returns
  have hts := atoms_spec (ws := Cond.code yX1_startOrder cX1_startOrder 2 (some .int) :: TBL) B.pre
  have ht : ∀ w ∈ TBL, w.before ([.ref o, .int p0] : List Value).toArray s = true := fun w h => hts w (List.mem_cons_of_mem _ h)
  clear hts
  have hown : s.vm.findClass RX1 = some m.cls := findClass_of_methodNamed B.named
  have hlocks := B.notSynchronized
  clear B
  subst hsz
  have hD := hD0.self (sz := s.heap.size)
  clear hD0
  generalize hAe : va_A [(o, .inr (1, [.ref o_numbers, .int s_kind, .int s_inOrder, .int s_place, .int s_value, .int s_minus]))] s.heap.size = A at hD ⊢
  have hA : ∀ q : Nat, s.heap.size ≤ q → A q := fun q h => by rw [← hAe]; exact Or.inr h
  clear hAe
  have hS : va_S A s.heap s.heap [] := va_S.rf
  have hP : va_P (dC, dI) vwCl [(o, .inr (1, [.ref o_numbers, .int s_kind, .int s_inOrder, .int s_place, .int s_value, .int s_minus]))] s.heap := hP
  have hl := lv_entry ([.ref o, .int p0]) (n := 2) (Nat.le_of_ble_eq_true rfl)
  rw [lg_entry_eq]
  generalize (lg_sl ([.ref o, .int p0]) ++ List.replicate (2 - (lg_sl ([.ref o, .int p0])).length) Slot.unset).toArray = ls at hl ⊢
  have hl : lv_has ls 2 [(0, .ref o), (1, .int p0)] := hl
  generalize hQQ : MQ below _ _ _ 0 0 A = QQ
  show W p l e rm_X1_startOrder s m ([.ref o, .int p0] : List Value).toArray below meth c s.heap [] 0 0 QQ (F0 m 0 ls [])
  have J14 : ∀ (x1 : Int32), P_X1_startOrder_J14 s_value s_minus Q x1 → ∀ (H : Heap) (locs : List Loc) (ls : Array Slot), va_P (dC, dI) vwCl [(o, .inr (1, [.ref o_numbers, .int s_kind, .int s_inOrder, .int s_place, .int s_value, .int s_minus]))] H → va_D A [(o, .inr (1, [.ref o_numbers, .int s_kind, .int s_inOrder, .int s_place, .int s_value, .int s_minus]))] → va_S A s.heap H locs → lv_has ls 2 [(0, .ref o), (1, .int x1)] → W p l e rm_X1_startOrder s m ([.ref o, .int p0] : List Value).toArray below meth c H locs 0 0 QQ (F0 m 14 ls []) := by
    intro x1 hw H locs ls hP hD hS hl
    unfold P_X1_startOrder_J14 at hw
    refine lv_aload_n hx hb dX1_startOrder_14 rfl (lv_at hl 0 rfl) ?_
    refine lv_iload_n hx hb dX1_startOrder_15 rfl (lv_at hl 1 rfl) ?_
    refine va_put (D := (dC, dI)) (ci := 1) (v := .int x1) (ty := .int) (C := RX1) (T := TX1) (N := 6) hx hb ht i_X1 tyX1 tyX1_ok nmX1 hown hK hP hD hS 0 rfl rfl 1 (by decide) (ht _ k_78) (fun _ h9 => h9) rfl (by decide +kernel) rfl rfl (Nat.le_of_ble_eq_true rfl) dX1_startOrder_16 (fun H locs hP hD hS => ?_)
    have hP : va_P (dC, dI) vwCl [(o, .inr (1, [.ref o_numbers, .int x1, .int s_inOrder, .int s_place, .int s_value, .int s_minus]))] H := hP
    have hD : va_D A [(o, .inr (1, [.ref o_numbers, .int x1, .int s_inOrder, .int s_place, .int s_value, .int s_minus]))] := hD
    refine lv_aload_n hx hb dX1_startOrder_19 rfl (lv_at hl 0 rfl) ?_
    refine lv_iconst (v := 1) hx hb dX1_startOrder_20 (by decide) ?_
    refine va_put (D := (dC, dI)) (ci := 1) (v := .int 1) (ty := .boolean) (C := RX1) (T := TX1) (N := 6) hx hb ht i_X1 tyX1 tyX1_ok nmX1 hown hK hP hD hS 0 rfl rfl 2 (by decide) (ht _ k_79) (fun _ h9 => h9) rfl (by decide +kernel) rfl rfl (Nat.le_of_ble_eq_true rfl) dX1_startOrder_21 (fun H locs hP hD hS => ?_)
    have hP : va_P (dC, dI) vwCl [(o, .inr (1, [.ref o_numbers, .int x1, .int 1, .int s_place, .int s_value, .int s_minus]))] H := hP
    have hD : va_D A [(o, .inr (1, [.ref o_numbers, .int x1, .int 1, .int s_place, .int s_value, .int s_minus]))] := hD
    refine lv_aload_n hx hb dX1_startOrder_24 rfl (lv_at hl 0 rfl) ?_
    refine lv_iconst (v := 0) hx hb dX1_startOrder_25 (by decide) ?_
    refine va_put (D := (dC, dI)) (ci := 1) (v := .int 0) (ty := .int) (C := RX1) (T := TX1) (N := 6) hx hb ht i_X1 tyX1 tyX1_ok nmX1 hown hK hP hD hS 0 rfl rfl 3 (by decide) (ht _ k_80) (fun _ h9 => h9) rfl (by decide +kernel) rfl rfl (Nat.le_of_ble_eq_true rfl) dX1_startOrder_26 (fun H locs hP hD hS => ?_)
    have hP : va_P (dC, dI) vwCl [(o, .inr (1, [.ref o_numbers, .int x1, .int 1, .int 0, .int s_value, .int s_minus]))] H := hP
    have hD : va_D A [(o, .inr (1, [.ref o_numbers, .int x1, .int 1, .int 0, .int s_value, .int s_minus]))] := hD
    refine lv_aload_n hx hb dX1_startOrder_29 rfl (lv_at hl 0 rfl) ?_
    refine gc_Vv (As := []) (rest := []) (wr := []) ⟨hx, hb, hml, hown, ht⟩ (c_X1_startNumber l dC dI cI cJ o o_numbers H.size s_value s_minus x1 1 0 _ hw) (cwV 0 ht (g_V k_145 k_147 k_s2 k_4 k_148) rfl rfl rfl (by decide +kernel) ⟨(Nat.le_of_ble_eq_true rfl), (Nat.le_of_ble_eq_true rfl)⟩) hK hP hD hS hA [0] [] rfl rfl (by decide) 0 rfl rfl rfl rfl hl.1 rfl (Nat.le_of_ble_eq_true rfl) ⟨(Nat.le_of_ble_eq_true rfl), (Nat.le_of_ble_eq_true rfl)⟩ dX1_startOrder_30 (fun u H locs hw hP hD hS => ?_)
    obtain ⟨s_value_1, s_minus_2⟩ := u
    try dsimp only at hw
    have hP : va_P (dC, dI) vwCl [(o, .inr (1, [.ref o_numbers, .int x1, .int 1, .int 0, .int s_value_1, .int s_minus_2]))] H := hP
    have hD : va_D A [(o, .inr (1, [.ref o_numbers, .int x1, .int 1, .int 0, .int s_value_1, .int s_minus_2]))] := hD
    refine lv_iconst (v := 1) hx hb dX1_startOrder_33 (by decide) ?_
    rw [← hQQ]
    exact g_reti (v := 1) (u := (x1, 1, 0, s_value_1, s_minus_2)) hx hb hr rfl hlocks hw hP hK hD hS dX1_startOrder_34
  obtain ⟨H, hHH⟩ : ∃ H, H = s.heap := ⟨_, rfl⟩
  rw [← hHH] at hP ⊢
  have hS : va_S A s.heap H [] := by rw [hHH]; exact hS
  clear hHH
  generalize ([] : List Loc) = locs at hS ⊢
  unfold P_X1_startOrder at hw
  refine lv_iload_n hx hb dX1_startOrder_0 rfl (lv_at hl 1 rfl) ?_
  refine lv_bipush (v := 119) hx hb dX1_startOrder_1 (by decide) ?_
  refine lv_icmp_eq (tgt := 14) hx hb dX1_startOrder_3 (by decide) (fun hc => ?_) (fun hc => ?_)
  · have hw := hw.1 hc
    exact J14 p0 hw H locs ls hP hD hS hl
  · have hw := hw.2 hc
    refine lv_iload_n hx hb dX1_startOrder_6 rfl (lv_at hl 1 rfl) ?_
    refine lv_bipush (v := 98) hx hb dX1_startOrder_7 (by decide) ?_
    refine lv_icmp_eq (tgt := 14) hx hb dX1_startOrder_9 (by decide) (fun hc => ?_) (fun hc => ?_)
    · have hw := hw.1 hc
      exact J14 p0 hw H locs ls hP hD hS hl
    · have hw := hw.2 hc
      refine lv_iconst (v := 0) hx hb dX1_startOrder_12 (by decide) ?_
      rw [← hQQ]
      exact g_reti (v := 0) (u := (s_kind, s_inOrder, s_place, s_value, s_minus)) hx hb hr rfl hlocks hw hP hK hD hS dX1_startOrder_13
abbrev rm_X1_least : Room := { frames := 0, cells := 0, slots := 0, locals := 0 }
set_option maxHeartbeats 4000000 in
set_option maxRecDepth 100000 in
theorem c_X1_least (l : Launch) (dC : Nat → ClassId) (dI : Nat → Nat → Nat) (cI cJ : ClassId) (o o_numbers : Nat) (sz : Nat) (s_kind : Int32) (s_place : Int32) (s_inOrder : Int32) (s_value : Int32) (s_minus : Int32)  (Q : Int32 → Prop) (hw : P_X1_least s_kind s_place Q) : Met l yX1_least (Cond.code yX1_least cX1_least 1 (some .int) :: TBL) rm_X1_least (gPc (dC, dI) vwCl (gTy cI cJ) [.ref o] [(o, .inr (1, [.ref o_numbers, .int s_kind, .int s_inOrder, .int s_place, .int s_value, .int s_minus]))] sz) (va_Qi (fun (r : Int32) (u : Unit) => Q r ) (gB (dC, dI) vwCl (gTy cI cJ) (va_A [(o, .inr (1, [.ref o_numbers, .int s_kind, .int s_inOrder, .int s_place, .int s_value, .int s_minus]))] sz) (fun (u : Unit) => [(o, .inr (1, [.ref o_numbers, .int s_kind, .int s_inOrder, .int s_place, .int s_value, .int s_minus]))])) (va_A [(o, .inr (1, [.ref o_numbers, .int s_kind, .int s_inOrder, .int s_place, .int s_value, .int s_minus]))] sz)) 0 0 (va_A [(o, .inr (1, [.ref o_numbers, .int s_kind, .int s_inOrder, .int s_place, .int s_value, .int s_minus]))] sz) := by
  refine Met.ofW (cc := cX1_least) (maxL := 1) (ret := (some .int)) (by decide) rfl ?_
  intro p e s m args below meth c s₁ B hml hv
  obtain ⟨rfl, hsz, hP, hK, hD0⟩ := hv
  have hx := B.exec
  have hb := B.bytes
  have hr := B.returns
  have hts := atoms_spec (ws := Cond.code yX1_least cX1_least 1 (some .int) :: TBL) B.pre
  have ht : ∀ w ∈ TBL, w.before ([.ref o] : List Value).toArray s = true := fun w h => hts w (List.mem_cons_of_mem _ h)
  clear hts
  have hown : s.vm.findClass RX1 = some m.cls := findClass_of_methodNamed B.named
  have hlocks := B.notSynchronized
  clear B
  subst hsz
  have hD := hD0.self (sz := s.heap.size)
  clear hD0
  generalize hAe : va_A [(o, .inr (1, [.ref o_numbers, .int s_kind, .int s_inOrder, .int s_place, .int s_value, .int s_minus]))] s.heap.size = A at hD ⊢
  have hA : ∀ q : Nat, s.heap.size ≤ q → A q := fun q h => by rw [← hAe]; exact Or.inr h
  clear hAe
  have hS : va_S A s.heap s.heap [] := va_S.rf
  have hP : va_P (dC, dI) vwCl [(o, .inr (1, [.ref o_numbers, .int s_kind, .int s_inOrder, .int s_place, .int s_value, .int s_minus]))] s.heap := hP
  have hl := lv_entry ([.ref o]) (n := 1) (Nat.le_of_ble_eq_true rfl)
  rw [lg_entry_eq]
  generalize (lg_sl ([.ref o]) ++ List.replicate (1 - (lg_sl ([.ref o])).length) Slot.unset).toArray = ls at hl ⊢
  have hl : lv_has ls 1 [(0, .ref o)] := hl
  generalize hQQ : MQ below _ _ _ 0 0 A = QQ
  show W p l e rm_X1_least s m ([.ref o] : List Value).toArray below meth c s.heap [] 0 0 QQ (F0 m 0 ls [])
  obtain ⟨H, hHH⟩ : ∃ H, H = s.heap := ⟨_, rfl⟩
  rw [← hHH] at hP ⊢
  have hS : va_S A s.heap H [] := by rw [hHH]; exact hS
  clear hHH
  generalize ([] : List Loc) = locs at hS ⊢
  unfold P_X1_least at hw
  refine lv_aload_n hx hb dX1_least_0 rfl (lv_at hl 0 rfl) ?_
  refine va_get (D := (dC, dI)) (ci := 1) (v := .int s_kind) (C := RX1) (T := TX1) (N := 6) hx hb ht i_X1 hown hK hP 0 rfl rfl 1 (by decide) (ht _ k_78) (fun _ h9 => h9) rfl dX1_least_1 ?_
  refine lv_bipush (v := 119) hx hb dX1_least_4 (by decide) ?_
  refine lv_icmp_ne (tgt := 20) hx hb dX1_least_6 (by decide) (fun hc => ?_) (fun hc => ?_)
  · have hw := hw.1 hc
    refine lv_iconst (v := 0) hx hb dX1_least_20 (by decide) ?_
    rw [← hQQ]
    exact g_reti (v := 0) (u := ()) hx hb hr rfl hlocks hw hP hK hD hS dX1_least_21
  · have hw := hw.2 hc
    refine lv_aload_n hx hb dX1_least_9 rfl (lv_at hl 0 rfl) ?_
    refine va_get (D := (dC, dI)) (ci := 1) (v := .int s_place) (C := RX1) (T := TX1) (N := 6) hx hb ht i_X1 hown hK hP 0 rfl rfl 3 (by decide) (ht _ k_80) (fun _ h9 => h9) rfl dX1_least_10 ?_
    refine lv_if_ne (tgt := 20) hx hb dX1_least_13 (by decide) (fun hc => ?_) (fun hc => ?_)
    · have hw := hw.1 hc
      refine lv_iconst (v := 0) hx hb dX1_least_20 (by decide) ?_
      rw [← hQQ]
      exact g_reti (v := 0) (u := ()) hx hb hr rfl hlocks hw hP hK hD hS dX1_least_21
    · have hw := hw.2 hc
      refine lv_iconst (v := 1) hx hb dX1_least_16 (by decide) ?_
      refine lv_goto (tgt := 21) hx hb dX1_least_17 (by decide) ?_
      rw [← hQQ]
      exact g_reti (v := 1) (u := ()) hx hb hr rfl hlocks hw hP hK hD hS dX1_least_21
abbrev rm_X1_most : Room := { frames := 0, cells := 0, slots := 0, locals := 0 }
set_option maxHeartbeats 4000000 in
set_option maxRecDepth 100000 in
theorem c_X1_most (l : Launch) (dC : Nat → ClassId) (dI : Nat → Nat → Nat) (cI cJ : ClassId) (z : Nat → Nat) (o o_numbers : Nat) (sz : Nat) (s_kind : Int32) (s_place : Int32) (s_inOrder : Int32) (s_value : Int32) (s_minus : Int32)  (Q : Int32 → Prop) (hw : P_X1_most s_kind s_place Q) : Met l yX1_most (Cond.code yX1_most cX1_most 1 (some .int) :: TBL) rm_X1_most (gPcE z (dC, dI) vwCl (gTy cI cJ) [.ref o] [(o, .inr (1, [.ref o_numbers, .int s_kind, .int s_inOrder, .int s_place, .int s_value, .int s_minus]))] sz) (va_Qi (fun (r : Int32) (u : Unit) => Q r ) (gB (dC, dI) vwCl (gTy cI cJ) (va_A [(o, .inr (1, [.ref o_numbers, .int s_kind, .int s_inOrder, .int s_place, .int s_value, .int s_minus]))] sz) (fun (u : Unit) => [(o, .inr (1, [.ref o_numbers, .int s_kind, .int s_inOrder, .int s_place, .int s_value, .int s_minus]))])) (va_A [(o, .inr (1, [.ref o_numbers, .int s_kind, .int s_inOrder, .int s_place, .int s_value, .int s_minus]))] sz)) 0 0 (va_A [(o, .inr (1, [.ref o_numbers, .int s_kind, .int s_inOrder, .int s_place, .int s_value, .int s_minus]))] sz) := by
  refine Met.ofW (cc := cX1_most) (maxL := 1) (ret := (some .int)) (by decide) rfl ?_
  intro p e s m args below meth c s₁ B hml hv
  obtain ⟨rfl, ⟨hsz, hP, hK, hD0⟩, hE⟩ := hv
  have hx := B.exec
  have hb := B.bytes
  have hr := B.returns
  have hts := atoms_spec (ws := Cond.code yX1_most cX1_most 1 (some .int) :: TBL) B.pre
  have ht : ∀ w ∈ TBL, w.before ([.ref o] : List Value).toArray s = true := fun w h => hts w (List.mem_cons_of_mem _ h)
  clear hts
  have hown : s.vm.findClass RX1 = some m.cls := findClass_of_methodNamed B.named
  have hlocks := B.notSynchronized
  clear B
  subst hsz
  have hD := hD0.self (sz := s.heap.size)
  clear hD0
  generalize hAe : va_A [(o, .inr (1, [.ref o_numbers, .int s_kind, .int s_inOrder, .int s_place, .int s_value, .int s_minus]))] s.heap.size = A at hD hE ⊢
  have hA : ∀ q : Nat, s.heap.size ≤ q → A q := fun q h => by rw [← hAe]; exact Or.inr h
  clear hAe
  have hS : va_S A s.heap s.heap [] := va_S.rf
  have hP : va_P (dC, dI) vwCl [(o, .inr (1, [.ref o_numbers, .int s_kind, .int s_inOrder, .int s_place, .int s_value, .int s_minus]))] s.heap := hP
  have hl := lv_entry ([.ref o]) (n := 1) (Nat.le_of_ble_eq_true rfl)
  rw [lg_entry_eq]
  generalize (lg_sl ([.ref o]) ++ List.replicate (1 - (lg_sl ([.ref o])).length) Slot.unset).toArray = ls at hl ⊢
  have hl : lv_has ls 1 [(0, .ref o)] := hl
  generalize hQQ : MQ below _ _ _ 0 0 A = QQ
  show W p l e rm_X1_most s m ([.ref o] : List Value).toArray below meth c s.heap [] 0 0 QQ (F0 m 0 ls [])
  obtain ⟨H, hHH⟩ : ∃ H, H = s.heap := ⟨_, rfl⟩
  rw [← hHH] at hP ⊢
  have hS : va_S A s.heap H [] := by rw [hHH]; exact hS
  clear hHH
  generalize ([] : List Loc) = locs at hS ⊢
  unfold P_X1_most at hw
  refine lv_aload_n hx hb dX1_most_0 rfl (lv_at hl 0 rfl) ?_
  refine va_get (D := (dC, dI)) (ci := 1) (v := .int s_kind) (C := RX1) (T := TX1) (N := 6) hx hb ht i_X1 hown hK hP 0 rfl rfl 1 (by decide) (ht _ k_78) (fun _ h9 => h9) rfl dX1_most_1 ?_
  refine lv_bipush (v := 119) hx hb dX1_most_4 (by decide) ?_
  refine lv_icmp_ne (tgt := 40) hx hb dX1_most_6 (by decide) (fun hc => ?_) (fun hc => ?_)
  · have hw := hw.1 hc
    refine lv_aload_n hx hb dX1_most_40 rfl (lv_at hl 0 rfl) ?_
    refine va_get (D := (dC, dI)) (ci := 1) (v := .int s_place) (C := RX1) (T := TX1) (N := 6) hx hb ht i_X1 hown hK hP 0 rfl rfl 3 (by decide) (ht _ k_80) (fun _ h9 => h9) rfl dX1_most_41 ?_
    refine lv_if_lt (tgt := 69) hx hb dX1_most_44 (by decide) (fun hc => ?_) (fun hc => ?_)
    · have hw := hw.1 hc
      refine lv_iconst (v := (-1)) hx hb dX1_most_69 (by decide) ?_
      rw [← hQQ]
      exact g_reti (v := (-1)) (u := ()) hx hb hr rfl hlocks hw hP hK hD hS dX1_most_70
    · have hw := hw.2 hc
      refine lv_aload_n hx hb dX1_most_47 rfl (lv_at hl 0 rfl) ?_
      refine va_get (D := (dC, dI)) (ci := 1) (v := .int s_place) (C := RX1) (T := TX1) (N := 6) hx hb ht i_X1 hown hK hP 0 rfl rfl 3 (by decide) (ht _ k_80) (fun _ h9 => h9) rfl dX1_most_48 ?_
      refine va_gets (v := .ref (z 2)) hx hb hE.1.2.2.1.1 hS hown (ht _ k_163) (fun _ h9 => h9) dX1_most_51 ?_
      refine va_tlen (v := 3) hx hb hE.1.2.2.1.2 hS rfl dX1_most_54 ?_
      refine lv_icmp_ge (tgt := 69) hx hb dX1_most_55 (by decide) (fun hc => ?_) (fun hc => ?_)
      · have hw := hw.1 hc
        refine lv_iconst (v := (-1)) hx hb dX1_most_69 (by decide) ?_
        rw [← hQQ]
        exact g_reti (v := (-1)) (u := ()) hx hb hr rfl hlocks hw hP hK hD hS dX1_most_70
      · have hw := hw.2 hc
        refine va_gets (v := .ref (z 2)) hx hb hE.1.2.2.1.1 hS hown (ht _ k_163) (fun _ h9 => h9) dX1_most_58 ?_
        refine lv_aload_n hx hb dX1_most_61 rfl (lv_at hl 0 rfl) ?_
        refine va_get (D := (dC, dI)) (ci := 1) (v := .int s_place) (C := RX1) (T := TX1) (N := 6) hx hb ht i_X1 hown hK hP 0 rfl rfl 3 (by decide) (ht _ k_80) (fun _ h9 => h9) rfl dX1_most_62 ?_
        obtain ⟨hi_1, hw⟩ := hw
        refine va_ti (v := .int (tBM s_place.toNatClampNeg)) hx hb hE.1.2.2.1.2 hS hi_1 rfl dX1_most_65 ?_
        refine lv_goto (tgt := 70) hx hb dX1_most_66 (by decide) ?_
        rw [← hQQ]
        exact g_reti (v := (tBM s_place.toNatClampNeg)) (u := ()) hx hb hr rfl hlocks hw hP hK hD hS dX1_most_70
  · have hw := hw.2 hc
    refine lv_aload_n hx hb dX1_most_9 rfl (lv_at hl 0 rfl) ?_
    refine va_get (D := (dC, dI)) (ci := 1) (v := .int s_place) (C := RX1) (T := TX1) (N := 6) hx hb ht i_X1 hown hK hP 0 rfl rfl 3 (by decide) (ht _ k_80) (fun _ h9 => h9) rfl dX1_most_10 ?_
    refine lv_if_lt (tgt := 38) hx hb dX1_most_13 (by decide) (fun hc => ?_) (fun hc => ?_)
    · have hw := hw.1 hc
      refine lv_iconst (v := (-1)) hx hb dX1_most_38 (by decide) ?_
      rw [← hQQ]
      exact g_reti (v := (-1)) (u := ()) hx hb hr rfl hlocks hw hP hK hD hS dX1_most_39
    · have hw := hw.2 hc
      refine lv_aload_n hx hb dX1_most_16 rfl (lv_at hl 0 rfl) ?_
      refine va_get (D := (dC, dI)) (ci := 1) (v := .int s_place) (C := RX1) (T := TX1) (N := 6) hx hb ht i_X1 hown hK hP 0 rfl rfl 3 (by decide) (ht _ k_80) (fun _ h9 => h9) rfl dX1_most_17 ?_
      refine va_gets (v := .ref (z 0)) hx hb hE.1.1.1 hS hown (ht _ k_161) (fun _ h9 => h9) dX1_most_20 ?_
      refine va_tlen (v := 4) hx hb hE.1.1.2 hS rfl dX1_most_23 ?_
      refine lv_icmp_ge (tgt := 38) hx hb dX1_most_24 (by decide) (fun hc => ?_) (fun hc => ?_)
      · have hw := hw.1 hc
        refine lv_iconst (v := (-1)) hx hb dX1_most_38 (by decide) ?_
        rw [← hQQ]
        exact g_reti (v := (-1)) (u := ()) hx hb hr rfl hlocks hw hP hK hD hS dX1_most_39
      · have hw := hw.2 hc
        refine va_gets (v := .ref (z 0)) hx hb hE.1.1.1 hS hown (ht _ k_161) (fun _ h9 => h9) dX1_most_27 ?_
        refine lv_aload_n hx hb dX1_most_30 rfl (lv_at hl 0 rfl) ?_
        refine va_get (D := (dC, dI)) (ci := 1) (v := .int s_place) (C := RX1) (T := TX1) (N := 6) hx hb ht i_X1 hown hK hP 0 rfl rfl 3 (by decide) (ht _ k_80) (fun _ h9 => h9) rfl dX1_most_31 ?_
        obtain ⟨hi_2, hw⟩ := hw
        refine va_ti (v := .int (tWM s_place.toNatClampNeg)) hx hb hE.1.1.2 hS hi_2 rfl dX1_most_34 ?_
        refine lv_goto (tgt := 39) hx hb dX1_most_35 (by decide) ?_
        rw [← hQQ]
        exact g_reti (v := (tWM s_place.toNatClampNeg)) (u := ()) hx hb hr rfl hlocks hw hP hK hD hS dX1_most_39
abbrev rm_X1_takeDigit : Room := { frames := 1, cells := 0, slots := 0, locals := 20 }
set_option maxHeartbeats 4000000 in
set_option maxRecDepth 100000 in
theorem c_X1_takeDigit (l : Launch) (dC : Nat → ClassId) (dI : Nat → Nat → Nat) (cI cJ : ClassId) (z : Nat → Nat) (o o_numbers : Nat) (sz : Nat) (s_kind : Int32) (s_place : Int32) (s_value : Int32) (s_inOrder : Int32) (s_minus : Int32) (p0 : Int32) (Q : Int32 → Int32 → Prop) (hw : P_X1_takeDigit p0 s_kind s_place s_value Q) : Met l yX1_takeDigit (Cond.code yX1_takeDigit cX1_takeDigit 3 (some .int) :: TBL) rm_X1_takeDigit (gPcE z (dC, dI) vwCl (gTy cI cJ) [.ref o, .int p0] [(o, .inr (1, [.ref o_numbers, .int s_kind, .int s_inOrder, .int s_place, .int s_value, .int s_minus]))] sz) (va_Qi (fun (r : Int32) (u : Int32) => Q r u) (gB (dC, dI) vwCl (gTy cI cJ) (va_A [(o, .inr (1, [.ref o_numbers, .int s_kind, .int s_inOrder, .int s_place, .int s_value, .int s_minus]))] sz) (fun (u : Int32) => [(o, .inr (1, [.ref o_numbers, .int s_kind, .int s_inOrder, .int s_place, .int u, .int s_minus]))])) (va_A [(o, .inr (1, [.ref o_numbers, .int s_kind, .int s_inOrder, .int s_place, .int s_value, .int s_minus]))] sz)) 0 0 (va_A [(o, .inr (1, [.ref o_numbers, .int s_kind, .int s_inOrder, .int s_place, .int s_value, .int s_minus]))] sz) := by
  refine Met.ofW (cc := cX1_takeDigit) (maxL := 3) (ret := (some .int)) (by decide) rfl ?_
  intro p e s m args below meth c s₁ B hml hv
  obtain ⟨rfl, ⟨hsz, hP, hK, hD0⟩, hE⟩ := hv
  have hx := B.exec
  have hb := B.bytes
  have hr := B.returns
  have hts := atoms_spec (ws := Cond.code yX1_takeDigit cX1_takeDigit 3 (some .int) :: TBL) B.pre
  have ht : ∀ w ∈ TBL, w.before ([.ref o, .int p0] : List Value).toArray s = true := fun w h => hts w (List.mem_cons_of_mem _ h)
  clear hts
  have hown : s.vm.findClass RX1 = some m.cls := findClass_of_methodNamed B.named
  have hlocks := B.notSynchronized
  clear B
  subst hsz
  have hD := hD0.self (sz := s.heap.size)
  clear hD0
  generalize hAe : va_A [(o, .inr (1, [.ref o_numbers, .int s_kind, .int s_inOrder, .int s_place, .int s_value, .int s_minus]))] s.heap.size = A at hD hE ⊢
  have hA : ∀ q : Nat, s.heap.size ≤ q → A q := fun q h => by rw [← hAe]; exact Or.inr h
  clear hAe
  have hS : va_S A s.heap s.heap [] := va_S.rf
  have hP : va_P (dC, dI) vwCl [(o, .inr (1, [.ref o_numbers, .int s_kind, .int s_inOrder, .int s_place, .int s_value, .int s_minus]))] s.heap := hP
  have hl := lv_entry ([.ref o, .int p0]) (n := 3) (Nat.le_of_ble_eq_true rfl)
  rw [lg_entry_eq]
  generalize (lg_sl ([.ref o, .int p0]) ++ List.replicate (3 - (lg_sl ([.ref o, .int p0])).length) Slot.unset).toArray = ls at hl ⊢
  have hl : lv_has ls 3 [(0, .ref o), (1, .int p0)] := hl
  generalize hQQ : MQ below _ _ _ 0 0 A = QQ
  show W p l e rm_X1_takeDigit s m ([.ref o, .int p0] : List Value).toArray below meth c s.heap [] 0 0 QQ (F0 m 0 ls [])
  have J30 : ∀ (t0 : Int32), P_X1_takeDigit_J30 s_kind s_place s_value Q t0 → ∀ (H : Heap) (locs : List Loc) (ls : Array Slot), va_P (dC, dI) vwCl [(o, .inr (1, [.ref o_numbers, .int s_kind, .int s_inOrder, .int s_place, .int s_value, .int s_minus]))] H → va_D A [(o, .inr (1, [.ref o_numbers, .int s_kind, .int s_inOrder, .int s_place, .int s_value, .int s_minus]))] → va_S A s.heap H locs → lv_has ls 3 [(0, .ref o)] → W p l e rm_X1_takeDigit s m ([.ref o, .int p0] : List Value).toArray below meth c H locs 0 0 QQ (F0 m 30 ls [.int t0]) := by
    intro t0 hw H locs ls hP hD hS hl
    unfold P_X1_takeDigit_J30 at hw
    refine lv_istore_n (lv' := [(2, .int t0), (0, .ref o)]) hx hb dX1_takeDigit_30 rfl hl (by decide) rfl (fun ls hl => ?_)
    refine lv_iload_n hx hb dX1_takeDigit_31 rfl (lv_at hl 0 rfl) ?_
    refine lv_aload_n hx hb dX1_takeDigit_32 rfl (lv_at hl 1 rfl) ?_
    refine gc_Vi (As := []) (rest := [.int t0]) (wr := []) ⟨hx, hb, hml, hown, ht⟩ (c_X1_least l dC dI cI cJ o o_numbers H.size s_kind s_place s_inOrder s_value s_minus _ hw) (cwV 0 ht (g_V k_153 k_155 k_s4 k_4 k_156) rfl rfl rfl (by decide +kernel) ⟨(Nat.le_of_ble_eq_true rfl), (Nat.le_of_ble_eq_true rfl)⟩) hK hP hD hS hA [0] [] rfl rfl (by decide) 0 rfl rfl rfl rfl hl.1 rfl (Nat.le_of_ble_eq_true rfl) ⟨(Nat.le_of_ble_eq_true rfl), (Nat.le_of_ble_eq_true rfl)⟩ dX1_takeDigit_33 (fun r_1 u H locs hw hP hD hS => ?_)
    try dsimp only at hw
    have hP : va_P (dC, dI) vwCl [(o, .inr (1, [.ref o_numbers, .int s_kind, .int s_inOrder, .int s_place, .int s_value, .int s_minus]))] H := hP
    have hD : va_D A [(o, .inr (1, [.ref o_numbers, .int s_kind, .int s_inOrder, .int s_place, .int s_value, .int s_minus]))] := hD
    refine lv_icmp_lt (tgt := 47) hx hb dX1_takeDigit_36 (by decide) (fun hc => ?_) (fun hc => ?_)
    · have hw := hw.1 hc
      refine lv_iconst (v := 0) hx hb dX1_takeDigit_47 (by decide) ?_
      rw [← hQQ]
      exact g_reti (v := 0) (u := s_value) hx hb hr rfl hlocks hw hP hK hD hS dX1_takeDigit_48
    · have hw := hw.2 hc
      refine lv_iload_n hx hb dX1_takeDigit_39 rfl (lv_at hl 0 rfl) ?_
      refine lv_aload_n hx hb dX1_takeDigit_40 rfl (lv_at hl 1 rfl) ?_
      refine gcE_Vi (As := []) (rest := [.int t0]) (wr := []) ⟨hx, hb, hml, hown, ht⟩ (c_X1_most l dC dI cI cJ z o o_numbers H.size s_kind s_place s_inOrder s_value s_minus _ hw) (cwV 0 ht (g_V k_157 k_159 k_s5 k_4 k_160) rfl rfl rfl (by decide +kernel) ⟨(Nat.le_of_ble_eq_true rfl), (Nat.le_of_ble_eq_true rfl)⟩) hK hP hD hS hA hE [0] [] rfl rfl (by decide) 0 rfl rfl rfl rfl hl.1 rfl (Nat.le_of_ble_eq_true rfl) ⟨(Nat.le_of_ble_eq_true rfl), (Nat.le_of_ble_eq_true rfl)⟩ dX1_takeDigit_41 (fun r_2 u H locs hw hP hD hS => ?_)
      try dsimp only at hw
      have hP : va_P (dC, dI) vwCl [(o, .inr (1, [.ref o_numbers, .int s_kind, .int s_inOrder, .int s_place, .int s_value, .int s_minus]))] H := hP
      have hD : va_D A [(o, .inr (1, [.ref o_numbers, .int s_kind, .int s_inOrder, .int s_place, .int s_value, .int s_minus]))] := hD
      refine lv_icmp_le (tgt := 49) hx hb dX1_takeDigit_44 (by decide) (fun hc => ?_) (fun hc => ?_)
      · have hw := hw.1 hc
        refine lv_aload_n hx hb dX1_takeDigit_49 rfl (lv_at hl 1 rfl) ?_
        refine lv_iload_n hx hb dX1_takeDigit_50 rfl (lv_at hl 0 rfl) ?_
        refine va_put (D := (dC, dI)) (ci := 1) (v := .int t0) (ty := .int) (C := RX1) (T := TX1) (N := 6) hx hb ht i_X1 tyX1 tyX1_ok nmX1 hown hK hP hD hS 0 rfl rfl 4 (by decide) (ht _ k_81) (fun _ h9 => h9) rfl (by decide +kernel) rfl rfl (Nat.le_of_ble_eq_true rfl) dX1_takeDigit_51 (fun H locs hP hD hS => ?_)
        have hP : va_P (dC, dI) vwCl [(o, .inr (1, [.ref o_numbers, .int s_kind, .int s_inOrder, .int s_place, .int t0, .int s_minus]))] H := hP
        have hD : va_D A [(o, .inr (1, [.ref o_numbers, .int s_kind, .int s_inOrder, .int s_place, .int t0, .int s_minus]))] := hD
        refine lv_iconst (v := 1) hx hb dX1_takeDigit_54 (by decide) ?_
        rw [← hQQ]
        exact g_reti (v := 1) (u := t0) hx hb hr rfl hlocks hw hP hK hD hS dX1_takeDigit_55
      · have hw := hw.2 hc
        refine lv_iconst (v := 0) hx hb dX1_takeDigit_47 (by decide) ?_
        rw [← hQQ]
        exact g_reti (v := 0) (u := s_value) hx hb hr rfl hlocks hw hP hK hD hS dX1_takeDigit_48
  obtain ⟨H, hHH⟩ : ∃ H, H = s.heap := ⟨_, rfl⟩
  rw [← hHH] at hP ⊢
  have hS : va_S A s.heap H [] := by rw [hHH]; exact hS
  clear hHH
  generalize ([] : List Loc) = locs at hS ⊢
  unfold P_X1_takeDigit at hw
  refine lv_aload_n hx hb dX1_takeDigit_0 rfl (lv_at hl 0 rfl) ?_
  refine va_get (D := (dC, dI)) (ci := 1) (v := .int s_value) (C := RX1) (T := TX1) (N := 6) hx hb ht i_X1 hown hK hP 0 rfl rfl 4 (by decide) (ht _ k_81) (fun _ h9 => h9) rfl dX1_takeDigit_1 ?_
  refine lv_if_ne (tgt := 9) hx hb dX1_takeDigit_4 (by decide) (fun hc => ?_) (fun hc => ?_)
  · have hw := hw.1 hc
    refine lv_aload_n hx hb dX1_takeDigit_9 rfl (lv_at hl 0 rfl) ?_
    refine va_get (D := (dC, dI)) (ci := 1) (v := .int s_value) (C := RX1) (T := TX1) (N := 6) hx hb ht i_X1 hown hK hP 0 rfl rfl 4 (by decide) (ht _ k_81) (fun _ h9 => h9) rfl dX1_takeDigit_10 ?_
    refine lv_iconst (v := (-1)) hx hb dX1_takeDigit_13 (by decide) ?_
    refine lv_icmp_ne (tgt := 21) hx hb dX1_takeDigit_14 (by decide) (fun hc => ?_) (fun hc => ?_)
    · have hw := hw.1 hc
      refine lv_bipush (v := 10) hx hb dX1_takeDigit_21 (by decide) ?_
      refine lv_aload_n hx hb dX1_takeDigit_23 rfl (lv_at hl 0 rfl) ?_
      refine va_get (D := (dC, dI)) (ci := 1) (v := .int s_value) (C := RX1) (T := TX1) (N := 6) hx hb ht i_X1 hown hK hP 0 rfl rfl 4 (by decide) (ht _ k_81) (fun _ h9 => h9) rfl dX1_takeDigit_24 ?_
      refine lv_imul hx hb dX1_takeDigit_27 ?_
      refine lv_iload_n hx hb dX1_takeDigit_28 rfl (lv_at hl 1 rfl) ?_
      refine lv_iadd hx hb dX1_takeDigit_29 ?_
      exact J30 ((10 * s_value) + p0) hw H locs ls hP hD hS (lv_sub (l' := [(0, .ref o)]) hl [0] rfl)
    · have hw := hw.2 hc
      refine lv_iload_n hx hb dX1_takeDigit_17 rfl (lv_at hl 1 rfl) ?_
      refine lv_goto (tgt := 30) hx hb dX1_takeDigit_18 (by decide) ?_
      exact J30 p0 hw H locs ls hP hD hS (lv_sub (l' := [(0, .ref o)]) hl [0] rfl)
  · have hw := hw.2 hc
    refine lv_iconst (v := 0) hx hb dX1_takeDigit_7 (by decide) ?_
    rw [← hQQ]
    exact g_reti (v := 0) (u := s_value) hx hb hr rfl hlocks hw hP hK hD hS dX1_takeDigit_8
abbrev rm_X1_takeMinus : Room := { frames := 0, cells := 0, slots := 0, locals := 0 }
set_option maxHeartbeats 4000000 in
set_option maxRecDepth 100000 in
theorem c_X1_takeMinus (l : Launch) (dC : Nat → ClassId) (dI : Nat → Nat → Nat) (cI cJ : ClassId) (o o_numbers : Nat) (sz : Nat) (s_kind : Int32) (s_place : Int32) (s_value : Int32) (s_minus : Int32) (s_inOrder : Int32)  (Q : Int32 → Int32 → Prop) (hw : P_X1_takeMinus s_kind s_place s_value s_minus Q) : Met l yX1_takeMinus (Cond.code yX1_takeMinus cX1_takeMinus 2 (some .int) :: TBL) rm_X1_takeMinus (gPc (dC, dI) vwCl (gTy cI cJ) [.ref o] [(o, .inr (1, [.ref o_numbers, .int s_kind, .int s_inOrder, .int s_place, .int s_value, .int s_minus]))] sz) (va_Qi (fun (r : Int32) (u : Int32) => Q r u) (gB (dC, dI) vwCl (gTy cI cJ) (va_A [(o, .inr (1, [.ref o_numbers, .int s_kind, .int s_inOrder, .int s_place, .int s_value, .int s_minus]))] sz) (fun (u : Int32) => [(o, .inr (1, [.ref o_numbers, .int s_kind, .int s_inOrder, .int s_place, .int s_value, .int u]))])) (va_A [(o, .inr (1, [.ref o_numbers, .int s_kind, .int s_inOrder, .int s_place, .int s_value, .int s_minus]))] sz)) 0 0 (va_A [(o, .inr (1, [.ref o_numbers, .int s_kind, .int s_inOrder, .int s_place, .int s_value, .int s_minus]))] sz) := by
  refine Met.ofW (cc := cX1_takeMinus) (maxL := 2) (ret := (some .int)) (by decide) rfl ?_
  intro p e s m args below meth c s₁ B hml hv
  obtain ⟨rfl, hsz, hP, hK, hD0⟩ := hv
  have hx := B.exec
  have hb := B.bytes
  have hr := B.returns
  have hts := atoms_spec (ws := Cond.code yX1_takeMinus cX1_takeMinus 2 (some .int) :: TBL) B.pre
  have ht : ∀ w ∈ TBL, w.before ([.ref o] : List Value).toArray s = true := fun w h => hts w (List.mem_cons_of_mem _ h)
  clear hts
  have hown : s.vm.findClass RX1 = some m.cls := findClass_of_methodNamed B.named
  have hlocks := B.notSynchronized
  clear B
  subst hsz
  have hD := hD0.self (sz := s.heap.size)
  clear hD0
  generalize hAe : va_A [(o, .inr (1, [.ref o_numbers, .int s_kind, .int s_inOrder, .int s_place, .int s_value, .int s_minus]))] s.heap.size = A at hD ⊢
  have hA : ∀ q : Nat, s.heap.size ≤ q → A q := fun q h => by rw [← hAe]; exact Or.inr h
  clear hAe
  have hS : va_S A s.heap s.heap [] := va_S.rf
  have hP : va_P (dC, dI) vwCl [(o, .inr (1, [.ref o_numbers, .int s_kind, .int s_inOrder, .int s_place, .int s_value, .int s_minus]))] s.heap := hP
  have hl := lv_entry ([.ref o]) (n := 2) (Nat.le_of_ble_eq_true rfl)
  rw [lg_entry_eq]
  generalize (lg_sl ([.ref o]) ++ List.replicate (2 - (lg_sl ([.ref o])).length) Slot.unset).toArray = ls at hl ⊢
  have hl : lv_has ls 2 [(0, .ref o)] := hl
  generalize hQQ : MQ below _ _ _ 0 0 A = QQ
  show W p l e rm_X1_takeMinus s m ([.ref o] : List Value).toArray below meth c s.heap [] 0 0 QQ (F0 m 0 ls [])
  have J22 : ∀ (t0 : Int32), P_X1_takeMinus_J22 s_value s_minus Q t0 → ∀ (H : Heap) (locs : List Loc) (ls : Array Slot), va_P (dC, dI) vwCl [(o, .inr (1, [.ref o_numbers, .int s_kind, .int s_inOrder, .int s_place, .int s_value, .int s_minus]))] H → va_D A [(o, .inr (1, [.ref o_numbers, .int s_kind, .int s_inOrder, .int s_place, .int s_value, .int s_minus]))] → va_S A s.heap H locs → lv_has ls 2 [(0, .ref o)] → W p l e rm_X1_takeMinus s m ([.ref o] : List Value).toArray below meth c H locs 0 0 QQ (F0 m 22 ls [.int t0]) := by
    intro t0 hw H locs ls hP hD hS hl
    unfold P_X1_takeMinus_J22 at hw
    refine lv_istore_n (lv' := [(1, .int t0), (0, .ref o)]) hx hb dX1_takeMinus_22 rfl hl (by decide) rfl (fun ls hl => ?_)
    refine lv_iload_n hx hb dX1_takeMinus_23 rfl (lv_at hl 0 rfl) ?_
    refine lv_if_eq (tgt := 42) hx hb dX1_takeMinus_24 (by decide) (fun hc => ?_) (fun hc => ?_)
    · have hw := hw.1 hc
      refine lv_iconst (v := 0) hx hb dX1_takeMinus_42 (by decide) ?_
      rw [← hQQ]
      exact g_reti (v := 0) (u := s_minus) hx hb hr rfl hlocks hw hP hK hD hS dX1_takeMinus_43
    · have hw := hw.2 hc
      refine lv_aload_n hx hb dX1_takeMinus_27 rfl (lv_at hl 1 rfl) ?_
      refine va_get (D := (dC, dI)) (ci := 1) (v := .int s_minus) (C := RX1) (T := TX1) (N := 6) hx hb ht i_X1 hown hK hP 0 rfl rfl 5 (by decide) (ht _ k_82) (fun _ h9 => h9) rfl dX1_takeMinus_28 ?_
      refine lv_if_ne (tgt := 42) hx hb dX1_takeMinus_31 (by decide) (fun hc => ?_) (fun hc => ?_)
      · have hw := hw.1 hc
        refine lv_iconst (v := 0) hx hb dX1_takeMinus_42 (by decide) ?_
        rw [← hQQ]
        exact g_reti (v := 0) (u := s_minus) hx hb hr rfl hlocks hw hP hK hD hS dX1_takeMinus_43
      · have hw := hw.2 hc
        refine lv_aload_n hx hb dX1_takeMinus_34 rfl (lv_at hl 1 rfl) ?_
        refine va_get (D := (dC, dI)) (ci := 1) (v := .int s_value) (C := RX1) (T := TX1) (N := 6) hx hb ht i_X1 hown hK hP 0 rfl rfl 4 (by decide) (ht _ k_81) (fun _ h9 => h9) rfl dX1_takeMinus_35 ?_
        refine lv_iconst (v := (-1)) hx hb dX1_takeMinus_38 (by decide) ?_
        refine lv_icmp_eq (tgt := 44) hx hb dX1_takeMinus_39 (by decide) (fun hc => ?_) (fun hc => ?_)
        · have hw := hw.1 hc
          refine lv_aload_n hx hb dX1_takeMinus_44 rfl (lv_at hl 1 rfl) ?_
          refine lv_iconst (v := 1) hx hb dX1_takeMinus_45 (by decide) ?_
          refine va_put (D := (dC, dI)) (ci := 1) (v := .int 1) (ty := .boolean) (C := RX1) (T := TX1) (N := 6) hx hb ht i_X1 tyX1 tyX1_ok nmX1 hown hK hP hD hS 0 rfl rfl 5 (by decide) (ht _ k_82) (fun _ h9 => h9) rfl (by decide +kernel) rfl rfl (Nat.le_of_ble_eq_true rfl) dX1_takeMinus_46 (fun H locs hP hD hS => ?_)
          have hP : va_P (dC, dI) vwCl [(o, .inr (1, [.ref o_numbers, .int s_kind, .int s_inOrder, .int s_place, .int s_value, .int 1]))] H := hP
          have hD : va_D A [(o, .inr (1, [.ref o_numbers, .int s_kind, .int s_inOrder, .int s_place, .int s_value, .int 1]))] := hD
          refine lv_iconst (v := 1) hx hb dX1_takeMinus_49 (by decide) ?_
          rw [← hQQ]
          exact g_reti (v := 1) (u := 1) hx hb hr rfl hlocks hw hP hK hD hS dX1_takeMinus_50
        · have hw := hw.2 hc
          refine lv_iconst (v := 0) hx hb dX1_takeMinus_42 (by decide) ?_
          rw [← hQQ]
          exact g_reti (v := 0) (u := s_minus) hx hb hr rfl hlocks hw hP hK hD hS dX1_takeMinus_43
  have J21 : P_X1_takeMinus_J21 s_value s_minus Q  → ∀ (H : Heap) (locs : List Loc) (ls : Array Slot), va_P (dC, dI) vwCl [(o, .inr (1, [.ref o_numbers, .int s_kind, .int s_inOrder, .int s_place, .int s_value, .int s_minus]))] H → va_D A [(o, .inr (1, [.ref o_numbers, .int s_kind, .int s_inOrder, .int s_place, .int s_value, .int s_minus]))] → va_S A s.heap H locs → lv_has ls 2 [(0, .ref o)] → W p l e rm_X1_takeMinus s m ([.ref o] : List Value).toArray below meth c H locs 0 0 QQ (F0 m 21 ls []) := by
    intro hw H locs ls hP hD hS hl
    unfold P_X1_takeMinus_J21 at hw
    refine lv_iconst (v := 0) hx hb dX1_takeMinus_21 (by decide) ?_
    exact J22 0 hw H locs ls hP hD hS hl
  obtain ⟨H, hHH⟩ : ∃ H, H = s.heap := ⟨_, rfl⟩
  rw [← hHH] at hP ⊢
  have hS : va_S A s.heap H [] := by rw [hHH]; exact hS
  clear hHH
  generalize ([] : List Loc) = locs at hS ⊢
  unfold P_X1_takeMinus at hw
  refine lv_aload_n hx hb dX1_takeMinus_0 rfl (lv_at hl 0 rfl) ?_
  refine va_get (D := (dC, dI)) (ci := 1) (v := .int s_kind) (C := RX1) (T := TX1) (N := 6) hx hb ht i_X1 hown hK hP 0 rfl rfl 1 (by decide) (ht _ k_78) (fun _ h9 => h9) rfl dX1_takeMinus_1 ?_
  refine lv_bipush (v := 98) hx hb dX1_takeMinus_4 (by decide) ?_
  refine lv_icmp_ne (tgt := 21) hx hb dX1_takeMinus_6 (by decide) (fun hc => ?_) (fun hc => ?_)
  · have hw := hw.1 hc
    exact J21  hw H locs ls hP hD hS hl
  · have hw := hw.2 hc
    refine lv_aload_n hx hb dX1_takeMinus_9 rfl (lv_at hl 0 rfl) ?_
    refine va_get (D := (dC, dI)) (ci := 1) (v := .int s_place) (C := RX1) (T := TX1) (N := 6) hx hb ht i_X1 hown hK hP 0 rfl rfl 3 (by decide) (ht _ k_80) (fun _ h9 => h9) rfl dX1_takeMinus_10 ?_
    refine lv_iconst (v := 2) hx hb dX1_takeMinus_13 (by decide) ?_
    refine lv_icmp_ne (tgt := 21) hx hb dX1_takeMinus_14 (by decide) (fun hc => ?_) (fun hc => ?_)
    · have hw := hw.1 hc
      exact J21  hw H locs ls hP hD hS hl
    · have hw := hw.2 hc
      refine lv_iconst (v := 1) hx hb dX1_takeMinus_17 (by decide) ?_
      refine lv_goto (tgt := 22) hx hb dX1_takeMinus_18 (by decide) ?_
      exact J22 1 hw H locs ls hP hD hS hl
abbrev rm_X1_feed : Room := { frames := 2, cells := 0, slots := 0, locals := 42 }
set_option maxHeartbeats 4000000 in
set_option maxRecDepth 100000 in
theorem c_X1_feed (l : Launch) (dC : Nat → ClassId) (dI : Nat → Nat → Nat) (cI cJ : ClassId) (z : Nat → Nat) (o o_numbers : Nat) (sz : Nat) (s_numbers : Nat → Int32) (s_kind : Int32) (s_inOrder : Int32) (s_place : Int32) (s_value : Int32) (s_minus : Int32) (p0 : Int32) (Q : Int32 → (Nat → Int32) → Int32 → Int32 → Int32 → Int32 → Int32 → Prop) (hw : P_X1_feed p0 s_numbers s_kind s_inOrder s_place s_value s_minus Q) : Met l yX1_feed (Cond.code yX1_feed cX1_feed 2 (some .int) :: TBL) rm_X1_feed (gPcE z (dC, dI) vwCl (gTy cI cJ) [.ref o, .int p0] [(o, .inr (1, [.ref o_numbers, .int s_kind, .int s_inOrder, .int s_place, .int s_value, .int s_minus])), (o_numbers, .inl (cI, 4, .inl s_numbers))] sz) (va_Qi (fun (r : Int32) (u : (Nat → Int32) × Int32 × Int32 × Int32 × Int32 × Int32) => Q r u.1 u.2.1 u.2.2.1 u.2.2.2.1 u.2.2.2.2.1 u.2.2.2.2.2) (gB (dC, dI) vwCl (gTy cI cJ) (va_A [(o, .inr (1, [.ref o_numbers, .int s_kind, .int s_inOrder, .int s_place, .int s_value, .int s_minus])), (o_numbers, .inl (cI, 4, .inl s_numbers))] sz) (fun (u : (Nat → Int32) × Int32 × Int32 × Int32 × Int32 × Int32) => [(o, .inr (1, [.ref o_numbers, .int u.2.1, .int u.2.2.1, .int u.2.2.2.1, .int u.2.2.2.2.1, .int u.2.2.2.2.2])), (o_numbers, .inl (cI, 4, .inl u.1))])) (va_A [(o, .inr (1, [.ref o_numbers, .int s_kind, .int s_inOrder, .int s_place, .int s_value, .int s_minus])), (o_numbers, .inl (cI, 4, .inl s_numbers))] sz)) 0 0 (va_A [(o, .inr (1, [.ref o_numbers, .int s_kind, .int s_inOrder, .int s_place, .int s_value, .int s_minus])), (o_numbers, .inl (cI, 4, .inl s_numbers))] sz) := by
  refine Met.ofW (cc := cX1_feed) (maxL := 2) (ret := (some .int)) (by decide) rfl ?_
  intro p e s m args below meth c s₁ B hml hv
  obtain ⟨rfl, ⟨hsz, hP, hK, hD0⟩, hE⟩ := hv
  have hx := B.exec
  have hb := B.bytes
  have hr := B.returns
  have hts := atoms_spec (ws := Cond.code yX1_feed cX1_feed 2 (some .int) :: TBL) B.pre
  have ht : ∀ w ∈ TBL, w.before ([.ref o, .int p0] : List Value).toArray s = true := fun w h => hts w (List.mem_cons_of_mem _ h)
  clear hts
  have hown : s.vm.findClass RX1 = some m.cls := findClass_of_methodNamed B.named
  have hlocks := B.notSynchronized
  clear B
  subst hsz
  have hD := hD0.self (sz := s.heap.size)
  clear hD0
  generalize hAe : va_A [(o, .inr (1, [.ref o_numbers, .int s_kind, .int s_inOrder, .int s_place, .int s_value, .int s_minus])), (o_numbers, .inl (cI, 4, .inl s_numbers))] s.heap.size = A at hD hE ⊢
  have hA : ∀ q : Nat, s.heap.size ≤ q → A q := fun q h => by rw [← hAe]; exact Or.inr h
  clear hAe
  have hS : va_S A s.heap s.heap [] := va_S.rf
  have hP : va_P (dC, dI) vwCl [(o, .inr (1, [.ref o_numbers, .int s_kind, .int s_inOrder, .int s_place, .int s_value, .int s_minus])), (o_numbers, .inl (cI, 4, .inl s_numbers))] s.heap := hP
  have hl := lv_entry ([.ref o, .int p0]) (n := 2) (Nat.le_of_ble_eq_true rfl)
  rw [lg_entry_eq]
  generalize (lg_sl ([.ref o, .int p0]) ++ List.replicate (2 - (lg_sl ([.ref o, .int p0])).length) Slot.unset).toArray = ls at hl ⊢
  have hl : lv_has ls 2 [(0, .ref o), (1, .int p0)] := hl
  generalize hQQ : MQ below _ _ _ 0 0 A = QQ
  show W p l e rm_X1_feed s m ([.ref o, .int p0] : List Value).toArray below meth c s.heap [] 0 0 QQ (F0 m 0 ls [])
  have J34 : ∀ (x1 : Int32), P_X1_feed_J34 s_numbers s_kind s_inOrder s_place s_value s_minus Q x1 → ∀ (H : Heap) (locs : List Loc) (ls : Array Slot), va_P (dC, dI) vwCl [(o, .inr (1, [.ref o_numbers, .int s_kind, .int s_inOrder, .int s_place, .int s_value, .int s_minus])), (o_numbers, .inl (cI, 4, .inl s_numbers))] H → va_D A [(o, .inr (1, [.ref o_numbers, .int s_kind, .int s_inOrder, .int s_place, .int s_value, .int s_minus])), (o_numbers, .inl (cI, 4, .inl s_numbers))] → va_S A s.heap H locs → lv_has ls 2 [(0, .ref o), (1, .int x1)] → W p l e rm_X1_feed s m ([.ref o, .int p0] : List Value).toArray below meth c H locs 0 0 QQ (F0 m 34 ls []) := by
    intro x1 hw H locs ls hP hD hS hl
    unfold P_X1_feed_J34 at hw
    refine lv_iload_n hx hb dX1_feed_34 rfl (lv_at hl 1 rfl) ?_
    refine lv_bipush (v := 45) hx hb dX1_feed_35 (by decide) ?_
    refine lv_icmp_ne (tgt := 45) hx hb dX1_feed_37 (by decide) (fun hc => ?_) (fun hc => ?_)
    · have hw := hw.1 hc
      refine lv_aload_n hx hb dX1_feed_45 rfl (lv_at hl 0 rfl) ?_
      refine va_get (D := (dC, dI)) (ci := 1) (v := .int s_value) (C := RX1) (T := TX1) (N := 6) hx hb ht i_X1 hown hK hP 0 rfl rfl 4 (by decide) (ht _ k_81) (fun _ h9 => h9) rfl dX1_feed_46 ?_
      refine lv_iconst (v := (-1)) hx hb dX1_feed_49 (by decide) ?_
      refine lv_icmp_eq (tgt := 68) hx hb dX1_feed_50 (by decide) (fun hc => ?_) (fun hc => ?_)
      · have hw := hw.1 hc
        refine lv_iconst (v := 0) hx hb dX1_feed_68 (by decide) ?_
        rw [← hQQ]
        exact g_reti (v := 0) (u := (s_numbers, s_kind, s_inOrder, s_place, s_value, s_minus)) hx hb hr rfl hlocks hw hP hK hD hS dX1_feed_69
      · have hw := hw.2 hc
        refine lv_iload_n hx hb dX1_feed_53 rfl (lv_at hl 1 rfl) ?_
        refine lv_aload_n hx hb dX1_feed_54 rfl (lv_at hl 0 rfl) ?_
        refine gcE_Vi (As := []) (rest := [.int x1]) (wr := [(o_numbers, .inl (cI, 4, .inl s_numbers))]) ⟨hx, hb, hml, hown, ht⟩ (c_X1_endCode l dC dI cI cJ z o o_numbers H.size s_kind s_place s_inOrder s_value s_minus _ hw) (cwV 0 ht (g_V k_169 k_171 k_s7 k_4 k_172) rfl rfl rfl (by decide +kernel) ⟨(Nat.le_of_ble_eq_true rfl), (Nat.le_of_ble_eq_true rfl)⟩) hK hP hD hS hA hE [0] [1] rfl rfl (by decide) 0 rfl rfl rfl rfl hl.1 rfl (Nat.le_of_ble_eq_true rfl) ⟨(Nat.le_of_ble_eq_true rfl), (Nat.le_of_ble_eq_true rfl)⟩ dX1_feed_55 (fun r_1 u H locs hw hP hD hS => ?_)
        try dsimp only at hw
        have hP : va_P (dC, dI) vwCl [(o_numbers, .inl (cI, 4, .inl s_numbers)), (o, .inr (1, [.ref o_numbers, .int s_kind, .int s_inOrder, .int s_place, .int s_value, .int s_minus]))] H := hP
        have hD : va_D A [(o_numbers, .inl (cI, 4, .inl s_numbers)), (o, .inr (1, [.ref o_numbers, .int s_kind, .int s_inOrder, .int s_place, .int s_value, .int s_minus]))] := hD
        refine lv_icmp_ne (tgt := 68) hx hb dX1_feed_58 (by decide) (fun hc => ?_) (fun hc => ?_)
        · have hw := hw.1 hc
          refine lv_iconst (v := 0) hx hb dX1_feed_68 (by decide) ?_
          rw [← hQQ]
          exact g_reti (v := 0) (u := (s_numbers, s_kind, s_inOrder, s_place, s_value, s_minus)) hx hb hr rfl hlocks hw (hP.sub (ws' := [(o, .inr (1, [.ref o_numbers, .int s_kind, .int s_inOrder, .int s_place, .int s_value, .int s_minus])), (o_numbers, .inl (cI, 4, .inl s_numbers))]) [1, 0] rfl) hK (hD.sub (ws' := [(o, .inr (1, [.ref o_numbers, .int s_kind, .int s_inOrder, .int s_place, .int s_value, .int s_minus])), (o_numbers, .inl (cI, 4, .inl s_numbers))]) [1, 0] (by decide) rfl) hS dX1_feed_69
        · have hw := hw.2 hc
          refine lv_aload_n hx hb dX1_feed_61 rfl (lv_at hl 0 rfl) ?_
          refine gcE_Vi (As := []) (rest := []) (wr := []) ⟨hx, hb, hml, hown, ht⟩ (c_X1_endNumber l dC dI cI cJ z o o_numbers H.size s_numbers s_kind s_inOrder s_place s_value s_minus _ hw) (cwV 0 ht (g_V k_177 k_179 k_s8 k_4 k_180) rfl rfl rfl (by decide +kernel) ⟨(Nat.le_of_ble_eq_true rfl), (Nat.le_of_ble_eq_true rfl)⟩) hK hP hD hS hA hE [1, 0] [] rfl rfl (by decide) 1 rfl rfl rfl rfl hl.1 rfl (Nat.le_of_ble_eq_true rfl) ⟨(Nat.le_of_ble_eq_true rfl), (Nat.le_of_ble_eq_true rfl)⟩ dX1_feed_62 (fun r_2 u H locs hw hP hD hS => ?_)
          obtain ⟨s_numbers_3, s_inOrder_4, s_place_5, s_value_6, s_minus_7⟩ := u
          try dsimp only at hw
          have hP : va_P (dC, dI) vwCl [(o, .inr (1, [.ref o_numbers, .int s_kind, .int s_inOrder_4, .int s_place_5, .int s_value_6, .int s_minus_7])), (o_numbers, .inl (cI, 4, .inl s_numbers_3))] H := hP
          have hD : va_D A [(o, .inr (1, [.ref o_numbers, .int s_kind, .int s_inOrder_4, .int s_place_5, .int s_value_6, .int s_minus_7])), (o_numbers, .inl (cI, 4, .inl s_numbers_3))] := hD
          refine lv_goto (tgt := 69) hx hb dX1_feed_65 (by decide) ?_
          rw [← hQQ]
          exact g_reti (v := r_2) (u := (s_numbers_3, s_kind, s_inOrder_4, s_place_5, s_value_6, s_minus_7)) hx hb hr rfl hlocks hw hP hK hD hS dX1_feed_69
    · have hw := hw.2 hc
      refine lv_aload_n hx hb dX1_feed_40 rfl (lv_at hl 0 rfl) ?_
      refine gc_Vi (As := []) (rest := []) (wr := [(o_numbers, .inl (cI, 4, .inl s_numbers))]) ⟨hx, hb, hml, hown, ht⟩ (c_X1_takeMinus l dC dI cI cJ o o_numbers H.size s_kind s_place s_value s_minus s_inOrder _ hw) (cwV 0 ht (g_V k_165 k_167 k_s6 k_4 k_168) rfl rfl rfl (by decide +kernel) ⟨(Nat.le_of_ble_eq_true rfl), (Nat.le_of_ble_eq_true rfl)⟩) hK hP hD hS hA [0] [1] rfl rfl (by decide) 0 rfl rfl rfl rfl hl.1 rfl (Nat.le_of_ble_eq_true rfl) ⟨(Nat.le_of_ble_eq_true rfl), (Nat.le_of_ble_eq_true rfl)⟩ dX1_feed_41 (fun r_8 u H locs hw hP hD hS => ?_)
      obtain ⟨s_minus_9, rfl⟩ : ∃ z, z = u := ⟨_, rfl⟩
      try dsimp only at hw
      have hP : va_P (dC, dI) vwCl [(o_numbers, .inl (cI, 4, .inl s_numbers)), (o, .inr (1, [.ref o_numbers, .int s_kind, .int s_inOrder, .int s_place, .int s_value, .int s_minus_9]))] H := hP
      have hD : va_D A [(o_numbers, .inl (cI, 4, .inl s_numbers)), (o, .inr (1, [.ref o_numbers, .int s_kind, .int s_inOrder, .int s_place, .int s_value, .int s_minus_9]))] := hD
      rw [← hQQ]
      exact g_reti (v := r_8) (u := (s_numbers, s_kind, s_inOrder, s_place, s_value, s_minus_9)) hx hb hr rfl hlocks hw (hP.sub (ws' := [(o, .inr (1, [.ref o_numbers, .int s_kind, .int s_inOrder, .int s_place, .int s_value, .int s_minus_9])), (o_numbers, .inl (cI, 4, .inl s_numbers))]) [1, 0] rfl) hK (hD.sub (ws' := [(o, .inr (1, [.ref o_numbers, .int s_kind, .int s_inOrder, .int s_place, .int s_value, .int s_minus_9])), (o_numbers, .inl (cI, 4, .inl s_numbers))]) [1, 0] (by decide) rfl) hS dX1_feed_44
  obtain ⟨H, hHH⟩ : ∃ H, H = s.heap := ⟨_, rfl⟩
  rw [← hHH] at hP ⊢
  have hS : va_S A s.heap H [] := by rw [hHH]; exact hS
  clear hHH
  generalize ([] : List Loc) = locs at hS ⊢
  unfold P_X1_feed at hw
  refine lv_aload_n hx hb dX1_feed_0 rfl (lv_at hl 0 rfl) ?_
  refine va_get (D := (dC, dI)) (ci := 1) (v := .int s_inOrder) (C := RX1) (T := TX1) (N := 6) hx hb ht i_X1 hown hK hP 0 rfl rfl 2 (by decide) (ht _ k_79) (fun _ h9 => h9) rfl dX1_feed_1 ?_
  refine lv_if_ne (tgt := 13) hx hb dX1_feed_4 (by decide) (fun hc => ?_) (fun hc => ?_)
  · have hw := hw.1 hc
    refine lv_iload_n hx hb dX1_feed_13 rfl (lv_at hl 1 rfl) ?_
    refine lv_bipush (v := 48) hx hb dX1_feed_14 (by decide) ?_
    refine lv_icmp_lt (tgt := 34) hx hb dX1_feed_16 (by decide) (fun hc => ?_) (fun hc => ?_)
    · have hw := hw.1 hc
      exact J34 p0 hw H locs ls hP hD hS hl
    · have hw := hw.2 hc
      refine lv_iload_n hx hb dX1_feed_19 rfl (lv_at hl 1 rfl) ?_
      refine lv_bipush (v := 57) hx hb dX1_feed_20 (by decide) ?_
      refine lv_icmp_gt (tgt := 34) hx hb dX1_feed_22 (by decide) (fun hc => ?_) (fun hc => ?_)
      · have hw := hw.1 hc
        exact J34 p0 hw H locs ls hP hD hS hl
      · have hw := hw.2 hc
        refine lv_aload_n hx hb dX1_feed_25 rfl (lv_at hl 0 rfl) ?_
        refine lv_iload_n hx hb dX1_feed_26 rfl (lv_at hl 1 rfl) ?_
        refine lv_bipush (v := 48) hx hb dX1_feed_27 (by decide) ?_
        refine lv_isub hx hb dX1_feed_29 ?_
        refine gcE_Vi (As := [.int (p0 - 48)]) (rest := []) (wr := [(o_numbers, .inl (cI, 4, .inl s_numbers))]) ⟨hx, hb, hml, hown, ht⟩ (c_X1_takeDigit l dC dI cI cJ z o o_numbers H.size s_kind s_place s_value s_inOrder s_minus (p0 - 48) _ hw) (cwV 1 ht (g_V k_149 k_151 k_s3 k_4 k_152) rfl rfl rfl (by decide +kernel) ⟨(Nat.le_of_ble_eq_true rfl), (Nat.le_of_ble_eq_true rfl)⟩) hK hP hD hS hA hE [0] [1] rfl rfl (by decide) 0 rfl rfl rfl rfl hl.1 rfl (Nat.le_of_ble_eq_true rfl) ⟨(Nat.le_of_ble_eq_true rfl), (Nat.le_of_ble_eq_true rfl)⟩ dX1_feed_30 (fun r_10 u H locs hw hP hD hS => ?_)
        obtain ⟨s_value_11, rfl⟩ : ∃ z, z = u := ⟨_, rfl⟩
        try dsimp only at hw
        have hP : va_P (dC, dI) vwCl [(o_numbers, .inl (cI, 4, .inl s_numbers)), (o, .inr (1, [.ref o_numbers, .int s_kind, .int s_inOrder, .int s_place, .int s_value_11, .int s_minus]))] H := hP
        have hD : va_D A [(o_numbers, .inl (cI, 4, .inl s_numbers)), (o, .inr (1, [.ref o_numbers, .int s_kind, .int s_inOrder, .int s_place, .int s_value_11, .int s_minus]))] := hD
        rw [← hQQ]
        exact g_reti (v := r_10) (u := (s_numbers, s_kind, s_inOrder, s_place, s_value_11, s_minus)) hx hb hr rfl hlocks hw (hP.sub (ws' := [(o, .inr (1, [.ref o_numbers, .int s_kind, .int s_inOrder, .int s_place, .int s_value_11, .int s_minus])), (o_numbers, .inl (cI, 4, .inl s_numbers))]) [1, 0] rfl) hK (hD.sub (ws' := [(o, .inr (1, [.ref o_numbers, .int s_kind, .int s_inOrder, .int s_place, .int s_value_11, .int s_minus])), (o_numbers, .inl (cI, 4, .inl s_numbers))]) [1, 0] (by decide) rfl) hS dX1_feed_33
  · have hw := hw.2 hc
    refine lv_aload_n hx hb dX1_feed_7 rfl (lv_at hl 0 rfl) ?_
    refine lv_iload_n hx hb dX1_feed_8 rfl (lv_at hl 1 rfl) ?_
    refine gc_Vi (As := [.int p0]) (rest := []) (wr := [(o_numbers, .inl (cI, 4, .inl s_numbers))]) ⟨hx, hb, hml, hown, ht⟩ (c_X1_startOrder l dC dI cI cJ o o_numbers H.size s_kind s_inOrder s_place s_value s_minus p0 _ hw) (cwV 1 ht (g_V k_141 k_143 k_s1 k_4 k_144) rfl rfl rfl (by decide +kernel) ⟨(Nat.le_of_ble_eq_true rfl), (Nat.le_of_ble_eq_true rfl)⟩) hK hP hD hS hA [0] [1] rfl rfl (by decide) 0 rfl rfl rfl rfl hl.1 rfl (Nat.le_of_ble_eq_true rfl) ⟨(Nat.le_of_ble_eq_true rfl), (Nat.le_of_ble_eq_true rfl)⟩ dX1_feed_9 (fun r_12 u H locs hw hP hD hS => ?_)
    obtain ⟨s_kind_13, s_inOrder_14, s_place_15, s_value_16, s_minus_17⟩ := u
    try dsimp only at hw
    have hP : va_P (dC, dI) vwCl [(o_numbers, .inl (cI, 4, .inl s_numbers)), (o, .inr (1, [.ref o_numbers, .int s_kind_13, .int s_inOrder_14, .int s_place_15, .int s_value_16, .int s_minus_17]))] H := hP
    have hD : va_D A [(o_numbers, .inl (cI, 4, .inl s_numbers)), (o, .inr (1, [.ref o_numbers, .int s_kind_13, .int s_inOrder_14, .int s_place_15, .int s_value_16, .int s_minus_17]))] := hD
    rw [← hQQ]
    exact g_reti (v := r_12) (u := (s_numbers, s_kind_13, s_inOrder_14, s_place_15, s_value_16, s_minus_17)) hx hb hr rfl hlocks hw (hP.sub (ws' := [(o, .inr (1, [.ref o_numbers, .int s_kind_13, .int s_inOrder_14, .int s_place_15, .int s_value_16, .int s_minus_17])), (o_numbers, .inl (cI, 4, .inl s_numbers))]) [1, 0] rfl) hK (hD.sub (ws' := [(o, .inr (1, [.ref o_numbers, .int s_kind_13, .int s_inOrder_14, .int s_place_15, .int s_value_16, .int s_minus_17])), (o_numbers, .inl (cI, 4, .inl s_numbers))]) [1, 0] (by decide) rfl) hS dX1_feed_12
