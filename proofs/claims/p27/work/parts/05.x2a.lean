def P_X2_shine_J77 (rec33 : Int32 → (Nat → Int64) → Prop) (x9 : Int32) (s_light : Nat → Int64) : Prop :=
  rec33 (x9 + 1) s_light
def B_X2_shine_L33 (x5 : Int32) (x6 : Int32) (x7 : Int64) (K33_83 : (Nat → Int64) → Prop) (rec33 : Int32 → (Nat → Int64) → Prop) (x9 : Int32) (s_light : Nat → Int64) : Prop :=
  ((8 ≤ x9 → K33_83 s_light) ∧ (¬ 8 ≤ x9 → (((lg_cmp x7 0) = 0 → K33_83 s_light) ∧ (¬ (lg_cmp x7 0) = 0 → ((¬ ((x5 >>> (x9 &&& 31)) &&& 1) = 1 → P_X2_shine_J77 rec33 x9 s_light) ∧ (((x5 >>> (x9 &&& 31)) &&& 1) = 1 → vp_in ((x9 * 200) + x6) 1600 ∧ vp_in ((x9 * 200) + x6) 1600 ∧ P_X2_shine_J77 rec33 x9 (vp_updL s_light (((x9 * 200) + x6).toNatClampNeg) ((s_light (((x9 * 200) + x6).toNatClampNeg)) ||| x7))))))))
noncomputable def P_X2_shine_L33 (x5 : Int32) (x6 : Int32) (x7 : Int64) (K33_83 : (Nat → Int64) → Prop) (n : Nat) : Int32 → (Nat → Int64) → Prop := Nat.rec (motive := fun _ => Int32 → (Nat → Int64) → Prop) (fun _ _ => False) (fun _ r => B_X2_shine_L33 x5 x6 x7 K33_83 r) n
theorem P_X2_shine_L33_z (x5 : Int32) (x6 : Int32) (x7 : Int64) (K33_83 : (Nat → Int64) → Prop) (x9 : Int32) (s_light : Nat → Int64) : P_X2_shine_L33 x5 x6 x7 K33_83 0 x9 s_light = False := rfl
theorem P_X2_shine_L33_s (x5 : Int32) (x6 : Int32) (x7 : Int64) (K33_83 : (Nat → Int64) → Prop) (n : Nat) (x9 : Int32) (s_light : Nat → Int64) : P_X2_shine_L33 x5 x6 x7 K33_83 (n + 1) x9 s_light = B_X2_shine_L33 x5 x6 x7 K33_83 (P_X2_shine_L33 x5 x6 x7 K33_83 n) x9 s_light := rfl
def B_X2_shine_L7 (x1 : Int32) (x2 : Int32) (x3 : Int32) (x4 : Int32) (x5 : Int32) (Q : (Nat → Int64) → Prop) (rec7 : Int32 → (Nat → Int64) → Prop) (x6 : Int32) (s_light : Nat → Int64) : Prop :=
  ((200 ≤ x6 → Q s_light) ∧ (¬ 200 ≤ x6 → P_X0_columnBits (x2 + (x3 * (x6 - x1))) x4 (fun (r_3 : Int64) => ∃ n : Nat, P_X2_shine_L33 x5 x6 r_3 (fun (s_light_4 : Nat → Int64) => rec7 (x6 + 1) s_light_4) n 0 s_light)))
noncomputable def P_X2_shine_L7 (x1 : Int32) (x2 : Int32) (x3 : Int32) (x4 : Int32) (x5 : Int32) (Q : (Nat → Int64) → Prop) (n : Nat) : Int32 → (Nat → Int64) → Prop := Nat.rec (motive := fun _ => Int32 → (Nat → Int64) → Prop) (fun _ _ => False) (fun _ r => B_X2_shine_L7 x1 x2 x3 x4 x5 Q r) n
theorem P_X2_shine_L7_z (x1 : Int32) (x2 : Int32) (x3 : Int32) (x4 : Int32) (x5 : Int32) (Q : (Nat → Int64) → Prop) (x6 : Int32) (s_light : Nat → Int64) : P_X2_shine_L7 x1 x2 x3 x4 x5 Q 0 x6 s_light = False := rfl
theorem P_X2_shine_L7_s (x1 : Int32) (x2 : Int32) (x3 : Int32) (x4 : Int32) (x5 : Int32) (Q : (Nat → Int64) → Prop) (n : Nat) (x6 : Int32) (s_light : Nat → Int64) : P_X2_shine_L7 x1 x2 x3 x4 x5 Q (n + 1) x6 s_light = B_X2_shine_L7 x1 x2 x3 x4 x5 Q (P_X2_shine_L7 x1 x2 x3 x4 x5 Q n) x6 s_light := rfl
def P_X2_shine (p0 : Int32) (p1 : Int32) (p2 : Int32) (p3 : Int32) (p4 : Int32) (s_light : Nat → Int64) (Q : (Nat → Int64) → Prop) : Prop :=
  ∃ n : Nat, P_X2_shine_L7 p0 p1 p2 p3 p4 Q n (if p0 < 0 then 0 else p0) s_light
def P_X2_shineAllBut_J75 (rec10 : Int32 → (Nat → Int64) → Prop) (x2 : Int32) (s_light : Nat → Int64) : Prop :=
  rec10 (x2 + 1) s_light
def B_X2_shineAllBut_L10 (x1 : Int32) (s_credits_cells : Nat → Int32) (Q : (Nat → Int64) → Prop) (rec10 : Int32 → (Nat → Int64) → Prop) (x2 : Int32) (s_light : Nat → Int64) : Prop :=
  P_X0_beams s_credits_cells (fun (r_1 : Int32) => ((r_1 ≤ x2 → Q s_light) ∧ (¬ r_1 ≤ x2 → ((x2 = x1 → P_X2_shineAllBut_J75 rec10 x2 s_light) ∧ (¬ x2 = x1 → P_X0_ofBeam x2 0 s_credits_cells (fun (r_2 : Int32) => P_X0_ofBeam x2 1 s_credits_cells (fun (r_3 : Int32) => P_X0_ofBeam x2 2 s_credits_cells (fun (r_4 : Int32) => P_X0_ofBeam x2 3 s_credits_cells (fun (r_5 : Int32) => P_X0_ofBeam x2 4 s_credits_cells (fun (r_6 : Int32) => P_X2_shine r_2 r_3 r_4 r_5 r_6 s_light (fun (s_light_7 : Nat → Int64) => P_X2_shineAllBut_J75 rec10 x2 s_light_7)))))))))))
noncomputable def P_X2_shineAllBut_L10 (x1 : Int32) (s_credits_cells : Nat → Int32) (Q : (Nat → Int64) → Prop) (n : Nat) : Int32 → (Nat → Int64) → Prop := Nat.rec (motive := fun _ => Int32 → (Nat → Int64) → Prop) (fun _ _ => False) (fun _ r => B_X2_shineAllBut_L10 x1 s_credits_cells Q r) n
theorem P_X2_shineAllBut_L10_z (x1 : Int32) (s_credits_cells : Nat → Int32) (Q : (Nat → Int64) → Prop) (x2 : Int32) (s_light : Nat → Int64) : P_X2_shineAllBut_L10 x1 s_credits_cells Q 0 x2 s_light = False := rfl
theorem P_X2_shineAllBut_L10_s (x1 : Int32) (s_credits_cells : Nat → Int32) (Q : (Nat → Int64) → Prop) (n : Nat) (x2 : Int32) (s_light : Nat → Int64) : P_X2_shineAllBut_L10 x1 s_credits_cells Q (n + 1) x2 s_light = B_X2_shineAllBut_L10 x1 s_credits_cells Q (P_X2_shineAllBut_L10 x1 s_credits_cells Q n) x2 s_light := rfl
def P_X2_shineAllBut (p0 : Int32) (s_credits_cells : Nat → Int32) (s_light : Nat → Int64) (Q : (Nat → Int64) → Prop) : Prop :=
  P_J7_fill_d0a16 1600 0 s_light (fun (s_light_8 : Nat → Int64) => ∃ n : Nat, P_X2_shineAllBut_L10 p0 s_credits_cells Q n 0 s_light_8)
def P_X2_allOf (p0 : Int32) (Q : Int32 → Prop) : Prop :=
  Q ((1 <<< (p0 &&& 31)) - 1)
def P_X2_findReach_J107 (rec35 : Int32 → (Nat → Int32) → Prop) (x7 : Int32) (t0 : Int32) (t1 : Int32) (s_reach : Nat → Int32) : Prop :=
  vp_in t1 200 ∧ rec35 (x7 + 1) (upd s_reach t1.toNatClampNeg t0)
def P_X2_findReach_J76 (x5 : Int32) (x6 : Int32) (s_light : Nat → Int64) (rec35 : Int32 → (Nat → Int32) → Prop) (x7 : Int32) (x8 : Int32) (t0 : Int32) (s_reach : Nat → Int32) : Prop :=
  ((t0 = 0 → P_X2_findReach_J107 rec35 x7 0 x7 s_reach) ∧ (¬ t0 = 0 → vp_in x8 1600 ∧ P_X2_findReach_J107 rec35 x7 ((((s_light x8.toNatClampNeg).toUInt64 >>> (x5.toInt64.toUInt64 &&& Int64.toUInt64 63)).toInt64).toInt32 &&& x6) x7 s_reach))
def P_X2_findReach_J75 (x5 : Int32) (x6 : Int32) (s_light : Nat → Int64) (rec35 : Int32 → (Nat → Int32) → Prop) (x7 : Int32) (x8 : Int32) (s_reach : Nat → Int32) : Prop :=
  P_X2_findReach_J76 x5 x6 s_light rec35 x7 x8 0 s_reach
def B_X2_findReach_L35 (x3 : Int32) (x4 : Int32) (x5 : Int32) (x6 : Int32) (s_light : Nat → Int64) (Q : (Nat → Int32) → Prop) (rec35 : Int32 → (Nat → Int32) → Prop) (x7 : Int32) (s_reach : Nat → Int32) : Prop :=
  ((200 ≤ x7 → Q s_reach) ∧ (¬ 200 ≤ x7 → ((x7 < x3 → P_X2_findReach_J75 x5 x6 s_light rec35 x7 (x4 + x7) s_reach) ∧ (¬ x7 < x3 → (((x4 + x7) < 0 → P_X2_findReach_J75 x5 x6 s_light rec35 x7 (x4 + x7) s_reach) ∧ (¬ (x4 + x7) < 0 → ((1600 ≤ (x4 + x7) → P_X2_findReach_J75 x5 x6 s_light rec35 x7 (x4 + x7) s_reach) ∧ (¬ 1600 ≤ (x4 + x7) → P_X2_findReach_J76 x5 x6 s_light rec35 x7 (x4 + x7) 1 s_reach))))))))
noncomputable def P_X2_findReach_L35 (x3 : Int32) (x4 : Int32) (x5 : Int32) (x6 : Int32) (s_light : Nat → Int64) (Q : (Nat → Int32) → Prop) (n : Nat) : Int32 → (Nat → Int32) → Prop := Nat.rec (motive := fun _ => Int32 → (Nat → Int32) → Prop) (fun _ _ => False) (fun _ r => B_X2_findReach_L35 x3 x4 x5 x6 s_light Q r) n
theorem P_X2_findReach_L35_z (x3 : Int32) (x4 : Int32) (x5 : Int32) (x6 : Int32) (s_light : Nat → Int64) (Q : (Nat → Int32) → Prop) (x7 : Int32) (s_reach : Nat → Int32) : P_X2_findReach_L35 x3 x4 x5 x6 s_light Q 0 x7 s_reach = False := rfl
theorem P_X2_findReach_L35_s (x3 : Int32) (x4 : Int32) (x5 : Int32) (x6 : Int32) (s_light : Nat → Int64) (Q : (Nat → Int32) → Prop) (n : Nat) (x7 : Int32) (s_reach : Nat → Int32) : P_X2_findReach_L35 x3 x4 x5 x6 s_light Q (n + 1) x7 s_reach = B_X2_findReach_L35 x3 x4 x5 x6 s_light Q (P_X2_findReach_L35 x3 x4 x5 x6 s_light Q n) x7 s_reach := rfl
def P_X2_findReach (p0 : Int32) (p1 : Int32) (p2 : Int32) (s_credits_cells : Nat → Int32) (s_light : Nat → Int64) (s_reach : Nat → Int32) (Q : (Nat → Int32) → Prop) : Prop :=
  P_X0_ofWord p0 1 s_credits_cells (fun (r_3 : Int32) => P_X0_ofWord p0 2 s_credits_cells (fun (r_4 : Int32) => P_X2_allOf p1 (fun (r_5 : Int32) => ∃ n : Nat, P_X2_findReach_L35 p2 (r_3 * 200) r_4 r_5 s_light Q n 0 s_reach)))
def P_X2_litBeat (p0 : Int32) (p1 : Int32) (s_lit : Nat → Int32) (Q : Int32 → Prop) : Prop :=
  ((((p0 * 12) + p1) < 0 → Q (-1)) ∧ (¬ ((p0 * 12) + p1) < 0 → ((96 ≤ ((p0 * 12) + p1) → Q (-1)) ∧ (¬ 96 ≤ ((p0 * 12) + p1) → vp_in ((p0 * 12) + p1) 96 ∧ Q (s_lit (((p0 * 12) + p1).toNatClampNeg))))))
def P_X2_nextBar_J21 (rec2 : Int32 → Prop) (x2 : Int32) : Prop :=
  rec2 (x2 + 1)
def B_X2_nextBar_L2 (x1 : Int32) (Q : Int32 → Prop) (rec2 : Int32 → Prop) (x2 : Int32) : Prop :=
  ((200 ≤ x2 → Q 200) ∧ (¬ 200 ≤ x2 → ((x1 ≤ 0 → P_X2_nextBar_J21 rec2 x2) ∧ (¬ x1 ≤ 0 → ¬ x1 = 0 ∧ ((¬ (x2 - x2 / x1 * x1) = 0 → P_X2_nextBar_J21 rec2 x2) ∧ ((x2 - x2 / x1 * x1) = 0 → Q x2))))))
noncomputable def P_X2_nextBar_L2 (x1 : Int32) (Q : Int32 → Prop) (n : Nat) : Int32 → Prop := Nat.rec (motive := fun _ => Int32 → Prop) (fun _ => False) (fun _ r => B_X2_nextBar_L2 x1 Q r) n
theorem P_X2_nextBar_L2_z (x1 : Int32) (Q : Int32 → Prop) (x2 : Int32) : P_X2_nextBar_L2 x1 Q 0 x2 = False := rfl
theorem P_X2_nextBar_L2_s (x1 : Int32) (Q : Int32 → Prop) (n : Nat) (x2 : Int32) : P_X2_nextBar_L2 x1 Q (n + 1) x2 = B_X2_nextBar_L2 x1 Q (P_X2_nextBar_L2 x1 Q n) x2 := rfl
def P_X2_nextBar (p0 : Int32) (p1 : Int32) (Q : Int32 → Prop) : Prop :=
  ∃ n : Nat, P_X2_nextBar_L2 p1 Q n p0
def P_X2_finish_J61 (rec28 : Int32 → Int32 → Prop) (x4 : Int32) (t0 : Int32) : Prop :=
  rec28 t0 (x4 + 1)
def B_X2_finish_L28 (x1 : Int32) (x2 : Int32) (s_lit : Nat → Int32) (K28_68 : Int32 → Prop) (rec28 : Int32 → Int32 → Prop) (x3 : Int32) (x4 : Int32) : Prop :=
  ((x2 ≤ x4 → K28_68 x3) ∧ (¬ x2 ≤ x4 → P_X2_litBeat x1 x4 s_lit (fun (r_1 : Int32) => ((¬ r_1 = (-1) → P_X2_finish_J61 rec28 x4 (if x3 < r_1 then r_1 else x3)) ∧ (r_1 = (-1) → P_X2_finish_J61 rec28 x4 200)))))
noncomputable def P_X2_finish_L28 (x1 : Int32) (x2 : Int32) (s_lit : Nat → Int32) (K28_68 : Int32 → Prop) (n : Nat) : Int32 → Int32 → Prop := Nat.rec (motive := fun _ => Int32 → Int32 → Prop) (fun _ _ => False) (fun _ r => B_X2_finish_L28 x1 x2 s_lit K28_68 r) n
theorem P_X2_finish_L28_z (x1 : Int32) (x2 : Int32) (s_lit : Nat → Int32) (K28_68 : Int32 → Prop) (x3 : Int32) (x4 : Int32) : P_X2_finish_L28 x1 x2 s_lit K28_68 0 x3 x4 = False := rfl
theorem P_X2_finish_L28_s (x1 : Int32) (x2 : Int32) (s_lit : Nat → Int32) (K28_68 : Int32 → Prop) (n : Nat) (x3 : Int32) (x4 : Int32) : P_X2_finish_L28 x1 x2 s_lit K28_68 (n + 1) x3 x4 = B_X2_finish_L28 x1 x2 s_lit K28_68 (P_X2_finish_L28 x1 x2 s_lit K28_68 n) x3 x4 := rfl
def P_X2_finish_J100 (s_credits_cells : Nat → Int32) (s_whole : Nat → Int32) (s_ends : Nat → Int32) (Q : (Nat → Int32) → (Nat → Int32) → Prop) (x1 : Int32) (x3 : Int32) (x4 : Int32) (t0 : Int32) (t1 : Int32) : Prop :=
  vp_in t1 8 ∧ P_X0_setting 0 s_credits_cells (fun (r_3 : Int32) => P_X2_nextBar (x3 + x4) r_3 (fun (r_4 : Int32) => vp_in x1 8 ∧ Q (upd s_whole t1.toNatClampNeg t0) (upd s_ends x1.toNatClampNeg r_4)))
def P_X2_finish (p0 : Int32) (p1 : Int32) (s_credits_cells : Nat → Int32) (s_lit : Nat → Int32) (s_whole : Nat → Int32) (s_ends : Nat → Int32) (Q : (Nat → Int32) → (Nat → Int32) → Prop) : Prop :=
  ((p0 < 0 → Q s_whole s_ends) ∧ (¬ p0 < 0 → ((8 ≤ p0 → Q s_whole s_ends) ∧ (¬ 8 ≤ p0 → ((p0 < 8 → ∃ n : Nat, P_X2_finish_L28 p0 p1 s_lit (fun (x3_6 : Int32) => P_X0_ofWord p0 5 s_credits_cells (fun (r_7 : Int32) => ((200 ≤ x3_6 → P_X2_finish_J100 s_credits_cells s_whole s_ends Q p0 x3_6 (if r_7 < 1 then 1 else r_7) (-1) p0) ∧ (¬ 200 ≤ x3_6 → P_X2_finish_J100 s_credits_cells s_whole s_ends Q p0 x3_6 (if r_7 < 1 then 1 else r_7) x3_6 p0)))) n 0 0) ∧ (¬ p0 < 8 → Q s_whole s_ends))))))
def P_X2_putLit_J56 (rec3 : Int32 → (Nat → Int32) → Prop) (x4 : Int32) (s_lit : Nat → Int32) : Prop :=
  rec3 (x4 + 1) s_lit
def B_X2_putLit_L3 (x1 : Int32) (x2 : Int32) (x3 : Int32) (Q : (Nat → Int32) → Prop) (rec3 : Int32 → (Nat → Int32) → Prop) (x4 : Int32) (s_lit : Nat → Int32) : Prop :=
  ((12 ≤ x4 → Q s_lit) ∧ (¬ 12 ≤ x4 → ((x2 = 0 → Q s_lit) ∧ (¬ x2 = 0 → ((¬ ((x2 >>> (x4 &&& 31)) &&& 1) = 1 → P_X2_putLit_J56 rec3 x4 s_lit) ∧ (((x2 >>> (x4 &&& 31)) &&& 1) = 1 → ((((x1 * 12) + x4) < 0 → P_X2_putLit_J56 rec3 x4 s_lit) ∧ (¬ ((x1 * 12) + x4) < 0 → ((96 ≤ ((x1 * 12) + x4) → P_X2_putLit_J56 rec3 x4 s_lit) ∧ (¬ 96 ≤ ((x1 * 12) + x4) → vp_in ((x1 * 12) + x4) 96 ∧ P_X2_putLit_J56 rec3 x4 (upd s_lit (((x1 * 12) + x4).toNatClampNeg) x3)))))))))))
noncomputable def P_X2_putLit_L3 (x1 : Int32) (x2 : Int32) (x3 : Int32) (Q : (Nat → Int32) → Prop) (n : Nat) : Int32 → (Nat → Int32) → Prop := Nat.rec (motive := fun _ => Int32 → (Nat → Int32) → Prop) (fun _ _ => False) (fun _ r => B_X2_putLit_L3 x1 x2 x3 Q r) n
theorem P_X2_putLit_L3_z (x1 : Int32) (x2 : Int32) (x3 : Int32) (Q : (Nat → Int32) → Prop) (x4 : Int32) (s_lit : Nat → Int32) : P_X2_putLit_L3 x1 x2 x3 Q 0 x4 s_lit = False := rfl
theorem P_X2_putLit_L3_s (x1 : Int32) (x2 : Int32) (x3 : Int32) (Q : (Nat → Int32) → Prop) (n : Nat) (x4 : Int32) (s_lit : Nat → Int32) : P_X2_putLit_L3 x1 x2 x3 Q (n + 1) x4 s_lit = B_X2_putLit_L3 x1 x2 x3 Q (P_X2_putLit_L3 x1 x2 x3 Q n) x4 s_lit := rfl
def P_X2_putLit (p0 : Int32) (p1 : Int32) (p2 : Int32) (s_lit : Nat → Int32) (Q : (Nat → Int32) → Prop) : Prop :=
  ∃ n : Nat, P_X2_putLit_L3 p0 p1 p2 Q n 0 s_lit
def B_X2_lightEach_L8 (x1 : Int32) (s_reach : Nat → Int32) (Q : (Nat → Int32) → Prop) (rec8 : Int32 → Int32 → (Nat → Int32) → Prop) (x3 : Int32) (x4 : Int32) (s_lit : Nat → Int32) : Prop :=
  ((200 ≤ x4 → Q s_lit) ∧ (¬ 200 ≤ x4 → ((x3 = 0 → Q s_lit) ∧ (¬ x3 = 0 → vp_in x4 200 ∧ P_X2_putLit x1 ((s_reach x4.toNatClampNeg) &&& x3) x4 s_lit (fun (s_lit_2 : Nat → Int32) => rec8 (x3 - ((s_reach x4.toNatClampNeg) &&& x3)) (x4 + 1) s_lit_2)))))
noncomputable def P_X2_lightEach_L8 (x1 : Int32) (s_reach : Nat → Int32) (Q : (Nat → Int32) → Prop) (n : Nat) : Int32 → Int32 → (Nat → Int32) → Prop := Nat.rec (motive := fun _ => Int32 → Int32 → (Nat → Int32) → Prop) (fun _ _ _ => False) (fun _ r => B_X2_lightEach_L8 x1 s_reach Q r) n
theorem P_X2_lightEach_L8_z (x1 : Int32) (s_reach : Nat → Int32) (Q : (Nat → Int32) → Prop) (x3 : Int32) (x4 : Int32) (s_lit : Nat → Int32) : P_X2_lightEach_L8 x1 s_reach Q 0 x3 x4 s_lit = False := rfl
theorem P_X2_lightEach_L8_s (x1 : Int32) (s_reach : Nat → Int32) (Q : (Nat → Int32) → Prop) (n : Nat) (x3 : Int32) (x4 : Int32) (s_lit : Nat → Int32) : P_X2_lightEach_L8 x1 s_reach Q (n + 1) x3 x4 s_lit = B_X2_lightEach_L8 x1 s_reach Q (P_X2_lightEach_L8 x1 s_reach Q n) x3 x4 s_lit := rfl
def P_X2_lightEach (p0 : Int32) (p1 : Int32) (s_lit : Nat → Int32) (s_reach : Nat → Int32) (Q : (Nat → Int32) → Prop) : Prop :=
  P_X2_allOf p1 (fun (r_3 : Int32) => ∃ n : Nat, P_X2_lightEach_L8 p0 s_reach Q n r_3 0 s_lit)
def B_X2_lightInTurn_L18 (x1 : Int32) (x2 : Int32) (x4 : Int32) (s_reach : Nat → Int32) (K18_54 : Int32 → (Nat → Int32) → Prop) (rec18 : Int32 → (Nat → Int32) → Prop) (x3 : Int32) (s_lit : Nat → Int32) : Prop :=
  ((x2 ≤ x3 → K18_54 x3 s_lit) ∧ (¬ x2 ≤ x3 → vp_in x4 200 ∧ ((¬ (((s_reach x4.toNatClampNeg) >>> (x3 &&& 31)) &&& 1) = 1 → K18_54 x3 s_lit) ∧ ((((s_reach x4.toNatClampNeg) >>> (x3 &&& 31)) &&& 1) = 1 → P_X2_putLit x1 (1 <<< (x3 &&& 31)) x4 s_lit (fun (s_lit_2 : Nat → Int32) => rec18 (x3 + 1) s_lit_2)))))
noncomputable def P_X2_lightInTurn_L18 (x1 : Int32) (x2 : Int32) (x4 : Int32) (s_reach : Nat → Int32) (K18_54 : Int32 → (Nat → Int32) → Prop) (n : Nat) : Int32 → (Nat → Int32) → Prop := Nat.rec (motive := fun _ => Int32 → (Nat → Int32) → Prop) (fun _ _ => False) (fun _ r => B_X2_lightInTurn_L18 x1 x2 x4 s_reach K18_54 r) n
theorem P_X2_lightInTurn_L18_z (x1 : Int32) (x2 : Int32) (x4 : Int32) (s_reach : Nat → Int32) (K18_54 : Int32 → (Nat → Int32) → Prop) (x3 : Int32) (s_lit : Nat → Int32) : P_X2_lightInTurn_L18 x1 x2 x4 s_reach K18_54 0 x3 s_lit = False := rfl
theorem P_X2_lightInTurn_L18_s (x1 : Int32) (x2 : Int32) (x4 : Int32) (s_reach : Nat → Int32) (K18_54 : Int32 → (Nat → Int32) → Prop) (n : Nat) (x3 : Int32) (s_lit : Nat → Int32) : P_X2_lightInTurn_L18 x1 x2 x4 s_reach K18_54 (n + 1) x3 s_lit = B_X2_lightInTurn_L18 x1 x2 x4 s_reach K18_54 (P_X2_lightInTurn_L18 x1 x2 x4 s_reach K18_54 n) x3 s_lit := rfl
def B_X2_lightInTurn_L5 (x1 : Int32) (x2 : Int32) (s_reach : Nat → Int32) (Q : (Nat → Int32) → Prop) (rec5 : Int32 → Int32 → (Nat → Int32) → Prop) (x3 : Int32) (x4 : Int32) (s_lit : Nat → Int32) : Prop :=
  ((200 ≤ x4 → Q s_lit) ∧ (¬ 200 ≤ x4 → ((x2 ≤ x3 → Q s_lit) ∧ (¬ x2 ≤ x3 → ∃ n : Nat, P_X2_lightInTurn_L18 x1 x2 x4 s_reach (fun (x3_3 : Int32) (s_lit_4 : Nat → Int32) => rec5 x3_3 (x4 + 1) s_lit_4) n x3 s_lit))))
noncomputable def P_X2_lightInTurn_L5 (x1 : Int32) (x2 : Int32) (s_reach : Nat → Int32) (Q : (Nat → Int32) → Prop) (n : Nat) : Int32 → Int32 → (Nat → Int32) → Prop := Nat.rec (motive := fun _ => Int32 → Int32 → (Nat → Int32) → Prop) (fun _ _ _ => False) (fun _ r => B_X2_lightInTurn_L5 x1 x2 s_reach Q r) n
theorem P_X2_lightInTurn_L5_z (x1 : Int32) (x2 : Int32) (s_reach : Nat → Int32) (Q : (Nat → Int32) → Prop) (x3 : Int32) (x4 : Int32) (s_lit : Nat → Int32) : P_X2_lightInTurn_L5 x1 x2 s_reach Q 0 x3 x4 s_lit = False := rfl
theorem P_X2_lightInTurn_L5_s (x1 : Int32) (x2 : Int32) (s_reach : Nat → Int32) (Q : (Nat → Int32) → Prop) (n : Nat) (x3 : Int32) (x4 : Int32) (s_lit : Nat → Int32) : P_X2_lightInTurn_L5 x1 x2 s_reach Q (n + 1) x3 x4 s_lit = B_X2_lightInTurn_L5 x1 x2 s_reach Q (P_X2_lightInTurn_L5 x1 x2 s_reach Q n) x3 x4 s_lit := rfl
def P_X2_lightInTurn (p0 : Int32) (p1 : Int32) (s_lit : Nat → Int32) (s_reach : Nat → Int32) (Q : (Nat → Int32) → Prop) : Prop :=
  ∃ n : Nat, P_X2_lightInTurn_L5 p0 p1 s_reach Q n 0 0 s_lit
def P_X2_oldestReach_J64 (rec6 : Int32 → Int32 → (Nat → Int32) → Prop) (x5 : Int32) (t0 : Int32) (s_latest : Nat → Int32) : Prop :=
  rec6 t0 (x5 + 1) s_latest
def P_X2_oldestReach_J40 (rec6 : Int32 → Int32 → (Nat → Int32) → Prop) (x4 : Int32) (x5 : Int32) (s_latest : Nat → Int32) : Prop :=
  vp_in x5 12 ∧ ((x4 ≤ (s_latest x5.toNatClampNeg) → P_X2_oldestReach_J64 rec6 x5 x4 s_latest) ∧ (¬ x4 ≤ (s_latest x5.toNatClampNeg) → vp_in x5 12 ∧ P_X2_oldestReach_J64 rec6 x5 (s_latest x5.toNatClampNeg) s_latest))
def B_X2_oldestReach_L6 (x1 : Int32) (x2 : Int32) (x3 : Int32) (Q : Int32 → (Nat → Int32) → Prop) (rec6 : Int32 → Int32 → (Nat → Int32) → Prop) (x4 : Int32) (x5 : Int32) (s_latest : Nat → Int32) : Prop :=
  ((x1 ≤ x5 → Q x4 s_latest) ∧ (¬ x1 ≤ x5 → ((12 ≤ x5 → Q x4 s_latest) ∧ (¬ 12 ≤ x5 → ((¬ ((x2 >>> (x5 &&& 31)) &&& 1) = 1 → P_X2_oldestReach_J40 rec6 x4 x5 s_latest) ∧ (((x2 >>> (x5 &&& 31)) &&& 1) = 1 → vp_in x5 12 ∧ P_X2_oldestReach_J40 rec6 x4 x5 (upd s_latest x5.toNatClampNeg x3)))))))
noncomputable def P_X2_oldestReach_L6 (x1 : Int32) (x2 : Int32) (x3 : Int32) (Q : Int32 → (Nat → Int32) → Prop) (n : Nat) : Int32 → Int32 → (Nat → Int32) → Prop := Nat.rec (motive := fun _ => Int32 → Int32 → (Nat → Int32) → Prop) (fun _ _ _ => False) (fun _ r => B_X2_oldestReach_L6 x1 x2 x3 Q r) n
theorem P_X2_oldestReach_L6_z (x1 : Int32) (x2 : Int32) (x3 : Int32) (Q : Int32 → (Nat → Int32) → Prop) (x4 : Int32) (x5 : Int32) (s_latest : Nat → Int32) : P_X2_oldestReach_L6 x1 x2 x3 Q 0 x4 x5 s_latest = False := rfl
theorem P_X2_oldestReach_L6_s (x1 : Int32) (x2 : Int32) (x3 : Int32) (Q : Int32 → (Nat → Int32) → Prop) (n : Nat) (x4 : Int32) (x5 : Int32) (s_latest : Nat → Int32) : P_X2_oldestReach_L6 x1 x2 x3 Q (n + 1) x4 x5 s_latest = B_X2_oldestReach_L6 x1 x2 x3 Q (P_X2_oldestReach_L6 x1 x2 x3 Q n) x4 x5 s_latest := rfl
def P_X2_oldestReach (p0 : Int32) (p1 : Int32) (p2 : Int32) (s_latest : Nat → Int32) (Q : Int32 → (Nat → Int32) → Prop) : Prop :=
  ∃ n : Nat, P_X2_oldestReach_L6 p0 p1 p2 Q n p2 0 s_latest
def P_X2_lightTogether_J71 (rec20 : Int32 → (Nat → Int32) → Prop) (x4 : Int32) (s_latest : Nat → Int32) : Prop :=
  rec20 (x4 + 1) s_latest
def B_X2_lightTogether_L20 (x2 : Int32) (x3 : Int32) (s_lit : Nat → Int32) (s_reach : Nat → Int32) (K20_59 : Int32 → (Nat → Int32) → Prop) (Q : (Nat → Int32) → (Nat → Int32) → Prop) (rec20 : Int32 → (Nat → Int32) → Prop) (x4 : Int32) (s_latest : Nat → Int32) : Prop :=
  ((200 ≤ x4 → Q s_lit s_latest) ∧ (¬ 200 ≤ x4 → vp_in x4 200 ∧ P_X2_oldestReach x2 (s_reach x4.toNatClampNeg) x4 s_latest (fun (r_2 : Int32) (s_latest_3 : Nat → Int32) => ((r_2 = (-1) → P_X2_lightTogether_J71 rec20 x4 s_latest_3) ∧ (¬ r_2 = (-1) → ((r_2 < (x4 - x3) → P_X2_lightTogether_J71 rec20 x4 s_latest_3) ∧ (¬ r_2 < (x4 - x3) → K20_59 x4 s_latest_3)))))))
noncomputable def P_X2_lightTogether_L20 (x2 : Int32) (x3 : Int32) (s_lit : Nat → Int32) (s_reach : Nat → Int32) (K20_59 : Int32 → (Nat → Int32) → Prop) (Q : (Nat → Int32) → (Nat → Int32) → Prop) (n : Nat) : Int32 → (Nat → Int32) → Prop := Nat.rec (motive := fun _ => Int32 → (Nat → Int32) → Prop) (fun _ _ => False) (fun _ r => B_X2_lightTogether_L20 x2 x3 s_lit s_reach K20_59 Q r) n
theorem P_X2_lightTogether_L20_z (x2 : Int32) (x3 : Int32) (s_lit : Nat → Int32) (s_reach : Nat → Int32) (K20_59 : Int32 → (Nat → Int32) → Prop) (Q : (Nat → Int32) → (Nat → Int32) → Prop) (x4 : Int32) (s_latest : Nat → Int32) : P_X2_lightTogether_L20 x2 x3 s_lit s_reach K20_59 Q 0 x4 s_latest = False := rfl
theorem P_X2_lightTogether_L20_s (x2 : Int32) (x3 : Int32) (s_lit : Nat → Int32) (s_reach : Nat → Int32) (K20_59 : Int32 → (Nat → Int32) → Prop) (Q : (Nat → Int32) → (Nat → Int32) → Prop) (n : Nat) (x4 : Int32) (s_latest : Nat → Int32) : P_X2_lightTogether_L20 x2 x3 s_lit s_reach K20_59 Q (n + 1) x4 s_latest = B_X2_lightTogether_L20 x2 x3 s_lit s_reach K20_59 Q (P_X2_lightTogether_L20 x2 x3 s_lit s_reach K20_59 Q n) x4 s_latest := rfl
def P_X2_lightTogether (p0 : Int32) (p1 : Int32) (s_credits_cells : Nat → Int32) (s_lit : Nat → Int32) (s_reach : Nat → Int32) (s_latest : Nat → Int32) (Q : (Nat → Int32) → (Nat → Int32) → Prop) : Prop :=
  P_X0_setting 1 s_credits_cells (fun (r_4 : Int32) => P_J7_fill_53178 12 (-1) s_latest (fun (s_latest_5 : Nat → Int32) => ∃ n : Nat, P_X2_lightTogether_L20 p1 r_4 s_lit s_reach (fun (x4_6 : Int32) (s_latest_7 : Nat → Int32) => P_X2_allOf p1 (fun (r_8 : Int32) => P_X2_putLit p0 r_8 x4_6 s_lit (fun (s_lit_9 : Nat → Int32) => Q s_lit_9 s_latest_7))) Q n 0 s_latest_5))
def P_X2_settle_J88 (s_credits_cells : Nat → Int32) (s_whole : Nat → Int32) (s_ends : Nat → Int32) (Q : (Nat → Int32) → (Nat → Int32) → (Nat → Int32) → (Nat → Int32) → (Nat → Int32) → Prop) (x1 : Int32) (x3 : Int32) (s_lit : Nat → Int32) (s_reach : Nat → Int32) (s_latest : Nat → Int32) : Prop :=
  P_X2_finish x1 x3 s_credits_cells s_lit s_whole s_ends (fun (s_whole_1 : Nat → Int32) (s_ends_2 : Nat → Int32) => Q s_lit s_whole_1 s_ends_2 s_reach s_latest)
def P_X2_settle (p0 : Int32) (p1 : Int32) (s_credits_cells : Nat → Int32) (s_light : Nat → Int64) (s_lit : Nat → Int32) (s_whole : Nat → Int32) (s_ends : Nat → Int32) (s_reach : Nat → Int32) (s_latest : Nat → Int32) (Q : (Nat → Int32) → (Nat → Int32) → (Nat → Int32) → (Nat → Int32) → (Nat → Int32) → Prop) : Prop :=
  P_X0_ofWord p0 0 s_credits_cells (fun (r_3 : Int32) => P_X2_findReach p0 r_3 p1 s_credits_cells s_light s_reach (fun (s_reach_4 : Nat → Int32) => P_X2_allOf r_3 (fun (r_5 : Int32) => P_X2_putLit p0 r_5 (-1) s_lit (fun (s_lit_6 : Nat → Int32) => P_X0_ofWord p0 4 s_credits_cells (fun (r_7 : Int32) => ((r_7 = 1 → P_X2_lightInTurn p0 r_3 s_lit_6 s_reach_4 (fun (s_lit_8 : Nat → Int32) => P_X2_settle_J88 s_credits_cells s_whole s_ends Q p0 r_3 s_lit_8 s_reach_4 s_latest)) ∧ (r_7 = 2 → P_X2_lightTogether p0 r_3 s_credits_cells s_lit_6 s_reach_4 s_latest (fun (s_lit_9 : Nat → Int32) (s_latest_10 : Nat → Int32) => P_X2_settle_J88 s_credits_cells s_whole s_ends Q p0 r_3 s_lit_9 s_reach_4 s_latest_10)) ∧ (¬ r_7 = 1 → ¬ r_7 = 2 → P_X2_lightEach p0 r_3 s_lit_6 s_reach_4 (fun (s_lit_11 : Nat → Int32) => P_X2_settle_J88 s_credits_cells s_whole s_ends Q p0 r_3 s_lit_11 s_reach_4 s_latest))))))))
def B_X2_settleAll_L2 (s_credits_cells : Nat → Int32) (s_light : Nat → Int64) (Q : (Nat → Int32) → (Nat → Int32) → (Nat → Int32) → (Nat → Int32) → (Nat → Int32) → Prop) (rec2 : Int32 → (Nat → Int32) → (Nat → Int32) → (Nat → Int32) → (Nat → Int32) → (Nat → Int32) → Prop) (x1 : Int32) (s_lit : Nat → Int32) (s_whole : Nat → Int32) (s_ends : Nat → Int32) (s_reach : Nat → Int32) (s_latest : Nat → Int32) : Prop :=
  P_X0_words s_credits_cells (fun (r_1 : Int32) => ((r_1 ≤ x1 → Q s_lit s_whole s_ends s_reach s_latest) ∧ (¬ r_1 ≤ x1 → P_X0_ofWord x1 3 s_credits_cells (fun (r_2 : Int32) => P_X2_settle x1 r_2 s_credits_cells s_light s_lit s_whole s_ends s_reach s_latest (fun (s_lit_3 : Nat → Int32) (s_whole_4 : Nat → Int32) (s_ends_5 : Nat → Int32) (s_reach_6 : Nat → Int32) (s_latest_7 : Nat → Int32) => rec2 (x1 + 1) s_lit_3 s_whole_4 s_ends_5 s_reach_6 s_latest_7)))))
noncomputable def P_X2_settleAll_L2 (s_credits_cells : Nat → Int32) (s_light : Nat → Int64) (Q : (Nat → Int32) → (Nat → Int32) → (Nat → Int32) → (Nat → Int32) → (Nat → Int32) → Prop) (n : Nat) : Int32 → (Nat → Int32) → (Nat → Int32) → (Nat → Int32) → (Nat → Int32) → (Nat → Int32) → Prop := Nat.rec (motive := fun _ => Int32 → (Nat → Int32) → (Nat → Int32) → (Nat → Int32) → (Nat → Int32) → (Nat → Int32) → Prop) (fun _ _ _ _ _ _ => False) (fun _ r => B_X2_settleAll_L2 s_credits_cells s_light Q r) n
theorem P_X2_settleAll_L2_z (s_credits_cells : Nat → Int32) (s_light : Nat → Int64) (Q : (Nat → Int32) → (Nat → Int32) → (Nat → Int32) → (Nat → Int32) → (Nat → Int32) → Prop) (x1 : Int32) (s_lit : Nat → Int32) (s_whole : Nat → Int32) (s_ends : Nat → Int32) (s_reach : Nat → Int32) (s_latest : Nat → Int32) : P_X2_settleAll_L2 s_credits_cells s_light Q 0 x1 s_lit s_whole s_ends s_reach s_latest = False := rfl
theorem P_X2_settleAll_L2_s (s_credits_cells : Nat → Int32) (s_light : Nat → Int64) (Q : (Nat → Int32) → (Nat → Int32) → (Nat → Int32) → (Nat → Int32) → (Nat → Int32) → Prop) (n : Nat) (x1 : Int32) (s_lit : Nat → Int32) (s_whole : Nat → Int32) (s_ends : Nat → Int32) (s_reach : Nat → Int32) (s_latest : Nat → Int32) : P_X2_settleAll_L2 s_credits_cells s_light Q (n + 1) x1 s_lit s_whole s_ends s_reach s_latest = B_X2_settleAll_L2 s_credits_cells s_light Q (P_X2_settleAll_L2 s_credits_cells s_light Q n) x1 s_lit s_whole s_ends s_reach s_latest := rfl
def P_X2_settleAll (s_credits_cells : Nat → Int32) (s_light : Nat → Int64) (s_lit : Nat → Int32) (s_whole : Nat → Int32) (s_ends : Nat → Int32) (s_reach : Nat → Int32) (s_latest : Nat → Int32) (Q : (Nat → Int32) → (Nat → Int32) → (Nat → Int32) → (Nat → Int32) → (Nat → Int32) → Prop) : Prop :=
  ∃ n : Nat, P_X2_settleAll_L2 s_credits_cells s_light Q n 0 s_lit s_whole s_ends s_reach s_latest
def P_X2_wholeFrom (p0 : Int32) (s_whole : Nat → Int32) (Q : Int32 → Prop) : Prop :=
  ((p0 < 0 → Q (-1)) ∧ (¬ p0 < 0 → ((8 ≤ p0 → Q (-1)) ∧ (¬ 8 ≤ p0 → vp_in p0 8 ∧ Q (s_whole p0.toNatClampNeg)))))
def P_X2_endOf (p0 : Int32) (s_ends : Nat → Int32) (Q : Int32 → Prop) : Prop :=
  ((p0 < 0 → Q 200) ∧ (¬ p0 < 0 → ((8 ≤ p0 → Q 200) ∧ (¬ 8 ≤ p0 → vp_in p0 8 ∧ Q (s_ends p0.toNatClampNeg)))))
def P_X2_goesAt (p0 : Int32) (s_ends : Nat → Int32) (Q : Int32 → Prop) : Prop :=
  P_X2_endOf p0 s_ends (fun (r_1 : Int32) => ((200 ≤ r_1 → Q (-1)) ∧ (¬ 200 ≤ r_1 → Q r_1)))
def P_X2_firstLit_J45 (rec4 : Int32 → Int32 → Prop) (x2 : Int32) (x3 : Int32) : Prop :=
  rec4 x2 (x3 + 1)
def P_X2_firstLit_J42 (rec4 : Int32 → Int32 → Prop) (x3 : Int32) (x4 : Int32) : Prop :=
  P_X2_firstLit_J45 rec4 x4 x3
def B_X2_firstLit_L4 (x1 : Int32) (s_credits_cells : Nat → Int32) (s_lit : Nat → Int32) (Q : Int32 → Prop) (rec4 : Int32 → Int32 → Prop) (x2 : Int32) (x3 : Int32) : Prop :=
  P_X0_ofWord x1 0 s_credits_cells (fun (r_1 : Int32) => ((r_1 ≤ x3 → Q x2) ∧ (¬ r_1 ≤ x3 → P_X2_litBeat x1 x3 s_lit (fun (r_2 : Int32) => ((r_2 = (-1) → P_X2_firstLit_J45 rec4 x2 x3) ∧ (¬ r_2 = (-1) → ((x2 = (-1) → P_X2_firstLit_J42 rec4 x3 r_2) ∧ (¬ x2 = (-1) → ((x2 ≤ r_2 → P_X2_firstLit_J45 rec4 x2 x3) ∧ (¬ x2 ≤ r_2 → P_X2_firstLit_J42 rec4 x3 r_2))))))))))
noncomputable def P_X2_firstLit_L4 (x1 : Int32) (s_credits_cells : Nat → Int32) (s_lit : Nat → Int32) (Q : Int32 → Prop) (n : Nat) : Int32 → Int32 → Prop := Nat.rec (motive := fun _ => Int32 → Int32 → Prop) (fun _ _ => False) (fun _ r => B_X2_firstLit_L4 x1 s_credits_cells s_lit Q r) n
theorem P_X2_firstLit_L4_z (x1 : Int32) (s_credits_cells : Nat → Int32) (s_lit : Nat → Int32) (Q : Int32 → Prop) (x2 : Int32) (x3 : Int32) : P_X2_firstLit_L4 x1 s_credits_cells s_lit Q 0 x2 x3 = False := rfl
theorem P_X2_firstLit_L4_s (x1 : Int32) (s_credits_cells : Nat → Int32) (s_lit : Nat → Int32) (Q : Int32 → Prop) (n : Nat) (x2 : Int32) (x3 : Int32) : P_X2_firstLit_L4 x1 s_credits_cells s_lit Q (n + 1) x2 x3 = B_X2_firstLit_L4 x1 s_credits_cells s_lit Q (P_X2_firstLit_L4 x1 s_credits_cells s_lit Q n) x2 x3 := rfl
def P_X2_firstLit (p0 : Int32) (s_credits_cells : Nat → Int32) (s_lit : Nat → Int32) (Q : Int32 → Prop) : Prop :=
  ∃ n : Nat, P_X2_firstLit_L4 p0 s_credits_cells s_lit Q n (-1) 0
theorem k_40 : Cond.fieldLink RX2 9 "CreditBeams$Show" "light" "[J" ∈ TBL := mem_T (i := 40) (by decide +kernel) (by decide +kernel)
theorem k_342 : Cond.methodLink RX2 69 yX0_columnBits ∈ TBL := mem_T (i := 342) (by decide +kernel) (by decide +kernel)
theorem k_231 : Cond.methodLink RX2 64 yJ9_max_7cf53 ∈ TBL := mem_T (i := 231) (by decide +kernel) (by decide +kernel)
theorem k_39 : Cond.fieldLink RX2 34 "CreditBeams$Show" "credits" "LCreditBeams$Credits;" ∈ TBL := mem_T (i := 39) (by decide +kernel) (by decide +kernel)
theorem k_333 : Cond.methodLink RX2 50 yX0_beams ∈ TBL := mem_T (i := 333) (by decide +kernel) (by decide +kernel)
theorem k_334 : Cond.methodLink RX2 56 yX0_ofBeam ∈ TBL := mem_T (i := 334) (by decide +kernel) (by decide +kernel)
theorem k_338 : Cond.methodLink RX2 60 yX2_shine ∈ TBL := mem_T (i := 338) (by decide +kernel) (by decide +kernel)
theorem k_339 : Cond.instanceMethod yX2_shine ∈ TBL := mem_T (i := 339) (by decide +kernel) (by decide +kernel)
theorem k_340 : Cond.selects RX2 yX2_shine yX2_shine ∈ TBL := mem_T (i := 340) (by decide +kernel) (by decide +kernel)
theorem k_3 : Cond.initialized RX2 ∈ TBL := mem_T (i := 3) (by decide +kernel) (by decide +kernel)
theorem k_341 : Cond.code yX2_shine cX2_shine 10 none ∈ TBL := mem_T (i := 341) (by decide +kernel) (by decide +kernel)
theorem k_330 : Cond.methodLink RX2 44 yJ7_fill_d0a16 ∈ TBL := mem_T (i := 330) (by decide +kernel) (by decide +kernel)
theorem k_331 : Cond.static yJ7_fill_d0a16 ∈ TBL := mem_T (i := 331) (by decide +kernel) (by decide +kernel)
theorem k_12 : Cond.initialized RJ7 ∈ TBL := mem_T (i := 12) (by decide +kernel) (by decide +kernel)
theorem k_332 : Cond.code yJ7_fill_d0a16 cJ7_fill_d0a16 5 none ∈ TBL := mem_T (i := 332) (by decide +kernel) (by decide +kernel)
theorem k_46 : Cond.fieldLink RX2 28 "CreditBeams$Show" "reach" "[I" ∈ TBL := mem_T (i := 46) (by decide +kernel) (by decide +kernel)
theorem k_214 : Cond.methodLink RX2 73 yX0_ofWord ∈ TBL := mem_T (i := 214) (by decide +kernel) (by decide +kernel)
theorem k_361 : Cond.methodLink RX2 76 yX2_allOf ∈ TBL := mem_T (i := 361) (by decide +kernel) (by decide +kernel)
theorem k_362 : Cond.static yX2_allOf ∈ TBL := mem_T (i := 362) (by decide +kernel) (by decide +kernel)
theorem k_363 : Cond.code yX2_allOf cX2_allOf 1 (some .int) ∈ TBL := mem_T (i := 363) (by decide +kernel) (by decide +kernel)
theorem k_41 : Cond.fieldLink RX2 15 "CreditBeams$Show" "lit" "[I" ∈ TBL := mem_T (i := 41) (by decide +kernel) (by decide +kernel)
theorem k_215 : Cond.methodLink RX2 116 yX2_litBeat ∈ TBL := mem_T (i := 215) (by decide +kernel) (by decide +kernel)
theorem k_216 : Cond.instanceMethod yX2_litBeat ∈ TBL := mem_T (i := 216) (by decide +kernel) (by decide +kernel)
theorem k_217 : Cond.selects RX2 yX2_litBeat yX2_litBeat ∈ TBL := mem_T (i := 217) (by decide +kernel) (by decide +kernel)
theorem k_218 : Cond.code yX2_litBeat cX2_litBeat 4 (some .int) ∈ TBL := mem_T (i := 218) (by decide +kernel) (by decide +kernel)
theorem k_43 : Cond.fieldLink RX2 22 "CreditBeams$Show" "ends" "[I" ∈ TBL := mem_T (i := 43) (by decide +kernel) (by decide +kernel)
theorem k_376 : Cond.methodLink RX2 106 yX0_setting ∈ TBL := mem_T (i := 376) (by decide +kernel) (by decide +kernel)
theorem k_311 : Cond.instanceMethod yX0_setting ∈ TBL := mem_T (i := 311) (by decide +kernel) (by decide +kernel)
theorem k_312 : Cond.selects RX0 yX0_setting yX0_setting ∈ TBL := mem_T (i := 312) (by decide +kernel) (by decide +kernel)
theorem k_313 : Cond.code yX0_setting cX0_setting 3 (some .int) ∈ TBL := mem_T (i := 313) (by decide +kernel) (by decide +kernel)
theorem k_392 : Cond.methodLink RX2 119 yX2_nextBar ∈ TBL := mem_T (i := 392) (by decide +kernel) (by decide +kernel)
theorem k_393 : Cond.static yX2_nextBar ∈ TBL := mem_T (i := 393) (by decide +kernel) (by decide +kernel)
theorem k_394 : Cond.code yX2_nextBar cX2_nextBar 3 (some .int) ∈ TBL := mem_T (i := 394) (by decide +kernel) (by decide +kernel)
theorem k_42 : Cond.fieldLink RX2 19 "CreditBeams$Show" "whole" "[I" ∈ TBL := mem_T (i := 42) (by decide +kernel) (by decide +kernel)
theorem k_364 : Cond.methodLink RX2 91 yX2_putLit ∈ TBL := mem_T (i := 364) (by decide +kernel) (by decide +kernel)
theorem k_366 : Cond.instanceMethod yX2_putLit ∈ TBL := mem_T (i := 366) (by decide +kernel) (by decide +kernel)
theorem k_s7 : Cond.selects RX2 yX2_putLit yX2_putLit ∈ TBL := mem_S (i := 7) (by decide +kernel) (by decide +kernel)
theorem k_367 : Cond.code yX2_putLit cX2_putLit 6 none ∈ TBL := mem_T (i := 367) (by decide +kernel) (by decide +kernel)
theorem k_47 : Cond.fieldLink RX2 31 "CreditBeams$Show" "latest" "[I" ∈ TBL := mem_T (i := 47) (by decide +kernel) (by decide +kernel)
theorem k_380 : Cond.methodLink RX2 112 yX2_oldestReach ∈ TBL := mem_T (i := 380) (by decide +kernel) (by decide +kernel)
theorem k_382 : Cond.instanceMethod yX2_oldestReach ∈ TBL := mem_T (i := 382) (by decide +kernel) (by decide +kernel)
theorem k_s10 : Cond.selects RX2 yX2_oldestReach yX2_oldestReach ∈ TBL := mem_S (i := 10) (by decide +kernel) (by decide +kernel)
theorem k_383 : Cond.code yX2_oldestReach cX2_oldestReach 6 (some .int) ∈ TBL := mem_T (i := 383) (by decide +kernel) (by decide +kernel)
theorem k_377 : Cond.methodLink RX2 109 yJ7_fill_53178 ∈ TBL := mem_T (i := 377) (by decide +kernel) (by decide +kernel)
theorem k_378 : Cond.static yJ7_fill_53178 ∈ TBL := mem_T (i := 378) (by decide +kernel) (by decide +kernel)
theorem k_379 : Cond.code yJ7_fill_53178 cJ7_fill_53178 4 none ∈ TBL := mem_T (i := 379) (by decide +kernel) (by decide +kernel)
theorem k_388 : Cond.methodLink RX2 103 yX2_finish ∈ TBL := mem_T (i := 388) (by decide +kernel) (by decide +kernel)
theorem k_390 : Cond.instanceMethod yX2_finish ∈ TBL := mem_T (i := 390) (by decide +kernel) (by decide +kernel)
theorem k_s12 : Cond.selects RX2 yX2_finish yX2_finish ∈ TBL := mem_S (i := 12) (by decide +kernel) (by decide +kernel)
theorem k_391 : Cond.code yX2_finish cX2_finish 6 none ∈ TBL := mem_T (i := 391) (by decide +kernel) (by decide +kernel)
theorem k_357 : Cond.methodLink RX2 87 yX2_findReach ∈ TBL := mem_T (i := 357) (by decide +kernel) (by decide +kernel)
theorem k_359 : Cond.instanceMethod yX2_findReach ∈ TBL := mem_T (i := 359) (by decide +kernel) (by decide +kernel)
theorem k_s6 : Cond.selects RX2 yX2_findReach yX2_findReach ∈ TBL := mem_S (i := 6) (by decide +kernel) (by decide +kernel)
theorem k_360 : Cond.code yX2_findReach cX2_findReach 10 none ∈ TBL := mem_T (i := 360) (by decide +kernel) (by decide +kernel)
theorem k_368 : Cond.methodLink RX2 94 yX2_lightInTurn ∈ TBL := mem_T (i := 368) (by decide +kernel) (by decide +kernel)
theorem k_370 : Cond.instanceMethod yX2_lightInTurn ∈ TBL := mem_T (i := 370) (by decide +kernel) (by decide +kernel)
theorem k_s8 : Cond.selects RX2 yX2_lightInTurn yX2_lightInTurn ∈ TBL := mem_S (i := 8) (by decide +kernel) (by decide +kernel)
theorem k_371 : Cond.code yX2_lightInTurn cX2_lightInTurn 5 none ∈ TBL := mem_T (i := 371) (by decide +kernel) (by decide +kernel)
theorem k_372 : Cond.methodLink RX2 97 yX2_lightTogether ∈ TBL := mem_T (i := 372) (by decide +kernel) (by decide +kernel)
theorem k_374 : Cond.instanceMethod yX2_lightTogether ∈ TBL := mem_T (i := 374) (by decide +kernel) (by decide +kernel)
theorem k_s9 : Cond.selects RX2 yX2_lightTogether yX2_lightTogether ∈ TBL := mem_S (i := 9) (by decide +kernel) (by decide +kernel)
theorem k_375 : Cond.code yX2_lightTogether cX2_lightTogether 6 none ∈ TBL := mem_T (i := 375) (by decide +kernel) (by decide +kernel)
theorem k_384 : Cond.methodLink RX2 100 yX2_lightEach ∈ TBL := mem_T (i := 384) (by decide +kernel) (by decide +kernel)
theorem k_386 : Cond.instanceMethod yX2_lightEach ∈ TBL := mem_T (i := 386) (by decide +kernel) (by decide +kernel)
theorem k_s11 : Cond.selects RX2 yX2_lightEach yX2_lightEach ∈ TBL := mem_S (i := 11) (by decide +kernel) (by decide +kernel)
theorem k_387 : Cond.code yX2_lightEach cX2_lightEach 6 none ∈ TBL := mem_T (i := 387) (by decide +kernel) (by decide +kernel)
theorem k_209 : Cond.methodLink RX2 80 yX0_words ∈ TBL := mem_T (i := 209) (by decide +kernel) (by decide +kernel)
theorem k_353 : Cond.methodLink RX2 83 yX2_settle ∈ TBL := mem_T (i := 353) (by decide +kernel) (by decide +kernel)
theorem k_354 : Cond.instanceMethod yX2_settle ∈ TBL := mem_T (i := 354) (by decide +kernel) (by decide +kernel)
theorem k_355 : Cond.selects RX2 yX2_settle yX2_settle ∈ TBL := mem_T (i := 355) (by decide +kernel) (by decide +kernel)
theorem k_356 : Cond.code yX2_settle cX2_settle 4 none ∈ TBL := mem_T (i := 356) (by decide +kernel) (by decide +kernel)
theorem k_250 : Cond.methodLink RX2 122 yX2_endOf ∈ TBL := mem_T (i := 250) (by decide +kernel) (by decide +kernel)
theorem k_252 : Cond.instanceMethod yX2_endOf ∈ TBL := mem_T (i := 252) (by decide +kernel) (by decide +kernel)
theorem k_s2 : Cond.selects RX2 yX2_endOf yX2_endOf ∈ TBL := mem_S (i := 2) (by decide +kernel) (by decide +kernel)
theorem k_253 : Cond.code yX2_endOf cX2_endOf 2 (some .int) ∈ TBL := mem_T (i := 253) (by decide +kernel) (by decide +kernel)
theorem dX2_shine_0 : decode cX2_shine 0 = .ok (.iload_n 1, 1) := by decide +kernel
theorem dX2_shine_1 : decode cX2_shine 1 = .ok (.iconst 0, 1) := by decide +kernel
theorem dX2_shine_2 : decode cX2_shine 2 = .ok (.invokestatic 64, 3) := by decide +kernel
theorem dX2_shine_5 : decode cX2_shine 5 = .ok (.istore 6, 2) := by decide +kernel
theorem dX2_shine_7 : decode cX2_shine 7 = .ok (.iload 6, 2) := by decide +kernel
theorem dX2_shine_9 : decode cX2_shine 9 = .ok (.sipush 200, 3) := by decide +kernel
theorem dX2_shine_12 : decode cX2_shine 12 = .ok (.if_icmp .ge 77, 3) := by decide +kernel
theorem dX2_shine_15 : decode cX2_shine 15 = .ok (.iload_n 2, 1) := by decide +kernel
theorem dX2_shine_16 : decode cX2_shine 16 = .ok (.iload_n 3, 1) := by decide +kernel
theorem dX2_shine_17 : decode cX2_shine 17 = .ok (.iload 6, 2) := by decide +kernel
theorem dX2_shine_19 : decode cX2_shine 19 = .ok (.iload_n 1, 1) := by decide +kernel
theorem dX2_shine_20 : decode cX2_shine 20 = .ok (.isub, 1) := by decide +kernel
theorem dX2_shine_21 : decode cX2_shine 21 = .ok (.imul, 1) := by decide +kernel
theorem dX2_shine_22 : decode cX2_shine 22 = .ok (.iadd, 1) := by decide +kernel
theorem dX2_shine_23 : decode cX2_shine 23 = .ok (.iload 4, 2) := by decide +kernel
theorem dX2_shine_25 : decode cX2_shine 25 = .ok (.invokestatic 69, 3) := by decide +kernel
theorem dX2_shine_28 : decode cX2_shine 28 = .ok (.lstore 7, 2) := by decide +kernel
theorem dX2_shine_30 : decode cX2_shine 30 = .ok (.iconst 0, 1) := by decide +kernel
theorem dX2_shine_31 : decode cX2_shine 31 = .ok (.istore 9, 2) := by decide +kernel
theorem dX2_shine_33 : decode cX2_shine 33 = .ok (.iload 9, 2) := by decide +kernel
theorem dX2_shine_35 : decode cX2_shine 35 = .ok (.bipush 8, 2) := by decide +kernel
theorem dX2_shine_37 : decode cX2_shine 37 = .ok (.if_icmp .ge 46, 3) := by decide +kernel
theorem dX2_shine_40 : decode cX2_shine 40 = .ok (.lload 7, 2) := by decide +kernel
theorem dX2_shine_42 : decode cX2_shine 42 = .ok (.lconst 0, 1) := by decide +kernel
theorem dX2_shine_43 : decode cX2_shine 43 = .ok (.lcmp, 1) := by decide +kernel
theorem dX2_shine_44 : decode cX2_shine 44 = .ok (.ifCond .eq 39, 3) := by decide +kernel
theorem dX2_shine_47 : decode cX2_shine 47 = .ok (.iload 5, 2) := by decide +kernel
theorem dX2_shine_49 : decode cX2_shine 49 = .ok (.iload 9, 2) := by decide +kernel
theorem dX2_shine_51 : decode cX2_shine 51 = .ok (.ishr, 1) := by decide +kernel
theorem dX2_shine_52 : decode cX2_shine 52 = .ok (.iconst 1, 1) := by decide +kernel
theorem dX2_shine_53 : decode cX2_shine 53 = .ok (.iand, 1) := by decide +kernel
theorem dX2_shine_54 : decode cX2_shine 54 = .ok (.iconst 1, 1) := by decide +kernel
theorem dX2_shine_55 : decode cX2_shine 55 = .ok (.if_icmp .ne 22, 3) := by decide +kernel
theorem dX2_shine_58 : decode cX2_shine 58 = .ok (.aload_n 0, 1) := by decide +kernel
theorem dX2_shine_59 : decode cX2_shine 59 = .ok (.getfield 9, 3) := by decide +kernel
theorem dX2_shine_62 : decode cX2_shine 62 = .ok (.iload 9, 2) := by decide +kernel
theorem dX2_shine_64 : decode cX2_shine 64 = .ok (.sipush 200, 3) := by decide +kernel
theorem dX2_shine_67 : decode cX2_shine 67 = .ok (.imul, 1) := by decide +kernel
theorem dX2_shine_68 : decode cX2_shine 68 = .ok (.iload 6, 2) := by decide +kernel
theorem dX2_shine_70 : decode cX2_shine 70 = .ok (.iadd, 1) := by decide +kernel
theorem dX2_shine_71 : decode cX2_shine 71 = .ok (.dup2, 1) := by decide +kernel
theorem dX2_shine_72 : decode cX2_shine 72 = .ok (.laload, 1) := by decide +kernel
theorem dX2_shine_73 : decode cX2_shine 73 = .ok (.lload 7, 2) := by decide +kernel
theorem dX2_shine_75 : decode cX2_shine 75 = .ok (.lor, 1) := by decide +kernel
theorem dX2_shine_76 : decode cX2_shine 76 = .ok (.lastore, 1) := by decide +kernel
theorem dX2_shine_77 : decode cX2_shine 77 = .ok (.iinc 9 1, 3) := by decide +kernel
theorem dX2_shine_80 : decode cX2_shine 80 = .ok (.goto (-47), 3) := by decide +kernel
theorem dX2_shine_83 : decode cX2_shine 83 = .ok (.iinc 6 1, 3) := by decide +kernel
theorem dX2_shine_86 : decode cX2_shine 86 = .ok (.goto (-79), 3) := by decide +kernel
theorem dX2_shine_89 : decode cX2_shine 89 = .ok (.return_, 1) := by decide +kernel
theorem dX2_shineAllBut_0 : decode cX2_shineAllBut 0 = .ok (.aload_n 0, 1) := by decide +kernel
theorem dX2_shineAllBut_1 : decode cX2_shineAllBut 1 = .ok (.getfield 9, 3) := by decide +kernel
theorem dX2_shineAllBut_4 : decode cX2_shineAllBut 4 = .ok (.lconst 0, 1) := by decide +kernel
theorem dX2_shineAllBut_5 : decode cX2_shineAllBut 5 = .ok (.invokestatic 44, 3) := by decide +kernel
theorem dX2_shineAllBut_8 : decode cX2_shineAllBut 8 = .ok (.iconst 0, 1) := by decide +kernel
theorem dX2_shineAllBut_9 : decode cX2_shineAllBut 9 = .ok (.istore_n 2, 1) := by decide +kernel
theorem dX2_shineAllBut_10 : decode cX2_shineAllBut 10 = .ok (.iload_n 2, 1) := by decide +kernel
theorem dX2_shineAllBut_11 : decode cX2_shineAllBut 11 = .ok (.aload_n 0, 1) := by decide +kernel
theorem dX2_shineAllBut_12 : decode cX2_shineAllBut 12 = .ok (.getfield 34, 3) := by decide +kernel
theorem dX2_shineAllBut_15 : decode cX2_shineAllBut 15 = .ok (.invokevirtual 50, 3) := by decide +kernel
theorem dX2_shineAllBut_18 : decode cX2_shineAllBut 18 = .ok (.if_icmp .ge 63, 3) := by decide +kernel
theorem dX2_shineAllBut_21 : decode cX2_shineAllBut 21 = .ok (.iload_n 2, 1) := by decide +kernel
theorem dX2_shineAllBut_22 : decode cX2_shineAllBut 22 = .ok (.iload_n 1, 1) := by decide +kernel
theorem dX2_shineAllBut_23 : decode cX2_shineAllBut 23 = .ok (.if_icmp .eq 52, 3) := by decide +kernel
theorem dX2_shineAllBut_26 : decode cX2_shineAllBut 26 = .ok (.aload_n 0, 1) := by decide +kernel
theorem dX2_shineAllBut_27 : decode cX2_shineAllBut 27 = .ok (.aload_n 0, 1) := by decide +kernel
theorem dX2_shineAllBut_28 : decode cX2_shineAllBut 28 = .ok (.getfield 34, 3) := by decide +kernel
theorem dX2_shineAllBut_31 : decode cX2_shineAllBut 31 = .ok (.iload_n 2, 1) := by decide +kernel
theorem dX2_shineAllBut_32 : decode cX2_shineAllBut 32 = .ok (.iconst 0, 1) := by decide +kernel
theorem dX2_shineAllBut_33 : decode cX2_shineAllBut 33 = .ok (.invokevirtual 56, 3) := by decide +kernel
theorem dX2_shineAllBut_36 : decode cX2_shineAllBut 36 = .ok (.aload_n 0, 1) := by decide +kernel
theorem dX2_shineAllBut_37 : decode cX2_shineAllBut 37 = .ok (.getfield 34, 3) := by decide +kernel
theorem dX2_shineAllBut_40 : decode cX2_shineAllBut 40 = .ok (.iload_n 2, 1) := by decide +kernel
theorem dX2_shineAllBut_41 : decode cX2_shineAllBut 41 = .ok (.iconst 1, 1) := by decide +kernel
theorem dX2_shineAllBut_42 : decode cX2_shineAllBut 42 = .ok (.invokevirtual 56, 3) := by decide +kernel
theorem dX2_shineAllBut_45 : decode cX2_shineAllBut 45 = .ok (.aload_n 0, 1) := by decide +kernel
theorem dX2_shineAllBut_46 : decode cX2_shineAllBut 46 = .ok (.getfield 34, 3) := by decide +kernel
theorem dX2_shineAllBut_49 : decode cX2_shineAllBut 49 = .ok (.iload_n 2, 1) := by decide +kernel
theorem dX2_shineAllBut_50 : decode cX2_shineAllBut 50 = .ok (.iconst 2, 1) := by decide +kernel
theorem dX2_shineAllBut_51 : decode cX2_shineAllBut 51 = .ok (.invokevirtual 56, 3) := by decide +kernel
theorem dX2_shineAllBut_54 : decode cX2_shineAllBut 54 = .ok (.aload_n 0, 1) := by decide +kernel
theorem dX2_shineAllBut_55 : decode cX2_shineAllBut 55 = .ok (.getfield 34, 3) := by decide +kernel
theorem dX2_shineAllBut_58 : decode cX2_shineAllBut 58 = .ok (.iload_n 2, 1) := by decide +kernel
theorem dX2_shineAllBut_59 : decode cX2_shineAllBut 59 = .ok (.iconst 3, 1) := by decide +kernel
theorem dX2_shineAllBut_60 : decode cX2_shineAllBut 60 = .ok (.invokevirtual 56, 3) := by decide +kernel
theorem dX2_shineAllBut_63 : decode cX2_shineAllBut 63 = .ok (.aload_n 0, 1) := by decide +kernel
theorem dX2_shineAllBut_64 : decode cX2_shineAllBut 64 = .ok (.getfield 34, 3) := by decide +kernel
theorem dX2_shineAllBut_67 : decode cX2_shineAllBut 67 = .ok (.iload_n 2, 1) := by decide +kernel
theorem dX2_shineAllBut_68 : decode cX2_shineAllBut 68 = .ok (.iconst 4, 1) := by decide +kernel
theorem dX2_shineAllBut_69 : decode cX2_shineAllBut 69 = .ok (.invokevirtual 56, 3) := by decide +kernel
theorem dX2_shineAllBut_72 : decode cX2_shineAllBut 72 = .ok (.invokevirtual 60, 3) := by decide +kernel
theorem dX2_shineAllBut_75 : decode cX2_shineAllBut 75 = .ok (.iinc 2 1, 3) := by decide +kernel
theorem dX2_shineAllBut_78 : decode cX2_shineAllBut 78 = .ok (.goto (-68), 3) := by decide +kernel
theorem dX2_shineAllBut_81 : decode cX2_shineAllBut 81 = .ok (.return_, 1) := by decide +kernel
theorem dX2_allOf_0 : decode cX2_allOf 0 = .ok (.iconst 1, 1) := by decide +kernel
theorem dX2_allOf_1 : decode cX2_allOf 1 = .ok (.iload_n 0, 1) := by decide +kernel
theorem dX2_allOf_2 : decode cX2_allOf 2 = .ok (.ishl, 1) := by decide +kernel
theorem dX2_allOf_3 : decode cX2_allOf 3 = .ok (.iconst 1, 1) := by decide +kernel
theorem dX2_allOf_4 : decode cX2_allOf 4 = .ok (.isub, 1) := by decide +kernel
theorem dX2_allOf_5 : decode cX2_allOf 5 = .ok (.ireturn, 1) := by decide +kernel
theorem dX2_findReach_0 : decode cX2_findReach 0 = .ok (.aload_n 0, 1) := by decide +kernel
theorem dX2_findReach_1 : decode cX2_findReach 1 = .ok (.getfield 34, 3) := by decide +kernel
theorem dX2_findReach_4 : decode cX2_findReach 4 = .ok (.iload_n 1, 1) := by decide +kernel
theorem dX2_findReach_5 : decode cX2_findReach 5 = .ok (.iconst 1, 1) := by decide +kernel
theorem dX2_findReach_6 : decode cX2_findReach 6 = .ok (.invokevirtual 73, 3) := by decide +kernel
theorem dX2_findReach_9 : decode cX2_findReach 9 = .ok (.sipush 200, 3) := by decide +kernel
theorem dX2_findReach_12 : decode cX2_findReach 12 = .ok (.imul, 1) := by decide +kernel
theorem dX2_findReach_13 : decode cX2_findReach 13 = .ok (.istore 4, 2) := by decide +kernel
theorem dX2_findReach_15 : decode cX2_findReach 15 = .ok (.aload_n 0, 1) := by decide +kernel
theorem dX2_findReach_16 : decode cX2_findReach 16 = .ok (.getfield 34, 3) := by decide +kernel
theorem dX2_findReach_19 : decode cX2_findReach 19 = .ok (.iload_n 1, 1) := by decide +kernel
theorem dX2_findReach_20 : decode cX2_findReach 20 = .ok (.iconst 2, 1) := by decide +kernel
theorem dX2_findReach_21 : decode cX2_findReach 21 = .ok (.invokevirtual 73, 3) := by decide +kernel
theorem dX2_findReach_24 : decode cX2_findReach 24 = .ok (.istore 5, 2) := by decide +kernel
theorem dX2_findReach_26 : decode cX2_findReach 26 = .ok (.iload_n 2, 1) := by decide +kernel
theorem dX2_findReach_27 : decode cX2_findReach 27 = .ok (.invokestatic 76, 3) := by decide +kernel
theorem dX2_findReach_30 : decode cX2_findReach 30 = .ok (.istore 6, 2) := by decide +kernel
theorem dX2_findReach_32 : decode cX2_findReach 32 = .ok (.iconst 0, 1) := by decide +kernel
theorem dX2_findReach_33 : decode cX2_findReach 33 = .ok (.istore 7, 2) := by decide +kernel
theorem dX2_findReach_35 : decode cX2_findReach 35 = .ok (.iload 7, 2) := by decide +kernel
theorem dX2_findReach_37 : decode cX2_findReach 37 = .ok (.sipush 200, 3) := by decide +kernel
theorem dX2_findReach_40 : decode cX2_findReach 40 = .ok (.if_icmp .ge 74, 3) := by decide +kernel
theorem dX2_findReach_43 : decode cX2_findReach 43 = .ok (.iload 4, 2) := by decide +kernel
theorem dX2_findReach_45 : decode cX2_findReach 45 = .ok (.iload 7, 2) := by decide +kernel
theorem dX2_findReach_47 : decode cX2_findReach 47 = .ok (.iadd, 1) := by decide +kernel
theorem dX2_findReach_48 : decode cX2_findReach 48 = .ok (.istore 8, 2) := by decide +kernel
theorem dX2_findReach_50 : decode cX2_findReach 50 = .ok (.iload 7, 2) := by decide +kernel
theorem dX2_findReach_52 : decode cX2_findReach 52 = .ok (.iload_n 3, 1) := by decide +kernel
theorem dX2_findReach_53 : decode cX2_findReach 53 = .ok (.if_icmp .lt 22, 3) := by decide +kernel
theorem dX2_findReach_56 : decode cX2_findReach 56 = .ok (.iload 8, 2) := by decide +kernel
theorem dX2_findReach_58 : decode cX2_findReach 58 = .ok (.ifCond .lt 17, 3) := by decide +kernel
theorem dX2_findReach_61 : decode cX2_findReach 61 = .ok (.iload 8, 2) := by decide +kernel
theorem dX2_findReach_63 : decode cX2_findReach 63 = .ok (.aload_n 0, 1) := by decide +kernel
theorem dX2_findReach_64 : decode cX2_findReach 64 = .ok (.getfield 9, 3) := by decide +kernel
theorem dX2_findReach_67 : decode cX2_findReach 67 = .ok (.arraylength, 1) := by decide +kernel
theorem dX2_findReach_68 : decode cX2_findReach 68 = .ok (.if_icmp .ge 7, 3) := by decide +kernel
theorem dX2_findReach_71 : decode cX2_findReach 71 = .ok (.iconst 1, 1) := by decide +kernel
theorem dX2_findReach_72 : decode cX2_findReach 72 = .ok (.goto 4, 3) := by decide +kernel
theorem dX2_findReach_75 : decode cX2_findReach 75 = .ok (.iconst 0, 1) := by decide +kernel
theorem dX2_findReach_76 : decode cX2_findReach 76 = .ok (.istore 9, 2) := by decide +kernel
theorem dX2_findReach_78 : decode cX2_findReach 78 = .ok (.aload_n 0, 1) := by decide +kernel
theorem dX2_findReach_79 : decode cX2_findReach 79 = .ok (.getfield 28, 3) := by decide +kernel
theorem dX2_findReach_82 : decode cX2_findReach 82 = .ok (.iload 7, 2) := by decide +kernel
theorem dX2_findReach_84 : decode cX2_findReach 84 = .ok (.iload 9, 2) := by decide +kernel
theorem dX2_findReach_86 : decode cX2_findReach 86 = .ok (.ifCond .eq 20, 3) := by decide +kernel
theorem dX2_findReach_89 : decode cX2_findReach 89 = .ok (.aload_n 0, 1) := by decide +kernel
theorem dX2_findReach_90 : decode cX2_findReach 90 = .ok (.getfield 9, 3) := by decide +kernel
theorem dX2_findReach_93 : decode cX2_findReach 93 = .ok (.iload 8, 2) := by decide +kernel
theorem dX2_findReach_95 : decode cX2_findReach 95 = .ok (.laload, 1) := by decide +kernel
theorem dX2_findReach_96 : decode cX2_findReach 96 = .ok (.iload 5, 2) := by decide +kernel
theorem dX2_findReach_98 : decode cX2_findReach 98 = .ok (.lushr, 1) := by decide +kernel
theorem dX2_findReach_99 : decode cX2_findReach 99 = .ok (.l2i, 1) := by decide +kernel
theorem dX2_findReach_100 : decode cX2_findReach 100 = .ok (.iload 6, 2) := by decide +kernel
theorem dX2_findReach_102 : decode cX2_findReach 102 = .ok (.iand, 1) := by decide +kernel
theorem dX2_findReach_103 : decode cX2_findReach 103 = .ok (.goto 4, 3) := by decide +kernel
theorem dX2_findReach_106 : decode cX2_findReach 106 = .ok (.iconst 0, 1) := by decide +kernel
theorem dX2_findReach_107 : decode cX2_findReach 107 = .ok (.iastore, 1) := by decide +kernel
theorem dX2_findReach_108 : decode cX2_findReach 108 = .ok (.iinc 7 1, 3) := by decide +kernel
theorem dX2_findReach_111 : decode cX2_findReach 111 = .ok (.goto (-76), 3) := by decide +kernel
theorem dX2_findReach_114 : decode cX2_findReach 114 = .ok (.return_, 1) := by decide +kernel
theorem dX2_litBeat_0 : decode cX2_litBeat 0 = .ok (.iload_n 1, 1) := by decide +kernel
theorem dX2_litBeat_1 : decode cX2_litBeat 1 = .ok (.bipush 12, 2) := by decide +kernel
theorem dX2_litBeat_3 : decode cX2_litBeat 3 = .ok (.imul, 1) := by decide +kernel
theorem dX2_litBeat_4 : decode cX2_litBeat 4 = .ok (.iload_n 2, 1) := by decide +kernel
theorem dX2_litBeat_5 : decode cX2_litBeat 5 = .ok (.iadd, 1) := by decide +kernel
theorem dX2_litBeat_6 : decode cX2_litBeat 6 = .ok (.istore_n 3, 1) := by decide +kernel
theorem dX2_litBeat_7 : decode cX2_litBeat 7 = .ok (.iload_n 3, 1) := by decide +kernel
theorem dX2_litBeat_8 : decode cX2_litBeat 8 = .ok (.ifCond .lt 21, 3) := by decide +kernel
theorem dX2_litBeat_11 : decode cX2_litBeat 11 = .ok (.iload_n 3, 1) := by decide +kernel
theorem dX2_litBeat_12 : decode cX2_litBeat 12 = .ok (.aload_n 0, 1) := by decide +kernel
theorem dX2_litBeat_13 : decode cX2_litBeat 13 = .ok (.getfield 15, 3) := by decide +kernel
theorem dX2_litBeat_16 : decode cX2_litBeat 16 = .ok (.arraylength, 1) := by decide +kernel
theorem dX2_litBeat_17 : decode cX2_litBeat 17 = .ok (.if_icmp .ge 12, 3) := by decide +kernel
theorem dX2_litBeat_20 : decode cX2_litBeat 20 = .ok (.aload_n 0, 1) := by decide +kernel
theorem dX2_litBeat_21 : decode cX2_litBeat 21 = .ok (.getfield 15, 3) := by decide +kernel
theorem dX2_litBeat_24 : decode cX2_litBeat 24 = .ok (.iload_n 3, 1) := by decide +kernel
theorem dX2_litBeat_25 : decode cX2_litBeat 25 = .ok (.iaload, 1) := by decide +kernel
theorem dX2_litBeat_26 : decode cX2_litBeat 26 = .ok (.goto 4, 3) := by decide +kernel
theorem dX2_litBeat_29 : decode cX2_litBeat 29 = .ok (.iconst (-1), 1) := by decide +kernel
theorem dX2_litBeat_30 : decode cX2_litBeat 30 = .ok (.ireturn, 1) := by decide +kernel
theorem dX2_nextBar_0 : decode cX2_nextBar 0 = .ok (.iload_n 0, 1) := by decide +kernel
theorem dX2_nextBar_1 : decode cX2_nextBar 1 = .ok (.istore_n 2, 1) := by decide +kernel
theorem dX2_nextBar_2 : decode cX2_nextBar 2 = .ok (.iload_n 2, 1) := by decide +kernel
theorem dX2_nextBar_3 : decode cX2_nextBar 3 = .ok (.sipush 200, 3) := by decide +kernel
theorem dX2_nextBar_6 : decode cX2_nextBar 6 = .ok (.if_icmp .ge 21, 3) := by decide +kernel
theorem dX2_nextBar_9 : decode cX2_nextBar 9 = .ok (.iload_n 1, 1) := by decide +kernel
theorem dX2_nextBar_10 : decode cX2_nextBar 10 = .ok (.ifCond .le 11, 3) := by decide +kernel
theorem dX2_nextBar_13 : decode cX2_nextBar 13 = .ok (.iload_n 2, 1) := by decide +kernel
theorem dX2_nextBar_14 : decode cX2_nextBar 14 = .ok (.iload_n 1, 1) := by decide +kernel
theorem dX2_nextBar_15 : decode cX2_nextBar 15 = .ok (.irem, 1) := by decide +kernel
theorem dX2_nextBar_16 : decode cX2_nextBar 16 = .ok (.ifCond .ne 5, 3) := by decide +kernel
theorem dX2_nextBar_19 : decode cX2_nextBar 19 = .ok (.iload_n 2, 1) := by decide +kernel
theorem dX2_nextBar_20 : decode cX2_nextBar 20 = .ok (.ireturn, 1) := by decide +kernel
theorem dX2_nextBar_21 : decode cX2_nextBar 21 = .ok (.iinc 2 1, 3) := by decide +kernel
theorem dX2_nextBar_24 : decode cX2_nextBar 24 = .ok (.goto (-22), 3) := by decide +kernel
theorem dX2_nextBar_27 : decode cX2_nextBar 27 = .ok (.sipush 200, 3) := by decide +kernel
theorem dX2_nextBar_30 : decode cX2_nextBar 30 = .ok (.ireturn, 1) := by decide +kernel
theorem dX2_finish_0 : decode cX2_finish 0 = .ok (.iload_n 1, 1) := by decide +kernel
theorem dX2_finish_1 : decode cX2_finish 1 = .ok (.ifCond .lt 21, 3) := by decide +kernel
theorem dX2_finish_4 : decode cX2_finish 4 = .ok (.iload_n 1, 1) := by decide +kernel
theorem dX2_finish_5 : decode cX2_finish 5 = .ok (.aload_n 0, 1) := by decide +kernel
theorem dX2_finish_6 : decode cX2_finish 6 = .ok (.getfield 19, 3) := by decide +kernel
theorem dX2_finish_9 : decode cX2_finish 9 = .ok (.arraylength, 1) := by decide +kernel
theorem dX2_finish_10 : decode cX2_finish 10 = .ok (.if_icmp .ge 12, 3) := by decide +kernel
theorem dX2_finish_13 : decode cX2_finish 13 = .ok (.iload_n 1, 1) := by decide +kernel
theorem dX2_finish_14 : decode cX2_finish 14 = .ok (.aload_n 0, 1) := by decide +kernel
theorem dX2_finish_15 : decode cX2_finish 15 = .ok (.getfield 22, 3) := by decide +kernel
theorem dX2_finish_18 : decode cX2_finish 18 = .ok (.arraylength, 1) := by decide +kernel
theorem dX2_finish_19 : decode cX2_finish 19 = .ok (.if_icmp .lt 4, 3) := by decide +kernel
theorem dX2_finish_22 : decode cX2_finish 22 = .ok (.return_, 1) := by decide +kernel
theorem dX2_finish_23 : decode cX2_finish 23 = .ok (.iconst 0, 1) := by decide +kernel
theorem dX2_finish_24 : decode cX2_finish 24 = .ok (.istore_n 3, 1) := by decide +kernel
theorem dX2_finish_25 : decode cX2_finish 25 = .ok (.iconst 0, 1) := by decide +kernel
theorem dX2_finish_26 : decode cX2_finish 26 = .ok (.istore 4, 2) := by decide +kernel
theorem dX2_finish_28 : decode cX2_finish 28 = .ok (.iload 4, 2) := by decide +kernel
theorem dX2_finish_30 : decode cX2_finish 30 = .ok (.iload_n 2, 1) := by decide +kernel
theorem dX2_finish_31 : decode cX2_finish 31 = .ok (.if_icmp .ge 37, 3) := by decide +kernel
theorem dX2_finish_34 : decode cX2_finish 34 = .ok (.aload_n 0, 1) := by decide +kernel
theorem dX2_finish_35 : decode cX2_finish 35 = .ok (.iload_n 1, 1) := by decide +kernel
theorem dX2_finish_36 : decode cX2_finish 36 = .ok (.iload 4, 2) := by decide +kernel
theorem dX2_finish_38 : decode cX2_finish 38 = .ok (.invokevirtual 116, 3) := by decide +kernel
theorem dX2_finish_41 : decode cX2_finish 41 = .ok (.istore 5, 2) := by decide +kernel
theorem dX2_finish_43 : decode cX2_finish 43 = .ok (.iload 5, 2) := by decide +kernel
theorem dX2_finish_45 : decode cX2_finish 45 = .ok (.iconst (-1), 1) := by decide +kernel
theorem dX2_finish_46 : decode cX2_finish 46 = .ok (.if_icmp .ne 9, 3) := by decide +kernel
theorem dX2_finish_49 : decode cX2_finish 49 = .ok (.sipush 200, 3) := by decide +kernel
theorem dX2_finish_52 : decode cX2_finish 52 = .ok (.goto 9, 3) := by decide +kernel
theorem dX2_finish_55 : decode cX2_finish 55 = .ok (.iload_n 3, 1) := by decide +kernel
theorem dX2_finish_56 : decode cX2_finish 56 = .ok (.iload 5, 2) := by decide +kernel
theorem dX2_finish_58 : decode cX2_finish 58 = .ok (.invokestatic 64, 3) := by decide +kernel
theorem dX2_finish_61 : decode cX2_finish 61 = .ok (.istore_n 3, 1) := by decide +kernel
theorem dX2_finish_62 : decode cX2_finish 62 = .ok (.iinc 4 1, 3) := by decide +kernel
theorem dX2_finish_65 : decode cX2_finish 65 = .ok (.goto (-37), 3) := by decide +kernel
theorem dX2_finish_68 : decode cX2_finish 68 = .ok (.aload_n 0, 1) := by decide +kernel
theorem dX2_finish_69 : decode cX2_finish 69 = .ok (.getfield 34, 3) := by decide +kernel
theorem dX2_finish_72 : decode cX2_finish 72 = .ok (.iload_n 1, 1) := by decide +kernel
theorem dX2_finish_73 : decode cX2_finish 73 = .ok (.iconst 5, 1) := by decide +kernel
theorem dX2_finish_74 : decode cX2_finish 74 = .ok (.invokevirtual 73, 3) := by decide +kernel
theorem dX2_finish_77 : decode cX2_finish 77 = .ok (.iconst 1, 1) := by decide +kernel
theorem dX2_finish_78 : decode cX2_finish 78 = .ok (.invokestatic 64, 3) := by decide +kernel
theorem dX2_finish_81 : decode cX2_finish 81 = .ok (.istore 4, 2) := by decide +kernel
theorem dX2_finish_83 : decode cX2_finish 83 = .ok (.aload_n 0, 1) := by decide +kernel
theorem dX2_finish_84 : decode cX2_finish 84 = .ok (.getfield 19, 3) := by decide +kernel
theorem dX2_finish_87 : decode cX2_finish 87 = .ok (.iload_n 1, 1) := by decide +kernel
theorem dX2_finish_88 : decode cX2_finish 88 = .ok (.iload_n 3, 1) := by decide +kernel
theorem dX2_finish_89 : decode cX2_finish 89 = .ok (.sipush 200, 3) := by decide +kernel
theorem dX2_finish_92 : decode cX2_finish 92 = .ok (.if_icmp .ge 7, 3) := by decide +kernel
theorem dX2_finish_95 : decode cX2_finish 95 = .ok (.iload_n 3, 1) := by decide +kernel
theorem dX2_finish_96 : decode cX2_finish 96 = .ok (.goto 4, 3) := by decide +kernel
theorem dX2_finish_99 : decode cX2_finish 99 = .ok (.iconst (-1), 1) := by decide +kernel
theorem dX2_finish_100 : decode cX2_finish 100 = .ok (.iastore, 1) := by decide +kernel
theorem dX2_finish_101 : decode cX2_finish 101 = .ok (.aload_n 0, 1) := by decide +kernel
theorem dX2_finish_102 : decode cX2_finish 102 = .ok (.getfield 22, 3) := by decide +kernel
theorem dX2_finish_105 : decode cX2_finish 105 = .ok (.iload_n 1, 1) := by decide +kernel
theorem dX2_finish_106 : decode cX2_finish 106 = .ok (.iload_n 3, 1) := by decide +kernel
theorem dX2_finish_107 : decode cX2_finish 107 = .ok (.iload 4, 2) := by decide +kernel
theorem dX2_finish_109 : decode cX2_finish 109 = .ok (.iadd, 1) := by decide +kernel
theorem dX2_finish_110 : decode cX2_finish 110 = .ok (.aload_n 0, 1) := by decide +kernel
theorem dX2_finish_111 : decode cX2_finish 111 = .ok (.getfield 34, 3) := by decide +kernel
theorem dX2_finish_114 : decode cX2_finish 114 = .ok (.iconst 0, 1) := by decide +kernel
theorem dX2_finish_115 : decode cX2_finish 115 = .ok (.invokevirtual 106, 3) := by decide +kernel
theorem dX2_finish_118 : decode cX2_finish 118 = .ok (.invokestatic 119, 3) := by decide +kernel
theorem dX2_finish_121 : decode cX2_finish 121 = .ok (.iastore, 1) := by decide +kernel
theorem dX2_finish_122 : decode cX2_finish 122 = .ok (.return_, 1) := by decide +kernel
theorem dX2_putLit_0 : decode cX2_putLit 0 = .ok (.iconst 0, 1) := by decide +kernel
theorem dX2_putLit_1 : decode cX2_putLit 1 = .ok (.istore 4, 2) := by decide +kernel
theorem dX2_putLit_3 : decode cX2_putLit 3 = .ok (.iload 4, 2) := by decide +kernel
theorem dX2_putLit_5 : decode cX2_putLit 5 = .ok (.bipush 12, 2) := by decide +kernel
theorem dX2_putLit_7 : decode cX2_putLit 7 = .ok (.if_icmp .ge 55, 3) := by decide +kernel
theorem dX2_putLit_10 : decode cX2_putLit 10 = .ok (.iload_n 2, 1) := by decide +kernel
theorem dX2_putLit_11 : decode cX2_putLit 11 = .ok (.ifCond .eq 51, 3) := by decide +kernel
theorem dX2_putLit_14 : decode cX2_putLit 14 = .ok (.iload_n 1, 1) := by decide +kernel
theorem dX2_putLit_15 : decode cX2_putLit 15 = .ok (.bipush 12, 2) := by decide +kernel
theorem dX2_putLit_17 : decode cX2_putLit 17 = .ok (.imul, 1) := by decide +kernel
theorem dX2_putLit_18 : decode cX2_putLit 18 = .ok (.iload 4, 2) := by decide +kernel
theorem dX2_putLit_20 : decode cX2_putLit 20 = .ok (.iadd, 1) := by decide +kernel
theorem dX2_putLit_21 : decode cX2_putLit 21 = .ok (.istore 5, 2) := by decide +kernel
theorem dX2_putLit_23 : decode cX2_putLit 23 = .ok (.iload_n 2, 1) := by decide +kernel
theorem dX2_putLit_24 : decode cX2_putLit 24 = .ok (.iload 4, 2) := by decide +kernel
theorem dX2_putLit_26 : decode cX2_putLit 26 = .ok (.ishr, 1) := by decide +kernel
theorem dX2_putLit_27 : decode cX2_putLit 27 = .ok (.iconst 1, 1) := by decide +kernel
theorem dX2_putLit_28 : decode cX2_putLit 28 = .ok (.iand, 1) := by decide +kernel
theorem dX2_putLit_29 : decode cX2_putLit 29 = .ok (.iconst 1, 1) := by decide +kernel
theorem dX2_putLit_30 : decode cX2_putLit 30 = .ok (.if_icmp .ne 26, 3) := by decide +kernel
theorem dX2_putLit_33 : decode cX2_putLit 33 = .ok (.iload 5, 2) := by decide +kernel
theorem dX2_putLit_35 : decode cX2_putLit 35 = .ok (.ifCond .lt 21, 3) := by decide +kernel
theorem dX2_putLit_38 : decode cX2_putLit 38 = .ok (.iload 5, 2) := by decide +kernel
theorem dX2_putLit_40 : decode cX2_putLit 40 = .ok (.aload_n 0, 1) := by decide +kernel
theorem dX2_putLit_41 : decode cX2_putLit 41 = .ok (.getfield 15, 3) := by decide +kernel
theorem dX2_putLit_44 : decode cX2_putLit 44 = .ok (.arraylength, 1) := by decide +kernel
theorem dX2_putLit_45 : decode cX2_putLit 45 = .ok (.if_icmp .ge 11, 3) := by decide +kernel
theorem dX2_putLit_48 : decode cX2_putLit 48 = .ok (.aload_n 0, 1) := by decide +kernel
theorem dX2_putLit_49 : decode cX2_putLit 49 = .ok (.getfield 15, 3) := by decide +kernel
theorem dX2_putLit_52 : decode cX2_putLit 52 = .ok (.iload 5, 2) := by decide +kernel
theorem dX2_putLit_54 : decode cX2_putLit 54 = .ok (.iload_n 3, 1) := by decide +kernel
theorem dX2_putLit_55 : decode cX2_putLit 55 = .ok (.iastore, 1) := by decide +kernel
theorem dX2_putLit_56 : decode cX2_putLit 56 = .ok (.iinc 4 1, 3) := by decide +kernel
theorem dX2_putLit_59 : decode cX2_putLit 59 = .ok (.goto (-56), 3) := by decide +kernel
theorem dX2_putLit_62 : decode cX2_putLit 62 = .ok (.return_, 1) := by decide +kernel
theorem dX2_lightEach_0 : decode cX2_lightEach 0 = .ok (.iload_n 2, 1) := by decide +kernel
theorem dX2_lightEach_1 : decode cX2_lightEach 1 = .ok (.invokestatic 76, 3) := by decide +kernel
theorem dX2_lightEach_4 : decode cX2_lightEach 4 = .ok (.istore_n 3, 1) := by decide +kernel
theorem dX2_lightEach_5 : decode cX2_lightEach 5 = .ok (.iconst 0, 1) := by decide +kernel
theorem dX2_lightEach_6 : decode cX2_lightEach 6 = .ok (.istore 4, 2) := by decide +kernel
theorem dX2_lightEach_8 : decode cX2_lightEach 8 = .ok (.iload 4, 2) := by decide +kernel
theorem dX2_lightEach_10 : decode cX2_lightEach 10 = .ok (.sipush 200, 3) := by decide +kernel
theorem dX2_lightEach_13 : decode cX2_lightEach 13 = .ok (.if_icmp .ge 38, 3) := by decide +kernel
theorem dX2_lightEach_16 : decode cX2_lightEach 16 = .ok (.iload_n 3, 1) := by decide +kernel
theorem dX2_lightEach_17 : decode cX2_lightEach 17 = .ok (.ifCond .eq 34, 3) := by decide +kernel
theorem dX2_lightEach_20 : decode cX2_lightEach 20 = .ok (.aload_n 0, 1) := by decide +kernel
theorem dX2_lightEach_21 : decode cX2_lightEach 21 = .ok (.getfield 28, 3) := by decide +kernel
theorem dX2_lightEach_24 : decode cX2_lightEach 24 = .ok (.iload 4, 2) := by decide +kernel
theorem dX2_lightEach_26 : decode cX2_lightEach 26 = .ok (.iaload, 1) := by decide +kernel
theorem dX2_lightEach_27 : decode cX2_lightEach 27 = .ok (.iload_n 3, 1) := by decide +kernel
theorem dX2_lightEach_28 : decode cX2_lightEach 28 = .ok (.iand, 1) := by decide +kernel
theorem dX2_lightEach_29 : decode cX2_lightEach 29 = .ok (.istore 5, 2) := by decide +kernel
theorem dX2_lightEach_31 : decode cX2_lightEach 31 = .ok (.aload_n 0, 1) := by decide +kernel
theorem dX2_lightEach_32 : decode cX2_lightEach 32 = .ok (.iload_n 1, 1) := by decide +kernel
theorem dX2_lightEach_33 : decode cX2_lightEach 33 = .ok (.iload 5, 2) := by decide +kernel
theorem dX2_lightEach_35 : decode cX2_lightEach 35 = .ok (.iload 4, 2) := by decide +kernel
theorem dX2_lightEach_37 : decode cX2_lightEach 37 = .ok (.invokevirtual 91, 3) := by decide +kernel
theorem dX2_lightEach_40 : decode cX2_lightEach 40 = .ok (.iload_n 3, 1) := by decide +kernel
theorem dX2_lightEach_41 : decode cX2_lightEach 41 = .ok (.iload 5, 2) := by decide +kernel
theorem dX2_lightEach_43 : decode cX2_lightEach 43 = .ok (.isub, 1) := by decide +kernel
theorem dX2_lightEach_44 : decode cX2_lightEach 44 = .ok (.istore_n 3, 1) := by decide +kernel
theorem dX2_lightEach_45 : decode cX2_lightEach 45 = .ok (.iinc 4 1, 3) := by decide +kernel
theorem dX2_lightEach_48 : decode cX2_lightEach 48 = .ok (.goto (-40), 3) := by decide +kernel
theorem dX2_lightEach_51 : decode cX2_lightEach 51 = .ok (.return_, 1) := by decide +kernel
theorem dX2_lightInTurn_0 : decode cX2_lightInTurn 0 = .ok (.iconst 0, 1) := by decide +kernel
theorem dX2_lightInTurn_1 : decode cX2_lightInTurn 1 = .ok (.istore_n 3, 1) := by decide +kernel
theorem dX2_lightInTurn_2 : decode cX2_lightInTurn 2 = .ok (.iconst 0, 1) := by decide +kernel
theorem dX2_lightInTurn_3 : decode cX2_lightInTurn 3 = .ok (.istore 4, 2) := by decide +kernel
theorem dX2_lightInTurn_5 : decode cX2_lightInTurn 5 = .ok (.iload 4, 2) := by decide +kernel
theorem dX2_lightInTurn_7 : decode cX2_lightInTurn 7 = .ok (.sipush 200, 3) := by decide +kernel
theorem dX2_lightInTurn_10 : decode cX2_lightInTurn 10 = .ok (.if_icmp .ge 50, 3) := by decide +kernel
theorem dX2_lightInTurn_13 : decode cX2_lightInTurn 13 = .ok (.iload_n 3, 1) := by decide +kernel
theorem dX2_lightInTurn_14 : decode cX2_lightInTurn 14 = .ok (.iload_n 2, 1) := by decide +kernel
theorem dX2_lightInTurn_15 : decode cX2_lightInTurn 15 = .ok (.if_icmp .ge 45, 3) := by decide +kernel
theorem dX2_lightInTurn_18 : decode cX2_lightInTurn 18 = .ok (.iload_n 3, 1) := by decide +kernel
theorem dX2_lightInTurn_19 : decode cX2_lightInTurn 19 = .ok (.iload_n 2, 1) := by decide +kernel
theorem dX2_lightInTurn_20 : decode cX2_lightInTurn 20 = .ok (.if_icmp .ge 34, 3) := by decide +kernel
theorem dX2_lightInTurn_23 : decode cX2_lightInTurn 23 = .ok (.aload_n 0, 1) := by decide +kernel
theorem dX2_lightInTurn_24 : decode cX2_lightInTurn 24 = .ok (.getfield 28, 3) := by decide +kernel
theorem dX2_lightInTurn_27 : decode cX2_lightInTurn 27 = .ok (.iload 4, 2) := by decide +kernel
theorem dX2_lightInTurn_29 : decode cX2_lightInTurn 29 = .ok (.iaload, 1) := by decide +kernel
theorem dX2_lightInTurn_30 : decode cX2_lightInTurn 30 = .ok (.iload_n 3, 1) := by decide +kernel
theorem dX2_lightInTurn_31 : decode cX2_lightInTurn 31 = .ok (.ishr, 1) := by decide +kernel
theorem dX2_lightInTurn_32 : decode cX2_lightInTurn 32 = .ok (.iconst 1, 1) := by decide +kernel
theorem dX2_lightInTurn_33 : decode cX2_lightInTurn 33 = .ok (.iand, 1) := by decide +kernel
theorem dX2_lightInTurn_34 : decode cX2_lightInTurn 34 = .ok (.iconst 1, 1) := by decide +kernel
theorem dX2_lightInTurn_35 : decode cX2_lightInTurn 35 = .ok (.if_icmp .ne 19, 3) := by decide +kernel
theorem dX2_lightInTurn_38 : decode cX2_lightInTurn 38 = .ok (.aload_n 0, 1) := by decide +kernel
theorem dX2_lightInTurn_39 : decode cX2_lightInTurn 39 = .ok (.iload_n 1, 1) := by decide +kernel
theorem dX2_lightInTurn_40 : decode cX2_lightInTurn 40 = .ok (.iconst 1, 1) := by decide +kernel
theorem dX2_lightInTurn_41 : decode cX2_lightInTurn 41 = .ok (.iload_n 3, 1) := by decide +kernel
theorem dX2_lightInTurn_42 : decode cX2_lightInTurn 42 = .ok (.ishl, 1) := by decide +kernel
theorem dX2_lightInTurn_43 : decode cX2_lightInTurn 43 = .ok (.iload 4, 2) := by decide +kernel
theorem dX2_lightInTurn_45 : decode cX2_lightInTurn 45 = .ok (.invokevirtual 91, 3) := by decide +kernel
theorem dX2_lightInTurn_48 : decode cX2_lightInTurn 48 = .ok (.iinc 3 1, 3) := by decide +kernel
theorem dX2_lightInTurn_51 : decode cX2_lightInTurn 51 = .ok (.goto (-33), 3) := by decide +kernel
theorem dX2_lightInTurn_54 : decode cX2_lightInTurn 54 = .ok (.iinc 4 1, 3) := by decide +kernel
theorem dX2_lightInTurn_57 : decode cX2_lightInTurn 57 = .ok (.goto (-52), 3) := by decide +kernel
theorem dX2_lightInTurn_60 : decode cX2_lightInTurn 60 = .ok (.return_, 1) := by decide +kernel
theorem dX2_oldestReach_0 : decode cX2_oldestReach 0 = .ok (.iload_n 3, 1) := by decide +kernel
theorem dX2_oldestReach_1 : decode cX2_oldestReach 1 = .ok (.istore 4, 2) := by decide +kernel
theorem dX2_oldestReach_3 : decode cX2_oldestReach 3 = .ok (.iconst 0, 1) := by decide +kernel
theorem dX2_oldestReach_4 : decode cX2_oldestReach 4 = .ok (.istore 5, 2) := by decide +kernel
theorem dX2_oldestReach_6 : decode cX2_oldestReach 6 = .ok (.iload 5, 2) := by decide +kernel
theorem dX2_oldestReach_8 : decode cX2_oldestReach 8 = .ok (.iload_n 1, 1) := by decide +kernel
theorem dX2_oldestReach_9 : decode cX2_oldestReach 9 = .ok (.if_icmp .ge 63, 3) := by decide +kernel
theorem dX2_oldestReach_12 : decode cX2_oldestReach 12 = .ok (.iload 5, 2) := by decide +kernel
theorem dX2_oldestReach_14 : decode cX2_oldestReach 14 = .ok (.aload_n 0, 1) := by decide +kernel
theorem dX2_oldestReach_15 : decode cX2_oldestReach 15 = .ok (.getfield 31, 3) := by decide +kernel
theorem dX2_oldestReach_18 : decode cX2_oldestReach 18 = .ok (.arraylength, 1) := by decide +kernel
theorem dX2_oldestReach_19 : decode cX2_oldestReach 19 = .ok (.if_icmp .ge 53, 3) := by decide +kernel
theorem dX2_oldestReach_22 : decode cX2_oldestReach 22 = .ok (.iload_n 2, 1) := by decide +kernel
theorem dX2_oldestReach_23 : decode cX2_oldestReach 23 = .ok (.iload 5, 2) := by decide +kernel
theorem dX2_oldestReach_25 : decode cX2_oldestReach 25 = .ok (.ishr, 1) := by decide +kernel
theorem dX2_oldestReach_26 : decode cX2_oldestReach 26 = .ok (.iconst 1, 1) := by decide +kernel
theorem dX2_oldestReach_27 : decode cX2_oldestReach 27 = .ok (.iand, 1) := by decide +kernel
theorem dX2_oldestReach_28 : decode cX2_oldestReach 28 = .ok (.iconst 1, 1) := by decide +kernel
theorem dX2_oldestReach_29 : decode cX2_oldestReach 29 = .ok (.if_icmp .ne 11, 3) := by decide +kernel
theorem dX2_oldestReach_32 : decode cX2_oldestReach 32 = .ok (.aload_n 0, 1) := by decide +kernel
theorem dX2_oldestReach_33 : decode cX2_oldestReach 33 = .ok (.getfield 31, 3) := by decide +kernel
theorem dX2_oldestReach_36 : decode cX2_oldestReach 36 = .ok (.iload 5, 2) := by decide +kernel
theorem dX2_oldestReach_38 : decode cX2_oldestReach 38 = .ok (.iload_n 3, 1) := by decide +kernel
theorem dX2_oldestReach_39 : decode cX2_oldestReach 39 = .ok (.iastore, 1) := by decide +kernel
theorem dX2_oldestReach_40 : decode cX2_oldestReach 40 = .ok (.aload_n 0, 1) := by decide +kernel
theorem dX2_oldestReach_41 : decode cX2_oldestReach 41 = .ok (.getfield 31, 3) := by decide +kernel
theorem dX2_oldestReach_44 : decode cX2_oldestReach 44 = .ok (.iload 5, 2) := by decide +kernel
theorem dX2_oldestReach_46 : decode cX2_oldestReach 46 = .ok (.iaload, 1) := by decide +kernel
theorem dX2_oldestReach_47 : decode cX2_oldestReach 47 = .ok (.iload 4, 2) := by decide +kernel
theorem dX2_oldestReach_49 : decode cX2_oldestReach 49 = .ok (.if_icmp .ge 13, 3) := by decide +kernel
theorem dX2_oldestReach_52 : decode cX2_oldestReach 52 = .ok (.aload_n 0, 1) := by decide +kernel
theorem dX2_oldestReach_53 : decode cX2_oldestReach 53 = .ok (.getfield 31, 3) := by decide +kernel
theorem dX2_oldestReach_56 : decode cX2_oldestReach 56 = .ok (.iload 5, 2) := by decide +kernel
theorem dX2_oldestReach_58 : decode cX2_oldestReach 58 = .ok (.iaload, 1) := by decide +kernel
theorem dX2_oldestReach_59 : decode cX2_oldestReach 59 = .ok (.goto 5, 3) := by decide +kernel
theorem dX2_oldestReach_62 : decode cX2_oldestReach 62 = .ok (.iload 4, 2) := by decide +kernel
theorem dX2_oldestReach_64 : decode cX2_oldestReach 64 = .ok (.istore 4, 2) := by decide +kernel
theorem dX2_oldestReach_66 : decode cX2_oldestReach 66 = .ok (.iinc 5 1, 3) := by decide +kernel
theorem dX2_oldestReach_69 : decode cX2_oldestReach 69 = .ok (.goto (-63), 3) := by decide +kernel
theorem dX2_oldestReach_72 : decode cX2_oldestReach 72 = .ok (.iload 4, 2) := by decide +kernel
theorem dX2_oldestReach_74 : decode cX2_oldestReach 74 = .ok (.ireturn, 1) := by decide +kernel
theorem dX2_lightTogether_0 : decode cX2_lightTogether 0 = .ok (.aload_n 0, 1) := by decide +kernel
theorem dX2_lightTogether_1 : decode cX2_lightTogether 1 = .ok (.getfield 34, 3) := by decide +kernel
theorem dX2_lightTogether_4 : decode cX2_lightTogether 4 = .ok (.iconst 1, 1) := by decide +kernel
theorem dX2_lightTogether_5 : decode cX2_lightTogether 5 = .ok (.invokevirtual 106, 3) := by decide +kernel
theorem dX2_lightTogether_8 : decode cX2_lightTogether 8 = .ok (.istore_n 3, 1) := by decide +kernel
theorem dX2_lightTogether_9 : decode cX2_lightTogether 9 = .ok (.aload_n 0, 1) := by decide +kernel
theorem dX2_lightTogether_10 : decode cX2_lightTogether 10 = .ok (.getfield 31, 3) := by decide +kernel
theorem dX2_lightTogether_13 : decode cX2_lightTogether 13 = .ok (.iconst (-1), 1) := by decide +kernel
theorem dX2_lightTogether_14 : decode cX2_lightTogether 14 = .ok (.invokestatic 109, 3) := by decide +kernel
theorem dX2_lightTogether_17 : decode cX2_lightTogether 17 = .ok (.iconst 0, 1) := by decide +kernel
theorem dX2_lightTogether_18 : decode cX2_lightTogether 18 = .ok (.istore 4, 2) := by decide +kernel
theorem dX2_lightTogether_20 : decode cX2_lightTogether 20 = .ok (.iload 4, 2) := by decide +kernel
theorem dX2_lightTogether_22 : decode cX2_lightTogether 22 = .ok (.sipush 200, 3) := by decide +kernel
theorem dX2_lightTogether_25 : decode cX2_lightTogether 25 = .ok (.if_icmp .ge 52, 3) := by decide +kernel
theorem dX2_lightTogether_28 : decode cX2_lightTogether 28 = .ok (.aload_n 0, 1) := by decide +kernel
theorem dX2_lightTogether_29 : decode cX2_lightTogether 29 = .ok (.iload_n 2, 1) := by decide +kernel
theorem dX2_lightTogether_30 : decode cX2_lightTogether 30 = .ok (.aload_n 0, 1) := by decide +kernel
theorem dX2_lightTogether_31 : decode cX2_lightTogether 31 = .ok (.getfield 28, 3) := by decide +kernel
theorem dX2_lightTogether_34 : decode cX2_lightTogether 34 = .ok (.iload 4, 2) := by decide +kernel
theorem dX2_lightTogether_36 : decode cX2_lightTogether 36 = .ok (.iaload, 1) := by decide +kernel
theorem dX2_lightTogether_37 : decode cX2_lightTogether 37 = .ok (.iload 4, 2) := by decide +kernel
theorem dX2_lightTogether_39 : decode cX2_lightTogether 39 = .ok (.invokevirtual 112, 3) := by decide +kernel
theorem dX2_lightTogether_42 : decode cX2_lightTogether 42 = .ok (.istore 5, 2) := by decide +kernel
theorem dX2_lightTogether_44 : decode cX2_lightTogether 44 = .ok (.iload 5, 2) := by decide +kernel
theorem dX2_lightTogether_46 : decode cX2_lightTogether 46 = .ok (.iconst (-1), 1) := by decide +kernel
theorem dX2_lightTogether_47 : decode cX2_lightTogether 47 = .ok (.if_icmp .eq 24, 3) := by decide +kernel
theorem dX2_lightTogether_50 : decode cX2_lightTogether 50 = .ok (.iload 5, 2) := by decide +kernel
theorem dX2_lightTogether_52 : decode cX2_lightTogether 52 = .ok (.iload 4, 2) := by decide +kernel
theorem dX2_lightTogether_54 : decode cX2_lightTogether 54 = .ok (.iload_n 3, 1) := by decide +kernel
theorem dX2_lightTogether_55 : decode cX2_lightTogether 55 = .ok (.isub, 1) := by decide +kernel
theorem dX2_lightTogether_56 : decode cX2_lightTogether 56 = .ok (.if_icmp .lt 15, 3) := by decide +kernel
theorem dX2_lightTogether_59 : decode cX2_lightTogether 59 = .ok (.aload_n 0, 1) := by decide +kernel
theorem dX2_lightTogether_60 : decode cX2_lightTogether 60 = .ok (.iload_n 1, 1) := by decide +kernel
theorem dX2_lightTogether_61 : decode cX2_lightTogether 61 = .ok (.iload_n 2, 1) := by decide +kernel
theorem dX2_lightTogether_62 : decode cX2_lightTogether 62 = .ok (.invokestatic 76, 3) := by decide +kernel
theorem dX2_lightTogether_65 : decode cX2_lightTogether 65 = .ok (.iload 4, 2) := by decide +kernel
theorem dX2_lightTogether_67 : decode cX2_lightTogether 67 = .ok (.invokevirtual 91, 3) := by decide +kernel
theorem dX2_lightTogether_70 : decode cX2_lightTogether 70 = .ok (.return_, 1) := by decide +kernel
theorem dX2_lightTogether_71 : decode cX2_lightTogether 71 = .ok (.iinc 4 1, 3) := by decide +kernel
theorem dX2_lightTogether_74 : decode cX2_lightTogether 74 = .ok (.goto (-54), 3) := by decide +kernel
theorem dX2_lightTogether_77 : decode cX2_lightTogether 77 = .ok (.return_, 1) := by decide +kernel
theorem dX2_settle_0 : decode cX2_settle 0 = .ok (.aload_n 0, 1) := by decide +kernel
theorem dX2_settle_1 : decode cX2_settle 1 = .ok (.getfield 34, 3) := by decide +kernel
theorem dX2_settle_4 : decode cX2_settle 4 = .ok (.iload_n 1, 1) := by decide +kernel
theorem dX2_settle_5 : decode cX2_settle 5 = .ok (.iconst 0, 1) := by decide +kernel
theorem dX2_settle_6 : decode cX2_settle 6 = .ok (.invokevirtual 73, 3) := by decide +kernel
theorem dX2_settle_9 : decode cX2_settle 9 = .ok (.istore_n 3, 1) := by decide +kernel
theorem dX2_settle_10 : decode cX2_settle 10 = .ok (.aload_n 0, 1) := by decide +kernel
theorem dX2_settle_11 : decode cX2_settle 11 = .ok (.iload_n 1, 1) := by decide +kernel
theorem dX2_settle_12 : decode cX2_settle 12 = .ok (.iload_n 3, 1) := by decide +kernel
theorem dX2_settle_13 : decode cX2_settle 13 = .ok (.iload_n 2, 1) := by decide +kernel
theorem dX2_settle_14 : decode cX2_settle 14 = .ok (.invokevirtual 87, 3) := by decide +kernel
theorem dX2_settle_17 : decode cX2_settle 17 = .ok (.aload_n 0, 1) := by decide +kernel
theorem dX2_settle_18 : decode cX2_settle 18 = .ok (.iload_n 1, 1) := by decide +kernel
theorem dX2_settle_19 : decode cX2_settle 19 = .ok (.iload_n 3, 1) := by decide +kernel
theorem dX2_settle_20 : decode cX2_settle 20 = .ok (.invokestatic 76, 3) := by decide +kernel
theorem dX2_settle_23 : decode cX2_settle 23 = .ok (.iconst (-1), 1) := by decide +kernel
theorem dX2_settle_24 : decode cX2_settle 24 = .ok (.invokevirtual 91, 3) := by decide +kernel
theorem dX2_settle_27 : decode cX2_settle 27 = .ok (.aload_n 0, 1) := by decide +kernel
theorem dX2_settle_28 : decode cX2_settle 28 = .ok (.getfield 34, 3) := by decide +kernel
theorem dX2_settle_31 : decode cX2_settle 31 = .ok (.iload_n 1, 1) := by decide +kernel
theorem dX2_settle_32 : decode cX2_settle 32 = .ok (.iconst 4, 1) := by decide +kernel
theorem dX2_settle_33 : decode cX2_settle 33 = .ok (.invokevirtual 73, 3) := by decide +kernel
theorem dX2_settle_36 : decode cX2_settle 36 = .ok (.lookupswitch 46 #[(1, 28), (2, 37)], 28) := by decide +kernel
theorem dX2_settle_64 : decode cX2_settle 64 = .ok (.aload_n 0, 1) := by decide +kernel
theorem dX2_settle_65 : decode cX2_settle 65 = .ok (.iload_n 1, 1) := by decide +kernel
theorem dX2_settle_66 : decode cX2_settle 66 = .ok (.iload_n 3, 1) := by decide +kernel
theorem dX2_settle_67 : decode cX2_settle 67 = .ok (.invokevirtual 94, 3) := by decide +kernel
theorem dX2_settle_70 : decode cX2_settle 70 = .ok (.goto 18, 3) := by decide +kernel
theorem dX2_settle_73 : decode cX2_settle 73 = .ok (.aload_n 0, 1) := by decide +kernel
theorem dX2_settle_74 : decode cX2_settle 74 = .ok (.iload_n 1, 1) := by decide +kernel
theorem dX2_settle_75 : decode cX2_settle 75 = .ok (.iload_n 3, 1) := by decide +kernel
theorem dX2_settle_76 : decode cX2_settle 76 = .ok (.invokevirtual 97, 3) := by decide +kernel
theorem dX2_settle_79 : decode cX2_settle 79 = .ok (.goto 9, 3) := by decide +kernel
theorem dX2_settle_82 : decode cX2_settle 82 = .ok (.aload_n 0, 1) := by decide +kernel
theorem dX2_settle_83 : decode cX2_settle 83 = .ok (.iload_n 1, 1) := by decide +kernel
theorem dX2_settle_84 : decode cX2_settle 84 = .ok (.iload_n 3, 1) := by decide +kernel
theorem dX2_settle_85 : decode cX2_settle 85 = .ok (.invokevirtual 100, 3) := by decide +kernel
theorem dX2_settle_88 : decode cX2_settle 88 = .ok (.aload_n 0, 1) := by decide +kernel
theorem dX2_settle_89 : decode cX2_settle 89 = .ok (.iload_n 1, 1) := by decide +kernel
theorem dX2_settle_90 : decode cX2_settle 90 = .ok (.iload_n 3, 1) := by decide +kernel
theorem dX2_settle_91 : decode cX2_settle 91 = .ok (.invokevirtual 103, 3) := by decide +kernel
theorem dX2_settle_94 : decode cX2_settle 94 = .ok (.return_, 1) := by decide +kernel
theorem dX2_settleAll_0 : decode cX2_settleAll 0 = .ok (.iconst 0, 1) := by decide +kernel
theorem dX2_settleAll_1 : decode cX2_settleAll 1 = .ok (.istore_n 1, 1) := by decide +kernel
theorem dX2_settleAll_2 : decode cX2_settleAll 2 = .ok (.iload_n 1, 1) := by decide +kernel
theorem dX2_settleAll_3 : decode cX2_settleAll 3 = .ok (.aload_n 0, 1) := by decide +kernel
theorem dX2_settleAll_4 : decode cX2_settleAll 4 = .ok (.getfield 34, 3) := by decide +kernel
theorem dX2_settleAll_7 : decode cX2_settleAll 7 = .ok (.invokevirtual 80, 3) := by decide +kernel
theorem dX2_settleAll_10 : decode cX2_settleAll 10 = .ok (.if_icmp .ge 23, 3) := by decide +kernel
theorem dX2_settleAll_13 : decode cX2_settleAll 13 = .ok (.aload_n 0, 1) := by decide +kernel
theorem dX2_settleAll_14 : decode cX2_settleAll 14 = .ok (.iload_n 1, 1) := by decide +kernel
theorem dX2_settleAll_15 : decode cX2_settleAll 15 = .ok (.aload_n 0, 1) := by decide +kernel
theorem dX2_settleAll_16 : decode cX2_settleAll 16 = .ok (.getfield 34, 3) := by decide +kernel
theorem dX2_settleAll_19 : decode cX2_settleAll 19 = .ok (.iload_n 1, 1) := by decide +kernel
theorem dX2_settleAll_20 : decode cX2_settleAll 20 = .ok (.iconst 3, 1) := by decide +kernel
theorem dX2_settleAll_21 : decode cX2_settleAll 21 = .ok (.invokevirtual 73, 3) := by decide +kernel
theorem dX2_settleAll_24 : decode cX2_settleAll 24 = .ok (.invokevirtual 83, 3) := by decide +kernel
theorem dX2_settleAll_27 : decode cX2_settleAll 27 = .ok (.iinc 1 1, 3) := by decide +kernel
theorem dX2_settleAll_30 : decode cX2_settleAll 30 = .ok (.goto (-28), 3) := by decide +kernel
theorem dX2_settleAll_33 : decode cX2_settleAll 33 = .ok (.return_, 1) := by decide +kernel
theorem dX2_wholeFrom_0 : decode cX2_wholeFrom 0 = .ok (.iload_n 1, 1) := by decide +kernel
theorem dX2_wholeFrom_1 : decode cX2_wholeFrom 1 = .ok (.ifCond .lt 21, 3) := by decide +kernel
theorem dX2_wholeFrom_4 : decode cX2_wholeFrom 4 = .ok (.iload_n 1, 1) := by decide +kernel
theorem dX2_wholeFrom_5 : decode cX2_wholeFrom 5 = .ok (.aload_n 0, 1) := by decide +kernel
theorem dX2_wholeFrom_6 : decode cX2_wholeFrom 6 = .ok (.getfield 19, 3) := by decide +kernel
theorem dX2_wholeFrom_9 : decode cX2_wholeFrom 9 = .ok (.arraylength, 1) := by decide +kernel
theorem dX2_wholeFrom_10 : decode cX2_wholeFrom 10 = .ok (.if_icmp .ge 12, 3) := by decide +kernel
theorem dX2_wholeFrom_13 : decode cX2_wholeFrom 13 = .ok (.aload_n 0, 1) := by decide +kernel
theorem dX2_wholeFrom_14 : decode cX2_wholeFrom 14 = .ok (.getfield 19, 3) := by decide +kernel
theorem dX2_wholeFrom_17 : decode cX2_wholeFrom 17 = .ok (.iload_n 1, 1) := by decide +kernel
theorem dX2_wholeFrom_18 : decode cX2_wholeFrom 18 = .ok (.iaload, 1) := by decide +kernel
theorem dX2_wholeFrom_19 : decode cX2_wholeFrom 19 = .ok (.goto 4, 3) := by decide +kernel
theorem dX2_wholeFrom_22 : decode cX2_wholeFrom 22 = .ok (.iconst (-1), 1) := by decide +kernel
theorem dX2_wholeFrom_23 : decode cX2_wholeFrom 23 = .ok (.ireturn, 1) := by decide +kernel
theorem dX2_endOf_0 : decode cX2_endOf 0 = .ok (.iload_n 1, 1) := by decide +kernel
theorem dX2_endOf_1 : decode cX2_endOf 1 = .ok (.ifCond .lt 21, 3) := by decide +kernel
theorem dX2_endOf_4 : decode cX2_endOf 4 = .ok (.iload_n 1, 1) := by decide +kernel
theorem dX2_endOf_5 : decode cX2_endOf 5 = .ok (.aload_n 0, 1) := by decide +kernel
theorem dX2_endOf_6 : decode cX2_endOf 6 = .ok (.getfield 22, 3) := by decide +kernel
theorem dX2_endOf_9 : decode cX2_endOf 9 = .ok (.arraylength, 1) := by decide +kernel
theorem dX2_endOf_10 : decode cX2_endOf 10 = .ok (.if_icmp .ge 12, 3) := by decide +kernel
theorem dX2_endOf_13 : decode cX2_endOf 13 = .ok (.aload_n 0, 1) := by decide +kernel
theorem dX2_endOf_14 : decode cX2_endOf 14 = .ok (.getfield 22, 3) := by decide +kernel
theorem dX2_endOf_17 : decode cX2_endOf 17 = .ok (.iload_n 1, 1) := by decide +kernel
theorem dX2_endOf_18 : decode cX2_endOf 18 = .ok (.iaload, 1) := by decide +kernel
theorem dX2_endOf_19 : decode cX2_endOf 19 = .ok (.goto 6, 3) := by decide +kernel
theorem dX2_endOf_22 : decode cX2_endOf 22 = .ok (.sipush 200, 3) := by decide +kernel
theorem dX2_endOf_25 : decode cX2_endOf 25 = .ok (.ireturn, 1) := by decide +kernel
theorem dX2_goesAt_0 : decode cX2_goesAt 0 = .ok (.aload_n 0, 1) := by decide +kernel
theorem dX2_goesAt_1 : decode cX2_goesAt 1 = .ok (.iload_n 1, 1) := by decide +kernel
theorem dX2_goesAt_2 : decode cX2_goesAt 2 = .ok (.invokevirtual 122, 3) := by decide +kernel
theorem dX2_goesAt_5 : decode cX2_goesAt 5 = .ok (.istore_n 2, 1) := by decide +kernel
theorem dX2_goesAt_6 : decode cX2_goesAt 6 = .ok (.iload_n 2, 1) := by decide +kernel
theorem dX2_goesAt_7 : decode cX2_goesAt 7 = .ok (.sipush 200, 3) := by decide +kernel
theorem dX2_goesAt_10 : decode cX2_goesAt 10 = .ok (.if_icmp .ge 7, 3) := by decide +kernel
theorem dX2_goesAt_13 : decode cX2_goesAt 13 = .ok (.iload_n 2, 1) := by decide +kernel
theorem dX2_goesAt_14 : decode cX2_goesAt 14 = .ok (.goto 4, 3) := by decide +kernel
theorem dX2_goesAt_17 : decode cX2_goesAt 17 = .ok (.iconst (-1), 1) := by decide +kernel
theorem dX2_goesAt_18 : decode cX2_goesAt 18 = .ok (.ireturn, 1) := by decide +kernel
theorem dX2_firstLit_0 : decode cX2_firstLit 0 = .ok (.iconst (-1), 1) := by decide +kernel
theorem dX2_firstLit_1 : decode cX2_firstLit 1 = .ok (.istore_n 2, 1) := by decide +kernel
theorem dX2_firstLit_2 : decode cX2_firstLit 2 = .ok (.iconst 0, 1) := by decide +kernel
theorem dX2_firstLit_3 : decode cX2_firstLit 3 = .ok (.istore_n 3, 1) := by decide +kernel
theorem dX2_firstLit_4 : decode cX2_firstLit 4 = .ok (.iload_n 3, 1) := by decide +kernel
theorem dX2_firstLit_5 : decode cX2_firstLit 5 = .ok (.aload_n 0, 1) := by decide +kernel
theorem dX2_firstLit_6 : decode cX2_firstLit 6 = .ok (.getfield 34, 3) := by decide +kernel
theorem dX2_firstLit_9 : decode cX2_firstLit 9 = .ok (.iload_n 1, 1) := by decide +kernel
theorem dX2_firstLit_10 : decode cX2_firstLit 10 = .ok (.iconst 0, 1) := by decide +kernel
theorem dX2_firstLit_11 : decode cX2_firstLit 11 = .ok (.invokevirtual 73, 3) := by decide +kernel
theorem dX2_firstLit_14 : decode cX2_firstLit 14 = .ok (.if_icmp .ge 37, 3) := by decide +kernel
theorem dX2_firstLit_17 : decode cX2_firstLit 17 = .ok (.aload_n 0, 1) := by decide +kernel
theorem dX2_firstLit_18 : decode cX2_firstLit 18 = .ok (.iload_n 1, 1) := by decide +kernel
theorem dX2_firstLit_19 : decode cX2_firstLit 19 = .ok (.iload_n 3, 1) := by decide +kernel
theorem dX2_firstLit_20 : decode cX2_firstLit 20 = .ok (.invokevirtual 116, 3) := by decide +kernel
theorem dX2_firstLit_23 : decode cX2_firstLit 23 = .ok (.istore 4, 2) := by decide +kernel
theorem dX2_firstLit_25 : decode cX2_firstLit 25 = .ok (.iload 4, 2) := by decide +kernel
theorem dX2_firstLit_27 : decode cX2_firstLit 27 = .ok (.iconst (-1), 1) := by decide +kernel
theorem dX2_firstLit_28 : decode cX2_firstLit 28 = .ok (.if_icmp .eq 17, 3) := by decide +kernel
theorem dX2_firstLit_31 : decode cX2_firstLit 31 = .ok (.iload_n 2, 1) := by decide +kernel
theorem dX2_firstLit_32 : decode cX2_firstLit 32 = .ok (.iconst (-1), 1) := by decide +kernel
theorem dX2_firstLit_33 : decode cX2_firstLit 33 = .ok (.if_icmp .eq 9, 3) := by decide +kernel
theorem dX2_firstLit_36 : decode cX2_firstLit 36 = .ok (.iload 4, 2) := by decide +kernel
theorem dX2_firstLit_38 : decode cX2_firstLit 38 = .ok (.iload_n 2, 1) := by decide +kernel
theorem dX2_firstLit_39 : decode cX2_firstLit 39 = .ok (.if_icmp .ge 6, 3) := by decide +kernel
theorem dX2_firstLit_42 : decode cX2_firstLit 42 = .ok (.iload 4, 2) := by decide +kernel
theorem dX2_firstLit_44 : decode cX2_firstLit 44 = .ok (.istore_n 2, 1) := by decide +kernel
theorem dX2_firstLit_45 : decode cX2_firstLit 45 = .ok (.iinc 3 1, 3) := by decide +kernel
theorem dX2_firstLit_48 : decode cX2_firstLit 48 = .ok (.goto (-44), 3) := by decide +kernel
theorem dX2_firstLit_51 : decode cX2_firstLit 51 = .ok (.iload_n 2, 1) := by decide +kernel
theorem dX2_firstLit_52 : decode cX2_firstLit 52 = .ok (.ireturn, 1) := by decide +kernel
abbrev rm_X2_shine : Room := { frames := 2, cells := 0, slots := 0, locals := 46 }
set_option maxHeartbeats 4000000 in
set_option maxRecDepth 100000 in
theorem c_X2_shine (l : Launch) (dC : Nat → ClassId) (dI : Nat → Nat → Nat) (cI cJ : ClassId) (o o_credits o_light o_lit o_whole o_ends o_clashes o_reach o_latest : Nat) (sz : Nat) (s_light : Nat → Int64) (s_clashPairs : Int32) (p0 : Int32) (p1 : Int32) (p2 : Int32) (p3 : Int32) (p4 : Int32) (Q : (Nat → Int64) → Prop) (hw : P_X2_shine p0 p1 p2 p3 p4 s_light Q) : Met l yX2_shine (Cond.code yX2_shine cX2_shine 10 none :: TBL) rm_X2_shine (gPc (dC, dI) vwCl (gTy cI cJ) [.ref o, .int p0, .int p1, .int p2, .int p3, .int p4] [(o, .inr (2, [.ref o_credits, .ref o_light, .ref o_lit, .ref o_whole, .ref o_ends, .ref o_clashes, .int s_clashPairs, .ref o_reach, .ref o_latest])), (o_light, .inl (cJ, 1600, .inr (.inl s_light)))] sz) (va_Qv (fun (u : (Nat → Int64)) => Q u) (gB (dC, dI) vwCl (gTy cI cJ) (va_A [(o, .inr (2, [.ref o_credits, .ref o_light, .ref o_lit, .ref o_whole, .ref o_ends, .ref o_clashes, .int s_clashPairs, .ref o_reach, .ref o_latest])), (o_light, .inl (cJ, 1600, .inr (.inl s_light)))] sz) (fun (u : (Nat → Int64)) => [(o, .inr (2, [.ref o_credits, .ref o_light, .ref o_lit, .ref o_whole, .ref o_ends, .ref o_clashes, .int s_clashPairs, .ref o_reach, .ref o_latest])), (o_light, .inl (cJ, 1600, .inr (.inl u)))])) (va_A [(o, .inr (2, [.ref o_credits, .ref o_light, .ref o_lit, .ref o_whole, .ref o_ends, .ref o_clashes, .int s_clashPairs, .ref o_reach, .ref o_latest])), (o_light, .inl (cJ, 1600, .inr (.inl s_light)))] sz)) 0 0 (va_A [(o, .inr (2, [.ref o_credits, .ref o_light, .ref o_lit, .ref o_whole, .ref o_ends, .ref o_clashes, .int s_clashPairs, .ref o_reach, .ref o_latest])), (o_light, .inl (cJ, 1600, .inr (.inl s_light)))] sz) := by
  refine Met.ofW (cc := cX2_shine) (maxL := 10) (ret := none) (by decide) rfl ?_
  intro p e s m args below meth c s₁ B hml hv
  obtain ⟨rfl, hsz, hP, hK, hD0⟩ := hv
  have hx := B.exec
  have hb := B.bytes
  have hr := B.returns
  have hts := atoms_spec (ws := Cond.code yX2_shine cX2_shine 10 none :: TBL) B.pre
  have ht : ∀ w ∈ TBL, w.before ([.ref o, .int p0, .int p1, .int p2, .int p3, .int p4] : List Value).toArray s = true := fun w h => hts w (List.mem_cons_of_mem _ h)
  clear hts
  have hown : s.vm.findClass RX2 = some m.cls := findClass_of_methodNamed B.named
  have hlocks := B.notSynchronized
  clear B
  subst hsz
  have hD := hD0.self (sz := s.heap.size)
  clear hD0
  generalize hAe : va_A [(o, .inr (2, [.ref o_credits, .ref o_light, .ref o_lit, .ref o_whole, .ref o_ends, .ref o_clashes, .int s_clashPairs, .ref o_reach, .ref o_latest])), (o_light, .inl (cJ, 1600, .inr (.inl s_light)))] s.heap.size = A at hD ⊢
  have hA : ∀ q : Nat, s.heap.size ≤ q → A q := fun q h => by rw [← hAe]; exact Or.inr h
  clear hAe
  have hS : va_S A s.heap s.heap [] := va_S.rf
  have hP : va_P (dC, dI) vwCl [(o, .inr (2, [.ref o_credits, .ref o_light, .ref o_lit, .ref o_whole, .ref o_ends, .ref o_clashes, .int s_clashPairs, .ref o_reach, .ref o_latest])), (o_light, .inl (cJ, 1600, .inr (.inl s_light)))] s.heap := hP
  have hl := lv_entry ([.ref o, .int p0, .int p1, .int p2, .int p3, .int p4]) (n := 10) (Nat.le_of_ble_eq_true rfl)
  rw [lg_entry_eq]
  generalize (lg_sl ([.ref o, .int p0, .int p1, .int p2, .int p3, .int p4]) ++ List.replicate (10 - (lg_sl ([.ref o, .int p0, .int p1, .int p2, .int p3, .int p4])).length) Slot.unset).toArray = ls at hl ⊢
  have hl : lv_has ls 10 [(0, .ref o), (1, .int p0), (2, .int p1), (3, .int p2), (4, .int p3), (5, .int p4)] := hl
  generalize hQQ : MQ below _ _ _ 0 0 A = QQ
  show W p l e rm_X2_shine s m ([.ref o, .int p0, .int p1, .int p2, .int p3, .int p4] : List Value).toArray below meth c s.heap [] 0 0 QQ (F0 m 0 ls [])
  have L7 : ∀ (x1 : Int32) (x2 : Int32) (x3 : Int32) (x4 : Int32) (x5 : Int32), ∀ (n : Nat) (x6 : Int32) (s_light : Nat → Int64), P_X2_shine_L7 x1 x2 x3 x4 x5 Q n x6 s_light → ∀ (H : Heap) (locs : List Loc) (ls : Array Slot), va_P (dC, dI) vwCl [(o, .inr (2, [.ref o_credits, .ref o_light, .ref o_lit, .ref o_whole, .ref o_ends, .ref o_clashes, .int s_clashPairs, .ref o_reach, .ref o_latest])), (o_light, .inl (cJ, 1600, .inr (.inl s_light)))] H → va_D A [(o, .inr (2, [.ref o_credits, .ref o_light, .ref o_lit, .ref o_whole, .ref o_ends, .ref o_clashes, .int s_clashPairs, .ref o_reach, .ref o_latest])), (o_light, .inl (cJ, 1600, .inr (.inl s_light)))] → va_S A s.heap H locs → lv_has ls 10 [(0, .ref o), (1, .int x1), (2, .int x2), (3, .int x3), (4, .int x4), (5, .int x5), (6, .int x6)] → W p l e rm_X2_shine s m ([.ref o, .int p0, .int p1, .int p2, .int p3, .int p4] : List Value).toArray below meth c H locs 0 0 QQ (F0 m 7 ls []) := by
    intro x1 x2 x3 x4 x5
    intro n
    induction n with
    | zero => intro x6 s_light hw; rw [P_X2_shine_L7_z] at hw; exact hw.elim
    | succ n ih =>
      intro x6 s_light hw
      rw [P_X2_shine_L7_s] at hw
      generalize hrec : P_X2_shine_L7 x1 x2 x3 x4 x5 Q n = rec7 at ih hw
      have L33 : ∀ (x1 : Int32) (x2 : Int32) (x3 : Int32) (x4 : Int32) (x5 : Int32) (x6 : Int32) (x7 : Int64) (K33_83 : (Nat → Int64) → Prop), (∀ (s_light : Nat → Int64), K33_83 s_light → ∀ (H : Heap) (locs : List Loc) (ls : Array Slot), va_P (dC, dI) vwCl [(o, .inr (2, [.ref o_credits, .ref o_light, .ref o_lit, .ref o_whole, .ref o_ends, .ref o_clashes, .int s_clashPairs, .ref o_reach, .ref o_latest])), (o_light, .inl (cJ, 1600, .inr (.inl s_light)))] H → va_D A [(o, .inr (2, [.ref o_credits, .ref o_light, .ref o_lit, .ref o_whole, .ref o_ends, .ref o_clashes, .int s_clashPairs, .ref o_reach, .ref o_latest])), (o_light, .inl (cJ, 1600, .inr (.inl s_light)))] → va_S A s.heap H locs → lv_has ls 10 [(0, .ref o), (1, .int x1), (2, .int x2), (3, .int x3), (4, .int x4), (5, .int x5), (6, .int x6)] → W p l e rm_X2_shine s m ([.ref o, .int p0, .int p1, .int p2, .int p3, .int p4] : List Value).toArray below meth c H locs 0 0 QQ (F0 m 83 ls [])) → ∀ (n : Nat) (x9 : Int32) (s_light : Nat → Int64), P_X2_shine_L33 x5 x6 x7 K33_83 n x9 s_light → ∀ (H : Heap) (locs : List Loc) (ls : Array Slot), va_P (dC, dI) vwCl [(o, .inr (2, [.ref o_credits, .ref o_light, .ref o_lit, .ref o_whole, .ref o_ends, .ref o_clashes, .int s_clashPairs, .ref o_reach, .ref o_latest])), (o_light, .inl (cJ, 1600, .inr (.inl s_light)))] H → va_D A [(o, .inr (2, [.ref o_credits, .ref o_light, .ref o_lit, .ref o_whole, .ref o_ends, .ref o_clashes, .int s_clashPairs, .ref o_reach, .ref o_latest])), (o_light, .inl (cJ, 1600, .inr (.inl s_light)))] → va_S A s.heap H locs → lv_has ls 10 [(0, .ref o), (1, .int x1), (2, .int x2), (3, .int x3), (4, .int x4), (5, .int x5), (6, .int x6), (7, .long x7), (9, .int x9)] → W p l e rm_X2_shine s m ([.ref o, .int p0, .int p1, .int p2, .int p3, .int p4] : List Value).toArray below meth c H locs 0 0 QQ (F0 m 33 ls []) := by
        intro x1 x2 x3 x4 x5 x6 x7 K33_83 hK33_83
        intro n
        induction n with
        | zero => intro x9 s_light hw; rw [P_X2_shine_L33_z] at hw; exact hw.elim
        | succ n ih =>
          intro x9 s_light hw
          rw [P_X2_shine_L33_s] at hw
          generalize hrec : P_X2_shine_L33 x5 x6 x7 K33_83 n = rec33 at ih hw
          have J77 : ∀ (x9 : Int32) (s_light : Nat → Int64), P_X2_shine_J77 rec33 x9 s_light → ∀ (H : Heap) (locs : List Loc) (ls : Array Slot), va_P (dC, dI) vwCl [(o, .inr (2, [.ref o_credits, .ref o_light, .ref o_lit, .ref o_whole, .ref o_ends, .ref o_clashes, .int s_clashPairs, .ref o_reach, .ref o_latest])), (o_light, .inl (cJ, 1600, .inr (.inl s_light)))] H → va_D A [(o, .inr (2, [.ref o_credits, .ref o_light, .ref o_lit, .ref o_whole, .ref o_ends, .ref o_clashes, .int s_clashPairs, .ref o_reach, .ref o_latest])), (o_light, .inl (cJ, 1600, .inr (.inl s_light)))] → va_S A s.heap H locs → lv_has ls 10 [(0, .ref o), (1, .int x1), (2, .int x2), (3, .int x3), (4, .int x4), (5, .int x5), (6, .int x6), (7, .long x7), (9, .int x9)] → W p l e rm_X2_shine s m ([.ref o, .int p0, .int p1, .int p2, .int p3, .int p4] : List Value).toArray below meth c H locs 0 0 QQ (F0 m 77 ls []) := by
            intro x9 s_light hw H locs ls hP hD hS hl
            unfold P_X2_shine_J77 at hw
            refine lv_iinc (v := (x9 + 1)) (lv' := [(9, .int (x9 + 1)), (0, .ref o), (1, .int x1), (2, .int x2), (3, .int x3), (4, .int x4), (5, .int x5), (6, .int x6), (7, .long x7)]) hx hb dX2_shine_77 hl (k := 8) rfl rfl (by decide) rfl (fun ls hl => ?_)
            refine lv_goto (tgt := 33) hx hb dX2_shine_80 (by decide) ?_
            exact ih (x9 + 1) s_light hw H locs ls hP hD hS (lv_sub (l' := [(0, .ref o), (1, .int x1), (2, .int x2), (3, .int x3), (4, .int x4), (5, .int x5), (6, .int x6), (7, .long x7), (9, .int (x9 + 1))]) hl [1, 2, 3, 4, 5, 6, 7, 8, 0] rfl)
          intro H locs ls hP hD hS hl
          unfold B_X2_shine_L33 at hw
          refine lv_iload hx hb dX2_shine_33 (lv_at hl 8 rfl) ?_
          refine lv_bipush (v := 8) hx hb dX2_shine_35 (by decide) ?_
          refine lv_icmp_ge (tgt := 83) hx hb dX2_shine_37 (by decide) (fun hc => ?_) (fun hc => ?_)
          · have hw := hw.1 hc
            exact hK33_83 s_light hw H locs ls hP hD hS (lv_sub (l' := [(0, .ref o), (1, .int x1), (2, .int x2), (3, .int x3), (4, .int x4), (5, .int x5), (6, .int x6)]) hl [0, 1, 2, 3, 4, 5, 6] rfl)
          · have hw := hw.2 hc
            refine lv_lload hx hb dX2_shine_40 (lv_at hl 7 rfl) ?_
            refine lv_lconst (v := 0) hx hb dX2_shine_42 (by decide) ?_
            refine W.lcmp hx hb dX2_shine_43 ?_
            refine lv_if_eq (tgt := 83) hx hb dX2_shine_44 (by decide) (fun hc => ?_) (fun hc => ?_)
            · have hw := hw.1 hc
              exact hK33_83 s_light hw H locs ls hP hD hS (lv_sub (l' := [(0, .ref o), (1, .int x1), (2, .int x2), (3, .int x3), (4, .int x4), (5, .int x5), (6, .int x6)]) hl [0, 1, 2, 3, 4, 5, 6] rfl)
            · have hw := hw.2 hc
              refine lv_iload hx hb dX2_shine_47 (lv_at hl 5 rfl) ?_
              refine lv_iload hx hb dX2_shine_49 (lv_at hl 8 rfl) ?_
              refine lv_ishr hx hb dX2_shine_51 ?_
              refine lv_iconst (v := 1) hx hb dX2_shine_52 (by decide) ?_
              refine lv_iand hx hb dX2_shine_53 ?_
              refine lv_iconst (v := 1) hx hb dX2_shine_54 (by decide) ?_
              refine lv_icmp_ne (tgt := 77) hx hb dX2_shine_55 (by decide) (fun hc => ?_) (fun hc => ?_)
              · have hw := hw.1 hc
                exact J77 x9 s_light hw H locs ls hP hD hS hl
              · have hw := hw.2 hc
                refine lv_aload_n hx hb dX2_shine_58 rfl (lv_at hl 0 rfl) ?_
                refine va_get (D := (dC, dI)) (ci := 2) (v := .ref o_light) (C := RX2) (T := TX2) (N := 9) hx hb ht i_X2 hown hK hP 0 rfl rfl 1 (by decide) (ht _ k_40) (fun _ h9 => h9) rfl dX2_shine_59 ?_
                refine lv_iload hx hb dX2_shine_62 (lv_at hl 8 rfl) ?_
                refine lv_sipush (v := 200) hx hb dX2_shine_64 (by decide) ?_
                refine lv_imul hx hb dX2_shine_67 ?_
                refine lv_iload hx hb dX2_shine_68 (lv_at hl 6 rfl) ?_
                refine lv_iadd hx hb dX2_shine_70 ?_
                refine lv_dup2_11 hx hb dX2_shine_71 rfl rfl ?_
                obtain ⟨hi_1, hw⟩ := hw
                refine gv_lald hx hb hK hP 1 1 rfl rfl rfl hi_1 dX2_shine_72 ?_
                refine lv_lload hx hb dX2_shine_73 (lv_at hl 7 rfl) ?_
                refine lv_lor hx hb dX2_shine_75 ?_
                obtain ⟨hi_2, hw⟩ := hw
                refine gv_last hx hb hK hP hD hS 1 1 rfl rfl rfl hi_2 dX2_shine_76 (fun H locs hP hD hS => ?_)
                have hP : va_P (dC, dI) vwCl [(o, .inr (2, [.ref o_credits, .ref o_light, .ref o_lit, .ref o_whole, .ref o_ends, .ref o_clashes, .int s_clashPairs, .ref o_reach, .ref o_latest])), (o_light, .inl (cJ, 1600, .inr (.inl (vp_updL s_light (((x9 * 200) + x6).toNatClampNeg) ((s_light (((x9 * 200) + x6).toNatClampNeg)) ||| x7)))))] H := hP
                have hD : va_D A [(o, .inr (2, [.ref o_credits, .ref o_light, .ref o_lit, .ref o_whole, .ref o_ends, .ref o_clashes, .int s_clashPairs, .ref o_reach, .ref o_latest])), (o_light, .inl (cJ, 1600, .inr (.inl (vp_updL s_light (((x9 * 200) + x6).toNatClampNeg) ((s_light (((x9 * 200) + x6).toNatClampNeg)) ||| x7)))))] := hD
                exact J77 x9 (vp_updL s_light (((x9 * 200) + x6).toNatClampNeg) ((s_light (((x9 * 200) + x6).toNatClampNeg)) ||| x7)) hw H locs ls hP hD hS hl
      intro H locs ls hP hD hS hl
      unfold B_X2_shine_L7 at hw
      refine lv_iload hx hb dX2_shine_7 (lv_at hl 6 rfl) ?_
      refine lv_sipush (v := 200) hx hb dX2_shine_9 (by decide) ?_
      refine lv_icmp_ge (tgt := 89) hx hb dX2_shine_12 (by decide) (fun hc => ?_) (fun hc => ?_)
      · have hw := hw.1 hc
        rw [← hQQ]
        exact g_retv (u := s_light) hx hb hr hlocks hw hP hK hD hS dX2_shine_89
      · have hw := hw.2 hc
        refine lv_iload_n hx hb dX2_shine_15 rfl (lv_at hl 2 rfl) ?_
        refine lv_iload_n hx hb dX2_shine_16 rfl (lv_at hl 3 rfl) ?_
        refine lv_iload hx hb dX2_shine_17 (lv_at hl 6 rfl) ?_
        refine lv_iload_n hx hb dX2_shine_19 rfl (lv_at hl 1 rfl) ?_
        refine lv_isub hx hb dX2_shine_20 ?_
        refine lv_imul hx hb dX2_shine_21 ?_
        refine lv_iadd hx hb dX2_shine_22 ?_
        refine lv_iload hx hb dX2_shine_23 (lv_at hl 4 rfl) ?_
        refine gc_Sl (As := [.int (x2 + (x3 * (x6 - x1))), .int x4]) (rest := []) (wr := [(o, .inr (2, [.ref o_credits, .ref o_light, .ref o_lit, .ref o_whole, .ref o_ends, .ref o_clashes, .int s_clashPairs, .ref o_reach, .ref o_latest])), (o_light, .inl (cJ, 1600, .inr (.inl s_light)))]) ⟨hx, hb, hml, hown, ht⟩ (c_X0_columnBits l dC dI cI cJ  H.size (x2 + (x3 * (x6 - x1))) x4 _ hw) (va_cwS 2 ht (g_S k_342 k_343 k_2 k_344) rfl rfl rfl (by decide +kernel) ⟨(Nat.le_of_ble_eq_true rfl), (Nat.le_of_ble_eq_true rfl)⟩) hK hP hD hS hA [] [0, 1] rfl rfl (by decide) rfl hl.1 rfl (Nat.le_of_ble_eq_true rfl) ⟨(Nat.le_of_ble_eq_true rfl), (Nat.le_of_ble_eq_true rfl)⟩ dX2_shine_25 (fun r_3 u H locs hw hP hD hS => ?_)
        try dsimp only at hw
        have hP : va_P (dC, dI) vwCl [(o, .inr (2, [.ref o_credits, .ref o_light, .ref o_lit, .ref o_whole, .ref o_ends, .ref o_clashes, .int s_clashPairs, .ref o_reach, .ref o_latest])), (o_light, .inl (cJ, 1600, .inr (.inl s_light)))] H := hP
        have hD : va_D A [(o, .inr (2, [.ref o_credits, .ref o_light, .ref o_lit, .ref o_whole, .ref o_ends, .ref o_clashes, .int s_clashPairs, .ref o_reach, .ref o_latest])), (o_light, .inl (cJ, 1600, .inr (.inl s_light)))] := hD
        refine lv_lstore (lv' := [(7, .long r_3), (0, .ref o), (1, .int x1), (2, .int x2), (3, .int x3), (4, .int x4), (5, .int x5), (6, .int x6)]) hx hb dX2_shine_28 hl (by decide) rfl (fun ls hl => ?_)
        refine lv_iconst (v := 0) hx hb dX2_shine_30 (by decide) ?_
        refine lv_istore (lv' := [(9, .int 0), (7, .long r_3), (0, .ref o), (1, .int x1), (2, .int x2), (3, .int x3), (4, .int x4), (5, .int x5), (6, .int x6)]) hx hb dX2_shine_31 hl (by decide) rfl (fun ls hl => ?_)
        obtain ⟨n, hw⟩ := hw
        refine L33 x1 x2 x3 x4 x5 x6 r_3 _ (fun s_light_4 hw H locs ls hP hD hS hl => ?_) n 0 s_light hw H locs ls hP hD hS (lv_sub (l' := [(0, .ref o), (1, .int x1), (2, .int x2), (3, .int x3), (4, .int x4), (5, .int x5), (6, .int x6), (7, .long r_3), (9, .int 0)]) hl [2, 3, 4, 5, 6, 7, 8, 1, 0] rfl)
        refine lv_iinc (v := (x6 + 1)) (lv' := [(6, .int (x6 + 1)), (0, .ref o), (1, .int x1), (2, .int x2), (3, .int x3), (4, .int x4), (5, .int x5)]) hx hb dX2_shine_83 hl (k := 6) rfl rfl (by decide) rfl (fun ls hl => ?_)
        refine lv_goto (tgt := 7) hx hb dX2_shine_86 (by decide) ?_
        exact ih (x6 + 1) s_light_4 hw H locs ls hP hD hS (lv_sub (l' := [(0, .ref o), (1, .int x1), (2, .int x2), (3, .int x3), (4, .int x4), (5, .int x5), (6, .int (x6 + 1))]) hl [1, 2, 3, 4, 5, 6, 0] rfl)
  obtain ⟨H, hHH⟩ : ∃ H, H = s.heap := ⟨_, rfl⟩
  rw [← hHH] at hP ⊢
  have hS : va_S A s.heap H [] := by rw [hHH]; exact hS
  clear hHH
  generalize ([] : List Loc) = locs at hS ⊢
  unfold P_X2_shine at hw
  refine lv_iload_n hx hb dX2_shine_0 rfl (lv_at hl 1 rfl) ?_
  refine lv_iconst (v := 0) hx hb dX2_shine_1 (by decide) ?_
  refine va_mmax hx hb (hml.trans hl.1.symm) hown (ht _ k_231) (ht _ k_232) (ht _ k_9) (ht _ k_233) (Nat.le_of_ble_eq_true rfl) (Nat.le_of_ble_eq_true rfl) (Nat.zero_le _) (Nat.zero_le _) dX2_shine_2 ?_
  refine lv_istore (lv' := [(6, .int (if p0 < 0 then 0 else p0)), (0, .ref o), (1, .int p0), (2, .int p1), (3, .int p2), (4, .int p3), (5, .int p4)]) hx hb dX2_shine_5 hl (by decide) rfl (fun ls hl => ?_)
  obtain ⟨n, hw⟩ := hw
  exact L7 p0 p1 p2 p3 p4 n (if p0 < 0 then 0 else p0) s_light hw H locs ls hP hD hS (lv_sub (l' := [(0, .ref o), (1, .int p0), (2, .int p1), (3, .int p2), (4, .int p3), (5, .int p4), (6, .int (if p0 < 0 then 0 else p0))]) hl [1, 2, 3, 4, 5, 6, 0] rfl)
abbrev rm_X2_shineAllBut : Room := { frames := 3, cells := 0, slots := 0, locals := 75 }
set_option maxHeartbeats 4000000 in
set_option maxRecDepth 100000 in
theorem c_X2_shineAllBut (l : Launch) (dC : Nat → ClassId) (dI : Nat → Nat → Nat) (cI cJ : ClassId) (o o_credits o_light o_lit o_whole o_ends o_clashes o_reach o_latest o_credits_cells : Nat) (sz : Nat) (s_credits_cells : Nat → Int32) (s_light : Nat → Int64) (s_clashPairs : Int32) (p0 : Int32) (Q : (Nat → Int64) → Prop) (hw : P_X2_shineAllBut p0 s_credits_cells s_light Q) : Met l yX2_shineAllBut (Cond.code yX2_shineAllBut cX2_shineAllBut 3 none :: TBL) rm_X2_shineAllBut (gPc (dC, dI) vwCl (gTy cI cJ) [.ref o, .int p0] [(o, .inr (2, [.ref o_credits, .ref o_light, .ref o_lit, .ref o_whole, .ref o_ends, .ref o_clashes, .int s_clashPairs, .ref o_reach, .ref o_latest])), (o_credits, .inr (0, [.ref o_credits_cells])), (o_credits_cells, .inl (cI, 82, .inl s_credits_cells)), (o_light, .inl (cJ, 1600, .inr (.inl s_light)))] sz) (va_Qv (fun (u : (Nat → Int64)) => Q u) (gB (dC, dI) vwCl (gTy cI cJ) (va_A [(o, .inr (2, [.ref o_credits, .ref o_light, .ref o_lit, .ref o_whole, .ref o_ends, .ref o_clashes, .int s_clashPairs, .ref o_reach, .ref o_latest])), (o_credits, .inr (0, [.ref o_credits_cells])), (o_credits_cells, .inl (cI, 82, .inl s_credits_cells)), (o_light, .inl (cJ, 1600, .inr (.inl s_light)))] sz) (fun (u : (Nat → Int64)) => [(o, .inr (2, [.ref o_credits, .ref o_light, .ref o_lit, .ref o_whole, .ref o_ends, .ref o_clashes, .int s_clashPairs, .ref o_reach, .ref o_latest])), (o_credits, .inr (0, [.ref o_credits_cells])), (o_credits_cells, .inl (cI, 82, .inl s_credits_cells)), (o_light, .inl (cJ, 1600, .inr (.inl u)))])) (va_A [(o, .inr (2, [.ref o_credits, .ref o_light, .ref o_lit, .ref o_whole, .ref o_ends, .ref o_clashes, .int s_clashPairs, .ref o_reach, .ref o_latest])), (o_credits, .inr (0, [.ref o_credits_cells])), (o_credits_cells, .inl (cI, 82, .inl s_credits_cells)), (o_light, .inl (cJ, 1600, .inr (.inl s_light)))] sz)) 0 0 (va_A [(o, .inr (2, [.ref o_credits, .ref o_light, .ref o_lit, .ref o_whole, .ref o_ends, .ref o_clashes, .int s_clashPairs, .ref o_reach, .ref o_latest])), (o_credits, .inr (0, [.ref o_credits_cells])), (o_credits_cells, .inl (cI, 82, .inl s_credits_cells)), (o_light, .inl (cJ, 1600, .inr (.inl s_light)))] sz) := by
  refine Met.ofW (cc := cX2_shineAllBut) (maxL := 3) (ret := none) (by decide) rfl ?_
  intro p e s m args below meth c s₁ B hml hv
  obtain ⟨rfl, hsz, hP, hK, hD0⟩ := hv
  have hx := B.exec
  have hb := B.bytes
  have hr := B.returns
  have hts := atoms_spec (ws := Cond.code yX2_shineAllBut cX2_shineAllBut 3 none :: TBL) B.pre
  have ht : ∀ w ∈ TBL, w.before ([.ref o, .int p0] : List Value).toArray s = true := fun w h => hts w (List.mem_cons_of_mem _ h)
  clear hts
  have hown : s.vm.findClass RX2 = some m.cls := findClass_of_methodNamed B.named
  have hlocks := B.notSynchronized
  clear B
  subst hsz
  have hD := hD0.self (sz := s.heap.size)
  clear hD0
  generalize hAe : va_A [(o, .inr (2, [.ref o_credits, .ref o_light, .ref o_lit, .ref o_whole, .ref o_ends, .ref o_clashes, .int s_clashPairs, .ref o_reach, .ref o_latest])), (o_credits, .inr (0, [.ref o_credits_cells])), (o_credits_cells, .inl (cI, 82, .inl s_credits_cells)), (o_light, .inl (cJ, 1600, .inr (.inl s_light)))] s.heap.size = A at hD ⊢
  have hA : ∀ q : Nat, s.heap.size ≤ q → A q := fun q h => by rw [← hAe]; exact Or.inr h
  clear hAe
  have hS : va_S A s.heap s.heap [] := va_S.rf
  have hP : va_P (dC, dI) vwCl [(o, .inr (2, [.ref o_credits, .ref o_light, .ref o_lit, .ref o_whole, .ref o_ends, .ref o_clashes, .int s_clashPairs, .ref o_reach, .ref o_latest])), (o_credits, .inr (0, [.ref o_credits_cells])), (o_credits_cells, .inl (cI, 82, .inl s_credits_cells)), (o_light, .inl (cJ, 1600, .inr (.inl s_light)))] s.heap := hP
  have hl := lv_entry ([.ref o, .int p0]) (n := 3) (Nat.le_of_ble_eq_true rfl)
  rw [lg_entry_eq]
  generalize (lg_sl ([.ref o, .int p0]) ++ List.replicate (3 - (lg_sl ([.ref o, .int p0])).length) Slot.unset).toArray = ls at hl ⊢
  have hl : lv_has ls 3 [(0, .ref o), (1, .int p0)] := hl
  generalize hQQ : MQ below _ _ _ 0 0 A = QQ
  show W p l e rm_X2_shineAllBut s m ([.ref o, .int p0] : List Value).toArray below meth c s.heap [] 0 0 QQ (F0 m 0 ls [])
  have L10 : ∀ (x1 : Int32), ∀ (n : Nat) (x2 : Int32) (s_light : Nat → Int64), P_X2_shineAllBut_L10 x1 s_credits_cells Q n x2 s_light → ∀ (H : Heap) (locs : List Loc) (ls : Array Slot), va_P (dC, dI) vwCl [(o, .inr (2, [.ref o_credits, .ref o_light, .ref o_lit, .ref o_whole, .ref o_ends, .ref o_clashes, .int s_clashPairs, .ref o_reach, .ref o_latest])), (o_credits, .inr (0, [.ref o_credits_cells])), (o_credits_cells, .inl (cI, 82, .inl s_credits_cells)), (o_light, .inl (cJ, 1600, .inr (.inl s_light)))] H → va_D A [(o, .inr (2, [.ref o_credits, .ref o_light, .ref o_lit, .ref o_whole, .ref o_ends, .ref o_clashes, .int s_clashPairs, .ref o_reach, .ref o_latest])), (o_credits, .inr (0, [.ref o_credits_cells])), (o_credits_cells, .inl (cI, 82, .inl s_credits_cells)), (o_light, .inl (cJ, 1600, .inr (.inl s_light)))] → va_S A s.heap H locs → lv_has ls 3 [(0, .ref o), (1, .int x1), (2, .int x2)] → W p l e rm_X2_shineAllBut s m ([.ref o, .int p0] : List Value).toArray below meth c H locs 0 0 QQ (F0 m 10 ls []) := by
    intro x1
    intro n
    induction n with
    | zero => intro x2 s_light hw; rw [P_X2_shineAllBut_L10_z] at hw; exact hw.elim
    | succ n ih =>
      intro x2 s_light hw
      rw [P_X2_shineAllBut_L10_s] at hw
      generalize hrec : P_X2_shineAllBut_L10 x1 s_credits_cells Q n = rec10 at ih hw
      have J75 : ∀ (x2 : Int32) (s_light : Nat → Int64), P_X2_shineAllBut_J75 rec10 x2 s_light → ∀ (H : Heap) (locs : List Loc) (ls : Array Slot), va_P (dC, dI) vwCl [(o, .inr (2, [.ref o_credits, .ref o_light, .ref o_lit, .ref o_whole, .ref o_ends, .ref o_clashes, .int s_clashPairs, .ref o_reach, .ref o_latest])), (o_credits, .inr (0, [.ref o_credits_cells])), (o_credits_cells, .inl (cI, 82, .inl s_credits_cells)), (o_light, .inl (cJ, 1600, .inr (.inl s_light)))] H → va_D A [(o, .inr (2, [.ref o_credits, .ref o_light, .ref o_lit, .ref o_whole, .ref o_ends, .ref o_clashes, .int s_clashPairs, .ref o_reach, .ref o_latest])), (o_credits, .inr (0, [.ref o_credits_cells])), (o_credits_cells, .inl (cI, 82, .inl s_credits_cells)), (o_light, .inl (cJ, 1600, .inr (.inl s_light)))] → va_S A s.heap H locs → lv_has ls 3 [(0, .ref o), (1, .int x1), (2, .int x2)] → W p l e rm_X2_shineAllBut s m ([.ref o, .int p0] : List Value).toArray below meth c H locs 0 0 QQ (F0 m 75 ls []) := by
        intro x2 s_light hw H locs ls hP hD hS hl
        unfold P_X2_shineAllBut_J75 at hw
        refine lv_iinc (v := (x2 + 1)) (lv' := [(2, .int (x2 + 1)), (0, .ref o), (1, .int x1)]) hx hb dX2_shineAllBut_75 hl (k := 2) rfl rfl (by decide) rfl (fun ls hl => ?_)
        refine lv_goto (tgt := 10) hx hb dX2_shineAllBut_78 (by decide) ?_
        exact ih (x2 + 1) s_light hw H locs ls hP hD hS (lv_sub (l' := [(0, .ref o), (1, .int x1), (2, .int (x2 + 1))]) hl [1, 2, 0] rfl)
      intro H locs ls hP hD hS hl
      unfold B_X2_shineAllBut_L10 at hw
      refine lv_iload_n hx hb dX2_shineAllBut_10 rfl (lv_at hl 2 rfl) ?_
      refine lv_aload_n hx hb dX2_shineAllBut_11 rfl (lv_at hl 0 rfl) ?_
      refine va_get (D := (dC, dI)) (ci := 2) (v := .ref o_credits) (C := RX2) (T := TX2) (N := 9) hx hb ht i_X2 hown hK hP 0 rfl rfl 0 (by decide) (ht _ k_39) (fun _ h9 => h9) rfl dX2_shineAllBut_12 ?_
      refine gc_Vi (As := []) (rest := [.int x2]) (wr := [(o, .inr (2, [.ref o_credits, .ref o_light, .ref o_lit, .ref o_whole, .ref o_ends, .ref o_clashes, .int s_clashPairs, .ref o_reach, .ref o_latest])), (o_light, .inl (cJ, 1600, .inr (.inl s_light)))]) ⟨hx, hb, hml, hown, ht⟩ (c_X0_beams l dC dI cI cJ o_credits o_credits_cells H.size s_credits_cells _ hw) (cwV 0 ht (g_V k_333 k_193 k_194 k_2 k_195) rfl rfl rfl (by decide +kernel) ⟨(Nat.le_of_ble_eq_true rfl), (Nat.le_of_ble_eq_true rfl)⟩) hK hP hD hS hA [1, 2] [0, 3] rfl rfl (by decide) 1 rfl rfl rfl rfl hl.1 rfl (Nat.le_of_ble_eq_true rfl) ⟨(Nat.le_of_ble_eq_true rfl), (Nat.le_of_ble_eq_true rfl)⟩ dX2_shineAllBut_15 (fun r_1 u H locs hw hP hD hS => ?_)
      try dsimp only at hw
      have hP : va_P (dC, dI) vwCl [(o, .inr (2, [.ref o_credits, .ref o_light, .ref o_lit, .ref o_whole, .ref o_ends, .ref o_clashes, .int s_clashPairs, .ref o_reach, .ref o_latest])), (o_light, .inl (cJ, 1600, .inr (.inl s_light))), (o_credits, .inr (0, [.ref o_credits_cells])), (o_credits_cells, .inl (cI, 82, .inl s_credits_cells))] H := hP
      have hD : va_D A [(o, .inr (2, [.ref o_credits, .ref o_light, .ref o_lit, .ref o_whole, .ref o_ends, .ref o_clashes, .int s_clashPairs, .ref o_reach, .ref o_latest])), (o_light, .inl (cJ, 1600, .inr (.inl s_light))), (o_credits, .inr (0, [.ref o_credits_cells])), (o_credits_cells, .inl (cI, 82, .inl s_credits_cells))] := hD
      refine lv_icmp_ge (tgt := 81) hx hb dX2_shineAllBut_18 (by decide) (fun hc => ?_) (fun hc => ?_)
      · have hw := hw.1 hc
        rw [← hQQ]
        exact g_retv (u := s_light) hx hb hr hlocks hw (hP.sub (ws' := [(o, .inr (2, [.ref o_credits, .ref o_light, .ref o_lit, .ref o_whole, .ref o_ends, .ref o_clashes, .int s_clashPairs, .ref o_reach, .ref o_latest])), (o_credits, .inr (0, [.ref o_credits_cells])), (o_credits_cells, .inl (cI, 82, .inl s_credits_cells)), (o_light, .inl (cJ, 1600, .inr (.inl s_light)))]) [0, 2, 3, 1] rfl) hK (hD.sub (ws' := [(o, .inr (2, [.ref o_credits, .ref o_light, .ref o_lit, .ref o_whole, .ref o_ends, .ref o_clashes, .int s_clashPairs, .ref o_reach, .ref o_latest])), (o_credits, .inr (0, [.ref o_credits_cells])), (o_credits_cells, .inl (cI, 82, .inl s_credits_cells)), (o_light, .inl (cJ, 1600, .inr (.inl s_light)))]) [0, 2, 3, 1] (by decide) rfl) hS dX2_shineAllBut_81
      · have hw := hw.2 hc
        refine lv_iload_n hx hb dX2_shineAllBut_21 rfl (lv_at hl 2 rfl) ?_
        refine lv_iload_n hx hb dX2_shineAllBut_22 rfl (lv_at hl 1 rfl) ?_
        refine lv_icmp_eq (tgt := 75) hx hb dX2_shineAllBut_23 (by decide) (fun hc => ?_) (fun hc => ?_)
        · have hw := hw.1 hc
          exact J75 x2 s_light hw H locs ls (hP.sub (ws' := [(o, .inr (2, [.ref o_credits, .ref o_light, .ref o_lit, .ref o_whole, .ref o_ends, .ref o_clashes, .int s_clashPairs, .ref o_reach, .ref o_latest])), (o_credits, .inr (0, [.ref o_credits_cells])), (o_credits_cells, .inl (cI, 82, .inl s_credits_cells)), (o_light, .inl (cJ, 1600, .inr (.inl s_light)))]) [0, 2, 3, 1] rfl) (hD.sub (ws' := [(o, .inr (2, [.ref o_credits, .ref o_light, .ref o_lit, .ref o_whole, .ref o_ends, .ref o_clashes, .int s_clashPairs, .ref o_reach, .ref o_latest])), (o_credits, .inr (0, [.ref o_credits_cells])), (o_credits_cells, .inl (cI, 82, .inl s_credits_cells)), (o_light, .inl (cJ, 1600, .inr (.inl s_light)))]) [0, 2, 3, 1] (by decide) rfl) hS hl
        · have hw := hw.2 hc
          refine lv_aload_n hx hb dX2_shineAllBut_26 rfl (lv_at hl 0 rfl) ?_
          refine lv_aload_n hx hb dX2_shineAllBut_27 rfl (lv_at hl 0 rfl) ?_
          refine va_get (D := (dC, dI)) (ci := 2) (v := .ref o_credits) (C := RX2) (T := TX2) (N := 9) hx hb ht i_X2 hown hK hP 0 rfl rfl 0 (by decide) (ht _ k_39) (fun _ h9 => h9) rfl dX2_shineAllBut_28 ?_
          refine lv_iload_n hx hb dX2_shineAllBut_31 rfl (lv_at hl 2 rfl) ?_
          refine lv_iconst (v := 0) hx hb dX2_shineAllBut_32 (by decide) ?_
          refine gc_Vi (As := [.int x2, .int 0]) (rest := [.ref o]) (wr := [(o, .inr (2, [.ref o_credits, .ref o_light, .ref o_lit, .ref o_whole, .ref o_ends, .ref o_clashes, .int s_clashPairs, .ref o_reach, .ref o_latest])), (o_light, .inl (cJ, 1600, .inr (.inl s_light)))]) ⟨hx, hb, hml, hown, ht⟩ (c_X0_ofBeam l dC dI cI cJ o_credits o_credits_cells H.size s_credits_cells x2 0 _ hw) (cwV 2 ht (g_V k_334 k_335 k_336 k_2 k_337) rfl rfl rfl (by decide +kernel) ⟨(Nat.le_of_ble_eq_true rfl), (Nat.le_of_ble_eq_true rfl)⟩) hK hP hD hS hA [2, 3] [0, 1] rfl rfl (by decide) 2 rfl rfl rfl rfl hl.1 rfl (Nat.le_of_ble_eq_true rfl) ⟨(Nat.le_of_ble_eq_true rfl), (Nat.le_of_ble_eq_true rfl)⟩ dX2_shineAllBut_33 (fun r_2 u H locs hw hP hD hS => ?_)
          try dsimp only at hw
          have hP : va_P (dC, dI) vwCl [(o, .inr (2, [.ref o_credits, .ref o_light, .ref o_lit, .ref o_whole, .ref o_ends, .ref o_clashes, .int s_clashPairs, .ref o_reach, .ref o_latest])), (o_light, .inl (cJ, 1600, .inr (.inl s_light))), (o_credits, .inr (0, [.ref o_credits_cells])), (o_credits_cells, .inl (cI, 82, .inl s_credits_cells))] H := hP
          have hD : va_D A [(o, .inr (2, [.ref o_credits, .ref o_light, .ref o_lit, .ref o_whole, .ref o_ends, .ref o_clashes, .int s_clashPairs, .ref o_reach, .ref o_latest])), (o_light, .inl (cJ, 1600, .inr (.inl s_light))), (o_credits, .inr (0, [.ref o_credits_cells])), (o_credits_cells, .inl (cI, 82, .inl s_credits_cells))] := hD
          refine lv_aload_n hx hb dX2_shineAllBut_36 rfl (lv_at hl 0 rfl) ?_
          refine va_get (D := (dC, dI)) (ci := 2) (v := .ref o_credits) (C := RX2) (T := TX2) (N := 9) hx hb ht i_X2 hown hK hP 0 rfl rfl 0 (by decide) (ht _ k_39) (fun _ h9 => h9) rfl dX2_shineAllBut_37 ?_
          refine lv_iload_n hx hb dX2_shineAllBut_40 rfl (lv_at hl 2 rfl) ?_
          refine lv_iconst (v := 1) hx hb dX2_shineAllBut_41 (by decide) ?_
          refine gc_Vi (As := [.int x2, .int 1]) (rest := [.int r_2, .ref o]) (wr := [(o, .inr (2, [.ref o_credits, .ref o_light, .ref o_lit, .ref o_whole, .ref o_ends, .ref o_clashes, .int s_clashPairs, .ref o_reach, .ref o_latest])), (o_light, .inl (cJ, 1600, .inr (.inl s_light)))]) ⟨hx, hb, hml, hown, ht⟩ (c_X0_ofBeam l dC dI cI cJ o_credits o_credits_cells H.size s_credits_cells x2 1 _ hw) (cwV 2 ht (g_V k_334 k_335 k_336 k_2 k_337) rfl rfl rfl (by decide +kernel) ⟨(Nat.le_of_ble_eq_true rfl), (Nat.le_of_ble_eq_true rfl)⟩) hK hP hD hS hA [2, 3] [0, 1] rfl rfl (by decide) 2 rfl rfl rfl rfl hl.1 rfl (Nat.le_of_ble_eq_true rfl) ⟨(Nat.le_of_ble_eq_true rfl), (Nat.le_of_ble_eq_true rfl)⟩ dX2_shineAllBut_42 (fun r_3 u H locs hw hP hD hS => ?_)
          try dsimp only at hw
          have hP : va_P (dC, dI) vwCl [(o, .inr (2, [.ref o_credits, .ref o_light, .ref o_lit, .ref o_whole, .ref o_ends, .ref o_clashes, .int s_clashPairs, .ref o_reach, .ref o_latest])), (o_light, .inl (cJ, 1600, .inr (.inl s_light))), (o_credits, .inr (0, [.ref o_credits_cells])), (o_credits_cells, .inl (cI, 82, .inl s_credits_cells))] H := hP
          have hD : va_D A [(o, .inr (2, [.ref o_credits, .ref o_light, .ref o_lit, .ref o_whole, .ref o_ends, .ref o_clashes, .int s_clashPairs, .ref o_reach, .ref o_latest])), (o_light, .inl (cJ, 1600, .inr (.inl s_light))), (o_credits, .inr (0, [.ref o_credits_cells])), (o_credits_cells, .inl (cI, 82, .inl s_credits_cells))] := hD
          refine lv_aload_n hx hb dX2_shineAllBut_45 rfl (lv_at hl 0 rfl) ?_
          refine va_get (D := (dC, dI)) (ci := 2) (v := .ref o_credits) (C := RX2) (T := TX2) (N := 9) hx hb ht i_X2 hown hK hP 0 rfl rfl 0 (by decide) (ht _ k_39) (fun _ h9 => h9) rfl dX2_shineAllBut_46 ?_
          refine lv_iload_n hx hb dX2_shineAllBut_49 rfl (lv_at hl 2 rfl) ?_
          refine lv_iconst (v := 2) hx hb dX2_shineAllBut_50 (by decide) ?_
          refine gc_Vi (As := [.int x2, .int 2]) (rest := [.int r_3, .int r_2, .ref o]) (wr := [(o, .inr (2, [.ref o_credits, .ref o_light, .ref o_lit, .ref o_whole, .ref o_ends, .ref o_clashes, .int s_clashPairs, .ref o_reach, .ref o_latest])), (o_light, .inl (cJ, 1600, .inr (.inl s_light)))]) ⟨hx, hb, hml, hown, ht⟩ (c_X0_ofBeam l dC dI cI cJ o_credits o_credits_cells H.size s_credits_cells x2 2 _ hw) (cwV 2 ht (g_V k_334 k_335 k_336 k_2 k_337) rfl rfl rfl (by decide +kernel) ⟨(Nat.le_of_ble_eq_true rfl), (Nat.le_of_ble_eq_true rfl)⟩) hK hP hD hS hA [2, 3] [0, 1] rfl rfl (by decide) 2 rfl rfl rfl rfl hl.1 rfl (Nat.le_of_ble_eq_true rfl) ⟨(Nat.le_of_ble_eq_true rfl), (Nat.le_of_ble_eq_true rfl)⟩ dX2_shineAllBut_51 (fun r_4 u H locs hw hP hD hS => ?_)
          try dsimp only at hw
          have hP : va_P (dC, dI) vwCl [(o, .inr (2, [.ref o_credits, .ref o_light, .ref o_lit, .ref o_whole, .ref o_ends, .ref o_clashes, .int s_clashPairs, .ref o_reach, .ref o_latest])), (o_light, .inl (cJ, 1600, .inr (.inl s_light))), (o_credits, .inr (0, [.ref o_credits_cells])), (o_credits_cells, .inl (cI, 82, .inl s_credits_cells))] H := hP
          have hD : va_D A [(o, .inr (2, [.ref o_credits, .ref o_light, .ref o_lit, .ref o_whole, .ref o_ends, .ref o_clashes, .int s_clashPairs, .ref o_reach, .ref o_latest])), (o_light, .inl (cJ, 1600, .inr (.inl s_light))), (o_credits, .inr (0, [.ref o_credits_cells])), (o_credits_cells, .inl (cI, 82, .inl s_credits_cells))] := hD
          refine lv_aload_n hx hb dX2_shineAllBut_54 rfl (lv_at hl 0 rfl) ?_
          refine va_get (D := (dC, dI)) (ci := 2) (v := .ref o_credits) (C := RX2) (T := TX2) (N := 9) hx hb ht i_X2 hown hK hP 0 rfl rfl 0 (by decide) (ht _ k_39) (fun _ h9 => h9) rfl dX2_shineAllBut_55 ?_
          refine lv_iload_n hx hb dX2_shineAllBut_58 rfl (lv_at hl 2 rfl) ?_
          refine lv_iconst (v := 3) hx hb dX2_shineAllBut_59 (by decide) ?_
          refine gc_Vi (As := [.int x2, .int 3]) (rest := [.int r_4, .int r_3, .int r_2, .ref o]) (wr := [(o, .inr (2, [.ref o_credits, .ref o_light, .ref o_lit, .ref o_whole, .ref o_ends, .ref o_clashes, .int s_clashPairs, .ref o_reach, .ref o_latest])), (o_light, .inl (cJ, 1600, .inr (.inl s_light)))]) ⟨hx, hb, hml, hown, ht⟩ (c_X0_ofBeam l dC dI cI cJ o_credits o_credits_cells H.size s_credits_cells x2 3 _ hw) (cwV 2 ht (g_V k_334 k_335 k_336 k_2 k_337) rfl rfl rfl (by decide +kernel) ⟨(Nat.le_of_ble_eq_true rfl), (Nat.le_of_ble_eq_true rfl)⟩) hK hP hD hS hA [2, 3] [0, 1] rfl rfl (by decide) 2 rfl rfl rfl rfl hl.1 rfl (Nat.le_of_ble_eq_true rfl) ⟨(Nat.le_of_ble_eq_true rfl), (Nat.le_of_ble_eq_true rfl)⟩ dX2_shineAllBut_60 (fun r_5 u H locs hw hP hD hS => ?_)
          try dsimp only at hw
          have hP : va_P (dC, dI) vwCl [(o, .inr (2, [.ref o_credits, .ref o_light, .ref o_lit, .ref o_whole, .ref o_ends, .ref o_clashes, .int s_clashPairs, .ref o_reach, .ref o_latest])), (o_light, .inl (cJ, 1600, .inr (.inl s_light))), (o_credits, .inr (0, [.ref o_credits_cells])), (o_credits_cells, .inl (cI, 82, .inl s_credits_cells))] H := hP
          have hD : va_D A [(o, .inr (2, [.ref o_credits, .ref o_light, .ref o_lit, .ref o_whole, .ref o_ends, .ref o_clashes, .int s_clashPairs, .ref o_reach, .ref o_latest])), (o_light, .inl (cJ, 1600, .inr (.inl s_light))), (o_credits, .inr (0, [.ref o_credits_cells])), (o_credits_cells, .inl (cI, 82, .inl s_credits_cells))] := hD
          refine lv_aload_n hx hb dX2_shineAllBut_63 rfl (lv_at hl 0 rfl) ?_
          refine va_get (D := (dC, dI)) (ci := 2) (v := .ref o_credits) (C := RX2) (T := TX2) (N := 9) hx hb ht i_X2 hown hK hP 0 rfl rfl 0 (by decide) (ht _ k_39) (fun _ h9 => h9) rfl dX2_shineAllBut_64 ?_
          refine lv_iload_n hx hb dX2_shineAllBut_67 rfl (lv_at hl 2 rfl) ?_
          refine lv_iconst (v := 4) hx hb dX2_shineAllBut_68 (by decide) ?_
          refine gc_Vi (As := [.int x2, .int 4]) (rest := [.int r_5, .int r_4, .int r_3, .int r_2, .ref o]) (wr := [(o, .inr (2, [.ref o_credits, .ref o_light, .ref o_lit, .ref o_whole, .ref o_ends, .ref o_clashes, .int s_clashPairs, .ref o_reach, .ref o_latest])), (o_light, .inl (cJ, 1600, .inr (.inl s_light)))]) ⟨hx, hb, hml, hown, ht⟩ (c_X0_ofBeam l dC dI cI cJ o_credits o_credits_cells H.size s_credits_cells x2 4 _ hw) (cwV 2 ht (g_V k_334 k_335 k_336 k_2 k_337) rfl rfl rfl (by decide +kernel) ⟨(Nat.le_of_ble_eq_true rfl), (Nat.le_of_ble_eq_true rfl)⟩) hK hP hD hS hA [2, 3] [0, 1] rfl rfl (by decide) 2 rfl rfl rfl rfl hl.1 rfl (Nat.le_of_ble_eq_true rfl) ⟨(Nat.le_of_ble_eq_true rfl), (Nat.le_of_ble_eq_true rfl)⟩ dX2_shineAllBut_69 (fun r_6 u H locs hw hP hD hS => ?_)
          try dsimp only at hw
          have hP : va_P (dC, dI) vwCl [(o, .inr (2, [.ref o_credits, .ref o_light, .ref o_lit, .ref o_whole, .ref o_ends, .ref o_clashes, .int s_clashPairs, .ref o_reach, .ref o_latest])), (o_light, .inl (cJ, 1600, .inr (.inl s_light))), (o_credits, .inr (0, [.ref o_credits_cells])), (o_credits_cells, .inl (cI, 82, .inl s_credits_cells))] H := hP
          have hD : va_D A [(o, .inr (2, [.ref o_credits, .ref o_light, .ref o_lit, .ref o_whole, .ref o_ends, .ref o_clashes, .int s_clashPairs, .ref o_reach, .ref o_latest])), (o_light, .inl (cJ, 1600, .inr (.inl s_light))), (o_credits, .inr (0, [.ref o_credits_cells])), (o_credits_cells, .inl (cI, 82, .inl s_credits_cells))] := hD
          refine gc_Vv (As := [.int r_2, .int r_3, .int r_4, .int r_5, .int r_6]) (rest := []) (wr := [(o_credits, .inr (0, [.ref o_credits_cells])), (o_credits_cells, .inl (cI, 82, .inl s_credits_cells))]) ⟨hx, hb, hml, hown, ht⟩ (c_X2_shine l dC dI cI cJ o o_credits o_light o_lit o_whole o_ends o_clashes o_reach o_latest H.size s_light s_clashPairs r_2 r_3 r_4 r_5 r_6 _ hw) (cwV 5 ht (g_V k_338 k_339 k_340 k_3 k_341) rfl rfl rfl (by decide +kernel) ⟨(Nat.le_of_ble_eq_true rfl), (Nat.le_of_ble_eq_true rfl)⟩) hK hP hD hS hA [0, 1] [2, 3] rfl rfl (by decide) 0 rfl rfl rfl rfl hl.1 rfl (Nat.le_of_ble_eq_true rfl) ⟨(Nat.le_of_ble_eq_true rfl), (Nat.le_of_ble_eq_true rfl)⟩ dX2_shineAllBut_72 (fun u H locs hw hP hD hS => ?_)
          obtain ⟨s_light_7, rfl⟩ : ∃ z, z = u := ⟨_, rfl⟩
          try dsimp only at hw
          have hP : va_P (dC, dI) vwCl [(o_credits, .inr (0, [.ref o_credits_cells])), (o_credits_cells, .inl (cI, 82, .inl s_credits_cells)), (o, .inr (2, [.ref o_credits, .ref o_light, .ref o_lit, .ref o_whole, .ref o_ends, .ref o_clashes, .int s_clashPairs, .ref o_reach, .ref o_latest])), (o_light, .inl (cJ, 1600, .inr (.inl s_light_7)))] H := hP
          have hD : va_D A [(o_credits, .inr (0, [.ref o_credits_cells])), (o_credits_cells, .inl (cI, 82, .inl s_credits_cells)), (o, .inr (2, [.ref o_credits, .ref o_light, .ref o_lit, .ref o_whole, .ref o_ends, .ref o_clashes, .int s_clashPairs, .ref o_reach, .ref o_latest])), (o_light, .inl (cJ, 1600, .inr (.inl s_light_7)))] := hD
          exact J75 x2 s_light_7 hw H locs ls (hP.sub (ws' := [(o, .inr (2, [.ref o_credits, .ref o_light, .ref o_lit, .ref o_whole, .ref o_ends, .ref o_clashes, .int s_clashPairs, .ref o_reach, .ref o_latest])), (o_credits, .inr (0, [.ref o_credits_cells])), (o_credits_cells, .inl (cI, 82, .inl s_credits_cells)), (o_light, .inl (cJ, 1600, .inr (.inl s_light_7)))]) [2, 0, 1, 3] rfl) (hD.sub (ws' := [(o, .inr (2, [.ref o_credits, .ref o_light, .ref o_lit, .ref o_whole, .ref o_ends, .ref o_clashes, .int s_clashPairs, .ref o_reach, .ref o_latest])), (o_credits, .inr (0, [.ref o_credits_cells])), (o_credits_cells, .inl (cI, 82, .inl s_credits_cells)), (o_light, .inl (cJ, 1600, .inr (.inl s_light_7)))]) [2, 0, 1, 3] (by decide) rfl) hS hl
  obtain ⟨H, hHH⟩ : ∃ H, H = s.heap := ⟨_, rfl⟩
  rw [← hHH] at hP ⊢
  have hS : va_S A s.heap H [] := by rw [hHH]; exact hS
  clear hHH
  generalize ([] : List Loc) = locs at hS ⊢
  unfold P_X2_shineAllBut at hw
  refine lv_aload_n hx hb dX2_shineAllBut_0 rfl (lv_at hl 0 rfl) ?_
  refine va_get (D := (dC, dI)) (ci := 2) (v := .ref o_light) (C := RX2) (T := TX2) (N := 9) hx hb ht i_X2 hown hK hP 0 rfl rfl 1 (by decide) (ht _ k_40) (fun _ h9 => h9) rfl dX2_shineAllBut_1 ?_
  refine lv_lconst (v := 0) hx hb dX2_shineAllBut_4 (by decide) ?_
  refine gc_Sv (As := [.ref o_light, .long 0]) (rest := []) (wr := [(o, .inr (2, [.ref o_credits, .ref o_light, .ref o_lit, .ref o_whole, .ref o_ends, .ref o_clashes, .int s_clashPairs, .ref o_reach, .ref o_latest])), (o_credits, .inr (0, [.ref o_credits_cells])), (o_credits_cells, .inl (cI, 82, .inl s_credits_cells))]) ⟨hx, hb, hml, hown, ht⟩ (c_J7_fill_d0a16 l dC dI cI cJ o_light 1600 H.size s_light 0 _ hw) (va_cwS 2 ht (g_S k_330 k_331 k_12 k_332) rfl rfl rfl (by decide +kernel) ⟨(Nat.le_of_ble_eq_true rfl), (Nat.le_of_ble_eq_true rfl)⟩) hK hP hD hS hA [3] [0, 1, 2] rfl rfl (by decide) rfl hl.1 rfl (Nat.le_of_ble_eq_true rfl) ⟨(Nat.le_of_ble_eq_true rfl), (Nat.le_of_ble_eq_true rfl)⟩ dX2_shineAllBut_5 (fun u H locs hw hP hD hS => ?_)
  obtain ⟨s_light_8, rfl⟩ : ∃ z, z = u := ⟨_, rfl⟩
  try dsimp only at hw
  have hP : va_P (dC, dI) vwCl [(o, .inr (2, [.ref o_credits, .ref o_light, .ref o_lit, .ref o_whole, .ref o_ends, .ref o_clashes, .int s_clashPairs, .ref o_reach, .ref o_latest])), (o_credits, .inr (0, [.ref o_credits_cells])), (o_credits_cells, .inl (cI, 82, .inl s_credits_cells)), (o_light, .inl (cJ, 1600, .inr (.inl s_light_8)))] H := hP
  have hD : va_D A [(o, .inr (2, [.ref o_credits, .ref o_light, .ref o_lit, .ref o_whole, .ref o_ends, .ref o_clashes, .int s_clashPairs, .ref o_reach, .ref o_latest])), (o_credits, .inr (0, [.ref o_credits_cells])), (o_credits_cells, .inl (cI, 82, .inl s_credits_cells)), (o_light, .inl (cJ, 1600, .inr (.inl s_light_8)))] := hD
  refine lv_iconst (v := 0) hx hb dX2_shineAllBut_8 (by decide) ?_
  refine lv_istore_n (lv' := [(2, .int 0), (0, .ref o), (1, .int p0)]) hx hb dX2_shineAllBut_9 rfl hl (by decide) rfl (fun ls hl => ?_)
  obtain ⟨n, hw⟩ := hw
  exact L10 p0 n 0 s_light_8 hw H locs ls hP hD hS (lv_sub (l' := [(0, .ref o), (1, .int p0), (2, .int 0)]) hl [1, 2, 0] rfl)
abbrev rm_X2_allOf : Room := { frames := 0, cells := 0, slots := 0, locals := 0 }
set_option maxHeartbeats 4000000 in
set_option maxRecDepth 100000 in
theorem c_X2_allOf (l : Launch) (dC : Nat → ClassId) (dI : Nat → Nat → Nat) (cI cJ : ClassId) (sz : Nat)  (p0 : Int32) (Q : Int32 → Prop) (hw : P_X2_allOf p0 Q) : Met l yX2_allOf (Cond.code yX2_allOf cX2_allOf 1 (some .int) :: TBL) rm_X2_allOf (gPc (dC, dI) vwCl (gTy cI cJ) [.int p0] [] sz) (va_Qi (fun (r : Int32) (u : Unit) => Q r ) (gB (dC, dI) vwCl (gTy cI cJ) (va_A [] sz) (fun (u : Unit) => [])) (va_A [] sz)) 0 0 (va_A [] sz) := by
  refine Met.ofW (cc := cX2_allOf) (maxL := 1) (ret := (some .int)) (by decide) rfl ?_
  intro p e s m args below meth c s₁ B hml hv
  obtain ⟨rfl, hsz, hP, hK, hD0⟩ := hv
  have hx := B.exec
  have hb := B.bytes
  have hr := B.returns
  have hts := atoms_spec (ws := Cond.code yX2_allOf cX2_allOf 1 (some .int) :: TBL) B.pre
  have ht : ∀ w ∈ TBL, w.before ([.int p0] : List Value).toArray s = true := fun w h => hts w (List.mem_cons_of_mem _ h)
  clear hts
  have hown : s.vm.findClass RX2 = some m.cls := findClass_of_methodNamed B.named
  have hlocks := B.notSynchronized
  clear B
  subst hsz
  have hD := hD0.self (sz := s.heap.size)
  clear hD0
  generalize hAe : va_A [] s.heap.size = A at hD ⊢
  have hA : ∀ q : Nat, s.heap.size ≤ q → A q := fun q h => by rw [← hAe]; exact Or.inr h
  clear hAe
  have hS : va_S A s.heap s.heap [] := va_S.rf
  have hP : va_P (dC, dI) vwCl [] s.heap := hP
  have hl := lv_entry ([.int p0]) (n := 1) (Nat.le_of_ble_eq_true rfl)
  rw [lg_entry_eq]
  generalize (lg_sl ([.int p0]) ++ List.replicate (1 - (lg_sl ([.int p0])).length) Slot.unset).toArray = ls at hl ⊢
  have hl : lv_has ls 1 [(0, .int p0)] := hl
  generalize hQQ : MQ below _ _ _ 0 0 A = QQ
  show W p l e rm_X2_allOf s m ([.int p0] : List Value).toArray below meth c s.heap [] 0 0 QQ (F0 m 0 ls [])
  obtain ⟨H, hHH⟩ : ∃ H, H = s.heap := ⟨_, rfl⟩
  rw [← hHH] at hP ⊢
  have hS : va_S A s.heap H [] := by rw [hHH]; exact hS
  clear hHH
  generalize ([] : List Loc) = locs at hS ⊢
  unfold P_X2_allOf at hw
  refine lv_iconst (v := 1) hx hb dX2_allOf_0 (by decide) ?_
  refine lv_iload_n hx hb dX2_allOf_1 rfl (lv_at hl 0 rfl) ?_
  refine lv_ishl hx hb dX2_allOf_2 ?_
  refine lv_iconst (v := 1) hx hb dX2_allOf_3 (by decide) ?_
  refine lv_isub hx hb dX2_allOf_4 ?_
  rw [← hQQ]
  exact g_reti (v := ((1 <<< (p0 &&& 31)) - 1)) (u := ()) hx hb hr rfl hlocks hw hP hK hD hS dX2_allOf_5
abbrev rm_X2_findReach : Room := { frames := 1, cells := 0, slots := 0, locals := 23 }
set_option maxHeartbeats 4000000 in
set_option maxRecDepth 100000 in
theorem c_X2_findReach (l : Launch) (dC : Nat → ClassId) (dI : Nat → Nat → Nat) (cI cJ : ClassId) (o o_credits o_light o_lit o_whole o_ends o_clashes o_reach o_latest o_credits_cells : Nat) (sz : Nat) (s_credits_cells : Nat → Int32) (s_light : Nat → Int64) (s_reach : Nat → Int32) (s_clashPairs : Int32) (p0 : Int32) (p1 : Int32) (p2 : Int32) (Q : (Nat → Int32) → Prop) (hw : P_X2_findReach p0 p1 p2 s_credits_cells s_light s_reach Q) : Met l yX2_findReach (Cond.code yX2_findReach cX2_findReach 10 none :: TBL) rm_X2_findReach (gPc (dC, dI) vwCl (gTy cI cJ) [.ref o, .int p0, .int p1, .int p2] [(o, .inr (2, [.ref o_credits, .ref o_light, .ref o_lit, .ref o_whole, .ref o_ends, .ref o_clashes, .int s_clashPairs, .ref o_reach, .ref o_latest])), (o_credits, .inr (0, [.ref o_credits_cells])), (o_credits_cells, .inl (cI, 82, .inl s_credits_cells)), (o_light, .inl (cJ, 1600, .inr (.inl s_light))), (o_reach, .inl (cI, 200, .inl s_reach))] sz) (va_Qv (fun (u : (Nat → Int32)) => Q u) (gB (dC, dI) vwCl (gTy cI cJ) (va_A [(o, .inr (2, [.ref o_credits, .ref o_light, .ref o_lit, .ref o_whole, .ref o_ends, .ref o_clashes, .int s_clashPairs, .ref o_reach, .ref o_latest])), (o_credits, .inr (0, [.ref o_credits_cells])), (o_credits_cells, .inl (cI, 82, .inl s_credits_cells)), (o_light, .inl (cJ, 1600, .inr (.inl s_light))), (o_reach, .inl (cI, 200, .inl s_reach))] sz) (fun (u : (Nat → Int32)) => [(o, .inr (2, [.ref o_credits, .ref o_light, .ref o_lit, .ref o_whole, .ref o_ends, .ref o_clashes, .int s_clashPairs, .ref o_reach, .ref o_latest])), (o_credits, .inr (0, [.ref o_credits_cells])), (o_credits_cells, .inl (cI, 82, .inl s_credits_cells)), (o_light, .inl (cJ, 1600, .inr (.inl s_light))), (o_reach, .inl (cI, 200, .inl u))])) (va_A [(o, .inr (2, [.ref o_credits, .ref o_light, .ref o_lit, .ref o_whole, .ref o_ends, .ref o_clashes, .int s_clashPairs, .ref o_reach, .ref o_latest])), (o_credits, .inr (0, [.ref o_credits_cells])), (o_credits_cells, .inl (cI, 82, .inl s_credits_cells)), (o_light, .inl (cJ, 1600, .inr (.inl s_light))), (o_reach, .inl (cI, 200, .inl s_reach))] sz)) 0 0 (va_A [(o, .inr (2, [.ref o_credits, .ref o_light, .ref o_lit, .ref o_whole, .ref o_ends, .ref o_clashes, .int s_clashPairs, .ref o_reach, .ref o_latest])), (o_credits, .inr (0, [.ref o_credits_cells])), (o_credits_cells, .inl (cI, 82, .inl s_credits_cells)), (o_light, .inl (cJ, 1600, .inr (.inl s_light))), (o_reach, .inl (cI, 200, .inl s_reach))] sz) := by
  refine Met.ofW (cc := cX2_findReach) (maxL := 10) (ret := none) (by decide) rfl ?_
  intro p e s m args below meth c s₁ B hml hv
  obtain ⟨rfl, hsz, hP, hK, hD0⟩ := hv
  have hx := B.exec
  have hb := B.bytes
  have hr := B.returns
  have hts := atoms_spec (ws := Cond.code yX2_findReach cX2_findReach 10 none :: TBL) B.pre
  have ht : ∀ w ∈ TBL, w.before ([.ref o, .int p0, .int p1, .int p2] : List Value).toArray s = true := fun w h => hts w (List.mem_cons_of_mem _ h)
  clear hts
  have hown : s.vm.findClass RX2 = some m.cls := findClass_of_methodNamed B.named
  have hlocks := B.notSynchronized
  clear B
  subst hsz
  have hD := hD0.self (sz := s.heap.size)
  clear hD0
  generalize hAe : va_A [(o, .inr (2, [.ref o_credits, .ref o_light, .ref o_lit, .ref o_whole, .ref o_ends, .ref o_clashes, .int s_clashPairs, .ref o_reach, .ref o_latest])), (o_credits, .inr (0, [.ref o_credits_cells])), (o_credits_cells, .inl (cI, 82, .inl s_credits_cells)), (o_light, .inl (cJ, 1600, .inr (.inl s_light))), (o_reach, .inl (cI, 200, .inl s_reach))] s.heap.size = A at hD ⊢
  have hA : ∀ q : Nat, s.heap.size ≤ q → A q := fun q h => by rw [← hAe]; exact Or.inr h
  clear hAe
  have hS : va_S A s.heap s.heap [] := va_S.rf
  have hP : va_P (dC, dI) vwCl [(o, .inr (2, [.ref o_credits, .ref o_light, .ref o_lit, .ref o_whole, .ref o_ends, .ref o_clashes, .int s_clashPairs, .ref o_reach, .ref o_latest])), (o_credits, .inr (0, [.ref o_credits_cells])), (o_credits_cells, .inl (cI, 82, .inl s_credits_cells)), (o_light, .inl (cJ, 1600, .inr (.inl s_light))), (o_reach, .inl (cI, 200, .inl s_reach))] s.heap := hP
  have hl := lv_entry ([.ref o, .int p0, .int p1, .int p2]) (n := 10) (Nat.le_of_ble_eq_true rfl)
  rw [lg_entry_eq]
  generalize (lg_sl ([.ref o, .int p0, .int p1, .int p2]) ++ List.replicate (10 - (lg_sl ([.ref o, .int p0, .int p1, .int p2])).length) Slot.unset).toArray = ls at hl ⊢
  have hl : lv_has ls 10 [(0, .ref o), (1, .int p0), (2, .int p1), (3, .int p2)] := hl
  generalize hQQ : MQ below _ _ _ 0 0 A = QQ
  show W p l e rm_X2_findReach s m ([.ref o, .int p0, .int p1, .int p2] : List Value).toArray below meth c s.heap [] 0 0 QQ (F0 m 0 ls [])
  have L35 : ∀ (x3 : Int32) (x4 : Int32) (x5 : Int32) (x6 : Int32), ∀ (n : Nat) (x7 : Int32) (s_reach : Nat → Int32), P_X2_findReach_L35 x3 x4 x5 x6 s_light Q n x7 s_reach → ∀ (H : Heap) (locs : List Loc) (ls : Array Slot), va_P (dC, dI) vwCl [(o, .inr (2, [.ref o_credits, .ref o_light, .ref o_lit, .ref o_whole, .ref o_ends, .ref o_clashes, .int s_clashPairs, .ref o_reach, .ref o_latest])), (o_credits, .inr (0, [.ref o_credits_cells])), (o_credits_cells, .inl (cI, 82, .inl s_credits_cells)), (o_light, .inl (cJ, 1600, .inr (.inl s_light))), (o_reach, .inl (cI, 200, .inl s_reach))] H → va_D A [(o, .inr (2, [.ref o_credits, .ref o_light, .ref o_lit, .ref o_whole, .ref o_ends, .ref o_clashes, .int s_clashPairs, .ref o_reach, .ref o_latest])), (o_credits, .inr (0, [.ref o_credits_cells])), (o_credits_cells, .inl (cI, 82, .inl s_credits_cells)), (o_light, .inl (cJ, 1600, .inr (.inl s_light))), (o_reach, .inl (cI, 200, .inl s_reach))] → va_S A s.heap H locs → lv_has ls 10 [(0, .ref o), (3, .int x3), (4, .int x4), (5, .int x5), (6, .int x6), (7, .int x7)] → W p l e rm_X2_findReach s m ([.ref o, .int p0, .int p1, .int p2] : List Value).toArray below meth c H locs 0 0 QQ (F0 m 35 ls []) := by
    intro x3 x4 x5 x6
    intro n
    induction n with
    | zero => intro x7 s_reach hw; rw [P_X2_findReach_L35_z] at hw; exact hw.elim
    | succ n ih =>
      intro x7 s_reach hw
      rw [P_X2_findReach_L35_s] at hw
      generalize hrec : P_X2_findReach_L35 x3 x4 x5 x6 s_light Q n = rec35 at ih hw
      have J107 : ∀ (x7 : Int32) (t0 : Int32) (t1 : Int32) (s_reach : Nat → Int32), P_X2_findReach_J107 rec35 x7 t0 t1 s_reach → ∀ (H : Heap) (locs : List Loc) (ls : Array Slot), va_P (dC, dI) vwCl [(o, .inr (2, [.ref o_credits, .ref o_light, .ref o_lit, .ref o_whole, .ref o_ends, .ref o_clashes, .int s_clashPairs, .ref o_reach, .ref o_latest])), (o_credits, .inr (0, [.ref o_credits_cells])), (o_credits_cells, .inl (cI, 82, .inl s_credits_cells)), (o_light, .inl (cJ, 1600, .inr (.inl s_light))), (o_reach, .inl (cI, 200, .inl s_reach))] H → va_D A [(o, .inr (2, [.ref o_credits, .ref o_light, .ref o_lit, .ref o_whole, .ref o_ends, .ref o_clashes, .int s_clashPairs, .ref o_reach, .ref o_latest])), (o_credits, .inr (0, [.ref o_credits_cells])), (o_credits_cells, .inl (cI, 82, .inl s_credits_cells)), (o_light, .inl (cJ, 1600, .inr (.inl s_light))), (o_reach, .inl (cI, 200, .inl s_reach))] → va_S A s.heap H locs → lv_has ls 10 [(0, .ref o), (3, .int x3), (4, .int x4), (5, .int x5), (6, .int x6), (7, .int x7)] → W p l e rm_X2_findReach s m ([.ref o, .int p0, .int p1, .int p2] : List Value).toArray below meth c H locs 0 0 QQ (F0 m 107 ls [.int t0, .int t1, .ref o_reach]) := by
        intro x7 t0 t1 s_reach hw H locs ls hP hD hS hl
        unfold P_X2_findReach_J107 at hw
        obtain ⟨hi_1, hw⟩ := hw
        refine gv_iast hx hb hK hP hD hS 4 0 rfl rfl rfl hi_1 dX2_findReach_107 (fun H locs hP hD hS => ?_)
        have hP : va_P (dC, dI) vwCl [(o, .inr (2, [.ref o_credits, .ref o_light, .ref o_lit, .ref o_whole, .ref o_ends, .ref o_clashes, .int s_clashPairs, .ref o_reach, .ref o_latest])), (o_credits, .inr (0, [.ref o_credits_cells])), (o_credits_cells, .inl (cI, 82, .inl s_credits_cells)), (o_light, .inl (cJ, 1600, .inr (.inl s_light))), (o_reach, .inl (cI, 200, .inl (upd s_reach t1.toNatClampNeg t0)))] H := hP
        have hD : va_D A [(o, .inr (2, [.ref o_credits, .ref o_light, .ref o_lit, .ref o_whole, .ref o_ends, .ref o_clashes, .int s_clashPairs, .ref o_reach, .ref o_latest])), (o_credits, .inr (0, [.ref o_credits_cells])), (o_credits_cells, .inl (cI, 82, .inl s_credits_cells)), (o_light, .inl (cJ, 1600, .inr (.inl s_light))), (o_reach, .inl (cI, 200, .inl (upd s_reach t1.toNatClampNeg t0)))] := hD
        refine lv_iinc (v := (x7 + 1)) (lv' := [(7, .int (x7 + 1)), (0, .ref o), (3, .int x3), (4, .int x4), (5, .int x5), (6, .int x6)]) hx hb dX2_findReach_108 hl (k := 5) rfl rfl (by decide) rfl (fun ls hl => ?_)
        refine lv_goto (tgt := 35) hx hb dX2_findReach_111 (by decide) ?_
        exact ih (x7 + 1) (upd s_reach t1.toNatClampNeg t0) hw H locs ls hP hD hS (lv_sub (l' := [(0, .ref o), (3, .int x3), (4, .int x4), (5, .int x5), (6, .int x6), (7, .int (x7 + 1))]) hl [1, 2, 3, 4, 5, 0] rfl)
      have J76 : ∀ (x7 : Int32) (x8 : Int32) (t0 : Int32) (s_reach : Nat → Int32), P_X2_findReach_J76 x5 x6 s_light rec35 x7 x8 t0 s_reach → ∀ (H : Heap) (locs : List Loc) (ls : Array Slot), va_P (dC, dI) vwCl [(o, .inr (2, [.ref o_credits, .ref o_light, .ref o_lit, .ref o_whole, .ref o_ends, .ref o_clashes, .int s_clashPairs, .ref o_reach, .ref o_latest])), (o_credits, .inr (0, [.ref o_credits_cells])), (o_credits_cells, .inl (cI, 82, .inl s_credits_cells)), (o_light, .inl (cJ, 1600, .inr (.inl s_light))), (o_reach, .inl (cI, 200, .inl s_reach))] H → va_D A [(o, .inr (2, [.ref o_credits, .ref o_light, .ref o_lit, .ref o_whole, .ref o_ends, .ref o_clashes, .int s_clashPairs, .ref o_reach, .ref o_latest])), (o_credits, .inr (0, [.ref o_credits_cells])), (o_credits_cells, .inl (cI, 82, .inl s_credits_cells)), (o_light, .inl (cJ, 1600, .inr (.inl s_light))), (o_reach, .inl (cI, 200, .inl s_reach))] → va_S A s.heap H locs → lv_has ls 10 [(0, .ref o), (3, .int x3), (4, .int x4), (5, .int x5), (6, .int x6), (7, .int x7), (8, .int x8)] → W p l e rm_X2_findReach s m ([.ref o, .int p0, .int p1, .int p2] : List Value).toArray below meth c H locs 0 0 QQ (F0 m 76 ls [.int t0]) := by
        intro x7 x8 t0 s_reach hw H locs ls hP hD hS hl
        unfold P_X2_findReach_J76 at hw
        refine lv_istore (lv' := [(9, .int t0), (0, .ref o), (3, .int x3), (4, .int x4), (5, .int x5), (6, .int x6), (7, .int x7), (8, .int x8)]) hx hb dX2_findReach_76 hl (by decide) rfl (fun ls hl => ?_)
        refine lv_aload_n hx hb dX2_findReach_78 rfl (lv_at hl 1 rfl) ?_
        refine va_get (D := (dC, dI)) (ci := 2) (v := .ref o_reach) (C := RX2) (T := TX2) (N := 9) hx hb ht i_X2 hown hK hP 0 rfl rfl 7 (by decide) (ht _ k_46) (fun _ h9 => h9) rfl dX2_findReach_79 ?_
        refine lv_iload hx hb dX2_findReach_82 (lv_at hl 6 rfl) ?_
        refine lv_iload hx hb dX2_findReach_84 (lv_at hl 0 rfl) ?_
        refine lv_if_eq (tgt := 106) hx hb dX2_findReach_86 (by decide) (fun hc => ?_) (fun hc => ?_)
        · have hw := hw.1 hc
          refine lv_iconst (v := 0) hx hb dX2_findReach_106 (by decide) ?_
          exact J107 x7 0 x7 s_reach hw H locs ls hP hD hS (lv_sub (l' := [(0, .ref o), (3, .int x3), (4, .int x4), (5, .int x5), (6, .int x6), (7, .int x7)]) hl [1, 2, 3, 4, 5, 6] rfl)
        · have hw := hw.2 hc
          refine lv_aload_n hx hb dX2_findReach_89 rfl (lv_at hl 1 rfl) ?_
          refine va_get (D := (dC, dI)) (ci := 2) (v := .ref o_light) (C := RX2) (T := TX2) (N := 9) hx hb ht i_X2 hown hK hP 0 rfl rfl 1 (by decide) (ht _ k_40) (fun _ h9 => h9) rfl dX2_findReach_90 ?_
          refine lv_iload hx hb dX2_findReach_93 (lv_at hl 7 rfl) ?_
          obtain ⟨hi_2, hw⟩ := hw
          refine gv_lald hx hb hK hP 3 1 rfl rfl rfl hi_2 dX2_findReach_95 ?_
          refine lv_iload hx hb dX2_findReach_96 (lv_at hl 4 rfl) ?_
          refine lv_lushr (v := ((s_light x8.toNatClampNeg).toUInt64 >>> (x5.toInt64.toUInt64 &&& Int64.toUInt64 63)).toInt64) hx hb dX2_findReach_98 rfl ?_
          refine lv_l2i (v := (((s_light x8.toNatClampNeg).toUInt64 >>> (x5.toInt64.toUInt64 &&& Int64.toUInt64 63)).toInt64).toInt32) hx hb dX2_findReach_99 rfl ?_
          refine lv_iload hx hb dX2_findReach_100 (lv_at hl 5 rfl) ?_
          refine lv_iand hx hb dX2_findReach_102 ?_
          refine lv_goto (tgt := 107) hx hb dX2_findReach_103 (by decide) ?_
          exact J107 x7 ((((s_light x8.toNatClampNeg).toUInt64 >>> (x5.toInt64.toUInt64 &&& Int64.toUInt64 63)).toInt64).toInt32 &&& x6) x7 s_reach hw H locs ls hP hD hS (lv_sub (l' := [(0, .ref o), (3, .int x3), (4, .int x4), (5, .int x5), (6, .int x6), (7, .int x7)]) hl [1, 2, 3, 4, 5, 6] rfl)
      have J75 : ∀ (x7 : Int32) (x8 : Int32) (s_reach : Nat → Int32), P_X2_findReach_J75 x5 x6 s_light rec35 x7 x8 s_reach → ∀ (H : Heap) (locs : List Loc) (ls : Array Slot), va_P (dC, dI) vwCl [(o, .inr (2, [.ref o_credits, .ref o_light, .ref o_lit, .ref o_whole, .ref o_ends, .ref o_clashes, .int s_clashPairs, .ref o_reach, .ref o_latest])), (o_credits, .inr (0, [.ref o_credits_cells])), (o_credits_cells, .inl (cI, 82, .inl s_credits_cells)), (o_light, .inl (cJ, 1600, .inr (.inl s_light))), (o_reach, .inl (cI, 200, .inl s_reach))] H → va_D A [(o, .inr (2, [.ref o_credits, .ref o_light, .ref o_lit, .ref o_whole, .ref o_ends, .ref o_clashes, .int s_clashPairs, .ref o_reach, .ref o_latest])), (o_credits, .inr (0, [.ref o_credits_cells])), (o_credits_cells, .inl (cI, 82, .inl s_credits_cells)), (o_light, .inl (cJ, 1600, .inr (.inl s_light))), (o_reach, .inl (cI, 200, .inl s_reach))] → va_S A s.heap H locs → lv_has ls 10 [(0, .ref o), (3, .int x3), (4, .int x4), (5, .int x5), (6, .int x6), (7, .int x7), (8, .int x8)] → W p l e rm_X2_findReach s m ([.ref o, .int p0, .int p1, .int p2] : List Value).toArray below meth c H locs 0 0 QQ (F0 m 75 ls []) := by
        intro x7 x8 s_reach hw H locs ls hP hD hS hl
        unfold P_X2_findReach_J75 at hw
        refine lv_iconst (v := 0) hx hb dX2_findReach_75 (by decide) ?_
        exact J76 x7 x8 0 s_reach hw H locs ls hP hD hS hl
      intro H locs ls hP hD hS hl
      unfold B_X2_findReach_L35 at hw
      refine lv_iload hx hb dX2_findReach_35 (lv_at hl 5 rfl) ?_
      refine lv_sipush (v := 200) hx hb dX2_findReach_37 (by decide) ?_
      refine lv_icmp_ge (tgt := 114) hx hb dX2_findReach_40 (by decide) (fun hc => ?_) (fun hc => ?_)
      · have hw := hw.1 hc
        rw [← hQQ]
        exact g_retv (u := s_reach) hx hb hr hlocks hw hP hK hD hS dX2_findReach_114
      · have hw := hw.2 hc
        refine lv_iload hx hb dX2_findReach_43 (lv_at hl 2 rfl) ?_
        refine lv_iload hx hb dX2_findReach_45 (lv_at hl 5 rfl) ?_
        refine lv_iadd hx hb dX2_findReach_47 ?_
        refine lv_istore (lv' := [(8, .int (x4 + x7)), (0, .ref o), (3, .int x3), (4, .int x4), (5, .int x5), (6, .int x6), (7, .int x7)]) hx hb dX2_findReach_48 hl (by decide) rfl (fun ls hl => ?_)
        refine lv_iload hx hb dX2_findReach_50 (lv_at hl 6 rfl) ?_
        refine lv_iload_n hx hb dX2_findReach_52 rfl (lv_at hl 2 rfl) ?_
        refine lv_icmp_lt (tgt := 75) hx hb dX2_findReach_53 (by decide) (fun hc => ?_) (fun hc => ?_)
        · have hw := hw.1 hc
          exact J75 x7 (x4 + x7) s_reach hw H locs ls hP hD hS (lv_sub (l' := [(0, .ref o), (3, .int x3), (4, .int x4), (5, .int x5), (6, .int x6), (7, .int x7), (8, .int (x4 + x7))]) hl [1, 2, 3, 4, 5, 6, 0] rfl)
        · have hw := hw.2 hc
          refine lv_iload hx hb dX2_findReach_56 (lv_at hl 0 rfl) ?_
          refine lv_if_lt (tgt := 75) hx hb dX2_findReach_58 (by decide) (fun hc => ?_) (fun hc => ?_)
          · have hw := hw.1 hc
            exact J75 x7 (x4 + x7) s_reach hw H locs ls hP hD hS (lv_sub (l' := [(0, .ref o), (3, .int x3), (4, .int x4), (5, .int x5), (6, .int x6), (7, .int x7), (8, .int (x4 + x7))]) hl [1, 2, 3, 4, 5, 6, 0] rfl)
          · have hw := hw.2 hc
            refine lv_iload hx hb dX2_findReach_61 (lv_at hl 0 rfl) ?_
            refine lv_aload_n hx hb dX2_findReach_63 rfl (lv_at hl 1 rfl) ?_
            refine va_get (D := (dC, dI)) (ci := 2) (v := .ref o_light) (C := RX2) (T := TX2) (N := 9) hx hb ht i_X2 hown hK hP 0 rfl rfl 1 (by decide) (ht _ k_40) (fun _ h9 => h9) rfl dX2_findReach_64 ?_
            refine va_alen (v := 1600) hx hb hK hP 3 1 rfl rfl rfl dX2_findReach_67 ?_
            refine lv_icmp_ge (tgt := 75) hx hb dX2_findReach_68 (by decide) (fun hc => ?_) (fun hc => ?_)
            · have hw := hw.1 hc
              exact J75 x7 (x4 + x7) s_reach hw H locs ls hP hD hS (lv_sub (l' := [(0, .ref o), (3, .int x3), (4, .int x4), (5, .int x5), (6, .int x6), (7, .int x7), (8, .int (x4 + x7))]) hl [1, 2, 3, 4, 5, 6, 0] rfl)
            · have hw := hw.2 hc
              refine lv_iconst (v := 1) hx hb dX2_findReach_71 (by decide) ?_
              refine lv_goto (tgt := 76) hx hb dX2_findReach_72 (by decide) ?_
              exact J76 x7 (x4 + x7) 1 s_reach hw H locs ls hP hD hS (lv_sub (l' := [(0, .ref o), (3, .int x3), (4, .int x4), (5, .int x5), (6, .int x6), (7, .int x7), (8, .int (x4 + x7))]) hl [1, 2, 3, 4, 5, 6, 0] rfl)
  obtain ⟨H, hHH⟩ : ∃ H, H = s.heap := ⟨_, rfl⟩
  rw [← hHH] at hP ⊢
  have hS : va_S A s.heap H [] := by rw [hHH]; exact hS
  clear hHH
  generalize ([] : List Loc) = locs at hS ⊢
  unfold P_X2_findReach at hw
  refine lv_aload_n hx hb dX2_findReach_0 rfl (lv_at hl 0 rfl) ?_
  refine va_get (D := (dC, dI)) (ci := 2) (v := .ref o_credits) (C := RX2) (T := TX2) (N := 9) hx hb ht i_X2 hown hK hP 0 rfl rfl 0 (by decide) (ht _ k_39) (fun _ h9 => h9) rfl dX2_findReach_1 ?_
  refine lv_iload_n hx hb dX2_findReach_4 rfl (lv_at hl 1 rfl) ?_
  refine lv_iconst (v := 1) hx hb dX2_findReach_5 (by decide) ?_
  refine gc_Vi (As := [.int p0, .int 1]) (rest := []) (wr := [(o, .inr (2, [.ref o_credits, .ref o_light, .ref o_lit, .ref o_whole, .ref o_ends, .ref o_clashes, .int s_clashPairs, .ref o_reach, .ref o_latest])), (o_light, .inl (cJ, 1600, .inr (.inl s_light))), (o_reach, .inl (cI, 200, .inl s_reach))]) ⟨hx, hb, hml, hown, ht⟩ (c_X0_ofWord l dC dI cI cJ o_credits o_credits_cells H.size s_credits_cells p0 1 _ hw) (cwV 2 ht (g_V k_214 k_202 k_203 k_2 k_204) rfl rfl rfl (by decide +kernel) ⟨(Nat.le_of_ble_eq_true rfl), (Nat.le_of_ble_eq_true rfl)⟩) hK hP hD hS hA [1, 2] [0, 3, 4] rfl rfl (by decide) 1 rfl rfl rfl rfl hl.1 rfl (Nat.le_of_ble_eq_true rfl) ⟨(Nat.le_of_ble_eq_true rfl), (Nat.le_of_ble_eq_true rfl)⟩ dX2_findReach_6 (fun r_3 u H locs hw hP hD hS => ?_)
  try dsimp only at hw
  have hP : va_P (dC, dI) vwCl [(o, .inr (2, [.ref o_credits, .ref o_light, .ref o_lit, .ref o_whole, .ref o_ends, .ref o_clashes, .int s_clashPairs, .ref o_reach, .ref o_latest])), (o_light, .inl (cJ, 1600, .inr (.inl s_light))), (o_reach, .inl (cI, 200, .inl s_reach)), (o_credits, .inr (0, [.ref o_credits_cells])), (o_credits_cells, .inl (cI, 82, .inl s_credits_cells))] H := hP
  have hD : va_D A [(o, .inr (2, [.ref o_credits, .ref o_light, .ref o_lit, .ref o_whole, .ref o_ends, .ref o_clashes, .int s_clashPairs, .ref o_reach, .ref o_latest])), (o_light, .inl (cJ, 1600, .inr (.inl s_light))), (o_reach, .inl (cI, 200, .inl s_reach)), (o_credits, .inr (0, [.ref o_credits_cells])), (o_credits_cells, .inl (cI, 82, .inl s_credits_cells))] := hD
  refine lv_sipush (v := 200) hx hb dX2_findReach_9 (by decide) ?_
  refine lv_imul hx hb dX2_findReach_12 ?_
  refine lv_istore (lv' := [(4, .int (r_3 * 200)), (0, .ref o), (1, .int p0), (2, .int p1), (3, .int p2)]) hx hb dX2_findReach_13 hl (by decide) rfl (fun ls hl => ?_)
  refine lv_aload_n hx hb dX2_findReach_15 rfl (lv_at hl 1 rfl) ?_
  refine va_get (D := (dC, dI)) (ci := 2) (v := .ref o_credits) (C := RX2) (T := TX2) (N := 9) hx hb ht i_X2 hown hK hP 0 rfl rfl 0 (by decide) (ht _ k_39) (fun _ h9 => h9) rfl dX2_findReach_16 ?_
  refine lv_iload_n hx hb dX2_findReach_19 rfl (lv_at hl 2 rfl) ?_
  refine lv_iconst (v := 2) hx hb dX2_findReach_20 (by decide) ?_
  refine gc_Vi (As := [.int p0, .int 2]) (rest := []) (wr := [(o, .inr (2, [.ref o_credits, .ref o_light, .ref o_lit, .ref o_whole, .ref o_ends, .ref o_clashes, .int s_clashPairs, .ref o_reach, .ref o_latest])), (o_light, .inl (cJ, 1600, .inr (.inl s_light))), (o_reach, .inl (cI, 200, .inl s_reach))]) ⟨hx, hb, hml, hown, ht⟩ (c_X0_ofWord l dC dI cI cJ o_credits o_credits_cells H.size s_credits_cells p0 2 _ hw) (cwV 2 ht (g_V k_214 k_202 k_203 k_2 k_204) rfl rfl rfl (by decide +kernel) ⟨(Nat.le_of_ble_eq_true rfl), (Nat.le_of_ble_eq_true rfl)⟩) hK hP hD hS hA [3, 4] [0, 1, 2] rfl rfl (by decide) 3 rfl rfl rfl rfl hl.1 rfl (Nat.le_of_ble_eq_true rfl) ⟨(Nat.le_of_ble_eq_true rfl), (Nat.le_of_ble_eq_true rfl)⟩ dX2_findReach_21 (fun r_4 u H locs hw hP hD hS => ?_)
  try dsimp only at hw
  have hP : va_P (dC, dI) vwCl [(o, .inr (2, [.ref o_credits, .ref o_light, .ref o_lit, .ref o_whole, .ref o_ends, .ref o_clashes, .int s_clashPairs, .ref o_reach, .ref o_latest])), (o_light, .inl (cJ, 1600, .inr (.inl s_light))), (o_reach, .inl (cI, 200, .inl s_reach)), (o_credits, .inr (0, [.ref o_credits_cells])), (o_credits_cells, .inl (cI, 82, .inl s_credits_cells))] H := hP
  have hD : va_D A [(o, .inr (2, [.ref o_credits, .ref o_light, .ref o_lit, .ref o_whole, .ref o_ends, .ref o_clashes, .int s_clashPairs, .ref o_reach, .ref o_latest])), (o_light, .inl (cJ, 1600, .inr (.inl s_light))), (o_reach, .inl (cI, 200, .inl s_reach)), (o_credits, .inr (0, [.ref o_credits_cells])), (o_credits_cells, .inl (cI, 82, .inl s_credits_cells))] := hD
  refine lv_istore (lv' := [(5, .int r_4), (4, .int (r_3 * 200)), (0, .ref o), (1, .int p0), (2, .int p1), (3, .int p2)]) hx hb dX2_findReach_24 hl (by decide) rfl (fun ls hl => ?_)
  refine lv_iload_n hx hb dX2_findReach_26 rfl (lv_at hl 4 rfl) ?_
  refine gc_Si (As := [.int p1]) (rest := []) (wr := [(o, .inr (2, [.ref o_credits, .ref o_light, .ref o_lit, .ref o_whole, .ref o_ends, .ref o_clashes, .int s_clashPairs, .ref o_reach, .ref o_latest])), (o_light, .inl (cJ, 1600, .inr (.inl s_light))), (o_reach, .inl (cI, 200, .inl s_reach)), (o_credits, .inr (0, [.ref o_credits_cells])), (o_credits_cells, .inl (cI, 82, .inl s_credits_cells))]) ⟨hx, hb, hml, hown, ht⟩ (c_X2_allOf l dC dI cI cJ  H.size p1 _ hw) (va_cwS 1 ht (g_S k_361 k_362 k_3 k_363) rfl rfl rfl (by decide +kernel) ⟨(Nat.le_of_ble_eq_true rfl), (Nat.le_of_ble_eq_true rfl)⟩) hK hP hD hS hA [] [0, 1, 2, 3, 4] rfl rfl (by decide) rfl hl.1 rfl (Nat.le_of_ble_eq_true rfl) ⟨(Nat.le_of_ble_eq_true rfl), (Nat.le_of_ble_eq_true rfl)⟩ dX2_findReach_27 (fun r_5 u H locs hw hP hD hS => ?_)
  try dsimp only at hw
  have hP : va_P (dC, dI) vwCl [(o, .inr (2, [.ref o_credits, .ref o_light, .ref o_lit, .ref o_whole, .ref o_ends, .ref o_clashes, .int s_clashPairs, .ref o_reach, .ref o_latest])), (o_light, .inl (cJ, 1600, .inr (.inl s_light))), (o_reach, .inl (cI, 200, .inl s_reach)), (o_credits, .inr (0, [.ref o_credits_cells])), (o_credits_cells, .inl (cI, 82, .inl s_credits_cells))] H := hP
  have hD : va_D A [(o, .inr (2, [.ref o_credits, .ref o_light, .ref o_lit, .ref o_whole, .ref o_ends, .ref o_clashes, .int s_clashPairs, .ref o_reach, .ref o_latest])), (o_light, .inl (cJ, 1600, .inr (.inl s_light))), (o_reach, .inl (cI, 200, .inl s_reach)), (o_credits, .inr (0, [.ref o_credits_cells])), (o_credits_cells, .inl (cI, 82, .inl s_credits_cells))] := hD
  refine lv_istore (lv' := [(6, .int r_5), (5, .int r_4), (4, .int (r_3 * 200)), (0, .ref o), (1, .int p0), (2, .int p1), (3, .int p2)]) hx hb dX2_findReach_30 hl (by decide) rfl (fun ls hl => ?_)
  refine lv_iconst (v := 0) hx hb dX2_findReach_32 (by decide) ?_
  refine lv_istore (lv' := [(7, .int 0), (6, .int r_5), (5, .int r_4), (4, .int (r_3 * 200)), (0, .ref o), (1, .int p0), (2, .int p1), (3, .int p2)]) hx hb dX2_findReach_33 hl (by decide) rfl (fun ls hl => ?_)
  obtain ⟨n, hw⟩ := hw
  exact L35 p2 (r_3 * 200) r_4 r_5 n 0 s_reach hw H locs ls (hP.sub (ws' := [(o, .inr (2, [.ref o_credits, .ref o_light, .ref o_lit, .ref o_whole, .ref o_ends, .ref o_clashes, .int s_clashPairs, .ref o_reach, .ref o_latest])), (o_credits, .inr (0, [.ref o_credits_cells])), (o_credits_cells, .inl (cI, 82, .inl s_credits_cells)), (o_light, .inl (cJ, 1600, .inr (.inl s_light))), (o_reach, .inl (cI, 200, .inl s_reach))]) [0, 3, 4, 1, 2] rfl) (hD.sub (ws' := [(o, .inr (2, [.ref o_credits, .ref o_light, .ref o_lit, .ref o_whole, .ref o_ends, .ref o_clashes, .int s_clashPairs, .ref o_reach, .ref o_latest])), (o_credits, .inr (0, [.ref o_credits_cells])), (o_credits_cells, .inl (cI, 82, .inl s_credits_cells)), (o_light, .inl (cJ, 1600, .inr (.inl s_light))), (o_reach, .inl (cI, 200, .inl s_reach))]) [0, 3, 4, 1, 2] (by decide) rfl) hS (lv_sub (l' := [(0, .ref o), (3, .int p2), (4, .int (r_3 * 200)), (5, .int r_4), (6, .int r_5), (7, .int 0)]) hl [4, 7, 3, 2, 1, 0] rfl)
abbrev rm_X2_litBeat : Room := { frames := 0, cells := 0, slots := 0, locals := 0 }
set_option maxHeartbeats 4000000 in
set_option maxRecDepth 100000 in
theorem c_X2_litBeat (l : Launch) (dC : Nat → ClassId) (dI : Nat → Nat → Nat) (cI cJ : ClassId) (o o_credits o_light o_lit o_whole o_ends o_clashes o_reach o_latest : Nat) (sz : Nat) (s_lit : Nat → Int32) (s_clashPairs : Int32) (p0 : Int32) (p1 : Int32) (Q : Int32 → Prop) (hw : P_X2_litBeat p0 p1 s_lit Q) : Met l yX2_litBeat (Cond.code yX2_litBeat cX2_litBeat 4 (some .int) :: TBL) rm_X2_litBeat (gPc (dC, dI) vwCl (gTy cI cJ) [.ref o, .int p0, .int p1] [(o, .inr (2, [.ref o_credits, .ref o_light, .ref o_lit, .ref o_whole, .ref o_ends, .ref o_clashes, .int s_clashPairs, .ref o_reach, .ref o_latest])), (o_lit, .inl (cI, 96, .inl s_lit))] sz) (va_Qi (fun (r : Int32) (u : Unit) => Q r ) (gB (dC, dI) vwCl (gTy cI cJ) (va_A [(o, .inr (2, [.ref o_credits, .ref o_light, .ref o_lit, .ref o_whole, .ref o_ends, .ref o_clashes, .int s_clashPairs, .ref o_reach, .ref o_latest])), (o_lit, .inl (cI, 96, .inl s_lit))] sz) (fun (u : Unit) => [(o, .inr (2, [.ref o_credits, .ref o_light, .ref o_lit, .ref o_whole, .ref o_ends, .ref o_clashes, .int s_clashPairs, .ref o_reach, .ref o_latest])), (o_lit, .inl (cI, 96, .inl s_lit))])) (va_A [(o, .inr (2, [.ref o_credits, .ref o_light, .ref o_lit, .ref o_whole, .ref o_ends, .ref o_clashes, .int s_clashPairs, .ref o_reach, .ref o_latest])), (o_lit, .inl (cI, 96, .inl s_lit))] sz)) 0 0 (va_A [(o, .inr (2, [.ref o_credits, .ref o_light, .ref o_lit, .ref o_whole, .ref o_ends, .ref o_clashes, .int s_clashPairs, .ref o_reach, .ref o_latest])), (o_lit, .inl (cI, 96, .inl s_lit))] sz) := by
  refine Met.ofW (cc := cX2_litBeat) (maxL := 4) (ret := (some .int)) (by decide) rfl ?_
  intro p e s m args below meth c s₁ B hml hv
  obtain ⟨rfl, hsz, hP, hK, hD0⟩ := hv
  have hx := B.exec
  have hb := B.bytes
  have hr := B.returns
  have hts := atoms_spec (ws := Cond.code yX2_litBeat cX2_litBeat 4 (some .int) :: TBL) B.pre
  have ht : ∀ w ∈ TBL, w.before ([.ref o, .int p0, .int p1] : List Value).toArray s = true := fun w h => hts w (List.mem_cons_of_mem _ h)
  clear hts
  have hown : s.vm.findClass RX2 = some m.cls := findClass_of_methodNamed B.named
  have hlocks := B.notSynchronized
  clear B
  subst hsz
  have hD := hD0.self (sz := s.heap.size)
  clear hD0
  generalize hAe : va_A [(o, .inr (2, [.ref o_credits, .ref o_light, .ref o_lit, .ref o_whole, .ref o_ends, .ref o_clashes, .int s_clashPairs, .ref o_reach, .ref o_latest])), (o_lit, .inl (cI, 96, .inl s_lit))] s.heap.size = A at hD ⊢
  have hA : ∀ q : Nat, s.heap.size ≤ q → A q := fun q h => by rw [← hAe]; exact Or.inr h
  clear hAe
  have hS : va_S A s.heap s.heap [] := va_S.rf
  have hP : va_P (dC, dI) vwCl [(o, .inr (2, [.ref o_credits, .ref o_light, .ref o_lit, .ref o_whole, .ref o_ends, .ref o_clashes, .int s_clashPairs, .ref o_reach, .ref o_latest])), (o_lit, .inl (cI, 96, .inl s_lit))] s.heap := hP
  have hl := lv_entry ([.ref o, .int p0, .int p1]) (n := 4) (Nat.le_of_ble_eq_true rfl)
  rw [lg_entry_eq]
  generalize (lg_sl ([.ref o, .int p0, .int p1]) ++ List.replicate (4 - (lg_sl ([.ref o, .int p0, .int p1])).length) Slot.unset).toArray = ls at hl ⊢
  have hl : lv_has ls 4 [(0, .ref o), (1, .int p0), (2, .int p1)] := hl
  generalize hQQ : MQ below _ _ _ 0 0 A = QQ
  show W p l e rm_X2_litBeat s m ([.ref o, .int p0, .int p1] : List Value).toArray below meth c s.heap [] 0 0 QQ (F0 m 0 ls [])
  obtain ⟨H, hHH⟩ : ∃ H, H = s.heap := ⟨_, rfl⟩
  rw [← hHH] at hP ⊢
  have hS : va_S A s.heap H [] := by rw [hHH]; exact hS
  clear hHH
  generalize ([] : List Loc) = locs at hS ⊢
  unfold P_X2_litBeat at hw
  refine lv_iload_n hx hb dX2_litBeat_0 rfl (lv_at hl 1 rfl) ?_
  refine lv_bipush (v := 12) hx hb dX2_litBeat_1 (by decide) ?_
  refine lv_imul hx hb dX2_litBeat_3 ?_
  refine lv_iload_n hx hb dX2_litBeat_4 rfl (lv_at hl 2 rfl) ?_
  refine lv_iadd hx hb dX2_litBeat_5 ?_
  refine lv_istore_n (lv' := [(3, .int ((p0 * 12) + p1)), (0, .ref o), (1, .int p0), (2, .int p1)]) hx hb dX2_litBeat_6 rfl hl (by decide) rfl (fun ls hl => ?_)
  refine lv_iload_n hx hb dX2_litBeat_7 rfl (lv_at hl 0 rfl) ?_
  refine lv_if_lt (tgt := 29) hx hb dX2_litBeat_8 (by decide) (fun hc => ?_) (fun hc => ?_)
  · have hw := hw.1 hc
    refine lv_iconst (v := (-1)) hx hb dX2_litBeat_29 (by decide) ?_
    rw [← hQQ]
    exact g_reti (v := (-1)) (u := ()) hx hb hr rfl hlocks hw hP hK hD hS dX2_litBeat_30
  · have hw := hw.2 hc
    refine lv_iload_n hx hb dX2_litBeat_11 rfl (lv_at hl 0 rfl) ?_
    refine lv_aload_n hx hb dX2_litBeat_12 rfl (lv_at hl 1 rfl) ?_
    refine va_get (D := (dC, dI)) (ci := 2) (v := .ref o_lit) (C := RX2) (T := TX2) (N := 9) hx hb ht i_X2 hown hK hP 0 rfl rfl 2 (by decide) (ht _ k_41) (fun _ h9 => h9) rfl dX2_litBeat_13 ?_
    refine va_alen (v := 96) hx hb hK hP 1 0 rfl rfl rfl dX2_litBeat_16 ?_
    refine lv_icmp_ge (tgt := 29) hx hb dX2_litBeat_17 (by decide) (fun hc => ?_) (fun hc => ?_)
    · have hw := hw.1 hc
      refine lv_iconst (v := (-1)) hx hb dX2_litBeat_29 (by decide) ?_
      rw [← hQQ]
      exact g_reti (v := (-1)) (u := ()) hx hb hr rfl hlocks hw hP hK hD hS dX2_litBeat_30
    · have hw := hw.2 hc
      refine lv_aload_n hx hb dX2_litBeat_20 rfl (lv_at hl 1 rfl) ?_
      refine va_get (D := (dC, dI)) (ci := 2) (v := .ref o_lit) (C := RX2) (T := TX2) (N := 9) hx hb ht i_X2 hown hK hP 0 rfl rfl 2 (by decide) (ht _ k_41) (fun _ h9 => h9) rfl dX2_litBeat_21 ?_
      refine lv_iload_n hx hb dX2_litBeat_24 rfl (lv_at hl 0 rfl) ?_
      obtain ⟨hi_1, hw⟩ := hw
      refine gv_iald hx hb hK hP 1 0 rfl rfl rfl hi_1 dX2_litBeat_25 ?_
      refine lv_goto (tgt := 30) hx hb dX2_litBeat_26 (by decide) ?_
      rw [← hQQ]
      exact g_reti (v := (s_lit (((p0 * 12) + p1).toNatClampNeg))) (u := ()) hx hb hr rfl hlocks hw hP hK hD hS dX2_litBeat_30
abbrev rm_X2_nextBar : Room := { frames := 0, cells := 0, slots := 0, locals := 0 }
set_option maxHeartbeats 4000000 in
set_option maxRecDepth 100000 in
theorem c_X2_nextBar (l : Launch) (dC : Nat → ClassId) (dI : Nat → Nat → Nat) (cI cJ : ClassId) (sz : Nat)  (p0 : Int32) (p1 : Int32) (Q : Int32 → Prop) (hw : P_X2_nextBar p0 p1 Q) : Met l yX2_nextBar (Cond.code yX2_nextBar cX2_nextBar 3 (some .int) :: TBL) rm_X2_nextBar (gPc (dC, dI) vwCl (gTy cI cJ) [.int p0, .int p1] [] sz) (va_Qi (fun (r : Int32) (u : Unit) => Q r ) (gB (dC, dI) vwCl (gTy cI cJ) (va_A [] sz) (fun (u : Unit) => [])) (va_A [] sz)) 0 0 (va_A [] sz) := by
  refine Met.ofW (cc := cX2_nextBar) (maxL := 3) (ret := (some .int)) (by decide) rfl ?_
  intro p e s m args below meth c s₁ B hml hv
  obtain ⟨rfl, hsz, hP, hK, hD0⟩ := hv
  have hx := B.exec
  have hb := B.bytes
  have hr := B.returns
  have hts := atoms_spec (ws := Cond.code yX2_nextBar cX2_nextBar 3 (some .int) :: TBL) B.pre
  have ht : ∀ w ∈ TBL, w.before ([.int p0, .int p1] : List Value).toArray s = true := fun w h => hts w (List.mem_cons_of_mem _ h)
  clear hts
  have hown : s.vm.findClass RX2 = some m.cls := findClass_of_methodNamed B.named
  have hlocks := B.notSynchronized
  clear B
  subst hsz
  have hD := hD0.self (sz := s.heap.size)
  clear hD0
  generalize hAe : va_A [] s.heap.size = A at hD ⊢
  have hA : ∀ q : Nat, s.heap.size ≤ q → A q := fun q h => by rw [← hAe]; exact Or.inr h
  clear hAe
  have hS : va_S A s.heap s.heap [] := va_S.rf
  have hP : va_P (dC, dI) vwCl [] s.heap := hP
  have hl := lv_entry ([.int p0, .int p1]) (n := 3) (Nat.le_of_ble_eq_true rfl)
  rw [lg_entry_eq]
  generalize (lg_sl ([.int p0, .int p1]) ++ List.replicate (3 - (lg_sl ([.int p0, .int p1])).length) Slot.unset).toArray = ls at hl ⊢
  have hl : lv_has ls 3 [(0, .int p0), (1, .int p1)] := hl
  generalize hQQ : MQ below _ _ _ 0 0 A = QQ
  show W p l e rm_X2_nextBar s m ([.int p0, .int p1] : List Value).toArray below meth c s.heap [] 0 0 QQ (F0 m 0 ls [])
  have L2 : ∀ (x1 : Int32), ∀ (n : Nat) (x2 : Int32), P_X2_nextBar_L2 x1 Q n x2 → ∀ (H : Heap) (locs : List Loc) (ls : Array Slot), va_P (dC, dI) vwCl [] H → va_D A [] → va_S A s.heap H locs → lv_has ls 3 [(1, .int x1), (2, .int x2)] → W p l e rm_X2_nextBar s m ([.int p0, .int p1] : List Value).toArray below meth c H locs 0 0 QQ (F0 m 2 ls []) := by
    intro x1
    intro n
    induction n with
    | zero => intro x2 hw; rw [P_X2_nextBar_L2_z] at hw; exact hw.elim
    | succ n ih =>
      intro x2 hw
      rw [P_X2_nextBar_L2_s] at hw
      generalize hrec : P_X2_nextBar_L2 x1 Q n = rec2 at ih hw
      have J21 : ∀ (x2 : Int32), P_X2_nextBar_J21 rec2 x2 → ∀ (H : Heap) (locs : List Loc) (ls : Array Slot), va_P (dC, dI) vwCl [] H → va_D A [] → va_S A s.heap H locs → lv_has ls 3 [(1, .int x1), (2, .int x2)] → W p l e rm_X2_nextBar s m ([.int p0, .int p1] : List Value).toArray below meth c H locs 0 0 QQ (F0 m 21 ls []) := by
        intro x2 hw H locs ls hP hD hS hl
        unfold P_X2_nextBar_J21 at hw
        refine lv_iinc (v := (x2 + 1)) (lv' := [(2, .int (x2 + 1)), (1, .int x1)]) hx hb dX2_nextBar_21 hl (k := 1) rfl rfl (by decide) rfl (fun ls hl => ?_)
        refine lv_goto (tgt := 2) hx hb dX2_nextBar_24 (by decide) ?_
        exact ih (x2 + 1) hw H locs ls hP hD hS (lv_sub (l' := [(1, .int x1), (2, .int (x2 + 1))]) hl [1, 0] rfl)
      intro H locs ls hP hD hS hl
      unfold B_X2_nextBar_L2 at hw
      refine lv_iload_n hx hb dX2_nextBar_2 rfl (lv_at hl 1 rfl) ?_
      refine lv_sipush (v := 200) hx hb dX2_nextBar_3 (by decide) ?_
      refine lv_icmp_ge (tgt := 27) hx hb dX2_nextBar_6 (by decide) (fun hc => ?_) (fun hc => ?_)
      · have hw := hw.1 hc
        refine lv_sipush (v := 200) hx hb dX2_nextBar_27 (by decide) ?_
        rw [← hQQ]
        exact g_reti (v := 200) (u := ()) hx hb hr rfl hlocks hw hP hK hD hS dX2_nextBar_30
      · have hw := hw.2 hc
        refine lv_iload_n hx hb dX2_nextBar_9 rfl (lv_at hl 0 rfl) ?_
        refine lv_if_le (tgt := 21) hx hb dX2_nextBar_10 (by decide) (fun hc => ?_) (fun hc => ?_)
        · have hw := hw.1 hc
          exact J21 x2 hw H locs ls hP hD hS hl
        · have hw := hw.2 hc
          refine lv_iload_n hx hb dX2_nextBar_13 rfl (lv_at hl 1 rfl) ?_
          refine lv_iload_n hx hb dX2_nextBar_14 rfl (lv_at hl 0 rfl) ?_
          obtain ⟨hz_1, hw⟩ := hw
          refine lv_irem hx hb dX2_nextBar_15 hz_1 ?_
          refine lv_if_ne (tgt := 21) hx hb dX2_nextBar_16 (by decide) (fun hc => ?_) (fun hc => ?_)
          · have hw := hw.1 hc
            exact J21 x2 hw H locs ls hP hD hS hl
          · have hw := hw.2 hc
            refine lv_iload_n hx hb dX2_nextBar_19 rfl (lv_at hl 1 rfl) ?_
            rw [← hQQ]
            exact g_reti (v := x2) (u := ()) hx hb hr rfl hlocks hw hP hK hD hS dX2_nextBar_20
  obtain ⟨H, hHH⟩ : ∃ H, H = s.heap := ⟨_, rfl⟩
  rw [← hHH] at hP ⊢
  have hS : va_S A s.heap H [] := by rw [hHH]; exact hS
  clear hHH
  generalize ([] : List Loc) = locs at hS ⊢
  unfold P_X2_nextBar at hw
  refine lv_iload_n hx hb dX2_nextBar_0 rfl (lv_at hl 0 rfl) ?_
  refine lv_istore_n (lv' := [(2, .int p0), (0, .int p0), (1, .int p1)]) hx hb dX2_nextBar_1 rfl hl (by decide) rfl (fun ls hl => ?_)
  obtain ⟨n, hw⟩ := hw
  exact L2 p1 n p0 hw H locs ls hP hD hS (lv_sub (l' := [(1, .int p1), (2, .int p0)]) hl [2, 0] rfl)
abbrev rm_X2_finish : Room := { frames := 1, cells := 0, slots := 0, locals := 23 }
set_option maxHeartbeats 4000000 in
set_option maxRecDepth 100000 in
theorem c_X2_finish (l : Launch) (dC : Nat → ClassId) (dI : Nat → Nat → Nat) (cI cJ : ClassId) (o o_credits o_light o_lit o_whole o_ends o_clashes o_reach o_latest o_credits_cells : Nat) (sz : Nat) (s_credits_cells : Nat → Int32) (s_lit : Nat → Int32) (s_whole : Nat → Int32) (s_ends : Nat → Int32) (s_clashPairs : Int32) (p0 : Int32) (p1 : Int32) (Q : (Nat → Int32) → (Nat → Int32) → Prop) (hw : P_X2_finish p0 p1 s_credits_cells s_lit s_whole s_ends Q) : Met l yX2_finish (Cond.code yX2_finish cX2_finish 6 none :: TBL) rm_X2_finish (gPc (dC, dI) vwCl (gTy cI cJ) [.ref o, .int p0, .int p1] [(o, .inr (2, [.ref o_credits, .ref o_light, .ref o_lit, .ref o_whole, .ref o_ends, .ref o_clashes, .int s_clashPairs, .ref o_reach, .ref o_latest])), (o_credits, .inr (0, [.ref o_credits_cells])), (o_credits_cells, .inl (cI, 82, .inl s_credits_cells)), (o_lit, .inl (cI, 96, .inl s_lit)), (o_whole, .inl (cI, 8, .inl s_whole)), (o_ends, .inl (cI, 8, .inl s_ends))] sz) (va_Qv (fun (u : (Nat → Int32) × (Nat → Int32)) => Q u.1 u.2) (gB (dC, dI) vwCl (gTy cI cJ) (va_A [(o, .inr (2, [.ref o_credits, .ref o_light, .ref o_lit, .ref o_whole, .ref o_ends, .ref o_clashes, .int s_clashPairs, .ref o_reach, .ref o_latest])), (o_credits, .inr (0, [.ref o_credits_cells])), (o_credits_cells, .inl (cI, 82, .inl s_credits_cells)), (o_lit, .inl (cI, 96, .inl s_lit)), (o_whole, .inl (cI, 8, .inl s_whole)), (o_ends, .inl (cI, 8, .inl s_ends))] sz) (fun (u : (Nat → Int32) × (Nat → Int32)) => [(o, .inr (2, [.ref o_credits, .ref o_light, .ref o_lit, .ref o_whole, .ref o_ends, .ref o_clashes, .int s_clashPairs, .ref o_reach, .ref o_latest])), (o_credits, .inr (0, [.ref o_credits_cells])), (o_credits_cells, .inl (cI, 82, .inl s_credits_cells)), (o_lit, .inl (cI, 96, .inl s_lit)), (o_whole, .inl (cI, 8, .inl u.1)), (o_ends, .inl (cI, 8, .inl u.2))])) (va_A [(o, .inr (2, [.ref o_credits, .ref o_light, .ref o_lit, .ref o_whole, .ref o_ends, .ref o_clashes, .int s_clashPairs, .ref o_reach, .ref o_latest])), (o_credits, .inr (0, [.ref o_credits_cells])), (o_credits_cells, .inl (cI, 82, .inl s_credits_cells)), (o_lit, .inl (cI, 96, .inl s_lit)), (o_whole, .inl (cI, 8, .inl s_whole)), (o_ends, .inl (cI, 8, .inl s_ends))] sz)) 0 0 (va_A [(o, .inr (2, [.ref o_credits, .ref o_light, .ref o_lit, .ref o_whole, .ref o_ends, .ref o_clashes, .int s_clashPairs, .ref o_reach, .ref o_latest])), (o_credits, .inr (0, [.ref o_credits_cells])), (o_credits_cells, .inl (cI, 82, .inl s_credits_cells)), (o_lit, .inl (cI, 96, .inl s_lit)), (o_whole, .inl (cI, 8, .inl s_whole)), (o_ends, .inl (cI, 8, .inl s_ends))] sz) := by
  refine Met.ofW (cc := cX2_finish) (maxL := 6) (ret := none) (by decide) rfl ?_
  intro p e s m args below meth c s₁ B hml hv
  obtain ⟨rfl, hsz, hP, hK, hD0⟩ := hv
  have hx := B.exec
  have hb := B.bytes
  have hr := B.returns
  have hts := atoms_spec (ws := Cond.code yX2_finish cX2_finish 6 none :: TBL) B.pre
  have ht : ∀ w ∈ TBL, w.before ([.ref o, .int p0, .int p1] : List Value).toArray s = true := fun w h => hts w (List.mem_cons_of_mem _ h)
  clear hts
  have hown : s.vm.findClass RX2 = some m.cls := findClass_of_methodNamed B.named
  have hlocks := B.notSynchronized
  clear B
  subst hsz
  have hD := hD0.self (sz := s.heap.size)
  clear hD0
  generalize hAe : va_A [(o, .inr (2, [.ref o_credits, .ref o_light, .ref o_lit, .ref o_whole, .ref o_ends, .ref o_clashes, .int s_clashPairs, .ref o_reach, .ref o_latest])), (o_credits, .inr (0, [.ref o_credits_cells])), (o_credits_cells, .inl (cI, 82, .inl s_credits_cells)), (o_lit, .inl (cI, 96, .inl s_lit)), (o_whole, .inl (cI, 8, .inl s_whole)), (o_ends, .inl (cI, 8, .inl s_ends))] s.heap.size = A at hD ⊢
  have hA : ∀ q : Nat, s.heap.size ≤ q → A q := fun q h => by rw [← hAe]; exact Or.inr h
  clear hAe
  have hS : va_S A s.heap s.heap [] := va_S.rf
  have hP : va_P (dC, dI) vwCl [(o, .inr (2, [.ref o_credits, .ref o_light, .ref o_lit, .ref o_whole, .ref o_ends, .ref o_clashes, .int s_clashPairs, .ref o_reach, .ref o_latest])), (o_credits, .inr (0, [.ref o_credits_cells])), (o_credits_cells, .inl (cI, 82, .inl s_credits_cells)), (o_lit, .inl (cI, 96, .inl s_lit)), (o_whole, .inl (cI, 8, .inl s_whole)), (o_ends, .inl (cI, 8, .inl s_ends))] s.heap := hP
  have hl := lv_entry ([.ref o, .int p0, .int p1]) (n := 6) (Nat.le_of_ble_eq_true rfl)
  rw [lg_entry_eq]
  generalize (lg_sl ([.ref o, .int p0, .int p1]) ++ List.replicate (6 - (lg_sl ([.ref o, .int p0, .int p1])).length) Slot.unset).toArray = ls at hl ⊢
  have hl : lv_has ls 6 [(0, .ref o), (1, .int p0), (2, .int p1)] := hl
  generalize hQQ : MQ below _ _ _ 0 0 A = QQ
  show W p l e rm_X2_finish s m ([.ref o, .int p0, .int p1] : List Value).toArray below meth c s.heap [] 0 0 QQ (F0 m 0 ls [])
  have L28 : ∀ (x1 : Int32) (x2 : Int32) (K28_68 : Int32 → Prop), (∀ (x3 : Int32), K28_68 x3 → ∀ (H : Heap) (locs : List Loc) (ls : Array Slot), va_P (dC, dI) vwCl [(o, .inr (2, [.ref o_credits, .ref o_light, .ref o_lit, .ref o_whole, .ref o_ends, .ref o_clashes, .int s_clashPairs, .ref o_reach, .ref o_latest])), (o_credits, .inr (0, [.ref o_credits_cells])), (o_credits_cells, .inl (cI, 82, .inl s_credits_cells)), (o_lit, .inl (cI, 96, .inl s_lit)), (o_whole, .inl (cI, 8, .inl s_whole)), (o_ends, .inl (cI, 8, .inl s_ends))] H → va_D A [(o, .inr (2, [.ref o_credits, .ref o_light, .ref o_lit, .ref o_whole, .ref o_ends, .ref o_clashes, .int s_clashPairs, .ref o_reach, .ref o_latest])), (o_credits, .inr (0, [.ref o_credits_cells])), (o_credits_cells, .inl (cI, 82, .inl s_credits_cells)), (o_lit, .inl (cI, 96, .inl s_lit)), (o_whole, .inl (cI, 8, .inl s_whole)), (o_ends, .inl (cI, 8, .inl s_ends))] → va_S A s.heap H locs → lv_has ls 6 [(0, .ref o), (1, .int x1), (3, .int x3)] → W p l e rm_X2_finish s m ([.ref o, .int p0, .int p1] : List Value).toArray below meth c H locs 0 0 QQ (F0 m 68 ls [])) → ∀ (n : Nat) (x3 : Int32) (x4 : Int32), P_X2_finish_L28 x1 x2 s_lit K28_68 n x3 x4 → ∀ (H : Heap) (locs : List Loc) (ls : Array Slot), va_P (dC, dI) vwCl [(o, .inr (2, [.ref o_credits, .ref o_light, .ref o_lit, .ref o_whole, .ref o_ends, .ref o_clashes, .int s_clashPairs, .ref o_reach, .ref o_latest])), (o_credits, .inr (0, [.ref o_credits_cells])), (o_credits_cells, .inl (cI, 82, .inl s_credits_cells)), (o_lit, .inl (cI, 96, .inl s_lit)), (o_whole, .inl (cI, 8, .inl s_whole)), (o_ends, .inl (cI, 8, .inl s_ends))] H → va_D A [(o, .inr (2, [.ref o_credits, .ref o_light, .ref o_lit, .ref o_whole, .ref o_ends, .ref o_clashes, .int s_clashPairs, .ref o_reach, .ref o_latest])), (o_credits, .inr (0, [.ref o_credits_cells])), (o_credits_cells, .inl (cI, 82, .inl s_credits_cells)), (o_lit, .inl (cI, 96, .inl s_lit)), (o_whole, .inl (cI, 8, .inl s_whole)), (o_ends, .inl (cI, 8, .inl s_ends))] → va_S A s.heap H locs → lv_has ls 6 [(0, .ref o), (1, .int x1), (2, .int x2), (3, .int x3), (4, .int x4)] → W p l e rm_X2_finish s m ([.ref o, .int p0, .int p1] : List Value).toArray below meth c H locs 0 0 QQ (F0 m 28 ls []) := by
    intro x1 x2 K28_68 hK28_68
    intro n
    induction n with
    | zero => intro x3 x4 hw; rw [P_X2_finish_L28_z] at hw; exact hw.elim
    | succ n ih =>
      intro x3 x4 hw
      rw [P_X2_finish_L28_s] at hw
      generalize hrec : P_X2_finish_L28 x1 x2 s_lit K28_68 n = rec28 at ih hw
      have J61 : ∀ (x4 : Int32) (t0 : Int32), P_X2_finish_J61 rec28 x4 t0 → ∀ (H : Heap) (locs : List Loc) (ls : Array Slot), va_P (dC, dI) vwCl [(o, .inr (2, [.ref o_credits, .ref o_light, .ref o_lit, .ref o_whole, .ref o_ends, .ref o_clashes, .int s_clashPairs, .ref o_reach, .ref o_latest])), (o_credits, .inr (0, [.ref o_credits_cells])), (o_credits_cells, .inl (cI, 82, .inl s_credits_cells)), (o_lit, .inl (cI, 96, .inl s_lit)), (o_whole, .inl (cI, 8, .inl s_whole)), (o_ends, .inl (cI, 8, .inl s_ends))] H → va_D A [(o, .inr (2, [.ref o_credits, .ref o_light, .ref o_lit, .ref o_whole, .ref o_ends, .ref o_clashes, .int s_clashPairs, .ref o_reach, .ref o_latest])), (o_credits, .inr (0, [.ref o_credits_cells])), (o_credits_cells, .inl (cI, 82, .inl s_credits_cells)), (o_lit, .inl (cI, 96, .inl s_lit)), (o_whole, .inl (cI, 8, .inl s_whole)), (o_ends, .inl (cI, 8, .inl s_ends))] → va_S A s.heap H locs → lv_has ls 6 [(0, .ref o), (1, .int x1), (2, .int x2), (4, .int x4)] → W p l e rm_X2_finish s m ([.ref o, .int p0, .int p1] : List Value).toArray below meth c H locs 0 0 QQ (F0 m 61 ls [.int t0]) := by
        intro x4 t0 hw H locs ls hP hD hS hl
        unfold P_X2_finish_J61 at hw
        refine lv_istore_n (lv' := [(3, .int t0), (0, .ref o), (1, .int x1), (2, .int x2), (4, .int x4)]) hx hb dX2_finish_61 rfl hl (by decide) rfl (fun ls hl => ?_)
        refine lv_iinc (v := (x4 + 1)) (lv' := [(4, .int (x4 + 1)), (3, .int t0), (0, .ref o), (1, .int x1), (2, .int x2)]) hx hb dX2_finish_62 hl (k := 4) rfl rfl (by decide) rfl (fun ls hl => ?_)
        refine lv_goto (tgt := 28) hx hb dX2_finish_65 (by decide) ?_
        exact ih t0 (x4 + 1) hw H locs ls hP hD hS (lv_sub (l' := [(0, .ref o), (1, .int x1), (2, .int x2), (3, .int t0), (4, .int (x4 + 1))]) hl [2, 3, 4, 1, 0] rfl)
      intro H locs ls hP hD hS hl
      unfold B_X2_finish_L28 at hw
      refine lv_iload hx hb dX2_finish_28 (lv_at hl 4 rfl) ?_
      refine lv_iload_n hx hb dX2_finish_30 rfl (lv_at hl 2 rfl) ?_
      refine lv_icmp_ge (tgt := 68) hx hb dX2_finish_31 (by decide) (fun hc => ?_) (fun hc => ?_)
      · have hw := hw.1 hc
        exact hK28_68 x3 hw H locs ls hP hD hS (lv_sub (l' := [(0, .ref o), (1, .int x1), (3, .int x3)]) hl [0, 1, 3] rfl)
      · have hw := hw.2 hc
        refine lv_aload_n hx hb dX2_finish_34 rfl (lv_at hl 0 rfl) ?_
        refine lv_iload_n hx hb dX2_finish_35 rfl (lv_at hl 1 rfl) ?_
        refine lv_iload hx hb dX2_finish_36 (lv_at hl 4 rfl) ?_
        refine gc_Vi (As := [.int x1, .int x4]) (rest := []) (wr := [(o_credits, .inr (0, [.ref o_credits_cells])), (o_credits_cells, .inl (cI, 82, .inl s_credits_cells)), (o_whole, .inl (cI, 8, .inl s_whole)), (o_ends, .inl (cI, 8, .inl s_ends))]) ⟨hx, hb, hml, hown, ht⟩ (c_X2_litBeat l dC dI cI cJ o o_credits o_light o_lit o_whole o_ends o_clashes o_reach o_latest H.size s_lit s_clashPairs x1 x4 _ hw) (cwV 2 ht (g_V k_215 k_216 k_217 k_3 k_218) rfl rfl rfl (by decide +kernel) ⟨(Nat.le_of_ble_eq_true rfl), (Nat.le_of_ble_eq_true rfl)⟩) hK hP hD hS hA [0, 3] [1, 2, 4, 5] rfl rfl (by decide) 0 rfl rfl rfl rfl hl.1 rfl (Nat.le_of_ble_eq_true rfl) ⟨(Nat.le_of_ble_eq_true rfl), (Nat.le_of_ble_eq_true rfl)⟩ dX2_finish_38 (fun r_1 u H locs hw hP hD hS => ?_)
        try dsimp only at hw
        have hP : va_P (dC, dI) vwCl [(o_credits, .inr (0, [.ref o_credits_cells])), (o_credits_cells, .inl (cI, 82, .inl s_credits_cells)), (o_whole, .inl (cI, 8, .inl s_whole)), (o_ends, .inl (cI, 8, .inl s_ends)), (o, .inr (2, [.ref o_credits, .ref o_light, .ref o_lit, .ref o_whole, .ref o_ends, .ref o_clashes, .int s_clashPairs, .ref o_reach, .ref o_latest])), (o_lit, .inl (cI, 96, .inl s_lit))] H := hP
        have hD : va_D A [(o_credits, .inr (0, [.ref o_credits_cells])), (o_credits_cells, .inl (cI, 82, .inl s_credits_cells)), (o_whole, .inl (cI, 8, .inl s_whole)), (o_ends, .inl (cI, 8, .inl s_ends)), (o, .inr (2, [.ref o_credits, .ref o_light, .ref o_lit, .ref o_whole, .ref o_ends, .ref o_clashes, .int s_clashPairs, .ref o_reach, .ref o_latest])), (o_lit, .inl (cI, 96, .inl s_lit))] := hD
        refine lv_istore (lv' := [(5, .int r_1), (0, .ref o), (1, .int x1), (2, .int x2), (3, .int x3), (4, .int x4)]) hx hb dX2_finish_41 hl (by decide) rfl (fun ls hl => ?_)
        refine lv_iload hx hb dX2_finish_43 (lv_at hl 0 rfl) ?_
        refine lv_iconst (v := (-1)) hx hb dX2_finish_45 (by decide) ?_
        refine lv_icmp_ne (tgt := 55) hx hb dX2_finish_46 (by decide) (fun hc => ?_) (fun hc => ?_)
        · have hw := hw.1 hc
          refine lv_iload_n hx hb dX2_finish_55 rfl (lv_at hl 4 rfl) ?_
          refine lv_iload hx hb dX2_finish_56 (lv_at hl 0 rfl) ?_
          refine va_mmax hx hb (hml.trans hl.1.symm) hown (ht _ k_231) (ht _ k_232) (ht _ k_9) (ht _ k_233) (Nat.le_of_ble_eq_true rfl) (Nat.le_of_ble_eq_true rfl) (Nat.zero_le _) (Nat.zero_le _) dX2_finish_58 ?_
          exact J61 x4 (if x3 < r_1 then r_1 else x3) hw H locs ls (hP.sub (ws' := [(o, .inr (2, [.ref o_credits, .ref o_light, .ref o_lit, .ref o_whole, .ref o_ends, .ref o_clashes, .int s_clashPairs, .ref o_reach, .ref o_latest])), (o_credits, .inr (0, [.ref o_credits_cells])), (o_credits_cells, .inl (cI, 82, .inl s_credits_cells)), (o_lit, .inl (cI, 96, .inl s_lit)), (o_whole, .inl (cI, 8, .inl s_whole)), (o_ends, .inl (cI, 8, .inl s_ends))]) [4, 0, 1, 5, 2, 3] rfl) (hD.sub (ws' := [(o, .inr (2, [.ref o_credits, .ref o_light, .ref o_lit, .ref o_whole, .ref o_ends, .ref o_clashes, .int s_clashPairs, .ref o_reach, .ref o_latest])), (o_credits, .inr (0, [.ref o_credits_cells])), (o_credits_cells, .inl (cI, 82, .inl s_credits_cells)), (o_lit, .inl (cI, 96, .inl s_lit)), (o_whole, .inl (cI, 8, .inl s_whole)), (o_ends, .inl (cI, 8, .inl s_ends))]) [4, 0, 1, 5, 2, 3] (by decide) rfl) hS (lv_sub (l' := [(0, .ref o), (1, .int x1), (2, .int x2), (4, .int x4)]) hl [1, 2, 3, 5] rfl)
        · have hw := hw.2 hc
          refine lv_sipush (v := 200) hx hb dX2_finish_49 (by decide) ?_
          refine lv_goto (tgt := 61) hx hb dX2_finish_52 (by decide) ?_
          exact J61 x4 200 hw H locs ls (hP.sub (ws' := [(o, .inr (2, [.ref o_credits, .ref o_light, .ref o_lit, .ref o_whole, .ref o_ends, .ref o_clashes, .int s_clashPairs, .ref o_reach, .ref o_latest])), (o_credits, .inr (0, [.ref o_credits_cells])), (o_credits_cells, .inl (cI, 82, .inl s_credits_cells)), (o_lit, .inl (cI, 96, .inl s_lit)), (o_whole, .inl (cI, 8, .inl s_whole)), (o_ends, .inl (cI, 8, .inl s_ends))]) [4, 0, 1, 5, 2, 3] rfl) (hD.sub (ws' := [(o, .inr (2, [.ref o_credits, .ref o_light, .ref o_lit, .ref o_whole, .ref o_ends, .ref o_clashes, .int s_clashPairs, .ref o_reach, .ref o_latest])), (o_credits, .inr (0, [.ref o_credits_cells])), (o_credits_cells, .inl (cI, 82, .inl s_credits_cells)), (o_lit, .inl (cI, 96, .inl s_lit)), (o_whole, .inl (cI, 8, .inl s_whole)), (o_ends, .inl (cI, 8, .inl s_ends))]) [4, 0, 1, 5, 2, 3] (by decide) rfl) hS (lv_sub (l' := [(0, .ref o), (1, .int x1), (2, .int x2), (4, .int x4)]) hl [1, 2, 3, 5] rfl)
  have J100 : ∀ (x1 : Int32) (x3 : Int32) (x4 : Int32) (t0 : Int32) (t1 : Int32), P_X2_finish_J100 s_credits_cells s_whole s_ends Q x1 x3 x4 t0 t1 → ∀ (H : Heap) (locs : List Loc) (ls : Array Slot), va_P (dC, dI) vwCl [(o, .inr (2, [.ref o_credits, .ref o_light, .ref o_lit, .ref o_whole, .ref o_ends, .ref o_clashes, .int s_clashPairs, .ref o_reach, .ref o_latest])), (o_credits, .inr (0, [.ref o_credits_cells])), (o_credits_cells, .inl (cI, 82, .inl s_credits_cells)), (o_lit, .inl (cI, 96, .inl s_lit)), (o_whole, .inl (cI, 8, .inl s_whole)), (o_ends, .inl (cI, 8, .inl s_ends))] H → va_D A [(o, .inr (2, [.ref o_credits, .ref o_light, .ref o_lit, .ref o_whole, .ref o_ends, .ref o_clashes, .int s_clashPairs, .ref o_reach, .ref o_latest])), (o_credits, .inr (0, [.ref o_credits_cells])), (o_credits_cells, .inl (cI, 82, .inl s_credits_cells)), (o_lit, .inl (cI, 96, .inl s_lit)), (o_whole, .inl (cI, 8, .inl s_whole)), (o_ends, .inl (cI, 8, .inl s_ends))] → va_S A s.heap H locs → lv_has ls 6 [(0, .ref o), (1, .int x1), (3, .int x3), (4, .int x4)] → W p l e rm_X2_finish s m ([.ref o, .int p0, .int p1] : List Value).toArray below meth c H locs 0 0 QQ (F0 m 100 ls [.int t0, .int t1, .ref o_whole]) := by
    intro x1 x3 x4 t0 t1 hw H locs ls hP hD hS hl
    unfold P_X2_finish_J100 at hw
    obtain ⟨hi_2, hw⟩ := hw
    refine gv_iast hx hb hK hP hD hS 4 0 rfl rfl rfl hi_2 dX2_finish_100 (fun H locs hP hD hS => ?_)
    have hP : va_P (dC, dI) vwCl [(o, .inr (2, [.ref o_credits, .ref o_light, .ref o_lit, .ref o_whole, .ref o_ends, .ref o_clashes, .int s_clashPairs, .ref o_reach, .ref o_latest])), (o_credits, .inr (0, [.ref o_credits_cells])), (o_credits_cells, .inl (cI, 82, .inl s_credits_cells)), (o_lit, .inl (cI, 96, .inl s_lit)), (o_whole, .inl (cI, 8, .inl (upd s_whole t1.toNatClampNeg t0))), (o_ends, .inl (cI, 8, .inl s_ends))] H := hP
    have hD : va_D A [(o, .inr (2, [.ref o_credits, .ref o_light, .ref o_lit, .ref o_whole, .ref o_ends, .ref o_clashes, .int s_clashPairs, .ref o_reach, .ref o_latest])), (o_credits, .inr (0, [.ref o_credits_cells])), (o_credits_cells, .inl (cI, 82, .inl s_credits_cells)), (o_lit, .inl (cI, 96, .inl s_lit)), (o_whole, .inl (cI, 8, .inl (upd s_whole t1.toNatClampNeg t0))), (o_ends, .inl (cI, 8, .inl s_ends))] := hD
    refine lv_aload_n hx hb dX2_finish_101 rfl (lv_at hl 0 rfl) ?_
    refine va_get (D := (dC, dI)) (ci := 2) (v := .ref o_ends) (C := RX2) (T := TX2) (N := 9) hx hb ht i_X2 hown hK hP 0 rfl rfl 4 (by decide) (ht _ k_43) (fun _ h9 => h9) rfl dX2_finish_102 ?_
    refine lv_iload_n hx hb dX2_finish_105 rfl (lv_at hl 1 rfl) ?_
    refine lv_iload_n hx hb dX2_finish_106 rfl (lv_at hl 2 rfl) ?_
    refine lv_iload hx hb dX2_finish_107 (lv_at hl 3 rfl) ?_
    refine lv_iadd hx hb dX2_finish_109 ?_
    refine lv_aload_n hx hb dX2_finish_110 rfl (lv_at hl 0 rfl) ?_
    refine va_get (D := (dC, dI)) (ci := 2) (v := .ref o_credits) (C := RX2) (T := TX2) (N := 9) hx hb ht i_X2 hown hK hP 0 rfl rfl 0 (by decide) (ht _ k_39) (fun _ h9 => h9) rfl dX2_finish_111 ?_
    refine lv_iconst (v := 0) hx hb dX2_finish_114 (by decide) ?_
    refine gc_Vi (As := [.int 0]) (rest := [.int (x3 + x4), .int x1, .ref o_ends]) (wr := [(o, .inr (2, [.ref o_credits, .ref o_light, .ref o_lit, .ref o_whole, .ref o_ends, .ref o_clashes, .int s_clashPairs, .ref o_reach, .ref o_latest])), (o_lit, .inl (cI, 96, .inl s_lit)), (o_whole, .inl (cI, 8, .inl (upd s_whole t1.toNatClampNeg t0))), (o_ends, .inl (cI, 8, .inl s_ends))]) ⟨hx, hb, hml, hown, ht⟩ (c_X0_setting l dC dI cI cJ o_credits o_credits_cells H.size s_credits_cells 0 _ hw) (cwV 1 ht (g_V k_376 k_311 k_312 k_2 k_313) rfl rfl rfl (by decide +kernel) ⟨(Nat.le_of_ble_eq_true rfl), (Nat.le_of_ble_eq_true rfl)⟩) hK hP hD hS hA [1, 2] [0, 3, 4, 5] rfl rfl (by decide) 1 rfl rfl rfl rfl hl.1 rfl (Nat.le_of_ble_eq_true rfl) ⟨(Nat.le_of_ble_eq_true rfl), (Nat.le_of_ble_eq_true rfl)⟩ dX2_finish_115 (fun r_3 u H locs hw hP hD hS => ?_)
    try dsimp only at hw
    have hP : va_P (dC, dI) vwCl [(o, .inr (2, [.ref o_credits, .ref o_light, .ref o_lit, .ref o_whole, .ref o_ends, .ref o_clashes, .int s_clashPairs, .ref o_reach, .ref o_latest])), (o_lit, .inl (cI, 96, .inl s_lit)), (o_whole, .inl (cI, 8, .inl (upd s_whole t1.toNatClampNeg t0))), (o_ends, .inl (cI, 8, .inl s_ends)), (o_credits, .inr (0, [.ref o_credits_cells])), (o_credits_cells, .inl (cI, 82, .inl s_credits_cells))] H := hP
    have hD : va_D A [(o, .inr (2, [.ref o_credits, .ref o_light, .ref o_lit, .ref o_whole, .ref o_ends, .ref o_clashes, .int s_clashPairs, .ref o_reach, .ref o_latest])), (o_lit, .inl (cI, 96, .inl s_lit)), (o_whole, .inl (cI, 8, .inl (upd s_whole t1.toNatClampNeg t0))), (o_ends, .inl (cI, 8, .inl s_ends)), (o_credits, .inr (0, [.ref o_credits_cells])), (o_credits_cells, .inl (cI, 82, .inl s_credits_cells))] := hD
    refine gc_Si (As := [.int (x3 + x4), .int r_3]) (rest := [.int x1, .ref o_ends]) (wr := [(o, .inr (2, [.ref o_credits, .ref o_light, .ref o_lit, .ref o_whole, .ref o_ends, .ref o_clashes, .int s_clashPairs, .ref o_reach, .ref o_latest])), (o_lit, .inl (cI, 96, .inl s_lit)), (o_whole, .inl (cI, 8, .inl (upd s_whole t1.toNatClampNeg t0))), (o_ends, .inl (cI, 8, .inl s_ends)), (o_credits, .inr (0, [.ref o_credits_cells])), (o_credits_cells, .inl (cI, 82, .inl s_credits_cells))]) ⟨hx, hb, hml, hown, ht⟩ (c_X2_nextBar l dC dI cI cJ  H.size (x3 + x4) r_3 _ hw) (va_cwS 2 ht (g_S k_392 k_393 k_3 k_394) rfl rfl rfl (by decide +kernel) ⟨(Nat.le_of_ble_eq_true rfl), (Nat.le_of_ble_eq_true rfl)⟩) hK hP hD hS hA [] [0, 1, 2, 3, 4, 5] rfl rfl (by decide) rfl hl.1 rfl (Nat.le_of_ble_eq_true rfl) ⟨(Nat.le_of_ble_eq_true rfl), (Nat.le_of_ble_eq_true rfl)⟩ dX2_finish_118 (fun r_4 u H locs hw hP hD hS => ?_)
    try dsimp only at hw
    have hP : va_P (dC, dI) vwCl [(o, .inr (2, [.ref o_credits, .ref o_light, .ref o_lit, .ref o_whole, .ref o_ends, .ref o_clashes, .int s_clashPairs, .ref o_reach, .ref o_latest])), (o_lit, .inl (cI, 96, .inl s_lit)), (o_whole, .inl (cI, 8, .inl (upd s_whole t1.toNatClampNeg t0))), (o_ends, .inl (cI, 8, .inl s_ends)), (o_credits, .inr (0, [.ref o_credits_cells])), (o_credits_cells, .inl (cI, 82, .inl s_credits_cells))] H := hP
    have hD : va_D A [(o, .inr (2, [.ref o_credits, .ref o_light, .ref o_lit, .ref o_whole, .ref o_ends, .ref o_clashes, .int s_clashPairs, .ref o_reach, .ref o_latest])), (o_lit, .inl (cI, 96, .inl s_lit)), (o_whole, .inl (cI, 8, .inl (upd s_whole t1.toNatClampNeg t0))), (o_ends, .inl (cI, 8, .inl s_ends)), (o_credits, .inr (0, [.ref o_credits_cells])), (o_credits_cells, .inl (cI, 82, .inl s_credits_cells))] := hD
    obtain ⟨hi_5, hw⟩ := hw
    refine gv_iast hx hb hK hP hD hS 3 0 rfl rfl rfl hi_5 dX2_finish_121 (fun H locs hP hD hS => ?_)
    have hP : va_P (dC, dI) vwCl [(o, .inr (2, [.ref o_credits, .ref o_light, .ref o_lit, .ref o_whole, .ref o_ends, .ref o_clashes, .int s_clashPairs, .ref o_reach, .ref o_latest])), (o_lit, .inl (cI, 96, .inl s_lit)), (o_whole, .inl (cI, 8, .inl (upd s_whole t1.toNatClampNeg t0))), (o_ends, .inl (cI, 8, .inl (upd s_ends x1.toNatClampNeg r_4))), (o_credits, .inr (0, [.ref o_credits_cells])), (o_credits_cells, .inl (cI, 82, .inl s_credits_cells))] H := hP
    have hD : va_D A [(o, .inr (2, [.ref o_credits, .ref o_light, .ref o_lit, .ref o_whole, .ref o_ends, .ref o_clashes, .int s_clashPairs, .ref o_reach, .ref o_latest])), (o_lit, .inl (cI, 96, .inl s_lit)), (o_whole, .inl (cI, 8, .inl (upd s_whole t1.toNatClampNeg t0))), (o_ends, .inl (cI, 8, .inl (upd s_ends x1.toNatClampNeg r_4))), (o_credits, .inr (0, [.ref o_credits_cells])), (o_credits_cells, .inl (cI, 82, .inl s_credits_cells))] := hD
    rw [← hQQ]
    exact g_retv (u := ((upd s_whole t1.toNatClampNeg t0), (upd s_ends x1.toNatClampNeg r_4))) hx hb hr hlocks hw (hP.sub (ws' := [(o, .inr (2, [.ref o_credits, .ref o_light, .ref o_lit, .ref o_whole, .ref o_ends, .ref o_clashes, .int s_clashPairs, .ref o_reach, .ref o_latest])), (o_credits, .inr (0, [.ref o_credits_cells])), (o_credits_cells, .inl (cI, 82, .inl s_credits_cells)), (o_lit, .inl (cI, 96, .inl s_lit)), (o_whole, .inl (cI, 8, .inl (upd s_whole t1.toNatClampNeg t0))), (o_ends, .inl (cI, 8, .inl (upd s_ends x1.toNatClampNeg r_4)))]) [0, 4, 5, 1, 2, 3] rfl) hK (hD.sub (ws' := [(o, .inr (2, [.ref o_credits, .ref o_light, .ref o_lit, .ref o_whole, .ref o_ends, .ref o_clashes, .int s_clashPairs, .ref o_reach, .ref o_latest])), (o_credits, .inr (0, [.ref o_credits_cells])), (o_credits_cells, .inl (cI, 82, .inl s_credits_cells)), (o_lit, .inl (cI, 96, .inl s_lit)), (o_whole, .inl (cI, 8, .inl (upd s_whole t1.toNatClampNeg t0))), (o_ends, .inl (cI, 8, .inl (upd s_ends x1.toNatClampNeg r_4)))]) [0, 4, 5, 1, 2, 3] (by decide) rfl) hS dX2_finish_122
  obtain ⟨H, hHH⟩ : ∃ H, H = s.heap := ⟨_, rfl⟩
  rw [← hHH] at hP ⊢
  have hS : va_S A s.heap H [] := by rw [hHH]; exact hS
  clear hHH
  generalize ([] : List Loc) = locs at hS ⊢
  unfold P_X2_finish at hw
  refine lv_iload_n hx hb dX2_finish_0 rfl (lv_at hl 1 rfl) ?_
  refine lv_if_lt (tgt := 22) hx hb dX2_finish_1 (by decide) (fun hc => ?_) (fun hc => ?_)
  · have hw := hw.1 hc
    rw [← hQQ]
    exact g_retv (u := (s_whole, s_ends)) hx hb hr hlocks hw hP hK hD hS dX2_finish_22
  · have hw := hw.2 hc
    refine lv_iload_n hx hb dX2_finish_4 rfl (lv_at hl 1 rfl) ?_
    refine lv_aload_n hx hb dX2_finish_5 rfl (lv_at hl 0 rfl) ?_
    refine va_get (D := (dC, dI)) (ci := 2) (v := .ref o_whole) (C := RX2) (T := TX2) (N := 9) hx hb ht i_X2 hown hK hP 0 rfl rfl 3 (by decide) (ht _ k_42) (fun _ h9 => h9) rfl dX2_finish_6 ?_
    refine va_alen (v := 8) hx hb hK hP 4 0 rfl rfl rfl dX2_finish_9 ?_
    refine lv_icmp_ge (tgt := 22) hx hb dX2_finish_10 (by decide) (fun hc => ?_) (fun hc => ?_)
    · have hw := hw.1 hc
      rw [← hQQ]
      exact g_retv (u := (s_whole, s_ends)) hx hb hr hlocks hw hP hK hD hS dX2_finish_22
    · have hw := hw.2 hc
      refine lv_iload_n hx hb dX2_finish_13 rfl (lv_at hl 1 rfl) ?_
      refine lv_aload_n hx hb dX2_finish_14 rfl (lv_at hl 0 rfl) ?_
      refine va_get (D := (dC, dI)) (ci := 2) (v := .ref o_ends) (C := RX2) (T := TX2) (N := 9) hx hb ht i_X2 hown hK hP 0 rfl rfl 4 (by decide) (ht _ k_43) (fun _ h9 => h9) rfl dX2_finish_15 ?_
      refine va_alen (v := 8) hx hb hK hP 5 0 rfl rfl rfl dX2_finish_18 ?_
      refine lv_icmp_lt (tgt := 23) hx hb dX2_finish_19 (by decide) (fun hc => ?_) (fun hc => ?_)
      · have hw := hw.1 hc
        refine lv_iconst (v := 0) hx hb dX2_finish_23 (by decide) ?_
        refine lv_istore_n (lv' := [(3, .int 0), (0, .ref o), (1, .int p0), (2, .int p1)]) hx hb dX2_finish_24 rfl hl (by decide) rfl (fun ls hl => ?_)
        refine lv_iconst (v := 0) hx hb dX2_finish_25 (by decide) ?_
        refine lv_istore (lv' := [(4, .int 0), (3, .int 0), (0, .ref o), (1, .int p0), (2, .int p1)]) hx hb dX2_finish_26 hl (by decide) rfl (fun ls hl => ?_)
        obtain ⟨n, hw⟩ := hw
        refine L28 p0 p1 _ (fun x3_6 hw H locs ls hP hD hS hl => ?_) n 0 0 hw H locs ls hP hD hS (lv_sub (l' := [(0, .ref o), (1, .int p0), (2, .int p1), (3, .int 0), (4, .int 0)]) hl [2, 3, 4, 1, 0] rfl)
        refine lv_aload_n hx hb dX2_finish_68 rfl (lv_at hl 0 rfl) ?_
        refine va_get (D := (dC, dI)) (ci := 2) (v := .ref o_credits) (C := RX2) (T := TX2) (N := 9) hx hb ht i_X2 hown hK hP 0 rfl rfl 0 (by decide) (ht _ k_39) (fun _ h9 => h9) rfl dX2_finish_69 ?_
        refine lv_iload_n hx hb dX2_finish_72 rfl (lv_at hl 1 rfl) ?_
        refine lv_iconst (v := 5) hx hb dX2_finish_73 (by decide) ?_
        refine gc_Vi (As := [.int p0, .int 5]) (rest := []) (wr := [(o, .inr (2, [.ref o_credits, .ref o_light, .ref o_lit, .ref o_whole, .ref o_ends, .ref o_clashes, .int s_clashPairs, .ref o_reach, .ref o_latest])), (o_lit, .inl (cI, 96, .inl s_lit)), (o_whole, .inl (cI, 8, .inl s_whole)), (o_ends, .inl (cI, 8, .inl s_ends))]) ⟨hx, hb, hml, hown, ht⟩ (c_X0_ofWord l dC dI cI cJ o_credits o_credits_cells H.size s_credits_cells p0 5 _ hw) (cwV 2 ht (g_V k_214 k_202 k_203 k_2 k_204) rfl rfl rfl (by decide +kernel) ⟨(Nat.le_of_ble_eq_true rfl), (Nat.le_of_ble_eq_true rfl)⟩) hK hP hD hS hA [1, 2] [0, 3, 4, 5] rfl rfl (by decide) 1 rfl rfl rfl rfl hl.1 rfl (Nat.le_of_ble_eq_true rfl) ⟨(Nat.le_of_ble_eq_true rfl), (Nat.le_of_ble_eq_true rfl)⟩ dX2_finish_74 (fun r_7 u H locs hw hP hD hS => ?_)
        try dsimp only at hw
        have hP : va_P (dC, dI) vwCl [(o, .inr (2, [.ref o_credits, .ref o_light, .ref o_lit, .ref o_whole, .ref o_ends, .ref o_clashes, .int s_clashPairs, .ref o_reach, .ref o_latest])), (o_lit, .inl (cI, 96, .inl s_lit)), (o_whole, .inl (cI, 8, .inl s_whole)), (o_ends, .inl (cI, 8, .inl s_ends)), (o_credits, .inr (0, [.ref o_credits_cells])), (o_credits_cells, .inl (cI, 82, .inl s_credits_cells))] H := hP
        have hD : va_D A [(o, .inr (2, [.ref o_credits, .ref o_light, .ref o_lit, .ref o_whole, .ref o_ends, .ref o_clashes, .int s_clashPairs, .ref o_reach, .ref o_latest])), (o_lit, .inl (cI, 96, .inl s_lit)), (o_whole, .inl (cI, 8, .inl s_whole)), (o_ends, .inl (cI, 8, .inl s_ends)), (o_credits, .inr (0, [.ref o_credits_cells])), (o_credits_cells, .inl (cI, 82, .inl s_credits_cells))] := hD
        refine lv_iconst (v := 1) hx hb dX2_finish_77 (by decide) ?_
        refine va_mmax hx hb (hml.trans hl.1.symm) hown (ht _ k_231) (ht _ k_232) (ht _ k_9) (ht _ k_233) (Nat.le_of_ble_eq_true rfl) (Nat.le_of_ble_eq_true rfl) (Nat.zero_le _) (Nat.zero_le _) dX2_finish_78 ?_
        refine lv_istore (lv' := [(4, .int (if r_7 < 1 then 1 else r_7)), (0, .ref o), (1, .int p0), (3, .int x3_6)]) hx hb dX2_finish_81 hl (by decide) rfl (fun ls hl => ?_)
        refine lv_aload_n hx hb dX2_finish_83 rfl (lv_at hl 1 rfl) ?_
        refine va_get (D := (dC, dI)) (ci := 2) (v := .ref o_whole) (C := RX2) (T := TX2) (N := 9) hx hb ht i_X2 hown hK hP 0 rfl rfl 3 (by decide) (ht _ k_42) (fun _ h9 => h9) rfl dX2_finish_84 ?_
        refine lv_iload_n hx hb dX2_finish_87 rfl (lv_at hl 2 rfl) ?_
        refine lv_iload_n hx hb dX2_finish_88 rfl (lv_at hl 3 rfl) ?_
        refine lv_sipush (v := 200) hx hb dX2_finish_89 (by decide) ?_
        refine lv_icmp_ge (tgt := 99) hx hb dX2_finish_92 (by decide) (fun hc => ?_) (fun hc => ?_)
        · have hw := hw.1 hc
          refine lv_iconst (v := (-1)) hx hb dX2_finish_99 (by decide) ?_
          exact J100 p0 x3_6 (if r_7 < 1 then 1 else r_7) (-1) p0 hw H locs ls (hP.sub (ws' := [(o, .inr (2, [.ref o_credits, .ref o_light, .ref o_lit, .ref o_whole, .ref o_ends, .ref o_clashes, .int s_clashPairs, .ref o_reach, .ref o_latest])), (o_credits, .inr (0, [.ref o_credits_cells])), (o_credits_cells, .inl (cI, 82, .inl s_credits_cells)), (o_lit, .inl (cI, 96, .inl s_lit)), (o_whole, .inl (cI, 8, .inl s_whole)), (o_ends, .inl (cI, 8, .inl s_ends))]) [0, 4, 5, 1, 2, 3] rfl) (hD.sub (ws' := [(o, .inr (2, [.ref o_credits, .ref o_light, .ref o_lit, .ref o_whole, .ref o_ends, .ref o_clashes, .int s_clashPairs, .ref o_reach, .ref o_latest])), (o_credits, .inr (0, [.ref o_credits_cells])), (o_credits_cells, .inl (cI, 82, .inl s_credits_cells)), (o_lit, .inl (cI, 96, .inl s_lit)), (o_whole, .inl (cI, 8, .inl s_whole)), (o_ends, .inl (cI, 8, .inl s_ends))]) [0, 4, 5, 1, 2, 3] (by decide) rfl) hS (lv_sub (l' := [(0, .ref o), (1, .int p0), (3, .int x3_6), (4, .int (if r_7 < 1 then 1 else r_7))]) hl [1, 2, 3, 0] rfl)
        · have hw := hw.2 hc
          refine lv_iload_n hx hb dX2_finish_95 rfl (lv_at hl 3 rfl) ?_
          refine lv_goto (tgt := 100) hx hb dX2_finish_96 (by decide) ?_
          exact J100 p0 x3_6 (if r_7 < 1 then 1 else r_7) x3_6 p0 hw H locs ls (hP.sub (ws' := [(o, .inr (2, [.ref o_credits, .ref o_light, .ref o_lit, .ref o_whole, .ref o_ends, .ref o_clashes, .int s_clashPairs, .ref o_reach, .ref o_latest])), (o_credits, .inr (0, [.ref o_credits_cells])), (o_credits_cells, .inl (cI, 82, .inl s_credits_cells)), (o_lit, .inl (cI, 96, .inl s_lit)), (o_whole, .inl (cI, 8, .inl s_whole)), (o_ends, .inl (cI, 8, .inl s_ends))]) [0, 4, 5, 1, 2, 3] rfl) (hD.sub (ws' := [(o, .inr (2, [.ref o_credits, .ref o_light, .ref o_lit, .ref o_whole, .ref o_ends, .ref o_clashes, .int s_clashPairs, .ref o_reach, .ref o_latest])), (o_credits, .inr (0, [.ref o_credits_cells])), (o_credits_cells, .inl (cI, 82, .inl s_credits_cells)), (o_lit, .inl (cI, 96, .inl s_lit)), (o_whole, .inl (cI, 8, .inl s_whole)), (o_ends, .inl (cI, 8, .inl s_ends))]) [0, 4, 5, 1, 2, 3] (by decide) rfl) hS (lv_sub (l' := [(0, .ref o), (1, .int p0), (3, .int x3_6), (4, .int (if r_7 < 1 then 1 else r_7))]) hl [1, 2, 3, 0] rfl)
      · have hw := hw.2 hc
        rw [← hQQ]
        exact g_retv (u := (s_whole, s_ends)) hx hb hr hlocks hw hP hK hD hS dX2_finish_22
abbrev rm_X2_putLit : Room := { frames := 0, cells := 0, slots := 0, locals := 0 }
set_option maxHeartbeats 4000000 in
set_option maxRecDepth 100000 in
theorem c_X2_putLit (l : Launch) (dC : Nat → ClassId) (dI : Nat → Nat → Nat) (cI cJ : ClassId) (o o_credits o_light o_lit o_whole o_ends o_clashes o_reach o_latest : Nat) (sz : Nat) (s_lit : Nat → Int32) (s_clashPairs : Int32) (p0 : Int32) (p1 : Int32) (p2 : Int32) (Q : (Nat → Int32) → Prop) (hw : P_X2_putLit p0 p1 p2 s_lit Q) : Met l yX2_putLit (Cond.code yX2_putLit cX2_putLit 6 none :: TBL) rm_X2_putLit (gPc (dC, dI) vwCl (gTy cI cJ) [.ref o, .int p0, .int p1, .int p2] [(o, .inr (2, [.ref o_credits, .ref o_light, .ref o_lit, .ref o_whole, .ref o_ends, .ref o_clashes, .int s_clashPairs, .ref o_reach, .ref o_latest])), (o_lit, .inl (cI, 96, .inl s_lit))] sz) (va_Qv (fun (u : (Nat → Int32)) => Q u) (gB (dC, dI) vwCl (gTy cI cJ) (va_A [(o, .inr (2, [.ref o_credits, .ref o_light, .ref o_lit, .ref o_whole, .ref o_ends, .ref o_clashes, .int s_clashPairs, .ref o_reach, .ref o_latest])), (o_lit, .inl (cI, 96, .inl s_lit))] sz) (fun (u : (Nat → Int32)) => [(o, .inr (2, [.ref o_credits, .ref o_light, .ref o_lit, .ref o_whole, .ref o_ends, .ref o_clashes, .int s_clashPairs, .ref o_reach, .ref o_latest])), (o_lit, .inl (cI, 96, .inl u))])) (va_A [(o, .inr (2, [.ref o_credits, .ref o_light, .ref o_lit, .ref o_whole, .ref o_ends, .ref o_clashes, .int s_clashPairs, .ref o_reach, .ref o_latest])), (o_lit, .inl (cI, 96, .inl s_lit))] sz)) 0 0 (va_A [(o, .inr (2, [.ref o_credits, .ref o_light, .ref o_lit, .ref o_whole, .ref o_ends, .ref o_clashes, .int s_clashPairs, .ref o_reach, .ref o_latest])), (o_lit, .inl (cI, 96, .inl s_lit))] sz) := by
  refine Met.ofW (cc := cX2_putLit) (maxL := 6) (ret := none) (by decide) rfl ?_
  intro p e s m args below meth c s₁ B hml hv
  obtain ⟨rfl, hsz, hP, hK, hD0⟩ := hv
  have hx := B.exec
  have hb := B.bytes
  have hr := B.returns
  have hts := atoms_spec (ws := Cond.code yX2_putLit cX2_putLit 6 none :: TBL) B.pre
  have ht : ∀ w ∈ TBL, w.before ([.ref o, .int p0, .int p1, .int p2] : List Value).toArray s = true := fun w h => hts w (List.mem_cons_of_mem _ h)
  clear hts
  have hown : s.vm.findClass RX2 = some m.cls := findClass_of_methodNamed B.named
  have hlocks := B.notSynchronized
  clear B
  subst hsz
  have hD := hD0.self (sz := s.heap.size)
  clear hD0
  generalize hAe : va_A [(o, .inr (2, [.ref o_credits, .ref o_light, .ref o_lit, .ref o_whole, .ref o_ends, .ref o_clashes, .int s_clashPairs, .ref o_reach, .ref o_latest])), (o_lit, .inl (cI, 96, .inl s_lit))] s.heap.size = A at hD ⊢
  have hA : ∀ q : Nat, s.heap.size ≤ q → A q := fun q h => by rw [← hAe]; exact Or.inr h
  clear hAe
  have hS : va_S A s.heap s.heap [] := va_S.rf
  have hP : va_P (dC, dI) vwCl [(o, .inr (2, [.ref o_credits, .ref o_light, .ref o_lit, .ref o_whole, .ref o_ends, .ref o_clashes, .int s_clashPairs, .ref o_reach, .ref o_latest])), (o_lit, .inl (cI, 96, .inl s_lit))] s.heap := hP
  have hl := lv_entry ([.ref o, .int p0, .int p1, .int p2]) (n := 6) (Nat.le_of_ble_eq_true rfl)
  rw [lg_entry_eq]
  generalize (lg_sl ([.ref o, .int p0, .int p1, .int p2]) ++ List.replicate (6 - (lg_sl ([.ref o, .int p0, .int p1, .int p2])).length) Slot.unset).toArray = ls at hl ⊢
  have hl : lv_has ls 6 [(0, .ref o), (1, .int p0), (2, .int p1), (3, .int p2)] := hl
  generalize hQQ : MQ below _ _ _ 0 0 A = QQ
  show W p l e rm_X2_putLit s m ([.ref o, .int p0, .int p1, .int p2] : List Value).toArray below meth c s.heap [] 0 0 QQ (F0 m 0 ls [])
  have L3 : ∀ (x1 : Int32) (x2 : Int32) (x3 : Int32), ∀ (n : Nat) (x4 : Int32) (s_lit : Nat → Int32), P_X2_putLit_L3 x1 x2 x3 Q n x4 s_lit → ∀ (H : Heap) (locs : List Loc) (ls : Array Slot), va_P (dC, dI) vwCl [(o, .inr (2, [.ref o_credits, .ref o_light, .ref o_lit, .ref o_whole, .ref o_ends, .ref o_clashes, .int s_clashPairs, .ref o_reach, .ref o_latest])), (o_lit, .inl (cI, 96, .inl s_lit))] H → va_D A [(o, .inr (2, [.ref o_credits, .ref o_light, .ref o_lit, .ref o_whole, .ref o_ends, .ref o_clashes, .int s_clashPairs, .ref o_reach, .ref o_latest])), (o_lit, .inl (cI, 96, .inl s_lit))] → va_S A s.heap H locs → lv_has ls 6 [(0, .ref o), (1, .int x1), (2, .int x2), (3, .int x3), (4, .int x4)] → W p l e rm_X2_putLit s m ([.ref o, .int p0, .int p1, .int p2] : List Value).toArray below meth c H locs 0 0 QQ (F0 m 3 ls []) := by
    intro x1 x2 x3
    intro n
    induction n with
    | zero => intro x4 s_lit hw; rw [P_X2_putLit_L3_z] at hw; exact hw.elim
    | succ n ih =>
      intro x4 s_lit hw
      rw [P_X2_putLit_L3_s] at hw
      generalize hrec : P_X2_putLit_L3 x1 x2 x3 Q n = rec3 at ih hw
      have J56 : ∀ (x4 : Int32) (s_lit : Nat → Int32), P_X2_putLit_J56 rec3 x4 s_lit → ∀ (H : Heap) (locs : List Loc) (ls : Array Slot), va_P (dC, dI) vwCl [(o, .inr (2, [.ref o_credits, .ref o_light, .ref o_lit, .ref o_whole, .ref o_ends, .ref o_clashes, .int s_clashPairs, .ref o_reach, .ref o_latest])), (o_lit, .inl (cI, 96, .inl s_lit))] H → va_D A [(o, .inr (2, [.ref o_credits, .ref o_light, .ref o_lit, .ref o_whole, .ref o_ends, .ref o_clashes, .int s_clashPairs, .ref o_reach, .ref o_latest])), (o_lit, .inl (cI, 96, .inl s_lit))] → va_S A s.heap H locs → lv_has ls 6 [(0, .ref o), (1, .int x1), (2, .int x2), (3, .int x3), (4, .int x4)] → W p l e rm_X2_putLit s m ([.ref o, .int p0, .int p1, .int p2] : List Value).toArray below meth c H locs 0 0 QQ (F0 m 56 ls []) := by
        intro x4 s_lit hw H locs ls hP hD hS hl
        unfold P_X2_putLit_J56 at hw
        refine lv_iinc (v := (x4 + 1)) (lv' := [(4, .int (x4 + 1)), (0, .ref o), (1, .int x1), (2, .int x2), (3, .int x3)]) hx hb dX2_putLit_56 hl (k := 4) rfl rfl (by decide) rfl (fun ls hl => ?_)
        refine lv_goto (tgt := 3) hx hb dX2_putLit_59 (by decide) ?_
        exact ih (x4 + 1) s_lit hw H locs ls hP hD hS (lv_sub (l' := [(0, .ref o), (1, .int x1), (2, .int x2), (3, .int x3), (4, .int (x4 + 1))]) hl [1, 2, 3, 4, 0] rfl)
      intro H locs ls hP hD hS hl
      unfold B_X2_putLit_L3 at hw
      refine lv_iload hx hb dX2_putLit_3 (lv_at hl 4 rfl) ?_
      refine lv_bipush (v := 12) hx hb dX2_putLit_5 (by decide) ?_
      refine lv_icmp_ge (tgt := 62) hx hb dX2_putLit_7 (by decide) (fun hc => ?_) (fun hc => ?_)
      · have hw := hw.1 hc
        rw [← hQQ]
        exact g_retv (u := s_lit) hx hb hr hlocks hw hP hK hD hS dX2_putLit_62
      · have hw := hw.2 hc
        refine lv_iload_n hx hb dX2_putLit_10 rfl (lv_at hl 2 rfl) ?_
        refine lv_if_eq (tgt := 62) hx hb dX2_putLit_11 (by decide) (fun hc => ?_) (fun hc => ?_)
        · have hw := hw.1 hc
          rw [← hQQ]
          exact g_retv (u := s_lit) hx hb hr hlocks hw hP hK hD hS dX2_putLit_62
        · have hw := hw.2 hc
          refine lv_iload_n hx hb dX2_putLit_14 rfl (lv_at hl 1 rfl) ?_
          refine lv_bipush (v := 12) hx hb dX2_putLit_15 (by decide) ?_
          refine lv_imul hx hb dX2_putLit_17 ?_
          refine lv_iload hx hb dX2_putLit_18 (lv_at hl 4 rfl) ?_
          refine lv_iadd hx hb dX2_putLit_20 ?_
          refine lv_istore (lv' := [(5, .int ((x1 * 12) + x4)), (0, .ref o), (1, .int x1), (2, .int x2), (3, .int x3), (4, .int x4)]) hx hb dX2_putLit_21 hl (by decide) rfl (fun ls hl => ?_)
          refine lv_iload_n hx hb dX2_putLit_23 rfl (lv_at hl 3 rfl) ?_
          refine lv_iload hx hb dX2_putLit_24 (lv_at hl 5 rfl) ?_
          refine lv_ishr hx hb dX2_putLit_26 ?_
          refine lv_iconst (v := 1) hx hb dX2_putLit_27 (by decide) ?_
          refine lv_iand hx hb dX2_putLit_28 ?_
          refine lv_iconst (v := 1) hx hb dX2_putLit_29 (by decide) ?_
          refine lv_icmp_ne (tgt := 56) hx hb dX2_putLit_30 (by decide) (fun hc => ?_) (fun hc => ?_)
          · have hw := hw.1 hc
            exact J56 x4 s_lit hw H locs ls hP hD hS (lv_sub (l' := [(0, .ref o), (1, .int x1), (2, .int x2), (3, .int x3), (4, .int x4)]) hl [1, 2, 3, 4, 5] rfl)
          · have hw := hw.2 hc
            refine lv_iload hx hb dX2_putLit_33 (lv_at hl 0 rfl) ?_
            refine lv_if_lt (tgt := 56) hx hb dX2_putLit_35 (by decide) (fun hc => ?_) (fun hc => ?_)
            · have hw := hw.1 hc
              exact J56 x4 s_lit hw H locs ls hP hD hS (lv_sub (l' := [(0, .ref o), (1, .int x1), (2, .int x2), (3, .int x3), (4, .int x4)]) hl [1, 2, 3, 4, 5] rfl)
            · have hw := hw.2 hc
              refine lv_iload hx hb dX2_putLit_38 (lv_at hl 0 rfl) ?_
              refine lv_aload_n hx hb dX2_putLit_40 rfl (lv_at hl 1 rfl) ?_
              refine va_get (D := (dC, dI)) (ci := 2) (v := .ref o_lit) (C := RX2) (T := TX2) (N := 9) hx hb ht i_X2 hown hK hP 0 rfl rfl 2 (by decide) (ht _ k_41) (fun _ h9 => h9) rfl dX2_putLit_41 ?_
              refine va_alen (v := 96) hx hb hK hP 1 0 rfl rfl rfl dX2_putLit_44 ?_
              refine lv_icmp_ge (tgt := 56) hx hb dX2_putLit_45 (by decide) (fun hc => ?_) (fun hc => ?_)
              · have hw := hw.1 hc
                exact J56 x4 s_lit hw H locs ls hP hD hS (lv_sub (l' := [(0, .ref o), (1, .int x1), (2, .int x2), (3, .int x3), (4, .int x4)]) hl [1, 2, 3, 4, 5] rfl)
              · have hw := hw.2 hc
                refine lv_aload_n hx hb dX2_putLit_48 rfl (lv_at hl 1 rfl) ?_
                refine va_get (D := (dC, dI)) (ci := 2) (v := .ref o_lit) (C := RX2) (T := TX2) (N := 9) hx hb ht i_X2 hown hK hP 0 rfl rfl 2 (by decide) (ht _ k_41) (fun _ h9 => h9) rfl dX2_putLit_49 ?_
                refine lv_iload hx hb dX2_putLit_52 (lv_at hl 0 rfl) ?_
                refine lv_iload_n hx hb dX2_putLit_54 rfl (lv_at hl 4 rfl) ?_
                obtain ⟨hi_1, hw⟩ := hw
                refine gv_iast hx hb hK hP hD hS 1 0 rfl rfl rfl hi_1 dX2_putLit_55 (fun H locs hP hD hS => ?_)
                have hP : va_P (dC, dI) vwCl [(o, .inr (2, [.ref o_credits, .ref o_light, .ref o_lit, .ref o_whole, .ref o_ends, .ref o_clashes, .int s_clashPairs, .ref o_reach, .ref o_latest])), (o_lit, .inl (cI, 96, .inl (upd s_lit (((x1 * 12) + x4).toNatClampNeg) x3)))] H := hP
                have hD : va_D A [(o, .inr (2, [.ref o_credits, .ref o_light, .ref o_lit, .ref o_whole, .ref o_ends, .ref o_clashes, .int s_clashPairs, .ref o_reach, .ref o_latest])), (o_lit, .inl (cI, 96, .inl (upd s_lit (((x1 * 12) + x4).toNatClampNeg) x3)))] := hD
                exact J56 x4 (upd s_lit (((x1 * 12) + x4).toNatClampNeg) x3) hw H locs ls hP hD hS (lv_sub (l' := [(0, .ref o), (1, .int x1), (2, .int x2), (3, .int x3), (4, .int x4)]) hl [1, 2, 3, 4, 5] rfl)
  obtain ⟨H, hHH⟩ : ∃ H, H = s.heap := ⟨_, rfl⟩
  rw [← hHH] at hP ⊢
  have hS : va_S A s.heap H [] := by rw [hHH]; exact hS
  clear hHH
  generalize ([] : List Loc) = locs at hS ⊢
  unfold P_X2_putLit at hw
  refine lv_iconst (v := 0) hx hb dX2_putLit_0 (by decide) ?_
  refine lv_istore (lv' := [(4, .int 0), (0, .ref o), (1, .int p0), (2, .int p1), (3, .int p2)]) hx hb dX2_putLit_1 hl (by decide) rfl (fun ls hl => ?_)
  obtain ⟨n, hw⟩ := hw
  exact L3 p0 p1 p2 n 0 s_lit hw H locs ls hP hD hS (lv_sub (l' := [(0, .ref o), (1, .int p0), (2, .int p1), (3, .int p2), (4, .int 0)]) hl [1, 2, 3, 4, 0] rfl)
abbrev rm_X2_lightEach : Room := { frames := 1, cells := 0, slots := 0, locals := 25 }
set_option maxHeartbeats 4000000 in
set_option maxRecDepth 100000 in
theorem c_X2_lightEach (l : Launch) (dC : Nat → ClassId) (dI : Nat → Nat → Nat) (cI cJ : ClassId) (o o_credits o_light o_lit o_whole o_ends o_clashes o_reach o_latest : Nat) (sz : Nat) (s_lit : Nat → Int32) (s_reach : Nat → Int32) (s_clashPairs : Int32) (p0 : Int32) (p1 : Int32) (Q : (Nat → Int32) → Prop) (hw : P_X2_lightEach p0 p1 s_lit s_reach Q) : Met l yX2_lightEach (Cond.code yX2_lightEach cX2_lightEach 6 none :: TBL) rm_X2_lightEach (gPc (dC, dI) vwCl (gTy cI cJ) [.ref o, .int p0, .int p1] [(o, .inr (2, [.ref o_credits, .ref o_light, .ref o_lit, .ref o_whole, .ref o_ends, .ref o_clashes, .int s_clashPairs, .ref o_reach, .ref o_latest])), (o_lit, .inl (cI, 96, .inl s_lit)), (o_reach, .inl (cI, 200, .inl s_reach))] sz) (va_Qv (fun (u : (Nat → Int32)) => Q u) (gB (dC, dI) vwCl (gTy cI cJ) (va_A [(o, .inr (2, [.ref o_credits, .ref o_light, .ref o_lit, .ref o_whole, .ref o_ends, .ref o_clashes, .int s_clashPairs, .ref o_reach, .ref o_latest])), (o_lit, .inl (cI, 96, .inl s_lit)), (o_reach, .inl (cI, 200, .inl s_reach))] sz) (fun (u : (Nat → Int32)) => [(o, .inr (2, [.ref o_credits, .ref o_light, .ref o_lit, .ref o_whole, .ref o_ends, .ref o_clashes, .int s_clashPairs, .ref o_reach, .ref o_latest])), (o_lit, .inl (cI, 96, .inl u)), (o_reach, .inl (cI, 200, .inl s_reach))])) (va_A [(o, .inr (2, [.ref o_credits, .ref o_light, .ref o_lit, .ref o_whole, .ref o_ends, .ref o_clashes, .int s_clashPairs, .ref o_reach, .ref o_latest])), (o_lit, .inl (cI, 96, .inl s_lit)), (o_reach, .inl (cI, 200, .inl s_reach))] sz)) 0 0 (va_A [(o, .inr (2, [.ref o_credits, .ref o_light, .ref o_lit, .ref o_whole, .ref o_ends, .ref o_clashes, .int s_clashPairs, .ref o_reach, .ref o_latest])), (o_lit, .inl (cI, 96, .inl s_lit)), (o_reach, .inl (cI, 200, .inl s_reach))] sz) := by
  refine Met.ofW (cc := cX2_lightEach) (maxL := 6) (ret := none) (by decide) rfl ?_
  intro p e s m args below meth c s₁ B hml hv
  obtain ⟨rfl, hsz, hP, hK, hD0⟩ := hv
  have hx := B.exec
  have hb := B.bytes
  have hr := B.returns
  have hts := atoms_spec (ws := Cond.code yX2_lightEach cX2_lightEach 6 none :: TBL) B.pre
  have ht : ∀ w ∈ TBL, w.before ([.ref o, .int p0, .int p1] : List Value).toArray s = true := fun w h => hts w (List.mem_cons_of_mem _ h)
  clear hts
  have hown : s.vm.findClass RX2 = some m.cls := findClass_of_methodNamed B.named
  have hlocks := B.notSynchronized
  clear B
  subst hsz
  have hD := hD0.self (sz := s.heap.size)
  clear hD0
  generalize hAe : va_A [(o, .inr (2, [.ref o_credits, .ref o_light, .ref o_lit, .ref o_whole, .ref o_ends, .ref o_clashes, .int s_clashPairs, .ref o_reach, .ref o_latest])), (o_lit, .inl (cI, 96, .inl s_lit)), (o_reach, .inl (cI, 200, .inl s_reach))] s.heap.size = A at hD ⊢
  have hA : ∀ q : Nat, s.heap.size ≤ q → A q := fun q h => by rw [← hAe]; exact Or.inr h
  clear hAe
  have hS : va_S A s.heap s.heap [] := va_S.rf
  have hP : va_P (dC, dI) vwCl [(o, .inr (2, [.ref o_credits, .ref o_light, .ref o_lit, .ref o_whole, .ref o_ends, .ref o_clashes, .int s_clashPairs, .ref o_reach, .ref o_latest])), (o_lit, .inl (cI, 96, .inl s_lit)), (o_reach, .inl (cI, 200, .inl s_reach))] s.heap := hP
  have hl := lv_entry ([.ref o, .int p0, .int p1]) (n := 6) (Nat.le_of_ble_eq_true rfl)
  rw [lg_entry_eq]
  generalize (lg_sl ([.ref o, .int p0, .int p1]) ++ List.replicate (6 - (lg_sl ([.ref o, .int p0, .int p1])).length) Slot.unset).toArray = ls at hl ⊢
  have hl : lv_has ls 6 [(0, .ref o), (1, .int p0), (2, .int p1)] := hl
  generalize hQQ : MQ below _ _ _ 0 0 A = QQ
  show W p l e rm_X2_lightEach s m ([.ref o, .int p0, .int p1] : List Value).toArray below meth c s.heap [] 0 0 QQ (F0 m 0 ls [])
  have L8 : ∀ (x1 : Int32), ∀ (n : Nat) (x3 : Int32) (x4 : Int32) (s_lit : Nat → Int32), P_X2_lightEach_L8 x1 s_reach Q n x3 x4 s_lit → ∀ (H : Heap) (locs : List Loc) (ls : Array Slot), va_P (dC, dI) vwCl [(o, .inr (2, [.ref o_credits, .ref o_light, .ref o_lit, .ref o_whole, .ref o_ends, .ref o_clashes, .int s_clashPairs, .ref o_reach, .ref o_latest])), (o_lit, .inl (cI, 96, .inl s_lit)), (o_reach, .inl (cI, 200, .inl s_reach))] H → va_D A [(o, .inr (2, [.ref o_credits, .ref o_light, .ref o_lit, .ref o_whole, .ref o_ends, .ref o_clashes, .int s_clashPairs, .ref o_reach, .ref o_latest])), (o_lit, .inl (cI, 96, .inl s_lit)), (o_reach, .inl (cI, 200, .inl s_reach))] → va_S A s.heap H locs → lv_has ls 6 [(0, .ref o), (1, .int x1), (3, .int x3), (4, .int x4)] → W p l e rm_X2_lightEach s m ([.ref o, .int p0, .int p1] : List Value).toArray below meth c H locs 0 0 QQ (F0 m 8 ls []) := by
    intro x1
    intro n
    induction n with
    | zero => intro x3 x4 s_lit hw; rw [P_X2_lightEach_L8_z] at hw; exact hw.elim
    | succ n ih =>
      intro x3 x4 s_lit hw
      rw [P_X2_lightEach_L8_s] at hw
      generalize hrec : P_X2_lightEach_L8 x1 s_reach Q n = rec8 at ih hw
      intro H locs ls hP hD hS hl
      unfold B_X2_lightEach_L8 at hw
      refine lv_iload hx hb dX2_lightEach_8 (lv_at hl 3 rfl) ?_
      refine lv_sipush (v := 200) hx hb dX2_lightEach_10 (by decide) ?_
      refine lv_icmp_ge (tgt := 51) hx hb dX2_lightEach_13 (by decide) (fun hc => ?_) (fun hc => ?_)
      · have hw := hw.1 hc
        rw [← hQQ]
        exact g_retv (u := s_lit) hx hb hr hlocks hw hP hK hD hS dX2_lightEach_51
      · have hw := hw.2 hc
        refine lv_iload_n hx hb dX2_lightEach_16 rfl (lv_at hl 2 rfl) ?_
        refine lv_if_eq (tgt := 51) hx hb dX2_lightEach_17 (by decide) (fun hc => ?_) (fun hc => ?_)
        · have hw := hw.1 hc
          rw [← hQQ]
          exact g_retv (u := s_lit) hx hb hr hlocks hw hP hK hD hS dX2_lightEach_51
        · have hw := hw.2 hc
          refine lv_aload_n hx hb dX2_lightEach_20 rfl (lv_at hl 0 rfl) ?_
          refine va_get (D := (dC, dI)) (ci := 2) (v := .ref o_reach) (C := RX2) (T := TX2) (N := 9) hx hb ht i_X2 hown hK hP 0 rfl rfl 7 (by decide) (ht _ k_46) (fun _ h9 => h9) rfl dX2_lightEach_21 ?_
          refine lv_iload hx hb dX2_lightEach_24 (lv_at hl 3 rfl) ?_
          obtain ⟨hi_1, hw⟩ := hw
          refine gv_iald hx hb hK hP 2 0 rfl rfl rfl hi_1 dX2_lightEach_26 ?_
          refine lv_iload_n hx hb dX2_lightEach_27 rfl (lv_at hl 2 rfl) ?_
          refine lv_iand hx hb dX2_lightEach_28 ?_
          refine lv_istore (lv' := [(5, .int ((s_reach x4.toNatClampNeg) &&& x3)), (0, .ref o), (1, .int x1), (3, .int x3), (4, .int x4)]) hx hb dX2_lightEach_29 hl (by decide) rfl (fun ls hl => ?_)
          refine lv_aload_n hx hb dX2_lightEach_31 rfl (lv_at hl 1 rfl) ?_
          refine lv_iload_n hx hb dX2_lightEach_32 rfl (lv_at hl 2 rfl) ?_
          refine lv_iload hx hb dX2_lightEach_33 (lv_at hl 0 rfl) ?_
          refine lv_iload hx hb dX2_lightEach_35 (lv_at hl 4 rfl) ?_
          refine gc_Vv (As := [.int x1, .int ((s_reach x4.toNatClampNeg) &&& x3), .int x4]) (rest := []) (wr := [(o_reach, .inl (cI, 200, .inl s_reach))]) ⟨hx, hb, hml, hown, ht⟩ (c_X2_putLit l dC dI cI cJ o o_credits o_light o_lit o_whole o_ends o_clashes o_reach o_latest H.size s_lit s_clashPairs x1 ((s_reach x4.toNatClampNeg) &&& x3) x4 _ hw) (cwV 3 ht (g_V k_364 k_366 k_s7 k_3 k_367) rfl rfl rfl (by decide +kernel) ⟨(Nat.le_of_ble_eq_true rfl), (Nat.le_of_ble_eq_true rfl)⟩) hK hP hD hS hA [0, 1] [2] rfl rfl (by decide) 0 rfl rfl rfl rfl hl.1 rfl (Nat.le_of_ble_eq_true rfl) ⟨(Nat.le_of_ble_eq_true rfl), (Nat.le_of_ble_eq_true rfl)⟩ dX2_lightEach_37 (fun u H locs hw hP hD hS => ?_)
          obtain ⟨s_lit_2, rfl⟩ : ∃ z, z = u := ⟨_, rfl⟩
          try dsimp only at hw
          have hP : va_P (dC, dI) vwCl [(o_reach, .inl (cI, 200, .inl s_reach)), (o, .inr (2, [.ref o_credits, .ref o_light, .ref o_lit, .ref o_whole, .ref o_ends, .ref o_clashes, .int s_clashPairs, .ref o_reach, .ref o_latest])), (o_lit, .inl (cI, 96, .inl s_lit_2))] H := hP
          have hD : va_D A [(o_reach, .inl (cI, 200, .inl s_reach)), (o, .inr (2, [.ref o_credits, .ref o_light, .ref o_lit, .ref o_whole, .ref o_ends, .ref o_clashes, .int s_clashPairs, .ref o_reach, .ref o_latest])), (o_lit, .inl (cI, 96, .inl s_lit_2))] := hD
          refine lv_iload_n hx hb dX2_lightEach_40 rfl (lv_at hl 3 rfl) ?_
          refine lv_iload hx hb dX2_lightEach_41 (lv_at hl 0 rfl) ?_
          refine lv_isub hx hb dX2_lightEach_43 ?_
          refine lv_istore_n (lv' := [(3, .int (x3 - ((s_reach x4.toNatClampNeg) &&& x3))), (5, .int ((s_reach x4.toNatClampNeg) &&& x3)), (0, .ref o), (1, .int x1), (4, .int x4)]) hx hb dX2_lightEach_44 rfl hl (by decide) rfl (fun ls hl => ?_)
          refine lv_iinc (v := (x4 + 1)) (lv' := [(4, .int (x4 + 1)), (3, .int (x3 - ((s_reach x4.toNatClampNeg) &&& x3))), (5, .int ((s_reach x4.toNatClampNeg) &&& x3)), (0, .ref o), (1, .int x1)]) hx hb dX2_lightEach_45 hl (k := 4) rfl rfl (by decide) rfl (fun ls hl => ?_)
          refine lv_goto (tgt := 8) hx hb dX2_lightEach_48 (by decide) ?_
          exact ih (x3 - ((s_reach x4.toNatClampNeg) &&& x3)) (x4 + 1) s_lit_2 hw H locs ls (hP.sub (ws' := [(o, .inr (2, [.ref o_credits, .ref o_light, .ref o_lit, .ref o_whole, .ref o_ends, .ref o_clashes, .int s_clashPairs, .ref o_reach, .ref o_latest])), (o_lit, .inl (cI, 96, .inl s_lit_2)), (o_reach, .inl (cI, 200, .inl s_reach))]) [1, 2, 0] rfl) (hD.sub (ws' := [(o, .inr (2, [.ref o_credits, .ref o_light, .ref o_lit, .ref o_whole, .ref o_ends, .ref o_clashes, .int s_clashPairs, .ref o_reach, .ref o_latest])), (o_lit, .inl (cI, 96, .inl s_lit_2)), (o_reach, .inl (cI, 200, .inl s_reach))]) [1, 2, 0] (by decide) rfl) hS (lv_sub (l' := [(0, .ref o), (1, .int x1), (3, .int (x3 - ((s_reach x4.toNatClampNeg) &&& x3))), (4, .int (x4 + 1))]) hl [3, 4, 1, 0] rfl)
  obtain ⟨H, hHH⟩ : ∃ H, H = s.heap := ⟨_, rfl⟩
  rw [← hHH] at hP ⊢
  have hS : va_S A s.heap H [] := by rw [hHH]; exact hS
  clear hHH
  generalize ([] : List Loc) = locs at hS ⊢
  unfold P_X2_lightEach at hw
  refine lv_iload_n hx hb dX2_lightEach_0 rfl (lv_at hl 2 rfl) ?_
  refine gc_Si (As := [.int p1]) (rest := []) (wr := [(o, .inr (2, [.ref o_credits, .ref o_light, .ref o_lit, .ref o_whole, .ref o_ends, .ref o_clashes, .int s_clashPairs, .ref o_reach, .ref o_latest])), (o_lit, .inl (cI, 96, .inl s_lit)), (o_reach, .inl (cI, 200, .inl s_reach))]) ⟨hx, hb, hml, hown, ht⟩ (c_X2_allOf l dC dI cI cJ  H.size p1 _ hw) (va_cwS 1 ht (g_S k_361 k_362 k_3 k_363) rfl rfl rfl (by decide +kernel) ⟨(Nat.le_of_ble_eq_true rfl), (Nat.le_of_ble_eq_true rfl)⟩) hK hP hD hS hA [] [0, 1, 2] rfl rfl (by decide) rfl hl.1 rfl (Nat.le_of_ble_eq_true rfl) ⟨(Nat.le_of_ble_eq_true rfl), (Nat.le_of_ble_eq_true rfl)⟩ dX2_lightEach_1 (fun r_3 u H locs hw hP hD hS => ?_)
  try dsimp only at hw
  have hP : va_P (dC, dI) vwCl [(o, .inr (2, [.ref o_credits, .ref o_light, .ref o_lit, .ref o_whole, .ref o_ends, .ref o_clashes, .int s_clashPairs, .ref o_reach, .ref o_latest])), (o_lit, .inl (cI, 96, .inl s_lit)), (o_reach, .inl (cI, 200, .inl s_reach))] H := hP
  have hD : va_D A [(o, .inr (2, [.ref o_credits, .ref o_light, .ref o_lit, .ref o_whole, .ref o_ends, .ref o_clashes, .int s_clashPairs, .ref o_reach, .ref o_latest])), (o_lit, .inl (cI, 96, .inl s_lit)), (o_reach, .inl (cI, 200, .inl s_reach))] := hD
  refine lv_istore_n (lv' := [(3, .int r_3), (0, .ref o), (1, .int p0), (2, .int p1)]) hx hb dX2_lightEach_4 rfl hl (by decide) rfl (fun ls hl => ?_)
  refine lv_iconst (v := 0) hx hb dX2_lightEach_5 (by decide) ?_
  refine lv_istore (lv' := [(4, .int 0), (3, .int r_3), (0, .ref o), (1, .int p0), (2, .int p1)]) hx hb dX2_lightEach_6 hl (by decide) rfl (fun ls hl => ?_)
  obtain ⟨n, hw⟩ := hw
  exact L8 p0 n r_3 0 s_lit hw H locs ls hP hD hS (lv_sub (l' := [(0, .ref o), (1, .int p0), (3, .int r_3), (4, .int 0)]) hl [2, 3, 1, 0] rfl)
abbrev rm_X2_lightInTurn : Room := { frames := 1, cells := 0, slots := 0, locals := 25 }
set_option maxHeartbeats 4000000 in
set_option maxRecDepth 100000 in
theorem c_X2_lightInTurn (l : Launch) (dC : Nat → ClassId) (dI : Nat → Nat → Nat) (cI cJ : ClassId) (o o_credits o_light o_lit o_whole o_ends o_clashes o_reach o_latest : Nat) (sz : Nat) (s_lit : Nat → Int32) (s_reach : Nat → Int32) (s_clashPairs : Int32) (p0 : Int32) (p1 : Int32) (Q : (Nat → Int32) → Prop) (hw : P_X2_lightInTurn p0 p1 s_lit s_reach Q) : Met l yX2_lightInTurn (Cond.code yX2_lightInTurn cX2_lightInTurn 5 none :: TBL) rm_X2_lightInTurn (gPc (dC, dI) vwCl (gTy cI cJ) [.ref o, .int p0, .int p1] [(o, .inr (2, [.ref o_credits, .ref o_light, .ref o_lit, .ref o_whole, .ref o_ends, .ref o_clashes, .int s_clashPairs, .ref o_reach, .ref o_latest])), (o_lit, .inl (cI, 96, .inl s_lit)), (o_reach, .inl (cI, 200, .inl s_reach))] sz) (va_Qv (fun (u : (Nat → Int32)) => Q u) (gB (dC, dI) vwCl (gTy cI cJ) (va_A [(o, .inr (2, [.ref o_credits, .ref o_light, .ref o_lit, .ref o_whole, .ref o_ends, .ref o_clashes, .int s_clashPairs, .ref o_reach, .ref o_latest])), (o_lit, .inl (cI, 96, .inl s_lit)), (o_reach, .inl (cI, 200, .inl s_reach))] sz) (fun (u : (Nat → Int32)) => [(o, .inr (2, [.ref o_credits, .ref o_light, .ref o_lit, .ref o_whole, .ref o_ends, .ref o_clashes, .int s_clashPairs, .ref o_reach, .ref o_latest])), (o_lit, .inl (cI, 96, .inl u)), (o_reach, .inl (cI, 200, .inl s_reach))])) (va_A [(o, .inr (2, [.ref o_credits, .ref o_light, .ref o_lit, .ref o_whole, .ref o_ends, .ref o_clashes, .int s_clashPairs, .ref o_reach, .ref o_latest])), (o_lit, .inl (cI, 96, .inl s_lit)), (o_reach, .inl (cI, 200, .inl s_reach))] sz)) 0 0 (va_A [(o, .inr (2, [.ref o_credits, .ref o_light, .ref o_lit, .ref o_whole, .ref o_ends, .ref o_clashes, .int s_clashPairs, .ref o_reach, .ref o_latest])), (o_lit, .inl (cI, 96, .inl s_lit)), (o_reach, .inl (cI, 200, .inl s_reach))] sz) := by
  refine Met.ofW (cc := cX2_lightInTurn) (maxL := 5) (ret := none) (by decide) rfl ?_
  intro p e s m args below meth c s₁ B hml hv
  obtain ⟨rfl, hsz, hP, hK, hD0⟩ := hv
  have hx := B.exec
  have hb := B.bytes
  have hr := B.returns
  have hts := atoms_spec (ws := Cond.code yX2_lightInTurn cX2_lightInTurn 5 none :: TBL) B.pre
  have ht : ∀ w ∈ TBL, w.before ([.ref o, .int p0, .int p1] : List Value).toArray s = true := fun w h => hts w (List.mem_cons_of_mem _ h)
  clear hts
  have hown : s.vm.findClass RX2 = some m.cls := findClass_of_methodNamed B.named
  have hlocks := B.notSynchronized
  clear B
  subst hsz
  have hD := hD0.self (sz := s.heap.size)
  clear hD0
  generalize hAe : va_A [(o, .inr (2, [.ref o_credits, .ref o_light, .ref o_lit, .ref o_whole, .ref o_ends, .ref o_clashes, .int s_clashPairs, .ref o_reach, .ref o_latest])), (o_lit, .inl (cI, 96, .inl s_lit)), (o_reach, .inl (cI, 200, .inl s_reach))] s.heap.size = A at hD ⊢
  have hA : ∀ q : Nat, s.heap.size ≤ q → A q := fun q h => by rw [← hAe]; exact Or.inr h
  clear hAe
  have hS : va_S A s.heap s.heap [] := va_S.rf
  have hP : va_P (dC, dI) vwCl [(o, .inr (2, [.ref o_credits, .ref o_light, .ref o_lit, .ref o_whole, .ref o_ends, .ref o_clashes, .int s_clashPairs, .ref o_reach, .ref o_latest])), (o_lit, .inl (cI, 96, .inl s_lit)), (o_reach, .inl (cI, 200, .inl s_reach))] s.heap := hP
  have hl := lv_entry ([.ref o, .int p0, .int p1]) (n := 5) (Nat.le_of_ble_eq_true rfl)
  rw [lg_entry_eq]
  generalize (lg_sl ([.ref o, .int p0, .int p1]) ++ List.replicate (5 - (lg_sl ([.ref o, .int p0, .int p1])).length) Slot.unset).toArray = ls at hl ⊢
  have hl : lv_has ls 5 [(0, .ref o), (1, .int p0), (2, .int p1)] := hl
  generalize hQQ : MQ below _ _ _ 0 0 A = QQ
  show W p l e rm_X2_lightInTurn s m ([.ref o, .int p0, .int p1] : List Value).toArray below meth c s.heap [] 0 0 QQ (F0 m 0 ls [])
  have L5 : ∀ (x1 : Int32) (x2 : Int32), ∀ (n : Nat) (x3 : Int32) (x4 : Int32) (s_lit : Nat → Int32), P_X2_lightInTurn_L5 x1 x2 s_reach Q n x3 x4 s_lit → ∀ (H : Heap) (locs : List Loc) (ls : Array Slot), va_P (dC, dI) vwCl [(o, .inr (2, [.ref o_credits, .ref o_light, .ref o_lit, .ref o_whole, .ref o_ends, .ref o_clashes, .int s_clashPairs, .ref o_reach, .ref o_latest])), (o_lit, .inl (cI, 96, .inl s_lit)), (o_reach, .inl (cI, 200, .inl s_reach))] H → va_D A [(o, .inr (2, [.ref o_credits, .ref o_light, .ref o_lit, .ref o_whole, .ref o_ends, .ref o_clashes, .int s_clashPairs, .ref o_reach, .ref o_latest])), (o_lit, .inl (cI, 96, .inl s_lit)), (o_reach, .inl (cI, 200, .inl s_reach))] → va_S A s.heap H locs → lv_has ls 5 [(0, .ref o), (1, .int x1), (2, .int x2), (3, .int x3), (4, .int x4)] → W p l e rm_X2_lightInTurn s m ([.ref o, .int p0, .int p1] : List Value).toArray below meth c H locs 0 0 QQ (F0 m 5 ls []) := by
    intro x1 x2
    intro n
    induction n with
    | zero => intro x3 x4 s_lit hw; rw [P_X2_lightInTurn_L5_z] at hw; exact hw.elim
    | succ n ih =>
      intro x3 x4 s_lit hw
      rw [P_X2_lightInTurn_L5_s] at hw
      generalize hrec : P_X2_lightInTurn_L5 x1 x2 s_reach Q n = rec5 at ih hw
      have L18 : ∀ (x1 : Int32) (x2 : Int32) (x4 : Int32) (K18_54 : Int32 → (Nat → Int32) → Prop), (∀ (x3 : Int32) (s_lit : Nat → Int32), K18_54 x3 s_lit → ∀ (H : Heap) (locs : List Loc) (ls : Array Slot), va_P (dC, dI) vwCl [(o, .inr (2, [.ref o_credits, .ref o_light, .ref o_lit, .ref o_whole, .ref o_ends, .ref o_clashes, .int s_clashPairs, .ref o_reach, .ref o_latest])), (o_lit, .inl (cI, 96, .inl s_lit)), (o_reach, .inl (cI, 200, .inl s_reach))] H → va_D A [(o, .inr (2, [.ref o_credits, .ref o_light, .ref o_lit, .ref o_whole, .ref o_ends, .ref o_clashes, .int s_clashPairs, .ref o_reach, .ref o_latest])), (o_lit, .inl (cI, 96, .inl s_lit)), (o_reach, .inl (cI, 200, .inl s_reach))] → va_S A s.heap H locs → lv_has ls 5 [(0, .ref o), (1, .int x1), (2, .int x2), (3, .int x3), (4, .int x4)] → W p l e rm_X2_lightInTurn s m ([.ref o, .int p0, .int p1] : List Value).toArray below meth c H locs 0 0 QQ (F0 m 54 ls [])) → ∀ (n : Nat) (x3 : Int32) (s_lit : Nat → Int32), P_X2_lightInTurn_L18 x1 x2 x4 s_reach K18_54 n x3 s_lit → ∀ (H : Heap) (locs : List Loc) (ls : Array Slot), va_P (dC, dI) vwCl [(o, .inr (2, [.ref o_credits, .ref o_light, .ref o_lit, .ref o_whole, .ref o_ends, .ref o_clashes, .int s_clashPairs, .ref o_reach, .ref o_latest])), (o_lit, .inl (cI, 96, .inl s_lit)), (o_reach, .inl (cI, 200, .inl s_reach))] H → va_D A [(o, .inr (2, [.ref o_credits, .ref o_light, .ref o_lit, .ref o_whole, .ref o_ends, .ref o_clashes, .int s_clashPairs, .ref o_reach, .ref o_latest])), (o_lit, .inl (cI, 96, .inl s_lit)), (o_reach, .inl (cI, 200, .inl s_reach))] → va_S A s.heap H locs → lv_has ls 5 [(0, .ref o), (1, .int x1), (2, .int x2), (3, .int x3), (4, .int x4)] → W p l e rm_X2_lightInTurn s m ([.ref o, .int p0, .int p1] : List Value).toArray below meth c H locs 0 0 QQ (F0 m 18 ls []) := by
        intro x1 x2 x4 K18_54 hK18_54
        intro n
        induction n with
        | zero => intro x3 s_lit hw; rw [P_X2_lightInTurn_L18_z] at hw; exact hw.elim
        | succ n ih =>
          intro x3 s_lit hw
          rw [P_X2_lightInTurn_L18_s] at hw
          generalize hrec : P_X2_lightInTurn_L18 x1 x2 x4 s_reach K18_54 n = rec18 at ih hw
          intro H locs ls hP hD hS hl
          unfold B_X2_lightInTurn_L18 at hw
          refine lv_iload_n hx hb dX2_lightInTurn_18 rfl (lv_at hl 3 rfl) ?_
          refine lv_iload_n hx hb dX2_lightInTurn_19 rfl (lv_at hl 2 rfl) ?_
          refine lv_icmp_ge (tgt := 54) hx hb dX2_lightInTurn_20 (by decide) (fun hc => ?_) (fun hc => ?_)
          · have hw := hw.1 hc
            exact hK18_54 x3 s_lit hw H locs ls hP hD hS hl
          · have hw := hw.2 hc
            refine lv_aload_n hx hb dX2_lightInTurn_23 rfl (lv_at hl 0 rfl) ?_
            refine va_get (D := (dC, dI)) (ci := 2) (v := .ref o_reach) (C := RX2) (T := TX2) (N := 9) hx hb ht i_X2 hown hK hP 0 rfl rfl 7 (by decide) (ht _ k_46) (fun _ h9 => h9) rfl dX2_lightInTurn_24 ?_
            refine lv_iload hx hb dX2_lightInTurn_27 (lv_at hl 4 rfl) ?_
            obtain ⟨hi_1, hw⟩ := hw
            refine gv_iald hx hb hK hP 2 0 rfl rfl rfl hi_1 dX2_lightInTurn_29 ?_
            refine lv_iload_n hx hb dX2_lightInTurn_30 rfl (lv_at hl 3 rfl) ?_
            refine lv_ishr hx hb dX2_lightInTurn_31 ?_
            refine lv_iconst (v := 1) hx hb dX2_lightInTurn_32 (by decide) ?_
            refine lv_iand hx hb dX2_lightInTurn_33 ?_
            refine lv_iconst (v := 1) hx hb dX2_lightInTurn_34 (by decide) ?_
            refine lv_icmp_ne (tgt := 54) hx hb dX2_lightInTurn_35 (by decide) (fun hc => ?_) (fun hc => ?_)
            · have hw := hw.1 hc
              exact hK18_54 x3 s_lit hw H locs ls hP hD hS hl
            · have hw := hw.2 hc
              refine lv_aload_n hx hb dX2_lightInTurn_38 rfl (lv_at hl 0 rfl) ?_
              refine lv_iload_n hx hb dX2_lightInTurn_39 rfl (lv_at hl 1 rfl) ?_
              refine lv_iconst (v := 1) hx hb dX2_lightInTurn_40 (by decide) ?_
              refine lv_iload_n hx hb dX2_lightInTurn_41 rfl (lv_at hl 3 rfl) ?_
              refine lv_ishl hx hb dX2_lightInTurn_42 ?_
              refine lv_iload hx hb dX2_lightInTurn_43 (lv_at hl 4 rfl) ?_
              refine gc_Vv (As := [.int x1, .int (1 <<< (x3 &&& 31)), .int x4]) (rest := []) (wr := [(o_reach, .inl (cI, 200, .inl s_reach))]) ⟨hx, hb, hml, hown, ht⟩ (c_X2_putLit l dC dI cI cJ o o_credits o_light o_lit o_whole o_ends o_clashes o_reach o_latest H.size s_lit s_clashPairs x1 (1 <<< (x3 &&& 31)) x4 _ hw) (cwV 3 ht (g_V k_364 k_366 k_s7 k_3 k_367) rfl rfl rfl (by decide +kernel) ⟨(Nat.le_of_ble_eq_true rfl), (Nat.le_of_ble_eq_true rfl)⟩) hK hP hD hS hA [0, 1] [2] rfl rfl (by decide) 0 rfl rfl rfl rfl hl.1 rfl (Nat.le_of_ble_eq_true rfl) ⟨(Nat.le_of_ble_eq_true rfl), (Nat.le_of_ble_eq_true rfl)⟩ dX2_lightInTurn_45 (fun u H locs hw hP hD hS => ?_)
              obtain ⟨s_lit_2, rfl⟩ : ∃ z, z = u := ⟨_, rfl⟩
              try dsimp only at hw
              have hP : va_P (dC, dI) vwCl [(o_reach, .inl (cI, 200, .inl s_reach)), (o, .inr (2, [.ref o_credits, .ref o_light, .ref o_lit, .ref o_whole, .ref o_ends, .ref o_clashes, .int s_clashPairs, .ref o_reach, .ref o_latest])), (o_lit, .inl (cI, 96, .inl s_lit_2))] H := hP
              have hD : va_D A [(o_reach, .inl (cI, 200, .inl s_reach)), (o, .inr (2, [.ref o_credits, .ref o_light, .ref o_lit, .ref o_whole, .ref o_ends, .ref o_clashes, .int s_clashPairs, .ref o_reach, .ref o_latest])), (o_lit, .inl (cI, 96, .inl s_lit_2))] := hD
              refine lv_iinc (v := (x3 + 1)) (lv' := [(3, .int (x3 + 1)), (0, .ref o), (1, .int x1), (2, .int x2), (4, .int x4)]) hx hb dX2_lightInTurn_48 hl (k := 3) rfl rfl (by decide) rfl (fun ls hl => ?_)
              refine lv_goto (tgt := 18) hx hb dX2_lightInTurn_51 (by decide) ?_
              exact ih (x3 + 1) s_lit_2 hw H locs ls (hP.sub (ws' := [(o, .inr (2, [.ref o_credits, .ref o_light, .ref o_lit, .ref o_whole, .ref o_ends, .ref o_clashes, .int s_clashPairs, .ref o_reach, .ref o_latest])), (o_lit, .inl (cI, 96, .inl s_lit_2)), (o_reach, .inl (cI, 200, .inl s_reach))]) [1, 2, 0] rfl) (hD.sub (ws' := [(o, .inr (2, [.ref o_credits, .ref o_light, .ref o_lit, .ref o_whole, .ref o_ends, .ref o_clashes, .int s_clashPairs, .ref o_reach, .ref o_latest])), (o_lit, .inl (cI, 96, .inl s_lit_2)), (o_reach, .inl (cI, 200, .inl s_reach))]) [1, 2, 0] (by decide) rfl) hS (lv_sub (l' := [(0, .ref o), (1, .int x1), (2, .int x2), (3, .int (x3 + 1)), (4, .int x4)]) hl [1, 2, 3, 0, 4] rfl)
      intro H locs ls hP hD hS hl
      unfold B_X2_lightInTurn_L5 at hw
      refine lv_iload hx hb dX2_lightInTurn_5 (lv_at hl 4 rfl) ?_
      refine lv_sipush (v := 200) hx hb dX2_lightInTurn_7 (by decide) ?_
      refine lv_icmp_ge (tgt := 60) hx hb dX2_lightInTurn_10 (by decide) (fun hc => ?_) (fun hc => ?_)
      · have hw := hw.1 hc
        rw [← hQQ]
        exact g_retv (u := s_lit) hx hb hr hlocks hw hP hK hD hS dX2_lightInTurn_60
      · have hw := hw.2 hc
        refine lv_iload_n hx hb dX2_lightInTurn_13 rfl (lv_at hl 3 rfl) ?_
        refine lv_iload_n hx hb dX2_lightInTurn_14 rfl (lv_at hl 2 rfl) ?_
        refine lv_icmp_ge (tgt := 60) hx hb dX2_lightInTurn_15 (by decide) (fun hc => ?_) (fun hc => ?_)
        · have hw := hw.1 hc
          rw [← hQQ]
          exact g_retv (u := s_lit) hx hb hr hlocks hw hP hK hD hS dX2_lightInTurn_60
        · have hw := hw.2 hc
          obtain ⟨n, hw⟩ := hw
          refine L18 x1 x2 x4 _ (fun x3_3 s_lit_4 hw H locs ls hP hD hS hl => ?_) n x3 s_lit hw H locs ls hP hD hS hl
          refine lv_iinc (v := (x4 + 1)) (lv' := [(4, .int (x4 + 1)), (0, .ref o), (1, .int x1), (2, .int x2), (3, .int x3_3)]) hx hb dX2_lightInTurn_54 hl (k := 4) rfl rfl (by decide) rfl (fun ls hl => ?_)
          refine lv_goto (tgt := 5) hx hb dX2_lightInTurn_57 (by decide) ?_
          exact ih x3_3 (x4 + 1) s_lit_4 hw H locs ls hP hD hS (lv_sub (l' := [(0, .ref o), (1, .int x1), (2, .int x2), (3, .int x3_3), (4, .int (x4 + 1))]) hl [1, 2, 3, 4, 0] rfl)
  obtain ⟨H, hHH⟩ : ∃ H, H = s.heap := ⟨_, rfl⟩
  rw [← hHH] at hP ⊢
  have hS : va_S A s.heap H [] := by rw [hHH]; exact hS
  clear hHH
  generalize ([] : List Loc) = locs at hS ⊢
  unfold P_X2_lightInTurn at hw
  refine lv_iconst (v := 0) hx hb dX2_lightInTurn_0 (by decide) ?_
  refine lv_istore_n (lv' := [(3, .int 0), (0, .ref o), (1, .int p0), (2, .int p1)]) hx hb dX2_lightInTurn_1 rfl hl (by decide) rfl (fun ls hl => ?_)
  refine lv_iconst (v := 0) hx hb dX2_lightInTurn_2 (by decide) ?_
  refine lv_istore (lv' := [(4, .int 0), (3, .int 0), (0, .ref o), (1, .int p0), (2, .int p1)]) hx hb dX2_lightInTurn_3 hl (by decide) rfl (fun ls hl => ?_)
  obtain ⟨n, hw⟩ := hw
  exact L5 p0 p1 n 0 0 s_lit hw H locs ls hP hD hS (lv_sub (l' := [(0, .ref o), (1, .int p0), (2, .int p1), (3, .int 0), (4, .int 0)]) hl [2, 3, 4, 1, 0] rfl)
abbrev rm_X2_oldestReach : Room := { frames := 0, cells := 0, slots := 0, locals := 0 }
set_option maxHeartbeats 4000000 in
set_option maxRecDepth 100000 in
theorem c_X2_oldestReach (l : Launch) (dC : Nat → ClassId) (dI : Nat → Nat → Nat) (cI cJ : ClassId) (o o_credits o_light o_lit o_whole o_ends o_clashes o_reach o_latest : Nat) (sz : Nat) (s_latest : Nat → Int32) (s_clashPairs : Int32) (p0 : Int32) (p1 : Int32) (p2 : Int32) (Q : Int32 → (Nat → Int32) → Prop) (hw : P_X2_oldestReach p0 p1 p2 s_latest Q) : Met l yX2_oldestReach (Cond.code yX2_oldestReach cX2_oldestReach 6 (some .int) :: TBL) rm_X2_oldestReach (gPc (dC, dI) vwCl (gTy cI cJ) [.ref o, .int p0, .int p1, .int p2] [(o, .inr (2, [.ref o_credits, .ref o_light, .ref o_lit, .ref o_whole, .ref o_ends, .ref o_clashes, .int s_clashPairs, .ref o_reach, .ref o_latest])), (o_latest, .inl (cI, 12, .inl s_latest))] sz) (va_Qi (fun (r : Int32) (u : (Nat → Int32)) => Q r u) (gB (dC, dI) vwCl (gTy cI cJ) (va_A [(o, .inr (2, [.ref o_credits, .ref o_light, .ref o_lit, .ref o_whole, .ref o_ends, .ref o_clashes, .int s_clashPairs, .ref o_reach, .ref o_latest])), (o_latest, .inl (cI, 12, .inl s_latest))] sz) (fun (u : (Nat → Int32)) => [(o, .inr (2, [.ref o_credits, .ref o_light, .ref o_lit, .ref o_whole, .ref o_ends, .ref o_clashes, .int s_clashPairs, .ref o_reach, .ref o_latest])), (o_latest, .inl (cI, 12, .inl u))])) (va_A [(o, .inr (2, [.ref o_credits, .ref o_light, .ref o_lit, .ref o_whole, .ref o_ends, .ref o_clashes, .int s_clashPairs, .ref o_reach, .ref o_latest])), (o_latest, .inl (cI, 12, .inl s_latest))] sz)) 0 0 (va_A [(o, .inr (2, [.ref o_credits, .ref o_light, .ref o_lit, .ref o_whole, .ref o_ends, .ref o_clashes, .int s_clashPairs, .ref o_reach, .ref o_latest])), (o_latest, .inl (cI, 12, .inl s_latest))] sz) := by
  refine Met.ofW (cc := cX2_oldestReach) (maxL := 6) (ret := (some .int)) (by decide) rfl ?_
  intro p e s m args below meth c s₁ B hml hv
  obtain ⟨rfl, hsz, hP, hK, hD0⟩ := hv
  have hx := B.exec
  have hb := B.bytes
  have hr := B.returns
  have hts := atoms_spec (ws := Cond.code yX2_oldestReach cX2_oldestReach 6 (some .int) :: TBL) B.pre
  have ht : ∀ w ∈ TBL, w.before ([.ref o, .int p0, .int p1, .int p2] : List Value).toArray s = true := fun w h => hts w (List.mem_cons_of_mem _ h)
  clear hts
  have hown : s.vm.findClass RX2 = some m.cls := findClass_of_methodNamed B.named
  have hlocks := B.notSynchronized
  clear B
  subst hsz
  have hD := hD0.self (sz := s.heap.size)
  clear hD0
  generalize hAe : va_A [(o, .inr (2, [.ref o_credits, .ref o_light, .ref o_lit, .ref o_whole, .ref o_ends, .ref o_clashes, .int s_clashPairs, .ref o_reach, .ref o_latest])), (o_latest, .inl (cI, 12, .inl s_latest))] s.heap.size = A at hD ⊢
  have hA : ∀ q : Nat, s.heap.size ≤ q → A q := fun q h => by rw [← hAe]; exact Or.inr h
  clear hAe
  have hS : va_S A s.heap s.heap [] := va_S.rf
  have hP : va_P (dC, dI) vwCl [(o, .inr (2, [.ref o_credits, .ref o_light, .ref o_lit, .ref o_whole, .ref o_ends, .ref o_clashes, .int s_clashPairs, .ref o_reach, .ref o_latest])), (o_latest, .inl (cI, 12, .inl s_latest))] s.heap := hP
  have hl := lv_entry ([.ref o, .int p0, .int p1, .int p2]) (n := 6) (Nat.le_of_ble_eq_true rfl)
  rw [lg_entry_eq]
  generalize (lg_sl ([.ref o, .int p0, .int p1, .int p2]) ++ List.replicate (6 - (lg_sl ([.ref o, .int p0, .int p1, .int p2])).length) Slot.unset).toArray = ls at hl ⊢
  have hl : lv_has ls 6 [(0, .ref o), (1, .int p0), (2, .int p1), (3, .int p2)] := hl
  generalize hQQ : MQ below _ _ _ 0 0 A = QQ
  show W p l e rm_X2_oldestReach s m ([.ref o, .int p0, .int p1, .int p2] : List Value).toArray below meth c s.heap [] 0 0 QQ (F0 m 0 ls [])
  have L6 : ∀ (x1 : Int32) (x2 : Int32) (x3 : Int32), ∀ (n : Nat) (x4 : Int32) (x5 : Int32) (s_latest : Nat → Int32), P_X2_oldestReach_L6 x1 x2 x3 Q n x4 x5 s_latest → ∀ (H : Heap) (locs : List Loc) (ls : Array Slot), va_P (dC, dI) vwCl [(o, .inr (2, [.ref o_credits, .ref o_light, .ref o_lit, .ref o_whole, .ref o_ends, .ref o_clashes, .int s_clashPairs, .ref o_reach, .ref o_latest])), (o_latest, .inl (cI, 12, .inl s_latest))] H → va_D A [(o, .inr (2, [.ref o_credits, .ref o_light, .ref o_lit, .ref o_whole, .ref o_ends, .ref o_clashes, .int s_clashPairs, .ref o_reach, .ref o_latest])), (o_latest, .inl (cI, 12, .inl s_latest))] → va_S A s.heap H locs → lv_has ls 6 [(0, .ref o), (1, .int x1), (2, .int x2), (3, .int x3), (4, .int x4), (5, .int x5)] → W p l e rm_X2_oldestReach s m ([.ref o, .int p0, .int p1, .int p2] : List Value).toArray below meth c H locs 0 0 QQ (F0 m 6 ls []) := by
    intro x1 x2 x3
    intro n
    induction n with
    | zero => intro x4 x5 s_latest hw; rw [P_X2_oldestReach_L6_z] at hw; exact hw.elim
    | succ n ih =>
      intro x4 x5 s_latest hw
      rw [P_X2_oldestReach_L6_s] at hw
      generalize hrec : P_X2_oldestReach_L6 x1 x2 x3 Q n = rec6 at ih hw
      have J64 : ∀ (x5 : Int32) (t0 : Int32) (s_latest : Nat → Int32), P_X2_oldestReach_J64 rec6 x5 t0 s_latest → ∀ (H : Heap) (locs : List Loc) (ls : Array Slot), va_P (dC, dI) vwCl [(o, .inr (2, [.ref o_credits, .ref o_light, .ref o_lit, .ref o_whole, .ref o_ends, .ref o_clashes, .int s_clashPairs, .ref o_reach, .ref o_latest])), (o_latest, .inl (cI, 12, .inl s_latest))] H → va_D A [(o, .inr (2, [.ref o_credits, .ref o_light, .ref o_lit, .ref o_whole, .ref o_ends, .ref o_clashes, .int s_clashPairs, .ref o_reach, .ref o_latest])), (o_latest, .inl (cI, 12, .inl s_latest))] → va_S A s.heap H locs → lv_has ls 6 [(0, .ref o), (1, .int x1), (2, .int x2), (3, .int x3), (5, .int x5)] → W p l e rm_X2_oldestReach s m ([.ref o, .int p0, .int p1, .int p2] : List Value).toArray below meth c H locs 0 0 QQ (F0 m 64 ls [.int t0]) := by
        intro x5 t0 s_latest hw H locs ls hP hD hS hl
        unfold P_X2_oldestReach_J64 at hw
        refine lv_istore (lv' := [(4, .int t0), (0, .ref o), (1, .int x1), (2, .int x2), (3, .int x3), (5, .int x5)]) hx hb dX2_oldestReach_64 hl (by decide) rfl (fun ls hl => ?_)
        refine lv_iinc (v := (x5 + 1)) (lv' := [(5, .int (x5 + 1)), (4, .int t0), (0, .ref o), (1, .int x1), (2, .int x2), (3, .int x3)]) hx hb dX2_oldestReach_66 hl (k := 5) rfl rfl (by decide) rfl (fun ls hl => ?_)
        refine lv_goto (tgt := 6) hx hb dX2_oldestReach_69 (by decide) ?_
        exact ih t0 (x5 + 1) s_latest hw H locs ls hP hD hS (lv_sub (l' := [(0, .ref o), (1, .int x1), (2, .int x2), (3, .int x3), (4, .int t0), (5, .int (x5 + 1))]) hl [2, 3, 4, 5, 1, 0] rfl)
      have J40 : ∀ (x4 : Int32) (x5 : Int32) (s_latest : Nat → Int32), P_X2_oldestReach_J40 rec6 x4 x5 s_latest → ∀ (H : Heap) (locs : List Loc) (ls : Array Slot), va_P (dC, dI) vwCl [(o, .inr (2, [.ref o_credits, .ref o_light, .ref o_lit, .ref o_whole, .ref o_ends, .ref o_clashes, .int s_clashPairs, .ref o_reach, .ref o_latest])), (o_latest, .inl (cI, 12, .inl s_latest))] H → va_D A [(o, .inr (2, [.ref o_credits, .ref o_light, .ref o_lit, .ref o_whole, .ref o_ends, .ref o_clashes, .int s_clashPairs, .ref o_reach, .ref o_latest])), (o_latest, .inl (cI, 12, .inl s_latest))] → va_S A s.heap H locs → lv_has ls 6 [(0, .ref o), (1, .int x1), (2, .int x2), (3, .int x3), (4, .int x4), (5, .int x5)] → W p l e rm_X2_oldestReach s m ([.ref o, .int p0, .int p1, .int p2] : List Value).toArray below meth c H locs 0 0 QQ (F0 m 40 ls []) := by
        intro x4 x5 s_latest hw H locs ls hP hD hS hl
        unfold P_X2_oldestReach_J40 at hw
        refine lv_aload_n hx hb dX2_oldestReach_40 rfl (lv_at hl 0 rfl) ?_
        refine va_get (D := (dC, dI)) (ci := 2) (v := .ref o_latest) (C := RX2) (T := TX2) (N := 9) hx hb ht i_X2 hown hK hP 0 rfl rfl 8 (by decide) (ht _ k_47) (fun _ h9 => h9) rfl dX2_oldestReach_41 ?_
        refine lv_iload hx hb dX2_oldestReach_44 (lv_at hl 5 rfl) ?_
        obtain ⟨hi_1, hw⟩ := hw
        refine gv_iald hx hb hK hP 1 0 rfl rfl rfl hi_1 dX2_oldestReach_46 ?_
        refine lv_iload hx hb dX2_oldestReach_47 (lv_at hl 4 rfl) ?_
        refine lv_icmp_ge (tgt := 62) hx hb dX2_oldestReach_49 (by decide) (fun hc => ?_) (fun hc => ?_)
        · have hw := hw.1 hc
          refine lv_iload hx hb dX2_oldestReach_62 (lv_at hl 4 rfl) ?_
          exact J64 x5 x4 s_latest hw H locs ls hP hD hS (lv_sub (l' := [(0, .ref o), (1, .int x1), (2, .int x2), (3, .int x3), (5, .int x5)]) hl [0, 1, 2, 3, 5] rfl)
        · have hw := hw.2 hc
          refine lv_aload_n hx hb dX2_oldestReach_52 rfl (lv_at hl 0 rfl) ?_
          refine va_get (D := (dC, dI)) (ci := 2) (v := .ref o_latest) (C := RX2) (T := TX2) (N := 9) hx hb ht i_X2 hown hK hP 0 rfl rfl 8 (by decide) (ht _ k_47) (fun _ h9 => h9) rfl dX2_oldestReach_53 ?_
          refine lv_iload hx hb dX2_oldestReach_56 (lv_at hl 5 rfl) ?_
          obtain ⟨hi_2, hw⟩ := hw
          refine gv_iald hx hb hK hP 1 0 rfl rfl rfl hi_2 dX2_oldestReach_58 ?_
          refine lv_goto (tgt := 64) hx hb dX2_oldestReach_59 (by decide) ?_
          exact J64 x5 (s_latest x5.toNatClampNeg) s_latest hw H locs ls hP hD hS (lv_sub (l' := [(0, .ref o), (1, .int x1), (2, .int x2), (3, .int x3), (5, .int x5)]) hl [0, 1, 2, 3, 5] rfl)
      intro H locs ls hP hD hS hl
      unfold B_X2_oldestReach_L6 at hw
      refine lv_iload hx hb dX2_oldestReach_6 (lv_at hl 5 rfl) ?_
      refine lv_iload_n hx hb dX2_oldestReach_8 rfl (lv_at hl 1 rfl) ?_
      refine lv_icmp_ge (tgt := 72) hx hb dX2_oldestReach_9 (by decide) (fun hc => ?_) (fun hc => ?_)
      · have hw := hw.1 hc
        refine lv_iload hx hb dX2_oldestReach_72 (lv_at hl 4 rfl) ?_
        rw [← hQQ]
        exact g_reti (v := x4) (u := s_latest) hx hb hr rfl hlocks hw hP hK hD hS dX2_oldestReach_74
      · have hw := hw.2 hc
        refine lv_iload hx hb dX2_oldestReach_12 (lv_at hl 5 rfl) ?_
        refine lv_aload_n hx hb dX2_oldestReach_14 rfl (lv_at hl 0 rfl) ?_
        refine va_get (D := (dC, dI)) (ci := 2) (v := .ref o_latest) (C := RX2) (T := TX2) (N := 9) hx hb ht i_X2 hown hK hP 0 rfl rfl 8 (by decide) (ht _ k_47) (fun _ h9 => h9) rfl dX2_oldestReach_15 ?_
        refine va_alen (v := 12) hx hb hK hP 1 0 rfl rfl rfl dX2_oldestReach_18 ?_
        refine lv_icmp_ge (tgt := 72) hx hb dX2_oldestReach_19 (by decide) (fun hc => ?_) (fun hc => ?_)
        · have hw := hw.1 hc
          refine lv_iload hx hb dX2_oldestReach_72 (lv_at hl 4 rfl) ?_
          rw [← hQQ]
          exact g_reti (v := x4) (u := s_latest) hx hb hr rfl hlocks hw hP hK hD hS dX2_oldestReach_74
        · have hw := hw.2 hc
          refine lv_iload_n hx hb dX2_oldestReach_22 rfl (lv_at hl 2 rfl) ?_
          refine lv_iload hx hb dX2_oldestReach_23 (lv_at hl 5 rfl) ?_
          refine lv_ishr hx hb dX2_oldestReach_25 ?_
          refine lv_iconst (v := 1) hx hb dX2_oldestReach_26 (by decide) ?_
          refine lv_iand hx hb dX2_oldestReach_27 ?_
          refine lv_iconst (v := 1) hx hb dX2_oldestReach_28 (by decide) ?_
          refine lv_icmp_ne (tgt := 40) hx hb dX2_oldestReach_29 (by decide) (fun hc => ?_) (fun hc => ?_)
          · have hw := hw.1 hc
            exact J40 x4 x5 s_latest hw H locs ls hP hD hS hl
          · have hw := hw.2 hc
            refine lv_aload_n hx hb dX2_oldestReach_32 rfl (lv_at hl 0 rfl) ?_
            refine va_get (D := (dC, dI)) (ci := 2) (v := .ref o_latest) (C := RX2) (T := TX2) (N := 9) hx hb ht i_X2 hown hK hP 0 rfl rfl 8 (by decide) (ht _ k_47) (fun _ h9 => h9) rfl dX2_oldestReach_33 ?_
            refine lv_iload hx hb dX2_oldestReach_36 (lv_at hl 5 rfl) ?_
            refine lv_iload_n hx hb dX2_oldestReach_38 rfl (lv_at hl 3 rfl) ?_
            obtain ⟨hi_3, hw⟩ := hw
            refine gv_iast hx hb hK hP hD hS 1 0 rfl rfl rfl hi_3 dX2_oldestReach_39 (fun H locs hP hD hS => ?_)
            have hP : va_P (dC, dI) vwCl [(o, .inr (2, [.ref o_credits, .ref o_light, .ref o_lit, .ref o_whole, .ref o_ends, .ref o_clashes, .int s_clashPairs, .ref o_reach, .ref o_latest])), (o_latest, .inl (cI, 12, .inl (upd s_latest x5.toNatClampNeg x3)))] H := hP
            have hD : va_D A [(o, .inr (2, [.ref o_credits, .ref o_light, .ref o_lit, .ref o_whole, .ref o_ends, .ref o_clashes, .int s_clashPairs, .ref o_reach, .ref o_latest])), (o_latest, .inl (cI, 12, .inl (upd s_latest x5.toNatClampNeg x3)))] := hD
            exact J40 x4 x5 (upd s_latest x5.toNatClampNeg x3) hw H locs ls hP hD hS hl
  obtain ⟨H, hHH⟩ : ∃ H, H = s.heap := ⟨_, rfl⟩
  rw [← hHH] at hP ⊢
  have hS : va_S A s.heap H [] := by rw [hHH]; exact hS
  clear hHH
  generalize ([] : List Loc) = locs at hS ⊢
  unfold P_X2_oldestReach at hw
  refine lv_iload_n hx hb dX2_oldestReach_0 rfl (lv_at hl 3 rfl) ?_
  refine lv_istore (lv' := [(4, .int p2), (0, .ref o), (1, .int p0), (2, .int p1), (3, .int p2)]) hx hb dX2_oldestReach_1 hl (by decide) rfl (fun ls hl => ?_)
  refine lv_iconst (v := 0) hx hb dX2_oldestReach_3 (by decide) ?_
  refine lv_istore (lv' := [(5, .int 0), (4, .int p2), (0, .ref o), (1, .int p0), (2, .int p1), (3, .int p2)]) hx hb dX2_oldestReach_4 hl (by decide) rfl (fun ls hl => ?_)
  obtain ⟨n, hw⟩ := hw
  exact L6 p0 p1 p2 n p2 0 s_latest hw H locs ls hP hD hS (lv_sub (l' := [(0, .ref o), (1, .int p0), (2, .int p1), (3, .int p2), (4, .int p2), (5, .int 0)]) hl [2, 3, 4, 5, 1, 0] rfl)
abbrev rm_X2_lightTogether : Room := { frames := 1, cells := 0, slots := 0, locals := 25 }
set_option maxHeartbeats 4000000 in
set_option maxRecDepth 100000 in
theorem c_X2_lightTogether (l : Launch) (dC : Nat → ClassId) (dI : Nat → Nat → Nat) (cI cJ : ClassId) (o o_credits o_light o_lit o_whole o_ends o_clashes o_reach o_latest o_credits_cells : Nat) (sz : Nat) (s_credits_cells : Nat → Int32) (s_lit : Nat → Int32) (s_reach : Nat → Int32) (s_latest : Nat → Int32) (s_clashPairs : Int32) (p0 : Int32) (p1 : Int32) (Q : (Nat → Int32) → (Nat → Int32) → Prop) (hw : P_X2_lightTogether p0 p1 s_credits_cells s_lit s_reach s_latest Q) : Met l yX2_lightTogether (Cond.code yX2_lightTogether cX2_lightTogether 6 none :: TBL) rm_X2_lightTogether (gPc (dC, dI) vwCl (gTy cI cJ) [.ref o, .int p0, .int p1] [(o, .inr (2, [.ref o_credits, .ref o_light, .ref o_lit, .ref o_whole, .ref o_ends, .ref o_clashes, .int s_clashPairs, .ref o_reach, .ref o_latest])), (o_credits, .inr (0, [.ref o_credits_cells])), (o_credits_cells, .inl (cI, 82, .inl s_credits_cells)), (o_lit, .inl (cI, 96, .inl s_lit)), (o_reach, .inl (cI, 200, .inl s_reach)), (o_latest, .inl (cI, 12, .inl s_latest))] sz) (va_Qv (fun (u : (Nat → Int32) × (Nat → Int32)) => Q u.1 u.2) (gB (dC, dI) vwCl (gTy cI cJ) (va_A [(o, .inr (2, [.ref o_credits, .ref o_light, .ref o_lit, .ref o_whole, .ref o_ends, .ref o_clashes, .int s_clashPairs, .ref o_reach, .ref o_latest])), (o_credits, .inr (0, [.ref o_credits_cells])), (o_credits_cells, .inl (cI, 82, .inl s_credits_cells)), (o_lit, .inl (cI, 96, .inl s_lit)), (o_reach, .inl (cI, 200, .inl s_reach)), (o_latest, .inl (cI, 12, .inl s_latest))] sz) (fun (u : (Nat → Int32) × (Nat → Int32)) => [(o, .inr (2, [.ref o_credits, .ref o_light, .ref o_lit, .ref o_whole, .ref o_ends, .ref o_clashes, .int s_clashPairs, .ref o_reach, .ref o_latest])), (o_credits, .inr (0, [.ref o_credits_cells])), (o_credits_cells, .inl (cI, 82, .inl s_credits_cells)), (o_lit, .inl (cI, 96, .inl u.1)), (o_reach, .inl (cI, 200, .inl s_reach)), (o_latest, .inl (cI, 12, .inl u.2))])) (va_A [(o, .inr (2, [.ref o_credits, .ref o_light, .ref o_lit, .ref o_whole, .ref o_ends, .ref o_clashes, .int s_clashPairs, .ref o_reach, .ref o_latest])), (o_credits, .inr (0, [.ref o_credits_cells])), (o_credits_cells, .inl (cI, 82, .inl s_credits_cells)), (o_lit, .inl (cI, 96, .inl s_lit)), (o_reach, .inl (cI, 200, .inl s_reach)), (o_latest, .inl (cI, 12, .inl s_latest))] sz)) 0 0 (va_A [(o, .inr (2, [.ref o_credits, .ref o_light, .ref o_lit, .ref o_whole, .ref o_ends, .ref o_clashes, .int s_clashPairs, .ref o_reach, .ref o_latest])), (o_credits, .inr (0, [.ref o_credits_cells])), (o_credits_cells, .inl (cI, 82, .inl s_credits_cells)), (o_lit, .inl (cI, 96, .inl s_lit)), (o_reach, .inl (cI, 200, .inl s_reach)), (o_latest, .inl (cI, 12, .inl s_latest))] sz) := by
  refine Met.ofW (cc := cX2_lightTogether) (maxL := 6) (ret := none) (by decide) rfl ?_
  intro p e s m args below meth c s₁ B hml hv
  obtain ⟨rfl, hsz, hP, hK, hD0⟩ := hv
  have hx := B.exec
  have hb := B.bytes
  have hr := B.returns
  have hts := atoms_spec (ws := Cond.code yX2_lightTogether cX2_lightTogether 6 none :: TBL) B.pre
  have ht : ∀ w ∈ TBL, w.before ([.ref o, .int p0, .int p1] : List Value).toArray s = true := fun w h => hts w (List.mem_cons_of_mem _ h)
  clear hts
  have hown : s.vm.findClass RX2 = some m.cls := findClass_of_methodNamed B.named
  have hlocks := B.notSynchronized
  clear B
  subst hsz
  have hD := hD0.self (sz := s.heap.size)
  clear hD0
  generalize hAe : va_A [(o, .inr (2, [.ref o_credits, .ref o_light, .ref o_lit, .ref o_whole, .ref o_ends, .ref o_clashes, .int s_clashPairs, .ref o_reach, .ref o_latest])), (o_credits, .inr (0, [.ref o_credits_cells])), (o_credits_cells, .inl (cI, 82, .inl s_credits_cells)), (o_lit, .inl (cI, 96, .inl s_lit)), (o_reach, .inl (cI, 200, .inl s_reach)), (o_latest, .inl (cI, 12, .inl s_latest))] s.heap.size = A at hD ⊢
  have hA : ∀ q : Nat, s.heap.size ≤ q → A q := fun q h => by rw [← hAe]; exact Or.inr h
  clear hAe
  have hS : va_S A s.heap s.heap [] := va_S.rf
  have hP : va_P (dC, dI) vwCl [(o, .inr (2, [.ref o_credits, .ref o_light, .ref o_lit, .ref o_whole, .ref o_ends, .ref o_clashes, .int s_clashPairs, .ref o_reach, .ref o_latest])), (o_credits, .inr (0, [.ref o_credits_cells])), (o_credits_cells, .inl (cI, 82, .inl s_credits_cells)), (o_lit, .inl (cI, 96, .inl s_lit)), (o_reach, .inl (cI, 200, .inl s_reach)), (o_latest, .inl (cI, 12, .inl s_latest))] s.heap := hP
  have hl := lv_entry ([.ref o, .int p0, .int p1]) (n := 6) (Nat.le_of_ble_eq_true rfl)
  rw [lg_entry_eq]
  generalize (lg_sl ([.ref o, .int p0, .int p1]) ++ List.replicate (6 - (lg_sl ([.ref o, .int p0, .int p1])).length) Slot.unset).toArray = ls at hl ⊢
  have hl : lv_has ls 6 [(0, .ref o), (1, .int p0), (2, .int p1)] := hl
  generalize hQQ : MQ below _ _ _ 0 0 A = QQ
  show W p l e rm_X2_lightTogether s m ([.ref o, .int p0, .int p1] : List Value).toArray below meth c s.heap [] 0 0 QQ (F0 m 0 ls [])
  have L20 : ∀ (x1 : Int32) (x2 : Int32) (x3 : Int32) (K20_59 : Int32 → (Nat → Int32) → Prop), (∀ (x4 : Int32) (s_latest : Nat → Int32), K20_59 x4 s_latest → ∀ (H : Heap) (locs : List Loc) (ls : Array Slot), va_P (dC, dI) vwCl [(o, .inr (2, [.ref o_credits, .ref o_light, .ref o_lit, .ref o_whole, .ref o_ends, .ref o_clashes, .int s_clashPairs, .ref o_reach, .ref o_latest])), (o_credits, .inr (0, [.ref o_credits_cells])), (o_credits_cells, .inl (cI, 82, .inl s_credits_cells)), (o_lit, .inl (cI, 96, .inl s_lit)), (o_reach, .inl (cI, 200, .inl s_reach)), (o_latest, .inl (cI, 12, .inl s_latest))] H → va_D A [(o, .inr (2, [.ref o_credits, .ref o_light, .ref o_lit, .ref o_whole, .ref o_ends, .ref o_clashes, .int s_clashPairs, .ref o_reach, .ref o_latest])), (o_credits, .inr (0, [.ref o_credits_cells])), (o_credits_cells, .inl (cI, 82, .inl s_credits_cells)), (o_lit, .inl (cI, 96, .inl s_lit)), (o_reach, .inl (cI, 200, .inl s_reach)), (o_latest, .inl (cI, 12, .inl s_latest))] → va_S A s.heap H locs → lv_has ls 6 [(0, .ref o), (1, .int x1), (2, .int x2), (4, .int x4)] → W p l e rm_X2_lightTogether s m ([.ref o, .int p0, .int p1] : List Value).toArray below meth c H locs 0 0 QQ (F0 m 59 ls [])) → ∀ (n : Nat) (x4 : Int32) (s_latest : Nat → Int32), P_X2_lightTogether_L20 x2 x3 s_lit s_reach K20_59 Q n x4 s_latest → ∀ (H : Heap) (locs : List Loc) (ls : Array Slot), va_P (dC, dI) vwCl [(o, .inr (2, [.ref o_credits, .ref o_light, .ref o_lit, .ref o_whole, .ref o_ends, .ref o_clashes, .int s_clashPairs, .ref o_reach, .ref o_latest])), (o_credits, .inr (0, [.ref o_credits_cells])), (o_credits_cells, .inl (cI, 82, .inl s_credits_cells)), (o_lit, .inl (cI, 96, .inl s_lit)), (o_reach, .inl (cI, 200, .inl s_reach)), (o_latest, .inl (cI, 12, .inl s_latest))] H → va_D A [(o, .inr (2, [.ref o_credits, .ref o_light, .ref o_lit, .ref o_whole, .ref o_ends, .ref o_clashes, .int s_clashPairs, .ref o_reach, .ref o_latest])), (o_credits, .inr (0, [.ref o_credits_cells])), (o_credits_cells, .inl (cI, 82, .inl s_credits_cells)), (o_lit, .inl (cI, 96, .inl s_lit)), (o_reach, .inl (cI, 200, .inl s_reach)), (o_latest, .inl (cI, 12, .inl s_latest))] → va_S A s.heap H locs → lv_has ls 6 [(0, .ref o), (1, .int x1), (2, .int x2), (3, .int x3), (4, .int x4)] → W p l e rm_X2_lightTogether s m ([.ref o, .int p0, .int p1] : List Value).toArray below meth c H locs 0 0 QQ (F0 m 20 ls []) := by
    intro x1 x2 x3 K20_59 hK20_59
    intro n
    induction n with
    | zero => intro x4 s_latest hw; rw [P_X2_lightTogether_L20_z] at hw; exact hw.elim
    | succ n ih =>
      intro x4 s_latest hw
      rw [P_X2_lightTogether_L20_s] at hw
      generalize hrec : P_X2_lightTogether_L20 x2 x3 s_lit s_reach K20_59 Q n = rec20 at ih hw
      have J71 : ∀ (x4 : Int32) (s_latest : Nat → Int32), P_X2_lightTogether_J71 rec20 x4 s_latest → ∀ (H : Heap) (locs : List Loc) (ls : Array Slot), va_P (dC, dI) vwCl [(o, .inr (2, [.ref o_credits, .ref o_light, .ref o_lit, .ref o_whole, .ref o_ends, .ref o_clashes, .int s_clashPairs, .ref o_reach, .ref o_latest])), (o_credits, .inr (0, [.ref o_credits_cells])), (o_credits_cells, .inl (cI, 82, .inl s_credits_cells)), (o_lit, .inl (cI, 96, .inl s_lit)), (o_reach, .inl (cI, 200, .inl s_reach)), (o_latest, .inl (cI, 12, .inl s_latest))] H → va_D A [(o, .inr (2, [.ref o_credits, .ref o_light, .ref o_lit, .ref o_whole, .ref o_ends, .ref o_clashes, .int s_clashPairs, .ref o_reach, .ref o_latest])), (o_credits, .inr (0, [.ref o_credits_cells])), (o_credits_cells, .inl (cI, 82, .inl s_credits_cells)), (o_lit, .inl (cI, 96, .inl s_lit)), (o_reach, .inl (cI, 200, .inl s_reach)), (o_latest, .inl (cI, 12, .inl s_latest))] → va_S A s.heap H locs → lv_has ls 6 [(0, .ref o), (1, .int x1), (2, .int x2), (3, .int x3), (4, .int x4)] → W p l e rm_X2_lightTogether s m ([.ref o, .int p0, .int p1] : List Value).toArray below meth c H locs 0 0 QQ (F0 m 71 ls []) := by
        intro x4 s_latest hw H locs ls hP hD hS hl
        unfold P_X2_lightTogether_J71 at hw
        refine lv_iinc (v := (x4 + 1)) (lv' := [(4, .int (x4 + 1)), (0, .ref o), (1, .int x1), (2, .int x2), (3, .int x3)]) hx hb dX2_lightTogether_71 hl (k := 4) rfl rfl (by decide) rfl (fun ls hl => ?_)
        refine lv_goto (tgt := 20) hx hb dX2_lightTogether_74 (by decide) ?_
        exact ih (x4 + 1) s_latest hw H locs ls hP hD hS (lv_sub (l' := [(0, .ref o), (1, .int x1), (2, .int x2), (3, .int x3), (4, .int (x4 + 1))]) hl [1, 2, 3, 4, 0] rfl)
      intro H locs ls hP hD hS hl
      unfold B_X2_lightTogether_L20 at hw
      refine lv_iload hx hb dX2_lightTogether_20 (lv_at hl 4 rfl) ?_
      refine lv_sipush (v := 200) hx hb dX2_lightTogether_22 (by decide) ?_
      refine lv_icmp_ge (tgt := 77) hx hb dX2_lightTogether_25 (by decide) (fun hc => ?_) (fun hc => ?_)
      · have hw := hw.1 hc
        rw [← hQQ]
        exact g_retv (u := (s_lit, s_latest)) hx hb hr hlocks hw hP hK hD hS dX2_lightTogether_77
      · have hw := hw.2 hc
        refine lv_aload_n hx hb dX2_lightTogether_28 rfl (lv_at hl 0 rfl) ?_
        refine lv_iload_n hx hb dX2_lightTogether_29 rfl (lv_at hl 2 rfl) ?_
        refine lv_aload_n hx hb dX2_lightTogether_30 rfl (lv_at hl 0 rfl) ?_
        refine va_get (D := (dC, dI)) (ci := 2) (v := .ref o_reach) (C := RX2) (T := TX2) (N := 9) hx hb ht i_X2 hown hK hP 0 rfl rfl 7 (by decide) (ht _ k_46) (fun _ h9 => h9) rfl dX2_lightTogether_31 ?_
        refine lv_iload hx hb dX2_lightTogether_34 (lv_at hl 4 rfl) ?_
        obtain ⟨hi_1, hw⟩ := hw
        refine gv_iald hx hb hK hP 4 0 rfl rfl rfl hi_1 dX2_lightTogether_36 ?_
        refine lv_iload hx hb dX2_lightTogether_37 (lv_at hl 4 rfl) ?_
        refine gc_Vi (As := [.int x2, .int (s_reach x4.toNatClampNeg), .int x4]) (rest := []) (wr := [(o_credits, .inr (0, [.ref o_credits_cells])), (o_credits_cells, .inl (cI, 82, .inl s_credits_cells)), (o_lit, .inl (cI, 96, .inl s_lit)), (o_reach, .inl (cI, 200, .inl s_reach))]) ⟨hx, hb, hml, hown, ht⟩ (c_X2_oldestReach l dC dI cI cJ o o_credits o_light o_lit o_whole o_ends o_clashes o_reach o_latest H.size s_latest s_clashPairs x2 (s_reach x4.toNatClampNeg) x4 _ hw) (cwV 3 ht (g_V k_380 k_382 k_s10 k_3 k_383) rfl rfl rfl (by decide +kernel) ⟨(Nat.le_of_ble_eq_true rfl), (Nat.le_of_ble_eq_true rfl)⟩) hK hP hD hS hA [0, 5] [1, 2, 3, 4] rfl rfl (by decide) 0 rfl rfl rfl rfl hl.1 rfl (Nat.le_of_ble_eq_true rfl) ⟨(Nat.le_of_ble_eq_true rfl), (Nat.le_of_ble_eq_true rfl)⟩ dX2_lightTogether_39 (fun r_2 u H locs hw hP hD hS => ?_)
        obtain ⟨s_latest_3, rfl⟩ : ∃ z, z = u := ⟨_, rfl⟩
        try dsimp only at hw
        have hP : va_P (dC, dI) vwCl [(o_credits, .inr (0, [.ref o_credits_cells])), (o_credits_cells, .inl (cI, 82, .inl s_credits_cells)), (o_lit, .inl (cI, 96, .inl s_lit)), (o_reach, .inl (cI, 200, .inl s_reach)), (o, .inr (2, [.ref o_credits, .ref o_light, .ref o_lit, .ref o_whole, .ref o_ends, .ref o_clashes, .int s_clashPairs, .ref o_reach, .ref o_latest])), (o_latest, .inl (cI, 12, .inl s_latest_3))] H := hP
        have hD : va_D A [(o_credits, .inr (0, [.ref o_credits_cells])), (o_credits_cells, .inl (cI, 82, .inl s_credits_cells)), (o_lit, .inl (cI, 96, .inl s_lit)), (o_reach, .inl (cI, 200, .inl s_reach)), (o, .inr (2, [.ref o_credits, .ref o_light, .ref o_lit, .ref o_whole, .ref o_ends, .ref o_clashes, .int s_clashPairs, .ref o_reach, .ref o_latest])), (o_latest, .inl (cI, 12, .inl s_latest_3))] := hD
        refine lv_istore (lv' := [(5, .int r_2), (0, .ref o), (1, .int x1), (2, .int x2), (3, .int x3), (4, .int x4)]) hx hb dX2_lightTogether_42 hl (by decide) rfl (fun ls hl => ?_)
        refine lv_iload hx hb dX2_lightTogether_44 (lv_at hl 0 rfl) ?_
        refine lv_iconst (v := (-1)) hx hb dX2_lightTogether_46 (by decide) ?_
        refine lv_icmp_eq (tgt := 71) hx hb dX2_lightTogether_47 (by decide) (fun hc => ?_) (fun hc => ?_)
        · have hw := hw.1 hc
          exact J71 x4 s_latest_3 hw H locs ls (hP.sub (ws' := [(o, .inr (2, [.ref o_credits, .ref o_light, .ref o_lit, .ref o_whole, .ref o_ends, .ref o_clashes, .int s_clashPairs, .ref o_reach, .ref o_latest])), (o_credits, .inr (0, [.ref o_credits_cells])), (o_credits_cells, .inl (cI, 82, .inl s_credits_cells)), (o_lit, .inl (cI, 96, .inl s_lit)), (o_reach, .inl (cI, 200, .inl s_reach)), (o_latest, .inl (cI, 12, .inl s_latest_3))]) [4, 0, 1, 2, 3, 5] rfl) (hD.sub (ws' := [(o, .inr (2, [.ref o_credits, .ref o_light, .ref o_lit, .ref o_whole, .ref o_ends, .ref o_clashes, .int s_clashPairs, .ref o_reach, .ref o_latest])), (o_credits, .inr (0, [.ref o_credits_cells])), (o_credits_cells, .inl (cI, 82, .inl s_credits_cells)), (o_lit, .inl (cI, 96, .inl s_lit)), (o_reach, .inl (cI, 200, .inl s_reach)), (o_latest, .inl (cI, 12, .inl s_latest_3))]) [4, 0, 1, 2, 3, 5] (by decide) rfl) hS (lv_sub (l' := [(0, .ref o), (1, .int x1), (2, .int x2), (3, .int x3), (4, .int x4)]) hl [1, 2, 3, 4, 5] rfl)
        · have hw := hw.2 hc
          refine lv_iload hx hb dX2_lightTogether_50 (lv_at hl 0 rfl) ?_
          refine lv_iload hx hb dX2_lightTogether_52 (lv_at hl 5 rfl) ?_
          refine lv_iload_n hx hb dX2_lightTogether_54 rfl (lv_at hl 4 rfl) ?_
          refine lv_isub hx hb dX2_lightTogether_55 ?_
          refine lv_icmp_lt (tgt := 71) hx hb dX2_lightTogether_56 (by decide) (fun hc => ?_) (fun hc => ?_)
          · have hw := hw.1 hc
            exact J71 x4 s_latest_3 hw H locs ls (hP.sub (ws' := [(o, .inr (2, [.ref o_credits, .ref o_light, .ref o_lit, .ref o_whole, .ref o_ends, .ref o_clashes, .int s_clashPairs, .ref o_reach, .ref o_latest])), (o_credits, .inr (0, [.ref o_credits_cells])), (o_credits_cells, .inl (cI, 82, .inl s_credits_cells)), (o_lit, .inl (cI, 96, .inl s_lit)), (o_reach, .inl (cI, 200, .inl s_reach)), (o_latest, .inl (cI, 12, .inl s_latest_3))]) [4, 0, 1, 2, 3, 5] rfl) (hD.sub (ws' := [(o, .inr (2, [.ref o_credits, .ref o_light, .ref o_lit, .ref o_whole, .ref o_ends, .ref o_clashes, .int s_clashPairs, .ref o_reach, .ref o_latest])), (o_credits, .inr (0, [.ref o_credits_cells])), (o_credits_cells, .inl (cI, 82, .inl s_credits_cells)), (o_lit, .inl (cI, 96, .inl s_lit)), (o_reach, .inl (cI, 200, .inl s_reach)), (o_latest, .inl (cI, 12, .inl s_latest_3))]) [4, 0, 1, 2, 3, 5] (by decide) rfl) hS (lv_sub (l' := [(0, .ref o), (1, .int x1), (2, .int x2), (3, .int x3), (4, .int x4)]) hl [1, 2, 3, 4, 5] rfl)
          · have hw := hw.2 hc
            exact hK20_59 x4 s_latest_3 hw H locs ls (hP.sub (ws' := [(o, .inr (2, [.ref o_credits, .ref o_light, .ref o_lit, .ref o_whole, .ref o_ends, .ref o_clashes, .int s_clashPairs, .ref o_reach, .ref o_latest])), (o_credits, .inr (0, [.ref o_credits_cells])), (o_credits_cells, .inl (cI, 82, .inl s_credits_cells)), (o_lit, .inl (cI, 96, .inl s_lit)), (o_reach, .inl (cI, 200, .inl s_reach)), (o_latest, .inl (cI, 12, .inl s_latest_3))]) [4, 0, 1, 2, 3, 5] rfl) (hD.sub (ws' := [(o, .inr (2, [.ref o_credits, .ref o_light, .ref o_lit, .ref o_whole, .ref o_ends, .ref o_clashes, .int s_clashPairs, .ref o_reach, .ref o_latest])), (o_credits, .inr (0, [.ref o_credits_cells])), (o_credits_cells, .inl (cI, 82, .inl s_credits_cells)), (o_lit, .inl (cI, 96, .inl s_lit)), (o_reach, .inl (cI, 200, .inl s_reach)), (o_latest, .inl (cI, 12, .inl s_latest_3))]) [4, 0, 1, 2, 3, 5] (by decide) rfl) hS (lv_sub (l' := [(0, .ref o), (1, .int x1), (2, .int x2), (4, .int x4)]) hl [1, 2, 3, 5] rfl)
  obtain ⟨H, hHH⟩ : ∃ H, H = s.heap := ⟨_, rfl⟩
  rw [← hHH] at hP ⊢
  have hS : va_S A s.heap H [] := by rw [hHH]; exact hS
  clear hHH
  generalize ([] : List Loc) = locs at hS ⊢
  unfold P_X2_lightTogether at hw
  refine lv_aload_n hx hb dX2_lightTogether_0 rfl (lv_at hl 0 rfl) ?_
  refine va_get (D := (dC, dI)) (ci := 2) (v := .ref o_credits) (C := RX2) (T := TX2) (N := 9) hx hb ht i_X2 hown hK hP 0 rfl rfl 0 (by decide) (ht _ k_39) (fun _ h9 => h9) rfl dX2_lightTogether_1 ?_
  refine lv_iconst (v := 1) hx hb dX2_lightTogether_4 (by decide) ?_
  refine gc_Vi (As := [.int 1]) (rest := []) (wr := [(o, .inr (2, [.ref o_credits, .ref o_light, .ref o_lit, .ref o_whole, .ref o_ends, .ref o_clashes, .int s_clashPairs, .ref o_reach, .ref o_latest])), (o_lit, .inl (cI, 96, .inl s_lit)), (o_reach, .inl (cI, 200, .inl s_reach)), (o_latest, .inl (cI, 12, .inl s_latest))]) ⟨hx, hb, hml, hown, ht⟩ (c_X0_setting l dC dI cI cJ o_credits o_credits_cells H.size s_credits_cells 1 _ hw) (cwV 1 ht (g_V k_376 k_311 k_312 k_2 k_313) rfl rfl rfl (by decide +kernel) ⟨(Nat.le_of_ble_eq_true rfl), (Nat.le_of_ble_eq_true rfl)⟩) hK hP hD hS hA [1, 2] [0, 3, 4, 5] rfl rfl (by decide) 1 rfl rfl rfl rfl hl.1 rfl (Nat.le_of_ble_eq_true rfl) ⟨(Nat.le_of_ble_eq_true rfl), (Nat.le_of_ble_eq_true rfl)⟩ dX2_lightTogether_5 (fun r_4 u H locs hw hP hD hS => ?_)
  try dsimp only at hw
  have hP : va_P (dC, dI) vwCl [(o, .inr (2, [.ref o_credits, .ref o_light, .ref o_lit, .ref o_whole, .ref o_ends, .ref o_clashes, .int s_clashPairs, .ref o_reach, .ref o_latest])), (o_lit, .inl (cI, 96, .inl s_lit)), (o_reach, .inl (cI, 200, .inl s_reach)), (o_latest, .inl (cI, 12, .inl s_latest)), (o_credits, .inr (0, [.ref o_credits_cells])), (o_credits_cells, .inl (cI, 82, .inl s_credits_cells))] H := hP
  have hD : va_D A [(o, .inr (2, [.ref o_credits, .ref o_light, .ref o_lit, .ref o_whole, .ref o_ends, .ref o_clashes, .int s_clashPairs, .ref o_reach, .ref o_latest])), (o_lit, .inl (cI, 96, .inl s_lit)), (o_reach, .inl (cI, 200, .inl s_reach)), (o_latest, .inl (cI, 12, .inl s_latest)), (o_credits, .inr (0, [.ref o_credits_cells])), (o_credits_cells, .inl (cI, 82, .inl s_credits_cells))] := hD
  refine lv_istore_n (lv' := [(3, .int r_4), (0, .ref o), (1, .int p0), (2, .int p1)]) hx hb dX2_lightTogether_8 rfl hl (by decide) rfl (fun ls hl => ?_)
  refine lv_aload_n hx hb dX2_lightTogether_9 rfl (lv_at hl 1 rfl) ?_
  refine va_get (D := (dC, dI)) (ci := 2) (v := .ref o_latest) (C := RX2) (T := TX2) (N := 9) hx hb ht i_X2 hown hK hP 0 rfl rfl 8 (by decide) (ht _ k_47) (fun _ h9 => h9) rfl dX2_lightTogether_10 ?_
  refine lv_iconst (v := (-1)) hx hb dX2_lightTogether_13 (by decide) ?_
  refine gc_Sv (As := [.ref o_latest, .int (-1)]) (rest := []) (wr := [(o, .inr (2, [.ref o_credits, .ref o_light, .ref o_lit, .ref o_whole, .ref o_ends, .ref o_clashes, .int s_clashPairs, .ref o_reach, .ref o_latest])), (o_lit, .inl (cI, 96, .inl s_lit)), (o_reach, .inl (cI, 200, .inl s_reach)), (o_credits, .inr (0, [.ref o_credits_cells])), (o_credits_cells, .inl (cI, 82, .inl s_credits_cells))]) ⟨hx, hb, hml, hown, ht⟩ (c_J7_fill_53178 l dC dI cI cJ o_latest 12 H.size s_latest (-1) _ hw) (va_cwS 2 ht (g_S k_377 k_378 k_12 k_379) rfl rfl rfl (by decide +kernel) ⟨(Nat.le_of_ble_eq_true rfl), (Nat.le_of_ble_eq_true rfl)⟩) hK hP hD hS hA [3] [0, 1, 2, 4, 5] rfl rfl (by decide) rfl hl.1 rfl (Nat.le_of_ble_eq_true rfl) ⟨(Nat.le_of_ble_eq_true rfl), (Nat.le_of_ble_eq_true rfl)⟩ dX2_lightTogether_14 (fun u H locs hw hP hD hS => ?_)
  obtain ⟨s_latest_5, rfl⟩ : ∃ z, z = u := ⟨_, rfl⟩
  try dsimp only at hw
  have hP : va_P (dC, dI) vwCl [(o, .inr (2, [.ref o_credits, .ref o_light, .ref o_lit, .ref o_whole, .ref o_ends, .ref o_clashes, .int s_clashPairs, .ref o_reach, .ref o_latest])), (o_lit, .inl (cI, 96, .inl s_lit)), (o_reach, .inl (cI, 200, .inl s_reach)), (o_credits, .inr (0, [.ref o_credits_cells])), (o_credits_cells, .inl (cI, 82, .inl s_credits_cells)), (o_latest, .inl (cI, 12, .inl s_latest_5))] H := hP
  have hD : va_D A [(o, .inr (2, [.ref o_credits, .ref o_light, .ref o_lit, .ref o_whole, .ref o_ends, .ref o_clashes, .int s_clashPairs, .ref o_reach, .ref o_latest])), (o_lit, .inl (cI, 96, .inl s_lit)), (o_reach, .inl (cI, 200, .inl s_reach)), (o_credits, .inr (0, [.ref o_credits_cells])), (o_credits_cells, .inl (cI, 82, .inl s_credits_cells)), (o_latest, .inl (cI, 12, .inl s_latest_5))] := hD
  refine lv_iconst (v := 0) hx hb dX2_lightTogether_17 (by decide) ?_
  refine lv_istore (lv' := [(4, .int 0), (3, .int r_4), (0, .ref o), (1, .int p0), (2, .int p1)]) hx hb dX2_lightTogether_18 hl (by decide) rfl (fun ls hl => ?_)
  obtain ⟨n, hw⟩ := hw
  refine L20 p0 p1 r_4 _ (fun x4_6 s_latest_7 hw H locs ls hP hD hS hl => ?_) n 0 s_latest_5 hw H locs ls (hP.sub (ws' := [(o, .inr (2, [.ref o_credits, .ref o_light, .ref o_lit, .ref o_whole, .ref o_ends, .ref o_clashes, .int s_clashPairs, .ref o_reach, .ref o_latest])), (o_credits, .inr (0, [.ref o_credits_cells])), (o_credits_cells, .inl (cI, 82, .inl s_credits_cells)), (o_lit, .inl (cI, 96, .inl s_lit)), (o_reach, .inl (cI, 200, .inl s_reach)), (o_latest, .inl (cI, 12, .inl s_latest_5))]) [0, 3, 4, 1, 2, 5] rfl) (hD.sub (ws' := [(o, .inr (2, [.ref o_credits, .ref o_light, .ref o_lit, .ref o_whole, .ref o_ends, .ref o_clashes, .int s_clashPairs, .ref o_reach, .ref o_latest])), (o_credits, .inr (0, [.ref o_credits_cells])), (o_credits_cells, .inl (cI, 82, .inl s_credits_cells)), (o_lit, .inl (cI, 96, .inl s_lit)), (o_reach, .inl (cI, 200, .inl s_reach)), (o_latest, .inl (cI, 12, .inl s_latest_5))]) [0, 3, 4, 1, 2, 5] (by decide) rfl) hS (lv_sub (l' := [(0, .ref o), (1, .int p0), (2, .int p1), (3, .int r_4), (4, .int 0)]) hl [2, 3, 4, 1, 0] rfl)
  refine lv_aload_n hx hb dX2_lightTogether_59 rfl (lv_at hl 0 rfl) ?_
  refine lv_iload_n hx hb dX2_lightTogether_60 rfl (lv_at hl 1 rfl) ?_
  refine lv_iload_n hx hb dX2_lightTogether_61 rfl (lv_at hl 2 rfl) ?_
  refine gc_Si (As := [.int p1]) (rest := [.int p0, .ref o]) (wr := [(o, .inr (2, [.ref o_credits, .ref o_light, .ref o_lit, .ref o_whole, .ref o_ends, .ref o_clashes, .int s_clashPairs, .ref o_reach, .ref o_latest])), (o_credits, .inr (0, [.ref o_credits_cells])), (o_credits_cells, .inl (cI, 82, .inl s_credits_cells)), (o_lit, .inl (cI, 96, .inl s_lit)), (o_reach, .inl (cI, 200, .inl s_reach)), (o_latest, .inl (cI, 12, .inl s_latest_7))]) ⟨hx, hb, hml, hown, ht⟩ (c_X2_allOf l dC dI cI cJ  H.size p1 _ hw) (va_cwS 1 ht (g_S k_361 k_362 k_3 k_363) rfl rfl rfl (by decide +kernel) ⟨(Nat.le_of_ble_eq_true rfl), (Nat.le_of_ble_eq_true rfl)⟩) hK hP hD hS hA [] [0, 1, 2, 3, 4, 5] rfl rfl (by decide) rfl hl.1 rfl (Nat.le_of_ble_eq_true rfl) ⟨(Nat.le_of_ble_eq_true rfl), (Nat.le_of_ble_eq_true rfl)⟩ dX2_lightTogether_62 (fun r_8 u H locs hw hP hD hS => ?_)
  try dsimp only at hw
  have hP : va_P (dC, dI) vwCl [(o, .inr (2, [.ref o_credits, .ref o_light, .ref o_lit, .ref o_whole, .ref o_ends, .ref o_clashes, .int s_clashPairs, .ref o_reach, .ref o_latest])), (o_credits, .inr (0, [.ref o_credits_cells])), (o_credits_cells, .inl (cI, 82, .inl s_credits_cells)), (o_lit, .inl (cI, 96, .inl s_lit)), (o_reach, .inl (cI, 200, .inl s_reach)), (o_latest, .inl (cI, 12, .inl s_latest_7))] H := hP
  have hD : va_D A [(o, .inr (2, [.ref o_credits, .ref o_light, .ref o_lit, .ref o_whole, .ref o_ends, .ref o_clashes, .int s_clashPairs, .ref o_reach, .ref o_latest])), (o_credits, .inr (0, [.ref o_credits_cells])), (o_credits_cells, .inl (cI, 82, .inl s_credits_cells)), (o_lit, .inl (cI, 96, .inl s_lit)), (o_reach, .inl (cI, 200, .inl s_reach)), (o_latest, .inl (cI, 12, .inl s_latest_7))] := hD
  refine lv_iload hx hb dX2_lightTogether_65 (lv_at hl 3 rfl) ?_
  refine gc_Vv (As := [.int p0, .int r_8, .int x4_6]) (rest := []) (wr := [(o_credits, .inr (0, [.ref o_credits_cells])), (o_credits_cells, .inl (cI, 82, .inl s_credits_cells)), (o_reach, .inl (cI, 200, .inl s_reach)), (o_latest, .inl (cI, 12, .inl s_latest_7))]) ⟨hx, hb, hml, hown, ht⟩ (c_X2_putLit l dC dI cI cJ o o_credits o_light o_lit o_whole o_ends o_clashes o_reach o_latest H.size s_lit s_clashPairs p0 r_8 x4_6 _ hw) (cwV 3 ht (g_V k_364 k_366 k_s7 k_3 k_367) rfl rfl rfl (by decide +kernel) ⟨(Nat.le_of_ble_eq_true rfl), (Nat.le_of_ble_eq_true rfl)⟩) hK hP hD hS hA [0, 3] [1, 2, 4, 5] rfl rfl (by decide) 0 rfl rfl rfl rfl hl.1 rfl (Nat.le_of_ble_eq_true rfl) ⟨(Nat.le_of_ble_eq_true rfl), (Nat.le_of_ble_eq_true rfl)⟩ dX2_lightTogether_67 (fun u H locs hw hP hD hS => ?_)
  obtain ⟨s_lit_9, rfl⟩ : ∃ z, z = u := ⟨_, rfl⟩
  try dsimp only at hw
  have hP : va_P (dC, dI) vwCl [(o_credits, .inr (0, [.ref o_credits_cells])), (o_credits_cells, .inl (cI, 82, .inl s_credits_cells)), (o_reach, .inl (cI, 200, .inl s_reach)), (o_latest, .inl (cI, 12, .inl s_latest_7)), (o, .inr (2, [.ref o_credits, .ref o_light, .ref o_lit, .ref o_whole, .ref o_ends, .ref o_clashes, .int s_clashPairs, .ref o_reach, .ref o_latest])), (o_lit, .inl (cI, 96, .inl s_lit_9))] H := hP
  have hD : va_D A [(o_credits, .inr (0, [.ref o_credits_cells])), (o_credits_cells, .inl (cI, 82, .inl s_credits_cells)), (o_reach, .inl (cI, 200, .inl s_reach)), (o_latest, .inl (cI, 12, .inl s_latest_7)), (o, .inr (2, [.ref o_credits, .ref o_light, .ref o_lit, .ref o_whole, .ref o_ends, .ref o_clashes, .int s_clashPairs, .ref o_reach, .ref o_latest])), (o_lit, .inl (cI, 96, .inl s_lit_9))] := hD
  rw [← hQQ]
  exact g_retv (u := (s_lit_9, s_latest_7)) hx hb hr hlocks hw (hP.sub (ws' := [(o, .inr (2, [.ref o_credits, .ref o_light, .ref o_lit, .ref o_whole, .ref o_ends, .ref o_clashes, .int s_clashPairs, .ref o_reach, .ref o_latest])), (o_credits, .inr (0, [.ref o_credits_cells])), (o_credits_cells, .inl (cI, 82, .inl s_credits_cells)), (o_lit, .inl (cI, 96, .inl s_lit_9)), (o_reach, .inl (cI, 200, .inl s_reach)), (o_latest, .inl (cI, 12, .inl s_latest_7))]) [4, 0, 1, 5, 2, 3] rfl) hK (hD.sub (ws' := [(o, .inr (2, [.ref o_credits, .ref o_light, .ref o_lit, .ref o_whole, .ref o_ends, .ref o_clashes, .int s_clashPairs, .ref o_reach, .ref o_latest])), (o_credits, .inr (0, [.ref o_credits_cells])), (o_credits_cells, .inl (cI, 82, .inl s_credits_cells)), (o_lit, .inl (cI, 96, .inl s_lit_9)), (o_reach, .inl (cI, 200, .inl s_reach)), (o_latest, .inl (cI, 12, .inl s_latest_7))]) [4, 0, 1, 5, 2, 3] (by decide) rfl) hS dX2_lightTogether_70
abbrev rm_X2_settle : Room := { frames := 2, cells := 0, slots := 0, locals := 52 }
set_option maxHeartbeats 4000000 in
set_option maxRecDepth 100000 in
theorem c_X2_settle (l : Launch) (dC : Nat → ClassId) (dI : Nat → Nat → Nat) (cI cJ : ClassId) (o o_credits o_light o_lit o_whole o_ends o_clashes o_reach o_latest o_credits_cells : Nat) (sz : Nat) (s_credits_cells : Nat → Int32) (s_light : Nat → Int64) (s_lit : Nat → Int32) (s_whole : Nat → Int32) (s_ends : Nat → Int32) (s_reach : Nat → Int32) (s_latest : Nat → Int32) (s_clashPairs : Int32) (p0 : Int32) (p1 : Int32) (Q : (Nat → Int32) → (Nat → Int32) → (Nat → Int32) → (Nat → Int32) → (Nat → Int32) → Prop) (hw : P_X2_settle p0 p1 s_credits_cells s_light s_lit s_whole s_ends s_reach s_latest Q) : Met l yX2_settle (Cond.code yX2_settle cX2_settle 4 none :: TBL) rm_X2_settle (gPc (dC, dI) vwCl (gTy cI cJ) [.ref o, .int p0, .int p1] [(o, .inr (2, [.ref o_credits, .ref o_light, .ref o_lit, .ref o_whole, .ref o_ends, .ref o_clashes, .int s_clashPairs, .ref o_reach, .ref o_latest])), (o_credits, .inr (0, [.ref o_credits_cells])), (o_credits_cells, .inl (cI, 82, .inl s_credits_cells)), (o_light, .inl (cJ, 1600, .inr (.inl s_light))), (o_lit, .inl (cI, 96, .inl s_lit)), (o_whole, .inl (cI, 8, .inl s_whole)), (o_ends, .inl (cI, 8, .inl s_ends)), (o_reach, .inl (cI, 200, .inl s_reach)), (o_latest, .inl (cI, 12, .inl s_latest))] sz) (va_Qv (fun (u : (Nat → Int32) × (Nat → Int32) × (Nat → Int32) × (Nat → Int32) × (Nat → Int32)) => Q u.1 u.2.1 u.2.2.1 u.2.2.2.1 u.2.2.2.2) (gB (dC, dI) vwCl (gTy cI cJ) (va_A [(o, .inr (2, [.ref o_credits, .ref o_light, .ref o_lit, .ref o_whole, .ref o_ends, .ref o_clashes, .int s_clashPairs, .ref o_reach, .ref o_latest])), (o_credits, .inr (0, [.ref o_credits_cells])), (o_credits_cells, .inl (cI, 82, .inl s_credits_cells)), (o_light, .inl (cJ, 1600, .inr (.inl s_light))), (o_lit, .inl (cI, 96, .inl s_lit)), (o_whole, .inl (cI, 8, .inl s_whole)), (o_ends, .inl (cI, 8, .inl s_ends)), (o_reach, .inl (cI, 200, .inl s_reach)), (o_latest, .inl (cI, 12, .inl s_latest))] sz) (fun (u : (Nat → Int32) × (Nat → Int32) × (Nat → Int32) × (Nat → Int32) × (Nat → Int32)) => [(o, .inr (2, [.ref o_credits, .ref o_light, .ref o_lit, .ref o_whole, .ref o_ends, .ref o_clashes, .int s_clashPairs, .ref o_reach, .ref o_latest])), (o_credits, .inr (0, [.ref o_credits_cells])), (o_credits_cells, .inl (cI, 82, .inl s_credits_cells)), (o_light, .inl (cJ, 1600, .inr (.inl s_light))), (o_lit, .inl (cI, 96, .inl u.1)), (o_whole, .inl (cI, 8, .inl u.2.1)), (o_ends, .inl (cI, 8, .inl u.2.2.1)), (o_reach, .inl (cI, 200, .inl u.2.2.2.1)), (o_latest, .inl (cI, 12, .inl u.2.2.2.2))])) (va_A [(o, .inr (2, [.ref o_credits, .ref o_light, .ref o_lit, .ref o_whole, .ref o_ends, .ref o_clashes, .int s_clashPairs, .ref o_reach, .ref o_latest])), (o_credits, .inr (0, [.ref o_credits_cells])), (o_credits_cells, .inl (cI, 82, .inl s_credits_cells)), (o_light, .inl (cJ, 1600, .inr (.inl s_light))), (o_lit, .inl (cI, 96, .inl s_lit)), (o_whole, .inl (cI, 8, .inl s_whole)), (o_ends, .inl (cI, 8, .inl s_ends)), (o_reach, .inl (cI, 200, .inl s_reach)), (o_latest, .inl (cI, 12, .inl s_latest))] sz)) 0 0 (va_A [(o, .inr (2, [.ref o_credits, .ref o_light, .ref o_lit, .ref o_whole, .ref o_ends, .ref o_clashes, .int s_clashPairs, .ref o_reach, .ref o_latest])), (o_credits, .inr (0, [.ref o_credits_cells])), (o_credits_cells, .inl (cI, 82, .inl s_credits_cells)), (o_light, .inl (cJ, 1600, .inr (.inl s_light))), (o_lit, .inl (cI, 96, .inl s_lit)), (o_whole, .inl (cI, 8, .inl s_whole)), (o_ends, .inl (cI, 8, .inl s_ends)), (o_reach, .inl (cI, 200, .inl s_reach)), (o_latest, .inl (cI, 12, .inl s_latest))] sz) := by
  refine Met.ofW (cc := cX2_settle) (maxL := 4) (ret := none) (by decide) rfl ?_
  intro p e s m args below meth c s₁ B hml hv
  obtain ⟨rfl, hsz, hP, hK, hD0⟩ := hv
  have hx := B.exec
  have hb := B.bytes
  have hr := B.returns
  have hts := atoms_spec (ws := Cond.code yX2_settle cX2_settle 4 none :: TBL) B.pre
  have ht : ∀ w ∈ TBL, w.before ([.ref o, .int p0, .int p1] : List Value).toArray s = true := fun w h => hts w (List.mem_cons_of_mem _ h)
  clear hts
  have hown : s.vm.findClass RX2 = some m.cls := findClass_of_methodNamed B.named
  have hlocks := B.notSynchronized
  clear B
  subst hsz
  have hD := hD0.self (sz := s.heap.size)
  clear hD0
  generalize hAe : va_A [(o, .inr (2, [.ref o_credits, .ref o_light, .ref o_lit, .ref o_whole, .ref o_ends, .ref o_clashes, .int s_clashPairs, .ref o_reach, .ref o_latest])), (o_credits, .inr (0, [.ref o_credits_cells])), (o_credits_cells, .inl (cI, 82, .inl s_credits_cells)), (o_light, .inl (cJ, 1600, .inr (.inl s_light))), (o_lit, .inl (cI, 96, .inl s_lit)), (o_whole, .inl (cI, 8, .inl s_whole)), (o_ends, .inl (cI, 8, .inl s_ends)), (o_reach, .inl (cI, 200, .inl s_reach)), (o_latest, .inl (cI, 12, .inl s_latest))] s.heap.size = A at hD ⊢
  have hA : ∀ q : Nat, s.heap.size ≤ q → A q := fun q h => by rw [← hAe]; exact Or.inr h
  clear hAe
  have hS : va_S A s.heap s.heap [] := va_S.rf
  have hP : va_P (dC, dI) vwCl [(o, .inr (2, [.ref o_credits, .ref o_light, .ref o_lit, .ref o_whole, .ref o_ends, .ref o_clashes, .int s_clashPairs, .ref o_reach, .ref o_latest])), (o_credits, .inr (0, [.ref o_credits_cells])), (o_credits_cells, .inl (cI, 82, .inl s_credits_cells)), (o_light, .inl (cJ, 1600, .inr (.inl s_light))), (o_lit, .inl (cI, 96, .inl s_lit)), (o_whole, .inl (cI, 8, .inl s_whole)), (o_ends, .inl (cI, 8, .inl s_ends)), (o_reach, .inl (cI, 200, .inl s_reach)), (o_latest, .inl (cI, 12, .inl s_latest))] s.heap := hP
  have hl := lv_entry ([.ref o, .int p0, .int p1]) (n := 4) (Nat.le_of_ble_eq_true rfl)
  rw [lg_entry_eq]
  generalize (lg_sl ([.ref o, .int p0, .int p1]) ++ List.replicate (4 - (lg_sl ([.ref o, .int p0, .int p1])).length) Slot.unset).toArray = ls at hl ⊢
  have hl : lv_has ls 4 [(0, .ref o), (1, .int p0), (2, .int p1)] := hl
  generalize hQQ : MQ below _ _ _ 0 0 A = QQ
  show W p l e rm_X2_settle s m ([.ref o, .int p0, .int p1] : List Value).toArray below meth c s.heap [] 0 0 QQ (F0 m 0 ls [])
  have J88 : ∀ (x1 : Int32) (x3 : Int32) (s_lit : Nat → Int32) (s_reach : Nat → Int32) (s_latest : Nat → Int32), P_X2_settle_J88 s_credits_cells s_whole s_ends Q x1 x3 s_lit s_reach s_latest → ∀ (H : Heap) (locs : List Loc) (ls : Array Slot), va_P (dC, dI) vwCl [(o, .inr (2, [.ref o_credits, .ref o_light, .ref o_lit, .ref o_whole, .ref o_ends, .ref o_clashes, .int s_clashPairs, .ref o_reach, .ref o_latest])), (o_credits, .inr (0, [.ref o_credits_cells])), (o_credits_cells, .inl (cI, 82, .inl s_credits_cells)), (o_light, .inl (cJ, 1600, .inr (.inl s_light))), (o_lit, .inl (cI, 96, .inl s_lit)), (o_whole, .inl (cI, 8, .inl s_whole)), (o_ends, .inl (cI, 8, .inl s_ends)), (o_reach, .inl (cI, 200, .inl s_reach)), (o_latest, .inl (cI, 12, .inl s_latest))] H → va_D A [(o, .inr (2, [.ref o_credits, .ref o_light, .ref o_lit, .ref o_whole, .ref o_ends, .ref o_clashes, .int s_clashPairs, .ref o_reach, .ref o_latest])), (o_credits, .inr (0, [.ref o_credits_cells])), (o_credits_cells, .inl (cI, 82, .inl s_credits_cells)), (o_light, .inl (cJ, 1600, .inr (.inl s_light))), (o_lit, .inl (cI, 96, .inl s_lit)), (o_whole, .inl (cI, 8, .inl s_whole)), (o_ends, .inl (cI, 8, .inl s_ends)), (o_reach, .inl (cI, 200, .inl s_reach)), (o_latest, .inl (cI, 12, .inl s_latest))] → va_S A s.heap H locs → lv_has ls 4 [(0, .ref o), (1, .int x1), (3, .int x3)] → W p l e rm_X2_settle s m ([.ref o, .int p0, .int p1] : List Value).toArray below meth c H locs 0 0 QQ (F0 m 88 ls []) := by
    intro x1 x3 s_lit s_reach s_latest hw H locs ls hP hD hS hl
    unfold P_X2_settle_J88 at hw
    refine lv_aload_n hx hb dX2_settle_88 rfl (lv_at hl 0 rfl) ?_
    refine lv_iload_n hx hb dX2_settle_89 rfl (lv_at hl 1 rfl) ?_
    refine lv_iload_n hx hb dX2_settle_90 rfl (lv_at hl 2 rfl) ?_
    refine gc_Vv (As := [.int x1, .int x3]) (rest := []) (wr := [(o_light, .inl (cJ, 1600, .inr (.inl s_light))), (o_reach, .inl (cI, 200, .inl s_reach)), (o_latest, .inl (cI, 12, .inl s_latest))]) ⟨hx, hb, hml, hown, ht⟩ (c_X2_finish l dC dI cI cJ o o_credits o_light o_lit o_whole o_ends o_clashes o_reach o_latest o_credits_cells H.size s_credits_cells s_lit s_whole s_ends s_clashPairs x1 x3 _ hw) (cwV 2 ht (g_V k_388 k_390 k_s12 k_3 k_391) rfl rfl rfl (by decide +kernel) ⟨(Nat.le_of_ble_eq_true rfl), (Nat.le_of_ble_eq_true rfl)⟩) hK hP hD hS hA [0, 1, 2, 4, 5, 6] [3, 7, 8] rfl rfl (by decide) 0 rfl rfl rfl rfl hl.1 rfl (Nat.le_of_ble_eq_true rfl) ⟨(Nat.le_of_ble_eq_true rfl), (Nat.le_of_ble_eq_true rfl)⟩ dX2_settle_91 (fun u H locs hw hP hD hS => ?_)
    obtain ⟨s_whole_1, s_ends_2⟩ := u
    try dsimp only at hw
    have hP : va_P (dC, dI) vwCl [(o_light, .inl (cJ, 1600, .inr (.inl s_light))), (o_reach, .inl (cI, 200, .inl s_reach)), (o_latest, .inl (cI, 12, .inl s_latest)), (o, .inr (2, [.ref o_credits, .ref o_light, .ref o_lit, .ref o_whole, .ref o_ends, .ref o_clashes, .int s_clashPairs, .ref o_reach, .ref o_latest])), (o_credits, .inr (0, [.ref o_credits_cells])), (o_credits_cells, .inl (cI, 82, .inl s_credits_cells)), (o_lit, .inl (cI, 96, .inl s_lit)), (o_whole, .inl (cI, 8, .inl s_whole_1)), (o_ends, .inl (cI, 8, .inl s_ends_2))] H := hP
    have hD : va_D A [(o_light, .inl (cJ, 1600, .inr (.inl s_light))), (o_reach, .inl (cI, 200, .inl s_reach)), (o_latest, .inl (cI, 12, .inl s_latest)), (o, .inr (2, [.ref o_credits, .ref o_light, .ref o_lit, .ref o_whole, .ref o_ends, .ref o_clashes, .int s_clashPairs, .ref o_reach, .ref o_latest])), (o_credits, .inr (0, [.ref o_credits_cells])), (o_credits_cells, .inl (cI, 82, .inl s_credits_cells)), (o_lit, .inl (cI, 96, .inl s_lit)), (o_whole, .inl (cI, 8, .inl s_whole_1)), (o_ends, .inl (cI, 8, .inl s_ends_2))] := hD
    rw [← hQQ]
    exact g_retv (u := (s_lit, s_whole_1, s_ends_2, s_reach, s_latest)) hx hb hr hlocks hw (hP.sub (ws' := [(o, .inr (2, [.ref o_credits, .ref o_light, .ref o_lit, .ref o_whole, .ref o_ends, .ref o_clashes, .int s_clashPairs, .ref o_reach, .ref o_latest])), (o_credits, .inr (0, [.ref o_credits_cells])), (o_credits_cells, .inl (cI, 82, .inl s_credits_cells)), (o_light, .inl (cJ, 1600, .inr (.inl s_light))), (o_lit, .inl (cI, 96, .inl s_lit)), (o_whole, .inl (cI, 8, .inl s_whole_1)), (o_ends, .inl (cI, 8, .inl s_ends_2)), (o_reach, .inl (cI, 200, .inl s_reach)), (o_latest, .inl (cI, 12, .inl s_latest))]) [3, 4, 5, 0, 6, 7, 8, 1, 2] rfl) hK (hD.sub (ws' := [(o, .inr (2, [.ref o_credits, .ref o_light, .ref o_lit, .ref o_whole, .ref o_ends, .ref o_clashes, .int s_clashPairs, .ref o_reach, .ref o_latest])), (o_credits, .inr (0, [.ref o_credits_cells])), (o_credits_cells, .inl (cI, 82, .inl s_credits_cells)), (o_light, .inl (cJ, 1600, .inr (.inl s_light))), (o_lit, .inl (cI, 96, .inl s_lit)), (o_whole, .inl (cI, 8, .inl s_whole_1)), (o_ends, .inl (cI, 8, .inl s_ends_2)), (o_reach, .inl (cI, 200, .inl s_reach)), (o_latest, .inl (cI, 12, .inl s_latest))]) [3, 4, 5, 0, 6, 7, 8, 1, 2] (by decide) rfl) hS dX2_settle_94
  obtain ⟨H, hHH⟩ : ∃ H, H = s.heap := ⟨_, rfl⟩
  rw [← hHH] at hP ⊢
  have hS : va_S A s.heap H [] := by rw [hHH]; exact hS
  clear hHH
  generalize ([] : List Loc) = locs at hS ⊢
  unfold P_X2_settle at hw
  refine lv_aload_n hx hb dX2_settle_0 rfl (lv_at hl 0 rfl) ?_
  refine va_get (D := (dC, dI)) (ci := 2) (v := .ref o_credits) (C := RX2) (T := TX2) (N := 9) hx hb ht i_X2 hown hK hP 0 rfl rfl 0 (by decide) (ht _ k_39) (fun _ h9 => h9) rfl dX2_settle_1 ?_
  refine lv_iload_n hx hb dX2_settle_4 rfl (lv_at hl 1 rfl) ?_
  refine lv_iconst (v := 0) hx hb dX2_settle_5 (by decide) ?_
  refine gc_Vi (As := [.int p0, .int 0]) (rest := []) (wr := [(o, .inr (2, [.ref o_credits, .ref o_light, .ref o_lit, .ref o_whole, .ref o_ends, .ref o_clashes, .int s_clashPairs, .ref o_reach, .ref o_latest])), (o_light, .inl (cJ, 1600, .inr (.inl s_light))), (o_lit, .inl (cI, 96, .inl s_lit)), (o_whole, .inl (cI, 8, .inl s_whole)), (o_ends, .inl (cI, 8, .inl s_ends)), (o_reach, .inl (cI, 200, .inl s_reach)), (o_latest, .inl (cI, 12, .inl s_latest))]) ⟨hx, hb, hml, hown, ht⟩ (c_X0_ofWord l dC dI cI cJ o_credits o_credits_cells H.size s_credits_cells p0 0 _ hw) (cwV 2 ht (g_V k_214 k_202 k_203 k_2 k_204) rfl rfl rfl (by decide +kernel) ⟨(Nat.le_of_ble_eq_true rfl), (Nat.le_of_ble_eq_true rfl)⟩) hK hP hD hS hA [1, 2] [0, 3, 4, 5, 6, 7, 8] rfl rfl (by decide) 1 rfl rfl rfl rfl hl.1 rfl (Nat.le_of_ble_eq_true rfl) ⟨(Nat.le_of_ble_eq_true rfl), (Nat.le_of_ble_eq_true rfl)⟩ dX2_settle_6 (fun r_3 u H locs hw hP hD hS => ?_)
  try dsimp only at hw
  have hP : va_P (dC, dI) vwCl [(o, .inr (2, [.ref o_credits, .ref o_light, .ref o_lit, .ref o_whole, .ref o_ends, .ref o_clashes, .int s_clashPairs, .ref o_reach, .ref o_latest])), (o_light, .inl (cJ, 1600, .inr (.inl s_light))), (o_lit, .inl (cI, 96, .inl s_lit)), (o_whole, .inl (cI, 8, .inl s_whole)), (o_ends, .inl (cI, 8, .inl s_ends)), (o_reach, .inl (cI, 200, .inl s_reach)), (o_latest, .inl (cI, 12, .inl s_latest)), (o_credits, .inr (0, [.ref o_credits_cells])), (o_credits_cells, .inl (cI, 82, .inl s_credits_cells))] H := hP
  have hD : va_D A [(o, .inr (2, [.ref o_credits, .ref o_light, .ref o_lit, .ref o_whole, .ref o_ends, .ref o_clashes, .int s_clashPairs, .ref o_reach, .ref o_latest])), (o_light, .inl (cJ, 1600, .inr (.inl s_light))), (o_lit, .inl (cI, 96, .inl s_lit)), (o_whole, .inl (cI, 8, .inl s_whole)), (o_ends, .inl (cI, 8, .inl s_ends)), (o_reach, .inl (cI, 200, .inl s_reach)), (o_latest, .inl (cI, 12, .inl s_latest)), (o_credits, .inr (0, [.ref o_credits_cells])), (o_credits_cells, .inl (cI, 82, .inl s_credits_cells))] := hD
  refine lv_istore_n (lv' := [(3, .int r_3), (0, .ref o), (1, .int p0), (2, .int p1)]) hx hb dX2_settle_9 rfl hl (by decide) rfl (fun ls hl => ?_)
  refine lv_aload_n hx hb dX2_settle_10 rfl (lv_at hl 1 rfl) ?_
  refine lv_iload_n hx hb dX2_settle_11 rfl (lv_at hl 2 rfl) ?_
  refine lv_iload_n hx hb dX2_settle_12 rfl (lv_at hl 0 rfl) ?_
  refine lv_iload_n hx hb dX2_settle_13 rfl (lv_at hl 3 rfl) ?_
  refine gc_Vv (As := [.int p0, .int r_3, .int p1]) (rest := []) (wr := [(o_lit, .inl (cI, 96, .inl s_lit)), (o_whole, .inl (cI, 8, .inl s_whole)), (o_ends, .inl (cI, 8, .inl s_ends)), (o_latest, .inl (cI, 12, .inl s_latest))]) ⟨hx, hb, hml, hown, ht⟩ (c_X2_findReach l dC dI cI cJ o o_credits o_light o_lit o_whole o_ends o_clashes o_reach o_latest o_credits_cells H.size s_credits_cells s_light s_reach s_clashPairs p0 r_3 p1 _ hw) (cwV 3 ht (g_V k_357 k_359 k_s6 k_3 k_360) rfl rfl rfl (by decide +kernel) ⟨(Nat.le_of_ble_eq_true rfl), (Nat.le_of_ble_eq_true rfl)⟩) hK hP hD hS hA [0, 7, 8, 1, 5] [2, 3, 4, 6] rfl rfl (by decide) 0 rfl rfl rfl rfl hl.1 rfl (Nat.le_of_ble_eq_true rfl) ⟨(Nat.le_of_ble_eq_true rfl), (Nat.le_of_ble_eq_true rfl)⟩ dX2_settle_14 (fun u H locs hw hP hD hS => ?_)
  obtain ⟨s_reach_4, rfl⟩ : ∃ z, z = u := ⟨_, rfl⟩
  try dsimp only at hw
  have hP : va_P (dC, dI) vwCl [(o_lit, .inl (cI, 96, .inl s_lit)), (o_whole, .inl (cI, 8, .inl s_whole)), (o_ends, .inl (cI, 8, .inl s_ends)), (o_latest, .inl (cI, 12, .inl s_latest)), (o, .inr (2, [.ref o_credits, .ref o_light, .ref o_lit, .ref o_whole, .ref o_ends, .ref o_clashes, .int s_clashPairs, .ref o_reach, .ref o_latest])), (o_credits, .inr (0, [.ref o_credits_cells])), (o_credits_cells, .inl (cI, 82, .inl s_credits_cells)), (o_light, .inl (cJ, 1600, .inr (.inl s_light))), (o_reach, .inl (cI, 200, .inl s_reach_4))] H := hP
  have hD : va_D A [(o_lit, .inl (cI, 96, .inl s_lit)), (o_whole, .inl (cI, 8, .inl s_whole)), (o_ends, .inl (cI, 8, .inl s_ends)), (o_latest, .inl (cI, 12, .inl s_latest)), (o, .inr (2, [.ref o_credits, .ref o_light, .ref o_lit, .ref o_whole, .ref o_ends, .ref o_clashes, .int s_clashPairs, .ref o_reach, .ref o_latest])), (o_credits, .inr (0, [.ref o_credits_cells])), (o_credits_cells, .inl (cI, 82, .inl s_credits_cells)), (o_light, .inl (cJ, 1600, .inr (.inl s_light))), (o_reach, .inl (cI, 200, .inl s_reach_4))] := hD
  refine lv_aload_n hx hb dX2_settle_17 rfl (lv_at hl 1 rfl) ?_
  refine lv_iload_n hx hb dX2_settle_18 rfl (lv_at hl 2 rfl) ?_
  refine lv_iload_n hx hb dX2_settle_19 rfl (lv_at hl 0 rfl) ?_
  refine gc_Si (As := [.int r_3]) (rest := [.int p0, .ref o]) (wr := [(o_lit, .inl (cI, 96, .inl s_lit)), (o_whole, .inl (cI, 8, .inl s_whole)), (o_ends, .inl (cI, 8, .inl s_ends)), (o_latest, .inl (cI, 12, .inl s_latest)), (o, .inr (2, [.ref o_credits, .ref o_light, .ref o_lit, .ref o_whole, .ref o_ends, .ref o_clashes, .int s_clashPairs, .ref o_reach, .ref o_latest])), (o_credits, .inr (0, [.ref o_credits_cells])), (o_credits_cells, .inl (cI, 82, .inl s_credits_cells)), (o_light, .inl (cJ, 1600, .inr (.inl s_light))), (o_reach, .inl (cI, 200, .inl s_reach_4))]) ⟨hx, hb, hml, hown, ht⟩ (c_X2_allOf l dC dI cI cJ  H.size r_3 _ hw) (va_cwS 1 ht (g_S k_361 k_362 k_3 k_363) rfl rfl rfl (by decide +kernel) ⟨(Nat.le_of_ble_eq_true rfl), (Nat.le_of_ble_eq_true rfl)⟩) hK hP hD hS hA [] [0, 1, 2, 3, 4, 5, 6, 7, 8] rfl rfl (by decide) rfl hl.1 rfl (Nat.le_of_ble_eq_true rfl) ⟨(Nat.le_of_ble_eq_true rfl), (Nat.le_of_ble_eq_true rfl)⟩ dX2_settle_20 (fun r_5 u H locs hw hP hD hS => ?_)
  try dsimp only at hw
  have hP : va_P (dC, dI) vwCl [(o_lit, .inl (cI, 96, .inl s_lit)), (o_whole, .inl (cI, 8, .inl s_whole)), (o_ends, .inl (cI, 8, .inl s_ends)), (o_latest, .inl (cI, 12, .inl s_latest)), (o, .inr (2, [.ref o_credits, .ref o_light, .ref o_lit, .ref o_whole, .ref o_ends, .ref o_clashes, .int s_clashPairs, .ref o_reach, .ref o_latest])), (o_credits, .inr (0, [.ref o_credits_cells])), (o_credits_cells, .inl (cI, 82, .inl s_credits_cells)), (o_light, .inl (cJ, 1600, .inr (.inl s_light))), (o_reach, .inl (cI, 200, .inl s_reach_4))] H := hP
  have hD : va_D A [(o_lit, .inl (cI, 96, .inl s_lit)), (o_whole, .inl (cI, 8, .inl s_whole)), (o_ends, .inl (cI, 8, .inl s_ends)), (o_latest, .inl (cI, 12, .inl s_latest)), (o, .inr (2, [.ref o_credits, .ref o_light, .ref o_lit, .ref o_whole, .ref o_ends, .ref o_clashes, .int s_clashPairs, .ref o_reach, .ref o_latest])), (o_credits, .inr (0, [.ref o_credits_cells])), (o_credits_cells, .inl (cI, 82, .inl s_credits_cells)), (o_light, .inl (cJ, 1600, .inr (.inl s_light))), (o_reach, .inl (cI, 200, .inl s_reach_4))] := hD
  refine lv_iconst (v := (-1)) hx hb dX2_settle_23 (by decide) ?_
  refine gc_Vv (As := [.int p0, .int r_5, .int (-1)]) (rest := []) (wr := [(o_whole, .inl (cI, 8, .inl s_whole)), (o_ends, .inl (cI, 8, .inl s_ends)), (o_latest, .inl (cI, 12, .inl s_latest)), (o_credits, .inr (0, [.ref o_credits_cells])), (o_credits_cells, .inl (cI, 82, .inl s_credits_cells)), (o_light, .inl (cJ, 1600, .inr (.inl s_light))), (o_reach, .inl (cI, 200, .inl s_reach_4))]) ⟨hx, hb, hml, hown, ht⟩ (c_X2_putLit l dC dI cI cJ o o_credits o_light o_lit o_whole o_ends o_clashes o_reach o_latest H.size s_lit s_clashPairs p0 r_5 (-1) _ hw) (cwV 3 ht (g_V k_364 k_366 k_s7 k_3 k_367) rfl rfl rfl (by decide +kernel) ⟨(Nat.le_of_ble_eq_true rfl), (Nat.le_of_ble_eq_true rfl)⟩) hK hP hD hS hA [4, 0] [1, 2, 3, 5, 6, 7, 8] rfl rfl (by decide) 4 rfl rfl rfl rfl hl.1 rfl (Nat.le_of_ble_eq_true rfl) ⟨(Nat.le_of_ble_eq_true rfl), (Nat.le_of_ble_eq_true rfl)⟩ dX2_settle_24 (fun u H locs hw hP hD hS => ?_)
  obtain ⟨s_lit_6, rfl⟩ : ∃ z, z = u := ⟨_, rfl⟩
  try dsimp only at hw
  have hP : va_P (dC, dI) vwCl [(o_whole, .inl (cI, 8, .inl s_whole)), (o_ends, .inl (cI, 8, .inl s_ends)), (o_latest, .inl (cI, 12, .inl s_latest)), (o_credits, .inr (0, [.ref o_credits_cells])), (o_credits_cells, .inl (cI, 82, .inl s_credits_cells)), (o_light, .inl (cJ, 1600, .inr (.inl s_light))), (o_reach, .inl (cI, 200, .inl s_reach_4)), (o, .inr (2, [.ref o_credits, .ref o_light, .ref o_lit, .ref o_whole, .ref o_ends, .ref o_clashes, .int s_clashPairs, .ref o_reach, .ref o_latest])), (o_lit, .inl (cI, 96, .inl s_lit_6))] H := hP
  have hD : va_D A [(o_whole, .inl (cI, 8, .inl s_whole)), (o_ends, .inl (cI, 8, .inl s_ends)), (o_latest, .inl (cI, 12, .inl s_latest)), (o_credits, .inr (0, [.ref o_credits_cells])), (o_credits_cells, .inl (cI, 82, .inl s_credits_cells)), (o_light, .inl (cJ, 1600, .inr (.inl s_light))), (o_reach, .inl (cI, 200, .inl s_reach_4)), (o, .inr (2, [.ref o_credits, .ref o_light, .ref o_lit, .ref o_whole, .ref o_ends, .ref o_clashes, .int s_clashPairs, .ref o_reach, .ref o_latest])), (o_lit, .inl (cI, 96, .inl s_lit_6))] := hD
  refine lv_aload_n hx hb dX2_settle_27 rfl (lv_at hl 1 rfl) ?_
  refine va_get (D := (dC, dI)) (ci := 2) (v := .ref o_credits) (C := RX2) (T := TX2) (N := 9) hx hb ht i_X2 hown hK hP 7 rfl rfl 0 (by decide) (ht _ k_39) (fun _ h9 => h9) rfl dX2_settle_28 ?_
  refine lv_iload_n hx hb dX2_settle_31 rfl (lv_at hl 2 rfl) ?_
  refine lv_iconst (v := 4) hx hb dX2_settle_32 (by decide) ?_
  refine gc_Vi (As := [.int p0, .int 4]) (rest := []) (wr := [(o_whole, .inl (cI, 8, .inl s_whole)), (o_ends, .inl (cI, 8, .inl s_ends)), (o_latest, .inl (cI, 12, .inl s_latest)), (o_light, .inl (cJ, 1600, .inr (.inl s_light))), (o_reach, .inl (cI, 200, .inl s_reach_4)), (o, .inr (2, [.ref o_credits, .ref o_light, .ref o_lit, .ref o_whole, .ref o_ends, .ref o_clashes, .int s_clashPairs, .ref o_reach, .ref o_latest])), (o_lit, .inl (cI, 96, .inl s_lit_6))]) ⟨hx, hb, hml, hown, ht⟩ (c_X0_ofWord l dC dI cI cJ o_credits o_credits_cells H.size s_credits_cells p0 4 _ hw) (cwV 2 ht (g_V k_214 k_202 k_203 k_2 k_204) rfl rfl rfl (by decide +kernel) ⟨(Nat.le_of_ble_eq_true rfl), (Nat.le_of_ble_eq_true rfl)⟩) hK hP hD hS hA [3, 4] [0, 1, 2, 5, 6, 7, 8] rfl rfl (by decide) 3 rfl rfl rfl rfl hl.1 rfl (Nat.le_of_ble_eq_true rfl) ⟨(Nat.le_of_ble_eq_true rfl), (Nat.le_of_ble_eq_true rfl)⟩ dX2_settle_33 (fun r_7 u H locs hw hP hD hS => ?_)
  try dsimp only at hw
  have hP : va_P (dC, dI) vwCl [(o_whole, .inl (cI, 8, .inl s_whole)), (o_ends, .inl (cI, 8, .inl s_ends)), (o_latest, .inl (cI, 12, .inl s_latest)), (o_light, .inl (cJ, 1600, .inr (.inl s_light))), (o_reach, .inl (cI, 200, .inl s_reach_4)), (o, .inr (2, [.ref o_credits, .ref o_light, .ref o_lit, .ref o_whole, .ref o_ends, .ref o_clashes, .int s_clashPairs, .ref o_reach, .ref o_latest])), (o_lit, .inl (cI, 96, .inl s_lit_6)), (o_credits, .inr (0, [.ref o_credits_cells])), (o_credits_cells, .inl (cI, 82, .inl s_credits_cells))] H := hP
  have hD : va_D A [(o_whole, .inl (cI, 8, .inl s_whole)), (o_ends, .inl (cI, 8, .inl s_ends)), (o_latest, .inl (cI, 12, .inl s_latest)), (o_light, .inl (cJ, 1600, .inr (.inl s_light))), (o_reach, .inl (cI, 200, .inl s_reach_4)), (o, .inr (2, [.ref o_credits, .ref o_light, .ref o_lit, .ref o_whole, .ref o_ends, .ref o_clashes, .int s_clashPairs, .ref o_reach, .ref o_latest])), (o_lit, .inl (cI, 96, .inl s_lit_6)), (o_credits, .inr (0, [.ref o_credits_cells])), (o_credits_cells, .inl (cI, 82, .inl s_credits_cells))] := hD
  rcases Classical.em (r_7 = 1) with hs_12 | hs_12
  · have hw := hw.1 hs_12
    refine lv_lookup (tgt := 64) hx hb dX2_settle_36 rfl (by rw [hs_12]; first | done | rfl) (by decide) ?_
    refine lv_aload_n hx hb dX2_settle_64 rfl (lv_at hl 1 rfl) ?_
    refine lv_iload_n hx hb dX2_settle_65 rfl (lv_at hl 2 rfl) ?_
    refine lv_iload_n hx hb dX2_settle_66 rfl (lv_at hl 0 rfl) ?_
    refine gc_Vv (As := [.int p0, .int r_3]) (rest := []) (wr := [(o_whole, .inl (cI, 8, .inl s_whole)), (o_ends, .inl (cI, 8, .inl s_ends)), (o_latest, .inl (cI, 12, .inl s_latest)), (o_light, .inl (cJ, 1600, .inr (.inl s_light))), (o_credits, .inr (0, [.ref o_credits_cells])), (o_credits_cells, .inl (cI, 82, .inl s_credits_cells))]) ⟨hx, hb, hml, hown, ht⟩ (c_X2_lightInTurn l dC dI cI cJ o o_credits o_light o_lit o_whole o_ends o_clashes o_reach o_latest H.size s_lit_6 s_reach_4 s_clashPairs p0 r_3 _ hw) (cwV 2 ht (g_V k_368 k_370 k_s8 k_3 k_371) rfl rfl rfl (by decide +kernel) ⟨(Nat.le_of_ble_eq_true rfl), (Nat.le_of_ble_eq_true rfl)⟩) hK hP hD hS hA [5, 6, 4] [0, 1, 2, 3, 7, 8] rfl rfl (by decide) 5 rfl rfl rfl rfl hl.1 rfl (Nat.le_of_ble_eq_true rfl) ⟨(Nat.le_of_ble_eq_true rfl), (Nat.le_of_ble_eq_true rfl)⟩ dX2_settle_67 (fun u H locs hw hP hD hS => ?_)
    obtain ⟨s_lit_8, rfl⟩ : ∃ z, z = u := ⟨_, rfl⟩
    try dsimp only at hw
    have hP : va_P (dC, dI) vwCl [(o_whole, .inl (cI, 8, .inl s_whole)), (o_ends, .inl (cI, 8, .inl s_ends)), (o_latest, .inl (cI, 12, .inl s_latest)), (o_light, .inl (cJ, 1600, .inr (.inl s_light))), (o_credits, .inr (0, [.ref o_credits_cells])), (o_credits_cells, .inl (cI, 82, .inl s_credits_cells)), (o, .inr (2, [.ref o_credits, .ref o_light, .ref o_lit, .ref o_whole, .ref o_ends, .ref o_clashes, .int s_clashPairs, .ref o_reach, .ref o_latest])), (o_lit, .inl (cI, 96, .inl s_lit_8)), (o_reach, .inl (cI, 200, .inl s_reach_4))] H := hP
    have hD : va_D A [(o_whole, .inl (cI, 8, .inl s_whole)), (o_ends, .inl (cI, 8, .inl s_ends)), (o_latest, .inl (cI, 12, .inl s_latest)), (o_light, .inl (cJ, 1600, .inr (.inl s_light))), (o_credits, .inr (0, [.ref o_credits_cells])), (o_credits_cells, .inl (cI, 82, .inl s_credits_cells)), (o, .inr (2, [.ref o_credits, .ref o_light, .ref o_lit, .ref o_whole, .ref o_ends, .ref o_clashes, .int s_clashPairs, .ref o_reach, .ref o_latest])), (o_lit, .inl (cI, 96, .inl s_lit_8)), (o_reach, .inl (cI, 200, .inl s_reach_4))] := hD
    refine lv_goto (tgt := 88) hx hb dX2_settle_70 (by decide) ?_
    exact J88 p0 r_3 s_lit_8 s_reach_4 s_latest hw H locs ls (hP.sub (ws' := [(o, .inr (2, [.ref o_credits, .ref o_light, .ref o_lit, .ref o_whole, .ref o_ends, .ref o_clashes, .int s_clashPairs, .ref o_reach, .ref o_latest])), (o_credits, .inr (0, [.ref o_credits_cells])), (o_credits_cells, .inl (cI, 82, .inl s_credits_cells)), (o_light, .inl (cJ, 1600, .inr (.inl s_light))), (o_lit, .inl (cI, 96, .inl s_lit_8)), (o_whole, .inl (cI, 8, .inl s_whole)), (o_ends, .inl (cI, 8, .inl s_ends)), (o_reach, .inl (cI, 200, .inl s_reach_4)), (o_latest, .inl (cI, 12, .inl s_latest))]) [6, 4, 5, 3, 7, 0, 1, 8, 2] rfl) (hD.sub (ws' := [(o, .inr (2, [.ref o_credits, .ref o_light, .ref o_lit, .ref o_whole, .ref o_ends, .ref o_clashes, .int s_clashPairs, .ref o_reach, .ref o_latest])), (o_credits, .inr (0, [.ref o_credits_cells])), (o_credits_cells, .inl (cI, 82, .inl s_credits_cells)), (o_light, .inl (cJ, 1600, .inr (.inl s_light))), (o_lit, .inl (cI, 96, .inl s_lit_8)), (o_whole, .inl (cI, 8, .inl s_whole)), (o_ends, .inl (cI, 8, .inl s_ends)), (o_reach, .inl (cI, 200, .inl s_reach_4)), (o_latest, .inl (cI, 12, .inl s_latest))]) [6, 4, 5, 3, 7, 0, 1, 8, 2] (by decide) rfl) hS (lv_sub (l' := [(0, .ref o), (1, .int p0), (3, .int r_3)]) hl [1, 2, 0] rfl)
  rcases Classical.em (r_7 = 2) with hs_13 | hs_13
  · have hw := hw.2.1 hs_13
    refine lv_lookup (tgt := 73) hx hb dX2_settle_36 rfl (by rw [hs_13]; first | done | rfl) (by decide) ?_
    refine lv_aload_n hx hb dX2_settle_73 rfl (lv_at hl 1 rfl) ?_
    refine lv_iload_n hx hb dX2_settle_74 rfl (lv_at hl 2 rfl) ?_
    refine lv_iload_n hx hb dX2_settle_75 rfl (lv_at hl 0 rfl) ?_
    refine gc_Vv (As := [.int p0, .int r_3]) (rest := []) (wr := [(o_whole, .inl (cI, 8, .inl s_whole)), (o_ends, .inl (cI, 8, .inl s_ends)), (o_light, .inl (cJ, 1600, .inr (.inl s_light)))]) ⟨hx, hb, hml, hown, ht⟩ (c_X2_lightTogether l dC dI cI cJ o o_credits o_light o_lit o_whole o_ends o_clashes o_reach o_latest o_credits_cells H.size s_credits_cells s_lit_6 s_reach_4 s_latest s_clashPairs p0 r_3 _ hw) (cwV 2 ht (g_V k_372 k_374 k_s9 k_3 k_375) rfl rfl rfl (by decide +kernel) ⟨(Nat.le_of_ble_eq_true rfl), (Nat.le_of_ble_eq_true rfl)⟩) hK hP hD hS hA [5, 7, 8, 6, 4, 2] [0, 1, 3] rfl rfl (by decide) 5 rfl rfl rfl rfl hl.1 rfl (Nat.le_of_ble_eq_true rfl) ⟨(Nat.le_of_ble_eq_true rfl), (Nat.le_of_ble_eq_true rfl)⟩ dX2_settle_76 (fun u H locs hw hP hD hS => ?_)
    obtain ⟨s_lit_9, s_latest_10⟩ := u
    try dsimp only at hw
    have hP : va_P (dC, dI) vwCl [(o_whole, .inl (cI, 8, .inl s_whole)), (o_ends, .inl (cI, 8, .inl s_ends)), (o_light, .inl (cJ, 1600, .inr (.inl s_light))), (o, .inr (2, [.ref o_credits, .ref o_light, .ref o_lit, .ref o_whole, .ref o_ends, .ref o_clashes, .int s_clashPairs, .ref o_reach, .ref o_latest])), (o_credits, .inr (0, [.ref o_credits_cells])), (o_credits_cells, .inl (cI, 82, .inl s_credits_cells)), (o_lit, .inl (cI, 96, .inl s_lit_9)), (o_reach, .inl (cI, 200, .inl s_reach_4)), (o_latest, .inl (cI, 12, .inl s_latest_10))] H := hP
    have hD : va_D A [(o_whole, .inl (cI, 8, .inl s_whole)), (o_ends, .inl (cI, 8, .inl s_ends)), (o_light, .inl (cJ, 1600, .inr (.inl s_light))), (o, .inr (2, [.ref o_credits, .ref o_light, .ref o_lit, .ref o_whole, .ref o_ends, .ref o_clashes, .int s_clashPairs, .ref o_reach, .ref o_latest])), (o_credits, .inr (0, [.ref o_credits_cells])), (o_credits_cells, .inl (cI, 82, .inl s_credits_cells)), (o_lit, .inl (cI, 96, .inl s_lit_9)), (o_reach, .inl (cI, 200, .inl s_reach_4)), (o_latest, .inl (cI, 12, .inl s_latest_10))] := hD
    refine lv_goto (tgt := 88) hx hb dX2_settle_79 (by decide) ?_
    exact J88 p0 r_3 s_lit_9 s_reach_4 s_latest_10 hw H locs ls (hP.sub (ws' := [(o, .inr (2, [.ref o_credits, .ref o_light, .ref o_lit, .ref o_whole, .ref o_ends, .ref o_clashes, .int s_clashPairs, .ref o_reach, .ref o_latest])), (o_credits, .inr (0, [.ref o_credits_cells])), (o_credits_cells, .inl (cI, 82, .inl s_credits_cells)), (o_light, .inl (cJ, 1600, .inr (.inl s_light))), (o_lit, .inl (cI, 96, .inl s_lit_9)), (o_whole, .inl (cI, 8, .inl s_whole)), (o_ends, .inl (cI, 8, .inl s_ends)), (o_reach, .inl (cI, 200, .inl s_reach_4)), (o_latest, .inl (cI, 12, .inl s_latest_10))]) [3, 4, 5, 2, 6, 0, 1, 7, 8] rfl) (hD.sub (ws' := [(o, .inr (2, [.ref o_credits, .ref o_light, .ref o_lit, .ref o_whole, .ref o_ends, .ref o_clashes, .int s_clashPairs, .ref o_reach, .ref o_latest])), (o_credits, .inr (0, [.ref o_credits_cells])), (o_credits_cells, .inl (cI, 82, .inl s_credits_cells)), (o_light, .inl (cJ, 1600, .inr (.inl s_light))), (o_lit, .inl (cI, 96, .inl s_lit_9)), (o_whole, .inl (cI, 8, .inl s_whole)), (o_ends, .inl (cI, 8, .inl s_ends)), (o_reach, .inl (cI, 200, .inl s_reach_4)), (o_latest, .inl (cI, 12, .inl s_latest_10))]) [3, 4, 5, 2, 6, 0, 1, 7, 8] (by decide) rfl) hS (lv_sub (l' := [(0, .ref o), (1, .int p0), (3, .int r_3)]) hl [1, 2, 0] rfl)
  have hw := hw.2.2 hs_12 hs_13
  refine lv_lookup (tgt := 82) hx hb dX2_settle_36 rfl (off := 46) (by have q1 := ne_i (z := 1) (by decide) hs_12; have q2 := ne_i (z := 2) (by decide) hs_13; simp [Op.lookupswitch.offset, q1, Ne.symm q1, q2, Ne.symm q2]) (by decide) ?_
  refine lv_aload_n hx hb dX2_settle_82 rfl (lv_at hl 1 rfl) ?_
  refine lv_iload_n hx hb dX2_settle_83 rfl (lv_at hl 2 rfl) ?_
  refine lv_iload_n hx hb dX2_settle_84 rfl (lv_at hl 0 rfl) ?_
  refine gc_Vv (As := [.int p0, .int r_3]) (rest := []) (wr := [(o_whole, .inl (cI, 8, .inl s_whole)), (o_ends, .inl (cI, 8, .inl s_ends)), (o_latest, .inl (cI, 12, .inl s_latest)), (o_light, .inl (cJ, 1600, .inr (.inl s_light))), (o_credits, .inr (0, [.ref o_credits_cells])), (o_credits_cells, .inl (cI, 82, .inl s_credits_cells))]) ⟨hx, hb, hml, hown, ht⟩ (c_X2_lightEach l dC dI cI cJ o o_credits o_light o_lit o_whole o_ends o_clashes o_reach o_latest H.size s_lit_6 s_reach_4 s_clashPairs p0 r_3 _ hw) (cwV 2 ht (g_V k_384 k_386 k_s11 k_3 k_387) rfl rfl rfl (by decide +kernel) ⟨(Nat.le_of_ble_eq_true rfl), (Nat.le_of_ble_eq_true rfl)⟩) hK hP hD hS hA [5, 6, 4] [0, 1, 2, 3, 7, 8] rfl rfl (by decide) 5 rfl rfl rfl rfl hl.1 rfl (Nat.le_of_ble_eq_true rfl) ⟨(Nat.le_of_ble_eq_true rfl), (Nat.le_of_ble_eq_true rfl)⟩ dX2_settle_85 (fun u H locs hw hP hD hS => ?_)
  obtain ⟨s_lit_11, rfl⟩ : ∃ z, z = u := ⟨_, rfl⟩
  try dsimp only at hw
  have hP : va_P (dC, dI) vwCl [(o_whole, .inl (cI, 8, .inl s_whole)), (o_ends, .inl (cI, 8, .inl s_ends)), (o_latest, .inl (cI, 12, .inl s_latest)), (o_light, .inl (cJ, 1600, .inr (.inl s_light))), (o_credits, .inr (0, [.ref o_credits_cells])), (o_credits_cells, .inl (cI, 82, .inl s_credits_cells)), (o, .inr (2, [.ref o_credits, .ref o_light, .ref o_lit, .ref o_whole, .ref o_ends, .ref o_clashes, .int s_clashPairs, .ref o_reach, .ref o_latest])), (o_lit, .inl (cI, 96, .inl s_lit_11)), (o_reach, .inl (cI, 200, .inl s_reach_4))] H := hP
  have hD : va_D A [(o_whole, .inl (cI, 8, .inl s_whole)), (o_ends, .inl (cI, 8, .inl s_ends)), (o_latest, .inl (cI, 12, .inl s_latest)), (o_light, .inl (cJ, 1600, .inr (.inl s_light))), (o_credits, .inr (0, [.ref o_credits_cells])), (o_credits_cells, .inl (cI, 82, .inl s_credits_cells)), (o, .inr (2, [.ref o_credits, .ref o_light, .ref o_lit, .ref o_whole, .ref o_ends, .ref o_clashes, .int s_clashPairs, .ref o_reach, .ref o_latest])), (o_lit, .inl (cI, 96, .inl s_lit_11)), (o_reach, .inl (cI, 200, .inl s_reach_4))] := hD
  exact J88 p0 r_3 s_lit_11 s_reach_4 s_latest hw H locs ls (hP.sub (ws' := [(o, .inr (2, [.ref o_credits, .ref o_light, .ref o_lit, .ref o_whole, .ref o_ends, .ref o_clashes, .int s_clashPairs, .ref o_reach, .ref o_latest])), (o_credits, .inr (0, [.ref o_credits_cells])), (o_credits_cells, .inl (cI, 82, .inl s_credits_cells)), (o_light, .inl (cJ, 1600, .inr (.inl s_light))), (o_lit, .inl (cI, 96, .inl s_lit_11)), (o_whole, .inl (cI, 8, .inl s_whole)), (o_ends, .inl (cI, 8, .inl s_ends)), (o_reach, .inl (cI, 200, .inl s_reach_4)), (o_latest, .inl (cI, 12, .inl s_latest))]) [6, 4, 5, 3, 7, 0, 1, 8, 2] rfl) (hD.sub (ws' := [(o, .inr (2, [.ref o_credits, .ref o_light, .ref o_lit, .ref o_whole, .ref o_ends, .ref o_clashes, .int s_clashPairs, .ref o_reach, .ref o_latest])), (o_credits, .inr (0, [.ref o_credits_cells])), (o_credits_cells, .inl (cI, 82, .inl s_credits_cells)), (o_light, .inl (cJ, 1600, .inr (.inl s_light))), (o_lit, .inl (cI, 96, .inl s_lit_11)), (o_whole, .inl (cI, 8, .inl s_whole)), (o_ends, .inl (cI, 8, .inl s_ends)), (o_reach, .inl (cI, 200, .inl s_reach_4)), (o_latest, .inl (cI, 12, .inl s_latest))]) [6, 4, 5, 3, 7, 0, 1, 8, 2] (by decide) rfl) hS (lv_sub (l' := [(0, .ref o), (1, .int p0), (3, .int r_3)]) hl [1, 2, 0] rfl)
abbrev rm_X2_settleAll : Room := { frames := 3, cells := 0, slots := 0, locals := 75 }
set_option maxHeartbeats 4000000 in
set_option maxRecDepth 100000 in
theorem c_X2_settleAll (l : Launch) (dC : Nat → ClassId) (dI : Nat → Nat → Nat) (cI cJ : ClassId) (o o_credits o_light o_lit o_whole o_ends o_clashes o_reach o_latest o_credits_cells : Nat) (sz : Nat) (s_credits_cells : Nat → Int32) (s_light : Nat → Int64) (s_lit : Nat → Int32) (s_whole : Nat → Int32) (s_ends : Nat → Int32) (s_reach : Nat → Int32) (s_latest : Nat → Int32) (s_clashPairs : Int32)  (Q : (Nat → Int32) → (Nat → Int32) → (Nat → Int32) → (Nat → Int32) → (Nat → Int32) → Prop) (hw : P_X2_settleAll s_credits_cells s_light s_lit s_whole s_ends s_reach s_latest Q) : Met l yX2_settleAll (Cond.code yX2_settleAll cX2_settleAll 2 none :: TBL) rm_X2_settleAll (gPc (dC, dI) vwCl (gTy cI cJ) [.ref o] [(o, .inr (2, [.ref o_credits, .ref o_light, .ref o_lit, .ref o_whole, .ref o_ends, .ref o_clashes, .int s_clashPairs, .ref o_reach, .ref o_latest])), (o_credits, .inr (0, [.ref o_credits_cells])), (o_credits_cells, .inl (cI, 82, .inl s_credits_cells)), (o_light, .inl (cJ, 1600, .inr (.inl s_light))), (o_lit, .inl (cI, 96, .inl s_lit)), (o_whole, .inl (cI, 8, .inl s_whole)), (o_ends, .inl (cI, 8, .inl s_ends)), (o_reach, .inl (cI, 200, .inl s_reach)), (o_latest, .inl (cI, 12, .inl s_latest))] sz) (va_Qv (fun (u : (Nat → Int32) × (Nat → Int32) × (Nat → Int32) × (Nat → Int32) × (Nat → Int32)) => Q u.1 u.2.1 u.2.2.1 u.2.2.2.1 u.2.2.2.2) (gB (dC, dI) vwCl (gTy cI cJ) (va_A [(o, .inr (2, [.ref o_credits, .ref o_light, .ref o_lit, .ref o_whole, .ref o_ends, .ref o_clashes, .int s_clashPairs, .ref o_reach, .ref o_latest])), (o_credits, .inr (0, [.ref o_credits_cells])), (o_credits_cells, .inl (cI, 82, .inl s_credits_cells)), (o_light, .inl (cJ, 1600, .inr (.inl s_light))), (o_lit, .inl (cI, 96, .inl s_lit)), (o_whole, .inl (cI, 8, .inl s_whole)), (o_ends, .inl (cI, 8, .inl s_ends)), (o_reach, .inl (cI, 200, .inl s_reach)), (o_latest, .inl (cI, 12, .inl s_latest))] sz) (fun (u : (Nat → Int32) × (Nat → Int32) × (Nat → Int32) × (Nat → Int32) × (Nat → Int32)) => [(o, .inr (2, [.ref o_credits, .ref o_light, .ref o_lit, .ref o_whole, .ref o_ends, .ref o_clashes, .int s_clashPairs, .ref o_reach, .ref o_latest])), (o_credits, .inr (0, [.ref o_credits_cells])), (o_credits_cells, .inl (cI, 82, .inl s_credits_cells)), (o_light, .inl (cJ, 1600, .inr (.inl s_light))), (o_lit, .inl (cI, 96, .inl u.1)), (o_whole, .inl (cI, 8, .inl u.2.1)), (o_ends, .inl (cI, 8, .inl u.2.2.1)), (o_reach, .inl (cI, 200, .inl u.2.2.2.1)), (o_latest, .inl (cI, 12, .inl u.2.2.2.2))])) (va_A [(o, .inr (2, [.ref o_credits, .ref o_light, .ref o_lit, .ref o_whole, .ref o_ends, .ref o_clashes, .int s_clashPairs, .ref o_reach, .ref o_latest])), (o_credits, .inr (0, [.ref o_credits_cells])), (o_credits_cells, .inl (cI, 82, .inl s_credits_cells)), (o_light, .inl (cJ, 1600, .inr (.inl s_light))), (o_lit, .inl (cI, 96, .inl s_lit)), (o_whole, .inl (cI, 8, .inl s_whole)), (o_ends, .inl (cI, 8, .inl s_ends)), (o_reach, .inl (cI, 200, .inl s_reach)), (o_latest, .inl (cI, 12, .inl s_latest))] sz)) 0 0 (va_A [(o, .inr (2, [.ref o_credits, .ref o_light, .ref o_lit, .ref o_whole, .ref o_ends, .ref o_clashes, .int s_clashPairs, .ref o_reach, .ref o_latest])), (o_credits, .inr (0, [.ref o_credits_cells])), (o_credits_cells, .inl (cI, 82, .inl s_credits_cells)), (o_light, .inl (cJ, 1600, .inr (.inl s_light))), (o_lit, .inl (cI, 96, .inl s_lit)), (o_whole, .inl (cI, 8, .inl s_whole)), (o_ends, .inl (cI, 8, .inl s_ends)), (o_reach, .inl (cI, 200, .inl s_reach)), (o_latest, .inl (cI, 12, .inl s_latest))] sz) := by
  refine Met.ofW (cc := cX2_settleAll) (maxL := 2) (ret := none) (by decide) rfl ?_
  intro p e s m args below meth c s₁ B hml hv
  obtain ⟨rfl, hsz, hP, hK, hD0⟩ := hv
  have hx := B.exec
  have hb := B.bytes
  have hr := B.returns
  have hts := atoms_spec (ws := Cond.code yX2_settleAll cX2_settleAll 2 none :: TBL) B.pre
  have ht : ∀ w ∈ TBL, w.before ([.ref o] : List Value).toArray s = true := fun w h => hts w (List.mem_cons_of_mem _ h)
  clear hts
  have hown : s.vm.findClass RX2 = some m.cls := findClass_of_methodNamed B.named
  have hlocks := B.notSynchronized
  clear B
  subst hsz
  have hD := hD0.self (sz := s.heap.size)
  clear hD0
  generalize hAe : va_A [(o, .inr (2, [.ref o_credits, .ref o_light, .ref o_lit, .ref o_whole, .ref o_ends, .ref o_clashes, .int s_clashPairs, .ref o_reach, .ref o_latest])), (o_credits, .inr (0, [.ref o_credits_cells])), (o_credits_cells, .inl (cI, 82, .inl s_credits_cells)), (o_light, .inl (cJ, 1600, .inr (.inl s_light))), (o_lit, .inl (cI, 96, .inl s_lit)), (o_whole, .inl (cI, 8, .inl s_whole)), (o_ends, .inl (cI, 8, .inl s_ends)), (o_reach, .inl (cI, 200, .inl s_reach)), (o_latest, .inl (cI, 12, .inl s_latest))] s.heap.size = A at hD ⊢
  have hA : ∀ q : Nat, s.heap.size ≤ q → A q := fun q h => by rw [← hAe]; exact Or.inr h
  clear hAe
  have hS : va_S A s.heap s.heap [] := va_S.rf
  have hP : va_P (dC, dI) vwCl [(o, .inr (2, [.ref o_credits, .ref o_light, .ref o_lit, .ref o_whole, .ref o_ends, .ref o_clashes, .int s_clashPairs, .ref o_reach, .ref o_latest])), (o_credits, .inr (0, [.ref o_credits_cells])), (o_credits_cells, .inl (cI, 82, .inl s_credits_cells)), (o_light, .inl (cJ, 1600, .inr (.inl s_light))), (o_lit, .inl (cI, 96, .inl s_lit)), (o_whole, .inl (cI, 8, .inl s_whole)), (o_ends, .inl (cI, 8, .inl s_ends)), (o_reach, .inl (cI, 200, .inl s_reach)), (o_latest, .inl (cI, 12, .inl s_latest))] s.heap := hP
  have hl := lv_entry ([.ref o]) (n := 2) (Nat.le_of_ble_eq_true rfl)
  rw [lg_entry_eq]
  generalize (lg_sl ([.ref o]) ++ List.replicate (2 - (lg_sl ([.ref o])).length) Slot.unset).toArray = ls at hl ⊢
  have hl : lv_has ls 2 [(0, .ref o)] := hl
  generalize hQQ : MQ below _ _ _ 0 0 A = QQ
  show W p l e rm_X2_settleAll s m ([.ref o] : List Value).toArray below meth c s.heap [] 0 0 QQ (F0 m 0 ls [])
  have L2 : ∀ (n : Nat) (x1 : Int32) (s_lit : Nat → Int32) (s_whole : Nat → Int32) (s_ends : Nat → Int32) (s_reach : Nat → Int32) (s_latest : Nat → Int32), P_X2_settleAll_L2 s_credits_cells s_light Q n x1 s_lit s_whole s_ends s_reach s_latest → ∀ (H : Heap) (locs : List Loc) (ls : Array Slot), va_P (dC, dI) vwCl [(o, .inr (2, [.ref o_credits, .ref o_light, .ref o_lit, .ref o_whole, .ref o_ends, .ref o_clashes, .int s_clashPairs, .ref o_reach, .ref o_latest])), (o_credits, .inr (0, [.ref o_credits_cells])), (o_credits_cells, .inl (cI, 82, .inl s_credits_cells)), (o_light, .inl (cJ, 1600, .inr (.inl s_light))), (o_lit, .inl (cI, 96, .inl s_lit)), (o_whole, .inl (cI, 8, .inl s_whole)), (o_ends, .inl (cI, 8, .inl s_ends)), (o_reach, .inl (cI, 200, .inl s_reach)), (o_latest, .inl (cI, 12, .inl s_latest))] H → va_D A [(o, .inr (2, [.ref o_credits, .ref o_light, .ref o_lit, .ref o_whole, .ref o_ends, .ref o_clashes, .int s_clashPairs, .ref o_reach, .ref o_latest])), (o_credits, .inr (0, [.ref o_credits_cells])), (o_credits_cells, .inl (cI, 82, .inl s_credits_cells)), (o_light, .inl (cJ, 1600, .inr (.inl s_light))), (o_lit, .inl (cI, 96, .inl s_lit)), (o_whole, .inl (cI, 8, .inl s_whole)), (o_ends, .inl (cI, 8, .inl s_ends)), (o_reach, .inl (cI, 200, .inl s_reach)), (o_latest, .inl (cI, 12, .inl s_latest))] → va_S A s.heap H locs → lv_has ls 2 [(0, .ref o), (1, .int x1)] → W p l e rm_X2_settleAll s m ([.ref o] : List Value).toArray below meth c H locs 0 0 QQ (F0 m 2 ls []) := by
    intro n
    induction n with
    | zero => intro x1 s_lit s_whole s_ends s_reach s_latest hw; rw [P_X2_settleAll_L2_z] at hw; exact hw.elim
    | succ n ih =>
      intro x1 s_lit s_whole s_ends s_reach s_latest hw
      rw [P_X2_settleAll_L2_s] at hw
      generalize hrec : P_X2_settleAll_L2 s_credits_cells s_light Q n = rec2 at ih hw
      intro H locs ls hP hD hS hl
      unfold B_X2_settleAll_L2 at hw
      refine lv_iload_n hx hb dX2_settleAll_2 rfl (lv_at hl 1 rfl) ?_
      refine lv_aload_n hx hb dX2_settleAll_3 rfl (lv_at hl 0 rfl) ?_
      refine va_get (D := (dC, dI)) (ci := 2) (v := .ref o_credits) (C := RX2) (T := TX2) (N := 9) hx hb ht i_X2 hown hK hP 0 rfl rfl 0 (by decide) (ht _ k_39) (fun _ h9 => h9) rfl dX2_settleAll_4 ?_
      refine gc_Vi (As := []) (rest := [.int x1]) (wr := [(o, .inr (2, [.ref o_credits, .ref o_light, .ref o_lit, .ref o_whole, .ref o_ends, .ref o_clashes, .int s_clashPairs, .ref o_reach, .ref o_latest])), (o_light, .inl (cJ, 1600, .inr (.inl s_light))), (o_lit, .inl (cI, 96, .inl s_lit)), (o_whole, .inl (cI, 8, .inl s_whole)), (o_ends, .inl (cI, 8, .inl s_ends)), (o_reach, .inl (cI, 200, .inl s_reach)), (o_latest, .inl (cI, 12, .inl s_latest))]) ⟨hx, hb, hml, hown, ht⟩ (c_X0_words l dC dI cI cJ o_credits o_credits_cells H.size s_credits_cells _ hw) (cwV 0 ht (g_V k_209 k_189 k_190 k_2 k_191) rfl rfl rfl (by decide +kernel) ⟨(Nat.le_of_ble_eq_true rfl), (Nat.le_of_ble_eq_true rfl)⟩) hK hP hD hS hA [1, 2] [0, 3, 4, 5, 6, 7, 8] rfl rfl (by decide) 1 rfl rfl rfl rfl hl.1 rfl (Nat.le_of_ble_eq_true rfl) ⟨(Nat.le_of_ble_eq_true rfl), (Nat.le_of_ble_eq_true rfl)⟩ dX2_settleAll_7 (fun r_1 u H locs hw hP hD hS => ?_)
      try dsimp only at hw
      have hP : va_P (dC, dI) vwCl [(o, .inr (2, [.ref o_credits, .ref o_light, .ref o_lit, .ref o_whole, .ref o_ends, .ref o_clashes, .int s_clashPairs, .ref o_reach, .ref o_latest])), (o_light, .inl (cJ, 1600, .inr (.inl s_light))), (o_lit, .inl (cI, 96, .inl s_lit)), (o_whole, .inl (cI, 8, .inl s_whole)), (o_ends, .inl (cI, 8, .inl s_ends)), (o_reach, .inl (cI, 200, .inl s_reach)), (o_latest, .inl (cI, 12, .inl s_latest)), (o_credits, .inr (0, [.ref o_credits_cells])), (o_credits_cells, .inl (cI, 82, .inl s_credits_cells))] H := hP
      have hD : va_D A [(o, .inr (2, [.ref o_credits, .ref o_light, .ref o_lit, .ref o_whole, .ref o_ends, .ref o_clashes, .int s_clashPairs, .ref o_reach, .ref o_latest])), (o_light, .inl (cJ, 1600, .inr (.inl s_light))), (o_lit, .inl (cI, 96, .inl s_lit)), (o_whole, .inl (cI, 8, .inl s_whole)), (o_ends, .inl (cI, 8, .inl s_ends)), (o_reach, .inl (cI, 200, .inl s_reach)), (o_latest, .inl (cI, 12, .inl s_latest)), (o_credits, .inr (0, [.ref o_credits_cells])), (o_credits_cells, .inl (cI, 82, .inl s_credits_cells))] := hD
      refine lv_icmp_ge (tgt := 33) hx hb dX2_settleAll_10 (by decide) (fun hc => ?_) (fun hc => ?_)
      · have hw := hw.1 hc
        rw [← hQQ]
        exact g_retv (u := (s_lit, s_whole, s_ends, s_reach, s_latest)) hx hb hr hlocks hw (hP.sub (ws' := [(o, .inr (2, [.ref o_credits, .ref o_light, .ref o_lit, .ref o_whole, .ref o_ends, .ref o_clashes, .int s_clashPairs, .ref o_reach, .ref o_latest])), (o_credits, .inr (0, [.ref o_credits_cells])), (o_credits_cells, .inl (cI, 82, .inl s_credits_cells)), (o_light, .inl (cJ, 1600, .inr (.inl s_light))), (o_lit, .inl (cI, 96, .inl s_lit)), (o_whole, .inl (cI, 8, .inl s_whole)), (o_ends, .inl (cI, 8, .inl s_ends)), (o_reach, .inl (cI, 200, .inl s_reach)), (o_latest, .inl (cI, 12, .inl s_latest))]) [0, 7, 8, 1, 2, 3, 4, 5, 6] rfl) hK (hD.sub (ws' := [(o, .inr (2, [.ref o_credits, .ref o_light, .ref o_lit, .ref o_whole, .ref o_ends, .ref o_clashes, .int s_clashPairs, .ref o_reach, .ref o_latest])), (o_credits, .inr (0, [.ref o_credits_cells])), (o_credits_cells, .inl (cI, 82, .inl s_credits_cells)), (o_light, .inl (cJ, 1600, .inr (.inl s_light))), (o_lit, .inl (cI, 96, .inl s_lit)), (o_whole, .inl (cI, 8, .inl s_whole)), (o_ends, .inl (cI, 8, .inl s_ends)), (o_reach, .inl (cI, 200, .inl s_reach)), (o_latest, .inl (cI, 12, .inl s_latest))]) [0, 7, 8, 1, 2, 3, 4, 5, 6] (by decide) rfl) hS dX2_settleAll_33
      · have hw := hw.2 hc
        refine lv_aload_n hx hb dX2_settleAll_13 rfl (lv_at hl 0 rfl) ?_
        refine lv_iload_n hx hb dX2_settleAll_14 rfl (lv_at hl 1 rfl) ?_
        refine lv_aload_n hx hb dX2_settleAll_15 rfl (lv_at hl 0 rfl) ?_
        refine va_get (D := (dC, dI)) (ci := 2) (v := .ref o_credits) (C := RX2) (T := TX2) (N := 9) hx hb ht i_X2 hown hK hP 0 rfl rfl 0 (by decide) (ht _ k_39) (fun _ h9 => h9) rfl dX2_settleAll_16 ?_
        refine lv_iload_n hx hb dX2_settleAll_19 rfl (lv_at hl 1 rfl) ?_
        refine lv_iconst (v := 3) hx hb dX2_settleAll_20 (by decide) ?_
        refine gc_Vi (As := [.int x1, .int 3]) (rest := [.int x1, .ref o]) (wr := [(o, .inr (2, [.ref o_credits, .ref o_light, .ref o_lit, .ref o_whole, .ref o_ends, .ref o_clashes, .int s_clashPairs, .ref o_reach, .ref o_latest])), (o_light, .inl (cJ, 1600, .inr (.inl s_light))), (o_lit, .inl (cI, 96, .inl s_lit)), (o_whole, .inl (cI, 8, .inl s_whole)), (o_ends, .inl (cI, 8, .inl s_ends)), (o_reach, .inl (cI, 200, .inl s_reach)), (o_latest, .inl (cI, 12, .inl s_latest))]) ⟨hx, hb, hml, hown, ht⟩ (c_X0_ofWord l dC dI cI cJ o_credits o_credits_cells H.size s_credits_cells x1 3 _ hw) (cwV 2 ht (g_V k_214 k_202 k_203 k_2 k_204) rfl rfl rfl (by decide +kernel) ⟨(Nat.le_of_ble_eq_true rfl), (Nat.le_of_ble_eq_true rfl)⟩) hK hP hD hS hA [7, 8] [0, 1, 2, 3, 4, 5, 6] rfl rfl (by decide) 7 rfl rfl rfl rfl hl.1 rfl (Nat.le_of_ble_eq_true rfl) ⟨(Nat.le_of_ble_eq_true rfl), (Nat.le_of_ble_eq_true rfl)⟩ dX2_settleAll_21 (fun r_2 u H locs hw hP hD hS => ?_)
        try dsimp only at hw
        have hP : va_P (dC, dI) vwCl [(o, .inr (2, [.ref o_credits, .ref o_light, .ref o_lit, .ref o_whole, .ref o_ends, .ref o_clashes, .int s_clashPairs, .ref o_reach, .ref o_latest])), (o_light, .inl (cJ, 1600, .inr (.inl s_light))), (o_lit, .inl (cI, 96, .inl s_lit)), (o_whole, .inl (cI, 8, .inl s_whole)), (o_ends, .inl (cI, 8, .inl s_ends)), (o_reach, .inl (cI, 200, .inl s_reach)), (o_latest, .inl (cI, 12, .inl s_latest)), (o_credits, .inr (0, [.ref o_credits_cells])), (o_credits_cells, .inl (cI, 82, .inl s_credits_cells))] H := hP
        have hD : va_D A [(o, .inr (2, [.ref o_credits, .ref o_light, .ref o_lit, .ref o_whole, .ref o_ends, .ref o_clashes, .int s_clashPairs, .ref o_reach, .ref o_latest])), (o_light, .inl (cJ, 1600, .inr (.inl s_light))), (o_lit, .inl (cI, 96, .inl s_lit)), (o_whole, .inl (cI, 8, .inl s_whole)), (o_ends, .inl (cI, 8, .inl s_ends)), (o_reach, .inl (cI, 200, .inl s_reach)), (o_latest, .inl (cI, 12, .inl s_latest)), (o_credits, .inr (0, [.ref o_credits_cells])), (o_credits_cells, .inl (cI, 82, .inl s_credits_cells))] := hD
        refine gc_Vv (As := [.int x1, .int r_2]) (rest := []) (wr := []) ⟨hx, hb, hml, hown, ht⟩ (c_X2_settle l dC dI cI cJ o o_credits o_light o_lit o_whole o_ends o_clashes o_reach o_latest o_credits_cells H.size s_credits_cells s_light s_lit s_whole s_ends s_reach s_latest s_clashPairs x1 r_2 _ hw) (cwV 2 ht (g_V k_353 k_354 k_355 k_3 k_356) rfl rfl rfl (by decide +kernel) ⟨(Nat.le_of_ble_eq_true rfl), (Nat.le_of_ble_eq_true rfl)⟩) hK hP hD hS hA [0, 7, 8, 1, 2, 3, 4, 5, 6] [] rfl rfl (by decide) 0 rfl rfl rfl rfl hl.1 rfl (Nat.le_of_ble_eq_true rfl) ⟨(Nat.le_of_ble_eq_true rfl), (Nat.le_of_ble_eq_true rfl)⟩ dX2_settleAll_24 (fun u H locs hw hP hD hS => ?_)
        obtain ⟨s_lit_3, s_whole_4, s_ends_5, s_reach_6, s_latest_7⟩ := u
        try dsimp only at hw
        have hP : va_P (dC, dI) vwCl [(o, .inr (2, [.ref o_credits, .ref o_light, .ref o_lit, .ref o_whole, .ref o_ends, .ref o_clashes, .int s_clashPairs, .ref o_reach, .ref o_latest])), (o_credits, .inr (0, [.ref o_credits_cells])), (o_credits_cells, .inl (cI, 82, .inl s_credits_cells)), (o_light, .inl (cJ, 1600, .inr (.inl s_light))), (o_lit, .inl (cI, 96, .inl s_lit_3)), (o_whole, .inl (cI, 8, .inl s_whole_4)), (o_ends, .inl (cI, 8, .inl s_ends_5)), (o_reach, .inl (cI, 200, .inl s_reach_6)), (o_latest, .inl (cI, 12, .inl s_latest_7))] H := hP
        have hD : va_D A [(o, .inr (2, [.ref o_credits, .ref o_light, .ref o_lit, .ref o_whole, .ref o_ends, .ref o_clashes, .int s_clashPairs, .ref o_reach, .ref o_latest])), (o_credits, .inr (0, [.ref o_credits_cells])), (o_credits_cells, .inl (cI, 82, .inl s_credits_cells)), (o_light, .inl (cJ, 1600, .inr (.inl s_light))), (o_lit, .inl (cI, 96, .inl s_lit_3)), (o_whole, .inl (cI, 8, .inl s_whole_4)), (o_ends, .inl (cI, 8, .inl s_ends_5)), (o_reach, .inl (cI, 200, .inl s_reach_6)), (o_latest, .inl (cI, 12, .inl s_latest_7))] := hD
        refine lv_iinc (v := (x1 + 1)) (lv' := [(1, .int (x1 + 1)), (0, .ref o)]) hx hb dX2_settleAll_27 hl (k := 1) rfl rfl (by decide) rfl (fun ls hl => ?_)
        refine lv_goto (tgt := 2) hx hb dX2_settleAll_30 (by decide) ?_
        exact ih (x1 + 1) s_lit_3 s_whole_4 s_ends_5 s_reach_6 s_latest_7 hw H locs ls hP hD hS (lv_sub (l' := [(0, .ref o), (1, .int (x1 + 1))]) hl [1, 0] rfl)
  obtain ⟨H, hHH⟩ : ∃ H, H = s.heap := ⟨_, rfl⟩
  rw [← hHH] at hP ⊢
  have hS : va_S A s.heap H [] := by rw [hHH]; exact hS
  clear hHH
  generalize ([] : List Loc) = locs at hS ⊢
  unfold P_X2_settleAll at hw
  refine lv_iconst (v := 0) hx hb dX2_settleAll_0 (by decide) ?_
  refine lv_istore_n (lv' := [(1, .int 0), (0, .ref o)]) hx hb dX2_settleAll_1 rfl hl (by decide) rfl (fun ls hl => ?_)
  obtain ⟨n, hw⟩ := hw
  exact L2  n 0 s_lit s_whole s_ends s_reach s_latest hw H locs ls hP hD hS (lv_sub (l' := [(0, .ref o), (1, .int 0)]) hl [1, 0] rfl)
abbrev rm_X2_wholeFrom : Room := { frames := 0, cells := 0, slots := 0, locals := 0 }
set_option maxHeartbeats 4000000 in
set_option maxRecDepth 100000 in
theorem c_X2_wholeFrom (l : Launch) (dC : Nat → ClassId) (dI : Nat → Nat → Nat) (cI cJ : ClassId) (o o_credits o_light o_lit o_whole o_ends o_clashes o_reach o_latest : Nat) (sz : Nat) (s_whole : Nat → Int32) (s_clashPairs : Int32) (p0 : Int32) (Q : Int32 → Prop) (hw : P_X2_wholeFrom p0 s_whole Q) : Met l yX2_wholeFrom (Cond.code yX2_wholeFrom cX2_wholeFrom 2 (some .int) :: TBL) rm_X2_wholeFrom (gPc (dC, dI) vwCl (gTy cI cJ) [.ref o, .int p0] [(o, .inr (2, [.ref o_credits, .ref o_light, .ref o_lit, .ref o_whole, .ref o_ends, .ref o_clashes, .int s_clashPairs, .ref o_reach, .ref o_latest])), (o_whole, .inl (cI, 8, .inl s_whole))] sz) (va_Qi (fun (r : Int32) (u : Unit) => Q r ) (gB (dC, dI) vwCl (gTy cI cJ) (va_A [(o, .inr (2, [.ref o_credits, .ref o_light, .ref o_lit, .ref o_whole, .ref o_ends, .ref o_clashes, .int s_clashPairs, .ref o_reach, .ref o_latest])), (o_whole, .inl (cI, 8, .inl s_whole))] sz) (fun (u : Unit) => [(o, .inr (2, [.ref o_credits, .ref o_light, .ref o_lit, .ref o_whole, .ref o_ends, .ref o_clashes, .int s_clashPairs, .ref o_reach, .ref o_latest])), (o_whole, .inl (cI, 8, .inl s_whole))])) (va_A [(o, .inr (2, [.ref o_credits, .ref o_light, .ref o_lit, .ref o_whole, .ref o_ends, .ref o_clashes, .int s_clashPairs, .ref o_reach, .ref o_latest])), (o_whole, .inl (cI, 8, .inl s_whole))] sz)) 0 0 (va_A [(o, .inr (2, [.ref o_credits, .ref o_light, .ref o_lit, .ref o_whole, .ref o_ends, .ref o_clashes, .int s_clashPairs, .ref o_reach, .ref o_latest])), (o_whole, .inl (cI, 8, .inl s_whole))] sz) := by
  refine Met.ofW (cc := cX2_wholeFrom) (maxL := 2) (ret := (some .int)) (by decide) rfl ?_
  intro p e s m args below meth c s₁ B hml hv
  obtain ⟨rfl, hsz, hP, hK, hD0⟩ := hv
  have hx := B.exec
  have hb := B.bytes
  have hr := B.returns
  have hts := atoms_spec (ws := Cond.code yX2_wholeFrom cX2_wholeFrom 2 (some .int) :: TBL) B.pre
  have ht : ∀ w ∈ TBL, w.before ([.ref o, .int p0] : List Value).toArray s = true := fun w h => hts w (List.mem_cons_of_mem _ h)
  clear hts
  have hown : s.vm.findClass RX2 = some m.cls := findClass_of_methodNamed B.named
  have hlocks := B.notSynchronized
  clear B
  subst hsz
  have hD := hD0.self (sz := s.heap.size)
  clear hD0
  generalize hAe : va_A [(o, .inr (2, [.ref o_credits, .ref o_light, .ref o_lit, .ref o_whole, .ref o_ends, .ref o_clashes, .int s_clashPairs, .ref o_reach, .ref o_latest])), (o_whole, .inl (cI, 8, .inl s_whole))] s.heap.size = A at hD ⊢
  have hA : ∀ q : Nat, s.heap.size ≤ q → A q := fun q h => by rw [← hAe]; exact Or.inr h
  clear hAe
  have hS : va_S A s.heap s.heap [] := va_S.rf
  have hP : va_P (dC, dI) vwCl [(o, .inr (2, [.ref o_credits, .ref o_light, .ref o_lit, .ref o_whole, .ref o_ends, .ref o_clashes, .int s_clashPairs, .ref o_reach, .ref o_latest])), (o_whole, .inl (cI, 8, .inl s_whole))] s.heap := hP
  have hl := lv_entry ([.ref o, .int p0]) (n := 2) (Nat.le_of_ble_eq_true rfl)
  rw [lg_entry_eq]
  generalize (lg_sl ([.ref o, .int p0]) ++ List.replicate (2 - (lg_sl ([.ref o, .int p0])).length) Slot.unset).toArray = ls at hl ⊢
  have hl : lv_has ls 2 [(0, .ref o), (1, .int p0)] := hl
  generalize hQQ : MQ below _ _ _ 0 0 A = QQ
  show W p l e rm_X2_wholeFrom s m ([.ref o, .int p0] : List Value).toArray below meth c s.heap [] 0 0 QQ (F0 m 0 ls [])
  obtain ⟨H, hHH⟩ : ∃ H, H = s.heap := ⟨_, rfl⟩
  rw [← hHH] at hP ⊢
  have hS : va_S A s.heap H [] := by rw [hHH]; exact hS
  clear hHH
  generalize ([] : List Loc) = locs at hS ⊢
  unfold P_X2_wholeFrom at hw
  refine lv_iload_n hx hb dX2_wholeFrom_0 rfl (lv_at hl 1 rfl) ?_
  refine lv_if_lt (tgt := 22) hx hb dX2_wholeFrom_1 (by decide) (fun hc => ?_) (fun hc => ?_)
  · have hw := hw.1 hc
    refine lv_iconst (v := (-1)) hx hb dX2_wholeFrom_22 (by decide) ?_
    rw [← hQQ]
    exact g_reti (v := (-1)) (u := ()) hx hb hr rfl hlocks hw hP hK hD hS dX2_wholeFrom_23
  · have hw := hw.2 hc
    refine lv_iload_n hx hb dX2_wholeFrom_4 rfl (lv_at hl 1 rfl) ?_
    refine lv_aload_n hx hb dX2_wholeFrom_5 rfl (lv_at hl 0 rfl) ?_
    refine va_get (D := (dC, dI)) (ci := 2) (v := .ref o_whole) (C := RX2) (T := TX2) (N := 9) hx hb ht i_X2 hown hK hP 0 rfl rfl 3 (by decide) (ht _ k_42) (fun _ h9 => h9) rfl dX2_wholeFrom_6 ?_
    refine va_alen (v := 8) hx hb hK hP 1 0 rfl rfl rfl dX2_wholeFrom_9 ?_
    refine lv_icmp_ge (tgt := 22) hx hb dX2_wholeFrom_10 (by decide) (fun hc => ?_) (fun hc => ?_)
    · have hw := hw.1 hc
      refine lv_iconst (v := (-1)) hx hb dX2_wholeFrom_22 (by decide) ?_
      rw [← hQQ]
      exact g_reti (v := (-1)) (u := ()) hx hb hr rfl hlocks hw hP hK hD hS dX2_wholeFrom_23
    · have hw := hw.2 hc
      refine lv_aload_n hx hb dX2_wholeFrom_13 rfl (lv_at hl 0 rfl) ?_
      refine va_get (D := (dC, dI)) (ci := 2) (v := .ref o_whole) (C := RX2) (T := TX2) (N := 9) hx hb ht i_X2 hown hK hP 0 rfl rfl 3 (by decide) (ht _ k_42) (fun _ h9 => h9) rfl dX2_wholeFrom_14 ?_
      refine lv_iload_n hx hb dX2_wholeFrom_17 rfl (lv_at hl 1 rfl) ?_
      obtain ⟨hi_1, hw⟩ := hw
      refine gv_iald hx hb hK hP 1 0 rfl rfl rfl hi_1 dX2_wholeFrom_18 ?_
      refine lv_goto (tgt := 23) hx hb dX2_wholeFrom_19 (by decide) ?_
      rw [← hQQ]
      exact g_reti (v := (s_whole p0.toNatClampNeg)) (u := ()) hx hb hr rfl hlocks hw hP hK hD hS dX2_wholeFrom_23
abbrev rm_X2_endOf : Room := { frames := 0, cells := 0, slots := 0, locals := 0 }
set_option maxHeartbeats 4000000 in
set_option maxRecDepth 100000 in
theorem c_X2_endOf (l : Launch) (dC : Nat → ClassId) (dI : Nat → Nat → Nat) (cI cJ : ClassId) (o o_credits o_light o_lit o_whole o_ends o_clashes o_reach o_latest : Nat) (sz : Nat) (s_ends : Nat → Int32) (s_clashPairs : Int32) (p0 : Int32) (Q : Int32 → Prop) (hw : P_X2_endOf p0 s_ends Q) : Met l yX2_endOf (Cond.code yX2_endOf cX2_endOf 2 (some .int) :: TBL) rm_X2_endOf (gPc (dC, dI) vwCl (gTy cI cJ) [.ref o, .int p0] [(o, .inr (2, [.ref o_credits, .ref o_light, .ref o_lit, .ref o_whole, .ref o_ends, .ref o_clashes, .int s_clashPairs, .ref o_reach, .ref o_latest])), (o_ends, .inl (cI, 8, .inl s_ends))] sz) (va_Qi (fun (r : Int32) (u : Unit) => Q r ) (gB (dC, dI) vwCl (gTy cI cJ) (va_A [(o, .inr (2, [.ref o_credits, .ref o_light, .ref o_lit, .ref o_whole, .ref o_ends, .ref o_clashes, .int s_clashPairs, .ref o_reach, .ref o_latest])), (o_ends, .inl (cI, 8, .inl s_ends))] sz) (fun (u : Unit) => [(o, .inr (2, [.ref o_credits, .ref o_light, .ref o_lit, .ref o_whole, .ref o_ends, .ref o_clashes, .int s_clashPairs, .ref o_reach, .ref o_latest])), (o_ends, .inl (cI, 8, .inl s_ends))])) (va_A [(o, .inr (2, [.ref o_credits, .ref o_light, .ref o_lit, .ref o_whole, .ref o_ends, .ref o_clashes, .int s_clashPairs, .ref o_reach, .ref o_latest])), (o_ends, .inl (cI, 8, .inl s_ends))] sz)) 0 0 (va_A [(o, .inr (2, [.ref o_credits, .ref o_light, .ref o_lit, .ref o_whole, .ref o_ends, .ref o_clashes, .int s_clashPairs, .ref o_reach, .ref o_latest])), (o_ends, .inl (cI, 8, .inl s_ends))] sz) := by
  refine Met.ofW (cc := cX2_endOf) (maxL := 2) (ret := (some .int)) (by decide) rfl ?_
  intro p e s m args below meth c s₁ B hml hv
  obtain ⟨rfl, hsz, hP, hK, hD0⟩ := hv
  have hx := B.exec
  have hb := B.bytes
  have hr := B.returns
  have hts := atoms_spec (ws := Cond.code yX2_endOf cX2_endOf 2 (some .int) :: TBL) B.pre
  have ht : ∀ w ∈ TBL, w.before ([.ref o, .int p0] : List Value).toArray s = true := fun w h => hts w (List.mem_cons_of_mem _ h)
  clear hts
  have hown : s.vm.findClass RX2 = some m.cls := findClass_of_methodNamed B.named
  have hlocks := B.notSynchronized
  clear B
  subst hsz
  have hD := hD0.self (sz := s.heap.size)
  clear hD0
  generalize hAe : va_A [(o, .inr (2, [.ref o_credits, .ref o_light, .ref o_lit, .ref o_whole, .ref o_ends, .ref o_clashes, .int s_clashPairs, .ref o_reach, .ref o_latest])), (o_ends, .inl (cI, 8, .inl s_ends))] s.heap.size = A at hD ⊢
  have hA : ∀ q : Nat, s.heap.size ≤ q → A q := fun q h => by rw [← hAe]; exact Or.inr h
  clear hAe
  have hS : va_S A s.heap s.heap [] := va_S.rf
  have hP : va_P (dC, dI) vwCl [(o, .inr (2, [.ref o_credits, .ref o_light, .ref o_lit, .ref o_whole, .ref o_ends, .ref o_clashes, .int s_clashPairs, .ref o_reach, .ref o_latest])), (o_ends, .inl (cI, 8, .inl s_ends))] s.heap := hP
  have hl := lv_entry ([.ref o, .int p0]) (n := 2) (Nat.le_of_ble_eq_true rfl)
  rw [lg_entry_eq]
  generalize (lg_sl ([.ref o, .int p0]) ++ List.replicate (2 - (lg_sl ([.ref o, .int p0])).length) Slot.unset).toArray = ls at hl ⊢
  have hl : lv_has ls 2 [(0, .ref o), (1, .int p0)] := hl
  generalize hQQ : MQ below _ _ _ 0 0 A = QQ
  show W p l e rm_X2_endOf s m ([.ref o, .int p0] : List Value).toArray below meth c s.heap [] 0 0 QQ (F0 m 0 ls [])
  obtain ⟨H, hHH⟩ : ∃ H, H = s.heap := ⟨_, rfl⟩
  rw [← hHH] at hP ⊢
  have hS : va_S A s.heap H [] := by rw [hHH]; exact hS
  clear hHH
  generalize ([] : List Loc) = locs at hS ⊢
  unfold P_X2_endOf at hw
  refine lv_iload_n hx hb dX2_endOf_0 rfl (lv_at hl 1 rfl) ?_
  refine lv_if_lt (tgt := 22) hx hb dX2_endOf_1 (by decide) (fun hc => ?_) (fun hc => ?_)
  · have hw := hw.1 hc
    refine lv_sipush (v := 200) hx hb dX2_endOf_22 (by decide) ?_
    rw [← hQQ]
    exact g_reti (v := 200) (u := ()) hx hb hr rfl hlocks hw hP hK hD hS dX2_endOf_25
  · have hw := hw.2 hc
    refine lv_iload_n hx hb dX2_endOf_4 rfl (lv_at hl 1 rfl) ?_
    refine lv_aload_n hx hb dX2_endOf_5 rfl (lv_at hl 0 rfl) ?_
    refine va_get (D := (dC, dI)) (ci := 2) (v := .ref o_ends) (C := RX2) (T := TX2) (N := 9) hx hb ht i_X2 hown hK hP 0 rfl rfl 4 (by decide) (ht _ k_43) (fun _ h9 => h9) rfl dX2_endOf_6 ?_
    refine va_alen (v := 8) hx hb hK hP 1 0 rfl rfl rfl dX2_endOf_9 ?_
    refine lv_icmp_ge (tgt := 22) hx hb dX2_endOf_10 (by decide) (fun hc => ?_) (fun hc => ?_)
    · have hw := hw.1 hc
      refine lv_sipush (v := 200) hx hb dX2_endOf_22 (by decide) ?_
      rw [← hQQ]
      exact g_reti (v := 200) (u := ()) hx hb hr rfl hlocks hw hP hK hD hS dX2_endOf_25
    · have hw := hw.2 hc
      refine lv_aload_n hx hb dX2_endOf_13 rfl (lv_at hl 0 rfl) ?_
      refine va_get (D := (dC, dI)) (ci := 2) (v := .ref o_ends) (C := RX2) (T := TX2) (N := 9) hx hb ht i_X2 hown hK hP 0 rfl rfl 4 (by decide) (ht _ k_43) (fun _ h9 => h9) rfl dX2_endOf_14 ?_
      refine lv_iload_n hx hb dX2_endOf_17 rfl (lv_at hl 1 rfl) ?_
      obtain ⟨hi_1, hw⟩ := hw
      refine gv_iald hx hb hK hP 1 0 rfl rfl rfl hi_1 dX2_endOf_18 ?_
      refine lv_goto (tgt := 25) hx hb dX2_endOf_19 (by decide) ?_
      rw [← hQQ]
      exact g_reti (v := (s_ends p0.toNatClampNeg)) (u := ()) hx hb hr rfl hlocks hw hP hK hD hS dX2_endOf_25
abbrev rm_X2_goesAt : Room := { frames := 1, cells := 0, slots := 0, locals := 21 }
set_option maxHeartbeats 4000000 in
set_option maxRecDepth 100000 in
theorem c_X2_goesAt (l : Launch) (dC : Nat → ClassId) (dI : Nat → Nat → Nat) (cI cJ : ClassId) (o o_credits o_light o_lit o_whole o_ends o_clashes o_reach o_latest : Nat) (sz : Nat) (s_ends : Nat → Int32) (s_clashPairs : Int32) (p0 : Int32) (Q : Int32 → Prop) (hw : P_X2_goesAt p0 s_ends Q) : Met l yX2_goesAt (Cond.code yX2_goesAt cX2_goesAt 3 (some .int) :: TBL) rm_X2_goesAt (gPc (dC, dI) vwCl (gTy cI cJ) [.ref o, .int p0] [(o, .inr (2, [.ref o_credits, .ref o_light, .ref o_lit, .ref o_whole, .ref o_ends, .ref o_clashes, .int s_clashPairs, .ref o_reach, .ref o_latest])), (o_ends, .inl (cI, 8, .inl s_ends))] sz) (va_Qi (fun (r : Int32) (u : Unit) => Q r ) (gB (dC, dI) vwCl (gTy cI cJ) (va_A [(o, .inr (2, [.ref o_credits, .ref o_light, .ref o_lit, .ref o_whole, .ref o_ends, .ref o_clashes, .int s_clashPairs, .ref o_reach, .ref o_latest])), (o_ends, .inl (cI, 8, .inl s_ends))] sz) (fun (u : Unit) => [(o, .inr (2, [.ref o_credits, .ref o_light, .ref o_lit, .ref o_whole, .ref o_ends, .ref o_clashes, .int s_clashPairs, .ref o_reach, .ref o_latest])), (o_ends, .inl (cI, 8, .inl s_ends))])) (va_A [(o, .inr (2, [.ref o_credits, .ref o_light, .ref o_lit, .ref o_whole, .ref o_ends, .ref o_clashes, .int s_clashPairs, .ref o_reach, .ref o_latest])), (o_ends, .inl (cI, 8, .inl s_ends))] sz)) 0 0 (va_A [(o, .inr (2, [.ref o_credits, .ref o_light, .ref o_lit, .ref o_whole, .ref o_ends, .ref o_clashes, .int s_clashPairs, .ref o_reach, .ref o_latest])), (o_ends, .inl (cI, 8, .inl s_ends))] sz) := by
  refine Met.ofW (cc := cX2_goesAt) (maxL := 3) (ret := (some .int)) (by decide) rfl ?_
  intro p e s m args below meth c s₁ B hml hv
  obtain ⟨rfl, hsz, hP, hK, hD0⟩ := hv
  have hx := B.exec
  have hb := B.bytes
  have hr := B.returns
  have hts := atoms_spec (ws := Cond.code yX2_goesAt cX2_goesAt 3 (some .int) :: TBL) B.pre
  have ht : ∀ w ∈ TBL, w.before ([.ref o, .int p0] : List Value).toArray s = true := fun w h => hts w (List.mem_cons_of_mem _ h)
  clear hts
  have hown : s.vm.findClass RX2 = some m.cls := findClass_of_methodNamed B.named
  have hlocks := B.notSynchronized
  clear B
  subst hsz
  have hD := hD0.self (sz := s.heap.size)
  clear hD0
  generalize hAe : va_A [(o, .inr (2, [.ref o_credits, .ref o_light, .ref o_lit, .ref o_whole, .ref o_ends, .ref o_clashes, .int s_clashPairs, .ref o_reach, .ref o_latest])), (o_ends, .inl (cI, 8, .inl s_ends))] s.heap.size = A at hD ⊢
  have hA : ∀ q : Nat, s.heap.size ≤ q → A q := fun q h => by rw [← hAe]; exact Or.inr h
  clear hAe
  have hS : va_S A s.heap s.heap [] := va_S.rf
  have hP : va_P (dC, dI) vwCl [(o, .inr (2, [.ref o_credits, .ref o_light, .ref o_lit, .ref o_whole, .ref o_ends, .ref o_clashes, .int s_clashPairs, .ref o_reach, .ref o_latest])), (o_ends, .inl (cI, 8, .inl s_ends))] s.heap := hP
  have hl := lv_entry ([.ref o, .int p0]) (n := 3) (Nat.le_of_ble_eq_true rfl)
  rw [lg_entry_eq]
  generalize (lg_sl ([.ref o, .int p0]) ++ List.replicate (3 - (lg_sl ([.ref o, .int p0])).length) Slot.unset).toArray = ls at hl ⊢
  have hl : lv_has ls 3 [(0, .ref o), (1, .int p0)] := hl
  generalize hQQ : MQ below _ _ _ 0 0 A = QQ
  show W p l e rm_X2_goesAt s m ([.ref o, .int p0] : List Value).toArray below meth c s.heap [] 0 0 QQ (F0 m 0 ls [])
  obtain ⟨H, hHH⟩ : ∃ H, H = s.heap := ⟨_, rfl⟩
  rw [← hHH] at hP ⊢
  have hS : va_S A s.heap H [] := by rw [hHH]; exact hS
  clear hHH
  generalize ([] : List Loc) = locs at hS ⊢
  unfold P_X2_goesAt at hw
  refine lv_aload_n hx hb dX2_goesAt_0 rfl (lv_at hl 0 rfl) ?_
  refine lv_iload_n hx hb dX2_goesAt_1 rfl (lv_at hl 1 rfl) ?_
  refine gc_Vi (As := [.int p0]) (rest := []) (wr := []) ⟨hx, hb, hml, hown, ht⟩ (c_X2_endOf l dC dI cI cJ o o_credits o_light o_lit o_whole o_ends o_clashes o_reach o_latest H.size s_ends s_clashPairs p0 _ hw) (cwV 1 ht (g_V k_250 k_252 k_s2 k_3 k_253) rfl rfl rfl (by decide +kernel) ⟨(Nat.le_of_ble_eq_true rfl), (Nat.le_of_ble_eq_true rfl)⟩) hK hP hD hS hA [0, 1] [] rfl rfl (by decide) 0 rfl rfl rfl rfl hl.1 rfl (Nat.le_of_ble_eq_true rfl) ⟨(Nat.le_of_ble_eq_true rfl), (Nat.le_of_ble_eq_true rfl)⟩ dX2_goesAt_2 (fun r_1 u H locs hw hP hD hS => ?_)
  try dsimp only at hw
  have hP : va_P (dC, dI) vwCl [(o, .inr (2, [.ref o_credits, .ref o_light, .ref o_lit, .ref o_whole, .ref o_ends, .ref o_clashes, .int s_clashPairs, .ref o_reach, .ref o_latest])), (o_ends, .inl (cI, 8, .inl s_ends))] H := hP
  have hD : va_D A [(o, .inr (2, [.ref o_credits, .ref o_light, .ref o_lit, .ref o_whole, .ref o_ends, .ref o_clashes, .int s_clashPairs, .ref o_reach, .ref o_latest])), (o_ends, .inl (cI, 8, .inl s_ends))] := hD
  refine lv_istore_n (lv' := [(2, .int r_1), (0, .ref o), (1, .int p0)]) hx hb dX2_goesAt_5 rfl hl (by decide) rfl (fun ls hl => ?_)
  refine lv_iload_n hx hb dX2_goesAt_6 rfl (lv_at hl 0 rfl) ?_
  refine lv_sipush (v := 200) hx hb dX2_goesAt_7 (by decide) ?_
  refine lv_icmp_ge (tgt := 17) hx hb dX2_goesAt_10 (by decide) (fun hc => ?_) (fun hc => ?_)
  · have hw := hw.1 hc
    refine lv_iconst (v := (-1)) hx hb dX2_goesAt_17 (by decide) ?_
    rw [← hQQ]
    exact g_reti (v := (-1)) (u := ()) hx hb hr rfl hlocks hw hP hK hD hS dX2_goesAt_18
  · have hw := hw.2 hc
    refine lv_iload_n hx hb dX2_goesAt_13 rfl (lv_at hl 0 rfl) ?_
    refine lv_goto (tgt := 18) hx hb dX2_goesAt_14 (by decide) ?_
    rw [← hQQ]
    exact g_reti (v := r_1) (u := ()) hx hb hr rfl hlocks hw hP hK hD hS dX2_goesAt_18
abbrev rm_X2_firstLit : Room := { frames := 1, cells := 0, slots := 0, locals := 23 }
set_option maxHeartbeats 4000000 in
set_option maxRecDepth 100000 in
theorem c_X2_firstLit (l : Launch) (dC : Nat → ClassId) (dI : Nat → Nat → Nat) (cI cJ : ClassId) (o o_credits o_light o_lit o_whole o_ends o_clashes o_reach o_latest o_credits_cells : Nat) (sz : Nat) (s_credits_cells : Nat → Int32) (s_lit : Nat → Int32) (s_clashPairs : Int32) (p0 : Int32) (Q : Int32 → Prop) (hw : P_X2_firstLit p0 s_credits_cells s_lit Q) : Met l yX2_firstLit (Cond.code yX2_firstLit cX2_firstLit 5 (some .int) :: TBL) rm_X2_firstLit (gPc (dC, dI) vwCl (gTy cI cJ) [.ref o, .int p0] [(o, .inr (2, [.ref o_credits, .ref o_light, .ref o_lit, .ref o_whole, .ref o_ends, .ref o_clashes, .int s_clashPairs, .ref o_reach, .ref o_latest])), (o_credits, .inr (0, [.ref o_credits_cells])), (o_credits_cells, .inl (cI, 82, .inl s_credits_cells)), (o_lit, .inl (cI, 96, .inl s_lit))] sz) (va_Qi (fun (r : Int32) (u : Unit) => Q r ) (gB (dC, dI) vwCl (gTy cI cJ) (va_A [(o, .inr (2, [.ref o_credits, .ref o_light, .ref o_lit, .ref o_whole, .ref o_ends, .ref o_clashes, .int s_clashPairs, .ref o_reach, .ref o_latest])), (o_credits, .inr (0, [.ref o_credits_cells])), (o_credits_cells, .inl (cI, 82, .inl s_credits_cells)), (o_lit, .inl (cI, 96, .inl s_lit))] sz) (fun (u : Unit) => [(o, .inr (2, [.ref o_credits, .ref o_light, .ref o_lit, .ref o_whole, .ref o_ends, .ref o_clashes, .int s_clashPairs, .ref o_reach, .ref o_latest])), (o_credits, .inr (0, [.ref o_credits_cells])), (o_credits_cells, .inl (cI, 82, .inl s_credits_cells)), (o_lit, .inl (cI, 96, .inl s_lit))])) (va_A [(o, .inr (2, [.ref o_credits, .ref o_light, .ref o_lit, .ref o_whole, .ref o_ends, .ref o_clashes, .int s_clashPairs, .ref o_reach, .ref o_latest])), (o_credits, .inr (0, [.ref o_credits_cells])), (o_credits_cells, .inl (cI, 82, .inl s_credits_cells)), (o_lit, .inl (cI, 96, .inl s_lit))] sz)) 0 0 (va_A [(o, .inr (2, [.ref o_credits, .ref o_light, .ref o_lit, .ref o_whole, .ref o_ends, .ref o_clashes, .int s_clashPairs, .ref o_reach, .ref o_latest])), (o_credits, .inr (0, [.ref o_credits_cells])), (o_credits_cells, .inl (cI, 82, .inl s_credits_cells)), (o_lit, .inl (cI, 96, .inl s_lit))] sz) := by
  refine Met.ofW (cc := cX2_firstLit) (maxL := 5) (ret := (some .int)) (by decide) rfl ?_
  intro p e s m args below meth c s₁ B hml hv
  obtain ⟨rfl, hsz, hP, hK, hD0⟩ := hv
  have hx := B.exec
  have hb := B.bytes
  have hr := B.returns
  have hts := atoms_spec (ws := Cond.code yX2_firstLit cX2_firstLit 5 (some .int) :: TBL) B.pre
  have ht : ∀ w ∈ TBL, w.before ([.ref o, .int p0] : List Value).toArray s = true := fun w h => hts w (List.mem_cons_of_mem _ h)
  clear hts
  have hown : s.vm.findClass RX2 = some m.cls := findClass_of_methodNamed B.named
  have hlocks := B.notSynchronized
  clear B
  subst hsz
  have hD := hD0.self (sz := s.heap.size)
  clear hD0
  generalize hAe : va_A [(o, .inr (2, [.ref o_credits, .ref o_light, .ref o_lit, .ref o_whole, .ref o_ends, .ref o_clashes, .int s_clashPairs, .ref o_reach, .ref o_latest])), (o_credits, .inr (0, [.ref o_credits_cells])), (o_credits_cells, .inl (cI, 82, .inl s_credits_cells)), (o_lit, .inl (cI, 96, .inl s_lit))] s.heap.size = A at hD ⊢
  have hA : ∀ q : Nat, s.heap.size ≤ q → A q := fun q h => by rw [← hAe]; exact Or.inr h
  clear hAe
  have hS : va_S A s.heap s.heap [] := va_S.rf
  have hP : va_P (dC, dI) vwCl [(o, .inr (2, [.ref o_credits, .ref o_light, .ref o_lit, .ref o_whole, .ref o_ends, .ref o_clashes, .int s_clashPairs, .ref o_reach, .ref o_latest])), (o_credits, .inr (0, [.ref o_credits_cells])), (o_credits_cells, .inl (cI, 82, .inl s_credits_cells)), (o_lit, .inl (cI, 96, .inl s_lit))] s.heap := hP
  have hl := lv_entry ([.ref o, .int p0]) (n := 5) (Nat.le_of_ble_eq_true rfl)
  rw [lg_entry_eq]
  generalize (lg_sl ([.ref o, .int p0]) ++ List.replicate (5 - (lg_sl ([.ref o, .int p0])).length) Slot.unset).toArray = ls at hl ⊢
  have hl : lv_has ls 5 [(0, .ref o), (1, .int p0)] := hl
  generalize hQQ : MQ below _ _ _ 0 0 A = QQ
  show W p l e rm_X2_firstLit s m ([.ref o, .int p0] : List Value).toArray below meth c s.heap [] 0 0 QQ (F0 m 0 ls [])
  have L4 : ∀ (x1 : Int32), ∀ (n : Nat) (x2 : Int32) (x3 : Int32), P_X2_firstLit_L4 x1 s_credits_cells s_lit Q n x2 x3 → ∀ (H : Heap) (locs : List Loc) (ls : Array Slot), va_P (dC, dI) vwCl [(o, .inr (2, [.ref o_credits, .ref o_light, .ref o_lit, .ref o_whole, .ref o_ends, .ref o_clashes, .int s_clashPairs, .ref o_reach, .ref o_latest])), (o_credits, .inr (0, [.ref o_credits_cells])), (o_credits_cells, .inl (cI, 82, .inl s_credits_cells)), (o_lit, .inl (cI, 96, .inl s_lit))] H → va_D A [(o, .inr (2, [.ref o_credits, .ref o_light, .ref o_lit, .ref o_whole, .ref o_ends, .ref o_clashes, .int s_clashPairs, .ref o_reach, .ref o_latest])), (o_credits, .inr (0, [.ref o_credits_cells])), (o_credits_cells, .inl (cI, 82, .inl s_credits_cells)), (o_lit, .inl (cI, 96, .inl s_lit))] → va_S A s.heap H locs → lv_has ls 5 [(0, .ref o), (1, .int x1), (2, .int x2), (3, .int x3)] → W p l e rm_X2_firstLit s m ([.ref o, .int p0] : List Value).toArray below meth c H locs 0 0 QQ (F0 m 4 ls []) := by
    intro x1
    intro n
    induction n with
    | zero => intro x2 x3 hw; rw [P_X2_firstLit_L4_z] at hw; exact hw.elim
    | succ n ih =>
      intro x2 x3 hw
      rw [P_X2_firstLit_L4_s] at hw
      generalize hrec : P_X2_firstLit_L4 x1 s_credits_cells s_lit Q n = rec4 at ih hw
      have J45 : ∀ (x2 : Int32) (x3 : Int32), P_X2_firstLit_J45 rec4 x2 x3 → ∀ (H : Heap) (locs : List Loc) (ls : Array Slot), va_P (dC, dI) vwCl [(o, .inr (2, [.ref o_credits, .ref o_light, .ref o_lit, .ref o_whole, .ref o_ends, .ref o_clashes, .int s_clashPairs, .ref o_reach, .ref o_latest])), (o_credits, .inr (0, [.ref o_credits_cells])), (o_credits_cells, .inl (cI, 82, .inl s_credits_cells)), (o_lit, .inl (cI, 96, .inl s_lit))] H → va_D A [(o, .inr (2, [.ref o_credits, .ref o_light, .ref o_lit, .ref o_whole, .ref o_ends, .ref o_clashes, .int s_clashPairs, .ref o_reach, .ref o_latest])), (o_credits, .inr (0, [.ref o_credits_cells])), (o_credits_cells, .inl (cI, 82, .inl s_credits_cells)), (o_lit, .inl (cI, 96, .inl s_lit))] → va_S A s.heap H locs → lv_has ls 5 [(0, .ref o), (1, .int x1), (2, .int x2), (3, .int x3)] → W p l e rm_X2_firstLit s m ([.ref o, .int p0] : List Value).toArray below meth c H locs 0 0 QQ (F0 m 45 ls []) := by
        intro x2 x3 hw H locs ls hP hD hS hl
        unfold P_X2_firstLit_J45 at hw
        refine lv_iinc (v := (x3 + 1)) (lv' := [(3, .int (x3 + 1)), (0, .ref o), (1, .int x1), (2, .int x2)]) hx hb dX2_firstLit_45 hl (k := 3) rfl rfl (by decide) rfl (fun ls hl => ?_)
        refine lv_goto (tgt := 4) hx hb dX2_firstLit_48 (by decide) ?_
        exact ih x2 (x3 + 1) hw H locs ls hP hD hS (lv_sub (l' := [(0, .ref o), (1, .int x1), (2, .int x2), (3, .int (x3 + 1))]) hl [1, 2, 3, 0] rfl)
      have J42 : ∀ (x3 : Int32) (x4 : Int32), P_X2_firstLit_J42 rec4 x3 x4 → ∀ (H : Heap) (locs : List Loc) (ls : Array Slot), va_P (dC, dI) vwCl [(o, .inr (2, [.ref o_credits, .ref o_light, .ref o_lit, .ref o_whole, .ref o_ends, .ref o_clashes, .int s_clashPairs, .ref o_reach, .ref o_latest])), (o_credits, .inr (0, [.ref o_credits_cells])), (o_credits_cells, .inl (cI, 82, .inl s_credits_cells)), (o_lit, .inl (cI, 96, .inl s_lit))] H → va_D A [(o, .inr (2, [.ref o_credits, .ref o_light, .ref o_lit, .ref o_whole, .ref o_ends, .ref o_clashes, .int s_clashPairs, .ref o_reach, .ref o_latest])), (o_credits, .inr (0, [.ref o_credits_cells])), (o_credits_cells, .inl (cI, 82, .inl s_credits_cells)), (o_lit, .inl (cI, 96, .inl s_lit))] → va_S A s.heap H locs → lv_has ls 5 [(0, .ref o), (1, .int x1), (3, .int x3), (4, .int x4)] → W p l e rm_X2_firstLit s m ([.ref o, .int p0] : List Value).toArray below meth c H locs 0 0 QQ (F0 m 42 ls []) := by
        intro x3 x4 hw H locs ls hP hD hS hl
        unfold P_X2_firstLit_J42 at hw
        refine lv_iload hx hb dX2_firstLit_42 (lv_at hl 3 rfl) ?_
        refine lv_istore_n (lv' := [(2, .int x4), (0, .ref o), (1, .int x1), (3, .int x3), (4, .int x4)]) hx hb dX2_firstLit_44 rfl hl (by decide) rfl (fun ls hl => ?_)
        exact J45 x4 x3 hw H locs ls hP hD hS (lv_sub (l' := [(0, .ref o), (1, .int x1), (2, .int x4), (3, .int x3)]) hl [1, 2, 0, 3] rfl)
      intro H locs ls hP hD hS hl
      unfold B_X2_firstLit_L4 at hw
      refine lv_iload_n hx hb dX2_firstLit_4 rfl (lv_at hl 3 rfl) ?_
      refine lv_aload_n hx hb dX2_firstLit_5 rfl (lv_at hl 0 rfl) ?_
      refine va_get (D := (dC, dI)) (ci := 2) (v := .ref o_credits) (C := RX2) (T := TX2) (N := 9) hx hb ht i_X2 hown hK hP 0 rfl rfl 0 (by decide) (ht _ k_39) (fun _ h9 => h9) rfl dX2_firstLit_6 ?_
      refine lv_iload_n hx hb dX2_firstLit_9 rfl (lv_at hl 1 rfl) ?_
      refine lv_iconst (v := 0) hx hb dX2_firstLit_10 (by decide) ?_
      refine gc_Vi (As := [.int x1, .int 0]) (rest := [.int x3]) (wr := [(o, .inr (2, [.ref o_credits, .ref o_light, .ref o_lit, .ref o_whole, .ref o_ends, .ref o_clashes, .int s_clashPairs, .ref o_reach, .ref o_latest])), (o_lit, .inl (cI, 96, .inl s_lit))]) ⟨hx, hb, hml, hown, ht⟩ (c_X0_ofWord l dC dI cI cJ o_credits o_credits_cells H.size s_credits_cells x1 0 _ hw) (cwV 2 ht (g_V k_214 k_202 k_203 k_2 k_204) rfl rfl rfl (by decide +kernel) ⟨(Nat.le_of_ble_eq_true rfl), (Nat.le_of_ble_eq_true rfl)⟩) hK hP hD hS hA [1, 2] [0, 3] rfl rfl (by decide) 1 rfl rfl rfl rfl hl.1 rfl (Nat.le_of_ble_eq_true rfl) ⟨(Nat.le_of_ble_eq_true rfl), (Nat.le_of_ble_eq_true rfl)⟩ dX2_firstLit_11 (fun r_1 u H locs hw hP hD hS => ?_)
      try dsimp only at hw
      have hP : va_P (dC, dI) vwCl [(o, .inr (2, [.ref o_credits, .ref o_light, .ref o_lit, .ref o_whole, .ref o_ends, .ref o_clashes, .int s_clashPairs, .ref o_reach, .ref o_latest])), (o_lit, .inl (cI, 96, .inl s_lit)), (o_credits, .inr (0, [.ref o_credits_cells])), (o_credits_cells, .inl (cI, 82, .inl s_credits_cells))] H := hP
      have hD : va_D A [(o, .inr (2, [.ref o_credits, .ref o_light, .ref o_lit, .ref o_whole, .ref o_ends, .ref o_clashes, .int s_clashPairs, .ref o_reach, .ref o_latest])), (o_lit, .inl (cI, 96, .inl s_lit)), (o_credits, .inr (0, [.ref o_credits_cells])), (o_credits_cells, .inl (cI, 82, .inl s_credits_cells))] := hD
      refine lv_icmp_ge (tgt := 51) hx hb dX2_firstLit_14 (by decide) (fun hc => ?_) (fun hc => ?_)
      · have hw := hw.1 hc
        refine lv_iload_n hx hb dX2_firstLit_51 rfl (lv_at hl 2 rfl) ?_
        rw [← hQQ]
        exact g_reti (v := x2) (u := ()) hx hb hr rfl hlocks hw (hP.sub (ws' := [(o, .inr (2, [.ref o_credits, .ref o_light, .ref o_lit, .ref o_whole, .ref o_ends, .ref o_clashes, .int s_clashPairs, .ref o_reach, .ref o_latest])), (o_credits, .inr (0, [.ref o_credits_cells])), (o_credits_cells, .inl (cI, 82, .inl s_credits_cells)), (o_lit, .inl (cI, 96, .inl s_lit))]) [0, 2, 3, 1] rfl) hK (hD.sub (ws' := [(o, .inr (2, [.ref o_credits, .ref o_light, .ref o_lit, .ref o_whole, .ref o_ends, .ref o_clashes, .int s_clashPairs, .ref o_reach, .ref o_latest])), (o_credits, .inr (0, [.ref o_credits_cells])), (o_credits_cells, .inl (cI, 82, .inl s_credits_cells)), (o_lit, .inl (cI, 96, .inl s_lit))]) [0, 2, 3, 1] (by decide) rfl) hS dX2_firstLit_52
      · have hw := hw.2 hc
        refine lv_aload_n hx hb dX2_firstLit_17 rfl (lv_at hl 0 rfl) ?_
        refine lv_iload_n hx hb dX2_firstLit_18 rfl (lv_at hl 1 rfl) ?_
        refine lv_iload_n hx hb dX2_firstLit_19 rfl (lv_at hl 3 rfl) ?_
        refine gc_Vi (As := [.int x1, .int x3]) (rest := []) (wr := [(o_credits, .inr (0, [.ref o_credits_cells])), (o_credits_cells, .inl (cI, 82, .inl s_credits_cells))]) ⟨hx, hb, hml, hown, ht⟩ (c_X2_litBeat l dC dI cI cJ o o_credits o_light o_lit o_whole o_ends o_clashes o_reach o_latest H.size s_lit s_clashPairs x1 x3 _ hw) (cwV 2 ht (g_V k_215 k_216 k_217 k_3 k_218) rfl rfl rfl (by decide +kernel) ⟨(Nat.le_of_ble_eq_true rfl), (Nat.le_of_ble_eq_true rfl)⟩) hK hP hD hS hA [0, 1] [2, 3] rfl rfl (by decide) 0 rfl rfl rfl rfl hl.1 rfl (Nat.le_of_ble_eq_true rfl) ⟨(Nat.le_of_ble_eq_true rfl), (Nat.le_of_ble_eq_true rfl)⟩ dX2_firstLit_20 (fun r_2 u H locs hw hP hD hS => ?_)
        try dsimp only at hw
        have hP : va_P (dC, dI) vwCl [(o_credits, .inr (0, [.ref o_credits_cells])), (o_credits_cells, .inl (cI, 82, .inl s_credits_cells)), (o, .inr (2, [.ref o_credits, .ref o_light, .ref o_lit, .ref o_whole, .ref o_ends, .ref o_clashes, .int s_clashPairs, .ref o_reach, .ref o_latest])), (o_lit, .inl (cI, 96, .inl s_lit))] H := hP
        have hD : va_D A [(o_credits, .inr (0, [.ref o_credits_cells])), (o_credits_cells, .inl (cI, 82, .inl s_credits_cells)), (o, .inr (2, [.ref o_credits, .ref o_light, .ref o_lit, .ref o_whole, .ref o_ends, .ref o_clashes, .int s_clashPairs, .ref o_reach, .ref o_latest])), (o_lit, .inl (cI, 96, .inl s_lit))] := hD
        refine lv_istore (lv' := [(4, .int r_2), (0, .ref o), (1, .int x1), (2, .int x2), (3, .int x3)]) hx hb dX2_firstLit_23 hl (by decide) rfl (fun ls hl => ?_)
        refine lv_iload hx hb dX2_firstLit_25 (lv_at hl 0 rfl) ?_
        refine lv_iconst (v := (-1)) hx hb dX2_firstLit_27 (by decide) ?_
        refine lv_icmp_eq (tgt := 45) hx hb dX2_firstLit_28 (by decide) (fun hc => ?_) (fun hc => ?_)
        · have hw := hw.1 hc
          exact J45 x2 x3 hw H locs ls (hP.sub (ws' := [(o, .inr (2, [.ref o_credits, .ref o_light, .ref o_lit, .ref o_whole, .ref o_ends, .ref o_clashes, .int s_clashPairs, .ref o_reach, .ref o_latest])), (o_credits, .inr (0, [.ref o_credits_cells])), (o_credits_cells, .inl (cI, 82, .inl s_credits_cells)), (o_lit, .inl (cI, 96, .inl s_lit))]) [2, 0, 1, 3] rfl) (hD.sub (ws' := [(o, .inr (2, [.ref o_credits, .ref o_light, .ref o_lit, .ref o_whole, .ref o_ends, .ref o_clashes, .int s_clashPairs, .ref o_reach, .ref o_latest])), (o_credits, .inr (0, [.ref o_credits_cells])), (o_credits_cells, .inl (cI, 82, .inl s_credits_cells)), (o_lit, .inl (cI, 96, .inl s_lit))]) [2, 0, 1, 3] (by decide) rfl) hS (lv_sub (l' := [(0, .ref o), (1, .int x1), (2, .int x2), (3, .int x3)]) hl [1, 2, 3, 4] rfl)
        · have hw := hw.2 hc
          refine lv_iload_n hx hb dX2_firstLit_31 rfl (lv_at hl 3 rfl) ?_
          refine lv_iconst (v := (-1)) hx hb dX2_firstLit_32 (by decide) ?_
          refine lv_icmp_eq (tgt := 42) hx hb dX2_firstLit_33 (by decide) (fun hc => ?_) (fun hc => ?_)
          · have hw := hw.1 hc
            exact J42 x3 r_2 hw H locs ls (hP.sub (ws' := [(o, .inr (2, [.ref o_credits, .ref o_light, .ref o_lit, .ref o_whole, .ref o_ends, .ref o_clashes, .int s_clashPairs, .ref o_reach, .ref o_latest])), (o_credits, .inr (0, [.ref o_credits_cells])), (o_credits_cells, .inl (cI, 82, .inl s_credits_cells)), (o_lit, .inl (cI, 96, .inl s_lit))]) [2, 0, 1, 3] rfl) (hD.sub (ws' := [(o, .inr (2, [.ref o_credits, .ref o_light, .ref o_lit, .ref o_whole, .ref o_ends, .ref o_clashes, .int s_clashPairs, .ref o_reach, .ref o_latest])), (o_credits, .inr (0, [.ref o_credits_cells])), (o_credits_cells, .inl (cI, 82, .inl s_credits_cells)), (o_lit, .inl (cI, 96, .inl s_lit))]) [2, 0, 1, 3] (by decide) rfl) hS (lv_sub (l' := [(0, .ref o), (1, .int x1), (3, .int x3), (4, .int r_2)]) hl [1, 2, 4, 0] rfl)
          · have hw := hw.2 hc
            refine lv_iload hx hb dX2_firstLit_36 (lv_at hl 0 rfl) ?_
            refine lv_iload_n hx hb dX2_firstLit_38 rfl (lv_at hl 3 rfl) ?_
            refine lv_icmp_ge (tgt := 45) hx hb dX2_firstLit_39 (by decide) (fun hc => ?_) (fun hc => ?_)
            · have hw := hw.1 hc
              exact J45 x2 x3 hw H locs ls (hP.sub (ws' := [(o, .inr (2, [.ref o_credits, .ref o_light, .ref o_lit, .ref o_whole, .ref o_ends, .ref o_clashes, .int s_clashPairs, .ref o_reach, .ref o_latest])), (o_credits, .inr (0, [.ref o_credits_cells])), (o_credits_cells, .inl (cI, 82, .inl s_credits_cells)), (o_lit, .inl (cI, 96, .inl s_lit))]) [2, 0, 1, 3] rfl) (hD.sub (ws' := [(o, .inr (2, [.ref o_credits, .ref o_light, .ref o_lit, .ref o_whole, .ref o_ends, .ref o_clashes, .int s_clashPairs, .ref o_reach, .ref o_latest])), (o_credits, .inr (0, [.ref o_credits_cells])), (o_credits_cells, .inl (cI, 82, .inl s_credits_cells)), (o_lit, .inl (cI, 96, .inl s_lit))]) [2, 0, 1, 3] (by decide) rfl) hS (lv_sub (l' := [(0, .ref o), (1, .int x1), (2, .int x2), (3, .int x3)]) hl [1, 2, 3, 4] rfl)
            · have hw := hw.2 hc
              exact J42 x3 r_2 hw H locs ls (hP.sub (ws' := [(o, .inr (2, [.ref o_credits, .ref o_light, .ref o_lit, .ref o_whole, .ref o_ends, .ref o_clashes, .int s_clashPairs, .ref o_reach, .ref o_latest])), (o_credits, .inr (0, [.ref o_credits_cells])), (o_credits_cells, .inl (cI, 82, .inl s_credits_cells)), (o_lit, .inl (cI, 96, .inl s_lit))]) [2, 0, 1, 3] rfl) (hD.sub (ws' := [(o, .inr (2, [.ref o_credits, .ref o_light, .ref o_lit, .ref o_whole, .ref o_ends, .ref o_clashes, .int s_clashPairs, .ref o_reach, .ref o_latest])), (o_credits, .inr (0, [.ref o_credits_cells])), (o_credits_cells, .inl (cI, 82, .inl s_credits_cells)), (o_lit, .inl (cI, 96, .inl s_lit))]) [2, 0, 1, 3] (by decide) rfl) hS (lv_sub (l' := [(0, .ref o), (1, .int x1), (3, .int x3), (4, .int r_2)]) hl [1, 2, 4, 0] rfl)
  obtain ⟨H, hHH⟩ : ∃ H, H = s.heap := ⟨_, rfl⟩
  rw [← hHH] at hP ⊢
  have hS : va_S A s.heap H [] := by rw [hHH]; exact hS
  clear hHH
  generalize ([] : List Loc) = locs at hS ⊢
  unfold P_X2_firstLit at hw
  refine lv_iconst (v := (-1)) hx hb dX2_firstLit_0 (by decide) ?_
  refine lv_istore_n (lv' := [(2, .int (-1)), (0, .ref o), (1, .int p0)]) hx hb dX2_firstLit_1 rfl hl (by decide) rfl (fun ls hl => ?_)
  refine lv_iconst (v := 0) hx hb dX2_firstLit_2 (by decide) ?_
  refine lv_istore_n (lv' := [(3, .int 0), (2, .int (-1)), (0, .ref o), (1, .int p0)]) hx hb dX2_firstLit_3 rfl hl (by decide) rfl (fun ls hl => ?_)
  obtain ⟨n, hw⟩ := hw
  exact L4 p0 n (-1) 0 hw H locs ls hP hD hS (lv_sub (l' := [(0, .ref o), (1, .int p0), (2, .int (-1)), (3, .int 0)]) hl [2, 3, 1, 0] rfl)
