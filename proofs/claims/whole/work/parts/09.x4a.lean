def P_X4_thrown (s_thrown : Int32) (Q : Int32 → Prop) : Prop :=
  Q s_thrown
def P_X4_fails (p0 : Int32) (s_thrown : Int32) (Q : Int32 → Int32 → Prop) : Prop :=
  Q 0 p0
def P_X4_in (p0 : Int32) (p1 : Int32) (p2 : Int32) (Q : Int32 → Prop) : Prop :=
  ((p0 < p1 → Q 0) ∧ (¬ p0 < p1 → ((p2 < p0 → Q 0) ∧ (¬ p2 < p0 → Q 1))))
def P_X4_isBeat (p0 : Int32) (Q : Int32 → Prop) : Prop :=
  P_X4_in p0 0 199 (fun (r_1 : Int32) => narrow .boolean (.int r_1) = .int r_1 ∧ Q r_1)
def P_X4_isColumn (p0 : Int32) (Q : Int32 → Prop) : Prop :=
  P_X4_in p0 0 59 (fun (r_1 : Int32) => narrow .boolean (.int r_1) = .int r_1 ∧ Q r_1)
def P_X4_isWord (p0 : Int32) (s_now : Nat → Int32) (Q : Int32 → Prop) : Prop :=
  P_X4_in p0 0 ((s_now 2) - 1) (fun (r_1 : Int32) => narrow .boolean (.int r_1) = .int r_1 ∧ Q r_1)
def P_X4_isBeam (p0 : Int32) (s_now : Nat → Int32) (Q : Int32 → Prop) : Prop :=
  P_X4_in p0 0 ((s_now 3) - 1) (fun (r_1 : Int32) => narrow .boolean (.int r_1) = .int r_1 ∧ Q r_1)
def P_X4_of (p1 : Int32) (p2 : Int32) (s_r0 : Nat → Int32) (Q : Int32 → Prop) : Prop :=
  vp_in ((4 + (6 * p1)) + p2) 87 ∧ Q (s_r0 (((4 + (6 * p1)) + p2).toNatClampNeg))
def P_X4_by (p1 : Int32) (p2 : Int32) (s_r0 : Nat → Int32) (Q : Int32 → Prop) : Prop :=
  vp_in ((52 + (5 * p1)) + p2) 87 ∧ Q (s_r0 (((52 + (5 * p1)) + p2).toNatClampNeg))
def B_X4_copies_L3 (n_r0 : Nat) (n_r2 : Nat) (x1 : Int32) (x3 : Int32) (s_r0 : Nat → Int32) (Q : (Nat → Int32) → Prop) (rec3 : Int32 → (Nat → Int32) → Prop) (x4 : Int32) (s_r2 : Nat → Int32) : Prop :=
  ((87 ≤ x4 → Q s_r2) ∧ (¬ 87 ≤ x4 → vp_in (x1 + x4) n_r0 ∧ vp_in (x3 + x4) n_r2 ∧ rec3 (x4 + 1) (upd s_r2 ((x3 + x4).toNatClampNeg) (s_r0 ((x1 + x4).toNatClampNeg)))))
noncomputable def P_X4_copies_L3 (n_r0 : Nat) (n_r2 : Nat) (x1 : Int32) (x3 : Int32) (s_r0 : Nat → Int32) (Q : (Nat → Int32) → Prop) (n : Nat) : Int32 → (Nat → Int32) → Prop := Nat.rec (motive := fun _ => Int32 → (Nat → Int32) → Prop) (fun _ _ => False) (fun _ r => B_X4_copies_L3 n_r0 n_r2 x1 x3 s_r0 Q r) n
theorem P_X4_copies_L3_z (n_r0 : Nat) (n_r2 : Nat) (x1 : Int32) (x3 : Int32) (s_r0 : Nat → Int32) (Q : (Nat → Int32) → Prop) (x4 : Int32) (s_r2 : Nat → Int32) : P_X4_copies_L3 n_r0 n_r2 x1 x3 s_r0 Q 0 x4 s_r2 = False := rfl
theorem P_X4_copies_L3_s (n_r0 : Nat) (n_r2 : Nat) (x1 : Int32) (x3 : Int32) (s_r0 : Nat → Int32) (Q : (Nat → Int32) → Prop) (n : Nat) (x4 : Int32) (s_r2 : Nat → Int32) : P_X4_copies_L3 n_r0 n_r2 x1 x3 s_r0 Q (n + 1) x4 s_r2 = B_X4_copies_L3 n_r0 n_r2 x1 x3 s_r0 Q (P_X4_copies_L3 n_r0 n_r2 x1 x3 s_r0 Q n) x4 s_r2 := rfl
def P_X4_copies (n_r0 : Nat) (n_r2 : Nat) (p1 : Int32) (p3 : Int32) (s_r0 : Nat → Int32) (s_r2 : Nat → Int32) (Q : (Nat → Int32) → Prop) : Prop :=
  ∃ n : Nat, P_X4_copies_L3 n_r0 n_r2 p1 p3 s_r0 Q n 0 s_r2
def B_X4_saves_L16 (K16_44 : (Nat → Int32) → Prop) (rec16 : Int32 → (Nat → Int32) → Prop) (x1 : Int32) (s_past : Nat → Int32) : Prop :=
  ((435 ≤ x1 → K16_44 s_past) ∧ (¬ 435 ≤ x1 → vp_in (x1 + 87) 522 ∧ vp_in x1 522 ∧ rec16 (x1 + 1) (upd s_past x1.toNatClampNeg (s_past ((x1 + 87).toNatClampNeg)))))
noncomputable def P_X4_saves_L16 (K16_44 : (Nat → Int32) → Prop) (n : Nat) : Int32 → (Nat → Int32) → Prop := Nat.rec (motive := fun _ => Int32 → (Nat → Int32) → Prop) (fun _ _ => False) (fun _ r => B_X4_saves_L16 K16_44 r) n
theorem P_X4_saves_L16_z (K16_44 : (Nat → Int32) → Prop) (x1 : Int32) (s_past : Nat → Int32) : P_X4_saves_L16 K16_44 0 x1 s_past = False := rfl
theorem P_X4_saves_L16_s (K16_44 : (Nat → Int32) → Prop) (n : Nat) (x1 : Int32) (s_past : Nat → Int32) : P_X4_saves_L16 K16_44 (n + 1) x1 s_past = B_X4_saves_L16 K16_44 (P_X4_saves_L16 K16_44 n) x1 s_past := rfl
def P_X4_saves_J54 (s_now : Nat → Int32) (Q : (Nat → Int32) → Int32 → Int32 → Prop) (s_past : Nat → Int32) (s_kept : Int32) (s_isLaid : Int32) : Prop :=
  P_X4_copies 87 522 0 (87 * s_kept) s_now s_past (fun (s_past_3 : Nat → Int32) => Q s_past_3 (s_kept + 1) s_isLaid)
def P_X4_saves (s_now : Nat → Int32) (s_past : Nat → Int32) (s_kept : Int32) (s_isLaid : Int32) (Q : (Nat → Int32) → Int32 → Int32 → Prop) : Prop :=
  ((¬ s_kept = 6 → P_X4_saves_J54 s_now Q s_past s_kept 0) ∧ (s_kept = 6 → ∃ n : Nat, P_X4_saves_L16 (fun (s_past_4 : Nat → Int32) => P_X4_saves_J54 s_now Q s_past_4 (s_kept - 1) 0) n 0 s_past))
def P_X4_undo (s_now : Nat → Int32) (s_past : Nat → Int32) (s_kept : Int32) (s_thrown : Int32) (s_isLaid : Int32) (Q : Int32 → (Nat → Int32) → Int32 → Int32 → Int32 → Prop) : Prop :=
  ((¬ s_kept = 0 → P_X4_copies 522 87 (87 * (s_kept - 1)) 0 s_past s_now (fun (s_now_1 : Nat → Int32) => Q (s_kept - 1) s_now_1 (s_kept - 1) 0 0)) ∧ (s_kept = 0 → P_X4_fails 1 0 (fun (r_2 : Int32) (s_thrown_3 : Int32) => Q r_2 s_now s_kept s_thrown_3 s_isLaid)))
def P_X4_first (p1 : Int32) (p2 : Int32) (s_r0 : Nat → Int32) (Q : Int32 → Prop) : Prop :=
  P_X4_by p1 1 s_r0 (fun (r_1 : Int32) => P_X4_by p1 2 s_r0 (fun (r_2 : Int32) => P_X4_by p1 0 s_r0 (fun (r_3 : Int32) => Q (r_1 + (r_2 * (p2 - r_3))))))
def P_X4_covers (p1 : Int32) (p2 : Int32) (p3 : Int32) (s_r0 : Nat → Int32) (Q : Int32 → Prop) : Prop :=
  P_X4_by p1 0 s_r0 (fun (r_1 : Int32) => ((p2 < r_1 → Q 0) ∧ (¬ p2 < r_1 → P_X4_first p1 p2 s_r0 (fun (r_2 : Int32) => P_X4_by p1 3 s_r0 (fun (r_3 : Int32) => P_X4_in (p3 - r_2) 0 (r_3 - 1) (fun (r_4 : Int32) => ((r_4 = 0 → Q 0) ∧ (¬ r_4 = 0 → Q 1))))))))
def P_X4_coversSome (p1 : Int32) (p2 : Int32) (s_r0 : Nat → Int32) (Q : Int32 → Prop) : Prop :=
  P_X4_by p1 0 s_r0 (fun (r_1 : Int32) => ((p2 < r_1 → Q 0) ∧ (¬ p2 < r_1 → P_X4_first p1 p2 s_r0 (fun (r_2 : Int32) => ((60 ≤ r_2 → Q 0) ∧ (¬ 60 ≤ r_2 → P_X4_first p1 p2 s_r0 (fun (r_3 : Int32) => P_X4_by p1 3 s_r0 (fun (r_4 : Int32) => (((r_3 + r_4) ≤ 0 → Q 0) ∧ (¬ (r_3 + r_4) ≤ 0 → Q 1))))))))))
def P_X4_canBe_J72 (rec6 : Int32 → Int32 → Prop) (x5 : Int32) (t0 : Int32) : Prop :=
  rec6 t0 (x5 + 1)
def P_X4_canBe_J67 (rec6 : Int32 → Int32 → Prop) (x5 : Int32) : Prop :=
  P_X4_canBe_J72 rec6 x5 1
def P_X4_canBe_J71 (rec6 : Int32 → Int32 → Prop) (x5 : Int32) : Prop :=
  P_X4_canBe_J72 rec6 x5 0
def B_X4_canBe_L6 (x1 : Int32) (x2 : Int32) (x3 : Int32) (s_r0 : Nat → Int32) (Q : Int32 → Prop) (rec6 : Int32 → Int32 → Prop) (x4 : Int32) (x5 : Int32) : Prop :=
  (((s_r0 3) ≤ x5 → narrow .boolean (.int x4) = .int x4 ∧ Q x4) ∧ (¬ (s_r0 3) ≤ x5 → P_X4_of x1 3 s_r0 (fun (r_2 : Int32) => ((x3 < r_2 → narrow .boolean (.int x4) = .int x4 ∧ Q x4) ∧ (¬ x3 < r_2 → ((¬ x4 = 0 → P_X4_canBe_J67 rec6 x5) ∧ (x4 = 0 → P_X4_by x5 4 s_r0 (fun (r_4 : Int32) => P_X4_of x1 1 s_r0 (fun (r_5 : Int32) => ((¬ ((r_4 >>> (r_5 &&& 31)) &&& 1) = 1 → P_X4_canBe_J71 rec6 x5) ∧ (((r_4 >>> (r_5 &&& 31)) &&& 1) = 1 → P_X4_of x1 2 s_r0 (fun (r_6 : Int32) => P_X4_covers x5 x3 (r_6 + x2) s_r0 (fun (r_7 : Int32) => ((r_7 = 0 → P_X4_canBe_J71 rec6 x5) ∧ (¬ r_7 = 0 → P_X4_canBe_J67 rec6 x5)))))))))))))))
noncomputable def P_X4_canBe_L6 (x1 : Int32) (x2 : Int32) (x3 : Int32) (s_r0 : Nat → Int32) (Q : Int32 → Prop) (n : Nat) : Int32 → Int32 → Prop := Nat.rec (motive := fun _ => Int32 → Int32 → Prop) (fun _ _ => False) (fun _ r => B_X4_canBe_L6 x1 x2 x3 s_r0 Q r) n
theorem P_X4_canBe_L6_z (x1 : Int32) (x2 : Int32) (x3 : Int32) (s_r0 : Nat → Int32) (Q : Int32 → Prop) (x4 : Int32) (x5 : Int32) : P_X4_canBe_L6 x1 x2 x3 s_r0 Q 0 x4 x5 = False := rfl
theorem P_X4_canBe_L6_s (x1 : Int32) (x2 : Int32) (x3 : Int32) (s_r0 : Nat → Int32) (Q : Int32 → Prop) (n : Nat) (x4 : Int32) (x5 : Int32) : P_X4_canBe_L6 x1 x2 x3 s_r0 Q (n + 1) x4 x5 = B_X4_canBe_L6 x1 x2 x3 s_r0 Q (P_X4_canBe_L6 x1 x2 x3 s_r0 Q n) x4 x5 := rfl
def P_X4_canBe (p1 : Int32) (p2 : Int32) (p3 : Int32) (s_r0 : Nat → Int32) (Q : Int32 → Prop) : Prop :=
  ∃ n : Nat, P_X4_canBe_L6 p1 p2 p3 s_r0 Q n 0 0
def B_X4_firstLight_L3 (x1 : Int32) (x2 : Int32) (s_r0 : Nat → Int32) (Q : Int32 → Prop) (rec3 : Int32 → Prop) (x4 : Int32) : Prop :=
  ((200 ≤ x4 → Q (-1)) ∧ (¬ 200 ≤ x4 → P_X4_canBe x1 x2 x4 s_r0 (fun (r_1 : Int32) => ((r_1 = 0 → rec3 (x4 + 1)) ∧ (¬ r_1 = 0 → Q x4)))))
noncomputable def P_X4_firstLight_L3 (x1 : Int32) (x2 : Int32) (s_r0 : Nat → Int32) (Q : Int32 → Prop) (n : Nat) : Int32 → Prop := Nat.rec (motive := fun _ => Int32 → Prop) (fun _ => False) (fun _ r => B_X4_firstLight_L3 x1 x2 s_r0 Q r) n
theorem P_X4_firstLight_L3_z (x1 : Int32) (x2 : Int32) (s_r0 : Nat → Int32) (Q : Int32 → Prop) (x4 : Int32) : P_X4_firstLight_L3 x1 x2 s_r0 Q 0 x4 = False := rfl
theorem P_X4_firstLight_L3_s (x1 : Int32) (x2 : Int32) (s_r0 : Nat → Int32) (Q : Int32 → Prop) (n : Nat) (x4 : Int32) : P_X4_firstLight_L3 x1 x2 s_r0 Q (n + 1) x4 = B_X4_firstLight_L3 x1 x2 s_r0 Q (P_X4_firstLight_L3 x1 x2 s_r0 Q n) x4 := rfl
def P_X4_firstLight (p1 : Int32) (p2 : Int32) (p3 : Int32) (s_r0 : Nat → Int32) (Q : Int32 → Prop) : Prop :=
  ∃ n : Nat, P_X4_firstLight_L3 p1 p2 s_r0 Q n p3
def B_X4_together_L2 (x2 : Int32) (s_r0 : Nat → Int32) (K2_25 : (Nat → Int32) → Prop) (rec2 : Int32 → (Nat → Int32) → Prop) (x3 : Int32) (s_latest : Nat → Int32) : Prop :=
  P_X4_of x2 0 s_r0 (fun (r_1 : Int32) => ((r_1 ≤ x3 → K2_25 s_latest) ∧ (¬ r_1 ≤ x3 → vp_in x3 12 ∧ rec2 (x3 + 1) (upd s_latest x3.toNatClampNeg (-1)))))
noncomputable def P_X4_together_L2 (x2 : Int32) (s_r0 : Nat → Int32) (K2_25 : (Nat → Int32) → Prop) (n : Nat) : Int32 → (Nat → Int32) → Prop := Nat.rec (motive := fun _ => Int32 → (Nat → Int32) → Prop) (fun _ _ => False) (fun _ r => B_X4_together_L2 x2 s_r0 K2_25 r) n
theorem P_X4_together_L2_z (x2 : Int32) (s_r0 : Nat → Int32) (K2_25 : (Nat → Int32) → Prop) (x3 : Int32) (s_latest : Nat → Int32) : P_X4_together_L2 x2 s_r0 K2_25 0 x3 s_latest = False := rfl
theorem P_X4_together_L2_s (x2 : Int32) (s_r0 : Nat → Int32) (K2_25 : (Nat → Int32) → Prop) (n : Nat) (x3 : Int32) (s_latest : Nat → Int32) : P_X4_together_L2 x2 s_r0 K2_25 (n + 1) x3 s_latest = B_X4_together_L2 x2 s_r0 K2_25 (P_X4_together_L2 x2 s_r0 K2_25 n) x3 s_latest := rfl
def P_X4_together_J121 (rec45 : Int32 → Int32 → (Nat → Int32) → Prop) (x5 : Int32) (t0 : Int32) (s_latest : Nat → Int32) : Prop :=
  rec45 t0 (x5 + 1) s_latest
def P_X4_together_J120 (rec45 : Int32 → Int32 → (Nat → Int32) → Prop) (x5 : Int32) (s_latest : Nat → Int32) : Prop :=
  P_X4_together_J121 rec45 x5 0 s_latest
def P_X4_together_J84 (x3 : Int32) (s_r0 : Nat → Int32) (rec45 : Int32 → Int32 → (Nat → Int32) → Prop) (x4 : Int32) (x5 : Int32) (t0 : Int32) (t1 : Int32) (s_latest : Nat → Int32) : Prop :=
  vp_in t1 12 ∧ ((x4 = 0 → P_X4_together_J120 rec45 x5 (upd s_latest t1.toNatClampNeg t0)) ∧ (¬ x4 = 0 → vp_in x5 12 ∧ ((((upd s_latest t1.toNatClampNeg t0) x5.toNatClampNeg) = (-1) → P_X4_together_J120 rec45 x5 (upd s_latest t1.toNatClampNeg t0)) ∧ (¬ ((upd s_latest t1.toNatClampNeg t0) x5.toNatClampNeg) = (-1) → vp_in x5 12 ∧ ((((upd s_latest t1.toNatClampNeg t0) x5.toNatClampNeg) < (x3 - (s_r0 1)) → P_X4_together_J120 rec45 x5 (upd s_latest t1.toNatClampNeg t0)) ∧ (¬ ((upd s_latest t1.toNatClampNeg t0) x5.toNatClampNeg) < (x3 - (s_r0 1)) → P_X4_together_J121 rec45 x5 1 (upd s_latest t1.toNatClampNeg t0)))))))
def B_X4_together_L45 (x2 : Int32) (x3 : Int32) (s_r0 : Nat → Int32) (K45_129 : Int32 → (Nat → Int32) → Prop) (rec45 : Int32 → Int32 → (Nat → Int32) → Prop) (x4 : Int32) (x5 : Int32) (s_latest : Nat → Int32) : Prop :=
  P_X4_of x2 0 s_r0 (fun (r_6 : Int32) => ((r_6 ≤ x5 → K45_129 x4 s_latest) ∧ (¬ r_6 ≤ x5 → P_X4_canBe x2 x5 x3 s_r0 (fun (r_7 : Int32) => ((r_7 = 0 → vp_in x5 12 ∧ P_X4_together_J84 x3 s_r0 rec45 x4 x5 (s_latest x5.toNatClampNeg) x5 s_latest) ∧ (¬ r_7 = 0 → P_X4_together_J84 x3 s_r0 rec45 x4 x5 x3 x5 s_latest))))))
noncomputable def P_X4_together_L45 (x2 : Int32) (x3 : Int32) (s_r0 : Nat → Int32) (K45_129 : Int32 → (Nat → Int32) → Prop) (n : Nat) : Int32 → Int32 → (Nat → Int32) → Prop := Nat.rec (motive := fun _ => Int32 → Int32 → (Nat → Int32) → Prop) (fun _ _ _ => False) (fun _ r => B_X4_together_L45 x2 x3 s_r0 K45_129 r) n
theorem P_X4_together_L45_z (x2 : Int32) (x3 : Int32) (s_r0 : Nat → Int32) (K45_129 : Int32 → (Nat → Int32) → Prop) (x4 : Int32) (x5 : Int32) (s_latest : Nat → Int32) : P_X4_together_L45 x2 x3 s_r0 K45_129 0 x4 x5 s_latest = False := rfl
theorem P_X4_together_L45_s (x2 : Int32) (x3 : Int32) (s_r0 : Nat → Int32) (K45_129 : Int32 → (Nat → Int32) → Prop) (n : Nat) (x4 : Int32) (x5 : Int32) (s_latest : Nat → Int32) : P_X4_together_L45 x2 x3 s_r0 K45_129 (n + 1) x4 x5 s_latest = B_X4_together_L45 x2 x3 s_r0 K45_129 (P_X4_together_L45 x2 x3 s_r0 K45_129 n) x4 x5 s_latest := rfl
def B_X4_together_L32 (x2 : Int32) (s_r0 : Nat → Int32) (Q : Int32 → (Nat → Int32) → Prop) (rec32 : Int32 → (Nat → Int32) → Prop) (x3 : Int32) (s_latest : Nat → Int32) : Prop :=
  ((200 ≤ x3 → Q (-1) s_latest) ∧ (¬ 200 ≤ x3 → ∃ n : Nat, P_X4_together_L45 x2 x3 s_r0 (fun (x4_9 : Int32) (s_latest_10 : Nat → Int32) => ((x4_9 = 0 → rec32 (x3 + 1) s_latest_10) ∧ (¬ x4_9 = 0 → Q x3 s_latest_10))) n 1 0 s_latest))
noncomputable def P_X4_together_L32 (x2 : Int32) (s_r0 : Nat → Int32) (Q : Int32 → (Nat → Int32) → Prop) (n : Nat) : Int32 → (Nat → Int32) → Prop := Nat.rec (motive := fun _ => Int32 → (Nat → Int32) → Prop) (fun _ _ => False) (fun _ r => B_X4_together_L32 x2 s_r0 Q r) n
theorem P_X4_together_L32_z (x2 : Int32) (s_r0 : Nat → Int32) (Q : Int32 → (Nat → Int32) → Prop) (x3 : Int32) (s_latest : Nat → Int32) : P_X4_together_L32 x2 s_r0 Q 0 x3 s_latest = False := rfl
theorem P_X4_together_L32_s (x2 : Int32) (s_r0 : Nat → Int32) (Q : Int32 → (Nat → Int32) → Prop) (n : Nat) (x3 : Int32) (s_latest : Nat → Int32) : P_X4_together_L32 x2 s_r0 Q (n + 1) x3 s_latest = B_X4_together_L32 x2 s_r0 Q (P_X4_together_L32 x2 s_r0 Q n) x3 s_latest := rfl
def P_X4_together (p1 : Int32) (s_latest : Nat → Int32) (s_r0 : Nat → Int32) (Q : Int32 → (Nat → Int32) → Prop) : Prop :=
  ∃ n : Nat, P_X4_together_L2 p1 s_r0 (fun (s_latest_11 : Nat → Int32) => P_X4_of p1 3 s_r0 (fun (r_12 : Int32) => ∃ n : Nat, P_X4_together_L32 p1 s_r0 Q n r_12 s_latest_11)) n 0 s_latest
def P_X4_laysWord_J205 (rec47 : Int32 → Int32 → Int32 → (Nat → Int32) → Prop) (x7 : Int32) (x8 : Int32) (t0 : Int32) (s_lit : Nat → Int32) : Prop :=
  rec47 t0 x7 (x8 + 1) s_lit
def P_X4_laysWord_J169 (x2 : Int32) (rec47 : Int32 → Int32 → Int32 → (Nat → Int32) → Prop) (x6 : Int32) (x8 : Int32) (t0 : Int32) (s_lit : Nat → Int32) : Prop :=
  vp_in ((12 * x2) + x8) 96 ∧ (((s_lit (((12 * x2) + x8).toNatClampNeg)) ≤ x6 → P_X4_laysWord_J205 rec47 t0 x8 x6 s_lit) ∧ (¬ (s_lit (((12 * x2) + x8).toNatClampNeg)) ≤ x6 → vp_in ((12 * x2) + x8) 96 ∧ P_X4_laysWord_J205 rec47 t0 x8 (s_lit (((12 * x2) + x8).toNatClampNeg)) s_lit))
def P_X4_laysWord_J168 (x2 : Int32) (rec47 : Int32 → Int32 → Int32 → (Nat → Int32) → Prop) (x6 : Int32) (x8 : Int32) (s_lit : Nat → Int32) : Prop :=
  P_X4_laysWord_J169 x2 rec47 x6 x8 0 s_lit
def P_X4_laysWord_J142 (x2 : Int32) (rec47 : Int32 → Int32 → Int32 → (Nat → Int32) → Prop) (x6 : Int32) (x7 : Int32) (x8 : Int32) (t0 : Int32) (t1 : Int32) (s_lit : Nat → Int32) : Prop :=
  vp_in t1 96 ∧ ((x7 = 0 → P_X4_laysWord_J168 x2 rec47 x6 x8 (upd s_lit t1.toNatClampNeg t0)) ∧ (¬ x7 = 0 → vp_in ((12 * x2) + x8) 96 ∧ ((((upd s_lit t1.toNatClampNeg t0) (((12 * x2) + x8).toNatClampNeg)) = (-1) → P_X4_laysWord_J168 x2 rec47 x6 x8 (upd s_lit t1.toNatClampNeg t0)) ∧ (¬ ((upd s_lit t1.toNatClampNeg t0) (((12 * x2) + x8).toNatClampNeg)) = (-1) → P_X4_laysWord_J169 x2 rec47 x6 x8 1 (upd s_lit t1.toNatClampNeg t0)))))
def P_X4_laysWord_J99 (x2 : Int32) (x4 : Int32) (x5 : Int32) (s_r0 : Nat → Int32) (rec47 : Int32 → Int32 → Int32 → (Nat → Int32) → Prop) (x6 : Int32) (x7 : Int32) (x8 : Int32) (t0 : Int32) (s_lit : Nat → Int32) : Prop :=
  ((¬ x4 = 2 → ((¬ t0 = (-1) → P_X4_firstLight x2 x8 t0 s_r0 (fun (r_5 : Int32) => P_X4_laysWord_J142 x2 rec47 x6 x7 x8 r_5 ((12 * x2) + x8) s_lit)) ∧ (t0 = (-1) → P_X4_laysWord_J142 x2 rec47 x6 x7 x8 (-1) ((12 * x2) + x8) s_lit))) ∧ (x4 = 2 → P_X4_laysWord_J142 x2 rec47 x6 x7 x8 x5 ((12 * x2) + x8) s_lit))
def P_X4_laysWord_J69 (x2 : Int32) (x4 : Int32) (x5 : Int32) (s_r0 : Nat → Int32) (rec47 : Int32 → Int32 → Int32 → (Nat → Int32) → Prop) (x6 : Int32) (x7 : Int32) (x8 : Int32) (t0 : Int32) (s_lit : Nat → Int32) : Prop :=
  ((t0 = 0 → P_X4_of x2 3 s_r0 (fun (r_6 : Int32) => P_X4_laysWord_J99 x2 x4 x5 s_r0 rec47 x6 x7 x8 r_6 s_lit)) ∧ (¬ t0 = 0 → vp_in (((12 * x2) + x8) - 1) 96 ∧ P_X4_laysWord_J99 x2 x4 x5 s_r0 rec47 x6 x7 x8 (s_lit ((((12 * x2) + x8) - 1).toNatClampNeg)) s_lit))
def P_X4_laysWord_J68 (x2 : Int32) (x4 : Int32) (x5 : Int32) (s_r0 : Nat → Int32) (rec47 : Int32 → Int32 → Int32 → (Nat → Int32) → Prop) (x6 : Int32) (x7 : Int32) (x8 : Int32) (s_lit : Nat → Int32) : Prop :=
  P_X4_laysWord_J69 x2 x4 x5 s_r0 rec47 x6 x7 x8 0 s_lit
def B_X4_laysWord_L47 (x2 : Int32) (x3 : Int32) (x4 : Int32) (x5 : Int32) (s_r0 : Nat → Int32) (K47_213 : Int32 → Int32 → (Nat → Int32) → Prop) (rec47 : Int32 → Int32 → Int32 → (Nat → Int32) → Prop) (x6 : Int32) (x7 : Int32) (x8 : Int32) (s_lit : Nat → Int32) : Prop :=
  ((x3 ≤ x8 → K47_213 x6 x7 s_lit) ∧ (¬ x3 ≤ x8 → ((¬ x4 = 1 → P_X4_laysWord_J68 x2 x4 x5 s_r0 rec47 x6 x7 x8 s_lit) ∧ (x4 = 1 → ((x8 ≤ 0 → P_X4_laysWord_J68 x2 x4 x5 s_r0 rec47 x6 x7 x8 s_lit) ∧ (¬ x8 ≤ 0 → P_X4_laysWord_J69 x2 x4 x5 s_r0 rec47 x6 x7 x8 1 s_lit))))))
noncomputable def P_X4_laysWord_L47 (x2 : Int32) (x3 : Int32) (x4 : Int32) (x5 : Int32) (s_r0 : Nat → Int32) (K47_213 : Int32 → Int32 → (Nat → Int32) → Prop) (n : Nat) : Int32 → Int32 → Int32 → (Nat → Int32) → Prop := Nat.rec (motive := fun _ => Int32 → Int32 → Int32 → (Nat → Int32) → Prop) (fun _ _ _ _ => False) (fun _ r => B_X4_laysWord_L47 x2 x3 x4 x5 s_r0 K47_213 r) n
theorem P_X4_laysWord_L47_z (x2 : Int32) (x3 : Int32) (x4 : Int32) (x5 : Int32) (s_r0 : Nat → Int32) (K47_213 : Int32 → Int32 → (Nat → Int32) → Prop) (x6 : Int32) (x7 : Int32) (x8 : Int32) (s_lit : Nat → Int32) : P_X4_laysWord_L47 x2 x3 x4 x5 s_r0 K47_213 0 x6 x7 x8 s_lit = False := rfl
theorem P_X4_laysWord_L47_s (x2 : Int32) (x3 : Int32) (x4 : Int32) (x5 : Int32) (s_r0 : Nat → Int32) (K47_213 : Int32 → Int32 → (Nat → Int32) → Prop) (n : Nat) (x6 : Int32) (x7 : Int32) (x8 : Int32) (s_lit : Nat → Int32) : P_X4_laysWord_L47 x2 x3 x4 x5 s_r0 K47_213 (n + 1) x6 x7 x8 s_lit = B_X4_laysWord_L47 x2 x3 x4 x5 s_r0 K47_213 (P_X4_laysWord_L47 x2 x3 x4 x5 s_r0 K47_213 n) x6 x7 x8 s_lit := rfl
def P_X4_laysWord_J304 (s_goes : Nat → Int32) (Q : (Nat → Int32) → (Nat → Int32) → (Nat → Int32) → (Nat → Int32) → Prop) (t0 : Int32) (t1 : Int32) (s_lit : Nat → Int32) (s_whole : Nat → Int32) (s_latest : Nat → Int32) : Prop :=
  vp_in t1 8 ∧ Q s_lit s_whole (upd s_goes t1.toNatClampNeg t0) s_latest
def P_X4_laysWord_J303 (s_goes : Nat → Int32) (Q : (Nat → Int32) → (Nat → Int32) → (Nat → Int32) → (Nat → Int32) → Prop) (t0 : Int32) (s_lit : Nat → Int32) (s_whole : Nat → Int32) (s_latest : Nat → Int32) : Prop :=
  P_X4_laysWord_J304 s_goes Q (-1) t0 s_lit s_whole s_latest
def P_X4_laysWord_J260 (s_goes : Nat → Int32) (s_r0 : Nat → Int32) (Q : (Nat → Int32) → (Nat → Int32) → (Nat → Int32) → (Nat → Int32) → Prop) (x2 : Int32) (x7 : Int32) (t0 : Int32) (s_lit : Nat → Int32) (s_whole : Nat → Int32) (s_latest : Nat → Int32) : Prop :=
  ¬ (s_r0 0) = 0 ∧ ((x7 = 0 → P_X4_laysWord_J303 s_goes Q x2 s_lit s_whole s_latest) ∧ (¬ x7 = 0 → ((200 ≤ ((((t0 + (s_r0 0)) - 1) / (s_r0 0)) * (s_r0 0)) → P_X4_laysWord_J303 s_goes Q x2 s_lit s_whole s_latest) ∧ (¬ 200 ≤ ((((t0 + (s_r0 0)) - 1) / (s_r0 0)) * (s_r0 0)) → P_X4_laysWord_J304 s_goes Q ((((t0 + (s_r0 0)) - 1) / (s_r0 0)) * (s_r0 0)) x2 s_lit s_whole s_latest))))
def P_X4_laysWord_J229 (s_whole : Nat → Int32) (s_goes : Nat → Int32) (s_r0 : Nat → Int32) (Q : (Nat → Int32) → (Nat → Int32) → (Nat → Int32) → (Nat → Int32) → Prop) (x2 : Int32) (x6 : Int32) (x7 : Int32) (t0 : Int32) (t1 : Int32) (s_lit : Nat → Int32) (s_latest : Nat → Int32) : Prop :=
  vp_in t1 8 ∧ P_X4_of x2 5 s_r0 (fun (r_11 : Int32) => (((x6 + r_11) ≤ x6 → P_X4_laysWord_J260 s_goes s_r0 Q x2 x7 (x6 + 1) s_lit (upd s_whole t1.toNatClampNeg t0) s_latest) ∧ (¬ (x6 + r_11) ≤ x6 → P_X4_of x2 5 s_r0 (fun (r_12 : Int32) => P_X4_laysWord_J260 s_goes s_r0 Q x2 x7 (x6 + r_12) s_lit (upd s_whole t1.toNatClampNeg t0) s_latest))))
def P_X4_laysWord_J31 (s_lit : Nat → Int32) (s_whole : Nat → Int32) (s_goes : Nat → Int32) (s_r0 : Nat → Int32) (Q : (Nat → Int32) → (Nat → Int32) → (Nat → Int32) → (Nat → Int32) → Prop) (x2 : Int32) (x3 : Int32) (x4 : Int32) (t0 : Int32) (s_latest : Nat → Int32) : Prop :=
  P_X4_of x2 3 s_r0 (fun (r_13 : Int32) => ∃ n : Nat, P_X4_laysWord_L47 x2 x3 x4 t0 s_r0 (fun (x6_14 : Int32) (x7_15 : Int32) (s_lit_16 : Nat → Int32) => ((x7_15 = 0 → P_X4_laysWord_J229 s_whole s_goes s_r0 Q x2 x6_14 x7_15 (-1) x2 s_lit_16 s_latest) ∧ (¬ x7_15 = 0 → P_X4_laysWord_J229 s_whole s_goes s_r0 Q x2 x6_14 x7_15 x6_14 x2 s_lit_16 s_latest))) n r_13 1 0 s_lit)
def P_X4_laysWord (p1 : Int32) (s_lit : Nat → Int32) (s_whole : Nat → Int32) (s_goes : Nat → Int32) (s_latest : Nat → Int32) (s_r0 : Nat → Int32) (Q : (Nat → Int32) → (Nat → Int32) → (Nat → Int32) → (Nat → Int32) → Prop) : Prop :=
  P_X4_of p1 0 s_r0 (fun (r_17 : Int32) => P_X4_of p1 4 s_r0 (fun (r_18 : Int32) => ((¬ r_18 = 2 → P_X4_laysWord_J31 s_lit s_whole s_goes s_r0 Q p1 r_17 r_18 0 s_latest) ∧ (r_18 = 2 → P_X4_together p1 s_latest s_r0 (fun (r_19 : Int32) (s_latest_20 : Nat → Int32) => P_X4_laysWord_J31 s_lit s_whole s_goes s_r0 Q p1 r_17 r_18 r_19 s_latest_20)))))
def B_X4_lays_L2 (s_r0 : Nat → Int32) (Q : (Nat → Int32) → (Nat → Int32) → (Nat → Int32) → (Nat → Int32) → Prop) (rec2 : Int32 → (Nat → Int32) → (Nat → Int32) → (Nat → Int32) → (Nat → Int32) → Prop) (x2 : Int32) (s_lit : Nat → Int32) (s_whole : Nat → Int32) (s_goes : Nat → Int32) (s_latest : Nat → Int32) : Prop :=
  (((s_r0 2) ≤ x2 → Q s_lit s_whole s_goes s_latest) ∧ (¬ (s_r0 2) ≤ x2 → P_X4_laysWord x2 s_lit s_whole s_goes s_latest s_r0 (fun (s_lit_1 : Nat → Int32) (s_whole_2 : Nat → Int32) (s_goes_3 : Nat → Int32) (s_latest_4 : Nat → Int32) => rec2 (x2 + 1) s_lit_1 s_whole_2 s_goes_3 s_latest_4)))
noncomputable def P_X4_lays_L2 (s_r0 : Nat → Int32) (Q : (Nat → Int32) → (Nat → Int32) → (Nat → Int32) → (Nat → Int32) → Prop) (n : Nat) : Int32 → (Nat → Int32) → (Nat → Int32) → (Nat → Int32) → (Nat → Int32) → Prop := Nat.rec (motive := fun _ => Int32 → (Nat → Int32) → (Nat → Int32) → (Nat → Int32) → (Nat → Int32) → Prop) (fun _ _ _ _ _ => False) (fun _ r => B_X4_lays_L2 s_r0 Q r) n
theorem P_X4_lays_L2_z (s_r0 : Nat → Int32) (Q : (Nat → Int32) → (Nat → Int32) → (Nat → Int32) → (Nat → Int32) → Prop) (x2 : Int32) (s_lit : Nat → Int32) (s_whole : Nat → Int32) (s_goes : Nat → Int32) (s_latest : Nat → Int32) : P_X4_lays_L2 s_r0 Q 0 x2 s_lit s_whole s_goes s_latest = False := rfl
theorem P_X4_lays_L2_s (s_r0 : Nat → Int32) (Q : (Nat → Int32) → (Nat → Int32) → (Nat → Int32) → (Nat → Int32) → Prop) (n : Nat) (x2 : Int32) (s_lit : Nat → Int32) (s_whole : Nat → Int32) (s_goes : Nat → Int32) (s_latest : Nat → Int32) : P_X4_lays_L2 s_r0 Q (n + 1) x2 s_lit s_whole s_goes s_latest = B_X4_lays_L2 s_r0 Q (P_X4_lays_L2 s_r0 Q n) x2 s_lit s_whole s_goes s_latest := rfl
def P_X4_lays (s_lit : Nat → Int32) (s_whole : Nat → Int32) (s_goes : Nat → Int32) (s_latest : Nat → Int32) (s_r0 : Nat → Int32) (Q : (Nat → Int32) → (Nat → Int32) → (Nat → Int32) → (Nat → Int32) → Prop) : Prop :=
  ∃ n : Nat, P_X4_lays_L2 s_r0 Q n 0 s_lit s_whole s_goes s_latest
def P_X4_laysNow (s_now : Nat → Int32) (s_lit : Nat → Int32) (s_whole : Nat → Int32) (s_goes : Nat → Int32) (s_isLaid : Int32) (s_latest : Nat → Int32) (Q : (Nat → Int32) → (Nat → Int32) → (Nat → Int32) → Int32 → (Nat → Int32) → Prop) : Prop :=
  ((¬ s_isLaid = 0 → Q s_lit s_whole s_goes s_isLaid s_latest) ∧ (s_isLaid = 0 → P_X4_lays s_lit s_whole s_goes s_latest s_now (fun (s_lit_1 : Nat → Int32) (s_whole_2 : Nat → Int32) (s_goes_3 : Nat → Int32) (s_latest_4 : Nat → Int32) => Q s_lit_1 s_whole_2 s_goes_3 1 s_latest_4)))
def P_X4_isSeen (p0 : Int32) (p1 : Int32) (p2 : Int32) (s_lit : Nat → Int32) (s_goes : Nat → Int32) (Q : Int32 → Prop) : Prop :=
  vp_in ((12 * p0) + p1) 96 ∧ (((s_lit (((12 * p0) + p1).toNatClampNeg)) = (-1) → Q 0) ∧ (¬ (s_lit (((12 * p0) + p1).toNatClampNeg)) = (-1) → ((p2 < (s_lit (((12 * p0) + p1).toNatClampNeg)) → Q 0) ∧ (¬ p2 < (s_lit (((12 * p0) + p1).toNatClampNeg)) → vp_in p0 8 ∧ (((s_goes p0.toNatClampNeg) = (-1) → Q 1) ∧ (¬ (s_goes p0.toNatClampNeg) = (-1) → vp_in p0 8 ∧ (((s_goes p0.toNatClampNeg) ≤ p2 → Q 0) ∧ (¬ (s_goes p0.toNatClampNeg) ≤ p2 → Q 1))))))))
def P_X4_letterAt (p1 : Int32) (p2 : Int32) (s_r0 : Nat → Int32) (Q : Int32 → Prop) : Prop :=
  P_X4_of p1 2 s_r0 (fun (r_1 : Int32) => P_X4_of p1 0 s_r0 (fun (r_2 : Int32) => P_X4_in (p2 - r_1) 0 (r_2 - 1) (fun (r_3 : Int32) => ((r_3 = 0 → Q (-1)) ∧ (¬ r_3 = 0 → Q (p2 - r_1))))))
def P_X4_clash_J88 (rec6 : Int32 → Int32 → Prop) (x6 : Int32) (t0 : Int32) : Prop :=
  rec6 t0 (x6 + 1)
def P_X4_clash_J83 (rec6 : Int32 → Int32 → Prop) (x6 : Int32) : Prop :=
  P_X4_clash_J88 rec6 x6 1
def P_X4_clash_J87 (rec6 : Int32 → Int32 → Prop) (x6 : Int32) : Prop :=
  P_X4_clash_J88 rec6 x6 0
def B_X4_clash_L6 (x2 : Int32) (x3 : Int32) (x4 : Int32) (s_lit : Nat → Int32) (s_goes : Nat → Int32) (s_r0 : Nat → Int32) (Q : Int32 → Prop) (rec6 : Int32 → Int32 → Prop) (x5 : Int32) (x6 : Int32) : Prop :=
  P_X4_of x2 0 s_r0 (fun (r_1 : Int32) => ((r_1 ≤ x6 → narrow .boolean (.int x5) = .int x5 ∧ Q x5) ∧ (¬ r_1 ≤ x6 → P_X4_of x2 1 s_r0 (fun (r_3 : Int32) => P_X4_of x3 1 s_r0 (fun (r_4 : Int32) => ((¬ r_3 = r_4 → narrow .boolean (.int x5) = .int x5 ∧ Q x5) ∧ (r_3 = r_4 → P_X4_of x2 2 s_r0 (fun (r_6 : Int32) => P_X4_letterAt x3 (r_6 + x6) s_r0 (fun (r_7 : Int32) => ((¬ x5 = 0 → P_X4_clash_J83 rec6 x6) ∧ (x5 = 0 → ((r_7 = (-1) → P_X4_clash_J87 rec6 x6) ∧ (¬ r_7 = (-1) → P_X4_isSeen x2 x6 x4 s_lit s_goes (fun (r_8 : Int32) => ((r_8 = 0 → P_X4_clash_J87 rec6 x6) ∧ (¬ r_8 = 0 → P_X4_isSeen x3 r_7 x4 s_lit s_goes (fun (r_9 : Int32) => ((r_9 = 0 → P_X4_clash_J87 rec6 x6) ∧ (¬ r_9 = 0 → P_X4_clash_J83 rec6 x6)))))))))))))))))))
noncomputable def P_X4_clash_L6 (x2 : Int32) (x3 : Int32) (x4 : Int32) (s_lit : Nat → Int32) (s_goes : Nat → Int32) (s_r0 : Nat → Int32) (Q : Int32 → Prop) (n : Nat) : Int32 → Int32 → Prop := Nat.rec (motive := fun _ => Int32 → Int32 → Prop) (fun _ _ => False) (fun _ r => B_X4_clash_L6 x2 x3 x4 s_lit s_goes s_r0 Q r) n
theorem P_X4_clash_L6_z (x2 : Int32) (x3 : Int32) (x4 : Int32) (s_lit : Nat → Int32) (s_goes : Nat → Int32) (s_r0 : Nat → Int32) (Q : Int32 → Prop) (x5 : Int32) (x6 : Int32) : P_X4_clash_L6 x2 x3 x4 s_lit s_goes s_r0 Q 0 x5 x6 = False := rfl
theorem P_X4_clash_L6_s (x2 : Int32) (x3 : Int32) (x4 : Int32) (s_lit : Nat → Int32) (s_goes : Nat → Int32) (s_r0 : Nat → Int32) (Q : Int32 → Prop) (n : Nat) (x5 : Int32) (x6 : Int32) : P_X4_clash_L6 x2 x3 x4 s_lit s_goes s_r0 Q (n + 1) x5 x6 = B_X4_clash_L6 x2 x3 x4 s_lit s_goes s_r0 Q (P_X4_clash_L6 x2 x3 x4 s_lit s_goes s_r0 Q n) x5 x6 := rfl
def P_X4_clash (p1 : Int32) (p2 : Int32) (p3 : Int32) (s_lit : Nat → Int32) (s_goes : Nat → Int32) (s_r0 : Nat → Int32) (Q : Int32 → Prop) : Prop :=
  ∃ n : Nat, P_X4_clash_L6 p1 p2 p3 s_lit s_goes s_r0 Q n 0 0
def P_X4_clashes_J42 (rec16 : Int32 → Int32 → Prop) (x5 : Int32) (t0 : Int32) (t1 : Int32) : Prop :=
  rec16 (t1 + t0) (x5 + 1)
def B_X4_clashes_L16 (x2 : Int32) (x4 : Int32) (s_lit : Nat → Int32) (s_goes : Nat → Int32) (s_r0 : Nat → Int32) (K16_50 : Int32 → Prop) (rec16 : Int32 → Int32 → Prop) (x3 : Int32) (x5 : Int32) : Prop :=
  ((x4 ≤ x5 → K16_50 x3) ∧ (¬ x4 ≤ x5 → P_X4_clash x4 x5 x2 s_lit s_goes s_r0 (fun (r_1 : Int32) => ((r_1 = 0 → P_X4_clashes_J42 rec16 x5 0 x3) ∧ (¬ r_1 = 0 → P_X4_clashes_J42 rec16 x5 1 x3)))))
noncomputable def P_X4_clashes_L16 (x2 : Int32) (x4 : Int32) (s_lit : Nat → Int32) (s_goes : Nat → Int32) (s_r0 : Nat → Int32) (K16_50 : Int32 → Prop) (n : Nat) : Int32 → Int32 → Prop := Nat.rec (motive := fun _ => Int32 → Int32 → Prop) (fun _ _ => False) (fun _ r => B_X4_clashes_L16 x2 x4 s_lit s_goes s_r0 K16_50 r) n
theorem P_X4_clashes_L16_z (x2 : Int32) (x4 : Int32) (s_lit : Nat → Int32) (s_goes : Nat → Int32) (s_r0 : Nat → Int32) (K16_50 : Int32 → Prop) (x3 : Int32) (x5 : Int32) : P_X4_clashes_L16 x2 x4 s_lit s_goes s_r0 K16_50 0 x3 x5 = False := rfl
theorem P_X4_clashes_L16_s (x2 : Int32) (x4 : Int32) (s_lit : Nat → Int32) (s_goes : Nat → Int32) (s_r0 : Nat → Int32) (K16_50 : Int32 → Prop) (n : Nat) (x3 : Int32) (x5 : Int32) : P_X4_clashes_L16 x2 x4 s_lit s_goes s_r0 K16_50 (n + 1) x3 x5 = B_X4_clashes_L16 x2 x4 s_lit s_goes s_r0 K16_50 (P_X4_clashes_L16 x2 x4 s_lit s_goes s_r0 K16_50 n) x3 x5 := rfl
def B_X4_clashes_L5 (x2 : Int32) (s_lit : Nat → Int32) (s_goes : Nat → Int32) (s_r0 : Nat → Int32) (Q : Int32 → Prop) (rec5 : Int32 → Int32 → Prop) (x3 : Int32) (x4 : Int32) : Prop :=
  (((s_r0 2) ≤ x4 → Q x3) ∧ (¬ (s_r0 2) ≤ x4 → ∃ n : Nat, P_X4_clashes_L16 x2 x4 s_lit s_goes s_r0 (fun (x3_2 : Int32) => rec5 x3_2 (x4 + 1)) n x3 0))
noncomputable def P_X4_clashes_L5 (x2 : Int32) (s_lit : Nat → Int32) (s_goes : Nat → Int32) (s_r0 : Nat → Int32) (Q : Int32 → Prop) (n : Nat) : Int32 → Int32 → Prop := Nat.rec (motive := fun _ => Int32 → Int32 → Prop) (fun _ _ => False) (fun _ r => B_X4_clashes_L5 x2 s_lit s_goes s_r0 Q r) n
theorem P_X4_clashes_L5_z (x2 : Int32) (s_lit : Nat → Int32) (s_goes : Nat → Int32) (s_r0 : Nat → Int32) (Q : Int32 → Prop) (x3 : Int32) (x4 : Int32) : P_X4_clashes_L5 x2 s_lit s_goes s_r0 Q 0 x3 x4 = False := rfl
theorem P_X4_clashes_L5_s (x2 : Int32) (s_lit : Nat → Int32) (s_goes : Nat → Int32) (s_r0 : Nat → Int32) (Q : Int32 → Prop) (n : Nat) (x3 : Int32) (x4 : Int32) : P_X4_clashes_L5 x2 s_lit s_goes s_r0 Q (n + 1) x3 x4 = B_X4_clashes_L5 x2 s_lit s_goes s_r0 Q (P_X4_clashes_L5 x2 s_lit s_goes s_r0 Q n) x3 x4 := rfl
def P_X4_clashes (p1 : Int32) (s_lit : Nat → Int32) (s_goes : Nat → Int32) (s_r0 : Nat → Int32) (Q : Int32 → Prop) : Prop :=
  ∃ n : Nat, P_X4_clashes_L5 p1 s_lit s_goes s_r0 Q n 0 0
def B_X4_letters_L4 (s_r0 : Nat → Int32) (Q : Int32 → Prop) (rec4 : Int32 → Int32 → Prop) (x1 : Int32) (x2 : Int32) : Prop :=
  (((s_r0 2) ≤ x2 → Q x1) ∧ (¬ (s_r0 2) ≤ x2 → P_X4_of x2 0 s_r0 (fun (r_1 : Int32) => rec4 (x1 + r_1) (x2 + 1))))
noncomputable def P_X4_letters_L4 (s_r0 : Nat → Int32) (Q : Int32 → Prop) (n : Nat) : Int32 → Int32 → Prop := Nat.rec (motive := fun _ => Int32 → Int32 → Prop) (fun _ _ => False) (fun _ r => B_X4_letters_L4 s_r0 Q r) n
theorem P_X4_letters_L4_z (s_r0 : Nat → Int32) (Q : Int32 → Prop) (x1 : Int32) (x2 : Int32) : P_X4_letters_L4 s_r0 Q 0 x1 x2 = False := rfl
theorem P_X4_letters_L4_s (s_r0 : Nat → Int32) (Q : Int32 → Prop) (n : Nat) (x1 : Int32) (x2 : Int32) : P_X4_letters_L4 s_r0 Q (n + 1) x1 x2 = B_X4_letters_L4 s_r0 Q (P_X4_letters_L4 s_r0 Q n) x1 x2 := rfl
def P_X4_letters (s_r0 : Nat → Int32) (Q : Int32 → Prop) : Prop :=
  ∃ n : Nat, P_X4_letters_L4 s_r0 Q n 0 0
def P_X4_litOf_J38 (rec5 : Int32 → Int32 → Prop) (x4 : Int32) (t0 : Int32) (t1 : Int32) : Prop :=
  rec5 (t1 + t0) (x4 + 1)
def B_X4_litOf_L5 (x2 : Int32) (s_lit : Nat → Int32) (s_r0 : Nat → Int32) (Q : Int32 → Prop) (rec5 : Int32 → Int32 → Prop) (x3 : Int32) (x4 : Int32) : Prop :=
  P_X4_of x2 0 s_r0 (fun (r_1 : Int32) => ((r_1 ≤ x4 → Q x3) ∧ (¬ r_1 ≤ x4 → vp_in ((12 * x2) + x4) 96 ∧ ((¬ (s_lit (((12 * x2) + x4).toNatClampNeg)) = (-1) → P_X4_litOf_J38 rec5 x4 1 x3) ∧ ((s_lit (((12 * x2) + x4).toNatClampNeg)) = (-1) → P_X4_litOf_J38 rec5 x4 0 x3)))))
noncomputable def P_X4_litOf_L5 (x2 : Int32) (s_lit : Nat → Int32) (s_r0 : Nat → Int32) (Q : Int32 → Prop) (n : Nat) : Int32 → Int32 → Prop := Nat.rec (motive := fun _ => Int32 → Int32 → Prop) (fun _ _ => False) (fun _ r => B_X4_litOf_L5 x2 s_lit s_r0 Q r) n
theorem P_X4_litOf_L5_z (x2 : Int32) (s_lit : Nat → Int32) (s_r0 : Nat → Int32) (Q : Int32 → Prop) (x3 : Int32) (x4 : Int32) : P_X4_litOf_L5 x2 s_lit s_r0 Q 0 x3 x4 = False := rfl
theorem P_X4_litOf_L5_s (x2 : Int32) (s_lit : Nat → Int32) (s_r0 : Nat → Int32) (Q : Int32 → Prop) (n : Nat) (x3 : Int32) (x4 : Int32) : P_X4_litOf_L5 x2 s_lit s_r0 Q (n + 1) x3 x4 = B_X4_litOf_L5 x2 s_lit s_r0 Q (P_X4_litOf_L5 x2 s_lit s_r0 Q n) x3 x4 := rfl
def P_X4_litOf (p1 : Int32) (s_lit : Nat → Int32) (s_r0 : Nat → Int32) (Q : Int32 → Prop) : Prop :=
  ∃ n : Nat, P_X4_litOf_L5 p1 s_lit s_r0 Q n 0 0
def B_X4_allLit_L4 (s_lit : Nat → Int32) (s_r0 : Nat → Int32) (Q : Int32 → Prop) (rec4 : Int32 → Int32 → Prop) (x2 : Int32) (x3 : Int32) : Prop :=
  (((s_r0 2) ≤ x3 → Q x2) ∧ (¬ (s_r0 2) ≤ x3 → P_X4_litOf x3 s_lit s_r0 (fun (r_1 : Int32) => rec4 (x2 + r_1) (x3 + 1))))
noncomputable def P_X4_allLit_L4 (s_lit : Nat → Int32) (s_r0 : Nat → Int32) (Q : Int32 → Prop) (n : Nat) : Int32 → Int32 → Prop := Nat.rec (motive := fun _ => Int32 → Int32 → Prop) (fun _ _ => False) (fun _ r => B_X4_allLit_L4 s_lit s_r0 Q r) n
theorem P_X4_allLit_L4_z (s_lit : Nat → Int32) (s_r0 : Nat → Int32) (Q : Int32 → Prop) (x2 : Int32) (x3 : Int32) : P_X4_allLit_L4 s_lit s_r0 Q 0 x2 x3 = False := rfl
theorem P_X4_allLit_L4_s (s_lit : Nat → Int32) (s_r0 : Nat → Int32) (Q : Int32 → Prop) (n : Nat) (x2 : Int32) (x3 : Int32) : P_X4_allLit_L4 s_lit s_r0 Q (n + 1) x2 x3 = B_X4_allLit_L4 s_lit s_r0 Q (P_X4_allLit_L4 s_lit s_r0 Q n) x2 x3 := rfl
def P_X4_allLit (s_lit : Nat → Int32) (s_r0 : Nat → Int32) (Q : Int32 → Prop) : Prop :=
  ∃ n : Nat, P_X4_allLit_L4 s_lit s_r0 Q n 0 0
def P_X4_wholes_J27 (rec4 : Int32 → Int32 → Prop) (x3 : Int32) (t0 : Int32) (t1 : Int32) : Prop :=
  rec4 (t1 + t0) (x3 + 1)
def B_X4_wholes_L4 (s_whole : Nat → Int32) (s_r0 : Nat → Int32) (Q : Int32 → Prop) (rec4 : Int32 → Int32 → Prop) (x2 : Int32) (x3 : Int32) : Prop :=
  (((s_r0 2) ≤ x3 → Q x2) ∧ (¬ (s_r0 2) ≤ x3 → vp_in x3 8 ∧ ((¬ (s_whole x3.toNatClampNeg) = (-1) → P_X4_wholes_J27 rec4 x3 1 x2) ∧ ((s_whole x3.toNatClampNeg) = (-1) → P_X4_wholes_J27 rec4 x3 0 x2))))
noncomputable def P_X4_wholes_L4 (s_whole : Nat → Int32) (s_r0 : Nat → Int32) (Q : Int32 → Prop) (n : Nat) : Int32 → Int32 → Prop := Nat.rec (motive := fun _ => Int32 → Int32 → Prop) (fun _ _ => False) (fun _ r => B_X4_wholes_L4 s_whole s_r0 Q r) n
theorem P_X4_wholes_L4_z (s_whole : Nat → Int32) (s_r0 : Nat → Int32) (Q : Int32 → Prop) (x2 : Int32) (x3 : Int32) : P_X4_wholes_L4 s_whole s_r0 Q 0 x2 x3 = False := rfl
theorem P_X4_wholes_L4_s (s_whole : Nat → Int32) (s_r0 : Nat → Int32) (Q : Int32 → Prop) (n : Nat) (x2 : Int32) (x3 : Int32) : P_X4_wholes_L4 s_whole s_r0 Q (n + 1) x2 x3 = B_X4_wholes_L4 s_whole s_r0 Q (P_X4_wholes_L4 s_whole s_r0 Q n) x2 x3 := rfl
def P_X4_wholes (s_whole : Nat → Int32) (s_r0 : Nat → Int32) (Q : Int32 → Prop) : Prop :=
  ∃ n : Nat, P_X4_wholes_L4 s_whole s_r0 Q n 0 0
def P_X4_clashing_J26 (rec4 : Int32 → Int32 → Prop) (x3 : Int32) (t0 : Int32) (t1 : Int32) : Prop :=
  rec4 (t1 + t0) (x3 + 1)
def B_X4_clashing_L4 (s_lit : Nat → Int32) (s_goes : Nat → Int32) (s_r0 : Nat → Int32) (Q : Int32 → Prop) (rec4 : Int32 → Int32 → Prop) (x2 : Int32) (x3 : Int32) : Prop :=
  ((200 ≤ x3 → Q x2) ∧ (¬ 200 ≤ x3 → P_X4_clashes x3 s_lit s_goes s_r0 (fun (r_1 : Int32) => ((r_1 ≤ 0 → P_X4_clashing_J26 rec4 x3 0 x2) ∧ (¬ r_1 ≤ 0 → P_X4_clashing_J26 rec4 x3 1 x2)))))
noncomputable def P_X4_clashing_L4 (s_lit : Nat → Int32) (s_goes : Nat → Int32) (s_r0 : Nat → Int32) (Q : Int32 → Prop) (n : Nat) : Int32 → Int32 → Prop := Nat.rec (motive := fun _ => Int32 → Int32 → Prop) (fun _ _ => False) (fun _ r => B_X4_clashing_L4 s_lit s_goes s_r0 Q r) n
theorem P_X4_clashing_L4_z (s_lit : Nat → Int32) (s_goes : Nat → Int32) (s_r0 : Nat → Int32) (Q : Int32 → Prop) (x2 : Int32) (x3 : Int32) : P_X4_clashing_L4 s_lit s_goes s_r0 Q 0 x2 x3 = False := rfl
theorem P_X4_clashing_L4_s (s_lit : Nat → Int32) (s_goes : Nat → Int32) (s_r0 : Nat → Int32) (Q : Int32 → Prop) (n : Nat) (x2 : Int32) (x3 : Int32) : P_X4_clashing_L4 s_lit s_goes s_r0 Q (n + 1) x2 x3 = B_X4_clashing_L4 s_lit s_goes s_r0 Q (P_X4_clashing_L4 s_lit s_goes s_r0 Q n) x2 x3 := rfl
def P_X4_clashing (s_lit : Nat → Int32) (s_goes : Nat → Int32) (s_r0 : Nat → Int32) (Q : Int32 → Prop) : Prop :=
  ∃ n : Nat, P_X4_clashing_L4 s_lit s_goes s_r0 Q n 0 0
def P_X4_mayWord (p0 : Int32) (p1 : Int32) (p2 : Int32) (p3 : Int32) (s_now : Nat → Int32) (Q : Int32 → Prop) : Prop :=
  P_X4_in p0 1 12 (fun (r_1 : Int32) => ((r_1 = 0 → Q 1) ∧ (¬ r_1 = 0 → P_X4_in p1 0 7 (fun (r_2 : Int32) => ((r_2 = 0 → Q 1) ∧ (¬ r_2 = 0 → P_X4_isColumn p2 (fun (r_3 : Int32) => ((r_3 = 0 → Q 1) ∧ (¬ r_3 = 0 → P_X4_isBeat p3 (fun (r_4 : Int32) => ((r_4 = 0 → Q 1) ∧ (¬ r_4 = 0 → (((p2 + p0) ≤ 60 → ((¬ (s_now 2) = 8 → Q 0) ∧ ((s_now 2) = 8 → Q 2))) ∧ (¬ (p2 + p0) ≤ 60 → Q 1))))))))))))))
def P_X4_words (p0 : Int32) (p1 : Int32) (p2 : Int32) (p3 : Int32) (s_now : Nat → Int32) (Q : Int32 → (Nat → Int32) → Prop) : Prop :=
  vp_in (4 + (6 * (s_now 2))) 87 ∧ vp_in ((4 + (6 * (s_now 2))) + 1) 87 ∧ vp_in ((4 + (6 * (s_now 2))) + 2) 87 ∧ vp_in ((4 + (6 * (s_now 2))) + 3) 87 ∧ vp_in ((4 + (6 * (s_now 2))) + 4) 87 ∧ vp_in ((4 + (6 * (s_now 2))) + 5) 87 ∧ Q (((upd (upd (upd (upd (upd (upd (upd s_now ((4 + (6 * (s_now 2))).toNatClampNeg) p0) (((4 + (6 * (s_now 2))) + 1).toNatClampNeg) p1) (((4 + (6 * (s_now 2))) + 2).toNatClampNeg) p2) (((4 + (6 * (s_now 2))) + 3).toNatClampNeg) p3) (((4 + (6 * (s_now 2))) + 4).toNatClampNeg) 0) (((4 + (6 * (s_now 2))) + 5).toNatClampNeg) 4) 2 (((upd (upd (upd (upd (upd (upd s_now ((4 + (6 * (s_now 2))).toNatClampNeg) p0) (((4 + (6 * (s_now 2))) + 1).toNatClampNeg) p1) (((4 + (6 * (s_now 2))) + 2).toNatClampNeg) p2) (((4 + (6 * (s_now 2))) + 3).toNatClampNeg) p3) (((4 + (6 * (s_now 2))) + 4).toNatClampNeg) 0) (((4 + (6 * (s_now 2))) + 5).toNatClampNeg) 4) 2) + 1)) 2) - 1) (upd (upd (upd (upd (upd (upd (upd s_now ((4 + (6 * (s_now 2))).toNatClampNeg) p0) (((4 + (6 * (s_now 2))) + 1).toNatClampNeg) p1) (((4 + (6 * (s_now 2))) + 2).toNatClampNeg) p2) (((4 + (6 * (s_now 2))) + 3).toNatClampNeg) p3) (((4 + (6 * (s_now 2))) + 4).toNatClampNeg) 0) (((4 + (6 * (s_now 2))) + 5).toNatClampNeg) 4) 2 (((upd (upd (upd (upd (upd (upd s_now ((4 + (6 * (s_now 2))).toNatClampNeg) p0) (((4 + (6 * (s_now 2))) + 1).toNatClampNeg) p1) (((4 + (6 * (s_now 2))) + 2).toNatClampNeg) p2) (((4 + (6 * (s_now 2))) + 3).toNatClampNeg) p3) (((4 + (6 * (s_now 2))) + 4).toNatClampNeg) 0) (((4 + (6 * (s_now 2))) + 5).toNatClampNeg) 4) 2) + 1))
def P_X4_word (p0 : Int32) (p1 : Int32) (p2 : Int32) (p3 : Int32) (s_now : Nat → Int32) (s_past : Nat → Int32) (s_kept : Int32) (s_thrown : Int32) (s_isLaid : Int32) (Q : Int32 → (Nat → Int32) → (Nat → Int32) → Int32 → Int32 → Int32 → Prop) : Prop :=
  P_X4_mayWord p0 p1 p2 p3 s_now (fun (r_1 : Int32) => ((r_1 = 0 → P_X4_saves s_now s_past s_kept s_isLaid (fun (s_past_2 : Nat → Int32) (s_kept_3 : Int32) (s_isLaid_4 : Int32) => P_X4_words p0 p1 p2 p3 s_now (fun (r_5 : Int32) (s_now_6 : Nat → Int32) => Q r_5 s_now_6 s_past_2 s_kept_3 r_1 s_isLaid_4))) ∧ (¬ r_1 = 0 → Q 0 s_now s_past s_kept r_1 s_isLaid)))
def P_X4_changes (p0 : Int32) (p1 : Int32) (s_now : Nat → Int32) (Q : Int32 → (Nat → Int32) → Prop) : Prop :=
  vp_in p0 87 ∧ vp_in p0 87 ∧ Q (s_now p0.toNatClampNeg) (upd s_now p0.toNatClampNeg p1)
def P_X4_rule_J38 (s_now : Nat → Int32) (s_past : Nat → Int32) (s_kept : Int32) (s_isLaid : Int32) (Q : Int32 → (Nat → Int32) → (Nat → Int32) → Int32 → Int32 → Int32 → Prop) (s_thrown : Int32) : Prop :=
  P_X4_fails 2 s_thrown (fun (r_1 : Int32) (s_thrown_2 : Int32) => Q r_1 s_now s_past s_kept s_thrown_2 s_isLaid)
def P_X4_rule (p0 : Int32) (p1 : Int32) (p2 : Int32) (s_now : Nat → Int32) (s_past : Nat → Int32) (s_kept : Int32) (s_thrown : Int32) (s_isLaid : Int32) (Q : Int32 → (Nat → Int32) → (Nat → Int32) → Int32 → Int32 → Int32 → Prop) : Prop :=
  P_X4_isWord p0 s_now (fun (r_3 : Int32) => ((¬ r_3 = 0 → P_X4_in p1 0 2 (fun (r_4 : Int32) => ((r_4 = 0 → P_X4_rule_J38 s_now s_past s_kept s_isLaid Q 0) ∧ (¬ r_4 = 0 → P_X4_in p2 0 50 (fun (r_5 : Int32) => ((¬ r_5 = 0 → P_X4_saves s_now s_past s_kept s_isLaid (fun (s_past_6 : Nat → Int32) (s_kept_7 : Int32) (s_isLaid_8 : Int32) => P_X4_changes ((4 + (6 * p0)) + 5) p2 s_now (fun (r_9 : Int32) (s_now_10 : Nat → Int32) => P_X4_changes ((4 + (6 * p0)) + 4) p1 s_now_10 (fun (r_11 : Int32) (s_now_12 : Nat → Int32) => Q r_11 s_now_12 s_past_6 s_kept_7 0 s_isLaid_8)))) ∧ (r_5 = 0 → P_X4_rule_J38 s_now s_past s_kept s_isLaid Q 0))))))) ∧ (r_3 = 0 → P_X4_fails 1 0 (fun (r_13 : Int32) (s_thrown_14 : Int32) => Q r_13 s_now s_past s_kept s_thrown_14 s_isLaid))))
def P_X4_cue (p0 : Int32) (p1 : Int32) (s_now : Nat → Int32) (s_past : Nat → Int32) (s_kept : Int32) (s_thrown : Int32) (s_isLaid : Int32) (Q : Int32 → (Nat → Int32) → (Nat → Int32) → Int32 → Int32 → Int32 → Prop) : Prop :=
  P_X4_isWord p0 s_now (fun (r_1 : Int32) => ((¬ r_1 = 0 → P_X4_isBeat p1 (fun (r_2 : Int32) => ((¬ r_2 = 0 → P_X4_saves s_now s_past s_kept s_isLaid (fun (s_past_3 : Nat → Int32) (s_kept_4 : Int32) (s_isLaid_5 : Int32) => P_X4_changes ((4 + (6 * p0)) + 3) p1 s_now (fun (r_6 : Int32) (s_now_7 : Nat → Int32) => Q r_6 s_now_7 s_past_3 s_kept_4 0 s_isLaid_5))) ∧ (r_2 = 0 → P_X4_fails 2 0 (fun (r_8 : Int32) (s_thrown_9 : Int32) => Q r_8 s_now s_past s_kept s_thrown_9 s_isLaid))))) ∧ (r_1 = 0 → P_X4_fails 1 0 (fun (r_10 : Int32) (s_thrown_11 : Int32) => Q r_10 s_now s_past s_kept s_thrown_11 s_isLaid))))
def B_X4_removeWord_L40 (s_past : Nat → Int32) (s_kept : Int32) (s_thrown : Int32) (s_isLaid : Int32) (Q : Int32 → (Nat → Int32) → (Nat → Int32) → Int32 → Int32 → Int32 → Prop) (rec40 : Int32 → (Nat → Int32) → Prop) (x2 : Int32) (s_now : Nat → Int32) : Prop :=
  (((4 + (6 * (s_now 2))) ≤ x2 → Q (s_now 2) s_now s_past s_kept s_thrown s_isLaid) ∧ (¬ (4 + (6 * (s_now 2))) ≤ x2 → vp_in (x2 + 6) 87 ∧ vp_in x2 87 ∧ rec40 (x2 + 1) (upd s_now x2.toNatClampNeg (s_now ((x2 + 6).toNatClampNeg)))))
noncomputable def P_X4_removeWord_L40 (s_past : Nat → Int32) (s_kept : Int32) (s_thrown : Int32) (s_isLaid : Int32) (Q : Int32 → (Nat → Int32) → (Nat → Int32) → Int32 → Int32 → Int32 → Prop) (n : Nat) : Int32 → (Nat → Int32) → Prop := Nat.rec (motive := fun _ => Int32 → (Nat → Int32) → Prop) (fun _ _ => False) (fun _ r => B_X4_removeWord_L40 s_past s_kept s_thrown s_isLaid Q r) n
theorem P_X4_removeWord_L40_z (s_past : Nat → Int32) (s_kept : Int32) (s_thrown : Int32) (s_isLaid : Int32) (Q : Int32 → (Nat → Int32) → (Nat → Int32) → Int32 → Int32 → Int32 → Prop) (x2 : Int32) (s_now : Nat → Int32) : P_X4_removeWord_L40 s_past s_kept s_thrown s_isLaid Q 0 x2 s_now = False := rfl
theorem P_X4_removeWord_L40_s (s_past : Nat → Int32) (s_kept : Int32) (s_thrown : Int32) (s_isLaid : Int32) (Q : Int32 → (Nat → Int32) → (Nat → Int32) → Int32 → Int32 → Int32 → Prop) (n : Nat) (x2 : Int32) (s_now : Nat → Int32) : P_X4_removeWord_L40 s_past s_kept s_thrown s_isLaid Q (n + 1) x2 s_now = B_X4_removeWord_L40 s_past s_kept s_thrown s_isLaid Q (P_X4_removeWord_L40 s_past s_kept s_thrown s_isLaid Q n) x2 s_now := rfl
def P_X4_removeWord (p0 : Int32) (s_now : Nat → Int32) (s_past : Nat → Int32) (s_kept : Int32) (s_thrown : Int32) (s_isLaid : Int32) (Q : Int32 → (Nat → Int32) → (Nat → Int32) → Int32 → Int32 → Int32 → Prop) : Prop :=
  P_X4_isWord p0 s_now (fun (r_3 : Int32) => ((¬ r_3 = 0 → P_X4_saves s_now s_past s_kept s_isLaid (fun (s_past_4 : Nat → Int32) (s_kept_5 : Int32) (s_isLaid_6 : Int32) => ∃ n : Nat, P_X4_removeWord_L40 s_past_4 s_kept_5 0 s_isLaid_6 Q n (4 + (6 * p0)) (upd s_now 2 ((s_now 2) - 1)))) ∧ (r_3 = 0 → P_X4_fails 1 0 (fun (r_7 : Int32) (s_thrown_8 : Int32) => Q r_7 s_now s_past s_kept s_thrown_8 s_isLaid))))
def P_X4_mayBeam (p0 : Int32) (p1 : Int32) (p2 : Int32) (p3 : Int32) (p4 : Int32) (s_now : Nat → Int32) (Q : Int32 → Prop) : Prop :=
  P_X4_isBeat p0 (fun (r_1 : Int32) => ((r_1 = 0 → Q 1) ∧ (¬ r_1 = 0 → P_X4_isColumn p1 (fun (r_2 : Int32) => ((r_2 = 0 → Q 1) ∧ (¬ r_2 = 0 → P_X4_in p2 (-9) 9 (fun (r_3 : Int32) => ((r_3 = 0 → Q 1) ∧ (¬ r_3 = 0 → P_X4_in p3 1 9 (fun (r_4 : Int32) => ((r_4 = 0 → Q 1) ∧ (¬ r_4 = 0 → P_X4_in p4 1 255 (fun (r_5 : Int32) => ((¬ r_5 = 0 → ((¬ (s_now 3) = 6 → Q 0) ∧ ((s_now 3) = 6 → Q 2))) ∧ (r_5 = 0 → Q 1)))))))))))))))
def P_X4_beams (p1 : Int32) (p2 : Int32) (p3 : Int32) (p4 : Int32) (p5 : Int32) (s_r0 : Nat → Int32) (Q : (Nat → Int32) → Prop) : Prop :=
  vp_in (52 + (5 * (s_r0 3))) 87 ∧ vp_in ((52 + (5 * (s_r0 3))) + 1) 87 ∧ vp_in ((52 + (5 * (s_r0 3))) + 2) 87 ∧ vp_in ((52 + (5 * (s_r0 3))) + 3) 87 ∧ vp_in ((52 + (5 * (s_r0 3))) + 4) 87 ∧ Q (upd (upd (upd (upd (upd (upd s_r0 ((52 + (5 * (s_r0 3))).toNatClampNeg) p1) (((52 + (5 * (s_r0 3))) + 1).toNatClampNeg) p2) (((52 + (5 * (s_r0 3))) + 2).toNatClampNeg) p3) (((52 + (5 * (s_r0 3))) + 3).toNatClampNeg) p4) (((52 + (5 * (s_r0 3))) + 4).toNatClampNeg) p5) 3 (((upd (upd (upd (upd (upd s_r0 ((52 + (5 * (s_r0 3))).toNatClampNeg) p1) (((52 + (5 * (s_r0 3))) + 1).toNatClampNeg) p2) (((52 + (5 * (s_r0 3))) + 2).toNatClampNeg) p3) (((52 + (5 * (s_r0 3))) + 3).toNatClampNeg) p4) (((52 + (5 * (s_r0 3))) + 4).toNatClampNeg) p5) 3) + 1))
def B_X4_unlights_L14 (Q : (Nat → Int32) → Prop) (rec14 : Int32 → (Nat → Int32) → Prop) (x2 : Int32) (s_r0 : Nat → Int32) : Prop :=
  (((52 + (5 * (s_r0 3))) ≤ x2 → Q s_r0) ∧ (¬ (52 + (5 * (s_r0 3))) ≤ x2 → vp_in (x2 + 5) 87 ∧ vp_in x2 87 ∧ rec14 (x2 + 1) (upd s_r0 x2.toNatClampNeg (s_r0 ((x2 + 5).toNatClampNeg)))))
noncomputable def P_X4_unlights_L14 (Q : (Nat → Int32) → Prop) (n : Nat) : Int32 → (Nat → Int32) → Prop := Nat.rec (motive := fun _ => Int32 → (Nat → Int32) → Prop) (fun _ _ => False) (fun _ r => B_X4_unlights_L14 Q r) n
theorem P_X4_unlights_L14_z (Q : (Nat → Int32) → Prop) (x2 : Int32) (s_r0 : Nat → Int32) : P_X4_unlights_L14 Q 0 x2 s_r0 = False := rfl
theorem P_X4_unlights_L14_s (Q : (Nat → Int32) → Prop) (n : Nat) (x2 : Int32) (s_r0 : Nat → Int32) : P_X4_unlights_L14 Q (n + 1) x2 s_r0 = B_X4_unlights_L14 Q (P_X4_unlights_L14 Q n) x2 s_r0 := rfl
def P_X4_unlights (p1 : Int32) (s_r0 : Nat → Int32) (Q : (Nat → Int32) → Prop) : Prop :=
  ∃ n : Nat, P_X4_unlights_L14 Q n (52 + (5 * p1)) (upd s_r0 3 ((s_r0 3) - 1))
def P_X4_beam (p0 : Int32) (p1 : Int32) (p2 : Int32) (p3 : Int32) (p4 : Int32) (s_now : Nat → Int32) (s_past : Nat → Int32) (s_kept : Int32) (s_thrown : Int32) (s_isLaid : Int32) (Q : Int32 → (Nat → Int32) → (Nat → Int32) → Int32 → Int32 → Int32 → Prop) : Prop :=
  P_X4_mayBeam p0 p1 p2 p3 p4 s_now (fun (r_1 : Int32) => ((r_1 = 0 → P_X4_saves s_now s_past s_kept s_isLaid (fun (s_past_2 : Nat → Int32) (s_kept_3 : Int32) (s_isLaid_4 : Int32) => P_X4_beams p0 p1 p2 p3 p4 s_now (fun (s_now_5 : Nat → Int32) => Q ((s_now_5 3) - 1) s_now_5 s_past_2 s_kept_3 r_1 s_isLaid_4))) ∧ (¬ r_1 = 0 → Q 0 s_now s_past s_kept r_1 s_isLaid)))
def P_X4_turn (p0 : Int32) (s_now : Nat → Int32) (s_past : Nat → Int32) (s_kept : Int32) (s_thrown : Int32) (s_lit : Nat → Int32) (s_whole : Nat → Int32) (s_goes : Nat → Int32) (s_isLaid : Int32) (s_latest : Nat → Int32) (Q : Int32 → (Nat → Int32) → (Nat → Int32) → Int32 → Int32 → (Nat → Int32) → (Nat → Int32) → (Nat → Int32) → Int32 → (Nat → Int32) → Prop) : Prop :=
  P_X4_isBeam p0 s_now (fun (r_1 : Int32) => ((¬ r_1 = 0 → P_X4_saves s_now s_past s_kept s_isLaid (fun (s_past_2 : Nat → Int32) (s_kept_3 : Int32) (s_isLaid_4 : Int32) => P_X4_by p0 2 s_now (fun (r_5 : Int32) => vp_in ((52 + (5 * p0)) + 2) 87 ∧ P_X4_laysNow (upd s_now (((52 + (5 * p0)) + 2).toNatClampNeg) (-r_5)) s_lit s_whole s_goes s_isLaid_4 s_latest (fun (s_lit_7 : Nat → Int32) (s_whole_8 : Nat → Int32) (s_goes_9 : Nat → Int32) (s_isLaid_10 : Int32) (s_latest_11 : Nat → Int32) => P_X4_allLit s_lit_7 (upd s_now (((52 + (5 * p0)) + 2).toNatClampNeg) (-r_5)) (fun (r_12 : Int32) => Q r_12 (upd s_now (((52 + (5 * p0)) + 2).toNatClampNeg) (-r_5)) s_past_2 s_kept_3 0 s_lit_7 s_whole_8 s_goes_9 s_isLaid_10 s_latest_11))))) ∧ (r_1 = 0 → P_X4_fails 1 0 (fun (r_13 : Int32) (s_thrown_14 : Int32) => Q r_13 s_now s_past s_kept s_thrown_14 s_lit s_whole s_goes s_isLaid s_latest))))
theorem k_824 : Cond.fieldLink RX4 37 "CreditBeamsModel" "thrown" "I" ∈ TBL := mem_T (i := 824) (by decide +kernel) (by decide +kernel)
theorem k_893 : Cond.methodLink RX4 41 yX4_in ∈ TBL := mem_T (i := 893) (by decide +kernel) (by decide +kernel)
theorem k_894 : Cond.static yX4_in ∈ TBL := mem_T (i := 894) (by decide +kernel) (by decide +kernel)
theorem k_5 : Cond.initialized RX4 ∈ TBL := mem_T (i := 5) (by decide +kernel) (by decide +kernel)
theorem k_895 : Cond.code yX4_in cX4_in 3 (some .boolean) ∈ TBL := mem_T (i := 895) (by decide +kernel) (by decide +kernel)
theorem k_818 : Cond.fieldLink RX4 7 "CreditBeamsModel" "now" "[I" ∈ TBL := mem_T (i := 818) (by decide +kernel) (by decide +kernel)
theorem k_820 : Cond.fieldLink RX4 16 "CreditBeamsModel" "past" "[I" ∈ TBL := mem_T (i := 820) (by decide +kernel) (by decide +kernel)
theorem k_821 : Cond.fieldLink RX4 49 "CreditBeamsModel" "kept" "I" ∈ TBL := mem_T (i := 821) (by decide +kernel) (by decide +kernel)
theorem k_882 : Cond.methodLink RX4 52 yX4_copies ∈ TBL := mem_T (i := 882) (by decide +kernel) (by decide +kernel)
theorem k_883 : Cond.static yX4_copies ∈ TBL := mem_T (i := 883) (by decide +kernel) (by decide +kernel)
theorem k_884 : Cond.code yX4_copies cX4_copies 5 none ∈ TBL := mem_T (i := 884) (by decide +kernel) (by decide +kernel)
theorem k_833 : Cond.fieldLink RX4 45 "CreditBeamsModel" "isLaid" "Z" ∈ TBL := mem_T (i := 833) (by decide +kernel) (by decide +kernel)
theorem k_878 : Cond.methodLink RX4 56 yX4_fails ∈ TBL := mem_T (i := 878) (by decide +kernel) (by decide +kernel)
theorem k_880 : Cond.instanceMethod yX4_fails ∈ TBL := mem_T (i := 880) (by decide +kernel) (by decide +kernel)
theorem k_s37 : Cond.selects RX4 yX4_fails yX4_fails ∈ TBL := mem_S (i := 37) (by decide +kernel) (by decide +kernel)
theorem k_881 : Cond.code yX4_fails cX4_fails 2 (some .int) ∈ TBL := mem_T (i := 881) (by decide +kernel) (by decide +kernel)
theorem k_949 : Cond.methodLink RX4 60 yX4_by ∈ TBL := mem_T (i := 949) (by decide +kernel) (by decide +kernel)
theorem k_950 : Cond.static yX4_by ∈ TBL := mem_T (i := 950) (by decide +kernel) (by decide +kernel)
theorem k_951 : Cond.code yX4_by cX4_by 3 (some .int) ∈ TBL := mem_T (i := 951) (by decide +kernel) (by decide +kernel)
theorem k_977 : Cond.methodLink RX4 64 yX4_first ∈ TBL := mem_T (i := 977) (by decide +kernel) (by decide +kernel)
theorem k_978 : Cond.static yX4_first ∈ TBL := mem_T (i := 978) (by decide +kernel) (by decide +kernel)
theorem k_979 : Cond.code yX4_first cX4_first 3 (some .int) ∈ TBL := mem_T (i := 979) (by decide +kernel) (by decide +kernel)
theorem k_964 : Cond.methodLink RX4 67 yX4_of ∈ TBL := mem_T (i := 964) (by decide +kernel) (by decide +kernel)
theorem k_965 : Cond.static yX4_of ∈ TBL := mem_T (i := 965) (by decide +kernel) (by decide +kernel)
theorem k_966 : Cond.code yX4_of cX4_of 3 (some .int) ∈ TBL := mem_T (i := 966) (by decide +kernel) (by decide +kernel)
theorem k_974 : Cond.methodLink RX4 70 yX4_covers ∈ TBL := mem_T (i := 974) (by decide +kernel) (by decide +kernel)
theorem k_975 : Cond.static yX4_covers ∈ TBL := mem_T (i := 975) (by decide +kernel) (by decide +kernel)
theorem k_976 : Cond.code yX4_covers cX4_covers 4 (some .boolean) ∈ TBL := mem_T (i := 976) (by decide +kernel) (by decide +kernel)
theorem k_971 : Cond.methodLink RX4 74 yX4_canBe ∈ TBL := mem_T (i := 971) (by decide +kernel) (by decide +kernel)
theorem k_972 : Cond.static yX4_canBe ∈ TBL := mem_T (i := 972) (by decide +kernel) (by decide +kernel)
theorem k_973 : Cond.code yX4_canBe cX4_canBe 6 (some .boolean) ∈ TBL := mem_T (i := 973) (by decide +kernel) (by decide +kernel)
theorem k_834 : Cond.fieldLink RX4 34 "CreditBeamsModel" "latest" "[I" ∈ TBL := mem_T (i := 834) (by decide +kernel) (by decide +kernel)
theorem k_830 : Cond.fieldLink RX4 25 "CreditBeamsModel" "lit" "[I" ∈ TBL := mem_T (i := 830) (by decide +kernel) (by decide +kernel)
theorem k_980 : Cond.methodLink RX4 81 yX4_firstLight ∈ TBL := mem_T (i := 980) (by decide +kernel) (by decide +kernel)
theorem k_981 : Cond.static yX4_firstLight ∈ TBL := mem_T (i := 981) (by decide +kernel) (by decide +kernel)
theorem k_982 : Cond.code yX4_firstLight cX4_firstLight 5 (some .int) ∈ TBL := mem_T (i := 982) (by decide +kernel) (by decide +kernel)
theorem k_832 : Cond.fieldLink RX4 31 "CreditBeamsModel" "goes" "[I" ∈ TBL := mem_T (i := 832) (by decide +kernel) (by decide +kernel)
theorem k_831 : Cond.fieldLink RX4 28 "CreditBeamsModel" "whole" "[I" ∈ TBL := mem_T (i := 831) (by decide +kernel) (by decide +kernel)
theorem k_967 : Cond.methodLink RX4 77 yX4_together ∈ TBL := mem_T (i := 967) (by decide +kernel) (by decide +kernel)
theorem k_969 : Cond.instanceMethod yX4_together ∈ TBL := mem_T (i := 969) (by decide +kernel) (by decide +kernel)
theorem k_s48 : Cond.selects RX4 yX4_together yX4_together ∈ TBL := mem_S (i := 48) (by decide +kernel) (by decide +kernel)
theorem k_970 : Cond.code yX4_together cX4_together 6 (some .int) ∈ TBL := mem_T (i := 970) (by decide +kernel) (by decide +kernel)
theorem k_960 : Cond.methodLink RX4 85 yX4_laysWord ∈ TBL := mem_T (i := 960) (by decide +kernel) (by decide +kernel)
theorem k_962 : Cond.instanceMethod yX4_laysWord ∈ TBL := mem_T (i := 962) (by decide +kernel) (by decide +kernel)
theorem k_s47 : Cond.selects RX4 yX4_laysWord yX4_laysWord ∈ TBL := mem_S (i := 47) (by decide +kernel) (by decide +kernel)
theorem k_963 : Cond.code yX4_laysWord cX4_laysWord 11 none ∈ TBL := mem_T (i := 963) (by decide +kernel) (by decide +kernel)
theorem k_956 : Cond.methodLink RX4 89 yX4_lays ∈ TBL := mem_T (i := 956) (by decide +kernel) (by decide +kernel)
theorem k_958 : Cond.instanceMethod yX4_lays ∈ TBL := mem_T (i := 958) (by decide +kernel) (by decide +kernel)
theorem k_s46 : Cond.selects RX4 yX4_lays yX4_lays ∈ TBL := mem_S (i := 46) (by decide +kernel) (by decide +kernel)
theorem k_959 : Cond.code yX4_lays cX4_lays 3 none ∈ TBL := mem_T (i := 959) (by decide +kernel) (by decide +kernel)
theorem k_1101 : Cond.methodLink RX4 93 yX4_letterAt ∈ TBL := mem_T (i := 1101) (by decide +kernel) (by decide +kernel)
theorem k_1102 : Cond.static yX4_letterAt ∈ TBL := mem_T (i := 1102) (by decide +kernel) (by decide +kernel)
theorem k_1103 : Cond.code yX4_letterAt cX4_letterAt 4 (some .int) ∈ TBL := mem_T (i := 1103) (by decide +kernel) (by decide +kernel)
theorem k_1089 : Cond.methodLink RX4 96 yX4_isSeen ∈ TBL := mem_T (i := 1089) (by decide +kernel) (by decide +kernel)
theorem k_1091 : Cond.instanceMethod yX4_isSeen ∈ TBL := mem_T (i := 1091) (by decide +kernel) (by decide +kernel)
theorem k_s64 : Cond.selects RX4 yX4_isSeen yX4_isSeen ∈ TBL := mem_S (i := 64) (by decide +kernel) (by decide +kernel)
theorem k_1092 : Cond.code yX4_isSeen cX4_isSeen 5 (some .boolean) ∈ TBL := mem_T (i := 1092) (by decide +kernel) (by decide +kernel)
theorem k_1097 : Cond.methodLink RX4 99 yX4_clash ∈ TBL := mem_T (i := 1097) (by decide +kernel) (by decide +kernel)
theorem k_1099 : Cond.instanceMethod yX4_clash ∈ TBL := mem_T (i := 1099) (by decide +kernel) (by decide +kernel)
theorem k_s66 : Cond.selects RX4 yX4_clash yX4_clash ∈ TBL := mem_S (i := 66) (by decide +kernel) (by decide +kernel)
theorem k_1100 : Cond.code yX4_clash cX4_clash 8 (some .boolean) ∈ TBL := mem_T (i := 1100) (by decide +kernel) (by decide +kernel)
theorem k_987 : Cond.methodLink RX4 102 yX4_litOf ∈ TBL := mem_T (i := 987) (by decide +kernel) (by decide +kernel)
theorem k_989 : Cond.instanceMethod yX4_litOf ∈ TBL := mem_T (i := 989) (by decide +kernel) (by decide +kernel)
theorem k_s50 : Cond.selects RX4 yX4_litOf yX4_litOf ∈ TBL := mem_S (i := 50) (by decide +kernel) (by decide +kernel)
theorem k_990 : Cond.code yX4_litOf cX4_litOf 5 (some .int) ∈ TBL := mem_T (i := 990) (by decide +kernel) (by decide +kernel)
theorem k_1093 : Cond.methodLink RX4 105 yX4_clashes ∈ TBL := mem_T (i := 1093) (by decide +kernel) (by decide +kernel)
theorem k_1095 : Cond.instanceMethod yX4_clashes ∈ TBL := mem_T (i := 1095) (by decide +kernel) (by decide +kernel)
theorem k_s65 : Cond.selects RX4 yX4_clashes yX4_clashes ∈ TBL := mem_S (i := 65) (by decide +kernel) (by decide +kernel)
theorem k_1096 : Cond.code yX4_clashes cX4_clashes 6 (some .int) ∈ TBL := mem_T (i := 1096) (by decide +kernel) (by decide +kernel)
theorem k_896 : Cond.methodLink RX4 108 yX4_isColumn ∈ TBL := mem_T (i := 896) (by decide +kernel) (by decide +kernel)
theorem k_897 : Cond.static yX4_isColumn ∈ TBL := mem_T (i := 897) (by decide +kernel) (by decide +kernel)
theorem k_898 : Cond.code yX4_isColumn cX4_isColumn 1 (some .boolean) ∈ TBL := mem_T (i := 898) (by decide +kernel) (by decide +kernel)
theorem k_899 : Cond.methodLink RX4 112 yX4_isBeat ∈ TBL := mem_T (i := 899) (by decide +kernel) (by decide +kernel)
theorem k_900 : Cond.static yX4_isBeat ∈ TBL := mem_T (i := 900) (by decide +kernel) (by decide +kernel)
theorem k_901 : Cond.code yX4_isBeat cX4_isBeat 1 (some .boolean) ∈ TBL := mem_T (i := 901) (by decide +kernel) (by decide +kernel)
theorem k_889 : Cond.methodLink RX4 115 yX4_mayWord ∈ TBL := mem_T (i := 889) (by decide +kernel) (by decide +kernel)
theorem k_891 : Cond.instanceMethod yX4_mayWord ∈ TBL := mem_T (i := 891) (by decide +kernel) (by decide +kernel)
theorem k_s38 : Cond.selects RX4 yX4_mayWord yX4_mayWord ∈ TBL := mem_S (i := 38) (by decide +kernel) (by decide +kernel)
theorem k_892 : Cond.code yX4_mayWord cX4_mayWord 5 (some .int) ∈ TBL := mem_T (i := 892) (by decide +kernel) (by decide +kernel)
theorem k_902 : Cond.methodLink RX4 119 yX4_saves ∈ TBL := mem_T (i := 902) (by decide +kernel) (by decide +kernel)
theorem k_904 : Cond.instanceMethod yX4_saves ∈ TBL := mem_T (i := 904) (by decide +kernel) (by decide +kernel)
theorem k_s39 : Cond.selects RX4 yX4_saves yX4_saves ∈ TBL := mem_S (i := 39) (by decide +kernel) (by decide +kernel)
theorem k_905 : Cond.code yX4_saves cX4_saves 2 none ∈ TBL := mem_T (i := 905) (by decide +kernel) (by decide +kernel)
theorem k_906 : Cond.methodLink RX4 122 yX4_words ∈ TBL := mem_T (i := 906) (by decide +kernel) (by decide +kernel)
theorem k_908 : Cond.instanceMethod yX4_words ∈ TBL := mem_T (i := 908) (by decide +kernel) (by decide +kernel)
theorem k_s40 : Cond.selects RX4 yX4_words yX4_words ∈ TBL := mem_S (i := 40) (by decide +kernel) (by decide +kernel)
theorem k_909 : Cond.code yX4_words cX4_words 6 (some .int) ∈ TBL := mem_T (i := 909) (by decide +kernel) (by decide +kernel)
theorem k_914 : Cond.methodLink RX4 125 yX4_isWord ∈ TBL := mem_T (i := 914) (by decide +kernel) (by decide +kernel)
theorem k_916 : Cond.instanceMethod yX4_isWord ∈ TBL := mem_T (i := 916) (by decide +kernel) (by decide +kernel)
theorem k_s41 : Cond.selects RX4 yX4_isWord yX4_isWord ∈ TBL := mem_S (i := 41) (by decide +kernel) (by decide +kernel)
theorem k_917 : Cond.code yX4_isWord cX4_isWord 2 (some .boolean) ∈ TBL := mem_T (i := 917) (by decide +kernel) (by decide +kernel)
theorem k_918 : Cond.methodLink RX4 128 yX4_changes ∈ TBL := mem_T (i := 918) (by decide +kernel) (by decide +kernel)
theorem k_920 : Cond.instanceMethod yX4_changes ∈ TBL := mem_T (i := 920) (by decide +kernel) (by decide +kernel)
theorem k_s42 : Cond.selects RX4 yX4_changes yX4_changes ∈ TBL := mem_S (i := 42) (by decide +kernel) (by decide +kernel)
theorem k_921 : Cond.code yX4_changes cX4_changes 4 (some .int) ∈ TBL := mem_T (i := 921) (by decide +kernel) (by decide +kernel)
theorem k_934 : Cond.methodLink RX4 132 yX4_mayBeam ∈ TBL := mem_T (i := 934) (by decide +kernel) (by decide +kernel)
theorem k_936 : Cond.instanceMethod yX4_mayBeam ∈ TBL := mem_T (i := 936) (by decide +kernel) (by decide +kernel)
theorem k_s43 : Cond.selects RX4 yX4_mayBeam yX4_mayBeam ∈ TBL := mem_S (i := 43) (by decide +kernel) (by decide +kernel)
theorem k_937 : Cond.code yX4_mayBeam cX4_mayBeam 6 (some .int) ∈ TBL := mem_T (i := 937) (by decide +kernel) (by decide +kernel)
theorem k_938 : Cond.methodLink RX4 136 yX4_beams ∈ TBL := mem_T (i := 938) (by decide +kernel) (by decide +kernel)
theorem k_939 : Cond.static yX4_beams ∈ TBL := mem_T (i := 939) (by decide +kernel) (by decide +kernel)
theorem k_940 : Cond.code yX4_beams cX4_beams 7 none ∈ TBL := mem_T (i := 940) (by decide +kernel) (by decide +kernel)
theorem k_945 : Cond.methodLink RX4 140 yX4_isBeam ∈ TBL := mem_T (i := 945) (by decide +kernel) (by decide +kernel)
theorem k_947 : Cond.instanceMethod yX4_isBeam ∈ TBL := mem_T (i := 947) (by decide +kernel) (by decide +kernel)
theorem k_s44 : Cond.selects RX4 yX4_isBeam yX4_isBeam ∈ TBL := mem_S (i := 44) (by decide +kernel) (by decide +kernel)
theorem k_948 : Cond.code yX4_isBeam cX4_isBeam 2 (some .boolean) ∈ TBL := mem_T (i := 948) (by decide +kernel) (by decide +kernel)
theorem k_952 : Cond.methodLink RX4 143 yX4_laysNow ∈ TBL := mem_T (i := 952) (by decide +kernel) (by decide +kernel)
theorem k_954 : Cond.instanceMethod yX4_laysNow ∈ TBL := mem_T (i := 954) (by decide +kernel) (by decide +kernel)
theorem k_s45 : Cond.selects RX4 yX4_laysNow yX4_laysNow ∈ TBL := mem_S (i := 45) (by decide +kernel) (by decide +kernel)
theorem k_955 : Cond.code yX4_laysNow cX4_laysNow 1 none ∈ TBL := mem_T (i := 955) (by decide +kernel) (by decide +kernel)
theorem k_983 : Cond.methodLink RX4 146 yX4_allLit ∈ TBL := mem_T (i := 983) (by decide +kernel) (by decide +kernel)
theorem k_985 : Cond.instanceMethod yX4_allLit ∈ TBL := mem_T (i := 985) (by decide +kernel) (by decide +kernel)
theorem k_s49 : Cond.selects RX4 yX4_allLit yX4_allLit ∈ TBL := mem_S (i := 49) (by decide +kernel) (by decide +kernel)
theorem k_986 : Cond.code yX4_allLit cX4_allLit 4 (some .int) ∈ TBL := mem_T (i := 986) (by decide +kernel) (by decide +kernel)
theorem dX4_thrown_0 : decode cX4_thrown 0 = .ok (.aload_n 0, 1) := by decide +kernel
theorem dX4_thrown_1 : decode cX4_thrown 1 = .ok (.getfield 37, 3) := by decide +kernel
theorem dX4_thrown_4 : decode cX4_thrown 4 = .ok (.ireturn, 1) := by decide +kernel
theorem dX4_fails_0 : decode cX4_fails 0 = .ok (.aload_n 0, 1) := by decide +kernel
theorem dX4_fails_1 : decode cX4_fails 1 = .ok (.iload_n 1, 1) := by decide +kernel
theorem dX4_fails_2 : decode cX4_fails 2 = .ok (.putfield 37, 3) := by decide +kernel
theorem dX4_fails_5 : decode cX4_fails 5 = .ok (.iconst 0, 1) := by decide +kernel
theorem dX4_fails_6 : decode cX4_fails 6 = .ok (.ireturn, 1) := by decide +kernel
theorem dX4_in_0 : decode cX4_in 0 = .ok (.iload_n 0, 1) := by decide +kernel
theorem dX4_in_1 : decode cX4_in 1 = .ok (.iload_n 1, 1) := by decide +kernel
theorem dX4_in_2 : decode cX4_in 2 = .ok (.if_icmp .lt 12, 3) := by decide +kernel
theorem dX4_in_5 : decode cX4_in 5 = .ok (.iload_n 0, 1) := by decide +kernel
theorem dX4_in_6 : decode cX4_in 6 = .ok (.iload_n 2, 1) := by decide +kernel
theorem dX4_in_7 : decode cX4_in 7 = .ok (.if_icmp .gt 7, 3) := by decide +kernel
theorem dX4_in_10 : decode cX4_in 10 = .ok (.iconst 1, 1) := by decide +kernel
theorem dX4_in_11 : decode cX4_in 11 = .ok (.goto 4, 3) := by decide +kernel
theorem dX4_in_14 : decode cX4_in 14 = .ok (.iconst 0, 1) := by decide +kernel
theorem dX4_in_15 : decode cX4_in 15 = .ok (.ireturn, 1) := by decide +kernel
theorem dX4_isBeat_0 : decode cX4_isBeat 0 = .ok (.iload_n 0, 1) := by decide +kernel
theorem dX4_isBeat_1 : decode cX4_isBeat 1 = .ok (.iconst 0, 1) := by decide +kernel
theorem dX4_isBeat_2 : decode cX4_isBeat 2 = .ok (.sipush 199, 3) := by decide +kernel
theorem dX4_isBeat_5 : decode cX4_isBeat 5 = .ok (.invokestatic 41, 3) := by decide +kernel
theorem dX4_isBeat_8 : decode cX4_isBeat 8 = .ok (.ireturn, 1) := by decide +kernel
theorem dX4_isColumn_0 : decode cX4_isColumn 0 = .ok (.iload_n 0, 1) := by decide +kernel
theorem dX4_isColumn_1 : decode cX4_isColumn 1 = .ok (.iconst 0, 1) := by decide +kernel
theorem dX4_isColumn_2 : decode cX4_isColumn 2 = .ok (.bipush 59, 2) := by decide +kernel
theorem dX4_isColumn_4 : decode cX4_isColumn 4 = .ok (.invokestatic 41, 3) := by decide +kernel
theorem dX4_isColumn_7 : decode cX4_isColumn 7 = .ok (.ireturn, 1) := by decide +kernel
theorem dX4_isWord_0 : decode cX4_isWord 0 = .ok (.iload_n 1, 1) := by decide +kernel
theorem dX4_isWord_1 : decode cX4_isWord 1 = .ok (.iconst 0, 1) := by decide +kernel
theorem dX4_isWord_2 : decode cX4_isWord 2 = .ok (.aload_n 0, 1) := by decide +kernel
theorem dX4_isWord_3 : decode cX4_isWord 3 = .ok (.getfield 7, 3) := by decide +kernel
theorem dX4_isWord_6 : decode cX4_isWord 6 = .ok (.iconst 2, 1) := by decide +kernel
theorem dX4_isWord_7 : decode cX4_isWord 7 = .ok (.iaload, 1) := by decide +kernel
theorem dX4_isWord_8 : decode cX4_isWord 8 = .ok (.iconst 1, 1) := by decide +kernel
theorem dX4_isWord_9 : decode cX4_isWord 9 = .ok (.isub, 1) := by decide +kernel
theorem dX4_isWord_10 : decode cX4_isWord 10 = .ok (.invokestatic 41, 3) := by decide +kernel
theorem dX4_isWord_13 : decode cX4_isWord 13 = .ok (.ireturn, 1) := by decide +kernel
theorem dX4_isBeam_0 : decode cX4_isBeam 0 = .ok (.iload_n 1, 1) := by decide +kernel
theorem dX4_isBeam_1 : decode cX4_isBeam 1 = .ok (.iconst 0, 1) := by decide +kernel
theorem dX4_isBeam_2 : decode cX4_isBeam 2 = .ok (.aload_n 0, 1) := by decide +kernel
theorem dX4_isBeam_3 : decode cX4_isBeam 3 = .ok (.getfield 7, 3) := by decide +kernel
theorem dX4_isBeam_6 : decode cX4_isBeam 6 = .ok (.iconst 3, 1) := by decide +kernel
theorem dX4_isBeam_7 : decode cX4_isBeam 7 = .ok (.iaload, 1) := by decide +kernel
theorem dX4_isBeam_8 : decode cX4_isBeam 8 = .ok (.iconst 1, 1) := by decide +kernel
theorem dX4_isBeam_9 : decode cX4_isBeam 9 = .ok (.isub, 1) := by decide +kernel
theorem dX4_isBeam_10 : decode cX4_isBeam 10 = .ok (.invokestatic 41, 3) := by decide +kernel
theorem dX4_isBeam_13 : decode cX4_isBeam 13 = .ok (.ireturn, 1) := by decide +kernel
theorem dX4_of_0 : decode cX4_of 0 = .ok (.aload_n 0, 1) := by decide +kernel
theorem dX4_of_1 : decode cX4_of 1 = .ok (.iconst 4, 1) := by decide +kernel
theorem dX4_of_2 : decode cX4_of 2 = .ok (.bipush 6, 2) := by decide +kernel
theorem dX4_of_4 : decode cX4_of 4 = .ok (.iload_n 1, 1) := by decide +kernel
theorem dX4_of_5 : decode cX4_of 5 = .ok (.imul, 1) := by decide +kernel
theorem dX4_of_6 : decode cX4_of 6 = .ok (.iadd, 1) := by decide +kernel
theorem dX4_of_7 : decode cX4_of 7 = .ok (.iload_n 2, 1) := by decide +kernel
theorem dX4_of_8 : decode cX4_of 8 = .ok (.iadd, 1) := by decide +kernel
theorem dX4_of_9 : decode cX4_of 9 = .ok (.iaload, 1) := by decide +kernel
theorem dX4_of_10 : decode cX4_of 10 = .ok (.ireturn, 1) := by decide +kernel
theorem dX4_by_0 : decode cX4_by 0 = .ok (.aload_n 0, 1) := by decide +kernel
theorem dX4_by_1 : decode cX4_by 1 = .ok (.bipush 52, 2) := by decide +kernel
theorem dX4_by_3 : decode cX4_by 3 = .ok (.iconst 5, 1) := by decide +kernel
theorem dX4_by_4 : decode cX4_by 4 = .ok (.iload_n 1, 1) := by decide +kernel
theorem dX4_by_5 : decode cX4_by 5 = .ok (.imul, 1) := by decide +kernel
theorem dX4_by_6 : decode cX4_by 6 = .ok (.iadd, 1) := by decide +kernel
theorem dX4_by_7 : decode cX4_by 7 = .ok (.iload_n 2, 1) := by decide +kernel
theorem dX4_by_8 : decode cX4_by 8 = .ok (.iadd, 1) := by decide +kernel
theorem dX4_by_9 : decode cX4_by 9 = .ok (.iaload, 1) := by decide +kernel
theorem dX4_by_10 : decode cX4_by 10 = .ok (.ireturn, 1) := by decide +kernel
theorem dX4_copies_0 : decode cX4_copies 0 = .ok (.iconst 0, 1) := by decide +kernel
theorem dX4_copies_1 : decode cX4_copies 1 = .ok (.istore 4, 2) := by decide +kernel
theorem dX4_copies_3 : decode cX4_copies 3 = .ok (.iload 4, 2) := by decide +kernel
theorem dX4_copies_5 : decode cX4_copies 5 = .ok (.bipush 87, 2) := by decide +kernel
theorem dX4_copies_7 : decode cX4_copies 7 = .ok (.if_icmp .ge 21, 3) := by decide +kernel
theorem dX4_copies_10 : decode cX4_copies 10 = .ok (.aload_n 2, 1) := by decide +kernel
theorem dX4_copies_11 : decode cX4_copies 11 = .ok (.iload_n 3, 1) := by decide +kernel
theorem dX4_copies_12 : decode cX4_copies 12 = .ok (.iload 4, 2) := by decide +kernel
theorem dX4_copies_14 : decode cX4_copies 14 = .ok (.iadd, 1) := by decide +kernel
theorem dX4_copies_15 : decode cX4_copies 15 = .ok (.aload_n 0, 1) := by decide +kernel
theorem dX4_copies_16 : decode cX4_copies 16 = .ok (.iload_n 1, 1) := by decide +kernel
theorem dX4_copies_17 : decode cX4_copies 17 = .ok (.iload 4, 2) := by decide +kernel
theorem dX4_copies_19 : decode cX4_copies 19 = .ok (.iadd, 1) := by decide +kernel
theorem dX4_copies_20 : decode cX4_copies 20 = .ok (.iaload, 1) := by decide +kernel
theorem dX4_copies_21 : decode cX4_copies 21 = .ok (.iastore, 1) := by decide +kernel
theorem dX4_copies_22 : decode cX4_copies 22 = .ok (.iinc 4 1, 3) := by decide +kernel
theorem dX4_copies_25 : decode cX4_copies 25 = .ok (.goto (-22), 3) := by decide +kernel
theorem dX4_copies_28 : decode cX4_copies 28 = .ok (.return_, 1) := by decide +kernel
theorem dX4_saves_0 : decode cX4_saves 0 = .ok (.aload_n 0, 1) := by decide +kernel
theorem dX4_saves_1 : decode cX4_saves 1 = .ok (.iconst 0, 1) := by decide +kernel
theorem dX4_saves_2 : decode cX4_saves 2 = .ok (.putfield 45, 3) := by decide +kernel
theorem dX4_saves_5 : decode cX4_saves 5 = .ok (.aload_n 0, 1) := by decide +kernel
theorem dX4_saves_6 : decode cX4_saves 6 = .ok (.getfield 49, 3) := by decide +kernel
theorem dX4_saves_9 : decode cX4_saves 9 = .ok (.bipush 6, 2) := by decide +kernel
theorem dX4_saves_11 : decode cX4_saves 11 = .ok (.if_icmp .ne 43, 3) := by decide +kernel
theorem dX4_saves_14 : decode cX4_saves 14 = .ok (.iconst 0, 1) := by decide +kernel
theorem dX4_saves_15 : decode cX4_saves 15 = .ok (.istore_n 1, 1) := by decide +kernel
theorem dX4_saves_16 : decode cX4_saves 16 = .ok (.iload_n 1, 1) := by decide +kernel
theorem dX4_saves_17 : decode cX4_saves 17 = .ok (.sipush 435, 3) := by decide +kernel
theorem dX4_saves_20 : decode cX4_saves 20 = .ok (.if_icmp .ge 24, 3) := by decide +kernel
theorem dX4_saves_23 : decode cX4_saves 23 = .ok (.aload_n 0, 1) := by decide +kernel
theorem dX4_saves_24 : decode cX4_saves 24 = .ok (.getfield 16, 3) := by decide +kernel
theorem dX4_saves_27 : decode cX4_saves 27 = .ok (.iload_n 1, 1) := by decide +kernel
theorem dX4_saves_28 : decode cX4_saves 28 = .ok (.aload_n 0, 1) := by decide +kernel
theorem dX4_saves_29 : decode cX4_saves 29 = .ok (.getfield 16, 3) := by decide +kernel
theorem dX4_saves_32 : decode cX4_saves 32 = .ok (.iload_n 1, 1) := by decide +kernel
theorem dX4_saves_33 : decode cX4_saves 33 = .ok (.bipush 87, 2) := by decide +kernel
theorem dX4_saves_35 : decode cX4_saves 35 = .ok (.iadd, 1) := by decide +kernel
theorem dX4_saves_36 : decode cX4_saves 36 = .ok (.iaload, 1) := by decide +kernel
theorem dX4_saves_37 : decode cX4_saves 37 = .ok (.iastore, 1) := by decide +kernel
theorem dX4_saves_38 : decode cX4_saves 38 = .ok (.iinc 1 1, 3) := by decide +kernel
theorem dX4_saves_41 : decode cX4_saves 41 = .ok (.goto (-25), 3) := by decide +kernel
theorem dX4_saves_44 : decode cX4_saves 44 = .ok (.aload_n 0, 1) := by decide +kernel
theorem dX4_saves_45 : decode cX4_saves 45 = .ok (.dup, 1) := by decide +kernel
theorem dX4_saves_46 : decode cX4_saves 46 = .ok (.getfield 49, 3) := by decide +kernel
theorem dX4_saves_49 : decode cX4_saves 49 = .ok (.iconst 1, 1) := by decide +kernel
theorem dX4_saves_50 : decode cX4_saves 50 = .ok (.isub, 1) := by decide +kernel
theorem dX4_saves_51 : decode cX4_saves 51 = .ok (.putfield 49, 3) := by decide +kernel
theorem dX4_saves_54 : decode cX4_saves 54 = .ok (.aload_n 0, 1) := by decide +kernel
theorem dX4_saves_55 : decode cX4_saves 55 = .ok (.getfield 7, 3) := by decide +kernel
theorem dX4_saves_58 : decode cX4_saves 58 = .ok (.iconst 0, 1) := by decide +kernel
theorem dX4_saves_59 : decode cX4_saves 59 = .ok (.aload_n 0, 1) := by decide +kernel
theorem dX4_saves_60 : decode cX4_saves 60 = .ok (.getfield 16, 3) := by decide +kernel
theorem dX4_saves_63 : decode cX4_saves 63 = .ok (.bipush 87, 2) := by decide +kernel
theorem dX4_saves_65 : decode cX4_saves 65 = .ok (.aload_n 0, 1) := by decide +kernel
theorem dX4_saves_66 : decode cX4_saves 66 = .ok (.getfield 49, 3) := by decide +kernel
theorem dX4_saves_69 : decode cX4_saves 69 = .ok (.imul, 1) := by decide +kernel
theorem dX4_saves_70 : decode cX4_saves 70 = .ok (.invokestatic 52, 3) := by decide +kernel
theorem dX4_saves_73 : decode cX4_saves 73 = .ok (.aload_n 0, 1) := by decide +kernel
theorem dX4_saves_74 : decode cX4_saves 74 = .ok (.dup, 1) := by decide +kernel
theorem dX4_saves_75 : decode cX4_saves 75 = .ok (.getfield 49, 3) := by decide +kernel
theorem dX4_saves_78 : decode cX4_saves 78 = .ok (.iconst 1, 1) := by decide +kernel
theorem dX4_saves_79 : decode cX4_saves 79 = .ok (.iadd, 1) := by decide +kernel
theorem dX4_saves_80 : decode cX4_saves 80 = .ok (.putfield 49, 3) := by decide +kernel
theorem dX4_saves_83 : decode cX4_saves 83 = .ok (.return_, 1) := by decide +kernel
theorem dX4_undo_0 : decode cX4_undo 0 = .ok (.aload_n 0, 1) := by decide +kernel
theorem dX4_undo_1 : decode cX4_undo 1 = .ok (.iconst 0, 1) := by decide +kernel
theorem dX4_undo_2 : decode cX4_undo 2 = .ok (.putfield 37, 3) := by decide +kernel
theorem dX4_undo_5 : decode cX4_undo 5 = .ok (.aload_n 0, 1) := by decide +kernel
theorem dX4_undo_6 : decode cX4_undo 6 = .ok (.getfield 49, 3) := by decide +kernel
theorem dX4_undo_9 : decode cX4_undo 9 = .ok (.ifCond .ne 9, 3) := by decide +kernel
theorem dX4_undo_12 : decode cX4_undo 12 = .ok (.aload_n 0, 1) := by decide +kernel
theorem dX4_undo_13 : decode cX4_undo 13 = .ok (.iconst 1, 1) := by decide +kernel
theorem dX4_undo_14 : decode cX4_undo 14 = .ok (.invokevirtual 56, 3) := by decide +kernel
theorem dX4_undo_17 : decode cX4_undo 17 = .ok (.ireturn, 1) := by decide +kernel
theorem dX4_undo_18 : decode cX4_undo 18 = .ok (.aload_n 0, 1) := by decide +kernel
theorem dX4_undo_19 : decode cX4_undo 19 = .ok (.iconst 0, 1) := by decide +kernel
theorem dX4_undo_20 : decode cX4_undo 20 = .ok (.putfield 45, 3) := by decide +kernel
theorem dX4_undo_23 : decode cX4_undo 23 = .ok (.aload_n 0, 1) := by decide +kernel
theorem dX4_undo_24 : decode cX4_undo 24 = .ok (.dup, 1) := by decide +kernel
theorem dX4_undo_25 : decode cX4_undo 25 = .ok (.getfield 49, 3) := by decide +kernel
theorem dX4_undo_28 : decode cX4_undo 28 = .ok (.iconst 1, 1) := by decide +kernel
theorem dX4_undo_29 : decode cX4_undo 29 = .ok (.isub, 1) := by decide +kernel
theorem dX4_undo_30 : decode cX4_undo 30 = .ok (.putfield 49, 3) := by decide +kernel
theorem dX4_undo_33 : decode cX4_undo 33 = .ok (.aload_n 0, 1) := by decide +kernel
theorem dX4_undo_34 : decode cX4_undo 34 = .ok (.getfield 16, 3) := by decide +kernel
theorem dX4_undo_37 : decode cX4_undo 37 = .ok (.bipush 87, 2) := by decide +kernel
theorem dX4_undo_39 : decode cX4_undo 39 = .ok (.aload_n 0, 1) := by decide +kernel
theorem dX4_undo_40 : decode cX4_undo 40 = .ok (.getfield 49, 3) := by decide +kernel
theorem dX4_undo_43 : decode cX4_undo 43 = .ok (.imul, 1) := by decide +kernel
theorem dX4_undo_44 : decode cX4_undo 44 = .ok (.aload_n 0, 1) := by decide +kernel
theorem dX4_undo_45 : decode cX4_undo 45 = .ok (.getfield 7, 3) := by decide +kernel
theorem dX4_undo_48 : decode cX4_undo 48 = .ok (.iconst 0, 1) := by decide +kernel
theorem dX4_undo_49 : decode cX4_undo 49 = .ok (.invokestatic 52, 3) := by decide +kernel
theorem dX4_undo_52 : decode cX4_undo 52 = .ok (.aload_n 0, 1) := by decide +kernel
theorem dX4_undo_53 : decode cX4_undo 53 = .ok (.getfield 49, 3) := by decide +kernel
theorem dX4_undo_56 : decode cX4_undo 56 = .ok (.ireturn, 1) := by decide +kernel
theorem dX4_first_0 : decode cX4_first 0 = .ok (.aload_n 0, 1) := by decide +kernel
theorem dX4_first_1 : decode cX4_first 1 = .ok (.iload_n 1, 1) := by decide +kernel
theorem dX4_first_2 : decode cX4_first 2 = .ok (.iconst 1, 1) := by decide +kernel
theorem dX4_first_3 : decode cX4_first 3 = .ok (.invokestatic 60, 3) := by decide +kernel
theorem dX4_first_6 : decode cX4_first 6 = .ok (.aload_n 0, 1) := by decide +kernel
theorem dX4_first_7 : decode cX4_first 7 = .ok (.iload_n 1, 1) := by decide +kernel
theorem dX4_first_8 : decode cX4_first 8 = .ok (.iconst 2, 1) := by decide +kernel
theorem dX4_first_9 : decode cX4_first 9 = .ok (.invokestatic 60, 3) := by decide +kernel
theorem dX4_first_12 : decode cX4_first 12 = .ok (.iload_n 2, 1) := by decide +kernel
theorem dX4_first_13 : decode cX4_first 13 = .ok (.aload_n 0, 1) := by decide +kernel
theorem dX4_first_14 : decode cX4_first 14 = .ok (.iload_n 1, 1) := by decide +kernel
theorem dX4_first_15 : decode cX4_first 15 = .ok (.iconst 0, 1) := by decide +kernel
theorem dX4_first_16 : decode cX4_first 16 = .ok (.invokestatic 60, 3) := by decide +kernel
theorem dX4_first_19 : decode cX4_first 19 = .ok (.isub, 1) := by decide +kernel
theorem dX4_first_20 : decode cX4_first 20 = .ok (.imul, 1) := by decide +kernel
theorem dX4_first_21 : decode cX4_first 21 = .ok (.iadd, 1) := by decide +kernel
theorem dX4_first_22 : decode cX4_first 22 = .ok (.ireturn, 1) := by decide +kernel
theorem dX4_covers_0 : decode cX4_covers 0 = .ok (.iload_n 2, 1) := by decide +kernel
theorem dX4_covers_1 : decode cX4_covers 1 = .ok (.aload_n 0, 1) := by decide +kernel
theorem dX4_covers_2 : decode cX4_covers 2 = .ok (.iload_n 1, 1) := by decide +kernel
theorem dX4_covers_3 : decode cX4_covers 3 = .ok (.iconst 0, 1) := by decide +kernel
theorem dX4_covers_4 : decode cX4_covers 4 = .ok (.invokestatic 60, 3) := by decide +kernel
theorem dX4_covers_7 : decode cX4_covers 7 = .ok (.if_icmp .lt 30, 3) := by decide +kernel
theorem dX4_covers_10 : decode cX4_covers 10 = .ok (.iload_n 3, 1) := by decide +kernel
theorem dX4_covers_11 : decode cX4_covers 11 = .ok (.aload_n 0, 1) := by decide +kernel
theorem dX4_covers_12 : decode cX4_covers 12 = .ok (.iload_n 1, 1) := by decide +kernel
theorem dX4_covers_13 : decode cX4_covers 13 = .ok (.iload_n 2, 1) := by decide +kernel
theorem dX4_covers_14 : decode cX4_covers 14 = .ok (.invokestatic 64, 3) := by decide +kernel
theorem dX4_covers_17 : decode cX4_covers 17 = .ok (.isub, 1) := by decide +kernel
theorem dX4_covers_18 : decode cX4_covers 18 = .ok (.iconst 0, 1) := by decide +kernel
theorem dX4_covers_19 : decode cX4_covers 19 = .ok (.aload_n 0, 1) := by decide +kernel
theorem dX4_covers_20 : decode cX4_covers 20 = .ok (.iload_n 1, 1) := by decide +kernel
theorem dX4_covers_21 : decode cX4_covers 21 = .ok (.iconst 3, 1) := by decide +kernel
theorem dX4_covers_22 : decode cX4_covers 22 = .ok (.invokestatic 60, 3) := by decide +kernel
theorem dX4_covers_25 : decode cX4_covers 25 = .ok (.iconst 1, 1) := by decide +kernel
theorem dX4_covers_26 : decode cX4_covers 26 = .ok (.isub, 1) := by decide +kernel
theorem dX4_covers_27 : decode cX4_covers 27 = .ok (.invokestatic 41, 3) := by decide +kernel
theorem dX4_covers_30 : decode cX4_covers 30 = .ok (.ifCond .eq 7, 3) := by decide +kernel
theorem dX4_covers_33 : decode cX4_covers 33 = .ok (.iconst 1, 1) := by decide +kernel
theorem dX4_covers_34 : decode cX4_covers 34 = .ok (.goto 4, 3) := by decide +kernel
theorem dX4_covers_37 : decode cX4_covers 37 = .ok (.iconst 0, 1) := by decide +kernel
theorem dX4_covers_38 : decode cX4_covers 38 = .ok (.ireturn, 1) := by decide +kernel
theorem dX4_coversSome_0 : decode cX4_coversSome 0 = .ok (.iload_n 2, 1) := by decide +kernel
theorem dX4_coversSome_1 : decode cX4_coversSome 1 = .ok (.aload_n 0, 1) := by decide +kernel
theorem dX4_coversSome_2 : decode cX4_coversSome 2 = .ok (.iload_n 1, 1) := by decide +kernel
theorem dX4_coversSome_3 : decode cX4_coversSome 3 = .ok (.iconst 0, 1) := by decide +kernel
theorem dX4_coversSome_4 : decode cX4_coversSome 4 = .ok (.invokestatic 60, 3) := by decide +kernel
theorem dX4_coversSome_7 : decode cX4_coversSome 7 = .ok (.if_icmp .lt 34, 3) := by decide +kernel
theorem dX4_coversSome_10 : decode cX4_coversSome 10 = .ok (.aload_n 0, 1) := by decide +kernel
theorem dX4_coversSome_11 : decode cX4_coversSome 11 = .ok (.iload_n 1, 1) := by decide +kernel
theorem dX4_coversSome_12 : decode cX4_coversSome 12 = .ok (.iload_n 2, 1) := by decide +kernel
theorem dX4_coversSome_13 : decode cX4_coversSome 13 = .ok (.invokestatic 64, 3) := by decide +kernel
theorem dX4_coversSome_16 : decode cX4_coversSome 16 = .ok (.bipush 60, 2) := by decide +kernel
theorem dX4_coversSome_18 : decode cX4_coversSome 18 = .ok (.if_icmp .ge 23, 3) := by decide +kernel
theorem dX4_coversSome_21 : decode cX4_coversSome 21 = .ok (.aload_n 0, 1) := by decide +kernel
theorem dX4_coversSome_22 : decode cX4_coversSome 22 = .ok (.iload_n 1, 1) := by decide +kernel
theorem dX4_coversSome_23 : decode cX4_coversSome 23 = .ok (.iload_n 2, 1) := by decide +kernel
theorem dX4_coversSome_24 : decode cX4_coversSome 24 = .ok (.invokestatic 64, 3) := by decide +kernel
theorem dX4_coversSome_27 : decode cX4_coversSome 27 = .ok (.aload_n 0, 1) := by decide +kernel
theorem dX4_coversSome_28 : decode cX4_coversSome 28 = .ok (.iload_n 1, 1) := by decide +kernel
theorem dX4_coversSome_29 : decode cX4_coversSome 29 = .ok (.iconst 3, 1) := by decide +kernel
theorem dX4_coversSome_30 : decode cX4_coversSome 30 = .ok (.invokestatic 60, 3) := by decide +kernel
theorem dX4_coversSome_33 : decode cX4_coversSome 33 = .ok (.iadd, 1) := by decide +kernel
theorem dX4_coversSome_34 : decode cX4_coversSome 34 = .ok (.ifCond .le 7, 3) := by decide +kernel
theorem dX4_coversSome_37 : decode cX4_coversSome 37 = .ok (.iconst 1, 1) := by decide +kernel
theorem dX4_coversSome_38 : decode cX4_coversSome 38 = .ok (.goto 4, 3) := by decide +kernel
theorem dX4_coversSome_41 : decode cX4_coversSome 41 = .ok (.iconst 0, 1) := by decide +kernel
theorem dX4_coversSome_42 : decode cX4_coversSome 42 = .ok (.ireturn, 1) := by decide +kernel
theorem dX4_canBe_0 : decode cX4_canBe 0 = .ok (.iconst 0, 1) := by decide +kernel
theorem dX4_canBe_1 : decode cX4_canBe 1 = .ok (.istore 4, 2) := by decide +kernel
theorem dX4_canBe_3 : decode cX4_canBe 3 = .ok (.iconst 0, 1) := by decide +kernel
theorem dX4_canBe_4 : decode cX4_canBe 4 = .ok (.istore 5, 2) := by decide +kernel
theorem dX4_canBe_6 : decode cX4_canBe 6 = .ok (.iload 5, 2) := by decide +kernel
theorem dX4_canBe_8 : decode cX4_canBe 8 = .ok (.aload_n 0, 1) := by decide +kernel
theorem dX4_canBe_9 : decode cX4_canBe 9 = .ok (.iconst 3, 1) := by decide +kernel
theorem dX4_canBe_10 : decode cX4_canBe 10 = .ok (.iaload, 1) := by decide +kernel
theorem dX4_canBe_11 : decode cX4_canBe 11 = .ok (.if_icmp .ge 69, 3) := by decide +kernel
theorem dX4_canBe_14 : decode cX4_canBe 14 = .ok (.iload_n 3, 1) := by decide +kernel
theorem dX4_canBe_15 : decode cX4_canBe 15 = .ok (.aload_n 0, 1) := by decide +kernel
theorem dX4_canBe_16 : decode cX4_canBe 16 = .ok (.iload_n 1, 1) := by decide +kernel
theorem dX4_canBe_17 : decode cX4_canBe 17 = .ok (.iconst 3, 1) := by decide +kernel
theorem dX4_canBe_18 : decode cX4_canBe 18 = .ok (.invokestatic 67, 3) := by decide +kernel
theorem dX4_canBe_21 : decode cX4_canBe 21 = .ok (.if_icmp .lt 59, 3) := by decide +kernel
theorem dX4_canBe_24 : decode cX4_canBe 24 = .ok (.iload 4, 2) := by decide +kernel
theorem dX4_canBe_26 : decode cX4_canBe 26 = .ok (.ifCond .ne 41, 3) := by decide +kernel
theorem dX4_canBe_29 : decode cX4_canBe 29 = .ok (.aload_n 0, 1) := by decide +kernel
theorem dX4_canBe_30 : decode cX4_canBe 30 = .ok (.iload 5, 2) := by decide +kernel
theorem dX4_canBe_32 : decode cX4_canBe 32 = .ok (.iconst 4, 1) := by decide +kernel
theorem dX4_canBe_33 : decode cX4_canBe 33 = .ok (.invokestatic 60, 3) := by decide +kernel
theorem dX4_canBe_36 : decode cX4_canBe 36 = .ok (.aload_n 0, 1) := by decide +kernel
theorem dX4_canBe_37 : decode cX4_canBe 37 = .ok (.iload_n 1, 1) := by decide +kernel
theorem dX4_canBe_38 : decode cX4_canBe 38 = .ok (.iconst 1, 1) := by decide +kernel
theorem dX4_canBe_39 : decode cX4_canBe 39 = .ok (.invokestatic 67, 3) := by decide +kernel
theorem dX4_canBe_42 : decode cX4_canBe 42 = .ok (.ishr, 1) := by decide +kernel
theorem dX4_canBe_43 : decode cX4_canBe 43 = .ok (.iconst 1, 1) := by decide +kernel
theorem dX4_canBe_44 : decode cX4_canBe 44 = .ok (.iand, 1) := by decide +kernel
theorem dX4_canBe_45 : decode cX4_canBe 45 = .ok (.iconst 1, 1) := by decide +kernel
theorem dX4_canBe_46 : decode cX4_canBe 46 = .ok (.if_icmp .ne 25, 3) := by decide +kernel
theorem dX4_canBe_49 : decode cX4_canBe 49 = .ok (.aload_n 0, 1) := by decide +kernel
theorem dX4_canBe_50 : decode cX4_canBe 50 = .ok (.iload 5, 2) := by decide +kernel
theorem dX4_canBe_52 : decode cX4_canBe 52 = .ok (.iload_n 3, 1) := by decide +kernel
theorem dX4_canBe_53 : decode cX4_canBe 53 = .ok (.aload_n 0, 1) := by decide +kernel
theorem dX4_canBe_54 : decode cX4_canBe 54 = .ok (.iload_n 1, 1) := by decide +kernel
theorem dX4_canBe_55 : decode cX4_canBe 55 = .ok (.iconst 2, 1) := by decide +kernel
theorem dX4_canBe_56 : decode cX4_canBe 56 = .ok (.invokestatic 67, 3) := by decide +kernel
theorem dX4_canBe_59 : decode cX4_canBe 59 = .ok (.iload_n 2, 1) := by decide +kernel
theorem dX4_canBe_60 : decode cX4_canBe 60 = .ok (.iadd, 1) := by decide +kernel
theorem dX4_canBe_61 : decode cX4_canBe 61 = .ok (.invokestatic 70, 3) := by decide +kernel
theorem dX4_canBe_64 : decode cX4_canBe 64 = .ok (.ifCond .eq 7, 3) := by decide +kernel
theorem dX4_canBe_67 : decode cX4_canBe 67 = .ok (.iconst 1, 1) := by decide +kernel
theorem dX4_canBe_68 : decode cX4_canBe 68 = .ok (.goto 4, 3) := by decide +kernel
theorem dX4_canBe_71 : decode cX4_canBe 71 = .ok (.iconst 0, 1) := by decide +kernel
theorem dX4_canBe_72 : decode cX4_canBe 72 = .ok (.istore 4, 2) := by decide +kernel
theorem dX4_canBe_74 : decode cX4_canBe 74 = .ok (.iinc 5 1, 3) := by decide +kernel
theorem dX4_canBe_77 : decode cX4_canBe 77 = .ok (.goto (-71), 3) := by decide +kernel
theorem dX4_canBe_80 : decode cX4_canBe 80 = .ok (.iload 4, 2) := by decide +kernel
theorem dX4_canBe_82 : decode cX4_canBe 82 = .ok (.ireturn, 1) := by decide +kernel
theorem dX4_firstLight_0 : decode cX4_firstLight 0 = .ok (.iload_n 3, 1) := by decide +kernel
theorem dX4_firstLight_1 : decode cX4_firstLight 1 = .ok (.istore 4, 2) := by decide +kernel
theorem dX4_firstLight_3 : decode cX4_firstLight 3 = .ok (.iload 4, 2) := by decide +kernel
theorem dX4_firstLight_5 : decode cX4_firstLight 5 = .ok (.sipush 200, 3) := by decide +kernel
theorem dX4_firstLight_8 : decode cX4_firstLight 8 = .ok (.if_icmp .ge 23, 3) := by decide +kernel
theorem dX4_firstLight_11 : decode cX4_firstLight 11 = .ok (.aload_n 0, 1) := by decide +kernel
theorem dX4_firstLight_12 : decode cX4_firstLight 12 = .ok (.iload_n 1, 1) := by decide +kernel
theorem dX4_firstLight_13 : decode cX4_firstLight 13 = .ok (.iload_n 2, 1) := by decide +kernel
theorem dX4_firstLight_14 : decode cX4_firstLight 14 = .ok (.iload 4, 2) := by decide +kernel
theorem dX4_firstLight_16 : decode cX4_firstLight 16 = .ok (.invokestatic 74, 3) := by decide +kernel
theorem dX4_firstLight_19 : decode cX4_firstLight 19 = .ok (.ifCond .eq 6, 3) := by decide +kernel
theorem dX4_firstLight_22 : decode cX4_firstLight 22 = .ok (.iload 4, 2) := by decide +kernel
theorem dX4_firstLight_24 : decode cX4_firstLight 24 = .ok (.ireturn, 1) := by decide +kernel
theorem dX4_firstLight_25 : decode cX4_firstLight 25 = .ok (.iinc 4 1, 3) := by decide +kernel
theorem dX4_firstLight_28 : decode cX4_firstLight 28 = .ok (.goto (-25), 3) := by decide +kernel
theorem dX4_firstLight_31 : decode cX4_firstLight 31 = .ok (.iconst (-1), 1) := by decide +kernel
theorem dX4_firstLight_32 : decode cX4_firstLight 32 = .ok (.ireturn, 1) := by decide +kernel
theorem dX4_together_0 : decode cX4_together 0 = .ok (.iconst 0, 1) := by decide +kernel
theorem dX4_together_1 : decode cX4_together 1 = .ok (.istore_n 3, 1) := by decide +kernel
theorem dX4_together_2 : decode cX4_together 2 = .ok (.iload_n 3, 1) := by decide +kernel
theorem dX4_together_3 : decode cX4_together 3 = .ok (.aload_n 1, 1) := by decide +kernel
theorem dX4_together_4 : decode cX4_together 4 = .ok (.iload_n 2, 1) := by decide +kernel
theorem dX4_together_5 : decode cX4_together 5 = .ok (.iconst 0, 1) := by decide +kernel
theorem dX4_together_6 : decode cX4_together 6 = .ok (.invokestatic 67, 3) := by decide +kernel
theorem dX4_together_9 : decode cX4_together 9 = .ok (.if_icmp .ge 16, 3) := by decide +kernel
theorem dX4_together_12 : decode cX4_together 12 = .ok (.aload_n 0, 1) := by decide +kernel
theorem dX4_together_13 : decode cX4_together 13 = .ok (.getfield 34, 3) := by decide +kernel
theorem dX4_together_16 : decode cX4_together 16 = .ok (.iload_n 3, 1) := by decide +kernel
theorem dX4_together_17 : decode cX4_together 17 = .ok (.iconst (-1), 1) := by decide +kernel
theorem dX4_together_18 : decode cX4_together 18 = .ok (.iastore, 1) := by decide +kernel
theorem dX4_together_19 : decode cX4_together 19 = .ok (.iinc 3 1, 3) := by decide +kernel
theorem dX4_together_22 : decode cX4_together 22 = .ok (.goto (-20), 3) := by decide +kernel
theorem dX4_together_25 : decode cX4_together 25 = .ok (.aload_n 1, 1) := by decide +kernel
theorem dX4_together_26 : decode cX4_together 26 = .ok (.iload_n 2, 1) := by decide +kernel
theorem dX4_together_27 : decode cX4_together 27 = .ok (.iconst 3, 1) := by decide +kernel
theorem dX4_together_28 : decode cX4_together 28 = .ok (.invokestatic 67, 3) := by decide +kernel
theorem dX4_together_31 : decode cX4_together 31 = .ok (.istore_n 3, 1) := by decide +kernel
theorem dX4_together_32 : decode cX4_together 32 = .ok (.iload_n 3, 1) := by decide +kernel
theorem dX4_together_33 : decode cX4_together 33 = .ok (.sipush 200, 3) := by decide +kernel
theorem dX4_together_36 : decode cX4_together 36 = .ok (.if_icmp .ge 106, 3) := by decide +kernel
theorem dX4_together_39 : decode cX4_together 39 = .ok (.iconst 1, 1) := by decide +kernel
theorem dX4_together_40 : decode cX4_together 40 = .ok (.istore 4, 2) := by decide +kernel
theorem dX4_together_42 : decode cX4_together 42 = .ok (.iconst 0, 1) := by decide +kernel
theorem dX4_together_43 : decode cX4_together 43 = .ok (.istore 5, 2) := by decide +kernel
theorem dX4_together_45 : decode cX4_together 45 = .ok (.iload 5, 2) := by decide +kernel
theorem dX4_together_47 : decode cX4_together 47 = .ok (.aload_n 1, 1) := by decide +kernel
theorem dX4_together_48 : decode cX4_together 48 = .ok (.iload_n 2, 1) := by decide +kernel
theorem dX4_together_49 : decode cX4_together 49 = .ok (.iconst 0, 1) := by decide +kernel
theorem dX4_together_50 : decode cX4_together 50 = .ok (.invokestatic 67, 3) := by decide +kernel
theorem dX4_together_53 : decode cX4_together 53 = .ok (.if_icmp .ge 76, 3) := by decide +kernel
theorem dX4_together_56 : decode cX4_together 56 = .ok (.aload_n 0, 1) := by decide +kernel
theorem dX4_together_57 : decode cX4_together 57 = .ok (.getfield 34, 3) := by decide +kernel
theorem dX4_together_60 : decode cX4_together 60 = .ok (.iload 5, 2) := by decide +kernel
theorem dX4_together_62 : decode cX4_together 62 = .ok (.aload_n 1, 1) := by decide +kernel
theorem dX4_together_63 : decode cX4_together 63 = .ok (.iload_n 2, 1) := by decide +kernel
theorem dX4_together_64 : decode cX4_together 64 = .ok (.iload 5, 2) := by decide +kernel
theorem dX4_together_66 : decode cX4_together 66 = .ok (.iload_n 3, 1) := by decide +kernel
theorem dX4_together_67 : decode cX4_together 67 = .ok (.invokestatic 74, 3) := by decide +kernel
theorem dX4_together_70 : decode cX4_together 70 = .ok (.ifCond .eq 7, 3) := by decide +kernel
theorem dX4_together_73 : decode cX4_together 73 = .ok (.iload_n 3, 1) := by decide +kernel
theorem dX4_together_74 : decode cX4_together 74 = .ok (.goto 10, 3) := by decide +kernel
theorem dX4_together_77 : decode cX4_together 77 = .ok (.aload_n 0, 1) := by decide +kernel
theorem dX4_together_78 : decode cX4_together 78 = .ok (.getfield 34, 3) := by decide +kernel
theorem dX4_together_81 : decode cX4_together 81 = .ok (.iload 5, 2) := by decide +kernel
theorem dX4_together_83 : decode cX4_together 83 = .ok (.iaload, 1) := by decide +kernel
theorem dX4_together_84 : decode cX4_together 84 = .ok (.iastore, 1) := by decide +kernel
theorem dX4_together_85 : decode cX4_together 85 = .ok (.iload 4, 2) := by decide +kernel
theorem dX4_together_87 : decode cX4_together 87 = .ok (.ifCond .eq 33, 3) := by decide +kernel
theorem dX4_together_90 : decode cX4_together 90 = .ok (.aload_n 0, 1) := by decide +kernel
theorem dX4_together_91 : decode cX4_together 91 = .ok (.getfield 34, 3) := by decide +kernel
theorem dX4_together_94 : decode cX4_together 94 = .ok (.iload 5, 2) := by decide +kernel
theorem dX4_together_96 : decode cX4_together 96 = .ok (.iaload, 1) := by decide +kernel
theorem dX4_together_97 : decode cX4_together 97 = .ok (.iconst (-1), 1) := by decide +kernel
theorem dX4_together_98 : decode cX4_together 98 = .ok (.if_icmp .eq 22, 3) := by decide +kernel
theorem dX4_together_101 : decode cX4_together 101 = .ok (.aload_n 0, 1) := by decide +kernel
theorem dX4_together_102 : decode cX4_together 102 = .ok (.getfield 34, 3) := by decide +kernel
theorem dX4_together_105 : decode cX4_together 105 = .ok (.iload 5, 2) := by decide +kernel
theorem dX4_together_107 : decode cX4_together 107 = .ok (.iaload, 1) := by decide +kernel
theorem dX4_together_108 : decode cX4_together 108 = .ok (.iload_n 3, 1) := by decide +kernel
theorem dX4_together_109 : decode cX4_together 109 = .ok (.aload_n 1, 1) := by decide +kernel
theorem dX4_together_110 : decode cX4_together 110 = .ok (.iconst 1, 1) := by decide +kernel
theorem dX4_together_111 : decode cX4_together 111 = .ok (.iaload, 1) := by decide +kernel
theorem dX4_together_112 : decode cX4_together 112 = .ok (.isub, 1) := by decide +kernel
theorem dX4_together_113 : decode cX4_together 113 = .ok (.if_icmp .lt 7, 3) := by decide +kernel
theorem dX4_together_116 : decode cX4_together 116 = .ok (.iconst 1, 1) := by decide +kernel
theorem dX4_together_117 : decode cX4_together 117 = .ok (.goto 4, 3) := by decide +kernel
theorem dX4_together_120 : decode cX4_together 120 = .ok (.iconst 0, 1) := by decide +kernel
theorem dX4_together_121 : decode cX4_together 121 = .ok (.istore 4, 2) := by decide +kernel
theorem dX4_together_123 : decode cX4_together 123 = .ok (.iinc 5 1, 3) := by decide +kernel
theorem dX4_together_126 : decode cX4_together 126 = .ok (.goto (-81), 3) := by decide +kernel
theorem dX4_together_129 : decode cX4_together 129 = .ok (.iload 4, 2) := by decide +kernel
theorem dX4_together_131 : decode cX4_together 131 = .ok (.ifCond .eq 5, 3) := by decide +kernel
theorem dX4_together_134 : decode cX4_together 134 = .ok (.iload_n 3, 1) := by decide +kernel
theorem dX4_together_135 : decode cX4_together 135 = .ok (.ireturn, 1) := by decide +kernel
theorem dX4_together_136 : decode cX4_together 136 = .ok (.iinc 3 1, 3) := by decide +kernel
theorem dX4_together_139 : decode cX4_together 139 = .ok (.goto (-107), 3) := by decide +kernel
theorem dX4_together_142 : decode cX4_together 142 = .ok (.iconst (-1), 1) := by decide +kernel
theorem dX4_together_143 : decode cX4_together 143 = .ok (.ireturn, 1) := by decide +kernel
theorem dX4_laysWord_0 : decode cX4_laysWord 0 = .ok (.aload_n 1, 1) := by decide +kernel
theorem dX4_laysWord_1 : decode cX4_laysWord 1 = .ok (.iload_n 2, 1) := by decide +kernel
theorem dX4_laysWord_2 : decode cX4_laysWord 2 = .ok (.iconst 0, 1) := by decide +kernel
theorem dX4_laysWord_3 : decode cX4_laysWord 3 = .ok (.invokestatic 67, 3) := by decide +kernel
theorem dX4_laysWord_6 : decode cX4_laysWord 6 = .ok (.istore_n 3, 1) := by decide +kernel
theorem dX4_laysWord_7 : decode cX4_laysWord 7 = .ok (.aload_n 1, 1) := by decide +kernel
theorem dX4_laysWord_8 : decode cX4_laysWord 8 = .ok (.iload_n 2, 1) := by decide +kernel
theorem dX4_laysWord_9 : decode cX4_laysWord 9 = .ok (.iconst 4, 1) := by decide +kernel
theorem dX4_laysWord_10 : decode cX4_laysWord 10 = .ok (.invokestatic 67, 3) := by decide +kernel
theorem dX4_laysWord_13 : decode cX4_laysWord 13 = .ok (.istore 4, 2) := by decide +kernel
theorem dX4_laysWord_15 : decode cX4_laysWord 15 = .ok (.iload 4, 2) := by decide +kernel
theorem dX4_laysWord_17 : decode cX4_laysWord 17 = .ok (.iconst 2, 1) := by decide +kernel
theorem dX4_laysWord_18 : decode cX4_laysWord 18 = .ok (.if_icmp .ne 12, 3) := by decide +kernel
theorem dX4_laysWord_21 : decode cX4_laysWord 21 = .ok (.aload_n 0, 1) := by decide +kernel
theorem dX4_laysWord_22 : decode cX4_laysWord 22 = .ok (.aload_n 1, 1) := by decide +kernel
theorem dX4_laysWord_23 : decode cX4_laysWord 23 = .ok (.iload_n 2, 1) := by decide +kernel
theorem dX4_laysWord_24 : decode cX4_laysWord 24 = .ok (.invokevirtual 77, 3) := by decide +kernel
theorem dX4_laysWord_27 : decode cX4_laysWord 27 = .ok (.goto 4, 3) := by decide +kernel
theorem dX4_laysWord_30 : decode cX4_laysWord 30 = .ok (.iconst 0, 1) := by decide +kernel
theorem dX4_laysWord_31 : decode cX4_laysWord 31 = .ok (.istore 5, 2) := by decide +kernel
theorem dX4_laysWord_33 : decode cX4_laysWord 33 = .ok (.aload_n 1, 1) := by decide +kernel
theorem dX4_laysWord_34 : decode cX4_laysWord 34 = .ok (.iload_n 2, 1) := by decide +kernel
theorem dX4_laysWord_35 : decode cX4_laysWord 35 = .ok (.iconst 3, 1) := by decide +kernel
theorem dX4_laysWord_36 : decode cX4_laysWord 36 = .ok (.invokestatic 67, 3) := by decide +kernel
theorem dX4_laysWord_39 : decode cX4_laysWord 39 = .ok (.istore 6, 2) := by decide +kernel
theorem dX4_laysWord_41 : decode cX4_laysWord 41 = .ok (.iconst 1, 1) := by decide +kernel
theorem dX4_laysWord_42 : decode cX4_laysWord 42 = .ok (.istore 7, 2) := by decide +kernel
theorem dX4_laysWord_44 : decode cX4_laysWord 44 = .ok (.iconst 0, 1) := by decide +kernel
theorem dX4_laysWord_45 : decode cX4_laysWord 45 = .ok (.istore 8, 2) := by decide +kernel
theorem dX4_laysWord_47 : decode cX4_laysWord 47 = .ok (.iload 8, 2) := by decide +kernel
theorem dX4_laysWord_49 : decode cX4_laysWord 49 = .ok (.iload_n 3, 1) := by decide +kernel
theorem dX4_laysWord_50 : decode cX4_laysWord 50 = .ok (.if_icmp .ge 163, 3) := by decide +kernel
theorem dX4_laysWord_53 : decode cX4_laysWord 53 = .ok (.iload 4, 2) := by decide +kernel
theorem dX4_laysWord_55 : decode cX4_laysWord 55 = .ok (.iconst 1, 1) := by decide +kernel
theorem dX4_laysWord_56 : decode cX4_laysWord 56 = .ok (.if_icmp .ne 12, 3) := by decide +kernel
theorem dX4_laysWord_59 : decode cX4_laysWord 59 = .ok (.iload 8, 2) := by decide +kernel
theorem dX4_laysWord_61 : decode cX4_laysWord 61 = .ok (.ifCond .le 7, 3) := by decide +kernel
theorem dX4_laysWord_64 : decode cX4_laysWord 64 = .ok (.iconst 1, 1) := by decide +kernel
theorem dX4_laysWord_65 : decode cX4_laysWord 65 = .ok (.goto 4, 3) := by decide +kernel
theorem dX4_laysWord_68 : decode cX4_laysWord 68 = .ok (.iconst 0, 1) := by decide +kernel
theorem dX4_laysWord_69 : decode cX4_laysWord 69 = .ok (.istore 9, 2) := by decide +kernel
theorem dX4_laysWord_71 : decode cX4_laysWord 71 = .ok (.iload 9, 2) := by decide +kernel
theorem dX4_laysWord_73 : decode cX4_laysWord 73 = .ok (.ifCond .eq 20, 3) := by decide +kernel
theorem dX4_laysWord_76 : decode cX4_laysWord 76 = .ok (.aload_n 0, 1) := by decide +kernel
theorem dX4_laysWord_77 : decode cX4_laysWord 77 = .ok (.getfield 25, 3) := by decide +kernel
theorem dX4_laysWord_80 : decode cX4_laysWord 80 = .ok (.bipush 12, 2) := by decide +kernel
theorem dX4_laysWord_82 : decode cX4_laysWord 82 = .ok (.iload_n 2, 1) := by decide +kernel
theorem dX4_laysWord_83 : decode cX4_laysWord 83 = .ok (.imul, 1) := by decide +kernel
theorem dX4_laysWord_84 : decode cX4_laysWord 84 = .ok (.iload 8, 2) := by decide +kernel
theorem dX4_laysWord_86 : decode cX4_laysWord 86 = .ok (.iadd, 1) := by decide +kernel
theorem dX4_laysWord_87 : decode cX4_laysWord 87 = .ok (.iconst 1, 1) := by decide +kernel
theorem dX4_laysWord_88 : decode cX4_laysWord 88 = .ok (.isub, 1) := by decide +kernel
theorem dX4_laysWord_89 : decode cX4_laysWord 89 = .ok (.iaload, 1) := by decide +kernel
theorem dX4_laysWord_90 : decode cX4_laysWord 90 = .ok (.goto 9, 3) := by decide +kernel
theorem dX4_laysWord_93 : decode cX4_laysWord 93 = .ok (.aload_n 1, 1) := by decide +kernel
theorem dX4_laysWord_94 : decode cX4_laysWord 94 = .ok (.iload_n 2, 1) := by decide +kernel
theorem dX4_laysWord_95 : decode cX4_laysWord 95 = .ok (.iconst 3, 1) := by decide +kernel
theorem dX4_laysWord_96 : decode cX4_laysWord 96 = .ok (.invokestatic 67, 3) := by decide +kernel
theorem dX4_laysWord_99 : decode cX4_laysWord 99 = .ok (.istore 10, 2) := by decide +kernel
theorem dX4_laysWord_101 : decode cX4_laysWord 101 = .ok (.aload_n 0, 1) := by decide +kernel
theorem dX4_laysWord_102 : decode cX4_laysWord 102 = .ok (.getfield 25, 3) := by decide +kernel
theorem dX4_laysWord_105 : decode cX4_laysWord 105 = .ok (.bipush 12, 2) := by decide +kernel
theorem dX4_laysWord_107 : decode cX4_laysWord 107 = .ok (.iload_n 2, 1) := by decide +kernel
theorem dX4_laysWord_108 : decode cX4_laysWord 108 = .ok (.imul, 1) := by decide +kernel
theorem dX4_laysWord_109 : decode cX4_laysWord 109 = .ok (.iload 8, 2) := by decide +kernel
theorem dX4_laysWord_111 : decode cX4_laysWord 111 = .ok (.iadd, 1) := by decide +kernel
theorem dX4_laysWord_112 : decode cX4_laysWord 112 = .ok (.iload 4, 2) := by decide +kernel
theorem dX4_laysWord_114 : decode cX4_laysWord 114 = .ok (.iconst 2, 1) := by decide +kernel
theorem dX4_laysWord_115 : decode cX4_laysWord 115 = .ok (.if_icmp .ne 8, 3) := by decide +kernel
theorem dX4_laysWord_118 : decode cX4_laysWord 118 = .ok (.iload 5, 2) := by decide +kernel
theorem dX4_laysWord_120 : decode cX4_laysWord 120 = .ok (.goto 22, 3) := by decide +kernel
theorem dX4_laysWord_123 : decode cX4_laysWord 123 = .ok (.iload 10, 2) := by decide +kernel
theorem dX4_laysWord_125 : decode cX4_laysWord 125 = .ok (.iconst (-1), 1) := by decide +kernel
theorem dX4_laysWord_126 : decode cX4_laysWord 126 = .ok (.if_icmp .ne 7, 3) := by decide +kernel
theorem dX4_laysWord_129 : decode cX4_laysWord 129 = .ok (.iconst (-1), 1) := by decide +kernel
theorem dX4_laysWord_130 : decode cX4_laysWord 130 = .ok (.goto 12, 3) := by decide +kernel
theorem dX4_laysWord_133 : decode cX4_laysWord 133 = .ok (.aload_n 1, 1) := by decide +kernel
theorem dX4_laysWord_134 : decode cX4_laysWord 134 = .ok (.iload_n 2, 1) := by decide +kernel
theorem dX4_laysWord_135 : decode cX4_laysWord 135 = .ok (.iload 8, 2) := by decide +kernel
theorem dX4_laysWord_137 : decode cX4_laysWord 137 = .ok (.iload 10, 2) := by decide +kernel
theorem dX4_laysWord_139 : decode cX4_laysWord 139 = .ok (.invokestatic 81, 3) := by decide +kernel
theorem dX4_laysWord_142 : decode cX4_laysWord 142 = .ok (.iastore, 1) := by decide +kernel
theorem dX4_laysWord_143 : decode cX4_laysWord 143 = .ok (.iload 7, 2) := by decide +kernel
theorem dX4_laysWord_145 : decode cX4_laysWord 145 = .ok (.ifCond .eq 23, 3) := by decide +kernel
theorem dX4_laysWord_148 : decode cX4_laysWord 148 = .ok (.aload_n 0, 1) := by decide +kernel
theorem dX4_laysWord_149 : decode cX4_laysWord 149 = .ok (.getfield 25, 3) := by decide +kernel
theorem dX4_laysWord_152 : decode cX4_laysWord 152 = .ok (.bipush 12, 2) := by decide +kernel
theorem dX4_laysWord_154 : decode cX4_laysWord 154 = .ok (.iload_n 2, 1) := by decide +kernel
theorem dX4_laysWord_155 : decode cX4_laysWord 155 = .ok (.imul, 1) := by decide +kernel
theorem dX4_laysWord_156 : decode cX4_laysWord 156 = .ok (.iload 8, 2) := by decide +kernel
theorem dX4_laysWord_158 : decode cX4_laysWord 158 = .ok (.iadd, 1) := by decide +kernel
theorem dX4_laysWord_159 : decode cX4_laysWord 159 = .ok (.iaload, 1) := by decide +kernel
theorem dX4_laysWord_160 : decode cX4_laysWord 160 = .ok (.iconst (-1), 1) := by decide +kernel
theorem dX4_laysWord_161 : decode cX4_laysWord 161 = .ok (.if_icmp .eq 7, 3) := by decide +kernel
theorem dX4_laysWord_164 : decode cX4_laysWord 164 = .ok (.iconst 1, 1) := by decide +kernel
theorem dX4_laysWord_165 : decode cX4_laysWord 165 = .ok (.goto 4, 3) := by decide +kernel
theorem dX4_laysWord_168 : decode cX4_laysWord 168 = .ok (.iconst 0, 1) := by decide +kernel
theorem dX4_laysWord_169 : decode cX4_laysWord 169 = .ok (.istore 7, 2) := by decide +kernel
theorem dX4_laysWord_171 : decode cX4_laysWord 171 = .ok (.aload_n 0, 1) := by decide +kernel
theorem dX4_laysWord_172 : decode cX4_laysWord 172 = .ok (.getfield 25, 3) := by decide +kernel
theorem dX4_laysWord_175 : decode cX4_laysWord 175 = .ok (.bipush 12, 2) := by decide +kernel
theorem dX4_laysWord_177 : decode cX4_laysWord 177 = .ok (.iload_n 2, 1) := by decide +kernel
theorem dX4_laysWord_178 : decode cX4_laysWord 178 = .ok (.imul, 1) := by decide +kernel
theorem dX4_laysWord_179 : decode cX4_laysWord 179 = .ok (.iload 8, 2) := by decide +kernel
theorem dX4_laysWord_181 : decode cX4_laysWord 181 = .ok (.iadd, 1) := by decide +kernel
theorem dX4_laysWord_182 : decode cX4_laysWord 182 = .ok (.iaload, 1) := by decide +kernel
theorem dX4_laysWord_183 : decode cX4_laysWord 183 = .ok (.iload 6, 2) := by decide +kernel
theorem dX4_laysWord_185 : decode cX4_laysWord 185 = .ok (.if_icmp .le 18, 3) := by decide +kernel
theorem dX4_laysWord_188 : decode cX4_laysWord 188 = .ok (.aload_n 0, 1) := by decide +kernel
theorem dX4_laysWord_189 : decode cX4_laysWord 189 = .ok (.getfield 25, 3) := by decide +kernel
theorem dX4_laysWord_192 : decode cX4_laysWord 192 = .ok (.bipush 12, 2) := by decide +kernel
theorem dX4_laysWord_194 : decode cX4_laysWord 194 = .ok (.iload_n 2, 1) := by decide +kernel
theorem dX4_laysWord_195 : decode cX4_laysWord 195 = .ok (.imul, 1) := by decide +kernel
theorem dX4_laysWord_196 : decode cX4_laysWord 196 = .ok (.iload 8, 2) := by decide +kernel
theorem dX4_laysWord_198 : decode cX4_laysWord 198 = .ok (.iadd, 1) := by decide +kernel
theorem dX4_laysWord_199 : decode cX4_laysWord 199 = .ok (.iaload, 1) := by decide +kernel
theorem dX4_laysWord_200 : decode cX4_laysWord 200 = .ok (.goto 5, 3) := by decide +kernel
theorem dX4_laysWord_203 : decode cX4_laysWord 203 = .ok (.iload 6, 2) := by decide +kernel
theorem dX4_laysWord_205 : decode cX4_laysWord 205 = .ok (.istore 6, 2) := by decide +kernel
theorem dX4_laysWord_207 : decode cX4_laysWord 207 = .ok (.iinc 8 1, 3) := by decide +kernel
theorem dX4_laysWord_210 : decode cX4_laysWord 210 = .ok (.goto (-163), 3) := by decide +kernel
theorem dX4_laysWord_213 : decode cX4_laysWord 213 = .ok (.aload_n 0, 1) := by decide +kernel
theorem dX4_laysWord_214 : decode cX4_laysWord 214 = .ok (.getfield 28, 3) := by decide +kernel
theorem dX4_laysWord_217 : decode cX4_laysWord 217 = .ok (.iload_n 2, 1) := by decide +kernel
theorem dX4_laysWord_218 : decode cX4_laysWord 218 = .ok (.iload 7, 2) := by decide +kernel
theorem dX4_laysWord_220 : decode cX4_laysWord 220 = .ok (.ifCond .eq 8, 3) := by decide +kernel
theorem dX4_laysWord_223 : decode cX4_laysWord 223 = .ok (.iload 6, 2) := by decide +kernel
theorem dX4_laysWord_225 : decode cX4_laysWord 225 = .ok (.goto 4, 3) := by decide +kernel
theorem dX4_laysWord_228 : decode cX4_laysWord 228 = .ok (.iconst (-1), 1) := by decide +kernel
theorem dX4_laysWord_229 : decode cX4_laysWord 229 = .ok (.iastore, 1) := by decide +kernel
theorem dX4_laysWord_230 : decode cX4_laysWord 230 = .ok (.iload 6, 2) := by decide +kernel
theorem dX4_laysWord_232 : decode cX4_laysWord 232 = .ok (.aload_n 1, 1) := by decide +kernel
theorem dX4_laysWord_233 : decode cX4_laysWord 233 = .ok (.iload_n 2, 1) := by decide +kernel
theorem dX4_laysWord_234 : decode cX4_laysWord 234 = .ok (.iconst 5, 1) := by decide +kernel
theorem dX4_laysWord_235 : decode cX4_laysWord 235 = .ok (.invokestatic 67, 3) := by decide +kernel
theorem dX4_laysWord_238 : decode cX4_laysWord 238 = .ok (.iadd, 1) := by decide +kernel
theorem dX4_laysWord_239 : decode cX4_laysWord 239 = .ok (.iload 6, 2) := by decide +kernel
theorem dX4_laysWord_241 : decode cX4_laysWord 241 = .ok (.if_icmp .le 15, 3) := by decide +kernel
theorem dX4_laysWord_244 : decode cX4_laysWord 244 = .ok (.iload 6, 2) := by decide +kernel
theorem dX4_laysWord_246 : decode cX4_laysWord 246 = .ok (.aload_n 1, 1) := by decide +kernel
theorem dX4_laysWord_247 : decode cX4_laysWord 247 = .ok (.iload_n 2, 1) := by decide +kernel
theorem dX4_laysWord_248 : decode cX4_laysWord 248 = .ok (.iconst 5, 1) := by decide +kernel
theorem dX4_laysWord_249 : decode cX4_laysWord 249 = .ok (.invokestatic 67, 3) := by decide +kernel
theorem dX4_laysWord_252 : decode cX4_laysWord 252 = .ok (.iadd, 1) := by decide +kernel
theorem dX4_laysWord_253 : decode cX4_laysWord 253 = .ok (.goto 7, 3) := by decide +kernel
theorem dX4_laysWord_256 : decode cX4_laysWord 256 = .ok (.iload 6, 2) := by decide +kernel
theorem dX4_laysWord_258 : decode cX4_laysWord 258 = .ok (.iconst 1, 1) := by decide +kernel
theorem dX4_laysWord_259 : decode cX4_laysWord 259 = .ok (.iadd, 1) := by decide +kernel
theorem dX4_laysWord_260 : decode cX4_laysWord 260 = .ok (.istore 8, 2) := by decide +kernel
theorem dX4_laysWord_262 : decode cX4_laysWord 262 = .ok (.iload 8, 2) := by decide +kernel
theorem dX4_laysWord_264 : decode cX4_laysWord 264 = .ok (.aload_n 1, 1) := by decide +kernel
theorem dX4_laysWord_265 : decode cX4_laysWord 265 = .ok (.iconst 0, 1) := by decide +kernel
theorem dX4_laysWord_266 : decode cX4_laysWord 266 = .ok (.iaload, 1) := by decide +kernel
theorem dX4_laysWord_267 : decode cX4_laysWord 267 = .ok (.iadd, 1) := by decide +kernel
theorem dX4_laysWord_268 : decode cX4_laysWord 268 = .ok (.iconst 1, 1) := by decide +kernel
theorem dX4_laysWord_269 : decode cX4_laysWord 269 = .ok (.isub, 1) := by decide +kernel
theorem dX4_laysWord_270 : decode cX4_laysWord 270 = .ok (.aload_n 1, 1) := by decide +kernel
theorem dX4_laysWord_271 : decode cX4_laysWord 271 = .ok (.iconst 0, 1) := by decide +kernel
theorem dX4_laysWord_272 : decode cX4_laysWord 272 = .ok (.iaload, 1) := by decide +kernel
theorem dX4_laysWord_273 : decode cX4_laysWord 273 = .ok (.idiv, 1) := by decide +kernel
theorem dX4_laysWord_274 : decode cX4_laysWord 274 = .ok (.aload_n 1, 1) := by decide +kernel
theorem dX4_laysWord_275 : decode cX4_laysWord 275 = .ok (.iconst 0, 1) := by decide +kernel
theorem dX4_laysWord_276 : decode cX4_laysWord 276 = .ok (.iaload, 1) := by decide +kernel
theorem dX4_laysWord_277 : decode cX4_laysWord 277 = .ok (.imul, 1) := by decide +kernel
theorem dX4_laysWord_278 : decode cX4_laysWord 278 = .ok (.istore 9, 2) := by decide +kernel
theorem dX4_laysWord_280 : decode cX4_laysWord 280 = .ok (.aload_n 0, 1) := by decide +kernel
theorem dX4_laysWord_281 : decode cX4_laysWord 281 = .ok (.getfield 31, 3) := by decide +kernel
theorem dX4_laysWord_284 : decode cX4_laysWord 284 = .ok (.iload_n 2, 1) := by decide +kernel
theorem dX4_laysWord_285 : decode cX4_laysWord 285 = .ok (.iload 7, 2) := by decide +kernel
theorem dX4_laysWord_287 : decode cX4_laysWord 287 = .ok (.ifCond .eq 16, 3) := by decide +kernel
theorem dX4_laysWord_290 : decode cX4_laysWord 290 = .ok (.iload 9, 2) := by decide +kernel
theorem dX4_laysWord_292 : decode cX4_laysWord 292 = .ok (.sipush 200, 3) := by decide +kernel
theorem dX4_laysWord_295 : decode cX4_laysWord 295 = .ok (.if_icmp .ge 8, 3) := by decide +kernel
theorem dX4_laysWord_298 : decode cX4_laysWord 298 = .ok (.iload 9, 2) := by decide +kernel
theorem dX4_laysWord_300 : decode cX4_laysWord 300 = .ok (.goto 4, 3) := by decide +kernel
theorem dX4_laysWord_303 : decode cX4_laysWord 303 = .ok (.iconst (-1), 1) := by decide +kernel
theorem dX4_laysWord_304 : decode cX4_laysWord 304 = .ok (.iastore, 1) := by decide +kernel
theorem dX4_laysWord_305 : decode cX4_laysWord 305 = .ok (.return_, 1) := by decide +kernel
theorem dX4_lays_0 : decode cX4_lays 0 = .ok (.iconst 0, 1) := by decide +kernel
theorem dX4_lays_1 : decode cX4_lays 1 = .ok (.istore_n 2, 1) := by decide +kernel
theorem dX4_lays_2 : decode cX4_lays 2 = .ok (.iload_n 2, 1) := by decide +kernel
theorem dX4_lays_3 : decode cX4_lays 3 = .ok (.aload_n 1, 1) := by decide +kernel
theorem dX4_lays_4 : decode cX4_lays 4 = .ok (.iconst 2, 1) := by decide +kernel
theorem dX4_lays_5 : decode cX4_lays 5 = .ok (.iaload, 1) := by decide +kernel
theorem dX4_lays_6 : decode cX4_lays 6 = .ok (.if_icmp .ge 15, 3) := by decide +kernel
theorem dX4_lays_9 : decode cX4_lays 9 = .ok (.aload_n 0, 1) := by decide +kernel
theorem dX4_lays_10 : decode cX4_lays 10 = .ok (.aload_n 1, 1) := by decide +kernel
theorem dX4_lays_11 : decode cX4_lays 11 = .ok (.iload_n 2, 1) := by decide +kernel
theorem dX4_lays_12 : decode cX4_lays 12 = .ok (.invokevirtual 85, 3) := by decide +kernel
theorem dX4_lays_15 : decode cX4_lays 15 = .ok (.iinc 2 1, 3) := by decide +kernel
theorem dX4_lays_18 : decode cX4_lays 18 = .ok (.goto (-16), 3) := by decide +kernel
theorem dX4_lays_21 : decode cX4_lays 21 = .ok (.return_, 1) := by decide +kernel
theorem dX4_laysNow_0 : decode cX4_laysNow 0 = .ok (.aload_n 0, 1) := by decide +kernel
theorem dX4_laysNow_1 : decode cX4_laysNow 1 = .ok (.getfield 45, 3) := by decide +kernel
theorem dX4_laysNow_4 : decode cX4_laysNow 4 = .ok (.ifCond .ne 16, 3) := by decide +kernel
theorem dX4_laysNow_7 : decode cX4_laysNow 7 = .ok (.aload_n 0, 1) := by decide +kernel
theorem dX4_laysNow_8 : decode cX4_laysNow 8 = .ok (.aload_n 0, 1) := by decide +kernel
theorem dX4_laysNow_9 : decode cX4_laysNow 9 = .ok (.getfield 7, 3) := by decide +kernel
theorem dX4_laysNow_12 : decode cX4_laysNow 12 = .ok (.invokevirtual 89, 3) := by decide +kernel
theorem dX4_laysNow_15 : decode cX4_laysNow 15 = .ok (.aload_n 0, 1) := by decide +kernel
theorem dX4_laysNow_16 : decode cX4_laysNow 16 = .ok (.iconst 1, 1) := by decide +kernel
theorem dX4_laysNow_17 : decode cX4_laysNow 17 = .ok (.putfield 45, 3) := by decide +kernel
theorem dX4_laysNow_20 : decode cX4_laysNow 20 = .ok (.return_, 1) := by decide +kernel
theorem dX4_isSeen_0 : decode cX4_isSeen 0 = .ok (.aload_n 0, 1) := by decide +kernel
theorem dX4_isSeen_1 : decode cX4_isSeen 1 = .ok (.getfield 25, 3) := by decide +kernel
theorem dX4_isSeen_4 : decode cX4_isSeen 4 = .ok (.bipush 12, 2) := by decide +kernel
theorem dX4_isSeen_6 : decode cX4_isSeen 6 = .ok (.iload_n 1, 1) := by decide +kernel
theorem dX4_isSeen_7 : decode cX4_isSeen 7 = .ok (.imul, 1) := by decide +kernel
theorem dX4_isSeen_8 : decode cX4_isSeen 8 = .ok (.iload_n 2, 1) := by decide +kernel
theorem dX4_isSeen_9 : decode cX4_isSeen 9 = .ok (.iadd, 1) := by decide +kernel
theorem dX4_isSeen_10 : decode cX4_isSeen 10 = .ok (.iaload, 1) := by decide +kernel
theorem dX4_isSeen_11 : decode cX4_isSeen 11 = .ok (.istore 4, 2) := by decide +kernel
theorem dX4_isSeen_13 : decode cX4_isSeen 13 = .ok (.iload 4, 2) := by decide +kernel
theorem dX4_isSeen_15 : decode cX4_isSeen 15 = .ok (.iconst (-1), 1) := by decide +kernel
theorem dX4_isSeen_16 : decode cX4_isSeen 16 = .ok (.if_icmp .eq 33, 3) := by decide +kernel
theorem dX4_isSeen_19 : decode cX4_isSeen 19 = .ok (.iload 4, 2) := by decide +kernel
theorem dX4_isSeen_21 : decode cX4_isSeen 21 = .ok (.iload_n 3, 1) := by decide +kernel
theorem dX4_isSeen_22 : decode cX4_isSeen 22 = .ok (.if_icmp .gt 27, 3) := by decide +kernel
theorem dX4_isSeen_25 : decode cX4_isSeen 25 = .ok (.aload_n 0, 1) := by decide +kernel
theorem dX4_isSeen_26 : decode cX4_isSeen 26 = .ok (.getfield 31, 3) := by decide +kernel
theorem dX4_isSeen_29 : decode cX4_isSeen 29 = .ok (.iload_n 1, 1) := by decide +kernel
theorem dX4_isSeen_30 : decode cX4_isSeen 30 = .ok (.iaload, 1) := by decide +kernel
theorem dX4_isSeen_31 : decode cX4_isSeen 31 = .ok (.iconst (-1), 1) := by decide +kernel
theorem dX4_isSeen_32 : decode cX4_isSeen 32 = .ok (.if_icmp .eq 13, 3) := by decide +kernel
theorem dX4_isSeen_35 : decode cX4_isSeen 35 = .ok (.iload_n 3, 1) := by decide +kernel
theorem dX4_isSeen_36 : decode cX4_isSeen 36 = .ok (.aload_n 0, 1) := by decide +kernel
theorem dX4_isSeen_37 : decode cX4_isSeen 37 = .ok (.getfield 31, 3) := by decide +kernel
theorem dX4_isSeen_40 : decode cX4_isSeen 40 = .ok (.iload_n 1, 1) := by decide +kernel
theorem dX4_isSeen_41 : decode cX4_isSeen 41 = .ok (.iaload, 1) := by decide +kernel
theorem dX4_isSeen_42 : decode cX4_isSeen 42 = .ok (.if_icmp .ge 7, 3) := by decide +kernel
theorem dX4_isSeen_45 : decode cX4_isSeen 45 = .ok (.iconst 1, 1) := by decide +kernel
theorem dX4_isSeen_46 : decode cX4_isSeen 46 = .ok (.goto 4, 3) := by decide +kernel
theorem dX4_isSeen_49 : decode cX4_isSeen 49 = .ok (.iconst 0, 1) := by decide +kernel
theorem dX4_isSeen_50 : decode cX4_isSeen 50 = .ok (.ireturn, 1) := by decide +kernel
theorem dX4_letterAt_0 : decode cX4_letterAt 0 = .ok (.iload_n 2, 1) := by decide +kernel
theorem dX4_letterAt_1 : decode cX4_letterAt 1 = .ok (.aload_n 0, 1) := by decide +kernel
theorem dX4_letterAt_2 : decode cX4_letterAt 2 = .ok (.iload_n 1, 1) := by decide +kernel
theorem dX4_letterAt_3 : decode cX4_letterAt 3 = .ok (.iconst 2, 1) := by decide +kernel
theorem dX4_letterAt_4 : decode cX4_letterAt 4 = .ok (.invokestatic 67, 3) := by decide +kernel
theorem dX4_letterAt_7 : decode cX4_letterAt 7 = .ok (.isub, 1) := by decide +kernel
theorem dX4_letterAt_8 : decode cX4_letterAt 8 = .ok (.istore_n 3, 1) := by decide +kernel
theorem dX4_letterAt_9 : decode cX4_letterAt 9 = .ok (.iload_n 3, 1) := by decide +kernel
theorem dX4_letterAt_10 : decode cX4_letterAt 10 = .ok (.iconst 0, 1) := by decide +kernel
theorem dX4_letterAt_11 : decode cX4_letterAt 11 = .ok (.aload_n 0, 1) := by decide +kernel
theorem dX4_letterAt_12 : decode cX4_letterAt 12 = .ok (.iload_n 1, 1) := by decide +kernel
theorem dX4_letterAt_13 : decode cX4_letterAt 13 = .ok (.iconst 0, 1) := by decide +kernel
theorem dX4_letterAt_14 : decode cX4_letterAt 14 = .ok (.invokestatic 67, 3) := by decide +kernel
theorem dX4_letterAt_17 : decode cX4_letterAt 17 = .ok (.iconst 1, 1) := by decide +kernel
theorem dX4_letterAt_18 : decode cX4_letterAt 18 = .ok (.isub, 1) := by decide +kernel
theorem dX4_letterAt_19 : decode cX4_letterAt 19 = .ok (.invokestatic 41, 3) := by decide +kernel
theorem dX4_letterAt_22 : decode cX4_letterAt 22 = .ok (.ifCond .eq 7, 3) := by decide +kernel
theorem dX4_letterAt_25 : decode cX4_letterAt 25 = .ok (.iload_n 3, 1) := by decide +kernel
theorem dX4_letterAt_26 : decode cX4_letterAt 26 = .ok (.goto 4, 3) := by decide +kernel
theorem dX4_letterAt_29 : decode cX4_letterAt 29 = .ok (.iconst (-1), 1) := by decide +kernel
theorem dX4_letterAt_30 : decode cX4_letterAt 30 = .ok (.ireturn, 1) := by decide +kernel
theorem dX4_clash_0 : decode cX4_clash 0 = .ok (.iconst 0, 1) := by decide +kernel
theorem dX4_clash_1 : decode cX4_clash 1 = .ok (.istore 5, 2) := by decide +kernel
theorem dX4_clash_3 : decode cX4_clash 3 = .ok (.iconst 0, 1) := by decide +kernel
theorem dX4_clash_4 : decode cX4_clash 4 = .ok (.istore 6, 2) := by decide +kernel
theorem dX4_clash_6 : decode cX4_clash 6 = .ok (.iload 6, 2) := by decide +kernel
theorem dX4_clash_8 : decode cX4_clash 8 = .ok (.aload_n 1, 1) := by decide +kernel
theorem dX4_clash_9 : decode cX4_clash 9 = .ok (.iload_n 2, 1) := by decide +kernel
theorem dX4_clash_10 : decode cX4_clash 10 = .ok (.iconst 0, 1) := by decide +kernel
theorem dX4_clash_11 : decode cX4_clash 11 = .ok (.invokestatic 67, 3) := by decide +kernel
theorem dX4_clash_14 : decode cX4_clash 14 = .ok (.if_icmp .ge 82, 3) := by decide +kernel
theorem dX4_clash_17 : decode cX4_clash 17 = .ok (.aload_n 1, 1) := by decide +kernel
theorem dX4_clash_18 : decode cX4_clash 18 = .ok (.iload_n 2, 1) := by decide +kernel
theorem dX4_clash_19 : decode cX4_clash 19 = .ok (.iconst 1, 1) := by decide +kernel
theorem dX4_clash_20 : decode cX4_clash 20 = .ok (.invokestatic 67, 3) := by decide +kernel
theorem dX4_clash_23 : decode cX4_clash 23 = .ok (.aload_n 1, 1) := by decide +kernel
theorem dX4_clash_24 : decode cX4_clash 24 = .ok (.iload_n 3, 1) := by decide +kernel
theorem dX4_clash_25 : decode cX4_clash 25 = .ok (.iconst 1, 1) := by decide +kernel
theorem dX4_clash_26 : decode cX4_clash 26 = .ok (.invokestatic 67, 3) := by decide +kernel
theorem dX4_clash_29 : decode cX4_clash 29 = .ok (.if_icmp .ne 67, 3) := by decide +kernel
theorem dX4_clash_32 : decode cX4_clash 32 = .ok (.aload_n 1, 1) := by decide +kernel
theorem dX4_clash_33 : decode cX4_clash 33 = .ok (.iload_n 3, 1) := by decide +kernel
theorem dX4_clash_34 : decode cX4_clash 34 = .ok (.aload_n 1, 1) := by decide +kernel
theorem dX4_clash_35 : decode cX4_clash 35 = .ok (.iload_n 2, 1) := by decide +kernel
theorem dX4_clash_36 : decode cX4_clash 36 = .ok (.iconst 2, 1) := by decide +kernel
theorem dX4_clash_37 : decode cX4_clash 37 = .ok (.invokestatic 67, 3) := by decide +kernel
theorem dX4_clash_40 : decode cX4_clash 40 = .ok (.iload 6, 2) := by decide +kernel
theorem dX4_clash_42 : decode cX4_clash 42 = .ok (.iadd, 1) := by decide +kernel
theorem dX4_clash_43 : decode cX4_clash 43 = .ok (.invokestatic 93, 3) := by decide +kernel
theorem dX4_clash_46 : decode cX4_clash 46 = .ok (.istore 7, 2) := by decide +kernel
theorem dX4_clash_48 : decode cX4_clash 48 = .ok (.iload 5, 2) := by decide +kernel
theorem dX4_clash_50 : decode cX4_clash 50 = .ok (.ifCond .ne 33, 3) := by decide +kernel
theorem dX4_clash_53 : decode cX4_clash 53 = .ok (.iload 7, 2) := by decide +kernel
theorem dX4_clash_55 : decode cX4_clash 55 = .ok (.iconst (-1), 1) := by decide +kernel
theorem dX4_clash_56 : decode cX4_clash 56 = .ok (.if_icmp .eq 31, 3) := by decide +kernel
theorem dX4_clash_59 : decode cX4_clash 59 = .ok (.aload_n 0, 1) := by decide +kernel
theorem dX4_clash_60 : decode cX4_clash 60 = .ok (.iload_n 2, 1) := by decide +kernel
theorem dX4_clash_61 : decode cX4_clash 61 = .ok (.iload 6, 2) := by decide +kernel
theorem dX4_clash_63 : decode cX4_clash 63 = .ok (.iload 4, 2) := by decide +kernel
theorem dX4_clash_65 : decode cX4_clash 65 = .ok (.invokevirtual 96, 3) := by decide +kernel
theorem dX4_clash_68 : decode cX4_clash 68 = .ok (.ifCond .eq 19, 3) := by decide +kernel
theorem dX4_clash_71 : decode cX4_clash 71 = .ok (.aload_n 0, 1) := by decide +kernel
theorem dX4_clash_72 : decode cX4_clash 72 = .ok (.iload_n 3, 1) := by decide +kernel
theorem dX4_clash_73 : decode cX4_clash 73 = .ok (.iload 7, 2) := by decide +kernel
theorem dX4_clash_75 : decode cX4_clash 75 = .ok (.iload 4, 2) := by decide +kernel
theorem dX4_clash_77 : decode cX4_clash 77 = .ok (.invokevirtual 96, 3) := by decide +kernel
theorem dX4_clash_80 : decode cX4_clash 80 = .ok (.ifCond .eq 7, 3) := by decide +kernel
theorem dX4_clash_83 : decode cX4_clash 83 = .ok (.iconst 1, 1) := by decide +kernel
theorem dX4_clash_84 : decode cX4_clash 84 = .ok (.goto 4, 3) := by decide +kernel
theorem dX4_clash_87 : decode cX4_clash 87 = .ok (.iconst 0, 1) := by decide +kernel
theorem dX4_clash_88 : decode cX4_clash 88 = .ok (.istore 5, 2) := by decide +kernel
theorem dX4_clash_90 : decode cX4_clash 90 = .ok (.iinc 6 1, 3) := by decide +kernel
theorem dX4_clash_93 : decode cX4_clash 93 = .ok (.goto (-87), 3) := by decide +kernel
theorem dX4_clash_96 : decode cX4_clash 96 = .ok (.iload 5, 2) := by decide +kernel
theorem dX4_clash_98 : decode cX4_clash 98 = .ok (.ireturn, 1) := by decide +kernel
theorem dX4_clashes_0 : decode cX4_clashes 0 = .ok (.iconst 0, 1) := by decide +kernel
theorem dX4_clashes_1 : decode cX4_clashes 1 = .ok (.istore_n 3, 1) := by decide +kernel
theorem dX4_clashes_2 : decode cX4_clashes 2 = .ok (.iconst 0, 1) := by decide +kernel
theorem dX4_clashes_3 : decode cX4_clashes 3 = .ok (.istore 4, 2) := by decide +kernel
theorem dX4_clashes_5 : decode cX4_clashes 5 = .ok (.iload 4, 2) := by decide +kernel
theorem dX4_clashes_7 : decode cX4_clashes 7 = .ok (.aload_n 1, 1) := by decide +kernel
theorem dX4_clashes_8 : decode cX4_clashes 8 = .ok (.iconst 2, 1) := by decide +kernel
theorem dX4_clashes_9 : decode cX4_clashes 9 = .ok (.iaload, 1) := by decide +kernel
theorem dX4_clashes_10 : decode cX4_clashes 10 = .ok (.if_icmp .ge 46, 3) := by decide +kernel
theorem dX4_clashes_13 : decode cX4_clashes 13 = .ok (.iconst 0, 1) := by decide +kernel
theorem dX4_clashes_14 : decode cX4_clashes 14 = .ok (.istore 5, 2) := by decide +kernel
theorem dX4_clashes_16 : decode cX4_clashes 16 = .ok (.iload 5, 2) := by decide +kernel
theorem dX4_clashes_18 : decode cX4_clashes 18 = .ok (.iload 4, 2) := by decide +kernel
theorem dX4_clashes_20 : decode cX4_clashes 20 = .ok (.if_icmp .ge 30, 3) := by decide +kernel
theorem dX4_clashes_23 : decode cX4_clashes 23 = .ok (.iload_n 3, 1) := by decide +kernel
theorem dX4_clashes_24 : decode cX4_clashes 24 = .ok (.aload_n 0, 1) := by decide +kernel
theorem dX4_clashes_25 : decode cX4_clashes 25 = .ok (.aload_n 1, 1) := by decide +kernel
theorem dX4_clashes_26 : decode cX4_clashes 26 = .ok (.iload 4, 2) := by decide +kernel
theorem dX4_clashes_28 : decode cX4_clashes 28 = .ok (.iload 5, 2) := by decide +kernel
theorem dX4_clashes_30 : decode cX4_clashes 30 = .ok (.iload_n 2, 1) := by decide +kernel
theorem dX4_clashes_31 : decode cX4_clashes 31 = .ok (.invokevirtual 99, 3) := by decide +kernel
theorem dX4_clashes_34 : decode cX4_clashes 34 = .ok (.ifCond .eq 7, 3) := by decide +kernel
theorem dX4_clashes_37 : decode cX4_clashes 37 = .ok (.iconst 1, 1) := by decide +kernel
theorem dX4_clashes_38 : decode cX4_clashes 38 = .ok (.goto 4, 3) := by decide +kernel
theorem dX4_clashes_41 : decode cX4_clashes 41 = .ok (.iconst 0, 1) := by decide +kernel
theorem dX4_clashes_42 : decode cX4_clashes 42 = .ok (.iadd, 1) := by decide +kernel
theorem dX4_clashes_43 : decode cX4_clashes 43 = .ok (.istore_n 3, 1) := by decide +kernel
theorem dX4_clashes_44 : decode cX4_clashes 44 = .ok (.iinc 5 1, 3) := by decide +kernel
theorem dX4_clashes_47 : decode cX4_clashes 47 = .ok (.goto (-31), 3) := by decide +kernel
theorem dX4_clashes_50 : decode cX4_clashes 50 = .ok (.iinc 4 1, 3) := by decide +kernel
theorem dX4_clashes_53 : decode cX4_clashes 53 = .ok (.goto (-48), 3) := by decide +kernel
theorem dX4_clashes_56 : decode cX4_clashes 56 = .ok (.iload_n 3, 1) := by decide +kernel
theorem dX4_clashes_57 : decode cX4_clashes 57 = .ok (.ireturn, 1) := by decide +kernel
theorem dX4_letters_0 : decode cX4_letters 0 = .ok (.iconst 0, 1) := by decide +kernel
theorem dX4_letters_1 : decode cX4_letters 1 = .ok (.istore_n 1, 1) := by decide +kernel
theorem dX4_letters_2 : decode cX4_letters 2 = .ok (.iconst 0, 1) := by decide +kernel
theorem dX4_letters_3 : decode cX4_letters 3 = .ok (.istore_n 2, 1) := by decide +kernel
theorem dX4_letters_4 : decode cX4_letters 4 = .ok (.iload_n 2, 1) := by decide +kernel
theorem dX4_letters_5 : decode cX4_letters 5 = .ok (.aload_n 0, 1) := by decide +kernel
theorem dX4_letters_6 : decode cX4_letters 6 = .ok (.iconst 2, 1) := by decide +kernel
theorem dX4_letters_7 : decode cX4_letters 7 = .ok (.iaload, 1) := by decide +kernel
theorem dX4_letters_8 : decode cX4_letters 8 = .ok (.if_icmp .ge 18, 3) := by decide +kernel
theorem dX4_letters_11 : decode cX4_letters 11 = .ok (.iload_n 1, 1) := by decide +kernel
theorem dX4_letters_12 : decode cX4_letters 12 = .ok (.aload_n 0, 1) := by decide +kernel
theorem dX4_letters_13 : decode cX4_letters 13 = .ok (.iload_n 2, 1) := by decide +kernel
theorem dX4_letters_14 : decode cX4_letters 14 = .ok (.iconst 0, 1) := by decide +kernel
theorem dX4_letters_15 : decode cX4_letters 15 = .ok (.invokestatic 67, 3) := by decide +kernel
theorem dX4_letters_18 : decode cX4_letters 18 = .ok (.iadd, 1) := by decide +kernel
theorem dX4_letters_19 : decode cX4_letters 19 = .ok (.istore_n 1, 1) := by decide +kernel
theorem dX4_letters_20 : decode cX4_letters 20 = .ok (.iinc 2 1, 3) := by decide +kernel
theorem dX4_letters_23 : decode cX4_letters 23 = .ok (.goto (-19), 3) := by decide +kernel
theorem dX4_letters_26 : decode cX4_letters 26 = .ok (.iload_n 1, 1) := by decide +kernel
theorem dX4_letters_27 : decode cX4_letters 27 = .ok (.ireturn, 1) := by decide +kernel
theorem dX4_litOf_0 : decode cX4_litOf 0 = .ok (.iconst 0, 1) := by decide +kernel
theorem dX4_litOf_1 : decode cX4_litOf 1 = .ok (.istore_n 3, 1) := by decide +kernel
theorem dX4_litOf_2 : decode cX4_litOf 2 = .ok (.iconst 0, 1) := by decide +kernel
theorem dX4_litOf_3 : decode cX4_litOf 3 = .ok (.istore 4, 2) := by decide +kernel
theorem dX4_litOf_5 : decode cX4_litOf 5 = .ok (.iload 4, 2) := by decide +kernel
theorem dX4_litOf_7 : decode cX4_litOf 7 = .ok (.aload_n 1, 1) := by decide +kernel
theorem dX4_litOf_8 : decode cX4_litOf 8 = .ok (.iload_n 2, 1) := by decide +kernel
theorem dX4_litOf_9 : decode cX4_litOf 9 = .ok (.iconst 0, 1) := by decide +kernel
theorem dX4_litOf_10 : decode cX4_litOf 10 = .ok (.invokestatic 67, 3) := by decide +kernel
theorem dX4_litOf_13 : decode cX4_litOf 13 = .ok (.if_icmp .ge 33, 3) := by decide +kernel
theorem dX4_litOf_16 : decode cX4_litOf 16 = .ok (.iload_n 3, 1) := by decide +kernel
theorem dX4_litOf_17 : decode cX4_litOf 17 = .ok (.aload_n 0, 1) := by decide +kernel
theorem dX4_litOf_18 : decode cX4_litOf 18 = .ok (.getfield 25, 3) := by decide +kernel
theorem dX4_litOf_21 : decode cX4_litOf 21 = .ok (.bipush 12, 2) := by decide +kernel
theorem dX4_litOf_23 : decode cX4_litOf 23 = .ok (.iload_n 2, 1) := by decide +kernel
theorem dX4_litOf_24 : decode cX4_litOf 24 = .ok (.imul, 1) := by decide +kernel
theorem dX4_litOf_25 : decode cX4_litOf 25 = .ok (.iload 4, 2) := by decide +kernel
theorem dX4_litOf_27 : decode cX4_litOf 27 = .ok (.iadd, 1) := by decide +kernel
theorem dX4_litOf_28 : decode cX4_litOf 28 = .ok (.iaload, 1) := by decide +kernel
theorem dX4_litOf_29 : decode cX4_litOf 29 = .ok (.iconst (-1), 1) := by decide +kernel
theorem dX4_litOf_30 : decode cX4_litOf 30 = .ok (.if_icmp .ne 7, 3) := by decide +kernel
theorem dX4_litOf_33 : decode cX4_litOf 33 = .ok (.iconst 0, 1) := by decide +kernel
theorem dX4_litOf_34 : decode cX4_litOf 34 = .ok (.goto 4, 3) := by decide +kernel
theorem dX4_litOf_37 : decode cX4_litOf 37 = .ok (.iconst 1, 1) := by decide +kernel
theorem dX4_litOf_38 : decode cX4_litOf 38 = .ok (.iadd, 1) := by decide +kernel
theorem dX4_litOf_39 : decode cX4_litOf 39 = .ok (.istore_n 3, 1) := by decide +kernel
theorem dX4_litOf_40 : decode cX4_litOf 40 = .ok (.iinc 4 1, 3) := by decide +kernel
theorem dX4_litOf_43 : decode cX4_litOf 43 = .ok (.goto (-38), 3) := by decide +kernel
theorem dX4_litOf_46 : decode cX4_litOf 46 = .ok (.iload_n 3, 1) := by decide +kernel
theorem dX4_litOf_47 : decode cX4_litOf 47 = .ok (.ireturn, 1) := by decide +kernel
theorem dX4_allLit_0 : decode cX4_allLit 0 = .ok (.iconst 0, 1) := by decide +kernel
theorem dX4_allLit_1 : decode cX4_allLit 1 = .ok (.istore_n 2, 1) := by decide +kernel
theorem dX4_allLit_2 : decode cX4_allLit 2 = .ok (.iconst 0, 1) := by decide +kernel
theorem dX4_allLit_3 : decode cX4_allLit 3 = .ok (.istore_n 3, 1) := by decide +kernel
theorem dX4_allLit_4 : decode cX4_allLit 4 = .ok (.iload_n 3, 1) := by decide +kernel
theorem dX4_allLit_5 : decode cX4_allLit 5 = .ok (.aload_n 1, 1) := by decide +kernel
theorem dX4_allLit_6 : decode cX4_allLit 6 = .ok (.iconst 2, 1) := by decide +kernel
theorem dX4_allLit_7 : decode cX4_allLit 7 = .ok (.iaload, 1) := by decide +kernel
theorem dX4_allLit_8 : decode cX4_allLit 8 = .ok (.if_icmp .ge 18, 3) := by decide +kernel
theorem dX4_allLit_11 : decode cX4_allLit 11 = .ok (.iload_n 2, 1) := by decide +kernel
theorem dX4_allLit_12 : decode cX4_allLit 12 = .ok (.aload_n 0, 1) := by decide +kernel
theorem dX4_allLit_13 : decode cX4_allLit 13 = .ok (.aload_n 1, 1) := by decide +kernel
theorem dX4_allLit_14 : decode cX4_allLit 14 = .ok (.iload_n 3, 1) := by decide +kernel
theorem dX4_allLit_15 : decode cX4_allLit 15 = .ok (.invokevirtual 102, 3) := by decide +kernel
theorem dX4_allLit_18 : decode cX4_allLit 18 = .ok (.iadd, 1) := by decide +kernel
theorem dX4_allLit_19 : decode cX4_allLit 19 = .ok (.istore_n 2, 1) := by decide +kernel
theorem dX4_allLit_20 : decode cX4_allLit 20 = .ok (.iinc 3 1, 3) := by decide +kernel
theorem dX4_allLit_23 : decode cX4_allLit 23 = .ok (.goto (-19), 3) := by decide +kernel
theorem dX4_allLit_26 : decode cX4_allLit 26 = .ok (.iload_n 2, 1) := by decide +kernel
theorem dX4_allLit_27 : decode cX4_allLit 27 = .ok (.ireturn, 1) := by decide +kernel
theorem dX4_wholes_0 : decode cX4_wholes 0 = .ok (.iconst 0, 1) := by decide +kernel
theorem dX4_wholes_1 : decode cX4_wholes 1 = .ok (.istore_n 2, 1) := by decide +kernel
theorem dX4_wholes_2 : decode cX4_wholes 2 = .ok (.iconst 0, 1) := by decide +kernel
theorem dX4_wholes_3 : decode cX4_wholes 3 = .ok (.istore_n 3, 1) := by decide +kernel
theorem dX4_wholes_4 : decode cX4_wholes 4 = .ok (.iload_n 3, 1) := by decide +kernel
theorem dX4_wholes_5 : decode cX4_wholes 5 = .ok (.aload_n 1, 1) := by decide +kernel
theorem dX4_wholes_6 : decode cX4_wholes 6 = .ok (.iconst 2, 1) := by decide +kernel
theorem dX4_wholes_7 : decode cX4_wholes 7 = .ok (.iaload, 1) := by decide +kernel
theorem dX4_wholes_8 : decode cX4_wholes 8 = .ok (.if_icmp .ge 27, 3) := by decide +kernel
theorem dX4_wholes_11 : decode cX4_wholes 11 = .ok (.iload_n 2, 1) := by decide +kernel
theorem dX4_wholes_12 : decode cX4_wholes 12 = .ok (.aload_n 0, 1) := by decide +kernel
theorem dX4_wholes_13 : decode cX4_wholes 13 = .ok (.getfield 28, 3) := by decide +kernel
theorem dX4_wholes_16 : decode cX4_wholes 16 = .ok (.iload_n 3, 1) := by decide +kernel
theorem dX4_wholes_17 : decode cX4_wholes 17 = .ok (.iaload, 1) := by decide +kernel
theorem dX4_wholes_18 : decode cX4_wholes 18 = .ok (.iconst (-1), 1) := by decide +kernel
theorem dX4_wholes_19 : decode cX4_wholes 19 = .ok (.if_icmp .ne 7, 3) := by decide +kernel
theorem dX4_wholes_22 : decode cX4_wholes 22 = .ok (.iconst 0, 1) := by decide +kernel
theorem dX4_wholes_23 : decode cX4_wholes 23 = .ok (.goto 4, 3) := by decide +kernel
theorem dX4_wholes_26 : decode cX4_wholes 26 = .ok (.iconst 1, 1) := by decide +kernel
theorem dX4_wholes_27 : decode cX4_wholes 27 = .ok (.iadd, 1) := by decide +kernel
theorem dX4_wholes_28 : decode cX4_wholes 28 = .ok (.istore_n 2, 1) := by decide +kernel
theorem dX4_wholes_29 : decode cX4_wholes 29 = .ok (.iinc 3 1, 3) := by decide +kernel
theorem dX4_wholes_32 : decode cX4_wholes 32 = .ok (.goto (-28), 3) := by decide +kernel
theorem dX4_wholes_35 : decode cX4_wholes 35 = .ok (.iload_n 2, 1) := by decide +kernel
theorem dX4_wholes_36 : decode cX4_wholes 36 = .ok (.ireturn, 1) := by decide +kernel
theorem dX4_clashing_0 : decode cX4_clashing 0 = .ok (.iconst 0, 1) := by decide +kernel
theorem dX4_clashing_1 : decode cX4_clashing 1 = .ok (.istore_n 2, 1) := by decide +kernel
theorem dX4_clashing_2 : decode cX4_clashing 2 = .ok (.iconst 0, 1) := by decide +kernel
theorem dX4_clashing_3 : decode cX4_clashing 3 = .ok (.istore_n 3, 1) := by decide +kernel
theorem dX4_clashing_4 : decode cX4_clashing 4 = .ok (.iload_n 3, 1) := by decide +kernel
theorem dX4_clashing_5 : decode cX4_clashing 5 = .ok (.sipush 200, 3) := by decide +kernel
theorem dX4_clashing_8 : decode cX4_clashing 8 = .ok (.if_icmp .ge 26, 3) := by decide +kernel
theorem dX4_clashing_11 : decode cX4_clashing 11 = .ok (.iload_n 2, 1) := by decide +kernel
theorem dX4_clashing_12 : decode cX4_clashing 12 = .ok (.aload_n 0, 1) := by decide +kernel
theorem dX4_clashing_13 : decode cX4_clashing 13 = .ok (.aload_n 1, 1) := by decide +kernel
theorem dX4_clashing_14 : decode cX4_clashing 14 = .ok (.iload_n 3, 1) := by decide +kernel
theorem dX4_clashing_15 : decode cX4_clashing 15 = .ok (.invokevirtual 105, 3) := by decide +kernel
theorem dX4_clashing_18 : decode cX4_clashing 18 = .ok (.ifCond .le 7, 3) := by decide +kernel
theorem dX4_clashing_21 : decode cX4_clashing 21 = .ok (.iconst 1, 1) := by decide +kernel
theorem dX4_clashing_22 : decode cX4_clashing 22 = .ok (.goto 4, 3) := by decide +kernel
theorem dX4_clashing_25 : decode cX4_clashing 25 = .ok (.iconst 0, 1) := by decide +kernel
theorem dX4_clashing_26 : decode cX4_clashing 26 = .ok (.iadd, 1) := by decide +kernel
theorem dX4_clashing_27 : decode cX4_clashing 27 = .ok (.istore_n 2, 1) := by decide +kernel
theorem dX4_clashing_28 : decode cX4_clashing 28 = .ok (.iinc 3 1, 3) := by decide +kernel
theorem dX4_clashing_31 : decode cX4_clashing 31 = .ok (.goto (-27), 3) := by decide +kernel
theorem dX4_clashing_34 : decode cX4_clashing 34 = .ok (.iload_n 2, 1) := by decide +kernel
theorem dX4_clashing_35 : decode cX4_clashing 35 = .ok (.ireturn, 1) := by decide +kernel
theorem dX4_mayWord_0 : decode cX4_mayWord 0 = .ok (.iload_n 1, 1) := by decide +kernel
theorem dX4_mayWord_1 : decode cX4_mayWord 1 = .ok (.iconst 1, 1) := by decide +kernel
theorem dX4_mayWord_2 : decode cX4_mayWord 2 = .ok (.bipush 12, 2) := by decide +kernel
theorem dX4_mayWord_4 : decode cX4_mayWord 4 = .ok (.invokestatic 41, 3) := by decide +kernel
theorem dX4_mayWord_7 : decode cX4_mayWord 7 = .ok (.ifCond .eq 36, 3) := by decide +kernel
theorem dX4_mayWord_10 : decode cX4_mayWord 10 = .ok (.iload_n 2, 1) := by decide +kernel
theorem dX4_mayWord_11 : decode cX4_mayWord 11 = .ok (.iconst 0, 1) := by decide +kernel
theorem dX4_mayWord_12 : decode cX4_mayWord 12 = .ok (.bipush 7, 2) := by decide +kernel
theorem dX4_mayWord_14 : decode cX4_mayWord 14 = .ok (.invokestatic 41, 3) := by decide +kernel
theorem dX4_mayWord_17 : decode cX4_mayWord 17 = .ok (.ifCond .eq 26, 3) := by decide +kernel
theorem dX4_mayWord_20 : decode cX4_mayWord 20 = .ok (.iload_n 3, 1) := by decide +kernel
theorem dX4_mayWord_21 : decode cX4_mayWord 21 = .ok (.invokestatic 108, 3) := by decide +kernel
theorem dX4_mayWord_24 : decode cX4_mayWord 24 = .ok (.ifCond .eq 19, 3) := by decide +kernel
theorem dX4_mayWord_27 : decode cX4_mayWord 27 = .ok (.iload 4, 2) := by decide +kernel
theorem dX4_mayWord_29 : decode cX4_mayWord 29 = .ok (.invokestatic 112, 3) := by decide +kernel
theorem dX4_mayWord_32 : decode cX4_mayWord 32 = .ok (.ifCond .eq 11, 3) := by decide +kernel
theorem dX4_mayWord_35 : decode cX4_mayWord 35 = .ok (.iload_n 3, 1) := by decide +kernel
theorem dX4_mayWord_36 : decode cX4_mayWord 36 = .ok (.iload_n 1, 1) := by decide +kernel
theorem dX4_mayWord_37 : decode cX4_mayWord 37 = .ok (.iadd, 1) := by decide +kernel
theorem dX4_mayWord_38 : decode cX4_mayWord 38 = .ok (.bipush 60, 2) := by decide +kernel
theorem dX4_mayWord_40 : decode cX4_mayWord 40 = .ok (.if_icmp .le 5, 3) := by decide +kernel
theorem dX4_mayWord_43 : decode cX4_mayWord 43 = .ok (.iconst 1, 1) := by decide +kernel
theorem dX4_mayWord_44 : decode cX4_mayWord 44 = .ok (.ireturn, 1) := by decide +kernel
theorem dX4_mayWord_45 : decode cX4_mayWord 45 = .ok (.aload_n 0, 1) := by decide +kernel
theorem dX4_mayWord_46 : decode cX4_mayWord 46 = .ok (.getfield 7, 3) := by decide +kernel
theorem dX4_mayWord_49 : decode cX4_mayWord 49 = .ok (.iconst 2, 1) := by decide +kernel
theorem dX4_mayWord_50 : decode cX4_mayWord 50 = .ok (.iaload, 1) := by decide +kernel
theorem dX4_mayWord_51 : decode cX4_mayWord 51 = .ok (.bipush 8, 2) := by decide +kernel
theorem dX4_mayWord_53 : decode cX4_mayWord 53 = .ok (.if_icmp .ne 7, 3) := by decide +kernel
theorem dX4_mayWord_56 : decode cX4_mayWord 56 = .ok (.iconst 2, 1) := by decide +kernel
theorem dX4_mayWord_57 : decode cX4_mayWord 57 = .ok (.goto 4, 3) := by decide +kernel
theorem dX4_mayWord_60 : decode cX4_mayWord 60 = .ok (.iconst 0, 1) := by decide +kernel
theorem dX4_mayWord_61 : decode cX4_mayWord 61 = .ok (.ireturn, 1) := by decide +kernel
theorem dX4_words_0 : decode cX4_words 0 = .ok (.iconst 4, 1) := by decide +kernel
theorem dX4_words_1 : decode cX4_words 1 = .ok (.bipush 6, 2) := by decide +kernel
theorem dX4_words_3 : decode cX4_words 3 = .ok (.aload_n 0, 1) := by decide +kernel
theorem dX4_words_4 : decode cX4_words 4 = .ok (.getfield 7, 3) := by decide +kernel
theorem dX4_words_7 : decode cX4_words 7 = .ok (.iconst 2, 1) := by decide +kernel
theorem dX4_words_8 : decode cX4_words 8 = .ok (.iaload, 1) := by decide +kernel
theorem dX4_words_9 : decode cX4_words 9 = .ok (.imul, 1) := by decide +kernel
theorem dX4_words_10 : decode cX4_words 10 = .ok (.iadd, 1) := by decide +kernel
theorem dX4_words_11 : decode cX4_words 11 = .ok (.istore 5, 2) := by decide +kernel
theorem dX4_words_13 : decode cX4_words 13 = .ok (.aload_n 0, 1) := by decide +kernel
theorem dX4_words_14 : decode cX4_words 14 = .ok (.getfield 7, 3) := by decide +kernel
theorem dX4_words_17 : decode cX4_words 17 = .ok (.iload 5, 2) := by decide +kernel
theorem dX4_words_19 : decode cX4_words 19 = .ok (.iload_n 1, 1) := by decide +kernel
theorem dX4_words_20 : decode cX4_words 20 = .ok (.iastore, 1) := by decide +kernel
theorem dX4_words_21 : decode cX4_words 21 = .ok (.aload_n 0, 1) := by decide +kernel
theorem dX4_words_22 : decode cX4_words 22 = .ok (.getfield 7, 3) := by decide +kernel
theorem dX4_words_25 : decode cX4_words 25 = .ok (.iload 5, 2) := by decide +kernel
theorem dX4_words_27 : decode cX4_words 27 = .ok (.iconst 1, 1) := by decide +kernel
theorem dX4_words_28 : decode cX4_words 28 = .ok (.iadd, 1) := by decide +kernel
theorem dX4_words_29 : decode cX4_words 29 = .ok (.iload_n 2, 1) := by decide +kernel
theorem dX4_words_30 : decode cX4_words 30 = .ok (.iastore, 1) := by decide +kernel
theorem dX4_words_31 : decode cX4_words 31 = .ok (.aload_n 0, 1) := by decide +kernel
theorem dX4_words_32 : decode cX4_words 32 = .ok (.getfield 7, 3) := by decide +kernel
theorem dX4_words_35 : decode cX4_words 35 = .ok (.iload 5, 2) := by decide +kernel
theorem dX4_words_37 : decode cX4_words 37 = .ok (.iconst 2, 1) := by decide +kernel
theorem dX4_words_38 : decode cX4_words 38 = .ok (.iadd, 1) := by decide +kernel
theorem dX4_words_39 : decode cX4_words 39 = .ok (.iload_n 3, 1) := by decide +kernel
theorem dX4_words_40 : decode cX4_words 40 = .ok (.iastore, 1) := by decide +kernel
theorem dX4_words_41 : decode cX4_words 41 = .ok (.aload_n 0, 1) := by decide +kernel
theorem dX4_words_42 : decode cX4_words 42 = .ok (.getfield 7, 3) := by decide +kernel
theorem dX4_words_45 : decode cX4_words 45 = .ok (.iload 5, 2) := by decide +kernel
theorem dX4_words_47 : decode cX4_words 47 = .ok (.iconst 3, 1) := by decide +kernel
theorem dX4_words_48 : decode cX4_words 48 = .ok (.iadd, 1) := by decide +kernel
theorem dX4_words_49 : decode cX4_words 49 = .ok (.iload 4, 2) := by decide +kernel
theorem dX4_words_51 : decode cX4_words 51 = .ok (.iastore, 1) := by decide +kernel
theorem dX4_words_52 : decode cX4_words 52 = .ok (.aload_n 0, 1) := by decide +kernel
theorem dX4_words_53 : decode cX4_words 53 = .ok (.getfield 7, 3) := by decide +kernel
theorem dX4_words_56 : decode cX4_words 56 = .ok (.iload 5, 2) := by decide +kernel
theorem dX4_words_58 : decode cX4_words 58 = .ok (.iconst 4, 1) := by decide +kernel
theorem dX4_words_59 : decode cX4_words 59 = .ok (.iadd, 1) := by decide +kernel
theorem dX4_words_60 : decode cX4_words 60 = .ok (.iconst 0, 1) := by decide +kernel
theorem dX4_words_61 : decode cX4_words 61 = .ok (.iastore, 1) := by decide +kernel
theorem dX4_words_62 : decode cX4_words 62 = .ok (.aload_n 0, 1) := by decide +kernel
theorem dX4_words_63 : decode cX4_words 63 = .ok (.getfield 7, 3) := by decide +kernel
theorem dX4_words_66 : decode cX4_words 66 = .ok (.iload 5, 2) := by decide +kernel
theorem dX4_words_68 : decode cX4_words 68 = .ok (.iconst 5, 1) := by decide +kernel
theorem dX4_words_69 : decode cX4_words 69 = .ok (.iadd, 1) := by decide +kernel
theorem dX4_words_70 : decode cX4_words 70 = .ok (.iconst 4, 1) := by decide +kernel
theorem dX4_words_71 : decode cX4_words 71 = .ok (.iastore, 1) := by decide +kernel
theorem dX4_words_72 : decode cX4_words 72 = .ok (.aload_n 0, 1) := by decide +kernel
theorem dX4_words_73 : decode cX4_words 73 = .ok (.getfield 7, 3) := by decide +kernel
theorem dX4_words_76 : decode cX4_words 76 = .ok (.iconst 2, 1) := by decide +kernel
theorem dX4_words_77 : decode cX4_words 77 = .ok (.dup2, 1) := by decide +kernel
theorem dX4_words_78 : decode cX4_words 78 = .ok (.iaload, 1) := by decide +kernel
theorem dX4_words_79 : decode cX4_words 79 = .ok (.iconst 1, 1) := by decide +kernel
theorem dX4_words_80 : decode cX4_words 80 = .ok (.iadd, 1) := by decide +kernel
theorem dX4_words_81 : decode cX4_words 81 = .ok (.iastore, 1) := by decide +kernel
theorem dX4_words_82 : decode cX4_words 82 = .ok (.aload_n 0, 1) := by decide +kernel
theorem dX4_words_83 : decode cX4_words 83 = .ok (.getfield 7, 3) := by decide +kernel
theorem dX4_words_86 : decode cX4_words 86 = .ok (.iconst 2, 1) := by decide +kernel
theorem dX4_words_87 : decode cX4_words 87 = .ok (.iaload, 1) := by decide +kernel
theorem dX4_words_88 : decode cX4_words 88 = .ok (.iconst 1, 1) := by decide +kernel
theorem dX4_words_89 : decode cX4_words 89 = .ok (.isub, 1) := by decide +kernel
theorem dX4_words_90 : decode cX4_words 90 = .ok (.ireturn, 1) := by decide +kernel
theorem dX4_word_0 : decode cX4_word 0 = .ok (.aload_n 0, 1) := by decide +kernel
theorem dX4_word_1 : decode cX4_word 1 = .ok (.aload_n 0, 1) := by decide +kernel
theorem dX4_word_2 : decode cX4_word 2 = .ok (.iload_n 1, 1) := by decide +kernel
theorem dX4_word_3 : decode cX4_word 3 = .ok (.iload_n 2, 1) := by decide +kernel
theorem dX4_word_4 : decode cX4_word 4 = .ok (.iload_n 3, 1) := by decide +kernel
theorem dX4_word_5 : decode cX4_word 5 = .ok (.iload 4, 2) := by decide +kernel
theorem dX4_word_7 : decode cX4_word 7 = .ok (.invokevirtual 115, 3) := by decide +kernel
theorem dX4_word_10 : decode cX4_word 10 = .ok (.putfield 37, 3) := by decide +kernel
theorem dX4_word_13 : decode cX4_word 13 = .ok (.aload_n 0, 1) := by decide +kernel
theorem dX4_word_14 : decode cX4_word 14 = .ok (.getfield 37, 3) := by decide +kernel
theorem dX4_word_17 : decode cX4_word 17 = .ok (.ifCond .eq 5, 3) := by decide +kernel
theorem dX4_word_20 : decode cX4_word 20 = .ok (.iconst 0, 1) := by decide +kernel
theorem dX4_word_21 : decode cX4_word 21 = .ok (.ireturn, 1) := by decide +kernel
theorem dX4_word_22 : decode cX4_word 22 = .ok (.aload_n 0, 1) := by decide +kernel
theorem dX4_word_23 : decode cX4_word 23 = .ok (.invokevirtual 119, 3) := by decide +kernel
theorem dX4_word_26 : decode cX4_word 26 = .ok (.aload_n 0, 1) := by decide +kernel
theorem dX4_word_27 : decode cX4_word 27 = .ok (.iload_n 1, 1) := by decide +kernel
theorem dX4_word_28 : decode cX4_word 28 = .ok (.iload_n 2, 1) := by decide +kernel
theorem dX4_word_29 : decode cX4_word 29 = .ok (.iload_n 3, 1) := by decide +kernel
theorem dX4_word_30 : decode cX4_word 30 = .ok (.iload 4, 2) := by decide +kernel
theorem dX4_word_32 : decode cX4_word 32 = .ok (.invokevirtual 122, 3) := by decide +kernel
theorem dX4_word_35 : decode cX4_word 35 = .ok (.ireturn, 1) := by decide +kernel
theorem dX4_changes_0 : decode cX4_changes 0 = .ok (.aload_n 0, 1) := by decide +kernel
theorem dX4_changes_1 : decode cX4_changes 1 = .ok (.getfield 7, 3) := by decide +kernel
theorem dX4_changes_4 : decode cX4_changes 4 = .ok (.iload_n 1, 1) := by decide +kernel
theorem dX4_changes_5 : decode cX4_changes 5 = .ok (.iaload, 1) := by decide +kernel
theorem dX4_changes_6 : decode cX4_changes 6 = .ok (.istore_n 3, 1) := by decide +kernel
theorem dX4_changes_7 : decode cX4_changes 7 = .ok (.aload_n 0, 1) := by decide +kernel
theorem dX4_changes_8 : decode cX4_changes 8 = .ok (.getfield 7, 3) := by decide +kernel
theorem dX4_changes_11 : decode cX4_changes 11 = .ok (.iload_n 1, 1) := by decide +kernel
theorem dX4_changes_12 : decode cX4_changes 12 = .ok (.iload_n 2, 1) := by decide +kernel
theorem dX4_changes_13 : decode cX4_changes 13 = .ok (.iastore, 1) := by decide +kernel
theorem dX4_changes_14 : decode cX4_changes 14 = .ok (.iload_n 3, 1) := by decide +kernel
theorem dX4_changes_15 : decode cX4_changes 15 = .ok (.ireturn, 1) := by decide +kernel
theorem dX4_rule_0 : decode cX4_rule 0 = .ok (.aload_n 0, 1) := by decide +kernel
theorem dX4_rule_1 : decode cX4_rule 1 = .ok (.iconst 0, 1) := by decide +kernel
theorem dX4_rule_2 : decode cX4_rule 2 = .ok (.putfield 37, 3) := by decide +kernel
theorem dX4_rule_5 : decode cX4_rule 5 = .ok (.aload_n 0, 1) := by decide +kernel
theorem dX4_rule_6 : decode cX4_rule 6 = .ok (.iload_n 1, 1) := by decide +kernel
theorem dX4_rule_7 : decode cX4_rule 7 = .ok (.invokevirtual 125, 3) := by decide +kernel
theorem dX4_rule_10 : decode cX4_rule 10 = .ok (.ifCond .ne 9, 3) := by decide +kernel
theorem dX4_rule_13 : decode cX4_rule 13 = .ok (.aload_n 0, 1) := by decide +kernel
theorem dX4_rule_14 : decode cX4_rule 14 = .ok (.iconst 1, 1) := by decide +kernel
theorem dX4_rule_15 : decode cX4_rule 15 = .ok (.invokevirtual 56, 3) := by decide +kernel
theorem dX4_rule_18 : decode cX4_rule 18 = .ok (.ireturn, 1) := by decide +kernel
theorem dX4_rule_19 : decode cX4_rule 19 = .ok (.iload_n 2, 1) := by decide +kernel
theorem dX4_rule_20 : decode cX4_rule 20 = .ok (.iconst 0, 1) := by decide +kernel
theorem dX4_rule_21 : decode cX4_rule 21 = .ok (.iconst 2, 1) := by decide +kernel
theorem dX4_rule_22 : decode cX4_rule 22 = .ok (.invokestatic 41, 3) := by decide +kernel
theorem dX4_rule_25 : decode cX4_rule 25 = .ok (.ifCond .eq 13, 3) := by decide +kernel
theorem dX4_rule_28 : decode cX4_rule 28 = .ok (.iload_n 3, 1) := by decide +kernel
theorem dX4_rule_29 : decode cX4_rule 29 = .ok (.iconst 0, 1) := by decide +kernel
theorem dX4_rule_30 : decode cX4_rule 30 = .ok (.bipush 50, 2) := by decide +kernel
theorem dX4_rule_32 : decode cX4_rule 32 = .ok (.invokestatic 41, 3) := by decide +kernel
theorem dX4_rule_35 : decode cX4_rule 35 = .ok (.ifCond .ne 9, 3) := by decide +kernel
theorem dX4_rule_38 : decode cX4_rule 38 = .ok (.aload_n 0, 1) := by decide +kernel
theorem dX4_rule_39 : decode cX4_rule 39 = .ok (.iconst 2, 1) := by decide +kernel
theorem dX4_rule_40 : decode cX4_rule 40 = .ok (.invokevirtual 56, 3) := by decide +kernel
theorem dX4_rule_43 : decode cX4_rule 43 = .ok (.ireturn, 1) := by decide +kernel
theorem dX4_rule_44 : decode cX4_rule 44 = .ok (.aload_n 0, 1) := by decide +kernel
theorem dX4_rule_45 : decode cX4_rule 45 = .ok (.invokevirtual 119, 3) := by decide +kernel
theorem dX4_rule_48 : decode cX4_rule 48 = .ok (.aload_n 0, 1) := by decide +kernel
theorem dX4_rule_49 : decode cX4_rule 49 = .ok (.iconst 4, 1) := by decide +kernel
theorem dX4_rule_50 : decode cX4_rule 50 = .ok (.bipush 6, 2) := by decide +kernel
theorem dX4_rule_52 : decode cX4_rule 52 = .ok (.iload_n 1, 1) := by decide +kernel
theorem dX4_rule_53 : decode cX4_rule 53 = .ok (.imul, 1) := by decide +kernel
theorem dX4_rule_54 : decode cX4_rule 54 = .ok (.iadd, 1) := by decide +kernel
theorem dX4_rule_55 : decode cX4_rule 55 = .ok (.iconst 5, 1) := by decide +kernel
theorem dX4_rule_56 : decode cX4_rule 56 = .ok (.iadd, 1) := by decide +kernel
theorem dX4_rule_57 : decode cX4_rule 57 = .ok (.iload_n 3, 1) := by decide +kernel
theorem dX4_rule_58 : decode cX4_rule 58 = .ok (.invokevirtual 128, 3) := by decide +kernel
theorem dX4_rule_61 : decode cX4_rule 61 = .ok (.pop, 1) := by decide +kernel
theorem dX4_rule_62 : decode cX4_rule 62 = .ok (.aload_n 0, 1) := by decide +kernel
theorem dX4_rule_63 : decode cX4_rule 63 = .ok (.iconst 4, 1) := by decide +kernel
theorem dX4_rule_64 : decode cX4_rule 64 = .ok (.bipush 6, 2) := by decide +kernel
theorem dX4_rule_66 : decode cX4_rule 66 = .ok (.iload_n 1, 1) := by decide +kernel
theorem dX4_rule_67 : decode cX4_rule 67 = .ok (.imul, 1) := by decide +kernel
theorem dX4_rule_68 : decode cX4_rule 68 = .ok (.iadd, 1) := by decide +kernel
theorem dX4_rule_69 : decode cX4_rule 69 = .ok (.iconst 4, 1) := by decide +kernel
theorem dX4_rule_70 : decode cX4_rule 70 = .ok (.iadd, 1) := by decide +kernel
theorem dX4_rule_71 : decode cX4_rule 71 = .ok (.iload_n 2, 1) := by decide +kernel
theorem dX4_rule_72 : decode cX4_rule 72 = .ok (.invokevirtual 128, 3) := by decide +kernel
theorem dX4_rule_75 : decode cX4_rule 75 = .ok (.ireturn, 1) := by decide +kernel
theorem dX4_cue_0 : decode cX4_cue 0 = .ok (.aload_n 0, 1) := by decide +kernel
theorem dX4_cue_1 : decode cX4_cue 1 = .ok (.iconst 0, 1) := by decide +kernel
theorem dX4_cue_2 : decode cX4_cue 2 = .ok (.putfield 37, 3) := by decide +kernel
theorem dX4_cue_5 : decode cX4_cue 5 = .ok (.aload_n 0, 1) := by decide +kernel
theorem dX4_cue_6 : decode cX4_cue 6 = .ok (.iload_n 1, 1) := by decide +kernel
theorem dX4_cue_7 : decode cX4_cue 7 = .ok (.invokevirtual 125, 3) := by decide +kernel
theorem dX4_cue_10 : decode cX4_cue 10 = .ok (.ifCond .ne 9, 3) := by decide +kernel
theorem dX4_cue_13 : decode cX4_cue 13 = .ok (.aload_n 0, 1) := by decide +kernel
theorem dX4_cue_14 : decode cX4_cue 14 = .ok (.iconst 1, 1) := by decide +kernel
theorem dX4_cue_15 : decode cX4_cue 15 = .ok (.invokevirtual 56, 3) := by decide +kernel
theorem dX4_cue_18 : decode cX4_cue 18 = .ok (.ireturn, 1) := by decide +kernel
theorem dX4_cue_19 : decode cX4_cue 19 = .ok (.iload_n 2, 1) := by decide +kernel
theorem dX4_cue_20 : decode cX4_cue 20 = .ok (.invokestatic 112, 3) := by decide +kernel
theorem dX4_cue_23 : decode cX4_cue 23 = .ok (.ifCond .ne 9, 3) := by decide +kernel
theorem dX4_cue_26 : decode cX4_cue 26 = .ok (.aload_n 0, 1) := by decide +kernel
theorem dX4_cue_27 : decode cX4_cue 27 = .ok (.iconst 2, 1) := by decide +kernel
theorem dX4_cue_28 : decode cX4_cue 28 = .ok (.invokevirtual 56, 3) := by decide +kernel
theorem dX4_cue_31 : decode cX4_cue 31 = .ok (.ireturn, 1) := by decide +kernel
theorem dX4_cue_32 : decode cX4_cue 32 = .ok (.aload_n 0, 1) := by decide +kernel
theorem dX4_cue_33 : decode cX4_cue 33 = .ok (.invokevirtual 119, 3) := by decide +kernel
theorem dX4_cue_36 : decode cX4_cue 36 = .ok (.aload_n 0, 1) := by decide +kernel
theorem dX4_cue_37 : decode cX4_cue 37 = .ok (.iconst 4, 1) := by decide +kernel
theorem dX4_cue_38 : decode cX4_cue 38 = .ok (.bipush 6, 2) := by decide +kernel
theorem dX4_cue_40 : decode cX4_cue 40 = .ok (.iload_n 1, 1) := by decide +kernel
theorem dX4_cue_41 : decode cX4_cue 41 = .ok (.imul, 1) := by decide +kernel
theorem dX4_cue_42 : decode cX4_cue 42 = .ok (.iadd, 1) := by decide +kernel
theorem dX4_cue_43 : decode cX4_cue 43 = .ok (.iconst 3, 1) := by decide +kernel
theorem dX4_cue_44 : decode cX4_cue 44 = .ok (.iadd, 1) := by decide +kernel
theorem dX4_cue_45 : decode cX4_cue 45 = .ok (.iload_n 2, 1) := by decide +kernel
theorem dX4_cue_46 : decode cX4_cue 46 = .ok (.invokevirtual 128, 3) := by decide +kernel
theorem dX4_cue_49 : decode cX4_cue 49 = .ok (.ireturn, 1) := by decide +kernel
theorem dX4_removeWord_0 : decode cX4_removeWord 0 = .ok (.aload_n 0, 1) := by decide +kernel
theorem dX4_removeWord_1 : decode cX4_removeWord 1 = .ok (.iconst 0, 1) := by decide +kernel
theorem dX4_removeWord_2 : decode cX4_removeWord 2 = .ok (.putfield 37, 3) := by decide +kernel
theorem dX4_removeWord_5 : decode cX4_removeWord 5 = .ok (.aload_n 0, 1) := by decide +kernel
theorem dX4_removeWord_6 : decode cX4_removeWord 6 = .ok (.iload_n 1, 1) := by decide +kernel
theorem dX4_removeWord_7 : decode cX4_removeWord 7 = .ok (.invokevirtual 125, 3) := by decide +kernel
theorem dX4_removeWord_10 : decode cX4_removeWord 10 = .ok (.ifCond .ne 9, 3) := by decide +kernel
theorem dX4_removeWord_13 : decode cX4_removeWord 13 = .ok (.aload_n 0, 1) := by decide +kernel
theorem dX4_removeWord_14 : decode cX4_removeWord 14 = .ok (.iconst 1, 1) := by decide +kernel
theorem dX4_removeWord_15 : decode cX4_removeWord 15 = .ok (.invokevirtual 56, 3) := by decide +kernel
theorem dX4_removeWord_18 : decode cX4_removeWord 18 = .ok (.ireturn, 1) := by decide +kernel
theorem dX4_removeWord_19 : decode cX4_removeWord 19 = .ok (.aload_n 0, 1) := by decide +kernel
theorem dX4_removeWord_20 : decode cX4_removeWord 20 = .ok (.invokevirtual 119, 3) := by decide +kernel
theorem dX4_removeWord_23 : decode cX4_removeWord 23 = .ok (.aload_n 0, 1) := by decide +kernel
theorem dX4_removeWord_24 : decode cX4_removeWord 24 = .ok (.getfield 7, 3) := by decide +kernel
theorem dX4_removeWord_27 : decode cX4_removeWord 27 = .ok (.iconst 2, 1) := by decide +kernel
theorem dX4_removeWord_28 : decode cX4_removeWord 28 = .ok (.dup2, 1) := by decide +kernel
theorem dX4_removeWord_29 : decode cX4_removeWord 29 = .ok (.iaload, 1) := by decide +kernel
theorem dX4_removeWord_30 : decode cX4_removeWord 30 = .ok (.iconst 1, 1) := by decide +kernel
theorem dX4_removeWord_31 : decode cX4_removeWord 31 = .ok (.isub, 1) := by decide +kernel
theorem dX4_removeWord_32 : decode cX4_removeWord 32 = .ok (.iastore, 1) := by decide +kernel
theorem dX4_removeWord_33 : decode cX4_removeWord 33 = .ok (.iconst 4, 1) := by decide +kernel
theorem dX4_removeWord_34 : decode cX4_removeWord 34 = .ok (.bipush 6, 2) := by decide +kernel
theorem dX4_removeWord_36 : decode cX4_removeWord 36 = .ok (.iload_n 1, 1) := by decide +kernel
theorem dX4_removeWord_37 : decode cX4_removeWord 37 = .ok (.imul, 1) := by decide +kernel
theorem dX4_removeWord_38 : decode cX4_removeWord 38 = .ok (.iadd, 1) := by decide +kernel
theorem dX4_removeWord_39 : decode cX4_removeWord 39 = .ok (.istore_n 2, 1) := by decide +kernel
theorem dX4_removeWord_40 : decode cX4_removeWord 40 = .ok (.iload_n 2, 1) := by decide +kernel
theorem dX4_removeWord_41 : decode cX4_removeWord 41 = .ok (.iconst 4, 1) := by decide +kernel
theorem dX4_removeWord_42 : decode cX4_removeWord 42 = .ok (.bipush 6, 2) := by decide +kernel
theorem dX4_removeWord_44 : decode cX4_removeWord 44 = .ok (.aload_n 0, 1) := by decide +kernel
theorem dX4_removeWord_45 : decode cX4_removeWord 45 = .ok (.getfield 7, 3) := by decide +kernel
theorem dX4_removeWord_48 : decode cX4_removeWord 48 = .ok (.iconst 2, 1) := by decide +kernel
theorem dX4_removeWord_49 : decode cX4_removeWord 49 = .ok (.iaload, 1) := by decide +kernel
theorem dX4_removeWord_50 : decode cX4_removeWord 50 = .ok (.imul, 1) := by decide +kernel
theorem dX4_removeWord_51 : decode cX4_removeWord 51 = .ok (.iadd, 1) := by decide +kernel
theorem dX4_removeWord_52 : decode cX4_removeWord 52 = .ok (.if_icmp .ge 24, 3) := by decide +kernel
theorem dX4_removeWord_55 : decode cX4_removeWord 55 = .ok (.aload_n 0, 1) := by decide +kernel
theorem dX4_removeWord_56 : decode cX4_removeWord 56 = .ok (.getfield 7, 3) := by decide +kernel
theorem dX4_removeWord_59 : decode cX4_removeWord 59 = .ok (.iload_n 2, 1) := by decide +kernel
theorem dX4_removeWord_60 : decode cX4_removeWord 60 = .ok (.aload_n 0, 1) := by decide +kernel
theorem dX4_removeWord_61 : decode cX4_removeWord 61 = .ok (.getfield 7, 3) := by decide +kernel
theorem dX4_removeWord_64 : decode cX4_removeWord 64 = .ok (.iload_n 2, 1) := by decide +kernel
theorem dX4_removeWord_65 : decode cX4_removeWord 65 = .ok (.bipush 6, 2) := by decide +kernel
theorem dX4_removeWord_67 : decode cX4_removeWord 67 = .ok (.iadd, 1) := by decide +kernel
theorem dX4_removeWord_68 : decode cX4_removeWord 68 = .ok (.iaload, 1) := by decide +kernel
theorem dX4_removeWord_69 : decode cX4_removeWord 69 = .ok (.iastore, 1) := by decide +kernel
theorem dX4_removeWord_70 : decode cX4_removeWord 70 = .ok (.iinc 2 1, 3) := by decide +kernel
theorem dX4_removeWord_73 : decode cX4_removeWord 73 = .ok (.goto (-33), 3) := by decide +kernel
theorem dX4_removeWord_76 : decode cX4_removeWord 76 = .ok (.aload_n 0, 1) := by decide +kernel
theorem dX4_removeWord_77 : decode cX4_removeWord 77 = .ok (.getfield 7, 3) := by decide +kernel
theorem dX4_removeWord_80 : decode cX4_removeWord 80 = .ok (.iconst 2, 1) := by decide +kernel
theorem dX4_removeWord_81 : decode cX4_removeWord 81 = .ok (.iaload, 1) := by decide +kernel
theorem dX4_removeWord_82 : decode cX4_removeWord 82 = .ok (.ireturn, 1) := by decide +kernel
theorem dX4_mayBeam_0 : decode cX4_mayBeam 0 = .ok (.iload_n 1, 1) := by decide +kernel
theorem dX4_mayBeam_1 : decode cX4_mayBeam 1 = .ok (.invokestatic 112, 3) := by decide +kernel
theorem dX4_mayBeam_4 : decode cX4_mayBeam 4 = .ok (.ifCond .eq 44, 3) := by decide +kernel
theorem dX4_mayBeam_7 : decode cX4_mayBeam 7 = .ok (.iload_n 2, 1) := by decide +kernel
theorem dX4_mayBeam_8 : decode cX4_mayBeam 8 = .ok (.invokestatic 108, 3) := by decide +kernel
theorem dX4_mayBeam_11 : decode cX4_mayBeam 11 = .ok (.ifCond .eq 37, 3) := by decide +kernel
theorem dX4_mayBeam_14 : decode cX4_mayBeam 14 = .ok (.iload_n 3, 1) := by decide +kernel
theorem dX4_mayBeam_15 : decode cX4_mayBeam 15 = .ok (.bipush (-9), 2) := by decide +kernel
theorem dX4_mayBeam_17 : decode cX4_mayBeam 17 = .ok (.bipush 9, 2) := by decide +kernel
theorem dX4_mayBeam_19 : decode cX4_mayBeam 19 = .ok (.invokestatic 41, 3) := by decide +kernel
theorem dX4_mayBeam_22 : decode cX4_mayBeam 22 = .ok (.ifCond .eq 26, 3) := by decide +kernel
theorem dX4_mayBeam_25 : decode cX4_mayBeam 25 = .ok (.iload 4, 2) := by decide +kernel
theorem dX4_mayBeam_27 : decode cX4_mayBeam 27 = .ok (.iconst 1, 1) := by decide +kernel
theorem dX4_mayBeam_28 : decode cX4_mayBeam 28 = .ok (.bipush 9, 2) := by decide +kernel
theorem dX4_mayBeam_30 : decode cX4_mayBeam 30 = .ok (.invokestatic 41, 3) := by decide +kernel
theorem dX4_mayBeam_33 : decode cX4_mayBeam 33 = .ok (.ifCond .eq 15, 3) := by decide +kernel
theorem dX4_mayBeam_36 : decode cX4_mayBeam 36 = .ok (.iload 5, 2) := by decide +kernel
theorem dX4_mayBeam_38 : decode cX4_mayBeam 38 = .ok (.iconst 1, 1) := by decide +kernel
theorem dX4_mayBeam_39 : decode cX4_mayBeam 39 = .ok (.sipush 255, 3) := by decide +kernel
theorem dX4_mayBeam_42 : decode cX4_mayBeam 42 = .ok (.invokestatic 41, 3) := by decide +kernel
theorem dX4_mayBeam_45 : decode cX4_mayBeam 45 = .ok (.ifCond .ne 5, 3) := by decide +kernel
theorem dX4_mayBeam_48 : decode cX4_mayBeam 48 = .ok (.iconst 1, 1) := by decide +kernel
theorem dX4_mayBeam_49 : decode cX4_mayBeam 49 = .ok (.ireturn, 1) := by decide +kernel
theorem dX4_mayBeam_50 : decode cX4_mayBeam 50 = .ok (.aload_n 0, 1) := by decide +kernel
theorem dX4_mayBeam_51 : decode cX4_mayBeam 51 = .ok (.getfield 7, 3) := by decide +kernel
theorem dX4_mayBeam_54 : decode cX4_mayBeam 54 = .ok (.iconst 3, 1) := by decide +kernel
theorem dX4_mayBeam_55 : decode cX4_mayBeam 55 = .ok (.iaload, 1) := by decide +kernel
theorem dX4_mayBeam_56 : decode cX4_mayBeam 56 = .ok (.bipush 6, 2) := by decide +kernel
theorem dX4_mayBeam_58 : decode cX4_mayBeam 58 = .ok (.if_icmp .ne 7, 3) := by decide +kernel
theorem dX4_mayBeam_61 : decode cX4_mayBeam 61 = .ok (.iconst 2, 1) := by decide +kernel
theorem dX4_mayBeam_62 : decode cX4_mayBeam 62 = .ok (.goto 4, 3) := by decide +kernel
theorem dX4_mayBeam_65 : decode cX4_mayBeam 65 = .ok (.iconst 0, 1) := by decide +kernel
theorem dX4_mayBeam_66 : decode cX4_mayBeam 66 = .ok (.ireturn, 1) := by decide +kernel
theorem dX4_beams_0 : decode cX4_beams 0 = .ok (.bipush 52, 2) := by decide +kernel
theorem dX4_beams_2 : decode cX4_beams 2 = .ok (.iconst 5, 1) := by decide +kernel
theorem dX4_beams_3 : decode cX4_beams 3 = .ok (.aload_n 0, 1) := by decide +kernel
theorem dX4_beams_4 : decode cX4_beams 4 = .ok (.iconst 3, 1) := by decide +kernel
theorem dX4_beams_5 : decode cX4_beams 5 = .ok (.iaload, 1) := by decide +kernel
theorem dX4_beams_6 : decode cX4_beams 6 = .ok (.imul, 1) := by decide +kernel
theorem dX4_beams_7 : decode cX4_beams 7 = .ok (.iadd, 1) := by decide +kernel
theorem dX4_beams_8 : decode cX4_beams 8 = .ok (.istore 6, 2) := by decide +kernel
theorem dX4_beams_10 : decode cX4_beams 10 = .ok (.aload_n 0, 1) := by decide +kernel
theorem dX4_beams_11 : decode cX4_beams 11 = .ok (.iload 6, 2) := by decide +kernel
theorem dX4_beams_13 : decode cX4_beams 13 = .ok (.iload_n 1, 1) := by decide +kernel
theorem dX4_beams_14 : decode cX4_beams 14 = .ok (.iastore, 1) := by decide +kernel
theorem dX4_beams_15 : decode cX4_beams 15 = .ok (.aload_n 0, 1) := by decide +kernel
theorem dX4_beams_16 : decode cX4_beams 16 = .ok (.iload 6, 2) := by decide +kernel
theorem dX4_beams_18 : decode cX4_beams 18 = .ok (.iconst 1, 1) := by decide +kernel
theorem dX4_beams_19 : decode cX4_beams 19 = .ok (.iadd, 1) := by decide +kernel
theorem dX4_beams_20 : decode cX4_beams 20 = .ok (.iload_n 2, 1) := by decide +kernel
theorem dX4_beams_21 : decode cX4_beams 21 = .ok (.iastore, 1) := by decide +kernel
theorem dX4_beams_22 : decode cX4_beams 22 = .ok (.aload_n 0, 1) := by decide +kernel
theorem dX4_beams_23 : decode cX4_beams 23 = .ok (.iload 6, 2) := by decide +kernel
theorem dX4_beams_25 : decode cX4_beams 25 = .ok (.iconst 2, 1) := by decide +kernel
theorem dX4_beams_26 : decode cX4_beams 26 = .ok (.iadd, 1) := by decide +kernel
theorem dX4_beams_27 : decode cX4_beams 27 = .ok (.iload_n 3, 1) := by decide +kernel
theorem dX4_beams_28 : decode cX4_beams 28 = .ok (.iastore, 1) := by decide +kernel
theorem dX4_beams_29 : decode cX4_beams 29 = .ok (.aload_n 0, 1) := by decide +kernel
theorem dX4_beams_30 : decode cX4_beams 30 = .ok (.iload 6, 2) := by decide +kernel
theorem dX4_beams_32 : decode cX4_beams 32 = .ok (.iconst 3, 1) := by decide +kernel
theorem dX4_beams_33 : decode cX4_beams 33 = .ok (.iadd, 1) := by decide +kernel
theorem dX4_beams_34 : decode cX4_beams 34 = .ok (.iload 4, 2) := by decide +kernel
theorem dX4_beams_36 : decode cX4_beams 36 = .ok (.iastore, 1) := by decide +kernel
theorem dX4_beams_37 : decode cX4_beams 37 = .ok (.aload_n 0, 1) := by decide +kernel
theorem dX4_beams_38 : decode cX4_beams 38 = .ok (.iload 6, 2) := by decide +kernel
theorem dX4_beams_40 : decode cX4_beams 40 = .ok (.iconst 4, 1) := by decide +kernel
theorem dX4_beams_41 : decode cX4_beams 41 = .ok (.iadd, 1) := by decide +kernel
theorem dX4_beams_42 : decode cX4_beams 42 = .ok (.iload 5, 2) := by decide +kernel
theorem dX4_beams_44 : decode cX4_beams 44 = .ok (.iastore, 1) := by decide +kernel
theorem dX4_beams_45 : decode cX4_beams 45 = .ok (.aload_n 0, 1) := by decide +kernel
theorem dX4_beams_46 : decode cX4_beams 46 = .ok (.iconst 3, 1) := by decide +kernel
theorem dX4_beams_47 : decode cX4_beams 47 = .ok (.dup2, 1) := by decide +kernel
theorem dX4_beams_48 : decode cX4_beams 48 = .ok (.iaload, 1) := by decide +kernel
theorem dX4_beams_49 : decode cX4_beams 49 = .ok (.iconst 1, 1) := by decide +kernel
theorem dX4_beams_50 : decode cX4_beams 50 = .ok (.iadd, 1) := by decide +kernel
theorem dX4_beams_51 : decode cX4_beams 51 = .ok (.iastore, 1) := by decide +kernel
theorem dX4_beams_52 : decode cX4_beams 52 = .ok (.return_, 1) := by decide +kernel
theorem dX4_unlights_0 : decode cX4_unlights 0 = .ok (.aload_n 0, 1) := by decide +kernel
theorem dX4_unlights_1 : decode cX4_unlights 1 = .ok (.iconst 3, 1) := by decide +kernel
theorem dX4_unlights_2 : decode cX4_unlights 2 = .ok (.dup2, 1) := by decide +kernel
theorem dX4_unlights_3 : decode cX4_unlights 3 = .ok (.iaload, 1) := by decide +kernel
theorem dX4_unlights_4 : decode cX4_unlights 4 = .ok (.iconst 1, 1) := by decide +kernel
theorem dX4_unlights_5 : decode cX4_unlights 5 = .ok (.isub, 1) := by decide +kernel
theorem dX4_unlights_6 : decode cX4_unlights 6 = .ok (.iastore, 1) := by decide +kernel
theorem dX4_unlights_7 : decode cX4_unlights 7 = .ok (.bipush 52, 2) := by decide +kernel
theorem dX4_unlights_9 : decode cX4_unlights 9 = .ok (.iconst 5, 1) := by decide +kernel
theorem dX4_unlights_10 : decode cX4_unlights 10 = .ok (.iload_n 1, 1) := by decide +kernel
theorem dX4_unlights_11 : decode cX4_unlights 11 = .ok (.imul, 1) := by decide +kernel
theorem dX4_unlights_12 : decode cX4_unlights 12 = .ok (.iadd, 1) := by decide +kernel
theorem dX4_unlights_13 : decode cX4_unlights 13 = .ok (.istore_n 2, 1) := by decide +kernel
theorem dX4_unlights_14 : decode cX4_unlights 14 = .ok (.iload_n 2, 1) := by decide +kernel
theorem dX4_unlights_15 : decode cX4_unlights 15 = .ok (.bipush 52, 2) := by decide +kernel
theorem dX4_unlights_17 : decode cX4_unlights 17 = .ok (.iconst 5, 1) := by decide +kernel
theorem dX4_unlights_18 : decode cX4_unlights 18 = .ok (.aload_n 0, 1) := by decide +kernel
theorem dX4_unlights_19 : decode cX4_unlights 19 = .ok (.iconst 3, 1) := by decide +kernel
theorem dX4_unlights_20 : decode cX4_unlights 20 = .ok (.iaload, 1) := by decide +kernel
theorem dX4_unlights_21 : decode cX4_unlights 21 = .ok (.imul, 1) := by decide +kernel
theorem dX4_unlights_22 : decode cX4_unlights 22 = .ok (.iadd, 1) := by decide +kernel
theorem dX4_unlights_23 : decode cX4_unlights 23 = .ok (.if_icmp .ge 17, 3) := by decide +kernel
theorem dX4_unlights_26 : decode cX4_unlights 26 = .ok (.aload_n 0, 1) := by decide +kernel
theorem dX4_unlights_27 : decode cX4_unlights 27 = .ok (.iload_n 2, 1) := by decide +kernel
theorem dX4_unlights_28 : decode cX4_unlights 28 = .ok (.aload_n 0, 1) := by decide +kernel
theorem dX4_unlights_29 : decode cX4_unlights 29 = .ok (.iload_n 2, 1) := by decide +kernel
theorem dX4_unlights_30 : decode cX4_unlights 30 = .ok (.iconst 5, 1) := by decide +kernel
theorem dX4_unlights_31 : decode cX4_unlights 31 = .ok (.iadd, 1) := by decide +kernel
theorem dX4_unlights_32 : decode cX4_unlights 32 = .ok (.iaload, 1) := by decide +kernel
theorem dX4_unlights_33 : decode cX4_unlights 33 = .ok (.iastore, 1) := by decide +kernel
theorem dX4_unlights_34 : decode cX4_unlights 34 = .ok (.iinc 2 1, 3) := by decide +kernel
theorem dX4_unlights_37 : decode cX4_unlights 37 = .ok (.goto (-23), 3) := by decide +kernel
theorem dX4_unlights_40 : decode cX4_unlights 40 = .ok (.return_, 1) := by decide +kernel
theorem dX4_beam_0 : decode cX4_beam 0 = .ok (.aload_n 0, 1) := by decide +kernel
theorem dX4_beam_1 : decode cX4_beam 1 = .ok (.aload_n 0, 1) := by decide +kernel
theorem dX4_beam_2 : decode cX4_beam 2 = .ok (.iload_n 1, 1) := by decide +kernel
theorem dX4_beam_3 : decode cX4_beam 3 = .ok (.iload_n 2, 1) := by decide +kernel
theorem dX4_beam_4 : decode cX4_beam 4 = .ok (.iload_n 3, 1) := by decide +kernel
theorem dX4_beam_5 : decode cX4_beam 5 = .ok (.iload 4, 2) := by decide +kernel
theorem dX4_beam_7 : decode cX4_beam 7 = .ok (.iload 5, 2) := by decide +kernel
theorem dX4_beam_9 : decode cX4_beam 9 = .ok (.invokevirtual 132, 3) := by decide +kernel
theorem dX4_beam_12 : decode cX4_beam 12 = .ok (.putfield 37, 3) := by decide +kernel
theorem dX4_beam_15 : decode cX4_beam 15 = .ok (.aload_n 0, 1) := by decide +kernel
theorem dX4_beam_16 : decode cX4_beam 16 = .ok (.getfield 37, 3) := by decide +kernel
theorem dX4_beam_19 : decode cX4_beam 19 = .ok (.ifCond .eq 5, 3) := by decide +kernel
theorem dX4_beam_22 : decode cX4_beam 22 = .ok (.iconst 0, 1) := by decide +kernel
theorem dX4_beam_23 : decode cX4_beam 23 = .ok (.ireturn, 1) := by decide +kernel
theorem dX4_beam_24 : decode cX4_beam 24 = .ok (.aload_n 0, 1) := by decide +kernel
theorem dX4_beam_25 : decode cX4_beam 25 = .ok (.invokevirtual 119, 3) := by decide +kernel
theorem dX4_beam_28 : decode cX4_beam 28 = .ok (.aload_n 0, 1) := by decide +kernel
theorem dX4_beam_29 : decode cX4_beam 29 = .ok (.getfield 7, 3) := by decide +kernel
theorem dX4_beam_32 : decode cX4_beam 32 = .ok (.iload_n 1, 1) := by decide +kernel
theorem dX4_beam_33 : decode cX4_beam 33 = .ok (.iload_n 2, 1) := by decide +kernel
theorem dX4_beam_34 : decode cX4_beam 34 = .ok (.iload_n 3, 1) := by decide +kernel
theorem dX4_beam_35 : decode cX4_beam 35 = .ok (.iload 4, 2) := by decide +kernel
theorem dX4_beam_37 : decode cX4_beam 37 = .ok (.iload 5, 2) := by decide +kernel
theorem dX4_beam_39 : decode cX4_beam 39 = .ok (.invokestatic 136, 3) := by decide +kernel
theorem dX4_beam_42 : decode cX4_beam 42 = .ok (.aload_n 0, 1) := by decide +kernel
theorem dX4_beam_43 : decode cX4_beam 43 = .ok (.getfield 7, 3) := by decide +kernel
theorem dX4_beam_46 : decode cX4_beam 46 = .ok (.iconst 3, 1) := by decide +kernel
theorem dX4_beam_47 : decode cX4_beam 47 = .ok (.iaload, 1) := by decide +kernel
theorem dX4_beam_48 : decode cX4_beam 48 = .ok (.iconst 1, 1) := by decide +kernel
theorem dX4_beam_49 : decode cX4_beam 49 = .ok (.isub, 1) := by decide +kernel
theorem dX4_beam_50 : decode cX4_beam 50 = .ok (.ireturn, 1) := by decide +kernel
theorem dX4_turn_0 : decode cX4_turn 0 = .ok (.aload_n 0, 1) := by decide +kernel
theorem dX4_turn_1 : decode cX4_turn 1 = .ok (.iconst 0, 1) := by decide +kernel
theorem dX4_turn_2 : decode cX4_turn 2 = .ok (.putfield 37, 3) := by decide +kernel
theorem dX4_turn_5 : decode cX4_turn 5 = .ok (.aload_n 0, 1) := by decide +kernel
theorem dX4_turn_6 : decode cX4_turn 6 = .ok (.iload_n 1, 1) := by decide +kernel
theorem dX4_turn_7 : decode cX4_turn 7 = .ok (.invokevirtual 140, 3) := by decide +kernel
theorem dX4_turn_10 : decode cX4_turn 10 = .ok (.ifCond .ne 9, 3) := by decide +kernel
theorem dX4_turn_13 : decode cX4_turn 13 = .ok (.aload_n 0, 1) := by decide +kernel
theorem dX4_turn_14 : decode cX4_turn 14 = .ok (.iconst 1, 1) := by decide +kernel
theorem dX4_turn_15 : decode cX4_turn 15 = .ok (.invokevirtual 56, 3) := by decide +kernel
theorem dX4_turn_18 : decode cX4_turn 18 = .ok (.ireturn, 1) := by decide +kernel
theorem dX4_turn_19 : decode cX4_turn 19 = .ok (.aload_n 0, 1) := by decide +kernel
theorem dX4_turn_20 : decode cX4_turn 20 = .ok (.invokevirtual 119, 3) := by decide +kernel
theorem dX4_turn_23 : decode cX4_turn 23 = .ok (.aload_n 0, 1) := by decide +kernel
theorem dX4_turn_24 : decode cX4_turn 24 = .ok (.getfield 7, 3) := by decide +kernel
theorem dX4_turn_27 : decode cX4_turn 27 = .ok (.bipush 52, 2) := by decide +kernel
theorem dX4_turn_29 : decode cX4_turn 29 = .ok (.iconst 5, 1) := by decide +kernel
theorem dX4_turn_30 : decode cX4_turn 30 = .ok (.iload_n 1, 1) := by decide +kernel
theorem dX4_turn_31 : decode cX4_turn 31 = .ok (.imul, 1) := by decide +kernel
theorem dX4_turn_32 : decode cX4_turn 32 = .ok (.iadd, 1) := by decide +kernel
theorem dX4_turn_33 : decode cX4_turn 33 = .ok (.iconst 2, 1) := by decide +kernel
theorem dX4_turn_34 : decode cX4_turn 34 = .ok (.iadd, 1) := by decide +kernel
theorem dX4_turn_35 : decode cX4_turn 35 = .ok (.aload_n 0, 1) := by decide +kernel
theorem dX4_turn_36 : decode cX4_turn 36 = .ok (.getfield 7, 3) := by decide +kernel
theorem dX4_turn_39 : decode cX4_turn 39 = .ok (.iload_n 1, 1) := by decide +kernel
theorem dX4_turn_40 : decode cX4_turn 40 = .ok (.iconst 2, 1) := by decide +kernel
theorem dX4_turn_41 : decode cX4_turn 41 = .ok (.invokestatic 60, 3) := by decide +kernel
theorem dX4_turn_44 : decode cX4_turn 44 = .ok (.ineg, 1) := by decide +kernel
theorem dX4_turn_45 : decode cX4_turn 45 = .ok (.iastore, 1) := by decide +kernel
theorem dX4_turn_46 : decode cX4_turn 46 = .ok (.aload_n 0, 1) := by decide +kernel
theorem dX4_turn_47 : decode cX4_turn 47 = .ok (.invokevirtual 143, 3) := by decide +kernel
theorem dX4_turn_50 : decode cX4_turn 50 = .ok (.aload_n 0, 1) := by decide +kernel
theorem dX4_turn_51 : decode cX4_turn 51 = .ok (.aload_n 0, 1) := by decide +kernel
theorem dX4_turn_52 : decode cX4_turn 52 = .ok (.getfield 7, 3) := by decide +kernel
theorem dX4_turn_55 : decode cX4_turn 55 = .ok (.invokevirtual 146, 3) := by decide +kernel
theorem dX4_turn_58 : decode cX4_turn 58 = .ok (.ireturn, 1) := by decide +kernel
abbrev rm_X4_thrown : Room := { frames := 0, cells := 0, slots := 0, locals := 0 }
set_option maxHeartbeats 4000000 in
set_option maxRecDepth 100000 in
theorem c_X4_thrown (l : Launch) (dC : Nat → ClassId) (dI : Nat → Nat → Nat) (cI cJ : ClassId) (o o_now o_then o_past o_text o_told o_lit o_whole o_goes o_latest : Nat) (sz : Nat) (s_thrown : Int32) (s_kept : Int32) (s_typed : Int32) (s_at : Int32) (s_isFault : Int32) (s_value : Int32) (s_tolds : Int32) (s_isLaid : Int32)  (Q : Int32 → Prop) (hw : P_X4_thrown s_thrown Q) : Met l yX4_thrown (Cond.code yX4_thrown cX4_thrown 1 (some .int) :: TBL) rm_X4_thrown (gPc (dC, dI) vwCl (gTy cI cJ) [.ref o] [(o, .inr (4, [.ref o_now, .ref o_then, .ref o_past, .int s_kept, .ref o_text, .int s_typed, .int s_thrown, .int s_at, .int s_isFault, .int s_value, .ref o_told, .int s_tolds, .ref o_lit, .ref o_whole, .ref o_goes, .int s_isLaid, .ref o_latest]))] sz) (va_Qi (fun (r : Int32) (u : Unit) => Q r ) (gB (dC, dI) vwCl (gTy cI cJ) (va_A [(o, .inr (4, [.ref o_now, .ref o_then, .ref o_past, .int s_kept, .ref o_text, .int s_typed, .int s_thrown, .int s_at, .int s_isFault, .int s_value, .ref o_told, .int s_tolds, .ref o_lit, .ref o_whole, .ref o_goes, .int s_isLaid, .ref o_latest]))] sz) (fun (u : Unit) => [(o, .inr (4, [.ref o_now, .ref o_then, .ref o_past, .int s_kept, .ref o_text, .int s_typed, .int s_thrown, .int s_at, .int s_isFault, .int s_value, .ref o_told, .int s_tolds, .ref o_lit, .ref o_whole, .ref o_goes, .int s_isLaid, .ref o_latest]))])) (va_A [(o, .inr (4, [.ref o_now, .ref o_then, .ref o_past, .int s_kept, .ref o_text, .int s_typed, .int s_thrown, .int s_at, .int s_isFault, .int s_value, .ref o_told, .int s_tolds, .ref o_lit, .ref o_whole, .ref o_goes, .int s_isLaid, .ref o_latest]))] sz)) 0 0 (va_A [(o, .inr (4, [.ref o_now, .ref o_then, .ref o_past, .int s_kept, .ref o_text, .int s_typed, .int s_thrown, .int s_at, .int s_isFault, .int s_value, .ref o_told, .int s_tolds, .ref o_lit, .ref o_whole, .ref o_goes, .int s_isLaid, .ref o_latest]))] sz) := by
  refine Met.ofW (cc := cX4_thrown) (maxL := 1) (ret := (some .int)) (by decide) rfl ?_
  intro p e s m args below meth c s₁ B hml hv
  obtain ⟨rfl, hsz, hP, hK, hD0⟩ := hv
  have hx := B.exec
  have hb := B.bytes
  have hr := B.returns
  have hts := atoms_spec (ws := Cond.code yX4_thrown cX4_thrown 1 (some .int) :: TBL) B.pre
  have ht : ∀ w ∈ TBL, w.before ([.ref o] : List Value).toArray s = true := fun w h => hts w (List.mem_cons_of_mem _ h)
  clear hts
  have hown : s.vm.findClass RX4 = some m.cls := findClass_of_methodNamed B.named
  have hlocks := B.notSynchronized
  clear B
  subst hsz
  have hD := hD0.self (sz := s.heap.size)
  clear hD0
  generalize hAe : va_A [(o, .inr (4, [.ref o_now, .ref o_then, .ref o_past, .int s_kept, .ref o_text, .int s_typed, .int s_thrown, .int s_at, .int s_isFault, .int s_value, .ref o_told, .int s_tolds, .ref o_lit, .ref o_whole, .ref o_goes, .int s_isLaid, .ref o_latest]))] s.heap.size = A at hD ⊢
  have hA : ∀ q : Nat, s.heap.size ≤ q → A q := fun q h => by rw [← hAe]; exact Or.inr h
  clear hAe
  have hS : va_S A s.heap s.heap [] := va_S.rf
  have hP : va_P (dC, dI) vwCl [(o, .inr (4, [.ref o_now, .ref o_then, .ref o_past, .int s_kept, .ref o_text, .int s_typed, .int s_thrown, .int s_at, .int s_isFault, .int s_value, .ref o_told, .int s_tolds, .ref o_lit, .ref o_whole, .ref o_goes, .int s_isLaid, .ref o_latest]))] s.heap := hP
  have hl := lv_entry ([.ref o]) (n := 1) (Nat.le_of_ble_eq_true rfl)
  rw [lg_entry_eq]
  generalize (lg_sl ([.ref o]) ++ List.replicate (1 - (lg_sl ([.ref o])).length) Slot.unset).toArray = ls at hl ⊢
  have hl : lv_has ls 1 [(0, .ref o)] := hl
  generalize hQQ : MQ below _ _ _ 0 0 A = QQ
  show W p l e rm_X4_thrown s m ([.ref o] : List Value).toArray below meth c s.heap [] 0 0 QQ (F0 m 0 ls [])
  obtain ⟨H, hHH⟩ : ∃ H, H = s.heap := ⟨_, rfl⟩
  rw [← hHH] at hP ⊢
  have hS : va_S A s.heap H [] := by rw [hHH]; exact hS
  clear hHH
  generalize ([] : List Loc) = locs at hS ⊢
  unfold P_X4_thrown at hw
  refine lv_aload_n hx hb dX4_thrown_0 rfl (lv_at hl 0 rfl) ?_
  refine va_get (D := (dC, dI)) (ci := 4) (v := .int s_thrown) (C := RX4) (T := TX4) (N := 17) hx hb ht i_X4 hown hK hP 0 rfl rfl 6 (by decide) (ht _ k_824) (fun _ h9 => h9) rfl dX4_thrown_1 ?_
  rw [← hQQ]
  exact g_reti (v := s_thrown) (u := ()) hx hb hr rfl hlocks hw hP hK hD hS dX4_thrown_4
abbrev rm_X4_fails : Room := { frames := 0, cells := 0, slots := 0, locals := 0 }
set_option maxHeartbeats 4000000 in
set_option maxRecDepth 100000 in
theorem c_X4_fails (l : Launch) (dC : Nat → ClassId) (dI : Nat → Nat → Nat) (cI cJ : ClassId) (o o_now o_then o_past o_text o_told o_lit o_whole o_goes o_latest : Nat) (sz : Nat) (s_thrown : Int32) (s_kept : Int32) (s_typed : Int32) (s_at : Int32) (s_isFault : Int32) (s_value : Int32) (s_tolds : Int32) (s_isLaid : Int32) (p0 : Int32) (Q : Int32 → Int32 → Prop) (hw : P_X4_fails p0 s_thrown Q) : Met l yX4_fails (Cond.code yX4_fails cX4_fails 2 (some .int) :: TBL) rm_X4_fails (gPc (dC, dI) vwCl (gTy cI cJ) [.ref o, .int p0] [(o, .inr (4, [.ref o_now, .ref o_then, .ref o_past, .int s_kept, .ref o_text, .int s_typed, .int s_thrown, .int s_at, .int s_isFault, .int s_value, .ref o_told, .int s_tolds, .ref o_lit, .ref o_whole, .ref o_goes, .int s_isLaid, .ref o_latest]))] sz) (va_Qi (fun (r : Int32) (u : Int32) => Q r u) (gB (dC, dI) vwCl (gTy cI cJ) (va_A [(o, .inr (4, [.ref o_now, .ref o_then, .ref o_past, .int s_kept, .ref o_text, .int s_typed, .int s_thrown, .int s_at, .int s_isFault, .int s_value, .ref o_told, .int s_tolds, .ref o_lit, .ref o_whole, .ref o_goes, .int s_isLaid, .ref o_latest]))] sz) (fun (u : Int32) => [(o, .inr (4, [.ref o_now, .ref o_then, .ref o_past, .int s_kept, .ref o_text, .int s_typed, .int u, .int s_at, .int s_isFault, .int s_value, .ref o_told, .int s_tolds, .ref o_lit, .ref o_whole, .ref o_goes, .int s_isLaid, .ref o_latest]))])) (va_A [(o, .inr (4, [.ref o_now, .ref o_then, .ref o_past, .int s_kept, .ref o_text, .int s_typed, .int s_thrown, .int s_at, .int s_isFault, .int s_value, .ref o_told, .int s_tolds, .ref o_lit, .ref o_whole, .ref o_goes, .int s_isLaid, .ref o_latest]))] sz)) 0 0 (va_A [(o, .inr (4, [.ref o_now, .ref o_then, .ref o_past, .int s_kept, .ref o_text, .int s_typed, .int s_thrown, .int s_at, .int s_isFault, .int s_value, .ref o_told, .int s_tolds, .ref o_lit, .ref o_whole, .ref o_goes, .int s_isLaid, .ref o_latest]))] sz) := by
  refine Met.ofW (cc := cX4_fails) (maxL := 2) (ret := (some .int)) (by decide) rfl ?_
  intro p e s m args below meth c s₁ B hml hv
  obtain ⟨rfl, hsz, hP, hK, hD0⟩ := hv
  have hx := B.exec
  have hb := B.bytes
  have hr := B.returns
  have hts := atoms_spec (ws := Cond.code yX4_fails cX4_fails 2 (some .int) :: TBL) B.pre
  have ht : ∀ w ∈ TBL, w.before ([.ref o, .int p0] : List Value).toArray s = true := fun w h => hts w (List.mem_cons_of_mem _ h)
  clear hts
  have hown : s.vm.findClass RX4 = some m.cls := findClass_of_methodNamed B.named
  have hlocks := B.notSynchronized
  clear B
  subst hsz
  have hD := hD0.self (sz := s.heap.size)
  clear hD0
  generalize hAe : va_A [(o, .inr (4, [.ref o_now, .ref o_then, .ref o_past, .int s_kept, .ref o_text, .int s_typed, .int s_thrown, .int s_at, .int s_isFault, .int s_value, .ref o_told, .int s_tolds, .ref o_lit, .ref o_whole, .ref o_goes, .int s_isLaid, .ref o_latest]))] s.heap.size = A at hD ⊢
  have hA : ∀ q : Nat, s.heap.size ≤ q → A q := fun q h => by rw [← hAe]; exact Or.inr h
  clear hAe
  have hS : va_S A s.heap s.heap [] := va_S.rf
  have hP : va_P (dC, dI) vwCl [(o, .inr (4, [.ref o_now, .ref o_then, .ref o_past, .int s_kept, .ref o_text, .int s_typed, .int s_thrown, .int s_at, .int s_isFault, .int s_value, .ref o_told, .int s_tolds, .ref o_lit, .ref o_whole, .ref o_goes, .int s_isLaid, .ref o_latest]))] s.heap := hP
  have hl := lv_entry ([.ref o, .int p0]) (n := 2) (Nat.le_of_ble_eq_true rfl)
  rw [lg_entry_eq]
  generalize (lg_sl ([.ref o, .int p0]) ++ List.replicate (2 - (lg_sl ([.ref o, .int p0])).length) Slot.unset).toArray = ls at hl ⊢
  have hl : lv_has ls 2 [(0, .ref o), (1, .int p0)] := hl
  generalize hQQ : MQ below _ _ _ 0 0 A = QQ
  show W p l e rm_X4_fails s m ([.ref o, .int p0] : List Value).toArray below meth c s.heap [] 0 0 QQ (F0 m 0 ls [])
  obtain ⟨H, hHH⟩ : ∃ H, H = s.heap := ⟨_, rfl⟩
  rw [← hHH] at hP ⊢
  have hS : va_S A s.heap H [] := by rw [hHH]; exact hS
  clear hHH
  generalize ([] : List Loc) = locs at hS ⊢
  unfold P_X4_fails at hw
  refine lv_aload_n hx hb dX4_fails_0 rfl (lv_at hl 0 rfl) ?_
  refine lv_iload_n hx hb dX4_fails_1 rfl (lv_at hl 1 rfl) ?_
  refine va_put (D := (dC, dI)) (ci := 4) (v := .int p0) (ty := .int) (C := RX4) (T := TX4) (N := 17) hx hb ht i_X4 tyX4 tyX4_ok nmX4 hown hK hP hD hS 0 rfl rfl 6 (by decide) (ht _ k_824) (fun _ h9 => h9) rfl (by decide +kernel) rfl rfl (Nat.le_of_ble_eq_true rfl) dX4_fails_2 (fun H locs hP hD hS => ?_)
  have hP : va_P (dC, dI) vwCl [(o, .inr (4, [.ref o_now, .ref o_then, .ref o_past, .int s_kept, .ref o_text, .int s_typed, .int p0, .int s_at, .int s_isFault, .int s_value, .ref o_told, .int s_tolds, .ref o_lit, .ref o_whole, .ref o_goes, .int s_isLaid, .ref o_latest]))] H := hP
  have hD : va_D A [(o, .inr (4, [.ref o_now, .ref o_then, .ref o_past, .int s_kept, .ref o_text, .int s_typed, .int p0, .int s_at, .int s_isFault, .int s_value, .ref o_told, .int s_tolds, .ref o_lit, .ref o_whole, .ref o_goes, .int s_isLaid, .ref o_latest]))] := hD
  refine lv_iconst (v := 0) hx hb dX4_fails_5 (by decide) ?_
  rw [← hQQ]
  exact g_reti (v := 0) (u := p0) hx hb hr rfl hlocks hw hP hK hD hS dX4_fails_6
abbrev rm_X4_in : Room := { frames := 0, cells := 0, slots := 0, locals := 0 }
set_option maxHeartbeats 4000000 in
set_option maxRecDepth 100000 in
theorem c_X4_in (l : Launch) (dC : Nat → ClassId) (dI : Nat → Nat → Nat) (cI cJ : ClassId) (sz : Nat)  (p0 : Int32) (p1 : Int32) (p2 : Int32) (Q : Int32 → Prop) (hw : P_X4_in p0 p1 p2 Q) : Met l yX4_in (Cond.code yX4_in cX4_in 3 (some .boolean) :: TBL) rm_X4_in (gPc (dC, dI) vwCl (gTy cI cJ) [.int p0, .int p1, .int p2] [] sz) (va_Qi (fun (r : Int32) (u : Unit) => Q r ) (gB (dC, dI) vwCl (gTy cI cJ) (va_A [] sz) (fun (u : Unit) => [])) (va_A [] sz)) 0 0 (va_A [] sz) := by
  refine Met.ofW (cc := cX4_in) (maxL := 3) (ret := (some .boolean)) (by decide) rfl ?_
  intro p e s m args below meth c s₁ B hml hv
  obtain ⟨rfl, hsz, hP, hK, hD0⟩ := hv
  have hx := B.exec
  have hb := B.bytes
  have hr := B.returns
  have hts := atoms_spec (ws := Cond.code yX4_in cX4_in 3 (some .boolean) :: TBL) B.pre
  have ht : ∀ w ∈ TBL, w.before ([.int p0, .int p1, .int p2] : List Value).toArray s = true := fun w h => hts w (List.mem_cons_of_mem _ h)
  clear hts
  have hown : s.vm.findClass RX4 = some m.cls := findClass_of_methodNamed B.named
  have hlocks := B.notSynchronized
  clear B
  subst hsz
  have hD := hD0.self (sz := s.heap.size)
  clear hD0
  generalize hAe : va_A [] s.heap.size = A at hD ⊢
  have hA : ∀ q : Nat, s.heap.size ≤ q → A q := fun q h => by rw [← hAe]; exact Or.inr h
  clear hAe
  have hS : va_S A s.heap s.heap [] := va_S.rf
  have hP : va_P (dC, dI) vwCl [] s.heap := hP
  have hl := lv_entry ([.int p0, .int p1, .int p2]) (n := 3) (Nat.le_of_ble_eq_true rfl)
  rw [lg_entry_eq]
  generalize (lg_sl ([.int p0, .int p1, .int p2]) ++ List.replicate (3 - (lg_sl ([.int p0, .int p1, .int p2])).length) Slot.unset).toArray = ls at hl ⊢
  have hl : lv_has ls 3 [(0, .int p0), (1, .int p1), (2, .int p2)] := hl
  generalize hQQ : MQ below _ _ _ 0 0 A = QQ
  show W p l e rm_X4_in s m ([.int p0, .int p1, .int p2] : List Value).toArray below meth c s.heap [] 0 0 QQ (F0 m 0 ls [])
  obtain ⟨H, hHH⟩ : ∃ H, H = s.heap := ⟨_, rfl⟩
  rw [← hHH] at hP ⊢
  have hS : va_S A s.heap H [] := by rw [hHH]; exact hS
  clear hHH
  generalize ([] : List Loc) = locs at hS ⊢
  unfold P_X4_in at hw
  refine lv_iload_n hx hb dX4_in_0 rfl (lv_at hl 0 rfl) ?_
  refine lv_iload_n hx hb dX4_in_1 rfl (lv_at hl 1 rfl) ?_
  refine lv_icmp_lt (tgt := 14) hx hb dX4_in_2 (by decide) (fun hc => ?_) (fun hc => ?_)
  · have hw := hw.1 hc
    refine lv_iconst (v := 0) hx hb dX4_in_14 (by decide) ?_
    rw [← hQQ]
    exact g_reti (v := 0) (u := ()) hx hb hr rfl hlocks hw hP hK hD hS dX4_in_15
  · have hw := hw.2 hc
    refine lv_iload_n hx hb dX4_in_5 rfl (lv_at hl 0 rfl) ?_
    refine lv_iload_n hx hb dX4_in_6 rfl (lv_at hl 2 rfl) ?_
    refine lv_icmp_gt (tgt := 14) hx hb dX4_in_7 (by decide) (fun hc => ?_) (fun hc => ?_)
    · have hw := hw.1 hc
      refine lv_iconst (v := 0) hx hb dX4_in_14 (by decide) ?_
      rw [← hQQ]
      exact g_reti (v := 0) (u := ()) hx hb hr rfl hlocks hw hP hK hD hS dX4_in_15
    · have hw := hw.2 hc
      refine lv_iconst (v := 1) hx hb dX4_in_10 (by decide) ?_
      refine lv_goto (tgt := 15) hx hb dX4_in_11 (by decide) ?_
      rw [← hQQ]
      exact g_reti (v := 1) (u := ()) hx hb hr rfl hlocks hw hP hK hD hS dX4_in_15
abbrev rm_X4_isBeat : Room := { frames := 1, cells := 0, slots := 0, locals := 22 }
set_option maxHeartbeats 4000000 in
set_option maxRecDepth 100000 in
theorem c_X4_isBeat (l : Launch) (dC : Nat → ClassId) (dI : Nat → Nat → Nat) (cI cJ : ClassId) (sz : Nat)  (p0 : Int32) (Q : Int32 → Prop) (hw : P_X4_isBeat p0 Q) : Met l yX4_isBeat (Cond.code yX4_isBeat cX4_isBeat 1 (some .boolean) :: TBL) rm_X4_isBeat (gPc (dC, dI) vwCl (gTy cI cJ) [.int p0] [] sz) (va_Qi (fun (r : Int32) (u : Unit) => Q r ) (gB (dC, dI) vwCl (gTy cI cJ) (va_A [] sz) (fun (u : Unit) => [])) (va_A [] sz)) 0 0 (va_A [] sz) := by
  refine Met.ofW (cc := cX4_isBeat) (maxL := 1) (ret := (some .boolean)) (by decide) rfl ?_
  intro p e s m args below meth c s₁ B hml hv
  obtain ⟨rfl, hsz, hP, hK, hD0⟩ := hv
  have hx := B.exec
  have hb := B.bytes
  have hr := B.returns
  have hts := atoms_spec (ws := Cond.code yX4_isBeat cX4_isBeat 1 (some .boolean) :: TBL) B.pre
  have ht : ∀ w ∈ TBL, w.before ([.int p0] : List Value).toArray s = true := fun w h => hts w (List.mem_cons_of_mem _ h)
  clear hts
  have hown : s.vm.findClass RX4 = some m.cls := findClass_of_methodNamed B.named
  have hlocks := B.notSynchronized
  clear B
  subst hsz
  have hD := hD0.self (sz := s.heap.size)
  clear hD0
  generalize hAe : va_A [] s.heap.size = A at hD ⊢
  have hA : ∀ q : Nat, s.heap.size ≤ q → A q := fun q h => by rw [← hAe]; exact Or.inr h
  clear hAe
  have hS : va_S A s.heap s.heap [] := va_S.rf
  have hP : va_P (dC, dI) vwCl [] s.heap := hP
  have hl := lv_entry ([.int p0]) (n := 1) (Nat.le_of_ble_eq_true rfl)
  rw [lg_entry_eq]
  generalize (lg_sl ([.int p0]) ++ List.replicate (1 - (lg_sl ([.int p0])).length) Slot.unset).toArray = ls at hl ⊢
  have hl : lv_has ls 1 [(0, .int p0)] := hl
  generalize hQQ : MQ below _ _ _ 0 0 A = QQ
  show W p l e rm_X4_isBeat s m ([.int p0] : List Value).toArray below meth c s.heap [] 0 0 QQ (F0 m 0 ls [])
  obtain ⟨H, hHH⟩ : ∃ H, H = s.heap := ⟨_, rfl⟩
  rw [← hHH] at hP ⊢
  have hS : va_S A s.heap H [] := by rw [hHH]; exact hS
  clear hHH
  generalize ([] : List Loc) = locs at hS ⊢
  unfold P_X4_isBeat at hw
  refine lv_iload_n hx hb dX4_isBeat_0 rfl (lv_at hl 0 rfl) ?_
  refine lv_iconst (v := 0) hx hb dX4_isBeat_1 (by decide) ?_
  refine lv_sipush (v := 199) hx hb dX4_isBeat_2 (by decide) ?_
  refine gc_Si (As := [.int p0, .int 0, .int 199]) (rest := []) (wr := []) ⟨hx, hb, hml, hown, ht⟩ (c_X4_in l dC dI cI cJ  H.size p0 0 199 _ hw) (va_cwS 3 ht (g_S k_893 k_894 k_5 k_895) rfl rfl rfl (by decide +kernel) ⟨(Nat.le_of_ble_eq_true rfl), (Nat.le_of_ble_eq_true rfl)⟩) hK hP hD hS hA [] [] rfl rfl (by decide) rfl hl.1 rfl (Nat.le_of_ble_eq_true rfl) ⟨(Nat.le_of_ble_eq_true rfl), (Nat.le_of_ble_eq_true rfl)⟩ dX4_isBeat_5 (fun r_1 u H locs hw hP hD hS => ?_)
  try dsimp only at hw
  have hP : va_P (dC, dI) vwCl [] H := hP
  have hD : va_D A [] := hD
  obtain ⟨hb_2, hw⟩ := hw
  rw [← hQQ]
  exact g_reti (v := r_1) (u := ()) hx hb hr hb_2 hlocks hw hP hK hD hS dX4_isBeat_8
abbrev rm_X4_isColumn : Room := { frames := 1, cells := 0, slots := 0, locals := 22 }
set_option maxHeartbeats 4000000 in
set_option maxRecDepth 100000 in
theorem c_X4_isColumn (l : Launch) (dC : Nat → ClassId) (dI : Nat → Nat → Nat) (cI cJ : ClassId) (sz : Nat)  (p0 : Int32) (Q : Int32 → Prop) (hw : P_X4_isColumn p0 Q) : Met l yX4_isColumn (Cond.code yX4_isColumn cX4_isColumn 1 (some .boolean) :: TBL) rm_X4_isColumn (gPc (dC, dI) vwCl (gTy cI cJ) [.int p0] [] sz) (va_Qi (fun (r : Int32) (u : Unit) => Q r ) (gB (dC, dI) vwCl (gTy cI cJ) (va_A [] sz) (fun (u : Unit) => [])) (va_A [] sz)) 0 0 (va_A [] sz) := by
  refine Met.ofW (cc := cX4_isColumn) (maxL := 1) (ret := (some .boolean)) (by decide) rfl ?_
  intro p e s m args below meth c s₁ B hml hv
  obtain ⟨rfl, hsz, hP, hK, hD0⟩ := hv
  have hx := B.exec
  have hb := B.bytes
  have hr := B.returns
  have hts := atoms_spec (ws := Cond.code yX4_isColumn cX4_isColumn 1 (some .boolean) :: TBL) B.pre
  have ht : ∀ w ∈ TBL, w.before ([.int p0] : List Value).toArray s = true := fun w h => hts w (List.mem_cons_of_mem _ h)
  clear hts
  have hown : s.vm.findClass RX4 = some m.cls := findClass_of_methodNamed B.named
  have hlocks := B.notSynchronized
  clear B
  subst hsz
  have hD := hD0.self (sz := s.heap.size)
  clear hD0
  generalize hAe : va_A [] s.heap.size = A at hD ⊢
  have hA : ∀ q : Nat, s.heap.size ≤ q → A q := fun q h => by rw [← hAe]; exact Or.inr h
  clear hAe
  have hS : va_S A s.heap s.heap [] := va_S.rf
  have hP : va_P (dC, dI) vwCl [] s.heap := hP
  have hl := lv_entry ([.int p0]) (n := 1) (Nat.le_of_ble_eq_true rfl)
  rw [lg_entry_eq]
  generalize (lg_sl ([.int p0]) ++ List.replicate (1 - (lg_sl ([.int p0])).length) Slot.unset).toArray = ls at hl ⊢
  have hl : lv_has ls 1 [(0, .int p0)] := hl
  generalize hQQ : MQ below _ _ _ 0 0 A = QQ
  show W p l e rm_X4_isColumn s m ([.int p0] : List Value).toArray below meth c s.heap [] 0 0 QQ (F0 m 0 ls [])
  obtain ⟨H, hHH⟩ : ∃ H, H = s.heap := ⟨_, rfl⟩
  rw [← hHH] at hP ⊢
  have hS : va_S A s.heap H [] := by rw [hHH]; exact hS
  clear hHH
  generalize ([] : List Loc) = locs at hS ⊢
  unfold P_X4_isColumn at hw
  refine lv_iload_n hx hb dX4_isColumn_0 rfl (lv_at hl 0 rfl) ?_
  refine lv_iconst (v := 0) hx hb dX4_isColumn_1 (by decide) ?_
  refine lv_bipush (v := 59) hx hb dX4_isColumn_2 (by decide) ?_
  refine gc_Si (As := [.int p0, .int 0, .int 59]) (rest := []) (wr := []) ⟨hx, hb, hml, hown, ht⟩ (c_X4_in l dC dI cI cJ  H.size p0 0 59 _ hw) (va_cwS 3 ht (g_S k_893 k_894 k_5 k_895) rfl rfl rfl (by decide +kernel) ⟨(Nat.le_of_ble_eq_true rfl), (Nat.le_of_ble_eq_true rfl)⟩) hK hP hD hS hA [] [] rfl rfl (by decide) rfl hl.1 rfl (Nat.le_of_ble_eq_true rfl) ⟨(Nat.le_of_ble_eq_true rfl), (Nat.le_of_ble_eq_true rfl)⟩ dX4_isColumn_4 (fun r_1 u H locs hw hP hD hS => ?_)
  try dsimp only at hw
  have hP : va_P (dC, dI) vwCl [] H := hP
  have hD : va_D A [] := hD
  obtain ⟨hb_2, hw⟩ := hw
  rw [← hQQ]
  exact g_reti (v := r_1) (u := ()) hx hb hr hb_2 hlocks hw hP hK hD hS dX4_isColumn_7
abbrev rm_X4_isWord : Room := { frames := 1, cells := 0, slots := 0, locals := 22 }
set_option maxHeartbeats 4000000 in
set_option maxRecDepth 100000 in
theorem c_X4_isWord (l : Launch) (dC : Nat → ClassId) (dI : Nat → Nat → Nat) (cI cJ : ClassId) (o o_now o_then o_past o_text o_told o_lit o_whole o_goes o_latest : Nat) (sz : Nat) (s_now : Nat → Int32) (s_kept : Int32) (s_typed : Int32) (s_thrown : Int32) (s_at : Int32) (s_isFault : Int32) (s_value : Int32) (s_tolds : Int32) (s_isLaid : Int32) (p0 : Int32) (Q : Int32 → Prop) (hw : P_X4_isWord p0 s_now Q) : Met l yX4_isWord (Cond.code yX4_isWord cX4_isWord 2 (some .boolean) :: TBL) rm_X4_isWord (gPc (dC, dI) vwCl (gTy cI cJ) [.ref o, .int p0] [(o, .inr (4, [.ref o_now, .ref o_then, .ref o_past, .int s_kept, .ref o_text, .int s_typed, .int s_thrown, .int s_at, .int s_isFault, .int s_value, .ref o_told, .int s_tolds, .ref o_lit, .ref o_whole, .ref o_goes, .int s_isLaid, .ref o_latest])), (o_now, .inl (cI, 87, .inl s_now))] sz) (va_Qi (fun (r : Int32) (u : Unit) => Q r ) (gB (dC, dI) vwCl (gTy cI cJ) (va_A [(o, .inr (4, [.ref o_now, .ref o_then, .ref o_past, .int s_kept, .ref o_text, .int s_typed, .int s_thrown, .int s_at, .int s_isFault, .int s_value, .ref o_told, .int s_tolds, .ref o_lit, .ref o_whole, .ref o_goes, .int s_isLaid, .ref o_latest])), (o_now, .inl (cI, 87, .inl s_now))] sz) (fun (u : Unit) => [(o, .inr (4, [.ref o_now, .ref o_then, .ref o_past, .int s_kept, .ref o_text, .int s_typed, .int s_thrown, .int s_at, .int s_isFault, .int s_value, .ref o_told, .int s_tolds, .ref o_lit, .ref o_whole, .ref o_goes, .int s_isLaid, .ref o_latest])), (o_now, .inl (cI, 87, .inl s_now))])) (va_A [(o, .inr (4, [.ref o_now, .ref o_then, .ref o_past, .int s_kept, .ref o_text, .int s_typed, .int s_thrown, .int s_at, .int s_isFault, .int s_value, .ref o_told, .int s_tolds, .ref o_lit, .ref o_whole, .ref o_goes, .int s_isLaid, .ref o_latest])), (o_now, .inl (cI, 87, .inl s_now))] sz)) 0 0 (va_A [(o, .inr (4, [.ref o_now, .ref o_then, .ref o_past, .int s_kept, .ref o_text, .int s_typed, .int s_thrown, .int s_at, .int s_isFault, .int s_value, .ref o_told, .int s_tolds, .ref o_lit, .ref o_whole, .ref o_goes, .int s_isLaid, .ref o_latest])), (o_now, .inl (cI, 87, .inl s_now))] sz) := by
  refine Met.ofW (cc := cX4_isWord) (maxL := 2) (ret := (some .boolean)) (by decide) rfl ?_
  intro p e s m args below meth c s₁ B hml hv
  obtain ⟨rfl, hsz, hP, hK, hD0⟩ := hv
  have hx := B.exec
  have hb := B.bytes
  have hr := B.returns
  have hts := atoms_spec (ws := Cond.code yX4_isWord cX4_isWord 2 (some .boolean) :: TBL) B.pre
  have ht : ∀ w ∈ TBL, w.before ([.ref o, .int p0] : List Value).toArray s = true := fun w h => hts w (List.mem_cons_of_mem _ h)
  clear hts
  have hown : s.vm.findClass RX4 = some m.cls := findClass_of_methodNamed B.named
  have hlocks := B.notSynchronized
  clear B
  subst hsz
  have hD := hD0.self (sz := s.heap.size)
  clear hD0
  generalize hAe : va_A [(o, .inr (4, [.ref o_now, .ref o_then, .ref o_past, .int s_kept, .ref o_text, .int s_typed, .int s_thrown, .int s_at, .int s_isFault, .int s_value, .ref o_told, .int s_tolds, .ref o_lit, .ref o_whole, .ref o_goes, .int s_isLaid, .ref o_latest])), (o_now, .inl (cI, 87, .inl s_now))] s.heap.size = A at hD ⊢
  have hA : ∀ q : Nat, s.heap.size ≤ q → A q := fun q h => by rw [← hAe]; exact Or.inr h
  clear hAe
  have hS : va_S A s.heap s.heap [] := va_S.rf
  have hP : va_P (dC, dI) vwCl [(o, .inr (4, [.ref o_now, .ref o_then, .ref o_past, .int s_kept, .ref o_text, .int s_typed, .int s_thrown, .int s_at, .int s_isFault, .int s_value, .ref o_told, .int s_tolds, .ref o_lit, .ref o_whole, .ref o_goes, .int s_isLaid, .ref o_latest])), (o_now, .inl (cI, 87, .inl s_now))] s.heap := hP
  have hl := lv_entry ([.ref o, .int p0]) (n := 2) (Nat.le_of_ble_eq_true rfl)
  rw [lg_entry_eq]
  generalize (lg_sl ([.ref o, .int p0]) ++ List.replicate (2 - (lg_sl ([.ref o, .int p0])).length) Slot.unset).toArray = ls at hl ⊢
  have hl : lv_has ls 2 [(0, .ref o), (1, .int p0)] := hl
  generalize hQQ : MQ below _ _ _ 0 0 A = QQ
  show W p l e rm_X4_isWord s m ([.ref o, .int p0] : List Value).toArray below meth c s.heap [] 0 0 QQ (F0 m 0 ls [])
  obtain ⟨H, hHH⟩ : ∃ H, H = s.heap := ⟨_, rfl⟩
  rw [← hHH] at hP ⊢
  have hS : va_S A s.heap H [] := by rw [hHH]; exact hS
  clear hHH
  generalize ([] : List Loc) = locs at hS ⊢
  unfold P_X4_isWord at hw
  refine lv_iload_n hx hb dX4_isWord_0 rfl (lv_at hl 1 rfl) ?_
  refine lv_iconst (v := 0) hx hb dX4_isWord_1 (by decide) ?_
  refine lv_aload_n hx hb dX4_isWord_2 rfl (lv_at hl 0 rfl) ?_
  refine va_get (D := (dC, dI)) (ci := 4) (v := .ref o_now) (C := RX4) (T := TX4) (N := 17) hx hb ht i_X4 hown hK hP 0 rfl rfl 0 (by decide) (ht _ k_818) (fun _ h9 => h9) rfl dX4_isWord_3 ?_
  refine lv_iconst (v := 2) hx hb dX4_isWord_6 (by decide) ?_
  refine gv_iald hx hb hK hP 1 0 rfl rfl (k := 2) (by decide) (by unfold vp_in; decide) dX4_isWord_7 ?_
  refine lv_iconst (v := 1) hx hb dX4_isWord_8 (by decide) ?_
  refine lv_isub hx hb dX4_isWord_9 ?_
  refine gc_Si (As := [.int p0, .int 0, .int ((s_now 2) - 1)]) (rest := []) (wr := [(o, .inr (4, [.ref o_now, .ref o_then, .ref o_past, .int s_kept, .ref o_text, .int s_typed, .int s_thrown, .int s_at, .int s_isFault, .int s_value, .ref o_told, .int s_tolds, .ref o_lit, .ref o_whole, .ref o_goes, .int s_isLaid, .ref o_latest])), (o_now, .inl (cI, 87, .inl s_now))]) ⟨hx, hb, hml, hown, ht⟩ (c_X4_in l dC dI cI cJ  H.size p0 0 ((s_now 2) - 1) _ hw) (va_cwS 3 ht (g_S k_893 k_894 k_5 k_895) rfl rfl rfl (by decide +kernel) ⟨(Nat.le_of_ble_eq_true rfl), (Nat.le_of_ble_eq_true rfl)⟩) hK hP hD hS hA [] [0, 1] rfl rfl (by decide) rfl hl.1 rfl (Nat.le_of_ble_eq_true rfl) ⟨(Nat.le_of_ble_eq_true rfl), (Nat.le_of_ble_eq_true rfl)⟩ dX4_isWord_10 (fun r_1 u H locs hw hP hD hS => ?_)
  try dsimp only at hw
  have hP : va_P (dC, dI) vwCl [(o, .inr (4, [.ref o_now, .ref o_then, .ref o_past, .int s_kept, .ref o_text, .int s_typed, .int s_thrown, .int s_at, .int s_isFault, .int s_value, .ref o_told, .int s_tolds, .ref o_lit, .ref o_whole, .ref o_goes, .int s_isLaid, .ref o_latest])), (o_now, .inl (cI, 87, .inl s_now))] H := hP
  have hD : va_D A [(o, .inr (4, [.ref o_now, .ref o_then, .ref o_past, .int s_kept, .ref o_text, .int s_typed, .int s_thrown, .int s_at, .int s_isFault, .int s_value, .ref o_told, .int s_tolds, .ref o_lit, .ref o_whole, .ref o_goes, .int s_isLaid, .ref o_latest])), (o_now, .inl (cI, 87, .inl s_now))] := hD
  obtain ⟨hb_2, hw⟩ := hw
  rw [← hQQ]
  exact g_reti (v := r_1) (u := ()) hx hb hr hb_2 hlocks hw hP hK hD hS dX4_isWord_13
abbrev rm_X4_isBeam : Room := { frames := 1, cells := 0, slots := 0, locals := 22 }
set_option maxHeartbeats 4000000 in
set_option maxRecDepth 100000 in
theorem c_X4_isBeam (l : Launch) (dC : Nat → ClassId) (dI : Nat → Nat → Nat) (cI cJ : ClassId) (o o_now o_then o_past o_text o_told o_lit o_whole o_goes o_latest : Nat) (sz : Nat) (s_now : Nat → Int32) (s_kept : Int32) (s_typed : Int32) (s_thrown : Int32) (s_at : Int32) (s_isFault : Int32) (s_value : Int32) (s_tolds : Int32) (s_isLaid : Int32) (p0 : Int32) (Q : Int32 → Prop) (hw : P_X4_isBeam p0 s_now Q) : Met l yX4_isBeam (Cond.code yX4_isBeam cX4_isBeam 2 (some .boolean) :: TBL) rm_X4_isBeam (gPc (dC, dI) vwCl (gTy cI cJ) [.ref o, .int p0] [(o, .inr (4, [.ref o_now, .ref o_then, .ref o_past, .int s_kept, .ref o_text, .int s_typed, .int s_thrown, .int s_at, .int s_isFault, .int s_value, .ref o_told, .int s_tolds, .ref o_lit, .ref o_whole, .ref o_goes, .int s_isLaid, .ref o_latest])), (o_now, .inl (cI, 87, .inl s_now))] sz) (va_Qi (fun (r : Int32) (u : Unit) => Q r ) (gB (dC, dI) vwCl (gTy cI cJ) (va_A [(o, .inr (4, [.ref o_now, .ref o_then, .ref o_past, .int s_kept, .ref o_text, .int s_typed, .int s_thrown, .int s_at, .int s_isFault, .int s_value, .ref o_told, .int s_tolds, .ref o_lit, .ref o_whole, .ref o_goes, .int s_isLaid, .ref o_latest])), (o_now, .inl (cI, 87, .inl s_now))] sz) (fun (u : Unit) => [(o, .inr (4, [.ref o_now, .ref o_then, .ref o_past, .int s_kept, .ref o_text, .int s_typed, .int s_thrown, .int s_at, .int s_isFault, .int s_value, .ref o_told, .int s_tolds, .ref o_lit, .ref o_whole, .ref o_goes, .int s_isLaid, .ref o_latest])), (o_now, .inl (cI, 87, .inl s_now))])) (va_A [(o, .inr (4, [.ref o_now, .ref o_then, .ref o_past, .int s_kept, .ref o_text, .int s_typed, .int s_thrown, .int s_at, .int s_isFault, .int s_value, .ref o_told, .int s_tolds, .ref o_lit, .ref o_whole, .ref o_goes, .int s_isLaid, .ref o_latest])), (o_now, .inl (cI, 87, .inl s_now))] sz)) 0 0 (va_A [(o, .inr (4, [.ref o_now, .ref o_then, .ref o_past, .int s_kept, .ref o_text, .int s_typed, .int s_thrown, .int s_at, .int s_isFault, .int s_value, .ref o_told, .int s_tolds, .ref o_lit, .ref o_whole, .ref o_goes, .int s_isLaid, .ref o_latest])), (o_now, .inl (cI, 87, .inl s_now))] sz) := by
  refine Met.ofW (cc := cX4_isBeam) (maxL := 2) (ret := (some .boolean)) (by decide) rfl ?_
  intro p e s m args below meth c s₁ B hml hv
  obtain ⟨rfl, hsz, hP, hK, hD0⟩ := hv
  have hx := B.exec
  have hb := B.bytes
  have hr := B.returns
  have hts := atoms_spec (ws := Cond.code yX4_isBeam cX4_isBeam 2 (some .boolean) :: TBL) B.pre
  have ht : ∀ w ∈ TBL, w.before ([.ref o, .int p0] : List Value).toArray s = true := fun w h => hts w (List.mem_cons_of_mem _ h)
  clear hts
  have hown : s.vm.findClass RX4 = some m.cls := findClass_of_methodNamed B.named
  have hlocks := B.notSynchronized
  clear B
  subst hsz
  have hD := hD0.self (sz := s.heap.size)
  clear hD0
  generalize hAe : va_A [(o, .inr (4, [.ref o_now, .ref o_then, .ref o_past, .int s_kept, .ref o_text, .int s_typed, .int s_thrown, .int s_at, .int s_isFault, .int s_value, .ref o_told, .int s_tolds, .ref o_lit, .ref o_whole, .ref o_goes, .int s_isLaid, .ref o_latest])), (o_now, .inl (cI, 87, .inl s_now))] s.heap.size = A at hD ⊢
  have hA : ∀ q : Nat, s.heap.size ≤ q → A q := fun q h => by rw [← hAe]; exact Or.inr h
  clear hAe
  have hS : va_S A s.heap s.heap [] := va_S.rf
  have hP : va_P (dC, dI) vwCl [(o, .inr (4, [.ref o_now, .ref o_then, .ref o_past, .int s_kept, .ref o_text, .int s_typed, .int s_thrown, .int s_at, .int s_isFault, .int s_value, .ref o_told, .int s_tolds, .ref o_lit, .ref o_whole, .ref o_goes, .int s_isLaid, .ref o_latest])), (o_now, .inl (cI, 87, .inl s_now))] s.heap := hP
  have hl := lv_entry ([.ref o, .int p0]) (n := 2) (Nat.le_of_ble_eq_true rfl)
  rw [lg_entry_eq]
  generalize (lg_sl ([.ref o, .int p0]) ++ List.replicate (2 - (lg_sl ([.ref o, .int p0])).length) Slot.unset).toArray = ls at hl ⊢
  have hl : lv_has ls 2 [(0, .ref o), (1, .int p0)] := hl
  generalize hQQ : MQ below _ _ _ 0 0 A = QQ
  show W p l e rm_X4_isBeam s m ([.ref o, .int p0] : List Value).toArray below meth c s.heap [] 0 0 QQ (F0 m 0 ls [])
  obtain ⟨H, hHH⟩ : ∃ H, H = s.heap := ⟨_, rfl⟩
  rw [← hHH] at hP ⊢
  have hS : va_S A s.heap H [] := by rw [hHH]; exact hS
  clear hHH
  generalize ([] : List Loc) = locs at hS ⊢
  unfold P_X4_isBeam at hw
  refine lv_iload_n hx hb dX4_isBeam_0 rfl (lv_at hl 1 rfl) ?_
  refine lv_iconst (v := 0) hx hb dX4_isBeam_1 (by decide) ?_
  refine lv_aload_n hx hb dX4_isBeam_2 rfl (lv_at hl 0 rfl) ?_
  refine va_get (D := (dC, dI)) (ci := 4) (v := .ref o_now) (C := RX4) (T := TX4) (N := 17) hx hb ht i_X4 hown hK hP 0 rfl rfl 0 (by decide) (ht _ k_818) (fun _ h9 => h9) rfl dX4_isBeam_3 ?_
  refine lv_iconst (v := 3) hx hb dX4_isBeam_6 (by decide) ?_
  refine gv_iald hx hb hK hP 1 0 rfl rfl (k := 3) (by decide) (by unfold vp_in; decide) dX4_isBeam_7 ?_
  refine lv_iconst (v := 1) hx hb dX4_isBeam_8 (by decide) ?_
  refine lv_isub hx hb dX4_isBeam_9 ?_
  refine gc_Si (As := [.int p0, .int 0, .int ((s_now 3) - 1)]) (rest := []) (wr := [(o, .inr (4, [.ref o_now, .ref o_then, .ref o_past, .int s_kept, .ref o_text, .int s_typed, .int s_thrown, .int s_at, .int s_isFault, .int s_value, .ref o_told, .int s_tolds, .ref o_lit, .ref o_whole, .ref o_goes, .int s_isLaid, .ref o_latest])), (o_now, .inl (cI, 87, .inl s_now))]) ⟨hx, hb, hml, hown, ht⟩ (c_X4_in l dC dI cI cJ  H.size p0 0 ((s_now 3) - 1) _ hw) (va_cwS 3 ht (g_S k_893 k_894 k_5 k_895) rfl rfl rfl (by decide +kernel) ⟨(Nat.le_of_ble_eq_true rfl), (Nat.le_of_ble_eq_true rfl)⟩) hK hP hD hS hA [] [0, 1] rfl rfl (by decide) rfl hl.1 rfl (Nat.le_of_ble_eq_true rfl) ⟨(Nat.le_of_ble_eq_true rfl), (Nat.le_of_ble_eq_true rfl)⟩ dX4_isBeam_10 (fun r_1 u H locs hw hP hD hS => ?_)
  try dsimp only at hw
  have hP : va_P (dC, dI) vwCl [(o, .inr (4, [.ref o_now, .ref o_then, .ref o_past, .int s_kept, .ref o_text, .int s_typed, .int s_thrown, .int s_at, .int s_isFault, .int s_value, .ref o_told, .int s_tolds, .ref o_lit, .ref o_whole, .ref o_goes, .int s_isLaid, .ref o_latest])), (o_now, .inl (cI, 87, .inl s_now))] H := hP
  have hD : va_D A [(o, .inr (4, [.ref o_now, .ref o_then, .ref o_past, .int s_kept, .ref o_text, .int s_typed, .int s_thrown, .int s_at, .int s_isFault, .int s_value, .ref o_told, .int s_tolds, .ref o_lit, .ref o_whole, .ref o_goes, .int s_isLaid, .ref o_latest])), (o_now, .inl (cI, 87, .inl s_now))] := hD
  obtain ⟨hb_2, hw⟩ := hw
  rw [← hQQ]
  exact g_reti (v := r_1) (u := ()) hx hb hr hb_2 hlocks hw hP hK hD hS dX4_isBeam_13
abbrev rm_X4_of : Room := { frames := 0, cells := 0, slots := 0, locals := 0 }
set_option maxHeartbeats 4000000 in
set_option maxRecDepth 100000 in
theorem c_X4_of (l : Launch) (dC : Nat → ClassId) (dI : Nat → Nat → Nat) (cI cJ : ClassId) (r0 : Nat) (sz : Nat) (s_r0 : Nat → Int32) (p1 : Int32) (p2 : Int32) (Q : Int32 → Prop) (hw : P_X4_of p1 p2 s_r0 Q) : Met l yX4_of (Cond.code yX4_of cX4_of 3 (some .int) :: TBL) rm_X4_of (gPc (dC, dI) vwCl (gTy cI cJ) [.ref r0, .int p1, .int p2] [(r0, .inl (cI, 87, .inl s_r0))] sz) (va_Qi (fun (r : Int32) (u : Unit) => Q r ) (gB (dC, dI) vwCl (gTy cI cJ) (va_A [(r0, .inl (cI, 87, .inl s_r0))] sz) (fun (u : Unit) => [(r0, .inl (cI, 87, .inl s_r0))])) (va_A [(r0, .inl (cI, 87, .inl s_r0))] sz)) 0 0 (va_A [(r0, .inl (cI, 87, .inl s_r0))] sz) := by
  refine Met.ofW (cc := cX4_of) (maxL := 3) (ret := (some .int)) (by decide) rfl ?_
  intro p e s m args below meth c s₁ B hml hv
  obtain ⟨rfl, hsz, hP, hK, hD0⟩ := hv
  have hx := B.exec
  have hb := B.bytes
  have hr := B.returns
  have hts := atoms_spec (ws := Cond.code yX4_of cX4_of 3 (some .int) :: TBL) B.pre
  have ht : ∀ w ∈ TBL, w.before ([.ref r0, .int p1, .int p2] : List Value).toArray s = true := fun w h => hts w (List.mem_cons_of_mem _ h)
  clear hts
  have hown : s.vm.findClass RX4 = some m.cls := findClass_of_methodNamed B.named
  have hlocks := B.notSynchronized
  clear B
  subst hsz
  have hD := hD0.self (sz := s.heap.size)
  clear hD0
  generalize hAe : va_A [(r0, .inl (cI, 87, .inl s_r0))] s.heap.size = A at hD ⊢
  have hA : ∀ q : Nat, s.heap.size ≤ q → A q := fun q h => by rw [← hAe]; exact Or.inr h
  clear hAe
  have hS : va_S A s.heap s.heap [] := va_S.rf
  have hP : va_P (dC, dI) vwCl [(r0, .inl (cI, 87, .inl s_r0))] s.heap := hP
  have hl := lv_entry ([.ref r0, .int p1, .int p2]) (n := 3) (Nat.le_of_ble_eq_true rfl)
  rw [lg_entry_eq]
  generalize (lg_sl ([.ref r0, .int p1, .int p2]) ++ List.replicate (3 - (lg_sl ([.ref r0, .int p1, .int p2])).length) Slot.unset).toArray = ls at hl ⊢
  have hl : lv_has ls 3 [(0, .ref r0), (1, .int p1), (2, .int p2)] := hl
  generalize hQQ : MQ below _ _ _ 0 0 A = QQ
  show W p l e rm_X4_of s m ([.ref r0, .int p1, .int p2] : List Value).toArray below meth c s.heap [] 0 0 QQ (F0 m 0 ls [])
  obtain ⟨H, hHH⟩ : ∃ H, H = s.heap := ⟨_, rfl⟩
  rw [← hHH] at hP ⊢
  have hS : va_S A s.heap H [] := by rw [hHH]; exact hS
  clear hHH
  generalize ([] : List Loc) = locs at hS ⊢
  unfold P_X4_of at hw
  refine lv_aload_n hx hb dX4_of_0 rfl (lv_at hl 0 rfl) ?_
  refine lv_iconst (v := 4) hx hb dX4_of_1 (by decide) ?_
  refine lv_bipush (v := 6) hx hb dX4_of_2 (by decide) ?_
  refine lv_iload_n hx hb dX4_of_4 rfl (lv_at hl 1 rfl) ?_
  refine lv_imul hx hb dX4_of_5 ?_
  refine lv_iadd hx hb dX4_of_6 ?_
  refine lv_iload_n hx hb dX4_of_7 rfl (lv_at hl 2 rfl) ?_
  refine lv_iadd hx hb dX4_of_8 ?_
  obtain ⟨hi_1, hw⟩ := hw
  refine gv_iald hx hb hK hP 0 0 rfl rfl rfl hi_1 dX4_of_9 ?_
  rw [← hQQ]
  exact g_reti (v := (s_r0 (((4 + (6 * p1)) + p2).toNatClampNeg))) (u := ()) hx hb hr rfl hlocks hw hP hK hD hS dX4_of_10
abbrev rm_X4_by : Room := { frames := 0, cells := 0, slots := 0, locals := 0 }
set_option maxHeartbeats 4000000 in
set_option maxRecDepth 100000 in
theorem c_X4_by (l : Launch) (dC : Nat → ClassId) (dI : Nat → Nat → Nat) (cI cJ : ClassId) (r0 : Nat) (sz : Nat) (s_r0 : Nat → Int32) (p1 : Int32) (p2 : Int32) (Q : Int32 → Prop) (hw : P_X4_by p1 p2 s_r0 Q) : Met l yX4_by (Cond.code yX4_by cX4_by 3 (some .int) :: TBL) rm_X4_by (gPc (dC, dI) vwCl (gTy cI cJ) [.ref r0, .int p1, .int p2] [(r0, .inl (cI, 87, .inl s_r0))] sz) (va_Qi (fun (r : Int32) (u : Unit) => Q r ) (gB (dC, dI) vwCl (gTy cI cJ) (va_A [(r0, .inl (cI, 87, .inl s_r0))] sz) (fun (u : Unit) => [(r0, .inl (cI, 87, .inl s_r0))])) (va_A [(r0, .inl (cI, 87, .inl s_r0))] sz)) 0 0 (va_A [(r0, .inl (cI, 87, .inl s_r0))] sz) := by
  refine Met.ofW (cc := cX4_by) (maxL := 3) (ret := (some .int)) (by decide) rfl ?_
  intro p e s m args below meth c s₁ B hml hv
  obtain ⟨rfl, hsz, hP, hK, hD0⟩ := hv
  have hx := B.exec
  have hb := B.bytes
  have hr := B.returns
  have hts := atoms_spec (ws := Cond.code yX4_by cX4_by 3 (some .int) :: TBL) B.pre
  have ht : ∀ w ∈ TBL, w.before ([.ref r0, .int p1, .int p2] : List Value).toArray s = true := fun w h => hts w (List.mem_cons_of_mem _ h)
  clear hts
  have hown : s.vm.findClass RX4 = some m.cls := findClass_of_methodNamed B.named
  have hlocks := B.notSynchronized
  clear B
  subst hsz
  have hD := hD0.self (sz := s.heap.size)
  clear hD0
  generalize hAe : va_A [(r0, .inl (cI, 87, .inl s_r0))] s.heap.size = A at hD ⊢
  have hA : ∀ q : Nat, s.heap.size ≤ q → A q := fun q h => by rw [← hAe]; exact Or.inr h
  clear hAe
  have hS : va_S A s.heap s.heap [] := va_S.rf
  have hP : va_P (dC, dI) vwCl [(r0, .inl (cI, 87, .inl s_r0))] s.heap := hP
  have hl := lv_entry ([.ref r0, .int p1, .int p2]) (n := 3) (Nat.le_of_ble_eq_true rfl)
  rw [lg_entry_eq]
  generalize (lg_sl ([.ref r0, .int p1, .int p2]) ++ List.replicate (3 - (lg_sl ([.ref r0, .int p1, .int p2])).length) Slot.unset).toArray = ls at hl ⊢
  have hl : lv_has ls 3 [(0, .ref r0), (1, .int p1), (2, .int p2)] := hl
  generalize hQQ : MQ below _ _ _ 0 0 A = QQ
  show W p l e rm_X4_by s m ([.ref r0, .int p1, .int p2] : List Value).toArray below meth c s.heap [] 0 0 QQ (F0 m 0 ls [])
  obtain ⟨H, hHH⟩ : ∃ H, H = s.heap := ⟨_, rfl⟩
  rw [← hHH] at hP ⊢
  have hS : va_S A s.heap H [] := by rw [hHH]; exact hS
  clear hHH
  generalize ([] : List Loc) = locs at hS ⊢
  unfold P_X4_by at hw
  refine lv_aload_n hx hb dX4_by_0 rfl (lv_at hl 0 rfl) ?_
  refine lv_bipush (v := 52) hx hb dX4_by_1 (by decide) ?_
  refine lv_iconst (v := 5) hx hb dX4_by_3 (by decide) ?_
  refine lv_iload_n hx hb dX4_by_4 rfl (lv_at hl 1 rfl) ?_
  refine lv_imul hx hb dX4_by_5 ?_
  refine lv_iadd hx hb dX4_by_6 ?_
  refine lv_iload_n hx hb dX4_by_7 rfl (lv_at hl 2 rfl) ?_
  refine lv_iadd hx hb dX4_by_8 ?_
  obtain ⟨hi_1, hw⟩ := hw
  refine gv_iald hx hb hK hP 0 0 rfl rfl rfl hi_1 dX4_by_9 ?_
  rw [← hQQ]
  exact g_reti (v := (s_r0 (((52 + (5 * p1)) + p2).toNatClampNeg))) (u := ()) hx hb hr rfl hlocks hw hP hK hD hS dX4_by_10
abbrev rm_X4_copies : Room := { frames := 0, cells := 0, slots := 0, locals := 0 }
set_option maxHeartbeats 4000000 in
set_option maxRecDepth 100000 in
theorem c_X4_copies (l : Launch) (dC : Nat → ClassId) (dI : Nat → Nat → Nat) (cI cJ : ClassId) (r0 r2 : Nat) (n_r0 : Nat) (n_r2 : Nat) (sz : Nat) (s_r0 : Nat → Int32) (s_r2 : Nat → Int32) (p1 : Int32) (p3 : Int32) (Q : (Nat → Int32) → Prop) (hw : P_X4_copies n_r0 n_r2 p1 p3 s_r0 s_r2 Q) : Met l yX4_copies (Cond.code yX4_copies cX4_copies 5 none :: TBL) rm_X4_copies (gPc (dC, dI) vwCl (gTy cI cJ) [.ref r0, .int p1, .ref r2, .int p3] [(r0, .inl (cI, n_r0, .inl s_r0)), (r2, .inl (cI, n_r2, .inl s_r2))] sz) (va_Qv (fun (u : (Nat → Int32)) => Q u) (gB (dC, dI) vwCl (gTy cI cJ) (va_A [(r0, .inl (cI, n_r0, .inl s_r0)), (r2, .inl (cI, n_r2, .inl s_r2))] sz) (fun (u : (Nat → Int32)) => [(r0, .inl (cI, n_r0, .inl s_r0)), (r2, .inl (cI, n_r2, .inl u))])) (va_A [(r0, .inl (cI, n_r0, .inl s_r0)), (r2, .inl (cI, n_r2, .inl s_r2))] sz)) 0 0 (va_A [(r0, .inl (cI, n_r0, .inl s_r0)), (r2, .inl (cI, n_r2, .inl s_r2))] sz) := by
  refine Met.ofW (cc := cX4_copies) (maxL := 5) (ret := none) (by decide) rfl ?_
  intro p e s m args below meth c s₁ B hml hv
  obtain ⟨rfl, hsz, hP, hK, hD0⟩ := hv
  have hx := B.exec
  have hb := B.bytes
  have hr := B.returns
  have hts := atoms_spec (ws := Cond.code yX4_copies cX4_copies 5 none :: TBL) B.pre
  have ht : ∀ w ∈ TBL, w.before ([.ref r0, .int p1, .ref r2, .int p3] : List Value).toArray s = true := fun w h => hts w (List.mem_cons_of_mem _ h)
  clear hts
  have hown : s.vm.findClass RX4 = some m.cls := findClass_of_methodNamed B.named
  have hlocks := B.notSynchronized
  clear B
  subst hsz
  have hD := hD0.self (sz := s.heap.size)
  clear hD0
  generalize hAe : va_A [(r0, .inl (cI, n_r0, .inl s_r0)), (r2, .inl (cI, n_r2, .inl s_r2))] s.heap.size = A at hD ⊢
  have hA : ∀ q : Nat, s.heap.size ≤ q → A q := fun q h => by rw [← hAe]; exact Or.inr h
  clear hAe
  have hS : va_S A s.heap s.heap [] := va_S.rf
  have hP : va_P (dC, dI) vwCl [(r0, .inl (cI, n_r0, .inl s_r0)), (r2, .inl (cI, n_r2, .inl s_r2))] s.heap := hP
  have hl := lv_entry ([.ref r0, .int p1, .ref r2, .int p3]) (n := 5) (Nat.le_of_ble_eq_true rfl)
  rw [lg_entry_eq]
  generalize (lg_sl ([.ref r0, .int p1, .ref r2, .int p3]) ++ List.replicate (5 - (lg_sl ([.ref r0, .int p1, .ref r2, .int p3])).length) Slot.unset).toArray = ls at hl ⊢
  have hl : lv_has ls 5 [(0, .ref r0), (1, .int p1), (2, .ref r2), (3, .int p3)] := hl
  generalize hQQ : MQ below _ _ _ 0 0 A = QQ
  show W p l e rm_X4_copies s m ([.ref r0, .int p1, .ref r2, .int p3] : List Value).toArray below meth c s.heap [] 0 0 QQ (F0 m 0 ls [])
  have L3 : ∀ (x1 : Int32) (x3 : Int32), ∀ (n : Nat) (x4 : Int32) (s_r2 : Nat → Int32), P_X4_copies_L3 n_r0 n_r2 x1 x3 s_r0 Q n x4 s_r2 → ∀ (H : Heap) (locs : List Loc) (ls : Array Slot), va_P (dC, dI) vwCl [(r0, .inl (cI, n_r0, .inl s_r0)), (r2, .inl (cI, n_r2, .inl s_r2))] H → va_D A [(r0, .inl (cI, n_r0, .inl s_r0)), (r2, .inl (cI, n_r2, .inl s_r2))] → va_S A s.heap H locs → lv_has ls 5 [(0, .ref r0), (1, .int x1), (2, .ref r2), (3, .int x3), (4, .int x4)] → W p l e rm_X4_copies s m ([.ref r0, .int p1, .ref r2, .int p3] : List Value).toArray below meth c H locs 0 0 QQ (F0 m 3 ls []) := by
    intro x1 x3
    intro n
    induction n with
    | zero => intro x4 s_r2 hw; rw [P_X4_copies_L3_z] at hw; exact hw.elim
    | succ n ih =>
      intro x4 s_r2 hw
      rw [P_X4_copies_L3_s] at hw
      generalize hrec : P_X4_copies_L3 n_r0 n_r2 x1 x3 s_r0 Q n = rec3 at ih hw
      intro H locs ls hP hD hS hl
      unfold B_X4_copies_L3 at hw
      refine lv_iload hx hb dX4_copies_3 (lv_at hl 4 rfl) ?_
      refine lv_bipush (v := 87) hx hb dX4_copies_5 (by decide) ?_
      refine lv_icmp_ge (tgt := 28) hx hb dX4_copies_7 (by decide) (fun hc => ?_) (fun hc => ?_)
      · have hw := hw.1 hc
        rw [← hQQ]
        exact g_retv (u := s_r2) hx hb hr hlocks hw hP hK hD hS dX4_copies_28
      · have hw := hw.2 hc
        refine lv_aload_n hx hb dX4_copies_10 rfl (lv_at hl 2 rfl) ?_
        refine lv_iload_n hx hb dX4_copies_11 rfl (lv_at hl 3 rfl) ?_
        refine lv_iload hx hb dX4_copies_12 (lv_at hl 4 rfl) ?_
        refine lv_iadd hx hb dX4_copies_14 ?_
        refine lv_aload_n hx hb dX4_copies_15 rfl (lv_at hl 0 rfl) ?_
        refine lv_iload_n hx hb dX4_copies_16 rfl (lv_at hl 1 rfl) ?_
        refine lv_iload hx hb dX4_copies_17 (lv_at hl 4 rfl) ?_
        refine lv_iadd hx hb dX4_copies_19 ?_
        obtain ⟨hi_1, hw⟩ := hw
        refine gv_iald hx hb hK hP 0 0 rfl rfl rfl hi_1 dX4_copies_20 ?_
        obtain ⟨hi_2, hw⟩ := hw
        refine gv_iast hx hb hK hP hD hS 1 0 rfl rfl rfl hi_2 dX4_copies_21 (fun H locs hP hD hS => ?_)
        have hP : va_P (dC, dI) vwCl [(r0, .inl (cI, n_r0, .inl s_r0)), (r2, .inl (cI, n_r2, .inl (upd s_r2 ((x3 + x4).toNatClampNeg) (s_r0 ((x1 + x4).toNatClampNeg)))))] H := hP
        have hD : va_D A [(r0, .inl (cI, n_r0, .inl s_r0)), (r2, .inl (cI, n_r2, .inl (upd s_r2 ((x3 + x4).toNatClampNeg) (s_r0 ((x1 + x4).toNatClampNeg)))))] := hD
        refine lv_iinc (v := (x4 + 1)) (lv' := [(4, .int (x4 + 1)), (0, .ref r0), (1, .int x1), (2, .ref r2), (3, .int x3)]) hx hb dX4_copies_22 hl (k := 4) rfl rfl (by decide) rfl (fun ls hl => ?_)
        refine lv_goto (tgt := 3) hx hb dX4_copies_25 (by decide) ?_
        exact ih (x4 + 1) (upd s_r2 ((x3 + x4).toNatClampNeg) (s_r0 ((x1 + x4).toNatClampNeg))) hw H locs ls hP hD hS (lv_sub (l' := [(0, .ref r0), (1, .int x1), (2, .ref r2), (3, .int x3), (4, .int (x4 + 1))]) hl [1, 2, 3, 4, 0] rfl)
  obtain ⟨H, hHH⟩ : ∃ H, H = s.heap := ⟨_, rfl⟩
  rw [← hHH] at hP ⊢
  have hS : va_S A s.heap H [] := by rw [hHH]; exact hS
  clear hHH
  generalize ([] : List Loc) = locs at hS ⊢
  unfold P_X4_copies at hw
  refine lv_iconst (v := 0) hx hb dX4_copies_0 (by decide) ?_
  refine lv_istore (lv' := [(4, .int 0), (0, .ref r0), (1, .int p1), (2, .ref r2), (3, .int p3)]) hx hb dX4_copies_1 hl (by decide) rfl (fun ls hl => ?_)
  obtain ⟨n, hw⟩ := hw
  exact L3 p1 p3 n 0 s_r2 hw H locs ls hP hD hS (lv_sub (l' := [(0, .ref r0), (1, .int p1), (2, .ref r2), (3, .int p3), (4, .int 0)]) hl [1, 2, 3, 4, 0] rfl)
abbrev rm_X4_saves : Room := { frames := 1, cells := 0, slots := 0, locals := 24 }
set_option maxHeartbeats 4000000 in
set_option maxRecDepth 100000 in
theorem c_X4_saves (l : Launch) (dC : Nat → ClassId) (dI : Nat → Nat → Nat) (cI cJ : ClassId) (o o_now o_then o_past o_text o_told o_lit o_whole o_goes o_latest : Nat) (sz : Nat) (s_now : Nat → Int32) (s_past : Nat → Int32) (s_kept : Int32) (s_isLaid : Int32) (s_typed : Int32) (s_thrown : Int32) (s_at : Int32) (s_isFault : Int32) (s_value : Int32) (s_tolds : Int32)  (Q : (Nat → Int32) → Int32 → Int32 → Prop) (hw : P_X4_saves s_now s_past s_kept s_isLaid Q) : Met l yX4_saves (Cond.code yX4_saves cX4_saves 2 none :: TBL) rm_X4_saves (gPc (dC, dI) vwCl (gTy cI cJ) [.ref o] [(o, .inr (4, [.ref o_now, .ref o_then, .ref o_past, .int s_kept, .ref o_text, .int s_typed, .int s_thrown, .int s_at, .int s_isFault, .int s_value, .ref o_told, .int s_tolds, .ref o_lit, .ref o_whole, .ref o_goes, .int s_isLaid, .ref o_latest])), (o_now, .inl (cI, 87, .inl s_now)), (o_past, .inl (cI, 522, .inl s_past))] sz) (va_Qv (fun (u : (Nat → Int32) × Int32 × Int32) => Q u.1 u.2.1 u.2.2) (gB (dC, dI) vwCl (gTy cI cJ) (va_A [(o, .inr (4, [.ref o_now, .ref o_then, .ref o_past, .int s_kept, .ref o_text, .int s_typed, .int s_thrown, .int s_at, .int s_isFault, .int s_value, .ref o_told, .int s_tolds, .ref o_lit, .ref o_whole, .ref o_goes, .int s_isLaid, .ref o_latest])), (o_now, .inl (cI, 87, .inl s_now)), (o_past, .inl (cI, 522, .inl s_past))] sz) (fun (u : (Nat → Int32) × Int32 × Int32) => [(o, .inr (4, [.ref o_now, .ref o_then, .ref o_past, .int u.2.1, .ref o_text, .int s_typed, .int s_thrown, .int s_at, .int s_isFault, .int s_value, .ref o_told, .int s_tolds, .ref o_lit, .ref o_whole, .ref o_goes, .int u.2.2, .ref o_latest])), (o_now, .inl (cI, 87, .inl s_now)), (o_past, .inl (cI, 522, .inl u.1))])) (va_A [(o, .inr (4, [.ref o_now, .ref o_then, .ref o_past, .int s_kept, .ref o_text, .int s_typed, .int s_thrown, .int s_at, .int s_isFault, .int s_value, .ref o_told, .int s_tolds, .ref o_lit, .ref o_whole, .ref o_goes, .int s_isLaid, .ref o_latest])), (o_now, .inl (cI, 87, .inl s_now)), (o_past, .inl (cI, 522, .inl s_past))] sz)) 0 0 (va_A [(o, .inr (4, [.ref o_now, .ref o_then, .ref o_past, .int s_kept, .ref o_text, .int s_typed, .int s_thrown, .int s_at, .int s_isFault, .int s_value, .ref o_told, .int s_tolds, .ref o_lit, .ref o_whole, .ref o_goes, .int s_isLaid, .ref o_latest])), (o_now, .inl (cI, 87, .inl s_now)), (o_past, .inl (cI, 522, .inl s_past))] sz) := by
  refine Met.ofW (cc := cX4_saves) (maxL := 2) (ret := none) (by decide) rfl ?_
  intro p e s m args below meth c s₁ B hml hv
  obtain ⟨rfl, hsz, hP, hK, hD0⟩ := hv
  have hx := B.exec
  have hb := B.bytes
  have hr := B.returns
  have hts := atoms_spec (ws := Cond.code yX4_saves cX4_saves 2 none :: TBL) B.pre
  have ht : ∀ w ∈ TBL, w.before ([.ref o] : List Value).toArray s = true := fun w h => hts w (List.mem_cons_of_mem _ h)
  clear hts
  have hown : s.vm.findClass RX4 = some m.cls := findClass_of_methodNamed B.named
  have hlocks := B.notSynchronized
  clear B
  subst hsz
  have hD := hD0.self (sz := s.heap.size)
  clear hD0
  generalize hAe : va_A [(o, .inr (4, [.ref o_now, .ref o_then, .ref o_past, .int s_kept, .ref o_text, .int s_typed, .int s_thrown, .int s_at, .int s_isFault, .int s_value, .ref o_told, .int s_tolds, .ref o_lit, .ref o_whole, .ref o_goes, .int s_isLaid, .ref o_latest])), (o_now, .inl (cI, 87, .inl s_now)), (o_past, .inl (cI, 522, .inl s_past))] s.heap.size = A at hD ⊢
  have hA : ∀ q : Nat, s.heap.size ≤ q → A q := fun q h => by rw [← hAe]; exact Or.inr h
  clear hAe
  have hS : va_S A s.heap s.heap [] := va_S.rf
  have hP : va_P (dC, dI) vwCl [(o, .inr (4, [.ref o_now, .ref o_then, .ref o_past, .int s_kept, .ref o_text, .int s_typed, .int s_thrown, .int s_at, .int s_isFault, .int s_value, .ref o_told, .int s_tolds, .ref o_lit, .ref o_whole, .ref o_goes, .int s_isLaid, .ref o_latest])), (o_now, .inl (cI, 87, .inl s_now)), (o_past, .inl (cI, 522, .inl s_past))] s.heap := hP
  have hl := lv_entry ([.ref o]) (n := 2) (Nat.le_of_ble_eq_true rfl)
  rw [lg_entry_eq]
  generalize (lg_sl ([.ref o]) ++ List.replicate (2 - (lg_sl ([.ref o])).length) Slot.unset).toArray = ls at hl ⊢
  have hl : lv_has ls 2 [(0, .ref o)] := hl
  generalize hQQ : MQ below _ _ _ 0 0 A = QQ
  show W p l e rm_X4_saves s m ([.ref o] : List Value).toArray below meth c s.heap [] 0 0 QQ (F0 m 0 ls [])
  have L16 : ∀ (s_isLaid : Int32) (K16_44 : (Nat → Int32) → Prop), (∀ (s_past : Nat → Int32), K16_44 s_past → ∀ (H : Heap) (locs : List Loc) (ls : Array Slot), va_P (dC, dI) vwCl [(o, .inr (4, [.ref o_now, .ref o_then, .ref o_past, .int s_kept, .ref o_text, .int s_typed, .int s_thrown, .int s_at, .int s_isFault, .int s_value, .ref o_told, .int s_tolds, .ref o_lit, .ref o_whole, .ref o_goes, .int s_isLaid, .ref o_latest])), (o_now, .inl (cI, 87, .inl s_now)), (o_past, .inl (cI, 522, .inl s_past))] H → va_D A [(o, .inr (4, [.ref o_now, .ref o_then, .ref o_past, .int s_kept, .ref o_text, .int s_typed, .int s_thrown, .int s_at, .int s_isFault, .int s_value, .ref o_told, .int s_tolds, .ref o_lit, .ref o_whole, .ref o_goes, .int s_isLaid, .ref o_latest])), (o_now, .inl (cI, 87, .inl s_now)), (o_past, .inl (cI, 522, .inl s_past))] → va_S A s.heap H locs → lv_has ls 2 [(0, .ref o)] → W p l e rm_X4_saves s m ([.ref o] : List Value).toArray below meth c H locs 0 0 QQ (F0 m 44 ls [])) → ∀ (n : Nat) (x1 : Int32) (s_past : Nat → Int32), P_X4_saves_L16 K16_44 n x1 s_past → ∀ (H : Heap) (locs : List Loc) (ls : Array Slot), va_P (dC, dI) vwCl [(o, .inr (4, [.ref o_now, .ref o_then, .ref o_past, .int s_kept, .ref o_text, .int s_typed, .int s_thrown, .int s_at, .int s_isFault, .int s_value, .ref o_told, .int s_tolds, .ref o_lit, .ref o_whole, .ref o_goes, .int s_isLaid, .ref o_latest])), (o_now, .inl (cI, 87, .inl s_now)), (o_past, .inl (cI, 522, .inl s_past))] H → va_D A [(o, .inr (4, [.ref o_now, .ref o_then, .ref o_past, .int s_kept, .ref o_text, .int s_typed, .int s_thrown, .int s_at, .int s_isFault, .int s_value, .ref o_told, .int s_tolds, .ref o_lit, .ref o_whole, .ref o_goes, .int s_isLaid, .ref o_latest])), (o_now, .inl (cI, 87, .inl s_now)), (o_past, .inl (cI, 522, .inl s_past))] → va_S A s.heap H locs → lv_has ls 2 [(0, .ref o), (1, .int x1)] → W p l e rm_X4_saves s m ([.ref o] : List Value).toArray below meth c H locs 0 0 QQ (F0 m 16 ls []) := by
    intro s_isLaid K16_44 hK16_44
    intro n
    induction n with
    | zero => intro x1 s_past hw; rw [P_X4_saves_L16_z] at hw; exact hw.elim
    | succ n ih =>
      intro x1 s_past hw
      rw [P_X4_saves_L16_s] at hw
      generalize hrec : P_X4_saves_L16 K16_44 n = rec16 at ih hw
      intro H locs ls hP hD hS hl
      unfold B_X4_saves_L16 at hw
      refine lv_iload_n hx hb dX4_saves_16 rfl (lv_at hl 1 rfl) ?_
      refine lv_sipush (v := 435) hx hb dX4_saves_17 (by decide) ?_
      refine lv_icmp_ge (tgt := 44) hx hb dX4_saves_20 (by decide) (fun hc => ?_) (fun hc => ?_)
      · have hw := hw.1 hc
        exact hK16_44 s_past hw H locs ls hP hD hS (lv_sub (l' := [(0, .ref o)]) hl [0] rfl)
      · have hw := hw.2 hc
        refine lv_aload_n hx hb dX4_saves_23 rfl (lv_at hl 0 rfl) ?_
        refine va_get (D := (dC, dI)) (ci := 4) (v := .ref o_past) (C := RX4) (T := TX4) (N := 17) hx hb ht i_X4 hown hK hP 0 rfl rfl 2 (by decide) (ht _ k_820) (fun _ h9 => h9) rfl dX4_saves_24 ?_
        refine lv_iload_n hx hb dX4_saves_27 rfl (lv_at hl 1 rfl) ?_
        refine lv_aload_n hx hb dX4_saves_28 rfl (lv_at hl 0 rfl) ?_
        refine va_get (D := (dC, dI)) (ci := 4) (v := .ref o_past) (C := RX4) (T := TX4) (N := 17) hx hb ht i_X4 hown hK hP 0 rfl rfl 2 (by decide) (ht _ k_820) (fun _ h9 => h9) rfl dX4_saves_29 ?_
        refine lv_iload_n hx hb dX4_saves_32 rfl (lv_at hl 1 rfl) ?_
        refine lv_bipush (v := 87) hx hb dX4_saves_33 (by decide) ?_
        refine lv_iadd hx hb dX4_saves_35 ?_
        obtain ⟨hi_1, hw⟩ := hw
        refine gv_iald hx hb hK hP 2 0 rfl rfl rfl hi_1 dX4_saves_36 ?_
        obtain ⟨hi_2, hw⟩ := hw
        refine gv_iast hx hb hK hP hD hS 2 0 rfl rfl rfl hi_2 dX4_saves_37 (fun H locs hP hD hS => ?_)
        have hP : va_P (dC, dI) vwCl [(o, .inr (4, [.ref o_now, .ref o_then, .ref o_past, .int s_kept, .ref o_text, .int s_typed, .int s_thrown, .int s_at, .int s_isFault, .int s_value, .ref o_told, .int s_tolds, .ref o_lit, .ref o_whole, .ref o_goes, .int s_isLaid, .ref o_latest])), (o_now, .inl (cI, 87, .inl s_now)), (o_past, .inl (cI, 522, .inl (upd s_past x1.toNatClampNeg (s_past ((x1 + 87).toNatClampNeg)))))] H := hP
        have hD : va_D A [(o, .inr (4, [.ref o_now, .ref o_then, .ref o_past, .int s_kept, .ref o_text, .int s_typed, .int s_thrown, .int s_at, .int s_isFault, .int s_value, .ref o_told, .int s_tolds, .ref o_lit, .ref o_whole, .ref o_goes, .int s_isLaid, .ref o_latest])), (o_now, .inl (cI, 87, .inl s_now)), (o_past, .inl (cI, 522, .inl (upd s_past x1.toNatClampNeg (s_past ((x1 + 87).toNatClampNeg)))))] := hD
        refine lv_iinc (v := (x1 + 1)) (lv' := [(1, .int (x1 + 1)), (0, .ref o)]) hx hb dX4_saves_38 hl (k := 1) rfl rfl (by decide) rfl (fun ls hl => ?_)
        refine lv_goto (tgt := 16) hx hb dX4_saves_41 (by decide) ?_
        exact ih (x1 + 1) (upd s_past x1.toNatClampNeg (s_past ((x1 + 87).toNatClampNeg))) hw H locs ls hP hD hS (lv_sub (l' := [(0, .ref o), (1, .int (x1 + 1))]) hl [1, 0] rfl)
  have J54 : ∀ (s_past : Nat → Int32) (s_kept : Int32) (s_isLaid : Int32), P_X4_saves_J54 s_now Q s_past s_kept s_isLaid → ∀ (H : Heap) (locs : List Loc) (ls : Array Slot), va_P (dC, dI) vwCl [(o, .inr (4, [.ref o_now, .ref o_then, .ref o_past, .int s_kept, .ref o_text, .int s_typed, .int s_thrown, .int s_at, .int s_isFault, .int s_value, .ref o_told, .int s_tolds, .ref o_lit, .ref o_whole, .ref o_goes, .int s_isLaid, .ref o_latest])), (o_now, .inl (cI, 87, .inl s_now)), (o_past, .inl (cI, 522, .inl s_past))] H → va_D A [(o, .inr (4, [.ref o_now, .ref o_then, .ref o_past, .int s_kept, .ref o_text, .int s_typed, .int s_thrown, .int s_at, .int s_isFault, .int s_value, .ref o_told, .int s_tolds, .ref o_lit, .ref o_whole, .ref o_goes, .int s_isLaid, .ref o_latest])), (o_now, .inl (cI, 87, .inl s_now)), (o_past, .inl (cI, 522, .inl s_past))] → va_S A s.heap H locs → lv_has ls 2 [(0, .ref o)] → W p l e rm_X4_saves s m ([.ref o] : List Value).toArray below meth c H locs 0 0 QQ (F0 m 54 ls []) := by
    intro s_past s_kept s_isLaid hw H locs ls hP hD hS hl
    unfold P_X4_saves_J54 at hw
    refine lv_aload_n hx hb dX4_saves_54 rfl (lv_at hl 0 rfl) ?_
    refine va_get (D := (dC, dI)) (ci := 4) (v := .ref o_now) (C := RX4) (T := TX4) (N := 17) hx hb ht i_X4 hown hK hP 0 rfl rfl 0 (by decide) (ht _ k_818) (fun _ h9 => h9) rfl dX4_saves_55 ?_
    refine lv_iconst (v := 0) hx hb dX4_saves_58 (by decide) ?_
    refine lv_aload_n hx hb dX4_saves_59 rfl (lv_at hl 0 rfl) ?_
    refine va_get (D := (dC, dI)) (ci := 4) (v := .ref o_past) (C := RX4) (T := TX4) (N := 17) hx hb ht i_X4 hown hK hP 0 rfl rfl 2 (by decide) (ht _ k_820) (fun _ h9 => h9) rfl dX4_saves_60 ?_
    refine lv_bipush (v := 87) hx hb dX4_saves_63 (by decide) ?_
    refine lv_aload_n hx hb dX4_saves_65 rfl (lv_at hl 0 rfl) ?_
    refine va_get (D := (dC, dI)) (ci := 4) (v := .int s_kept) (C := RX4) (T := TX4) (N := 17) hx hb ht i_X4 hown hK hP 0 rfl rfl 3 (by decide) (ht _ k_821) (fun _ h9 => h9) rfl dX4_saves_66 ?_
    refine lv_imul hx hb dX4_saves_69 ?_
    refine gc_Sv (As := [.ref o_now, .int 0, .ref o_past, .int (87 * s_kept)]) (rest := []) (wr := [(o, .inr (4, [.ref o_now, .ref o_then, .ref o_past, .int s_kept, .ref o_text, .int s_typed, .int s_thrown, .int s_at, .int s_isFault, .int s_value, .ref o_told, .int s_tolds, .ref o_lit, .ref o_whole, .ref o_goes, .int s_isLaid, .ref o_latest]))]) ⟨hx, hb, hml, hown, ht⟩ (c_X4_copies l dC dI cI cJ o_now o_past 87 522 H.size s_now s_past 0 (87 * s_kept) _ hw) (va_cwS 4 ht (g_S k_882 k_883 k_5 k_884) rfl rfl rfl (by decide +kernel) ⟨(Nat.le_of_ble_eq_true rfl), (Nat.le_of_ble_eq_true rfl)⟩) hK hP hD hS hA [1, 2] [0] rfl rfl (by decide) rfl hl.1 rfl (Nat.le_of_ble_eq_true rfl) ⟨(Nat.le_of_ble_eq_true rfl), (Nat.le_of_ble_eq_true rfl)⟩ dX4_saves_70 (fun u H locs hw hP hD hS => ?_)
    obtain ⟨s_past_3, rfl⟩ : ∃ z, z = u := ⟨_, rfl⟩
    try dsimp only at hw
    have hP : va_P (dC, dI) vwCl [(o, .inr (4, [.ref o_now, .ref o_then, .ref o_past, .int s_kept, .ref o_text, .int s_typed, .int s_thrown, .int s_at, .int s_isFault, .int s_value, .ref o_told, .int s_tolds, .ref o_lit, .ref o_whole, .ref o_goes, .int s_isLaid, .ref o_latest])), (o_now, .inl (cI, 87, .inl s_now)), (o_past, .inl (cI, 522, .inl s_past_3))] H := hP
    have hD : va_D A [(o, .inr (4, [.ref o_now, .ref o_then, .ref o_past, .int s_kept, .ref o_text, .int s_typed, .int s_thrown, .int s_at, .int s_isFault, .int s_value, .ref o_told, .int s_tolds, .ref o_lit, .ref o_whole, .ref o_goes, .int s_isLaid, .ref o_latest])), (o_now, .inl (cI, 87, .inl s_now)), (o_past, .inl (cI, 522, .inl s_past_3))] := hD
    refine lv_aload_n hx hb dX4_saves_73 rfl (lv_at hl 0 rfl) ?_
    refine lv_dup hx hb dX4_saves_74 rfl ?_
    refine va_get (D := (dC, dI)) (ci := 4) (v := .int s_kept) (C := RX4) (T := TX4) (N := 17) hx hb ht i_X4 hown hK hP 0 rfl rfl 3 (by decide) (ht _ k_821) (fun _ h9 => h9) rfl dX4_saves_75 ?_
    refine lv_iconst (v := 1) hx hb dX4_saves_78 (by decide) ?_
    refine lv_iadd hx hb dX4_saves_79 ?_
    refine va_put (D := (dC, dI)) (ci := 4) (v := .int (s_kept + 1)) (ty := .int) (C := RX4) (T := TX4) (N := 17) hx hb ht i_X4 tyX4 tyX4_ok nmX4 hown hK hP hD hS 0 rfl rfl 3 (by decide) (ht _ k_821) (fun _ h9 => h9) rfl (by decide +kernel) rfl rfl (Nat.le_of_ble_eq_true rfl) dX4_saves_80 (fun H locs hP hD hS => ?_)
    have hP : va_P (dC, dI) vwCl [(o, .inr (4, [.ref o_now, .ref o_then, .ref o_past, .int (s_kept + 1), .ref o_text, .int s_typed, .int s_thrown, .int s_at, .int s_isFault, .int s_value, .ref o_told, .int s_tolds, .ref o_lit, .ref o_whole, .ref o_goes, .int s_isLaid, .ref o_latest])), (o_now, .inl (cI, 87, .inl s_now)), (o_past, .inl (cI, 522, .inl s_past_3))] H := hP
    have hD : va_D A [(o, .inr (4, [.ref o_now, .ref o_then, .ref o_past, .int (s_kept + 1), .ref o_text, .int s_typed, .int s_thrown, .int s_at, .int s_isFault, .int s_value, .ref o_told, .int s_tolds, .ref o_lit, .ref o_whole, .ref o_goes, .int s_isLaid, .ref o_latest])), (o_now, .inl (cI, 87, .inl s_now)), (o_past, .inl (cI, 522, .inl s_past_3))] := hD
    rw [← hQQ]
    exact g_retv (u := (s_past_3, (s_kept + 1), s_isLaid)) hx hb hr hlocks hw hP hK hD hS dX4_saves_83
  obtain ⟨H, hHH⟩ : ∃ H, H = s.heap := ⟨_, rfl⟩
  rw [← hHH] at hP ⊢
  have hS : va_S A s.heap H [] := by rw [hHH]; exact hS
  clear hHH
  generalize ([] : List Loc) = locs at hS ⊢
  unfold P_X4_saves at hw
  refine lv_aload_n hx hb dX4_saves_0 rfl (lv_at hl 0 rfl) ?_
  refine lv_iconst (v := 0) hx hb dX4_saves_1 (by decide) ?_
  refine va_put (D := (dC, dI)) (ci := 4) (v := .int 0) (ty := .boolean) (C := RX4) (T := TX4) (N := 17) hx hb ht i_X4 tyX4 tyX4_ok nmX4 hown hK hP hD hS 0 rfl rfl 15 (by decide) (ht _ k_833) (fun _ h9 => h9) rfl (by decide +kernel) rfl rfl (Nat.le_of_ble_eq_true rfl) dX4_saves_2 (fun H locs hP hD hS => ?_)
  have hP : va_P (dC, dI) vwCl [(o, .inr (4, [.ref o_now, .ref o_then, .ref o_past, .int s_kept, .ref o_text, .int s_typed, .int s_thrown, .int s_at, .int s_isFault, .int s_value, .ref o_told, .int s_tolds, .ref o_lit, .ref o_whole, .ref o_goes, .int 0, .ref o_latest])), (o_now, .inl (cI, 87, .inl s_now)), (o_past, .inl (cI, 522, .inl s_past))] H := hP
  have hD : va_D A [(o, .inr (4, [.ref o_now, .ref o_then, .ref o_past, .int s_kept, .ref o_text, .int s_typed, .int s_thrown, .int s_at, .int s_isFault, .int s_value, .ref o_told, .int s_tolds, .ref o_lit, .ref o_whole, .ref o_goes, .int 0, .ref o_latest])), (o_now, .inl (cI, 87, .inl s_now)), (o_past, .inl (cI, 522, .inl s_past))] := hD
  refine lv_aload_n hx hb dX4_saves_5 rfl (lv_at hl 0 rfl) ?_
  refine va_get (D := (dC, dI)) (ci := 4) (v := .int s_kept) (C := RX4) (T := TX4) (N := 17) hx hb ht i_X4 hown hK hP 0 rfl rfl 3 (by decide) (ht _ k_821) (fun _ h9 => h9) rfl dX4_saves_6 ?_
  refine lv_bipush (v := 6) hx hb dX4_saves_9 (by decide) ?_
  refine lv_icmp_ne (tgt := 54) hx hb dX4_saves_11 (by decide) (fun hc => ?_) (fun hc => ?_)
  · have hw := hw.1 hc
    exact J54 s_past s_kept 0 hw H locs ls hP hD hS hl
  · have hw := hw.2 hc
    refine lv_iconst (v := 0) hx hb dX4_saves_14 (by decide) ?_
    refine lv_istore_n (lv' := [(1, .int 0), (0, .ref o)]) hx hb dX4_saves_15 rfl hl (by decide) rfl (fun ls hl => ?_)
    obtain ⟨n, hw⟩ := hw
    refine L16 0 _ (fun s_past_4 hw H locs ls hP hD hS hl => ?_) n 0 s_past hw H locs ls hP hD hS (lv_sub (l' := [(0, .ref o), (1, .int 0)]) hl [1, 0] rfl)
    refine lv_aload_n hx hb dX4_saves_44 rfl (lv_at hl 0 rfl) ?_
    refine lv_dup hx hb dX4_saves_45 rfl ?_
    refine va_get (D := (dC, dI)) (ci := 4) (v := .int s_kept) (C := RX4) (T := TX4) (N := 17) hx hb ht i_X4 hown hK hP 0 rfl rfl 3 (by decide) (ht _ k_821) (fun _ h9 => h9) rfl dX4_saves_46 ?_
    refine lv_iconst (v := 1) hx hb dX4_saves_49 (by decide) ?_
    refine lv_isub hx hb dX4_saves_50 ?_
    refine va_put (D := (dC, dI)) (ci := 4) (v := .int (s_kept - 1)) (ty := .int) (C := RX4) (T := TX4) (N := 17) hx hb ht i_X4 tyX4 tyX4_ok nmX4 hown hK hP hD hS 0 rfl rfl 3 (by decide) (ht _ k_821) (fun _ h9 => h9) rfl (by decide +kernel) rfl rfl (Nat.le_of_ble_eq_true rfl) dX4_saves_51 (fun H locs hP hD hS => ?_)
    have hP : va_P (dC, dI) vwCl [(o, .inr (4, [.ref o_now, .ref o_then, .ref o_past, .int (s_kept - 1), .ref o_text, .int s_typed, .int s_thrown, .int s_at, .int s_isFault, .int s_value, .ref o_told, .int s_tolds, .ref o_lit, .ref o_whole, .ref o_goes, .int 0, .ref o_latest])), (o_now, .inl (cI, 87, .inl s_now)), (o_past, .inl (cI, 522, .inl s_past_4))] H := hP
    have hD : va_D A [(o, .inr (4, [.ref o_now, .ref o_then, .ref o_past, .int (s_kept - 1), .ref o_text, .int s_typed, .int s_thrown, .int s_at, .int s_isFault, .int s_value, .ref o_told, .int s_tolds, .ref o_lit, .ref o_whole, .ref o_goes, .int 0, .ref o_latest])), (o_now, .inl (cI, 87, .inl s_now)), (o_past, .inl (cI, 522, .inl s_past_4))] := hD
    exact J54 s_past_4 (s_kept - 1) 0 hw H locs ls hP hD hS hl
abbrev rm_X4_undo : Room := { frames := 1, cells := 0, slots := 0, locals := 24 }
set_option maxHeartbeats 4000000 in
set_option maxRecDepth 100000 in
theorem c_X4_undo (l : Launch) (dC : Nat → ClassId) (dI : Nat → Nat → Nat) (cI cJ : ClassId) (o o_now o_then o_past o_text o_told o_lit o_whole o_goes o_latest : Nat) (sz : Nat) (s_now : Nat → Int32) (s_past : Nat → Int32) (s_kept : Int32) (s_thrown : Int32) (s_isLaid : Int32) (s_typed : Int32) (s_at : Int32) (s_isFault : Int32) (s_value : Int32) (s_tolds : Int32)  (Q : Int32 → (Nat → Int32) → Int32 → Int32 → Int32 → Prop) (hw : P_X4_undo s_now s_past s_kept s_thrown s_isLaid Q) : Met l yX4_undo (Cond.code yX4_undo cX4_undo 1 (some .int) :: TBL) rm_X4_undo (gPc (dC, dI) vwCl (gTy cI cJ) [.ref o] [(o, .inr (4, [.ref o_now, .ref o_then, .ref o_past, .int s_kept, .ref o_text, .int s_typed, .int s_thrown, .int s_at, .int s_isFault, .int s_value, .ref o_told, .int s_tolds, .ref o_lit, .ref o_whole, .ref o_goes, .int s_isLaid, .ref o_latest])), (o_now, .inl (cI, 87, .inl s_now)), (o_past, .inl (cI, 522, .inl s_past))] sz) (va_Qi (fun (r : Int32) (u : (Nat → Int32) × Int32 × Int32 × Int32) => Q r u.1 u.2.1 u.2.2.1 u.2.2.2) (gB (dC, dI) vwCl (gTy cI cJ) (va_A [(o, .inr (4, [.ref o_now, .ref o_then, .ref o_past, .int s_kept, .ref o_text, .int s_typed, .int s_thrown, .int s_at, .int s_isFault, .int s_value, .ref o_told, .int s_tolds, .ref o_lit, .ref o_whole, .ref o_goes, .int s_isLaid, .ref o_latest])), (o_now, .inl (cI, 87, .inl s_now)), (o_past, .inl (cI, 522, .inl s_past))] sz) (fun (u : (Nat → Int32) × Int32 × Int32 × Int32) => [(o, .inr (4, [.ref o_now, .ref o_then, .ref o_past, .int u.2.1, .ref o_text, .int s_typed, .int u.2.2.1, .int s_at, .int s_isFault, .int s_value, .ref o_told, .int s_tolds, .ref o_lit, .ref o_whole, .ref o_goes, .int u.2.2.2, .ref o_latest])), (o_now, .inl (cI, 87, .inl u.1)), (o_past, .inl (cI, 522, .inl s_past))])) (va_A [(o, .inr (4, [.ref o_now, .ref o_then, .ref o_past, .int s_kept, .ref o_text, .int s_typed, .int s_thrown, .int s_at, .int s_isFault, .int s_value, .ref o_told, .int s_tolds, .ref o_lit, .ref o_whole, .ref o_goes, .int s_isLaid, .ref o_latest])), (o_now, .inl (cI, 87, .inl s_now)), (o_past, .inl (cI, 522, .inl s_past))] sz)) 0 0 (va_A [(o, .inr (4, [.ref o_now, .ref o_then, .ref o_past, .int s_kept, .ref o_text, .int s_typed, .int s_thrown, .int s_at, .int s_isFault, .int s_value, .ref o_told, .int s_tolds, .ref o_lit, .ref o_whole, .ref o_goes, .int s_isLaid, .ref o_latest])), (o_now, .inl (cI, 87, .inl s_now)), (o_past, .inl (cI, 522, .inl s_past))] sz) := by
  refine Met.ofW (cc := cX4_undo) (maxL := 1) (ret := (some .int)) (by decide) rfl ?_
  intro p e s m args below meth c s₁ B hml hv
  obtain ⟨rfl, hsz, hP, hK, hD0⟩ := hv
  have hx := B.exec
  have hb := B.bytes
  have hr := B.returns
  have hts := atoms_spec (ws := Cond.code yX4_undo cX4_undo 1 (some .int) :: TBL) B.pre
  have ht : ∀ w ∈ TBL, w.before ([.ref o] : List Value).toArray s = true := fun w h => hts w (List.mem_cons_of_mem _ h)
  clear hts
  have hown : s.vm.findClass RX4 = some m.cls := findClass_of_methodNamed B.named
  have hlocks := B.notSynchronized
  clear B
  subst hsz
  have hD := hD0.self (sz := s.heap.size)
  clear hD0
  generalize hAe : va_A [(o, .inr (4, [.ref o_now, .ref o_then, .ref o_past, .int s_kept, .ref o_text, .int s_typed, .int s_thrown, .int s_at, .int s_isFault, .int s_value, .ref o_told, .int s_tolds, .ref o_lit, .ref o_whole, .ref o_goes, .int s_isLaid, .ref o_latest])), (o_now, .inl (cI, 87, .inl s_now)), (o_past, .inl (cI, 522, .inl s_past))] s.heap.size = A at hD ⊢
  have hA : ∀ q : Nat, s.heap.size ≤ q → A q := fun q h => by rw [← hAe]; exact Or.inr h
  clear hAe
  have hS : va_S A s.heap s.heap [] := va_S.rf
  have hP : va_P (dC, dI) vwCl [(o, .inr (4, [.ref o_now, .ref o_then, .ref o_past, .int s_kept, .ref o_text, .int s_typed, .int s_thrown, .int s_at, .int s_isFault, .int s_value, .ref o_told, .int s_tolds, .ref o_lit, .ref o_whole, .ref o_goes, .int s_isLaid, .ref o_latest])), (o_now, .inl (cI, 87, .inl s_now)), (o_past, .inl (cI, 522, .inl s_past))] s.heap := hP
  have hl := lv_entry ([.ref o]) (n := 1) (Nat.le_of_ble_eq_true rfl)
  rw [lg_entry_eq]
  generalize (lg_sl ([.ref o]) ++ List.replicate (1 - (lg_sl ([.ref o])).length) Slot.unset).toArray = ls at hl ⊢
  have hl : lv_has ls 1 [(0, .ref o)] := hl
  generalize hQQ : MQ below _ _ _ 0 0 A = QQ
  show W p l e rm_X4_undo s m ([.ref o] : List Value).toArray below meth c s.heap [] 0 0 QQ (F0 m 0 ls [])
  obtain ⟨H, hHH⟩ : ∃ H, H = s.heap := ⟨_, rfl⟩
  rw [← hHH] at hP ⊢
  have hS : va_S A s.heap H [] := by rw [hHH]; exact hS
  clear hHH
  generalize ([] : List Loc) = locs at hS ⊢
  unfold P_X4_undo at hw
  refine lv_aload_n hx hb dX4_undo_0 rfl (lv_at hl 0 rfl) ?_
  refine lv_iconst (v := 0) hx hb dX4_undo_1 (by decide) ?_
  refine va_put (D := (dC, dI)) (ci := 4) (v := .int 0) (ty := .int) (C := RX4) (T := TX4) (N := 17) hx hb ht i_X4 tyX4 tyX4_ok nmX4 hown hK hP hD hS 0 rfl rfl 6 (by decide) (ht _ k_824) (fun _ h9 => h9) rfl (by decide +kernel) rfl rfl (Nat.le_of_ble_eq_true rfl) dX4_undo_2 (fun H locs hP hD hS => ?_)
  have hP : va_P (dC, dI) vwCl [(o, .inr (4, [.ref o_now, .ref o_then, .ref o_past, .int s_kept, .ref o_text, .int s_typed, .int 0, .int s_at, .int s_isFault, .int s_value, .ref o_told, .int s_tolds, .ref o_lit, .ref o_whole, .ref o_goes, .int s_isLaid, .ref o_latest])), (o_now, .inl (cI, 87, .inl s_now)), (o_past, .inl (cI, 522, .inl s_past))] H := hP
  have hD : va_D A [(o, .inr (4, [.ref o_now, .ref o_then, .ref o_past, .int s_kept, .ref o_text, .int s_typed, .int 0, .int s_at, .int s_isFault, .int s_value, .ref o_told, .int s_tolds, .ref o_lit, .ref o_whole, .ref o_goes, .int s_isLaid, .ref o_latest])), (o_now, .inl (cI, 87, .inl s_now)), (o_past, .inl (cI, 522, .inl s_past))] := hD
  refine lv_aload_n hx hb dX4_undo_5 rfl (lv_at hl 0 rfl) ?_
  refine va_get (D := (dC, dI)) (ci := 4) (v := .int s_kept) (C := RX4) (T := TX4) (N := 17) hx hb ht i_X4 hown hK hP 0 rfl rfl 3 (by decide) (ht _ k_821) (fun _ h9 => h9) rfl dX4_undo_6 ?_
  refine lv_if_ne (tgt := 18) hx hb dX4_undo_9 (by decide) (fun hc => ?_) (fun hc => ?_)
  · have hw := hw.1 hc
    refine lv_aload_n hx hb dX4_undo_18 rfl (lv_at hl 0 rfl) ?_
    refine lv_iconst (v := 0) hx hb dX4_undo_19 (by decide) ?_
    refine va_put (D := (dC, dI)) (ci := 4) (v := .int 0) (ty := .boolean) (C := RX4) (T := TX4) (N := 17) hx hb ht i_X4 tyX4 tyX4_ok nmX4 hown hK hP hD hS 0 rfl rfl 15 (by decide) (ht _ k_833) (fun _ h9 => h9) rfl (by decide +kernel) rfl rfl (Nat.le_of_ble_eq_true rfl) dX4_undo_20 (fun H locs hP hD hS => ?_)
    have hP : va_P (dC, dI) vwCl [(o, .inr (4, [.ref o_now, .ref o_then, .ref o_past, .int s_kept, .ref o_text, .int s_typed, .int 0, .int s_at, .int s_isFault, .int s_value, .ref o_told, .int s_tolds, .ref o_lit, .ref o_whole, .ref o_goes, .int 0, .ref o_latest])), (o_now, .inl (cI, 87, .inl s_now)), (o_past, .inl (cI, 522, .inl s_past))] H := hP
    have hD : va_D A [(o, .inr (4, [.ref o_now, .ref o_then, .ref o_past, .int s_kept, .ref o_text, .int s_typed, .int 0, .int s_at, .int s_isFault, .int s_value, .ref o_told, .int s_tolds, .ref o_lit, .ref o_whole, .ref o_goes, .int 0, .ref o_latest])), (o_now, .inl (cI, 87, .inl s_now)), (o_past, .inl (cI, 522, .inl s_past))] := hD
    refine lv_aload_n hx hb dX4_undo_23 rfl (lv_at hl 0 rfl) ?_
    refine lv_dup hx hb dX4_undo_24 rfl ?_
    refine va_get (D := (dC, dI)) (ci := 4) (v := .int s_kept) (C := RX4) (T := TX4) (N := 17) hx hb ht i_X4 hown hK hP 0 rfl rfl 3 (by decide) (ht _ k_821) (fun _ h9 => h9) rfl dX4_undo_25 ?_
    refine lv_iconst (v := 1) hx hb dX4_undo_28 (by decide) ?_
    refine lv_isub hx hb dX4_undo_29 ?_
    refine va_put (D := (dC, dI)) (ci := 4) (v := .int (s_kept - 1)) (ty := .int) (C := RX4) (T := TX4) (N := 17) hx hb ht i_X4 tyX4 tyX4_ok nmX4 hown hK hP hD hS 0 rfl rfl 3 (by decide) (ht _ k_821) (fun _ h9 => h9) rfl (by decide +kernel) rfl rfl (Nat.le_of_ble_eq_true rfl) dX4_undo_30 (fun H locs hP hD hS => ?_)
    have hP : va_P (dC, dI) vwCl [(o, .inr (4, [.ref o_now, .ref o_then, .ref o_past, .int (s_kept - 1), .ref o_text, .int s_typed, .int 0, .int s_at, .int s_isFault, .int s_value, .ref o_told, .int s_tolds, .ref o_lit, .ref o_whole, .ref o_goes, .int 0, .ref o_latest])), (o_now, .inl (cI, 87, .inl s_now)), (o_past, .inl (cI, 522, .inl s_past))] H := hP
    have hD : va_D A [(o, .inr (4, [.ref o_now, .ref o_then, .ref o_past, .int (s_kept - 1), .ref o_text, .int s_typed, .int 0, .int s_at, .int s_isFault, .int s_value, .ref o_told, .int s_tolds, .ref o_lit, .ref o_whole, .ref o_goes, .int 0, .ref o_latest])), (o_now, .inl (cI, 87, .inl s_now)), (o_past, .inl (cI, 522, .inl s_past))] := hD
    refine lv_aload_n hx hb dX4_undo_33 rfl (lv_at hl 0 rfl) ?_
    refine va_get (D := (dC, dI)) (ci := 4) (v := .ref o_past) (C := RX4) (T := TX4) (N := 17) hx hb ht i_X4 hown hK hP 0 rfl rfl 2 (by decide) (ht _ k_820) (fun _ h9 => h9) rfl dX4_undo_34 ?_
    refine lv_bipush (v := 87) hx hb dX4_undo_37 (by decide) ?_
    refine lv_aload_n hx hb dX4_undo_39 rfl (lv_at hl 0 rfl) ?_
    refine va_get (D := (dC, dI)) (ci := 4) (v := .int (s_kept - 1)) (C := RX4) (T := TX4) (N := 17) hx hb ht i_X4 hown hK hP 0 rfl rfl 3 (by decide) (ht _ k_821) (fun _ h9 => h9) rfl dX4_undo_40 ?_
    refine lv_imul hx hb dX4_undo_43 ?_
    refine lv_aload_n hx hb dX4_undo_44 rfl (lv_at hl 0 rfl) ?_
    refine va_get (D := (dC, dI)) (ci := 4) (v := .ref o_now) (C := RX4) (T := TX4) (N := 17) hx hb ht i_X4 hown hK hP 0 rfl rfl 0 (by decide) (ht _ k_818) (fun _ h9 => h9) rfl dX4_undo_45 ?_
    refine lv_iconst (v := 0) hx hb dX4_undo_48 (by decide) ?_
    refine gc_Sv (As := [.ref o_past, .int (87 * (s_kept - 1)), .ref o_now, .int 0]) (rest := []) (wr := [(o, .inr (4, [.ref o_now, .ref o_then, .ref o_past, .int (s_kept - 1), .ref o_text, .int s_typed, .int 0, .int s_at, .int s_isFault, .int s_value, .ref o_told, .int s_tolds, .ref o_lit, .ref o_whole, .ref o_goes, .int 0, .ref o_latest]))]) ⟨hx, hb, hml, hown, ht⟩ (c_X4_copies l dC dI cI cJ o_past o_now 522 87 H.size s_past s_now (87 * (s_kept - 1)) 0 _ hw) (va_cwS 4 ht (g_S k_882 k_883 k_5 k_884) rfl rfl rfl (by decide +kernel) ⟨(Nat.le_of_ble_eq_true rfl), (Nat.le_of_ble_eq_true rfl)⟩) hK hP hD hS hA [2, 1] [0] rfl rfl (by decide) rfl hl.1 rfl (Nat.le_of_ble_eq_true rfl) ⟨(Nat.le_of_ble_eq_true rfl), (Nat.le_of_ble_eq_true rfl)⟩ dX4_undo_49 (fun u H locs hw hP hD hS => ?_)
    obtain ⟨s_now_1, rfl⟩ : ∃ z, z = u := ⟨_, rfl⟩
    try dsimp only at hw
    have hP : va_P (dC, dI) vwCl [(o, .inr (4, [.ref o_now, .ref o_then, .ref o_past, .int (s_kept - 1), .ref o_text, .int s_typed, .int 0, .int s_at, .int s_isFault, .int s_value, .ref o_told, .int s_tolds, .ref o_lit, .ref o_whole, .ref o_goes, .int 0, .ref o_latest])), (o_past, .inl (cI, 522, .inl s_past)), (o_now, .inl (cI, 87, .inl s_now_1))] H := hP
    have hD : va_D A [(o, .inr (4, [.ref o_now, .ref o_then, .ref o_past, .int (s_kept - 1), .ref o_text, .int s_typed, .int 0, .int s_at, .int s_isFault, .int s_value, .ref o_told, .int s_tolds, .ref o_lit, .ref o_whole, .ref o_goes, .int 0, .ref o_latest])), (o_past, .inl (cI, 522, .inl s_past)), (o_now, .inl (cI, 87, .inl s_now_1))] := hD
    refine lv_aload_n hx hb dX4_undo_52 rfl (lv_at hl 0 rfl) ?_
    refine va_get (D := (dC, dI)) (ci := 4) (v := .int (s_kept - 1)) (C := RX4) (T := TX4) (N := 17) hx hb ht i_X4 hown hK hP 0 rfl rfl 3 (by decide) (ht _ k_821) (fun _ h9 => h9) rfl dX4_undo_53 ?_
    rw [← hQQ]
    exact g_reti (v := (s_kept - 1)) (u := (s_now_1, (s_kept - 1), 0, 0)) hx hb hr rfl hlocks hw (hP.sub (ws' := [(o, .inr (4, [.ref o_now, .ref o_then, .ref o_past, .int (s_kept - 1), .ref o_text, .int s_typed, .int 0, .int s_at, .int s_isFault, .int s_value, .ref o_told, .int s_tolds, .ref o_lit, .ref o_whole, .ref o_goes, .int 0, .ref o_latest])), (o_now, .inl (cI, 87, .inl s_now_1)), (o_past, .inl (cI, 522, .inl s_past))]) [0, 2, 1] rfl) hK (hD.sub (ws' := [(o, .inr (4, [.ref o_now, .ref o_then, .ref o_past, .int (s_kept - 1), .ref o_text, .int s_typed, .int 0, .int s_at, .int s_isFault, .int s_value, .ref o_told, .int s_tolds, .ref o_lit, .ref o_whole, .ref o_goes, .int 0, .ref o_latest])), (o_now, .inl (cI, 87, .inl s_now_1)), (o_past, .inl (cI, 522, .inl s_past))]) [0, 2, 1] (by decide) rfl) hS dX4_undo_56
  · have hw := hw.2 hc
    refine lv_aload_n hx hb dX4_undo_12 rfl (lv_at hl 0 rfl) ?_
    refine lv_iconst (v := 1) hx hb dX4_undo_13 (by decide) ?_
    refine gc_Vi (As := [.int 1]) (rest := []) (wr := [(o_now, .inl (cI, 87, .inl s_now)), (o_past, .inl (cI, 522, .inl s_past))]) ⟨hx, hb, hml, hown, ht⟩ (c_X4_fails l dC dI cI cJ o o_now o_then o_past o_text o_told o_lit o_whole o_goes o_latest H.size 0 s_kept s_typed s_at s_isFault s_value s_tolds s_isLaid 1 _ hw) (cwV 1 ht (g_V k_878 k_880 k_s37 k_5 k_881) rfl rfl rfl (by decide +kernel) ⟨(Nat.le_of_ble_eq_true rfl), (Nat.le_of_ble_eq_true rfl)⟩) hK hP hD hS hA [0] [1, 2] rfl rfl (by decide) 0 rfl rfl rfl rfl hl.1 rfl (Nat.le_of_ble_eq_true rfl) ⟨(Nat.le_of_ble_eq_true rfl), (Nat.le_of_ble_eq_true rfl)⟩ dX4_undo_14 (fun r_2 u H locs hw hP hD hS => ?_)
    obtain ⟨s_thrown_3, rfl⟩ : ∃ z, z = u := ⟨_, rfl⟩
    try dsimp only at hw
    have hP : va_P (dC, dI) vwCl [(o_now, .inl (cI, 87, .inl s_now)), (o_past, .inl (cI, 522, .inl s_past)), (o, .inr (4, [.ref o_now, .ref o_then, .ref o_past, .int s_kept, .ref o_text, .int s_typed, .int s_thrown_3, .int s_at, .int s_isFault, .int s_value, .ref o_told, .int s_tolds, .ref o_lit, .ref o_whole, .ref o_goes, .int s_isLaid, .ref o_latest]))] H := hP
    have hD : va_D A [(o_now, .inl (cI, 87, .inl s_now)), (o_past, .inl (cI, 522, .inl s_past)), (o, .inr (4, [.ref o_now, .ref o_then, .ref o_past, .int s_kept, .ref o_text, .int s_typed, .int s_thrown_3, .int s_at, .int s_isFault, .int s_value, .ref o_told, .int s_tolds, .ref o_lit, .ref o_whole, .ref o_goes, .int s_isLaid, .ref o_latest]))] := hD
    rw [← hQQ]
    exact g_reti (v := r_2) (u := (s_now, s_kept, s_thrown_3, s_isLaid)) hx hb hr rfl hlocks hw (hP.sub (ws' := [(o, .inr (4, [.ref o_now, .ref o_then, .ref o_past, .int s_kept, .ref o_text, .int s_typed, .int s_thrown_3, .int s_at, .int s_isFault, .int s_value, .ref o_told, .int s_tolds, .ref o_lit, .ref o_whole, .ref o_goes, .int s_isLaid, .ref o_latest])), (o_now, .inl (cI, 87, .inl s_now)), (o_past, .inl (cI, 522, .inl s_past))]) [2, 0, 1] rfl) hK (hD.sub (ws' := [(o, .inr (4, [.ref o_now, .ref o_then, .ref o_past, .int s_kept, .ref o_text, .int s_typed, .int s_thrown_3, .int s_at, .int s_isFault, .int s_value, .ref o_told, .int s_tolds, .ref o_lit, .ref o_whole, .ref o_goes, .int s_isLaid, .ref o_latest])), (o_now, .inl (cI, 87, .inl s_now)), (o_past, .inl (cI, 522, .inl s_past))]) [2, 0, 1] (by decide) rfl) hS dX4_undo_17
abbrev rm_X4_first : Room := { frames := 1, cells := 0, slots := 0, locals := 22 }
set_option maxHeartbeats 4000000 in
set_option maxRecDepth 100000 in
theorem c_X4_first (l : Launch) (dC : Nat → ClassId) (dI : Nat → Nat → Nat) (cI cJ : ClassId) (r0 : Nat) (sz : Nat) (s_r0 : Nat → Int32) (p1 : Int32) (p2 : Int32) (Q : Int32 → Prop) (hw : P_X4_first p1 p2 s_r0 Q) : Met l yX4_first (Cond.code yX4_first cX4_first 3 (some .int) :: TBL) rm_X4_first (gPc (dC, dI) vwCl (gTy cI cJ) [.ref r0, .int p1, .int p2] [(r0, .inl (cI, 87, .inl s_r0))] sz) (va_Qi (fun (r : Int32) (u : Unit) => Q r ) (gB (dC, dI) vwCl (gTy cI cJ) (va_A [(r0, .inl (cI, 87, .inl s_r0))] sz) (fun (u : Unit) => [(r0, .inl (cI, 87, .inl s_r0))])) (va_A [(r0, .inl (cI, 87, .inl s_r0))] sz)) 0 0 (va_A [(r0, .inl (cI, 87, .inl s_r0))] sz) := by
  refine Met.ofW (cc := cX4_first) (maxL := 3) (ret := (some .int)) (by decide) rfl ?_
  intro p e s m args below meth c s₁ B hml hv
  obtain ⟨rfl, hsz, hP, hK, hD0⟩ := hv
  have hx := B.exec
  have hb := B.bytes
  have hr := B.returns
  have hts := atoms_spec (ws := Cond.code yX4_first cX4_first 3 (some .int) :: TBL) B.pre
  have ht : ∀ w ∈ TBL, w.before ([.ref r0, .int p1, .int p2] : List Value).toArray s = true := fun w h => hts w (List.mem_cons_of_mem _ h)
  clear hts
  have hown : s.vm.findClass RX4 = some m.cls := findClass_of_methodNamed B.named
  have hlocks := B.notSynchronized
  clear B
  subst hsz
  have hD := hD0.self (sz := s.heap.size)
  clear hD0
  generalize hAe : va_A [(r0, .inl (cI, 87, .inl s_r0))] s.heap.size = A at hD ⊢
  have hA : ∀ q : Nat, s.heap.size ≤ q → A q := fun q h => by rw [← hAe]; exact Or.inr h
  clear hAe
  have hS : va_S A s.heap s.heap [] := va_S.rf
  have hP : va_P (dC, dI) vwCl [(r0, .inl (cI, 87, .inl s_r0))] s.heap := hP
  have hl := lv_entry ([.ref r0, .int p1, .int p2]) (n := 3) (Nat.le_of_ble_eq_true rfl)
  rw [lg_entry_eq]
  generalize (lg_sl ([.ref r0, .int p1, .int p2]) ++ List.replicate (3 - (lg_sl ([.ref r0, .int p1, .int p2])).length) Slot.unset).toArray = ls at hl ⊢
  have hl : lv_has ls 3 [(0, .ref r0), (1, .int p1), (2, .int p2)] := hl
  generalize hQQ : MQ below _ _ _ 0 0 A = QQ
  show W p l e rm_X4_first s m ([.ref r0, .int p1, .int p2] : List Value).toArray below meth c s.heap [] 0 0 QQ (F0 m 0 ls [])
  obtain ⟨H, hHH⟩ : ∃ H, H = s.heap := ⟨_, rfl⟩
  rw [← hHH] at hP ⊢
  have hS : va_S A s.heap H [] := by rw [hHH]; exact hS
  clear hHH
  generalize ([] : List Loc) = locs at hS ⊢
  unfold P_X4_first at hw
  refine lv_aload_n hx hb dX4_first_0 rfl (lv_at hl 0 rfl) ?_
  refine lv_iload_n hx hb dX4_first_1 rfl (lv_at hl 1 rfl) ?_
  refine lv_iconst (v := 1) hx hb dX4_first_2 (by decide) ?_
  refine gc_Si (As := [.ref r0, .int p1, .int 1]) (rest := []) (wr := []) ⟨hx, hb, hml, hown, ht⟩ (c_X4_by l dC dI cI cJ r0 H.size s_r0 p1 1 _ hw) (va_cwS 3 ht (g_S k_949 k_950 k_5 k_951) rfl rfl rfl (by decide +kernel) ⟨(Nat.le_of_ble_eq_true rfl), (Nat.le_of_ble_eq_true rfl)⟩) hK hP hD hS hA [0] [] rfl rfl (by decide) rfl hl.1 rfl (Nat.le_of_ble_eq_true rfl) ⟨(Nat.le_of_ble_eq_true rfl), (Nat.le_of_ble_eq_true rfl)⟩ dX4_first_3 (fun r_1 u H locs hw hP hD hS => ?_)
  try dsimp only at hw
  have hP : va_P (dC, dI) vwCl [(r0, .inl (cI, 87, .inl s_r0))] H := hP
  have hD : va_D A [(r0, .inl (cI, 87, .inl s_r0))] := hD
  refine lv_aload_n hx hb dX4_first_6 rfl (lv_at hl 0 rfl) ?_
  refine lv_iload_n hx hb dX4_first_7 rfl (lv_at hl 1 rfl) ?_
  refine lv_iconst (v := 2) hx hb dX4_first_8 (by decide) ?_
  refine gc_Si (As := [.ref r0, .int p1, .int 2]) (rest := [.int r_1]) (wr := []) ⟨hx, hb, hml, hown, ht⟩ (c_X4_by l dC dI cI cJ r0 H.size s_r0 p1 2 _ hw) (va_cwS 3 ht (g_S k_949 k_950 k_5 k_951) rfl rfl rfl (by decide +kernel) ⟨(Nat.le_of_ble_eq_true rfl), (Nat.le_of_ble_eq_true rfl)⟩) hK hP hD hS hA [0] [] rfl rfl (by decide) rfl hl.1 rfl (Nat.le_of_ble_eq_true rfl) ⟨(Nat.le_of_ble_eq_true rfl), (Nat.le_of_ble_eq_true rfl)⟩ dX4_first_9 (fun r_2 u H locs hw hP hD hS => ?_)
  try dsimp only at hw
  have hP : va_P (dC, dI) vwCl [(r0, .inl (cI, 87, .inl s_r0))] H := hP
  have hD : va_D A [(r0, .inl (cI, 87, .inl s_r0))] := hD
  refine lv_iload_n hx hb dX4_first_12 rfl (lv_at hl 2 rfl) ?_
  refine lv_aload_n hx hb dX4_first_13 rfl (lv_at hl 0 rfl) ?_
  refine lv_iload_n hx hb dX4_first_14 rfl (lv_at hl 1 rfl) ?_
  refine lv_iconst (v := 0) hx hb dX4_first_15 (by decide) ?_
  refine gc_Si (As := [.ref r0, .int p1, .int 0]) (rest := [.int p2, .int r_2, .int r_1]) (wr := []) ⟨hx, hb, hml, hown, ht⟩ (c_X4_by l dC dI cI cJ r0 H.size s_r0 p1 0 _ hw) (va_cwS 3 ht (g_S k_949 k_950 k_5 k_951) rfl rfl rfl (by decide +kernel) ⟨(Nat.le_of_ble_eq_true rfl), (Nat.le_of_ble_eq_true rfl)⟩) hK hP hD hS hA [0] [] rfl rfl (by decide) rfl hl.1 rfl (Nat.le_of_ble_eq_true rfl) ⟨(Nat.le_of_ble_eq_true rfl), (Nat.le_of_ble_eq_true rfl)⟩ dX4_first_16 (fun r_3 u H locs hw hP hD hS => ?_)
  try dsimp only at hw
  have hP : va_P (dC, dI) vwCl [(r0, .inl (cI, 87, .inl s_r0))] H := hP
  have hD : va_D A [(r0, .inl (cI, 87, .inl s_r0))] := hD
  refine lv_isub hx hb dX4_first_19 ?_
  refine lv_imul hx hb dX4_first_20 ?_
  refine lv_iadd hx hb dX4_first_21 ?_
  rw [← hQQ]
  exact g_reti (v := (r_1 + (r_2 * (p2 - r_3)))) (u := ()) hx hb hr rfl hlocks hw hP hK hD hS dX4_first_22
abbrev rm_X4_covers : Room := { frames := 2, cells := 0, slots := 0, locals := 44 }
set_option maxHeartbeats 4000000 in
set_option maxRecDepth 100000 in
theorem c_X4_covers (l : Launch) (dC : Nat → ClassId) (dI : Nat → Nat → Nat) (cI cJ : ClassId) (r0 : Nat) (sz : Nat) (s_r0 : Nat → Int32) (p1 : Int32) (p2 : Int32) (p3 : Int32) (Q : Int32 → Prop) (hw : P_X4_covers p1 p2 p3 s_r0 Q) : Met l yX4_covers (Cond.code yX4_covers cX4_covers 4 (some .boolean) :: TBL) rm_X4_covers (gPc (dC, dI) vwCl (gTy cI cJ) [.ref r0, .int p1, .int p2, .int p3] [(r0, .inl (cI, 87, .inl s_r0))] sz) (va_Qi (fun (r : Int32) (u : Unit) => Q r ) (gB (dC, dI) vwCl (gTy cI cJ) (va_A [(r0, .inl (cI, 87, .inl s_r0))] sz) (fun (u : Unit) => [(r0, .inl (cI, 87, .inl s_r0))])) (va_A [(r0, .inl (cI, 87, .inl s_r0))] sz)) 0 0 (va_A [(r0, .inl (cI, 87, .inl s_r0))] sz) := by
  refine Met.ofW (cc := cX4_covers) (maxL := 4) (ret := (some .boolean)) (by decide) rfl ?_
  intro p e s m args below meth c s₁ B hml hv
  obtain ⟨rfl, hsz, hP, hK, hD0⟩ := hv
  have hx := B.exec
  have hb := B.bytes
  have hr := B.returns
  have hts := atoms_spec (ws := Cond.code yX4_covers cX4_covers 4 (some .boolean) :: TBL) B.pre
  have ht : ∀ w ∈ TBL, w.before ([.ref r0, .int p1, .int p2, .int p3] : List Value).toArray s = true := fun w h => hts w (List.mem_cons_of_mem _ h)
  clear hts
  have hown : s.vm.findClass RX4 = some m.cls := findClass_of_methodNamed B.named
  have hlocks := B.notSynchronized
  clear B
  subst hsz
  have hD := hD0.self (sz := s.heap.size)
  clear hD0
  generalize hAe : va_A [(r0, .inl (cI, 87, .inl s_r0))] s.heap.size = A at hD ⊢
  have hA : ∀ q : Nat, s.heap.size ≤ q → A q := fun q h => by rw [← hAe]; exact Or.inr h
  clear hAe
  have hS : va_S A s.heap s.heap [] := va_S.rf
  have hP : va_P (dC, dI) vwCl [(r0, .inl (cI, 87, .inl s_r0))] s.heap := hP
  have hl := lv_entry ([.ref r0, .int p1, .int p2, .int p3]) (n := 4) (Nat.le_of_ble_eq_true rfl)
  rw [lg_entry_eq]
  generalize (lg_sl ([.ref r0, .int p1, .int p2, .int p3]) ++ List.replicate (4 - (lg_sl ([.ref r0, .int p1, .int p2, .int p3])).length) Slot.unset).toArray = ls at hl ⊢
  have hl : lv_has ls 4 [(0, .ref r0), (1, .int p1), (2, .int p2), (3, .int p3)] := hl
  generalize hQQ : MQ below _ _ _ 0 0 A = QQ
  show W p l e rm_X4_covers s m ([.ref r0, .int p1, .int p2, .int p3] : List Value).toArray below meth c s.heap [] 0 0 QQ (F0 m 0 ls [])
  obtain ⟨H, hHH⟩ : ∃ H, H = s.heap := ⟨_, rfl⟩
  rw [← hHH] at hP ⊢
  have hS : va_S A s.heap H [] := by rw [hHH]; exact hS
  clear hHH
  generalize ([] : List Loc) = locs at hS ⊢
  unfold P_X4_covers at hw
  refine lv_iload_n hx hb dX4_covers_0 rfl (lv_at hl 2 rfl) ?_
  refine lv_aload_n hx hb dX4_covers_1 rfl (lv_at hl 0 rfl) ?_
  refine lv_iload_n hx hb dX4_covers_2 rfl (lv_at hl 1 rfl) ?_
  refine lv_iconst (v := 0) hx hb dX4_covers_3 (by decide) ?_
  refine gc_Si (As := [.ref r0, .int p1, .int 0]) (rest := [.int p2]) (wr := []) ⟨hx, hb, hml, hown, ht⟩ (c_X4_by l dC dI cI cJ r0 H.size s_r0 p1 0 _ hw) (va_cwS 3 ht (g_S k_949 k_950 k_5 k_951) rfl rfl rfl (by decide +kernel) ⟨(Nat.le_of_ble_eq_true rfl), (Nat.le_of_ble_eq_true rfl)⟩) hK hP hD hS hA [0] [] rfl rfl (by decide) rfl hl.1 rfl (Nat.le_of_ble_eq_true rfl) ⟨(Nat.le_of_ble_eq_true rfl), (Nat.le_of_ble_eq_true rfl)⟩ dX4_covers_4 (fun r_1 u H locs hw hP hD hS => ?_)
  try dsimp only at hw
  have hP : va_P (dC, dI) vwCl [(r0, .inl (cI, 87, .inl s_r0))] H := hP
  have hD : va_D A [(r0, .inl (cI, 87, .inl s_r0))] := hD
  refine lv_icmp_lt (tgt := 37) hx hb dX4_covers_7 (by decide) (fun hc => ?_) (fun hc => ?_)
  · have hw := hw.1 hc
    refine lv_iconst (v := 0) hx hb dX4_covers_37 (by decide) ?_
    rw [← hQQ]
    exact g_reti (v := 0) (u := ()) hx hb hr rfl hlocks hw hP hK hD hS dX4_covers_38
  · have hw := hw.2 hc
    refine lv_iload_n hx hb dX4_covers_10 rfl (lv_at hl 3 rfl) ?_
    refine lv_aload_n hx hb dX4_covers_11 rfl (lv_at hl 0 rfl) ?_
    refine lv_iload_n hx hb dX4_covers_12 rfl (lv_at hl 1 rfl) ?_
    refine lv_iload_n hx hb dX4_covers_13 rfl (lv_at hl 2 rfl) ?_
    refine gc_Si (As := [.ref r0, .int p1, .int p2]) (rest := [.int p3]) (wr := []) ⟨hx, hb, hml, hown, ht⟩ (c_X4_first l dC dI cI cJ r0 H.size s_r0 p1 p2 _ hw) (va_cwS 3 ht (g_S k_977 k_978 k_5 k_979) rfl rfl rfl (by decide +kernel) ⟨(Nat.le_of_ble_eq_true rfl), (Nat.le_of_ble_eq_true rfl)⟩) hK hP hD hS hA [0] [] rfl rfl (by decide) rfl hl.1 rfl (Nat.le_of_ble_eq_true rfl) ⟨(Nat.le_of_ble_eq_true rfl), (Nat.le_of_ble_eq_true rfl)⟩ dX4_covers_14 (fun r_2 u H locs hw hP hD hS => ?_)
    try dsimp only at hw
    have hP : va_P (dC, dI) vwCl [(r0, .inl (cI, 87, .inl s_r0))] H := hP
    have hD : va_D A [(r0, .inl (cI, 87, .inl s_r0))] := hD
    refine lv_isub hx hb dX4_covers_17 ?_
    refine lv_iconst (v := 0) hx hb dX4_covers_18 (by decide) ?_
    refine lv_aload_n hx hb dX4_covers_19 rfl (lv_at hl 0 rfl) ?_
    refine lv_iload_n hx hb dX4_covers_20 rfl (lv_at hl 1 rfl) ?_
    refine lv_iconst (v := 3) hx hb dX4_covers_21 (by decide) ?_
    refine gc_Si (As := [.ref r0, .int p1, .int 3]) (rest := [.int 0, .int (p3 - r_2)]) (wr := []) ⟨hx, hb, hml, hown, ht⟩ (c_X4_by l dC dI cI cJ r0 H.size s_r0 p1 3 _ hw) (va_cwS 3 ht (g_S k_949 k_950 k_5 k_951) rfl rfl rfl (by decide +kernel) ⟨(Nat.le_of_ble_eq_true rfl), (Nat.le_of_ble_eq_true rfl)⟩) hK hP hD hS hA [0] [] rfl rfl (by decide) rfl hl.1 rfl (Nat.le_of_ble_eq_true rfl) ⟨(Nat.le_of_ble_eq_true rfl), (Nat.le_of_ble_eq_true rfl)⟩ dX4_covers_22 (fun r_3 u H locs hw hP hD hS => ?_)
    try dsimp only at hw
    have hP : va_P (dC, dI) vwCl [(r0, .inl (cI, 87, .inl s_r0))] H := hP
    have hD : va_D A [(r0, .inl (cI, 87, .inl s_r0))] := hD
    refine lv_iconst (v := 1) hx hb dX4_covers_25 (by decide) ?_
    refine lv_isub hx hb dX4_covers_26 ?_
    refine gc_Si (As := [.int (p3 - r_2), .int 0, .int (r_3 - 1)]) (rest := []) (wr := [(r0, .inl (cI, 87, .inl s_r0))]) ⟨hx, hb, hml, hown, ht⟩ (c_X4_in l dC dI cI cJ  H.size (p3 - r_2) 0 (r_3 - 1) _ hw) (va_cwS 3 ht (g_S k_893 k_894 k_5 k_895) rfl rfl rfl (by decide +kernel) ⟨(Nat.le_of_ble_eq_true rfl), (Nat.le_of_ble_eq_true rfl)⟩) hK hP hD hS hA [] [0] rfl rfl (by decide) rfl hl.1 rfl (Nat.le_of_ble_eq_true rfl) ⟨(Nat.le_of_ble_eq_true rfl), (Nat.le_of_ble_eq_true rfl)⟩ dX4_covers_27 (fun r_4 u H locs hw hP hD hS => ?_)
    try dsimp only at hw
    have hP : va_P (dC, dI) vwCl [(r0, .inl (cI, 87, .inl s_r0))] H := hP
    have hD : va_D A [(r0, .inl (cI, 87, .inl s_r0))] := hD
    refine lv_if_eq (tgt := 37) hx hb dX4_covers_30 (by decide) (fun hc => ?_) (fun hc => ?_)
    · have hw := hw.1 hc
      refine lv_iconst (v := 0) hx hb dX4_covers_37 (by decide) ?_
      rw [← hQQ]
      exact g_reti (v := 0) (u := ()) hx hb hr rfl hlocks hw hP hK hD hS dX4_covers_38
    · have hw := hw.2 hc
      refine lv_iconst (v := 1) hx hb dX4_covers_33 (by decide) ?_
      refine lv_goto (tgt := 38) hx hb dX4_covers_34 (by decide) ?_
      rw [← hQQ]
      exact g_reti (v := 1) (u := ()) hx hb hr rfl hlocks hw hP hK hD hS dX4_covers_38
abbrev rm_X4_coversSome : Room := { frames := 2, cells := 0, slots := 0, locals := 44 }
set_option maxHeartbeats 4000000 in
set_option maxRecDepth 100000 in
theorem c_X4_coversSome (l : Launch) (dC : Nat → ClassId) (dI : Nat → Nat → Nat) (cI cJ : ClassId) (r0 : Nat) (sz : Nat) (s_r0 : Nat → Int32) (p1 : Int32) (p2 : Int32) (Q : Int32 → Prop) (hw : P_X4_coversSome p1 p2 s_r0 Q) : Met l yX4_coversSome (Cond.code yX4_coversSome cX4_coversSome 3 (some .boolean) :: TBL) rm_X4_coversSome (gPc (dC, dI) vwCl (gTy cI cJ) [.ref r0, .int p1, .int p2] [(r0, .inl (cI, 87, .inl s_r0))] sz) (va_Qi (fun (r : Int32) (u : Unit) => Q r ) (gB (dC, dI) vwCl (gTy cI cJ) (va_A [(r0, .inl (cI, 87, .inl s_r0))] sz) (fun (u : Unit) => [(r0, .inl (cI, 87, .inl s_r0))])) (va_A [(r0, .inl (cI, 87, .inl s_r0))] sz)) 0 0 (va_A [(r0, .inl (cI, 87, .inl s_r0))] sz) := by
  refine Met.ofW (cc := cX4_coversSome) (maxL := 3) (ret := (some .boolean)) (by decide) rfl ?_
  intro p e s m args below meth c s₁ B hml hv
  obtain ⟨rfl, hsz, hP, hK, hD0⟩ := hv
  have hx := B.exec
  have hb := B.bytes
  have hr := B.returns
  have hts := atoms_spec (ws := Cond.code yX4_coversSome cX4_coversSome 3 (some .boolean) :: TBL) B.pre
  have ht : ∀ w ∈ TBL, w.before ([.ref r0, .int p1, .int p2] : List Value).toArray s = true := fun w h => hts w (List.mem_cons_of_mem _ h)
  clear hts
  have hown : s.vm.findClass RX4 = some m.cls := findClass_of_methodNamed B.named
  have hlocks := B.notSynchronized
  clear B
  subst hsz
  have hD := hD0.self (sz := s.heap.size)
  clear hD0
  generalize hAe : va_A [(r0, .inl (cI, 87, .inl s_r0))] s.heap.size = A at hD ⊢
  have hA : ∀ q : Nat, s.heap.size ≤ q → A q := fun q h => by rw [← hAe]; exact Or.inr h
  clear hAe
  have hS : va_S A s.heap s.heap [] := va_S.rf
  have hP : va_P (dC, dI) vwCl [(r0, .inl (cI, 87, .inl s_r0))] s.heap := hP
  have hl := lv_entry ([.ref r0, .int p1, .int p2]) (n := 3) (Nat.le_of_ble_eq_true rfl)
  rw [lg_entry_eq]
  generalize (lg_sl ([.ref r0, .int p1, .int p2]) ++ List.replicate (3 - (lg_sl ([.ref r0, .int p1, .int p2])).length) Slot.unset).toArray = ls at hl ⊢
  have hl : lv_has ls 3 [(0, .ref r0), (1, .int p1), (2, .int p2)] := hl
  generalize hQQ : MQ below _ _ _ 0 0 A = QQ
  show W p l e rm_X4_coversSome s m ([.ref r0, .int p1, .int p2] : List Value).toArray below meth c s.heap [] 0 0 QQ (F0 m 0 ls [])
  obtain ⟨H, hHH⟩ : ∃ H, H = s.heap := ⟨_, rfl⟩
  rw [← hHH] at hP ⊢
  have hS : va_S A s.heap H [] := by rw [hHH]; exact hS
  clear hHH
  generalize ([] : List Loc) = locs at hS ⊢
  unfold P_X4_coversSome at hw
  refine lv_iload_n hx hb dX4_coversSome_0 rfl (lv_at hl 2 rfl) ?_
  refine lv_aload_n hx hb dX4_coversSome_1 rfl (lv_at hl 0 rfl) ?_
  refine lv_iload_n hx hb dX4_coversSome_2 rfl (lv_at hl 1 rfl) ?_
  refine lv_iconst (v := 0) hx hb dX4_coversSome_3 (by decide) ?_
  refine gc_Si (As := [.ref r0, .int p1, .int 0]) (rest := [.int p2]) (wr := []) ⟨hx, hb, hml, hown, ht⟩ (c_X4_by l dC dI cI cJ r0 H.size s_r0 p1 0 _ hw) (va_cwS 3 ht (g_S k_949 k_950 k_5 k_951) rfl rfl rfl (by decide +kernel) ⟨(Nat.le_of_ble_eq_true rfl), (Nat.le_of_ble_eq_true rfl)⟩) hK hP hD hS hA [0] [] rfl rfl (by decide) rfl hl.1 rfl (Nat.le_of_ble_eq_true rfl) ⟨(Nat.le_of_ble_eq_true rfl), (Nat.le_of_ble_eq_true rfl)⟩ dX4_coversSome_4 (fun r_1 u H locs hw hP hD hS => ?_)
  try dsimp only at hw
  have hP : va_P (dC, dI) vwCl [(r0, .inl (cI, 87, .inl s_r0))] H := hP
  have hD : va_D A [(r0, .inl (cI, 87, .inl s_r0))] := hD
  refine lv_icmp_lt (tgt := 41) hx hb dX4_coversSome_7 (by decide) (fun hc => ?_) (fun hc => ?_)
  · have hw := hw.1 hc
    refine lv_iconst (v := 0) hx hb dX4_coversSome_41 (by decide) ?_
    rw [← hQQ]
    exact g_reti (v := 0) (u := ()) hx hb hr rfl hlocks hw hP hK hD hS dX4_coversSome_42
  · have hw := hw.2 hc
    refine lv_aload_n hx hb dX4_coversSome_10 rfl (lv_at hl 0 rfl) ?_
    refine lv_iload_n hx hb dX4_coversSome_11 rfl (lv_at hl 1 rfl) ?_
    refine lv_iload_n hx hb dX4_coversSome_12 rfl (lv_at hl 2 rfl) ?_
    refine gc_Si (As := [.ref r0, .int p1, .int p2]) (rest := []) (wr := []) ⟨hx, hb, hml, hown, ht⟩ (c_X4_first l dC dI cI cJ r0 H.size s_r0 p1 p2 _ hw) (va_cwS 3 ht (g_S k_977 k_978 k_5 k_979) rfl rfl rfl (by decide +kernel) ⟨(Nat.le_of_ble_eq_true rfl), (Nat.le_of_ble_eq_true rfl)⟩) hK hP hD hS hA [0] [] rfl rfl (by decide) rfl hl.1 rfl (Nat.le_of_ble_eq_true rfl) ⟨(Nat.le_of_ble_eq_true rfl), (Nat.le_of_ble_eq_true rfl)⟩ dX4_coversSome_13 (fun r_2 u H locs hw hP hD hS => ?_)
    try dsimp only at hw
    have hP : va_P (dC, dI) vwCl [(r0, .inl (cI, 87, .inl s_r0))] H := hP
    have hD : va_D A [(r0, .inl (cI, 87, .inl s_r0))] := hD
    refine lv_bipush (v := 60) hx hb dX4_coversSome_16 (by decide) ?_
    refine lv_icmp_ge (tgt := 41) hx hb dX4_coversSome_18 (by decide) (fun hc => ?_) (fun hc => ?_)
    · have hw := hw.1 hc
      refine lv_iconst (v := 0) hx hb dX4_coversSome_41 (by decide) ?_
      rw [← hQQ]
      exact g_reti (v := 0) (u := ()) hx hb hr rfl hlocks hw hP hK hD hS dX4_coversSome_42
    · have hw := hw.2 hc
      refine lv_aload_n hx hb dX4_coversSome_21 rfl (lv_at hl 0 rfl) ?_
      refine lv_iload_n hx hb dX4_coversSome_22 rfl (lv_at hl 1 rfl) ?_
      refine lv_iload_n hx hb dX4_coversSome_23 rfl (lv_at hl 2 rfl) ?_
      refine gc_Si (As := [.ref r0, .int p1, .int p2]) (rest := []) (wr := []) ⟨hx, hb, hml, hown, ht⟩ (c_X4_first l dC dI cI cJ r0 H.size s_r0 p1 p2 _ hw) (va_cwS 3 ht (g_S k_977 k_978 k_5 k_979) rfl rfl rfl (by decide +kernel) ⟨(Nat.le_of_ble_eq_true rfl), (Nat.le_of_ble_eq_true rfl)⟩) hK hP hD hS hA [0] [] rfl rfl (by decide) rfl hl.1 rfl (Nat.le_of_ble_eq_true rfl) ⟨(Nat.le_of_ble_eq_true rfl), (Nat.le_of_ble_eq_true rfl)⟩ dX4_coversSome_24 (fun r_3 u H locs hw hP hD hS => ?_)
      try dsimp only at hw
      have hP : va_P (dC, dI) vwCl [(r0, .inl (cI, 87, .inl s_r0))] H := hP
      have hD : va_D A [(r0, .inl (cI, 87, .inl s_r0))] := hD
      refine lv_aload_n hx hb dX4_coversSome_27 rfl (lv_at hl 0 rfl) ?_
      refine lv_iload_n hx hb dX4_coversSome_28 rfl (lv_at hl 1 rfl) ?_
      refine lv_iconst (v := 3) hx hb dX4_coversSome_29 (by decide) ?_
      refine gc_Si (As := [.ref r0, .int p1, .int 3]) (rest := [.int r_3]) (wr := []) ⟨hx, hb, hml, hown, ht⟩ (c_X4_by l dC dI cI cJ r0 H.size s_r0 p1 3 _ hw) (va_cwS 3 ht (g_S k_949 k_950 k_5 k_951) rfl rfl rfl (by decide +kernel) ⟨(Nat.le_of_ble_eq_true rfl), (Nat.le_of_ble_eq_true rfl)⟩) hK hP hD hS hA [0] [] rfl rfl (by decide) rfl hl.1 rfl (Nat.le_of_ble_eq_true rfl) ⟨(Nat.le_of_ble_eq_true rfl), (Nat.le_of_ble_eq_true rfl)⟩ dX4_coversSome_30 (fun r_4 u H locs hw hP hD hS => ?_)
      try dsimp only at hw
      have hP : va_P (dC, dI) vwCl [(r0, .inl (cI, 87, .inl s_r0))] H := hP
      have hD : va_D A [(r0, .inl (cI, 87, .inl s_r0))] := hD
      refine lv_iadd hx hb dX4_coversSome_33 ?_
      refine lv_if_le (tgt := 41) hx hb dX4_coversSome_34 (by decide) (fun hc => ?_) (fun hc => ?_)
      · have hw := hw.1 hc
        refine lv_iconst (v := 0) hx hb dX4_coversSome_41 (by decide) ?_
        rw [← hQQ]
        exact g_reti (v := 0) (u := ()) hx hb hr rfl hlocks hw hP hK hD hS dX4_coversSome_42
      · have hw := hw.2 hc
        refine lv_iconst (v := 1) hx hb dX4_coversSome_37 (by decide) ?_
        refine lv_goto (tgt := 42) hx hb dX4_coversSome_38 (by decide) ?_
        rw [← hQQ]
        exact g_reti (v := 1) (u := ()) hx hb hr rfl hlocks hw hP hK hD hS dX4_coversSome_42
abbrev rm_X4_canBe : Room := { frames := 3, cells := 0, slots := 0, locals := 67 }
set_option maxHeartbeats 4000000 in
set_option maxRecDepth 100000 in
theorem c_X4_canBe (l : Launch) (dC : Nat → ClassId) (dI : Nat → Nat → Nat) (cI cJ : ClassId) (r0 : Nat) (sz : Nat) (s_r0 : Nat → Int32) (p1 : Int32) (p2 : Int32) (p3 : Int32) (Q : Int32 → Prop) (hw : P_X4_canBe p1 p2 p3 s_r0 Q) : Met l yX4_canBe (Cond.code yX4_canBe cX4_canBe 6 (some .boolean) :: TBL) rm_X4_canBe (gPc (dC, dI) vwCl (gTy cI cJ) [.ref r0, .int p1, .int p2, .int p3] [(r0, .inl (cI, 87, .inl s_r0))] sz) (va_Qi (fun (r : Int32) (u : Unit) => Q r ) (gB (dC, dI) vwCl (gTy cI cJ) (va_A [(r0, .inl (cI, 87, .inl s_r0))] sz) (fun (u : Unit) => [(r0, .inl (cI, 87, .inl s_r0))])) (va_A [(r0, .inl (cI, 87, .inl s_r0))] sz)) 0 0 (va_A [(r0, .inl (cI, 87, .inl s_r0))] sz) := by
  refine Met.ofW (cc := cX4_canBe) (maxL := 6) (ret := (some .boolean)) (by decide) rfl ?_
  intro p e s m args below meth c s₁ B hml hv
  obtain ⟨rfl, hsz, hP, hK, hD0⟩ := hv
  have hx := B.exec
  have hb := B.bytes
  have hr := B.returns
  have hts := atoms_spec (ws := Cond.code yX4_canBe cX4_canBe 6 (some .boolean) :: TBL) B.pre
  have ht : ∀ w ∈ TBL, w.before ([.ref r0, .int p1, .int p2, .int p3] : List Value).toArray s = true := fun w h => hts w (List.mem_cons_of_mem _ h)
  clear hts
  have hown : s.vm.findClass RX4 = some m.cls := findClass_of_methodNamed B.named
  have hlocks := B.notSynchronized
  clear B
  subst hsz
  have hD := hD0.self (sz := s.heap.size)
  clear hD0
  generalize hAe : va_A [(r0, .inl (cI, 87, .inl s_r0))] s.heap.size = A at hD ⊢
  have hA : ∀ q : Nat, s.heap.size ≤ q → A q := fun q h => by rw [← hAe]; exact Or.inr h
  clear hAe
  have hS : va_S A s.heap s.heap [] := va_S.rf
  have hP : va_P (dC, dI) vwCl [(r0, .inl (cI, 87, .inl s_r0))] s.heap := hP
  have hl := lv_entry ([.ref r0, .int p1, .int p2, .int p3]) (n := 6) (Nat.le_of_ble_eq_true rfl)
  rw [lg_entry_eq]
  generalize (lg_sl ([.ref r0, .int p1, .int p2, .int p3]) ++ List.replicate (6 - (lg_sl ([.ref r0, .int p1, .int p2, .int p3])).length) Slot.unset).toArray = ls at hl ⊢
  have hl : lv_has ls 6 [(0, .ref r0), (1, .int p1), (2, .int p2), (3, .int p3)] := hl
  generalize hQQ : MQ below _ _ _ 0 0 A = QQ
  show W p l e rm_X4_canBe s m ([.ref r0, .int p1, .int p2, .int p3] : List Value).toArray below meth c s.heap [] 0 0 QQ (F0 m 0 ls [])
  have L6 : ∀ (x1 : Int32) (x2 : Int32) (x3 : Int32), ∀ (n : Nat) (x4 : Int32) (x5 : Int32), P_X4_canBe_L6 x1 x2 x3 s_r0 Q n x4 x5 → ∀ (H : Heap) (locs : List Loc) (ls : Array Slot), va_P (dC, dI) vwCl [(r0, .inl (cI, 87, .inl s_r0))] H → va_D A [(r0, .inl (cI, 87, .inl s_r0))] → va_S A s.heap H locs → lv_has ls 6 [(0, .ref r0), (1, .int x1), (2, .int x2), (3, .int x3), (4, .int x4), (5, .int x5)] → W p l e rm_X4_canBe s m ([.ref r0, .int p1, .int p2, .int p3] : List Value).toArray below meth c H locs 0 0 QQ (F0 m 6 ls []) := by
    intro x1 x2 x3
    intro n
    induction n with
    | zero => intro x4 x5 hw; rw [P_X4_canBe_L6_z] at hw; exact hw.elim
    | succ n ih =>
      intro x4 x5 hw
      rw [P_X4_canBe_L6_s] at hw
      generalize hrec : P_X4_canBe_L6 x1 x2 x3 s_r0 Q n = rec6 at ih hw
      have J72 : ∀ (x5 : Int32) (t0 : Int32), P_X4_canBe_J72 rec6 x5 t0 → ∀ (H : Heap) (locs : List Loc) (ls : Array Slot), va_P (dC, dI) vwCl [(r0, .inl (cI, 87, .inl s_r0))] H → va_D A [(r0, .inl (cI, 87, .inl s_r0))] → va_S A s.heap H locs → lv_has ls 6 [(0, .ref r0), (1, .int x1), (2, .int x2), (3, .int x3), (5, .int x5)] → W p l e rm_X4_canBe s m ([.ref r0, .int p1, .int p2, .int p3] : List Value).toArray below meth c H locs 0 0 QQ (F0 m 72 ls [.int t0]) := by
        intro x5 t0 hw H locs ls hP hD hS hl
        unfold P_X4_canBe_J72 at hw
        refine lv_istore (lv' := [(4, .int t0), (0, .ref r0), (1, .int x1), (2, .int x2), (3, .int x3), (5, .int x5)]) hx hb dX4_canBe_72 hl (by decide) rfl (fun ls hl => ?_)
        refine lv_iinc (v := (x5 + 1)) (lv' := [(5, .int (x5 + 1)), (4, .int t0), (0, .ref r0), (1, .int x1), (2, .int x2), (3, .int x3)]) hx hb dX4_canBe_74 hl (k := 5) rfl rfl (by decide) rfl (fun ls hl => ?_)
        refine lv_goto (tgt := 6) hx hb dX4_canBe_77 (by decide) ?_
        exact ih t0 (x5 + 1) hw H locs ls hP hD hS (lv_sub (l' := [(0, .ref r0), (1, .int x1), (2, .int x2), (3, .int x3), (4, .int t0), (5, .int (x5 + 1))]) hl [2, 3, 4, 5, 1, 0] rfl)
      have J67 : ∀ (x5 : Int32), P_X4_canBe_J67 rec6 x5 → ∀ (H : Heap) (locs : List Loc) (ls : Array Slot), va_P (dC, dI) vwCl [(r0, .inl (cI, 87, .inl s_r0))] H → va_D A [(r0, .inl (cI, 87, .inl s_r0))] → va_S A s.heap H locs → lv_has ls 6 [(0, .ref r0), (1, .int x1), (2, .int x2), (3, .int x3), (5, .int x5)] → W p l e rm_X4_canBe s m ([.ref r0, .int p1, .int p2, .int p3] : List Value).toArray below meth c H locs 0 0 QQ (F0 m 67 ls []) := by
        intro x5 hw H locs ls hP hD hS hl
        unfold P_X4_canBe_J67 at hw
        refine lv_iconst (v := 1) hx hb dX4_canBe_67 (by decide) ?_
        refine lv_goto (tgt := 72) hx hb dX4_canBe_68 (by decide) ?_
        exact J72 x5 1 hw H locs ls hP hD hS hl
      have J71 : ∀ (x5 : Int32), P_X4_canBe_J71 rec6 x5 → ∀ (H : Heap) (locs : List Loc) (ls : Array Slot), va_P (dC, dI) vwCl [(r0, .inl (cI, 87, .inl s_r0))] H → va_D A [(r0, .inl (cI, 87, .inl s_r0))] → va_S A s.heap H locs → lv_has ls 6 [(0, .ref r0), (1, .int x1), (2, .int x2), (3, .int x3), (5, .int x5)] → W p l e rm_X4_canBe s m ([.ref r0, .int p1, .int p2, .int p3] : List Value).toArray below meth c H locs 0 0 QQ (F0 m 71 ls []) := by
        intro x5 hw H locs ls hP hD hS hl
        unfold P_X4_canBe_J71 at hw
        refine lv_iconst (v := 0) hx hb dX4_canBe_71 (by decide) ?_
        exact J72 x5 0 hw H locs ls hP hD hS hl
      intro H locs ls hP hD hS hl
      unfold B_X4_canBe_L6 at hw
      refine lv_iload hx hb dX4_canBe_6 (lv_at hl 5 rfl) ?_
      refine lv_aload_n hx hb dX4_canBe_8 rfl (lv_at hl 0 rfl) ?_
      refine lv_iconst (v := 3) hx hb dX4_canBe_9 (by decide) ?_
      refine gv_iald hx hb hK hP 0 0 rfl rfl (k := 3) (by decide) (by unfold vp_in; decide) dX4_canBe_10 ?_
      refine lv_icmp_ge (tgt := 80) hx hb dX4_canBe_11 (by decide) (fun hc => ?_) (fun hc => ?_)
      · have hw := hw.1 hc
        refine lv_iload hx hb dX4_canBe_80 (lv_at hl 4 rfl) ?_
        obtain ⟨hb_1, hw⟩ := hw
        rw [← hQQ]
        exact g_reti (v := x4) (u := ()) hx hb hr hb_1 hlocks hw hP hK hD hS dX4_canBe_82
      · have hw := hw.2 hc
        refine lv_iload_n hx hb dX4_canBe_14 rfl (lv_at hl 3 rfl) ?_
        refine lv_aload_n hx hb dX4_canBe_15 rfl (lv_at hl 0 rfl) ?_
        refine lv_iload_n hx hb dX4_canBe_16 rfl (lv_at hl 1 rfl) ?_
        refine lv_iconst (v := 3) hx hb dX4_canBe_17 (by decide) ?_
        refine gc_Si (As := [.ref r0, .int x1, .int 3]) (rest := [.int x3]) (wr := []) ⟨hx, hb, hml, hown, ht⟩ (c_X4_of l dC dI cI cJ r0 H.size s_r0 x1 3 _ hw) (va_cwS 3 ht (g_S k_964 k_965 k_5 k_966) rfl rfl rfl (by decide +kernel) ⟨(Nat.le_of_ble_eq_true rfl), (Nat.le_of_ble_eq_true rfl)⟩) hK hP hD hS hA [0] [] rfl rfl (by decide) rfl hl.1 rfl (Nat.le_of_ble_eq_true rfl) ⟨(Nat.le_of_ble_eq_true rfl), (Nat.le_of_ble_eq_true rfl)⟩ dX4_canBe_18 (fun r_2 u H locs hw hP hD hS => ?_)
        try dsimp only at hw
        have hP : va_P (dC, dI) vwCl [(r0, .inl (cI, 87, .inl s_r0))] H := hP
        have hD : va_D A [(r0, .inl (cI, 87, .inl s_r0))] := hD
        refine lv_icmp_lt (tgt := 80) hx hb dX4_canBe_21 (by decide) (fun hc => ?_) (fun hc => ?_)
        · have hw := hw.1 hc
          refine lv_iload hx hb dX4_canBe_80 (lv_at hl 4 rfl) ?_
          obtain ⟨hb_3, hw⟩ := hw
          rw [← hQQ]
          exact g_reti (v := x4) (u := ()) hx hb hr hb_3 hlocks hw hP hK hD hS dX4_canBe_82
        · have hw := hw.2 hc
          refine lv_iload hx hb dX4_canBe_24 (lv_at hl 4 rfl) ?_
          refine lv_if_ne (tgt := 67) hx hb dX4_canBe_26 (by decide) (fun hc => ?_) (fun hc => ?_)
          · have hw := hw.1 hc
            exact J67 x5 hw H locs ls hP hD hS (lv_sub (l' := [(0, .ref r0), (1, .int x1), (2, .int x2), (3, .int x3), (5, .int x5)]) hl [0, 1, 2, 3, 5] rfl)
          · have hw := hw.2 hc
            refine lv_aload_n hx hb dX4_canBe_29 rfl (lv_at hl 0 rfl) ?_
            refine lv_iload hx hb dX4_canBe_30 (lv_at hl 5 rfl) ?_
            refine lv_iconst (v := 4) hx hb dX4_canBe_32 (by decide) ?_
            refine gc_Si (As := [.ref r0, .int x5, .int 4]) (rest := []) (wr := []) ⟨hx, hb, hml, hown, ht⟩ (c_X4_by l dC dI cI cJ r0 H.size s_r0 x5 4 _ hw) (va_cwS 3 ht (g_S k_949 k_950 k_5 k_951) rfl rfl rfl (by decide +kernel) ⟨(Nat.le_of_ble_eq_true rfl), (Nat.le_of_ble_eq_true rfl)⟩) hK hP hD hS hA [0] [] rfl rfl (by decide) rfl hl.1 rfl (Nat.le_of_ble_eq_true rfl) ⟨(Nat.le_of_ble_eq_true rfl), (Nat.le_of_ble_eq_true rfl)⟩ dX4_canBe_33 (fun r_4 u H locs hw hP hD hS => ?_)
            try dsimp only at hw
            have hP : va_P (dC, dI) vwCl [(r0, .inl (cI, 87, .inl s_r0))] H := hP
            have hD : va_D A [(r0, .inl (cI, 87, .inl s_r0))] := hD
            refine lv_aload_n hx hb dX4_canBe_36 rfl (lv_at hl 0 rfl) ?_
            refine lv_iload_n hx hb dX4_canBe_37 rfl (lv_at hl 1 rfl) ?_
            refine lv_iconst (v := 1) hx hb dX4_canBe_38 (by decide) ?_
            refine gc_Si (As := [.ref r0, .int x1, .int 1]) (rest := [.int r_4]) (wr := []) ⟨hx, hb, hml, hown, ht⟩ (c_X4_of l dC dI cI cJ r0 H.size s_r0 x1 1 _ hw) (va_cwS 3 ht (g_S k_964 k_965 k_5 k_966) rfl rfl rfl (by decide +kernel) ⟨(Nat.le_of_ble_eq_true rfl), (Nat.le_of_ble_eq_true rfl)⟩) hK hP hD hS hA [0] [] rfl rfl (by decide) rfl hl.1 rfl (Nat.le_of_ble_eq_true rfl) ⟨(Nat.le_of_ble_eq_true rfl), (Nat.le_of_ble_eq_true rfl)⟩ dX4_canBe_39 (fun r_5 u H locs hw hP hD hS => ?_)
            try dsimp only at hw
            have hP : va_P (dC, dI) vwCl [(r0, .inl (cI, 87, .inl s_r0))] H := hP
            have hD : va_D A [(r0, .inl (cI, 87, .inl s_r0))] := hD
            refine lv_ishr hx hb dX4_canBe_42 ?_
            refine lv_iconst (v := 1) hx hb dX4_canBe_43 (by decide) ?_
            refine lv_iand hx hb dX4_canBe_44 ?_
            refine lv_iconst (v := 1) hx hb dX4_canBe_45 (by decide) ?_
            refine lv_icmp_ne (tgt := 71) hx hb dX4_canBe_46 (by decide) (fun hc => ?_) (fun hc => ?_)
            · have hw := hw.1 hc
              exact J71 x5 hw H locs ls hP hD hS (lv_sub (l' := [(0, .ref r0), (1, .int x1), (2, .int x2), (3, .int x3), (5, .int x5)]) hl [0, 1, 2, 3, 5] rfl)
            · have hw := hw.2 hc
              refine lv_aload_n hx hb dX4_canBe_49 rfl (lv_at hl 0 rfl) ?_
              refine lv_iload hx hb dX4_canBe_50 (lv_at hl 5 rfl) ?_
              refine lv_iload_n hx hb dX4_canBe_52 rfl (lv_at hl 3 rfl) ?_
              refine lv_aload_n hx hb dX4_canBe_53 rfl (lv_at hl 0 rfl) ?_
              refine lv_iload_n hx hb dX4_canBe_54 rfl (lv_at hl 1 rfl) ?_
              refine lv_iconst (v := 2) hx hb dX4_canBe_55 (by decide) ?_
              refine gc_Si (As := [.ref r0, .int x1, .int 2]) (rest := [.int x3, .int x5, .ref r0]) (wr := []) ⟨hx, hb, hml, hown, ht⟩ (c_X4_of l dC dI cI cJ r0 H.size s_r0 x1 2 _ hw) (va_cwS 3 ht (g_S k_964 k_965 k_5 k_966) rfl rfl rfl (by decide +kernel) ⟨(Nat.le_of_ble_eq_true rfl), (Nat.le_of_ble_eq_true rfl)⟩) hK hP hD hS hA [0] [] rfl rfl (by decide) rfl hl.1 rfl (Nat.le_of_ble_eq_true rfl) ⟨(Nat.le_of_ble_eq_true rfl), (Nat.le_of_ble_eq_true rfl)⟩ dX4_canBe_56 (fun r_6 u H locs hw hP hD hS => ?_)
              try dsimp only at hw
              have hP : va_P (dC, dI) vwCl [(r0, .inl (cI, 87, .inl s_r0))] H := hP
              have hD : va_D A [(r0, .inl (cI, 87, .inl s_r0))] := hD
              refine lv_iload_n hx hb dX4_canBe_59 rfl (lv_at hl 2 rfl) ?_
              refine lv_iadd hx hb dX4_canBe_60 ?_
              refine gc_Si (As := [.ref r0, .int x5, .int x3, .int (r_6 + x2)]) (rest := []) (wr := []) ⟨hx, hb, hml, hown, ht⟩ (c_X4_covers l dC dI cI cJ r0 H.size s_r0 x5 x3 (r_6 + x2) _ hw) (va_cwS 4 ht (g_S k_974 k_975 k_5 k_976) rfl rfl rfl (by decide +kernel) ⟨(Nat.le_of_ble_eq_true rfl), (Nat.le_of_ble_eq_true rfl)⟩) hK hP hD hS hA [0] [] rfl rfl (by decide) rfl hl.1 rfl (Nat.le_of_ble_eq_true rfl) ⟨(Nat.le_of_ble_eq_true rfl), (Nat.le_of_ble_eq_true rfl)⟩ dX4_canBe_61 (fun r_7 u H locs hw hP hD hS => ?_)
              try dsimp only at hw
              have hP : va_P (dC, dI) vwCl [(r0, .inl (cI, 87, .inl s_r0))] H := hP
              have hD : va_D A [(r0, .inl (cI, 87, .inl s_r0))] := hD
              refine lv_if_eq (tgt := 71) hx hb dX4_canBe_64 (by decide) (fun hc => ?_) (fun hc => ?_)
              · have hw := hw.1 hc
                exact J71 x5 hw H locs ls hP hD hS (lv_sub (l' := [(0, .ref r0), (1, .int x1), (2, .int x2), (3, .int x3), (5, .int x5)]) hl [0, 1, 2, 3, 5] rfl)
              · have hw := hw.2 hc
                exact J67 x5 hw H locs ls hP hD hS (lv_sub (l' := [(0, .ref r0), (1, .int x1), (2, .int x2), (3, .int x3), (5, .int x5)]) hl [0, 1, 2, 3, 5] rfl)
  obtain ⟨H, hHH⟩ : ∃ H, H = s.heap := ⟨_, rfl⟩
  rw [← hHH] at hP ⊢
  have hS : va_S A s.heap H [] := by rw [hHH]; exact hS
  clear hHH
  generalize ([] : List Loc) = locs at hS ⊢
  unfold P_X4_canBe at hw
  refine lv_iconst (v := 0) hx hb dX4_canBe_0 (by decide) ?_
  refine lv_istore (lv' := [(4, .int 0), (0, .ref r0), (1, .int p1), (2, .int p2), (3, .int p3)]) hx hb dX4_canBe_1 hl (by decide) rfl (fun ls hl => ?_)
  refine lv_iconst (v := 0) hx hb dX4_canBe_3 (by decide) ?_
  refine lv_istore (lv' := [(5, .int 0), (4, .int 0), (0, .ref r0), (1, .int p1), (2, .int p2), (3, .int p3)]) hx hb dX4_canBe_4 hl (by decide) rfl (fun ls hl => ?_)
  obtain ⟨n, hw⟩ := hw
  exact L6 p1 p2 p3 n 0 0 hw H locs ls hP hD hS (lv_sub (l' := [(0, .ref r0), (1, .int p1), (2, .int p2), (3, .int p3), (4, .int 0), (5, .int 0)]) hl [2, 3, 4, 5, 1, 0] rfl)
abbrev rm_X4_firstLight : Room := { frames := 4, cells := 0, slots := 0, locals := 92 }
set_option maxHeartbeats 4000000 in
set_option maxRecDepth 100000 in
theorem c_X4_firstLight (l : Launch) (dC : Nat → ClassId) (dI : Nat → Nat → Nat) (cI cJ : ClassId) (r0 : Nat) (sz : Nat) (s_r0 : Nat → Int32) (p1 : Int32) (p2 : Int32) (p3 : Int32) (Q : Int32 → Prop) (hw : P_X4_firstLight p1 p2 p3 s_r0 Q) : Met l yX4_firstLight (Cond.code yX4_firstLight cX4_firstLight 5 (some .int) :: TBL) rm_X4_firstLight (gPc (dC, dI) vwCl (gTy cI cJ) [.ref r0, .int p1, .int p2, .int p3] [(r0, .inl (cI, 87, .inl s_r0))] sz) (va_Qi (fun (r : Int32) (u : Unit) => Q r ) (gB (dC, dI) vwCl (gTy cI cJ) (va_A [(r0, .inl (cI, 87, .inl s_r0))] sz) (fun (u : Unit) => [(r0, .inl (cI, 87, .inl s_r0))])) (va_A [(r0, .inl (cI, 87, .inl s_r0))] sz)) 0 0 (va_A [(r0, .inl (cI, 87, .inl s_r0))] sz) := by
  refine Met.ofW (cc := cX4_firstLight) (maxL := 5) (ret := (some .int)) (by decide) rfl ?_
  intro p e s m args below meth c s₁ B hml hv
  obtain ⟨rfl, hsz, hP, hK, hD0⟩ := hv
  have hx := B.exec
  have hb := B.bytes
  have hr := B.returns
  have hts := atoms_spec (ws := Cond.code yX4_firstLight cX4_firstLight 5 (some .int) :: TBL) B.pre
  have ht : ∀ w ∈ TBL, w.before ([.ref r0, .int p1, .int p2, .int p3] : List Value).toArray s = true := fun w h => hts w (List.mem_cons_of_mem _ h)
  clear hts
  have hown : s.vm.findClass RX4 = some m.cls := findClass_of_methodNamed B.named
  have hlocks := B.notSynchronized
  clear B
  subst hsz
  have hD := hD0.self (sz := s.heap.size)
  clear hD0
  generalize hAe : va_A [(r0, .inl (cI, 87, .inl s_r0))] s.heap.size = A at hD ⊢
  have hA : ∀ q : Nat, s.heap.size ≤ q → A q := fun q h => by rw [← hAe]; exact Or.inr h
  clear hAe
  have hS : va_S A s.heap s.heap [] := va_S.rf
  have hP : va_P (dC, dI) vwCl [(r0, .inl (cI, 87, .inl s_r0))] s.heap := hP
  have hl := lv_entry ([.ref r0, .int p1, .int p2, .int p3]) (n := 5) (Nat.le_of_ble_eq_true rfl)
  rw [lg_entry_eq]
  generalize (lg_sl ([.ref r0, .int p1, .int p2, .int p3]) ++ List.replicate (5 - (lg_sl ([.ref r0, .int p1, .int p2, .int p3])).length) Slot.unset).toArray = ls at hl ⊢
  have hl : lv_has ls 5 [(0, .ref r0), (1, .int p1), (2, .int p2), (3, .int p3)] := hl
  generalize hQQ : MQ below _ _ _ 0 0 A = QQ
  show W p l e rm_X4_firstLight s m ([.ref r0, .int p1, .int p2, .int p3] : List Value).toArray below meth c s.heap [] 0 0 QQ (F0 m 0 ls [])
  have L3 : ∀ (x1 : Int32) (x2 : Int32), ∀ (n : Nat) (x4 : Int32), P_X4_firstLight_L3 x1 x2 s_r0 Q n x4 → ∀ (H : Heap) (locs : List Loc) (ls : Array Slot), va_P (dC, dI) vwCl [(r0, .inl (cI, 87, .inl s_r0))] H → va_D A [(r0, .inl (cI, 87, .inl s_r0))] → va_S A s.heap H locs → lv_has ls 5 [(0, .ref r0), (1, .int x1), (2, .int x2), (4, .int x4)] → W p l e rm_X4_firstLight s m ([.ref r0, .int p1, .int p2, .int p3] : List Value).toArray below meth c H locs 0 0 QQ (F0 m 3 ls []) := by
    intro x1 x2
    intro n
    induction n with
    | zero => intro x4 hw; rw [P_X4_firstLight_L3_z] at hw; exact hw.elim
    | succ n ih =>
      intro x4 hw
      rw [P_X4_firstLight_L3_s] at hw
      generalize hrec : P_X4_firstLight_L3 x1 x2 s_r0 Q n = rec3 at ih hw
      intro H locs ls hP hD hS hl
      unfold B_X4_firstLight_L3 at hw
      refine lv_iload hx hb dX4_firstLight_3 (lv_at hl 3 rfl) ?_
      refine lv_sipush (v := 200) hx hb dX4_firstLight_5 (by decide) ?_
      refine lv_icmp_ge (tgt := 31) hx hb dX4_firstLight_8 (by decide) (fun hc => ?_) (fun hc => ?_)
      · have hw := hw.1 hc
        refine lv_iconst (v := (-1)) hx hb dX4_firstLight_31 (by decide) ?_
        rw [← hQQ]
        exact g_reti (v := (-1)) (u := ()) hx hb hr rfl hlocks hw hP hK hD hS dX4_firstLight_32
      · have hw := hw.2 hc
        refine lv_aload_n hx hb dX4_firstLight_11 rfl (lv_at hl 0 rfl) ?_
        refine lv_iload_n hx hb dX4_firstLight_12 rfl (lv_at hl 1 rfl) ?_
        refine lv_iload_n hx hb dX4_firstLight_13 rfl (lv_at hl 2 rfl) ?_
        refine lv_iload hx hb dX4_firstLight_14 (lv_at hl 3 rfl) ?_
        refine gc_Si (As := [.ref r0, .int x1, .int x2, .int x4]) (rest := []) (wr := []) ⟨hx, hb, hml, hown, ht⟩ (c_X4_canBe l dC dI cI cJ r0 H.size s_r0 x1 x2 x4 _ hw) (va_cwS 4 ht (g_S k_971 k_972 k_5 k_973) rfl rfl rfl (by decide +kernel) ⟨(Nat.le_of_ble_eq_true rfl), (Nat.le_of_ble_eq_true rfl)⟩) hK hP hD hS hA [0] [] rfl rfl (by decide) rfl hl.1 rfl (Nat.le_of_ble_eq_true rfl) ⟨(Nat.le_of_ble_eq_true rfl), (Nat.le_of_ble_eq_true rfl)⟩ dX4_firstLight_16 (fun r_1 u H locs hw hP hD hS => ?_)
        try dsimp only at hw
        have hP : va_P (dC, dI) vwCl [(r0, .inl (cI, 87, .inl s_r0))] H := hP
        have hD : va_D A [(r0, .inl (cI, 87, .inl s_r0))] := hD
        refine lv_if_eq (tgt := 25) hx hb dX4_firstLight_19 (by decide) (fun hc => ?_) (fun hc => ?_)
        · have hw := hw.1 hc
          refine lv_iinc (v := (x4 + 1)) (lv' := [(4, .int (x4 + 1)), (0, .ref r0), (1, .int x1), (2, .int x2)]) hx hb dX4_firstLight_25 hl (k := 3) rfl rfl (by decide) rfl (fun ls hl => ?_)
          refine lv_goto (tgt := 3) hx hb dX4_firstLight_28 (by decide) ?_
          exact ih (x4 + 1) hw H locs ls hP hD hS (lv_sub (l' := [(0, .ref r0), (1, .int x1), (2, .int x2), (4, .int (x4 + 1))]) hl [1, 2, 3, 0] rfl)
        · have hw := hw.2 hc
          refine lv_iload hx hb dX4_firstLight_22 (lv_at hl 3 rfl) ?_
          rw [← hQQ]
          exact g_reti (v := x4) (u := ()) hx hb hr rfl hlocks hw hP hK hD hS dX4_firstLight_24
  obtain ⟨H, hHH⟩ : ∃ H, H = s.heap := ⟨_, rfl⟩
  rw [← hHH] at hP ⊢
  have hS : va_S A s.heap H [] := by rw [hHH]; exact hS
  clear hHH
  generalize ([] : List Loc) = locs at hS ⊢
  unfold P_X4_firstLight at hw
  refine lv_iload_n hx hb dX4_firstLight_0 rfl (lv_at hl 3 rfl) ?_
  refine lv_istore (lv' := [(4, .int p3), (0, .ref r0), (1, .int p1), (2, .int p2), (3, .int p3)]) hx hb dX4_firstLight_1 hl (by decide) rfl (fun ls hl => ?_)
  obtain ⟨n, hw⟩ := hw
  exact L3 p1 p2 n p3 hw H locs ls hP hD hS (lv_sub (l' := [(0, .ref r0), (1, .int p1), (2, .int p2), (4, .int p3)]) hl [1, 2, 3, 0] rfl)
abbrev rm_X4_together : Room := { frames := 4, cells := 0, slots := 0, locals := 92 }
set_option maxHeartbeats 4000000 in
set_option maxRecDepth 100000 in
theorem c_X4_together (l : Launch) (dC : Nat → ClassId) (dI : Nat → Nat → Nat) (cI cJ : ClassId) (o o_now o_then o_past o_text o_told o_lit o_whole o_goes o_latest r0 : Nat) (sz : Nat) (s_latest : Nat → Int32) (s_r0 : Nat → Int32) (s_kept : Int32) (s_typed : Int32) (s_thrown : Int32) (s_at : Int32) (s_isFault : Int32) (s_value : Int32) (s_tolds : Int32) (s_isLaid : Int32) (p1 : Int32) (Q : Int32 → (Nat → Int32) → Prop) (hw : P_X4_together p1 s_latest s_r0 Q) : Met l yX4_together (Cond.code yX4_together cX4_together 6 (some .int) :: TBL) rm_X4_together (gPc (dC, dI) vwCl (gTy cI cJ) [.ref o, .ref r0, .int p1] [(o, .inr (4, [.ref o_now, .ref o_then, .ref o_past, .int s_kept, .ref o_text, .int s_typed, .int s_thrown, .int s_at, .int s_isFault, .int s_value, .ref o_told, .int s_tolds, .ref o_lit, .ref o_whole, .ref o_goes, .int s_isLaid, .ref o_latest])), (o_latest, .inl (cI, 12, .inl s_latest)), (r0, .inl (cI, 87, .inl s_r0))] sz) (va_Qi (fun (r : Int32) (u : (Nat → Int32)) => Q r u) (gB (dC, dI) vwCl (gTy cI cJ) (va_A [(o, .inr (4, [.ref o_now, .ref o_then, .ref o_past, .int s_kept, .ref o_text, .int s_typed, .int s_thrown, .int s_at, .int s_isFault, .int s_value, .ref o_told, .int s_tolds, .ref o_lit, .ref o_whole, .ref o_goes, .int s_isLaid, .ref o_latest])), (o_latest, .inl (cI, 12, .inl s_latest)), (r0, .inl (cI, 87, .inl s_r0))] sz) (fun (u : (Nat → Int32)) => [(o, .inr (4, [.ref o_now, .ref o_then, .ref o_past, .int s_kept, .ref o_text, .int s_typed, .int s_thrown, .int s_at, .int s_isFault, .int s_value, .ref o_told, .int s_tolds, .ref o_lit, .ref o_whole, .ref o_goes, .int s_isLaid, .ref o_latest])), (o_latest, .inl (cI, 12, .inl u)), (r0, .inl (cI, 87, .inl s_r0))])) (va_A [(o, .inr (4, [.ref o_now, .ref o_then, .ref o_past, .int s_kept, .ref o_text, .int s_typed, .int s_thrown, .int s_at, .int s_isFault, .int s_value, .ref o_told, .int s_tolds, .ref o_lit, .ref o_whole, .ref o_goes, .int s_isLaid, .ref o_latest])), (o_latest, .inl (cI, 12, .inl s_latest)), (r0, .inl (cI, 87, .inl s_r0))] sz)) 0 0 (va_A [(o, .inr (4, [.ref o_now, .ref o_then, .ref o_past, .int s_kept, .ref o_text, .int s_typed, .int s_thrown, .int s_at, .int s_isFault, .int s_value, .ref o_told, .int s_tolds, .ref o_lit, .ref o_whole, .ref o_goes, .int s_isLaid, .ref o_latest])), (o_latest, .inl (cI, 12, .inl s_latest)), (r0, .inl (cI, 87, .inl s_r0))] sz) := by
  refine Met.ofW (cc := cX4_together) (maxL := 6) (ret := (some .int)) (by decide) rfl ?_
  intro p e s m args below meth c s₁ B hml hv
  obtain ⟨rfl, hsz, hP, hK, hD0⟩ := hv
  have hx := B.exec
  have hb := B.bytes
  have hr := B.returns
  have hts := atoms_spec (ws := Cond.code yX4_together cX4_together 6 (some .int) :: TBL) B.pre
  have ht : ∀ w ∈ TBL, w.before ([.ref o, .ref r0, .int p1] : List Value).toArray s = true := fun w h => hts w (List.mem_cons_of_mem _ h)
  clear hts
  have hown : s.vm.findClass RX4 = some m.cls := findClass_of_methodNamed B.named
  have hlocks := B.notSynchronized
  clear B
  subst hsz
  have hD := hD0.self (sz := s.heap.size)
  clear hD0
  generalize hAe : va_A [(o, .inr (4, [.ref o_now, .ref o_then, .ref o_past, .int s_kept, .ref o_text, .int s_typed, .int s_thrown, .int s_at, .int s_isFault, .int s_value, .ref o_told, .int s_tolds, .ref o_lit, .ref o_whole, .ref o_goes, .int s_isLaid, .ref o_latest])), (o_latest, .inl (cI, 12, .inl s_latest)), (r0, .inl (cI, 87, .inl s_r0))] s.heap.size = A at hD ⊢
  have hA : ∀ q : Nat, s.heap.size ≤ q → A q := fun q h => by rw [← hAe]; exact Or.inr h
  clear hAe
  have hS : va_S A s.heap s.heap [] := va_S.rf
  have hP : va_P (dC, dI) vwCl [(o, .inr (4, [.ref o_now, .ref o_then, .ref o_past, .int s_kept, .ref o_text, .int s_typed, .int s_thrown, .int s_at, .int s_isFault, .int s_value, .ref o_told, .int s_tolds, .ref o_lit, .ref o_whole, .ref o_goes, .int s_isLaid, .ref o_latest])), (o_latest, .inl (cI, 12, .inl s_latest)), (r0, .inl (cI, 87, .inl s_r0))] s.heap := hP
  have hl := lv_entry ([.ref o, .ref r0, .int p1]) (n := 6) (Nat.le_of_ble_eq_true rfl)
  rw [lg_entry_eq]
  generalize (lg_sl ([.ref o, .ref r0, .int p1]) ++ List.replicate (6 - (lg_sl ([.ref o, .ref r0, .int p1])).length) Slot.unset).toArray = ls at hl ⊢
  have hl : lv_has ls 6 [(0, .ref o), (1, .ref r0), (2, .int p1)] := hl
  generalize hQQ : MQ below _ _ _ 0 0 A = QQ
  show W p l e rm_X4_together s m ([.ref o, .ref r0, .int p1] : List Value).toArray below meth c s.heap [] 0 0 QQ (F0 m 0 ls [])
  have L2 : ∀ (x2 : Int32) (K2_25 : (Nat → Int32) → Prop), (∀ (s_latest : Nat → Int32), K2_25 s_latest → ∀ (H : Heap) (locs : List Loc) (ls : Array Slot), va_P (dC, dI) vwCl [(o, .inr (4, [.ref o_now, .ref o_then, .ref o_past, .int s_kept, .ref o_text, .int s_typed, .int s_thrown, .int s_at, .int s_isFault, .int s_value, .ref o_told, .int s_tolds, .ref o_lit, .ref o_whole, .ref o_goes, .int s_isLaid, .ref o_latest])), (o_latest, .inl (cI, 12, .inl s_latest)), (r0, .inl (cI, 87, .inl s_r0))] H → va_D A [(o, .inr (4, [.ref o_now, .ref o_then, .ref o_past, .int s_kept, .ref o_text, .int s_typed, .int s_thrown, .int s_at, .int s_isFault, .int s_value, .ref o_told, .int s_tolds, .ref o_lit, .ref o_whole, .ref o_goes, .int s_isLaid, .ref o_latest])), (o_latest, .inl (cI, 12, .inl s_latest)), (r0, .inl (cI, 87, .inl s_r0))] → va_S A s.heap H locs → lv_has ls 6 [(0, .ref o), (1, .ref r0), (2, .int x2)] → W p l e rm_X4_together s m ([.ref o, .ref r0, .int p1] : List Value).toArray below meth c H locs 0 0 QQ (F0 m 25 ls [])) → ∀ (n : Nat) (x3 : Int32) (s_latest : Nat → Int32), P_X4_together_L2 x2 s_r0 K2_25 n x3 s_latest → ∀ (H : Heap) (locs : List Loc) (ls : Array Slot), va_P (dC, dI) vwCl [(o, .inr (4, [.ref o_now, .ref o_then, .ref o_past, .int s_kept, .ref o_text, .int s_typed, .int s_thrown, .int s_at, .int s_isFault, .int s_value, .ref o_told, .int s_tolds, .ref o_lit, .ref o_whole, .ref o_goes, .int s_isLaid, .ref o_latest])), (o_latest, .inl (cI, 12, .inl s_latest)), (r0, .inl (cI, 87, .inl s_r0))] H → va_D A [(o, .inr (4, [.ref o_now, .ref o_then, .ref o_past, .int s_kept, .ref o_text, .int s_typed, .int s_thrown, .int s_at, .int s_isFault, .int s_value, .ref o_told, .int s_tolds, .ref o_lit, .ref o_whole, .ref o_goes, .int s_isLaid, .ref o_latest])), (o_latest, .inl (cI, 12, .inl s_latest)), (r0, .inl (cI, 87, .inl s_r0))] → va_S A s.heap H locs → lv_has ls 6 [(0, .ref o), (1, .ref r0), (2, .int x2), (3, .int x3)] → W p l e rm_X4_together s m ([.ref o, .ref r0, .int p1] : List Value).toArray below meth c H locs 0 0 QQ (F0 m 2 ls []) := by
    intro x2 K2_25 hK2_25
    intro n
    induction n with
    | zero => intro x3 s_latest hw; rw [P_X4_together_L2_z] at hw; exact hw.elim
    | succ n ih =>
      intro x3 s_latest hw
      rw [P_X4_together_L2_s] at hw
      generalize hrec : P_X4_together_L2 x2 s_r0 K2_25 n = rec2 at ih hw
      intro H locs ls hP hD hS hl
      unfold B_X4_together_L2 at hw
      refine lv_iload_n hx hb dX4_together_2 rfl (lv_at hl 3 rfl) ?_
      refine lv_aload_n hx hb dX4_together_3 rfl (lv_at hl 1 rfl) ?_
      refine lv_iload_n hx hb dX4_together_4 rfl (lv_at hl 2 rfl) ?_
      refine lv_iconst (v := 0) hx hb dX4_together_5 (by decide) ?_
      refine gc_Si (As := [.ref r0, .int x2, .int 0]) (rest := [.int x3]) (wr := [(o, .inr (4, [.ref o_now, .ref o_then, .ref o_past, .int s_kept, .ref o_text, .int s_typed, .int s_thrown, .int s_at, .int s_isFault, .int s_value, .ref o_told, .int s_tolds, .ref o_lit, .ref o_whole, .ref o_goes, .int s_isLaid, .ref o_latest])), (o_latest, .inl (cI, 12, .inl s_latest))]) ⟨hx, hb, hml, hown, ht⟩ (c_X4_of l dC dI cI cJ r0 H.size s_r0 x2 0 _ hw) (va_cwS 3 ht (g_S k_964 k_965 k_5 k_966) rfl rfl rfl (by decide +kernel) ⟨(Nat.le_of_ble_eq_true rfl), (Nat.le_of_ble_eq_true rfl)⟩) hK hP hD hS hA [2] [0, 1] rfl rfl (by decide) rfl hl.1 rfl (Nat.le_of_ble_eq_true rfl) ⟨(Nat.le_of_ble_eq_true rfl), (Nat.le_of_ble_eq_true rfl)⟩ dX4_together_6 (fun r_1 u H locs hw hP hD hS => ?_)
      try dsimp only at hw
      have hP : va_P (dC, dI) vwCl [(o, .inr (4, [.ref o_now, .ref o_then, .ref o_past, .int s_kept, .ref o_text, .int s_typed, .int s_thrown, .int s_at, .int s_isFault, .int s_value, .ref o_told, .int s_tolds, .ref o_lit, .ref o_whole, .ref o_goes, .int s_isLaid, .ref o_latest])), (o_latest, .inl (cI, 12, .inl s_latest)), (r0, .inl (cI, 87, .inl s_r0))] H := hP
      have hD : va_D A [(o, .inr (4, [.ref o_now, .ref o_then, .ref o_past, .int s_kept, .ref o_text, .int s_typed, .int s_thrown, .int s_at, .int s_isFault, .int s_value, .ref o_told, .int s_tolds, .ref o_lit, .ref o_whole, .ref o_goes, .int s_isLaid, .ref o_latest])), (o_latest, .inl (cI, 12, .inl s_latest)), (r0, .inl (cI, 87, .inl s_r0))] := hD
      refine lv_icmp_ge (tgt := 25) hx hb dX4_together_9 (by decide) (fun hc => ?_) (fun hc => ?_)
      · have hw := hw.1 hc
        exact hK2_25 s_latest hw H locs ls hP hD hS (lv_sub (l' := [(0, .ref o), (1, .ref r0), (2, .int x2)]) hl [0, 1, 2] rfl)
      · have hw := hw.2 hc
        refine lv_aload_n hx hb dX4_together_12 rfl (lv_at hl 0 rfl) ?_
        refine va_get (D := (dC, dI)) (ci := 4) (v := .ref o_latest) (C := RX4) (T := TX4) (N := 17) hx hb ht i_X4 hown hK hP 0 rfl rfl 16 (by decide) (ht _ k_834) (fun _ h9 => h9) rfl dX4_together_13 ?_
        refine lv_iload_n hx hb dX4_together_16 rfl (lv_at hl 3 rfl) ?_
        refine lv_iconst (v := (-1)) hx hb dX4_together_17 (by decide) ?_
        obtain ⟨hi_2, hw⟩ := hw
        refine gv_iast hx hb hK hP hD hS 1 0 rfl rfl rfl hi_2 dX4_together_18 (fun H locs hP hD hS => ?_)
        have hP : va_P (dC, dI) vwCl [(o, .inr (4, [.ref o_now, .ref o_then, .ref o_past, .int s_kept, .ref o_text, .int s_typed, .int s_thrown, .int s_at, .int s_isFault, .int s_value, .ref o_told, .int s_tolds, .ref o_lit, .ref o_whole, .ref o_goes, .int s_isLaid, .ref o_latest])), (o_latest, .inl (cI, 12, .inl (upd s_latest x3.toNatClampNeg (-1)))), (r0, .inl (cI, 87, .inl s_r0))] H := hP
        have hD : va_D A [(o, .inr (4, [.ref o_now, .ref o_then, .ref o_past, .int s_kept, .ref o_text, .int s_typed, .int s_thrown, .int s_at, .int s_isFault, .int s_value, .ref o_told, .int s_tolds, .ref o_lit, .ref o_whole, .ref o_goes, .int s_isLaid, .ref o_latest])), (o_latest, .inl (cI, 12, .inl (upd s_latest x3.toNatClampNeg (-1)))), (r0, .inl (cI, 87, .inl s_r0))] := hD
        refine lv_iinc (v := (x3 + 1)) (lv' := [(3, .int (x3 + 1)), (0, .ref o), (1, .ref r0), (2, .int x2)]) hx hb dX4_together_19 hl (k := 3) rfl rfl (by decide) rfl (fun ls hl => ?_)
        refine lv_goto (tgt := 2) hx hb dX4_together_22 (by decide) ?_
        exact ih (x3 + 1) (upd s_latest x3.toNatClampNeg (-1)) hw H locs ls hP hD hS (lv_sub (l' := [(0, .ref o), (1, .ref r0), (2, .int x2), (3, .int (x3 + 1))]) hl [1, 2, 3, 0] rfl)
  have L32 : ∀ (x2 : Int32), ∀ (n : Nat) (x3 : Int32) (s_latest : Nat → Int32), P_X4_together_L32 x2 s_r0 Q n x3 s_latest → ∀ (H : Heap) (locs : List Loc) (ls : Array Slot), va_P (dC, dI) vwCl [(o, .inr (4, [.ref o_now, .ref o_then, .ref o_past, .int s_kept, .ref o_text, .int s_typed, .int s_thrown, .int s_at, .int s_isFault, .int s_value, .ref o_told, .int s_tolds, .ref o_lit, .ref o_whole, .ref o_goes, .int s_isLaid, .ref o_latest])), (o_latest, .inl (cI, 12, .inl s_latest)), (r0, .inl (cI, 87, .inl s_r0))] H → va_D A [(o, .inr (4, [.ref o_now, .ref o_then, .ref o_past, .int s_kept, .ref o_text, .int s_typed, .int s_thrown, .int s_at, .int s_isFault, .int s_value, .ref o_told, .int s_tolds, .ref o_lit, .ref o_whole, .ref o_goes, .int s_isLaid, .ref o_latest])), (o_latest, .inl (cI, 12, .inl s_latest)), (r0, .inl (cI, 87, .inl s_r0))] → va_S A s.heap H locs → lv_has ls 6 [(0, .ref o), (1, .ref r0), (2, .int x2), (3, .int x3)] → W p l e rm_X4_together s m ([.ref o, .ref r0, .int p1] : List Value).toArray below meth c H locs 0 0 QQ (F0 m 32 ls []) := by
    intro x2
    intro n
    induction n with
    | zero => intro x3 s_latest hw; rw [P_X4_together_L32_z] at hw; exact hw.elim
    | succ n ih =>
      intro x3 s_latest hw
      rw [P_X4_together_L32_s] at hw
      generalize hrec : P_X4_together_L32 x2 s_r0 Q n = rec32 at ih hw
      have L45 : ∀ (x2 : Int32) (x3 : Int32) (K45_129 : Int32 → (Nat → Int32) → Prop), (∀ (x4 : Int32) (s_latest : Nat → Int32), K45_129 x4 s_latest → ∀ (H : Heap) (locs : List Loc) (ls : Array Slot), va_P (dC, dI) vwCl [(o, .inr (4, [.ref o_now, .ref o_then, .ref o_past, .int s_kept, .ref o_text, .int s_typed, .int s_thrown, .int s_at, .int s_isFault, .int s_value, .ref o_told, .int s_tolds, .ref o_lit, .ref o_whole, .ref o_goes, .int s_isLaid, .ref o_latest])), (o_latest, .inl (cI, 12, .inl s_latest)), (r0, .inl (cI, 87, .inl s_r0))] H → va_D A [(o, .inr (4, [.ref o_now, .ref o_then, .ref o_past, .int s_kept, .ref o_text, .int s_typed, .int s_thrown, .int s_at, .int s_isFault, .int s_value, .ref o_told, .int s_tolds, .ref o_lit, .ref o_whole, .ref o_goes, .int s_isLaid, .ref o_latest])), (o_latest, .inl (cI, 12, .inl s_latest)), (r0, .inl (cI, 87, .inl s_r0))] → va_S A s.heap H locs → lv_has ls 6 [(0, .ref o), (1, .ref r0), (2, .int x2), (3, .int x3), (4, .int x4)] → W p l e rm_X4_together s m ([.ref o, .ref r0, .int p1] : List Value).toArray below meth c H locs 0 0 QQ (F0 m 129 ls [])) → ∀ (n : Nat) (x4 : Int32) (x5 : Int32) (s_latest : Nat → Int32), P_X4_together_L45 x2 x3 s_r0 K45_129 n x4 x5 s_latest → ∀ (H : Heap) (locs : List Loc) (ls : Array Slot), va_P (dC, dI) vwCl [(o, .inr (4, [.ref o_now, .ref o_then, .ref o_past, .int s_kept, .ref o_text, .int s_typed, .int s_thrown, .int s_at, .int s_isFault, .int s_value, .ref o_told, .int s_tolds, .ref o_lit, .ref o_whole, .ref o_goes, .int s_isLaid, .ref o_latest])), (o_latest, .inl (cI, 12, .inl s_latest)), (r0, .inl (cI, 87, .inl s_r0))] H → va_D A [(o, .inr (4, [.ref o_now, .ref o_then, .ref o_past, .int s_kept, .ref o_text, .int s_typed, .int s_thrown, .int s_at, .int s_isFault, .int s_value, .ref o_told, .int s_tolds, .ref o_lit, .ref o_whole, .ref o_goes, .int s_isLaid, .ref o_latest])), (o_latest, .inl (cI, 12, .inl s_latest)), (r0, .inl (cI, 87, .inl s_r0))] → va_S A s.heap H locs → lv_has ls 6 [(0, .ref o), (1, .ref r0), (2, .int x2), (3, .int x3), (4, .int x4), (5, .int x5)] → W p l e rm_X4_together s m ([.ref o, .ref r0, .int p1] : List Value).toArray below meth c H locs 0 0 QQ (F0 m 45 ls []) := by
        intro x2 x3 K45_129 hK45_129
        intro n
        induction n with
        | zero => intro x4 x5 s_latest hw; rw [P_X4_together_L45_z] at hw; exact hw.elim
        | succ n ih =>
          intro x4 x5 s_latest hw
          rw [P_X4_together_L45_s] at hw
          generalize hrec : P_X4_together_L45 x2 x3 s_r0 K45_129 n = rec45 at ih hw
          have J121 : ∀ (x5 : Int32) (t0 : Int32) (s_latest : Nat → Int32), P_X4_together_J121 rec45 x5 t0 s_latest → ∀ (H : Heap) (locs : List Loc) (ls : Array Slot), va_P (dC, dI) vwCl [(o, .inr (4, [.ref o_now, .ref o_then, .ref o_past, .int s_kept, .ref o_text, .int s_typed, .int s_thrown, .int s_at, .int s_isFault, .int s_value, .ref o_told, .int s_tolds, .ref o_lit, .ref o_whole, .ref o_goes, .int s_isLaid, .ref o_latest])), (o_latest, .inl (cI, 12, .inl s_latest)), (r0, .inl (cI, 87, .inl s_r0))] H → va_D A [(o, .inr (4, [.ref o_now, .ref o_then, .ref o_past, .int s_kept, .ref o_text, .int s_typed, .int s_thrown, .int s_at, .int s_isFault, .int s_value, .ref o_told, .int s_tolds, .ref o_lit, .ref o_whole, .ref o_goes, .int s_isLaid, .ref o_latest])), (o_latest, .inl (cI, 12, .inl s_latest)), (r0, .inl (cI, 87, .inl s_r0))] → va_S A s.heap H locs → lv_has ls 6 [(0, .ref o), (1, .ref r0), (2, .int x2), (3, .int x3), (5, .int x5)] → W p l e rm_X4_together s m ([.ref o, .ref r0, .int p1] : List Value).toArray below meth c H locs 0 0 QQ (F0 m 121 ls [.int t0]) := by
            intro x5 t0 s_latest hw H locs ls hP hD hS hl
            unfold P_X4_together_J121 at hw
            refine lv_istore (lv' := [(4, .int t0), (0, .ref o), (1, .ref r0), (2, .int x2), (3, .int x3), (5, .int x5)]) hx hb dX4_together_121 hl (by decide) rfl (fun ls hl => ?_)
            refine lv_iinc (v := (x5 + 1)) (lv' := [(5, .int (x5 + 1)), (4, .int t0), (0, .ref o), (1, .ref r0), (2, .int x2), (3, .int x3)]) hx hb dX4_together_123 hl (k := 5) rfl rfl (by decide) rfl (fun ls hl => ?_)
            refine lv_goto (tgt := 45) hx hb dX4_together_126 (by decide) ?_
            exact ih t0 (x5 + 1) s_latest hw H locs ls hP hD hS (lv_sub (l' := [(0, .ref o), (1, .ref r0), (2, .int x2), (3, .int x3), (4, .int t0), (5, .int (x5 + 1))]) hl [2, 3, 4, 5, 1, 0] rfl)
          have J120 : ∀ (x5 : Int32) (s_latest : Nat → Int32), P_X4_together_J120 rec45 x5 s_latest → ∀ (H : Heap) (locs : List Loc) (ls : Array Slot), va_P (dC, dI) vwCl [(o, .inr (4, [.ref o_now, .ref o_then, .ref o_past, .int s_kept, .ref o_text, .int s_typed, .int s_thrown, .int s_at, .int s_isFault, .int s_value, .ref o_told, .int s_tolds, .ref o_lit, .ref o_whole, .ref o_goes, .int s_isLaid, .ref o_latest])), (o_latest, .inl (cI, 12, .inl s_latest)), (r0, .inl (cI, 87, .inl s_r0))] H → va_D A [(o, .inr (4, [.ref o_now, .ref o_then, .ref o_past, .int s_kept, .ref o_text, .int s_typed, .int s_thrown, .int s_at, .int s_isFault, .int s_value, .ref o_told, .int s_tolds, .ref o_lit, .ref o_whole, .ref o_goes, .int s_isLaid, .ref o_latest])), (o_latest, .inl (cI, 12, .inl s_latest)), (r0, .inl (cI, 87, .inl s_r0))] → va_S A s.heap H locs → lv_has ls 6 [(0, .ref o), (1, .ref r0), (2, .int x2), (3, .int x3), (5, .int x5)] → W p l e rm_X4_together s m ([.ref o, .ref r0, .int p1] : List Value).toArray below meth c H locs 0 0 QQ (F0 m 120 ls []) := by
            intro x5 s_latest hw H locs ls hP hD hS hl
            unfold P_X4_together_J120 at hw
            refine lv_iconst (v := 0) hx hb dX4_together_120 (by decide) ?_
            exact J121 x5 0 s_latest hw H locs ls hP hD hS hl
          have J84 : ∀ (x4 : Int32) (x5 : Int32) (t0 : Int32) (t1 : Int32) (s_latest : Nat → Int32), P_X4_together_J84 x3 s_r0 rec45 x4 x5 t0 t1 s_latest → ∀ (H : Heap) (locs : List Loc) (ls : Array Slot), va_P (dC, dI) vwCl [(o, .inr (4, [.ref o_now, .ref o_then, .ref o_past, .int s_kept, .ref o_text, .int s_typed, .int s_thrown, .int s_at, .int s_isFault, .int s_value, .ref o_told, .int s_tolds, .ref o_lit, .ref o_whole, .ref o_goes, .int s_isLaid, .ref o_latest])), (o_latest, .inl (cI, 12, .inl s_latest)), (r0, .inl (cI, 87, .inl s_r0))] H → va_D A [(o, .inr (4, [.ref o_now, .ref o_then, .ref o_past, .int s_kept, .ref o_text, .int s_typed, .int s_thrown, .int s_at, .int s_isFault, .int s_value, .ref o_told, .int s_tolds, .ref o_lit, .ref o_whole, .ref o_goes, .int s_isLaid, .ref o_latest])), (o_latest, .inl (cI, 12, .inl s_latest)), (r0, .inl (cI, 87, .inl s_r0))] → va_S A s.heap H locs → lv_has ls 6 [(0, .ref o), (1, .ref r0), (2, .int x2), (3, .int x3), (4, .int x4), (5, .int x5)] → W p l e rm_X4_together s m ([.ref o, .ref r0, .int p1] : List Value).toArray below meth c H locs 0 0 QQ (F0 m 84 ls [.int t0, .int t1, .ref o_latest]) := by
            intro x4 x5 t0 t1 s_latest hw H locs ls hP hD hS hl
            unfold P_X4_together_J84 at hw
            obtain ⟨hi_3, hw⟩ := hw
            refine gv_iast hx hb hK hP hD hS 1 0 rfl rfl rfl hi_3 dX4_together_84 (fun H locs hP hD hS => ?_)
            have hP : va_P (dC, dI) vwCl [(o, .inr (4, [.ref o_now, .ref o_then, .ref o_past, .int s_kept, .ref o_text, .int s_typed, .int s_thrown, .int s_at, .int s_isFault, .int s_value, .ref o_told, .int s_tolds, .ref o_lit, .ref o_whole, .ref o_goes, .int s_isLaid, .ref o_latest])), (o_latest, .inl (cI, 12, .inl (upd s_latest t1.toNatClampNeg t0))), (r0, .inl (cI, 87, .inl s_r0))] H := hP
            have hD : va_D A [(o, .inr (4, [.ref o_now, .ref o_then, .ref o_past, .int s_kept, .ref o_text, .int s_typed, .int s_thrown, .int s_at, .int s_isFault, .int s_value, .ref o_told, .int s_tolds, .ref o_lit, .ref o_whole, .ref o_goes, .int s_isLaid, .ref o_latest])), (o_latest, .inl (cI, 12, .inl (upd s_latest t1.toNatClampNeg t0))), (r0, .inl (cI, 87, .inl s_r0))] := hD
            refine lv_iload hx hb dX4_together_85 (lv_at hl 4 rfl) ?_
            refine lv_if_eq (tgt := 120) hx hb dX4_together_87 (by decide) (fun hc => ?_) (fun hc => ?_)
            · have hw := hw.1 hc
              exact J120 x5 (upd s_latest t1.toNatClampNeg t0) hw H locs ls hP hD hS (lv_sub (l' := [(0, .ref o), (1, .ref r0), (2, .int x2), (3, .int x3), (5, .int x5)]) hl [0, 1, 2, 3, 5] rfl)
            · have hw := hw.2 hc
              refine lv_aload_n hx hb dX4_together_90 rfl (lv_at hl 0 rfl) ?_
              refine va_get (D := (dC, dI)) (ci := 4) (v := .ref o_latest) (C := RX4) (T := TX4) (N := 17) hx hb ht i_X4 hown hK hP 0 rfl rfl 16 (by decide) (ht _ k_834) (fun _ h9 => h9) rfl dX4_together_91 ?_
              refine lv_iload hx hb dX4_together_94 (lv_at hl 5 rfl) ?_
              obtain ⟨hi_4, hw⟩ := hw
              refine gv_iald hx hb hK hP 1 0 rfl rfl rfl hi_4 dX4_together_96 ?_
              refine lv_iconst (v := (-1)) hx hb dX4_together_97 (by decide) ?_
              refine lv_icmp_eq (tgt := 120) hx hb dX4_together_98 (by decide) (fun hc => ?_) (fun hc => ?_)
              · have hw := hw.1 hc
                exact J120 x5 (upd s_latest t1.toNatClampNeg t0) hw H locs ls hP hD hS (lv_sub (l' := [(0, .ref o), (1, .ref r0), (2, .int x2), (3, .int x3), (5, .int x5)]) hl [0, 1, 2, 3, 5] rfl)
              · have hw := hw.2 hc
                refine lv_aload_n hx hb dX4_together_101 rfl (lv_at hl 0 rfl) ?_
                refine va_get (D := (dC, dI)) (ci := 4) (v := .ref o_latest) (C := RX4) (T := TX4) (N := 17) hx hb ht i_X4 hown hK hP 0 rfl rfl 16 (by decide) (ht _ k_834) (fun _ h9 => h9) rfl dX4_together_102 ?_
                refine lv_iload hx hb dX4_together_105 (lv_at hl 5 rfl) ?_
                obtain ⟨hi_5, hw⟩ := hw
                refine gv_iald hx hb hK hP 1 0 rfl rfl rfl hi_5 dX4_together_107 ?_
                refine lv_iload_n hx hb dX4_together_108 rfl (lv_at hl 3 rfl) ?_
                refine lv_aload_n hx hb dX4_together_109 rfl (lv_at hl 1 rfl) ?_
                refine lv_iconst (v := 1) hx hb dX4_together_110 (by decide) ?_
                refine gv_iald hx hb hK hP 2 0 rfl rfl (k := 1) (by decide) (by unfold vp_in; decide) dX4_together_111 ?_
                refine lv_isub hx hb dX4_together_112 ?_
                refine lv_icmp_lt (tgt := 120) hx hb dX4_together_113 (by decide) (fun hc => ?_) (fun hc => ?_)
                · have hw := hw.1 hc
                  exact J120 x5 (upd s_latest t1.toNatClampNeg t0) hw H locs ls hP hD hS (lv_sub (l' := [(0, .ref o), (1, .ref r0), (2, .int x2), (3, .int x3), (5, .int x5)]) hl [0, 1, 2, 3, 5] rfl)
                · have hw := hw.2 hc
                  refine lv_iconst (v := 1) hx hb dX4_together_116 (by decide) ?_
                  refine lv_goto (tgt := 121) hx hb dX4_together_117 (by decide) ?_
                  exact J121 x5 1 (upd s_latest t1.toNatClampNeg t0) hw H locs ls hP hD hS (lv_sub (l' := [(0, .ref o), (1, .ref r0), (2, .int x2), (3, .int x3), (5, .int x5)]) hl [0, 1, 2, 3, 5] rfl)
          intro H locs ls hP hD hS hl
          unfold B_X4_together_L45 at hw
          refine lv_iload hx hb dX4_together_45 (lv_at hl 5 rfl) ?_
          refine lv_aload_n hx hb dX4_together_47 rfl (lv_at hl 1 rfl) ?_
          refine lv_iload_n hx hb dX4_together_48 rfl (lv_at hl 2 rfl) ?_
          refine lv_iconst (v := 0) hx hb dX4_together_49 (by decide) ?_
          refine gc_Si (As := [.ref r0, .int x2, .int 0]) (rest := [.int x5]) (wr := [(o, .inr (4, [.ref o_now, .ref o_then, .ref o_past, .int s_kept, .ref o_text, .int s_typed, .int s_thrown, .int s_at, .int s_isFault, .int s_value, .ref o_told, .int s_tolds, .ref o_lit, .ref o_whole, .ref o_goes, .int s_isLaid, .ref o_latest])), (o_latest, .inl (cI, 12, .inl s_latest))]) ⟨hx, hb, hml, hown, ht⟩ (c_X4_of l dC dI cI cJ r0 H.size s_r0 x2 0 _ hw) (va_cwS 3 ht (g_S k_964 k_965 k_5 k_966) rfl rfl rfl (by decide +kernel) ⟨(Nat.le_of_ble_eq_true rfl), (Nat.le_of_ble_eq_true rfl)⟩) hK hP hD hS hA [2] [0, 1] rfl rfl (by decide) rfl hl.1 rfl (Nat.le_of_ble_eq_true rfl) ⟨(Nat.le_of_ble_eq_true rfl), (Nat.le_of_ble_eq_true rfl)⟩ dX4_together_50 (fun r_6 u H locs hw hP hD hS => ?_)
          try dsimp only at hw
          have hP : va_P (dC, dI) vwCl [(o, .inr (4, [.ref o_now, .ref o_then, .ref o_past, .int s_kept, .ref o_text, .int s_typed, .int s_thrown, .int s_at, .int s_isFault, .int s_value, .ref o_told, .int s_tolds, .ref o_lit, .ref o_whole, .ref o_goes, .int s_isLaid, .ref o_latest])), (o_latest, .inl (cI, 12, .inl s_latest)), (r0, .inl (cI, 87, .inl s_r0))] H := hP
          have hD : va_D A [(o, .inr (4, [.ref o_now, .ref o_then, .ref o_past, .int s_kept, .ref o_text, .int s_typed, .int s_thrown, .int s_at, .int s_isFault, .int s_value, .ref o_told, .int s_tolds, .ref o_lit, .ref o_whole, .ref o_goes, .int s_isLaid, .ref o_latest])), (o_latest, .inl (cI, 12, .inl s_latest)), (r0, .inl (cI, 87, .inl s_r0))] := hD
          refine lv_icmp_ge (tgt := 129) hx hb dX4_together_53 (by decide) (fun hc => ?_) (fun hc => ?_)
          · have hw := hw.1 hc
            exact hK45_129 x4 s_latest hw H locs ls hP hD hS (lv_sub (l' := [(0, .ref o), (1, .ref r0), (2, .int x2), (3, .int x3), (4, .int x4)]) hl [0, 1, 2, 3, 4] rfl)
          · have hw := hw.2 hc
            refine lv_aload_n hx hb dX4_together_56 rfl (lv_at hl 0 rfl) ?_
            refine va_get (D := (dC, dI)) (ci := 4) (v := .ref o_latest) (C := RX4) (T := TX4) (N := 17) hx hb ht i_X4 hown hK hP 0 rfl rfl 16 (by decide) (ht _ k_834) (fun _ h9 => h9) rfl dX4_together_57 ?_
            refine lv_iload hx hb dX4_together_60 (lv_at hl 5 rfl) ?_
            refine lv_aload_n hx hb dX4_together_62 rfl (lv_at hl 1 rfl) ?_
            refine lv_iload_n hx hb dX4_together_63 rfl (lv_at hl 2 rfl) ?_
            refine lv_iload hx hb dX4_together_64 (lv_at hl 5 rfl) ?_
            refine lv_iload_n hx hb dX4_together_66 rfl (lv_at hl 3 rfl) ?_
            refine gc_Si (As := [.ref r0, .int x2, .int x5, .int x3]) (rest := [.int x5, .ref o_latest]) (wr := [(o, .inr (4, [.ref o_now, .ref o_then, .ref o_past, .int s_kept, .ref o_text, .int s_typed, .int s_thrown, .int s_at, .int s_isFault, .int s_value, .ref o_told, .int s_tolds, .ref o_lit, .ref o_whole, .ref o_goes, .int s_isLaid, .ref o_latest])), (o_latest, .inl (cI, 12, .inl s_latest))]) ⟨hx, hb, hml, hown, ht⟩ (c_X4_canBe l dC dI cI cJ r0 H.size s_r0 x2 x5 x3 _ hw) (va_cwS 4 ht (g_S k_971 k_972 k_5 k_973) rfl rfl rfl (by decide +kernel) ⟨(Nat.le_of_ble_eq_true rfl), (Nat.le_of_ble_eq_true rfl)⟩) hK hP hD hS hA [2] [0, 1] rfl rfl (by decide) rfl hl.1 rfl (Nat.le_of_ble_eq_true rfl) ⟨(Nat.le_of_ble_eq_true rfl), (Nat.le_of_ble_eq_true rfl)⟩ dX4_together_67 (fun r_7 u H locs hw hP hD hS => ?_)
            try dsimp only at hw
            have hP : va_P (dC, dI) vwCl [(o, .inr (4, [.ref o_now, .ref o_then, .ref o_past, .int s_kept, .ref o_text, .int s_typed, .int s_thrown, .int s_at, .int s_isFault, .int s_value, .ref o_told, .int s_tolds, .ref o_lit, .ref o_whole, .ref o_goes, .int s_isLaid, .ref o_latest])), (o_latest, .inl (cI, 12, .inl s_latest)), (r0, .inl (cI, 87, .inl s_r0))] H := hP
            have hD : va_D A [(o, .inr (4, [.ref o_now, .ref o_then, .ref o_past, .int s_kept, .ref o_text, .int s_typed, .int s_thrown, .int s_at, .int s_isFault, .int s_value, .ref o_told, .int s_tolds, .ref o_lit, .ref o_whole, .ref o_goes, .int s_isLaid, .ref o_latest])), (o_latest, .inl (cI, 12, .inl s_latest)), (r0, .inl (cI, 87, .inl s_r0))] := hD
            refine lv_if_eq (tgt := 77) hx hb dX4_together_70 (by decide) (fun hc => ?_) (fun hc => ?_)
            · have hw := hw.1 hc
              refine lv_aload_n hx hb dX4_together_77 rfl (lv_at hl 0 rfl) ?_
              refine va_get (D := (dC, dI)) (ci := 4) (v := .ref o_latest) (C := RX4) (T := TX4) (N := 17) hx hb ht i_X4 hown hK hP 0 rfl rfl 16 (by decide) (ht _ k_834) (fun _ h9 => h9) rfl dX4_together_78 ?_
              refine lv_iload hx hb dX4_together_81 (lv_at hl 5 rfl) ?_
              obtain ⟨hi_8, hw⟩ := hw
              refine gv_iald hx hb hK hP 1 0 rfl rfl rfl hi_8 dX4_together_83 ?_
              exact J84 x4 x5 (s_latest x5.toNatClampNeg) x5 s_latest hw H locs ls hP hD hS hl
            · have hw := hw.2 hc
              refine lv_iload_n hx hb dX4_together_73 rfl (lv_at hl 3 rfl) ?_
              refine lv_goto (tgt := 84) hx hb dX4_together_74 (by decide) ?_
              exact J84 x4 x5 x3 x5 s_latest hw H locs ls hP hD hS hl
      intro H locs ls hP hD hS hl
      unfold B_X4_together_L32 at hw
      refine lv_iload_n hx hb dX4_together_32 rfl (lv_at hl 3 rfl) ?_
      refine lv_sipush (v := 200) hx hb dX4_together_33 (by decide) ?_
      refine lv_icmp_ge (tgt := 142) hx hb dX4_together_36 (by decide) (fun hc => ?_) (fun hc => ?_)
      · have hw := hw.1 hc
        refine lv_iconst (v := (-1)) hx hb dX4_together_142 (by decide) ?_
        rw [← hQQ]
        exact g_reti (v := (-1)) (u := s_latest) hx hb hr rfl hlocks hw hP hK hD hS dX4_together_143
      · have hw := hw.2 hc
        refine lv_iconst (v := 1) hx hb dX4_together_39 (by decide) ?_
        refine lv_istore (lv' := [(4, .int 1), (0, .ref o), (1, .ref r0), (2, .int x2), (3, .int x3)]) hx hb dX4_together_40 hl (by decide) rfl (fun ls hl => ?_)
        refine lv_iconst (v := 0) hx hb dX4_together_42 (by decide) ?_
        refine lv_istore (lv' := [(5, .int 0), (4, .int 1), (0, .ref o), (1, .ref r0), (2, .int x2), (3, .int x3)]) hx hb dX4_together_43 hl (by decide) rfl (fun ls hl => ?_)
        obtain ⟨n, hw⟩ := hw
        refine L45 x2 x3 _ (fun x4_9 s_latest_10 hw H locs ls hP hD hS hl => ?_) n 1 0 s_latest hw H locs ls hP hD hS (lv_sub (l' := [(0, .ref o), (1, .ref r0), (2, .int x2), (3, .int x3), (4, .int 1), (5, .int 0)]) hl [2, 3, 4, 5, 1, 0] rfl)
        refine lv_iload hx hb dX4_together_129 (lv_at hl 4 rfl) ?_
        refine lv_if_eq (tgt := 136) hx hb dX4_together_131 (by decide) (fun hc => ?_) (fun hc => ?_)
        · have hw := hw.1 hc
          refine lv_iinc (v := (x3 + 1)) (lv' := [(3, .int (x3 + 1)), (0, .ref o), (1, .ref r0), (2, .int x2), (4, .int x4_9)]) hx hb dX4_together_136 hl (k := 3) rfl rfl (by decide) rfl (fun ls hl => ?_)
          refine lv_goto (tgt := 32) hx hb dX4_together_139 (by decide) ?_
          exact ih (x3 + 1) s_latest_10 hw H locs ls hP hD hS (lv_sub (l' := [(0, .ref o), (1, .ref r0), (2, .int x2), (3, .int (x3 + 1))]) hl [1, 2, 3, 0] rfl)
        · have hw := hw.2 hc
          refine lv_iload_n hx hb dX4_together_134 rfl (lv_at hl 3 rfl) ?_
          rw [← hQQ]
          exact g_reti (v := x3) (u := s_latest_10) hx hb hr rfl hlocks hw hP hK hD hS dX4_together_135
  obtain ⟨H, hHH⟩ : ∃ H, H = s.heap := ⟨_, rfl⟩
  rw [← hHH] at hP ⊢
  have hS : va_S A s.heap H [] := by rw [hHH]; exact hS
  clear hHH
  generalize ([] : List Loc) = locs at hS ⊢
  unfold P_X4_together at hw
  refine lv_iconst (v := 0) hx hb dX4_together_0 (by decide) ?_
  refine lv_istore_n (lv' := [(3, .int 0), (0, .ref o), (1, .ref r0), (2, .int p1)]) hx hb dX4_together_1 rfl hl (by decide) rfl (fun ls hl => ?_)
  obtain ⟨n, hw⟩ := hw
  refine L2 p1 _ (fun s_latest_11 hw H locs ls hP hD hS hl => ?_) n 0 s_latest hw H locs ls hP hD hS (lv_sub (l' := [(0, .ref o), (1, .ref r0), (2, .int p1), (3, .int 0)]) hl [1, 2, 3, 0] rfl)
  refine lv_aload_n hx hb dX4_together_25 rfl (lv_at hl 1 rfl) ?_
  refine lv_iload_n hx hb dX4_together_26 rfl (lv_at hl 2 rfl) ?_
  refine lv_iconst (v := 3) hx hb dX4_together_27 (by decide) ?_
  refine gc_Si (As := [.ref r0, .int p1, .int 3]) (rest := []) (wr := [(o, .inr (4, [.ref o_now, .ref o_then, .ref o_past, .int s_kept, .ref o_text, .int s_typed, .int s_thrown, .int s_at, .int s_isFault, .int s_value, .ref o_told, .int s_tolds, .ref o_lit, .ref o_whole, .ref o_goes, .int s_isLaid, .ref o_latest])), (o_latest, .inl (cI, 12, .inl s_latest_11))]) ⟨hx, hb, hml, hown, ht⟩ (c_X4_of l dC dI cI cJ r0 H.size s_r0 p1 3 _ hw) (va_cwS 3 ht (g_S k_964 k_965 k_5 k_966) rfl rfl rfl (by decide +kernel) ⟨(Nat.le_of_ble_eq_true rfl), (Nat.le_of_ble_eq_true rfl)⟩) hK hP hD hS hA [2] [0, 1] rfl rfl (by decide) rfl hl.1 rfl (Nat.le_of_ble_eq_true rfl) ⟨(Nat.le_of_ble_eq_true rfl), (Nat.le_of_ble_eq_true rfl)⟩ dX4_together_28 (fun r_12 u H locs hw hP hD hS => ?_)
  try dsimp only at hw
  have hP : va_P (dC, dI) vwCl [(o, .inr (4, [.ref o_now, .ref o_then, .ref o_past, .int s_kept, .ref o_text, .int s_typed, .int s_thrown, .int s_at, .int s_isFault, .int s_value, .ref o_told, .int s_tolds, .ref o_lit, .ref o_whole, .ref o_goes, .int s_isLaid, .ref o_latest])), (o_latest, .inl (cI, 12, .inl s_latest_11)), (r0, .inl (cI, 87, .inl s_r0))] H := hP
  have hD : va_D A [(o, .inr (4, [.ref o_now, .ref o_then, .ref o_past, .int s_kept, .ref o_text, .int s_typed, .int s_thrown, .int s_at, .int s_isFault, .int s_value, .ref o_told, .int s_tolds, .ref o_lit, .ref o_whole, .ref o_goes, .int s_isLaid, .ref o_latest])), (o_latest, .inl (cI, 12, .inl s_latest_11)), (r0, .inl (cI, 87, .inl s_r0))] := hD
  refine lv_istore_n (lv' := [(3, .int r_12), (0, .ref o), (1, .ref r0), (2, .int p1)]) hx hb dX4_together_31 rfl hl (by decide) rfl (fun ls hl => ?_)
  obtain ⟨n, hw⟩ := hw
  exact L32 p1 n r_12 s_latest_11 hw H locs ls hP hD hS (lv_sub (l' := [(0, .ref o), (1, .ref r0), (2, .int p1), (3, .int r_12)]) hl [1, 2, 3, 0] rfl)
abbrev rm_X4_laysWord : Room := { frames := 5, cells := 0, slots := 0, locals := 117 }
set_option maxHeartbeats 4000000 in
set_option maxRecDepth 100000 in
theorem c_X4_laysWord (l : Launch) (dC : Nat → ClassId) (dI : Nat → Nat → Nat) (cI cJ : ClassId) (o o_now o_then o_past o_text o_told o_lit o_whole o_goes o_latest r0 : Nat) (sz : Nat) (s_lit : Nat → Int32) (s_whole : Nat → Int32) (s_goes : Nat → Int32) (s_latest : Nat → Int32) (s_r0 : Nat → Int32) (s_kept : Int32) (s_typed : Int32) (s_thrown : Int32) (s_at : Int32) (s_isFault : Int32) (s_value : Int32) (s_tolds : Int32) (s_isLaid : Int32) (p1 : Int32) (Q : (Nat → Int32) → (Nat → Int32) → (Nat → Int32) → (Nat → Int32) → Prop) (hw : P_X4_laysWord p1 s_lit s_whole s_goes s_latest s_r0 Q) : Met l yX4_laysWord (Cond.code yX4_laysWord cX4_laysWord 11 none :: TBL) rm_X4_laysWord (gPc (dC, dI) vwCl (gTy cI cJ) [.ref o, .ref r0, .int p1] [(o, .inr (4, [.ref o_now, .ref o_then, .ref o_past, .int s_kept, .ref o_text, .int s_typed, .int s_thrown, .int s_at, .int s_isFault, .int s_value, .ref o_told, .int s_tolds, .ref o_lit, .ref o_whole, .ref o_goes, .int s_isLaid, .ref o_latest])), (o_lit, .inl (cI, 96, .inl s_lit)), (o_whole, .inl (cI, 8, .inl s_whole)), (o_goes, .inl (cI, 8, .inl s_goes)), (o_latest, .inl (cI, 12, .inl s_latest)), (r0, .inl (cI, 87, .inl s_r0))] sz) (va_Qv (fun (u : (Nat → Int32) × (Nat → Int32) × (Nat → Int32) × (Nat → Int32)) => Q u.1 u.2.1 u.2.2.1 u.2.2.2) (gB (dC, dI) vwCl (gTy cI cJ) (va_A [(o, .inr (4, [.ref o_now, .ref o_then, .ref o_past, .int s_kept, .ref o_text, .int s_typed, .int s_thrown, .int s_at, .int s_isFault, .int s_value, .ref o_told, .int s_tolds, .ref o_lit, .ref o_whole, .ref o_goes, .int s_isLaid, .ref o_latest])), (o_lit, .inl (cI, 96, .inl s_lit)), (o_whole, .inl (cI, 8, .inl s_whole)), (o_goes, .inl (cI, 8, .inl s_goes)), (o_latest, .inl (cI, 12, .inl s_latest)), (r0, .inl (cI, 87, .inl s_r0))] sz) (fun (u : (Nat → Int32) × (Nat → Int32) × (Nat → Int32) × (Nat → Int32)) => [(o, .inr (4, [.ref o_now, .ref o_then, .ref o_past, .int s_kept, .ref o_text, .int s_typed, .int s_thrown, .int s_at, .int s_isFault, .int s_value, .ref o_told, .int s_tolds, .ref o_lit, .ref o_whole, .ref o_goes, .int s_isLaid, .ref o_latest])), (o_lit, .inl (cI, 96, .inl u.1)), (o_whole, .inl (cI, 8, .inl u.2.1)), (o_goes, .inl (cI, 8, .inl u.2.2.1)), (o_latest, .inl (cI, 12, .inl u.2.2.2)), (r0, .inl (cI, 87, .inl s_r0))])) (va_A [(o, .inr (4, [.ref o_now, .ref o_then, .ref o_past, .int s_kept, .ref o_text, .int s_typed, .int s_thrown, .int s_at, .int s_isFault, .int s_value, .ref o_told, .int s_tolds, .ref o_lit, .ref o_whole, .ref o_goes, .int s_isLaid, .ref o_latest])), (o_lit, .inl (cI, 96, .inl s_lit)), (o_whole, .inl (cI, 8, .inl s_whole)), (o_goes, .inl (cI, 8, .inl s_goes)), (o_latest, .inl (cI, 12, .inl s_latest)), (r0, .inl (cI, 87, .inl s_r0))] sz)) 0 0 (va_A [(o, .inr (4, [.ref o_now, .ref o_then, .ref o_past, .int s_kept, .ref o_text, .int s_typed, .int s_thrown, .int s_at, .int s_isFault, .int s_value, .ref o_told, .int s_tolds, .ref o_lit, .ref o_whole, .ref o_goes, .int s_isLaid, .ref o_latest])), (o_lit, .inl (cI, 96, .inl s_lit)), (o_whole, .inl (cI, 8, .inl s_whole)), (o_goes, .inl (cI, 8, .inl s_goes)), (o_latest, .inl (cI, 12, .inl s_latest)), (r0, .inl (cI, 87, .inl s_r0))] sz) := by
  refine Met.ofW (cc := cX4_laysWord) (maxL := 11) (ret := none) (by decide) rfl ?_
  intro p e s m args below meth c s₁ B hml hv
  obtain ⟨rfl, hsz, hP, hK, hD0⟩ := hv
  have hx := B.exec
  have hb := B.bytes
  have hr := B.returns
  have hts := atoms_spec (ws := Cond.code yX4_laysWord cX4_laysWord 11 none :: TBL) B.pre
  have ht : ∀ w ∈ TBL, w.before ([.ref o, .ref r0, .int p1] : List Value).toArray s = true := fun w h => hts w (List.mem_cons_of_mem _ h)
  clear hts
  have hown : s.vm.findClass RX4 = some m.cls := findClass_of_methodNamed B.named
  have hlocks := B.notSynchronized
  clear B
  subst hsz
  have hD := hD0.self (sz := s.heap.size)
  clear hD0
  generalize hAe : va_A [(o, .inr (4, [.ref o_now, .ref o_then, .ref o_past, .int s_kept, .ref o_text, .int s_typed, .int s_thrown, .int s_at, .int s_isFault, .int s_value, .ref o_told, .int s_tolds, .ref o_lit, .ref o_whole, .ref o_goes, .int s_isLaid, .ref o_latest])), (o_lit, .inl (cI, 96, .inl s_lit)), (o_whole, .inl (cI, 8, .inl s_whole)), (o_goes, .inl (cI, 8, .inl s_goes)), (o_latest, .inl (cI, 12, .inl s_latest)), (r0, .inl (cI, 87, .inl s_r0))] s.heap.size = A at hD ⊢
  have hA : ∀ q : Nat, s.heap.size ≤ q → A q := fun q h => by rw [← hAe]; exact Or.inr h
  clear hAe
  have hS : va_S A s.heap s.heap [] := va_S.rf
  have hP : va_P (dC, dI) vwCl [(o, .inr (4, [.ref o_now, .ref o_then, .ref o_past, .int s_kept, .ref o_text, .int s_typed, .int s_thrown, .int s_at, .int s_isFault, .int s_value, .ref o_told, .int s_tolds, .ref o_lit, .ref o_whole, .ref o_goes, .int s_isLaid, .ref o_latest])), (o_lit, .inl (cI, 96, .inl s_lit)), (o_whole, .inl (cI, 8, .inl s_whole)), (o_goes, .inl (cI, 8, .inl s_goes)), (o_latest, .inl (cI, 12, .inl s_latest)), (r0, .inl (cI, 87, .inl s_r0))] s.heap := hP
  have hl := lv_entry ([.ref o, .ref r0, .int p1]) (n := 11) (Nat.le_of_ble_eq_true rfl)
  rw [lg_entry_eq]
  generalize (lg_sl ([.ref o, .ref r0, .int p1]) ++ List.replicate (11 - (lg_sl ([.ref o, .ref r0, .int p1])).length) Slot.unset).toArray = ls at hl ⊢
  have hl : lv_has ls 11 [(0, .ref o), (1, .ref r0), (2, .int p1)] := hl
  generalize hQQ : MQ below _ _ _ 0 0 A = QQ
  show W p l e rm_X4_laysWord s m ([.ref o, .ref r0, .int p1] : List Value).toArray below meth c s.heap [] 0 0 QQ (F0 m 0 ls [])
  have L47 : ∀ (x2 : Int32) (x3 : Int32) (x4 : Int32) (x5 : Int32) (s_latest : Nat → Int32) (K47_213 : Int32 → Int32 → (Nat → Int32) → Prop), (∀ (x6 : Int32) (x7 : Int32) (s_lit : Nat → Int32), K47_213 x6 x7 s_lit → ∀ (H : Heap) (locs : List Loc) (ls : Array Slot), va_P (dC, dI) vwCl [(o, .inr (4, [.ref o_now, .ref o_then, .ref o_past, .int s_kept, .ref o_text, .int s_typed, .int s_thrown, .int s_at, .int s_isFault, .int s_value, .ref o_told, .int s_tolds, .ref o_lit, .ref o_whole, .ref o_goes, .int s_isLaid, .ref o_latest])), (o_lit, .inl (cI, 96, .inl s_lit)), (o_whole, .inl (cI, 8, .inl s_whole)), (o_goes, .inl (cI, 8, .inl s_goes)), (o_latest, .inl (cI, 12, .inl s_latest)), (r0, .inl (cI, 87, .inl s_r0))] H → va_D A [(o, .inr (4, [.ref o_now, .ref o_then, .ref o_past, .int s_kept, .ref o_text, .int s_typed, .int s_thrown, .int s_at, .int s_isFault, .int s_value, .ref o_told, .int s_tolds, .ref o_lit, .ref o_whole, .ref o_goes, .int s_isLaid, .ref o_latest])), (o_lit, .inl (cI, 96, .inl s_lit)), (o_whole, .inl (cI, 8, .inl s_whole)), (o_goes, .inl (cI, 8, .inl s_goes)), (o_latest, .inl (cI, 12, .inl s_latest)), (r0, .inl (cI, 87, .inl s_r0))] → va_S A s.heap H locs → lv_has ls 11 [(0, .ref o), (1, .ref r0), (2, .int x2), (6, .int x6), (7, .int x7)] → W p l e rm_X4_laysWord s m ([.ref o, .ref r0, .int p1] : List Value).toArray below meth c H locs 0 0 QQ (F0 m 213 ls [])) → ∀ (n : Nat) (x6 : Int32) (x7 : Int32) (x8 : Int32) (s_lit : Nat → Int32), P_X4_laysWord_L47 x2 x3 x4 x5 s_r0 K47_213 n x6 x7 x8 s_lit → ∀ (H : Heap) (locs : List Loc) (ls : Array Slot), va_P (dC, dI) vwCl [(o, .inr (4, [.ref o_now, .ref o_then, .ref o_past, .int s_kept, .ref o_text, .int s_typed, .int s_thrown, .int s_at, .int s_isFault, .int s_value, .ref o_told, .int s_tolds, .ref o_lit, .ref o_whole, .ref o_goes, .int s_isLaid, .ref o_latest])), (o_lit, .inl (cI, 96, .inl s_lit)), (o_whole, .inl (cI, 8, .inl s_whole)), (o_goes, .inl (cI, 8, .inl s_goes)), (o_latest, .inl (cI, 12, .inl s_latest)), (r0, .inl (cI, 87, .inl s_r0))] H → va_D A [(o, .inr (4, [.ref o_now, .ref o_then, .ref o_past, .int s_kept, .ref o_text, .int s_typed, .int s_thrown, .int s_at, .int s_isFault, .int s_value, .ref o_told, .int s_tolds, .ref o_lit, .ref o_whole, .ref o_goes, .int s_isLaid, .ref o_latest])), (o_lit, .inl (cI, 96, .inl s_lit)), (o_whole, .inl (cI, 8, .inl s_whole)), (o_goes, .inl (cI, 8, .inl s_goes)), (o_latest, .inl (cI, 12, .inl s_latest)), (r0, .inl (cI, 87, .inl s_r0))] → va_S A s.heap H locs → lv_has ls 11 [(0, .ref o), (1, .ref r0), (2, .int x2), (3, .int x3), (4, .int x4), (5, .int x5), (6, .int x6), (7, .int x7), (8, .int x8)] → W p l e rm_X4_laysWord s m ([.ref o, .ref r0, .int p1] : List Value).toArray below meth c H locs 0 0 QQ (F0 m 47 ls []) := by
    intro x2 x3 x4 x5 s_latest K47_213 hK47_213
    intro n
    induction n with
    | zero => intro x6 x7 x8 s_lit hw; rw [P_X4_laysWord_L47_z] at hw; exact hw.elim
    | succ n ih =>
      intro x6 x7 x8 s_lit hw
      rw [P_X4_laysWord_L47_s] at hw
      generalize hrec : P_X4_laysWord_L47 x2 x3 x4 x5 s_r0 K47_213 n = rec47 at ih hw
      have J205 : ∀ (x7 : Int32) (x8 : Int32) (t0 : Int32) (s_lit : Nat → Int32), P_X4_laysWord_J205 rec47 x7 x8 t0 s_lit → ∀ (H : Heap) (locs : List Loc) (ls : Array Slot), va_P (dC, dI) vwCl [(o, .inr (4, [.ref o_now, .ref o_then, .ref o_past, .int s_kept, .ref o_text, .int s_typed, .int s_thrown, .int s_at, .int s_isFault, .int s_value, .ref o_told, .int s_tolds, .ref o_lit, .ref o_whole, .ref o_goes, .int s_isLaid, .ref o_latest])), (o_lit, .inl (cI, 96, .inl s_lit)), (o_whole, .inl (cI, 8, .inl s_whole)), (o_goes, .inl (cI, 8, .inl s_goes)), (o_latest, .inl (cI, 12, .inl s_latest)), (r0, .inl (cI, 87, .inl s_r0))] H → va_D A [(o, .inr (4, [.ref o_now, .ref o_then, .ref o_past, .int s_kept, .ref o_text, .int s_typed, .int s_thrown, .int s_at, .int s_isFault, .int s_value, .ref o_told, .int s_tolds, .ref o_lit, .ref o_whole, .ref o_goes, .int s_isLaid, .ref o_latest])), (o_lit, .inl (cI, 96, .inl s_lit)), (o_whole, .inl (cI, 8, .inl s_whole)), (o_goes, .inl (cI, 8, .inl s_goes)), (o_latest, .inl (cI, 12, .inl s_latest)), (r0, .inl (cI, 87, .inl s_r0))] → va_S A s.heap H locs → lv_has ls 11 [(0, .ref o), (1, .ref r0), (2, .int x2), (3, .int x3), (4, .int x4), (5, .int x5), (7, .int x7), (8, .int x8)] → W p l e rm_X4_laysWord s m ([.ref o, .ref r0, .int p1] : List Value).toArray below meth c H locs 0 0 QQ (F0 m 205 ls [.int t0]) := by
        intro x7 x8 t0 s_lit hw H locs ls hP hD hS hl
        unfold P_X4_laysWord_J205 at hw
        refine lv_istore (lv' := [(6, .int t0), (0, .ref o), (1, .ref r0), (2, .int x2), (3, .int x3), (4, .int x4), (5, .int x5), (7, .int x7), (8, .int x8)]) hx hb dX4_laysWord_205 hl (by decide) rfl (fun ls hl => ?_)
        refine lv_iinc (v := (x8 + 1)) (lv' := [(8, .int (x8 + 1)), (6, .int t0), (0, .ref o), (1, .ref r0), (2, .int x2), (3, .int x3), (4, .int x4), (5, .int x5), (7, .int x7)]) hx hb dX4_laysWord_207 hl (k := 8) rfl rfl (by decide) rfl (fun ls hl => ?_)
        refine lv_goto (tgt := 47) hx hb dX4_laysWord_210 (by decide) ?_
        exact ih t0 x7 (x8 + 1) s_lit hw H locs ls hP hD hS (lv_sub (l' := [(0, .ref o), (1, .ref r0), (2, .int x2), (3, .int x3), (4, .int x4), (5, .int x5), (6, .int t0), (7, .int x7), (8, .int (x8 + 1))]) hl [2, 3, 4, 5, 6, 7, 1, 8, 0] rfl)
      have J169 : ∀ (x6 : Int32) (x8 : Int32) (t0 : Int32) (s_lit : Nat → Int32), P_X4_laysWord_J169 x2 rec47 x6 x8 t0 s_lit → ∀ (H : Heap) (locs : List Loc) (ls : Array Slot), va_P (dC, dI) vwCl [(o, .inr (4, [.ref o_now, .ref o_then, .ref o_past, .int s_kept, .ref o_text, .int s_typed, .int s_thrown, .int s_at, .int s_isFault, .int s_value, .ref o_told, .int s_tolds, .ref o_lit, .ref o_whole, .ref o_goes, .int s_isLaid, .ref o_latest])), (o_lit, .inl (cI, 96, .inl s_lit)), (o_whole, .inl (cI, 8, .inl s_whole)), (o_goes, .inl (cI, 8, .inl s_goes)), (o_latest, .inl (cI, 12, .inl s_latest)), (r0, .inl (cI, 87, .inl s_r0))] H → va_D A [(o, .inr (4, [.ref o_now, .ref o_then, .ref o_past, .int s_kept, .ref o_text, .int s_typed, .int s_thrown, .int s_at, .int s_isFault, .int s_value, .ref o_told, .int s_tolds, .ref o_lit, .ref o_whole, .ref o_goes, .int s_isLaid, .ref o_latest])), (o_lit, .inl (cI, 96, .inl s_lit)), (o_whole, .inl (cI, 8, .inl s_whole)), (o_goes, .inl (cI, 8, .inl s_goes)), (o_latest, .inl (cI, 12, .inl s_latest)), (r0, .inl (cI, 87, .inl s_r0))] → va_S A s.heap H locs → lv_has ls 11 [(0, .ref o), (1, .ref r0), (2, .int x2), (3, .int x3), (4, .int x4), (5, .int x5), (6, .int x6), (8, .int x8)] → W p l e rm_X4_laysWord s m ([.ref o, .ref r0, .int p1] : List Value).toArray below meth c H locs 0 0 QQ (F0 m 169 ls [.int t0]) := by
        intro x6 x8 t0 s_lit hw H locs ls hP hD hS hl
        unfold P_X4_laysWord_J169 at hw
        refine lv_istore (lv' := [(7, .int t0), (0, .ref o), (1, .ref r0), (2, .int x2), (3, .int x3), (4, .int x4), (5, .int x5), (6, .int x6), (8, .int x8)]) hx hb dX4_laysWord_169 hl (by decide) rfl (fun ls hl => ?_)
        refine lv_aload_n hx hb dX4_laysWord_171 rfl (lv_at hl 1 rfl) ?_
        refine va_get (D := (dC, dI)) (ci := 4) (v := .ref o_lit) (C := RX4) (T := TX4) (N := 17) hx hb ht i_X4 hown hK hP 0 rfl rfl 12 (by decide) (ht _ k_830) (fun _ h9 => h9) rfl dX4_laysWord_172 ?_
        refine lv_bipush (v := 12) hx hb dX4_laysWord_175 (by decide) ?_
        refine lv_iload_n hx hb dX4_laysWord_177 rfl (lv_at hl 3 rfl) ?_
        refine lv_imul hx hb dX4_laysWord_178 ?_
        refine lv_iload hx hb dX4_laysWord_179 (lv_at hl 8 rfl) ?_
        refine lv_iadd hx hb dX4_laysWord_181 ?_
        obtain ⟨hi_1, hw⟩ := hw
        refine gv_iald hx hb hK hP 1 0 rfl rfl rfl hi_1 dX4_laysWord_182 ?_
        refine lv_iload hx hb dX4_laysWord_183 (lv_at hl 7 rfl) ?_
        refine lv_icmp_le (tgt := 203) hx hb dX4_laysWord_185 (by decide) (fun hc => ?_) (fun hc => ?_)
        · have hw := hw.1 hc
          refine lv_iload hx hb dX4_laysWord_203 (lv_at hl 7 rfl) ?_
          exact J205 t0 x8 x6 s_lit hw H locs ls hP hD hS (lv_sub (l' := [(0, .ref o), (1, .ref r0), (2, .int x2), (3, .int x3), (4, .int x4), (5, .int x5), (7, .int t0), (8, .int x8)]) hl [1, 2, 3, 4, 5, 6, 0, 8] rfl)
        · have hw := hw.2 hc
          refine lv_aload_n hx hb dX4_laysWord_188 rfl (lv_at hl 1 rfl) ?_
          refine va_get (D := (dC, dI)) (ci := 4) (v := .ref o_lit) (C := RX4) (T := TX4) (N := 17) hx hb ht i_X4 hown hK hP 0 rfl rfl 12 (by decide) (ht _ k_830) (fun _ h9 => h9) rfl dX4_laysWord_189 ?_
          refine lv_bipush (v := 12) hx hb dX4_laysWord_192 (by decide) ?_
          refine lv_iload_n hx hb dX4_laysWord_194 rfl (lv_at hl 3 rfl) ?_
          refine lv_imul hx hb dX4_laysWord_195 ?_
          refine lv_iload hx hb dX4_laysWord_196 (lv_at hl 8 rfl) ?_
          refine lv_iadd hx hb dX4_laysWord_198 ?_
          obtain ⟨hi_2, hw⟩ := hw
          refine gv_iald hx hb hK hP 1 0 rfl rfl rfl hi_2 dX4_laysWord_199 ?_
          refine lv_goto (tgt := 205) hx hb dX4_laysWord_200 (by decide) ?_
          exact J205 t0 x8 (s_lit (((12 * x2) + x8).toNatClampNeg)) s_lit hw H locs ls hP hD hS (lv_sub (l' := [(0, .ref o), (1, .ref r0), (2, .int x2), (3, .int x3), (4, .int x4), (5, .int x5), (7, .int t0), (8, .int x8)]) hl [1, 2, 3, 4, 5, 6, 0, 8] rfl)
      have J168 : ∀ (x6 : Int32) (x8 : Int32) (s_lit : Nat → Int32), P_X4_laysWord_J168 x2 rec47 x6 x8 s_lit → ∀ (H : Heap) (locs : List Loc) (ls : Array Slot), va_P (dC, dI) vwCl [(o, .inr (4, [.ref o_now, .ref o_then, .ref o_past, .int s_kept, .ref o_text, .int s_typed, .int s_thrown, .int s_at, .int s_isFault, .int s_value, .ref o_told, .int s_tolds, .ref o_lit, .ref o_whole, .ref o_goes, .int s_isLaid, .ref o_latest])), (o_lit, .inl (cI, 96, .inl s_lit)), (o_whole, .inl (cI, 8, .inl s_whole)), (o_goes, .inl (cI, 8, .inl s_goes)), (o_latest, .inl (cI, 12, .inl s_latest)), (r0, .inl (cI, 87, .inl s_r0))] H → va_D A [(o, .inr (4, [.ref o_now, .ref o_then, .ref o_past, .int s_kept, .ref o_text, .int s_typed, .int s_thrown, .int s_at, .int s_isFault, .int s_value, .ref o_told, .int s_tolds, .ref o_lit, .ref o_whole, .ref o_goes, .int s_isLaid, .ref o_latest])), (o_lit, .inl (cI, 96, .inl s_lit)), (o_whole, .inl (cI, 8, .inl s_whole)), (o_goes, .inl (cI, 8, .inl s_goes)), (o_latest, .inl (cI, 12, .inl s_latest)), (r0, .inl (cI, 87, .inl s_r0))] → va_S A s.heap H locs → lv_has ls 11 [(0, .ref o), (1, .ref r0), (2, .int x2), (3, .int x3), (4, .int x4), (5, .int x5), (6, .int x6), (8, .int x8)] → W p l e rm_X4_laysWord s m ([.ref o, .ref r0, .int p1] : List Value).toArray below meth c H locs 0 0 QQ (F0 m 168 ls []) := by
        intro x6 x8 s_lit hw H locs ls hP hD hS hl
        unfold P_X4_laysWord_J168 at hw
        refine lv_iconst (v := 0) hx hb dX4_laysWord_168 (by decide) ?_
        exact J169 x6 x8 0 s_lit hw H locs ls hP hD hS hl
      have J142 : ∀ (x6 : Int32) (x7 : Int32) (x8 : Int32) (t0 : Int32) (t1 : Int32) (s_lit : Nat → Int32), P_X4_laysWord_J142 x2 rec47 x6 x7 x8 t0 t1 s_lit → ∀ (H : Heap) (locs : List Loc) (ls : Array Slot), va_P (dC, dI) vwCl [(o, .inr (4, [.ref o_now, .ref o_then, .ref o_past, .int s_kept, .ref o_text, .int s_typed, .int s_thrown, .int s_at, .int s_isFault, .int s_value, .ref o_told, .int s_tolds, .ref o_lit, .ref o_whole, .ref o_goes, .int s_isLaid, .ref o_latest])), (o_lit, .inl (cI, 96, .inl s_lit)), (o_whole, .inl (cI, 8, .inl s_whole)), (o_goes, .inl (cI, 8, .inl s_goes)), (o_latest, .inl (cI, 12, .inl s_latest)), (r0, .inl (cI, 87, .inl s_r0))] H → va_D A [(o, .inr (4, [.ref o_now, .ref o_then, .ref o_past, .int s_kept, .ref o_text, .int s_typed, .int s_thrown, .int s_at, .int s_isFault, .int s_value, .ref o_told, .int s_tolds, .ref o_lit, .ref o_whole, .ref o_goes, .int s_isLaid, .ref o_latest])), (o_lit, .inl (cI, 96, .inl s_lit)), (o_whole, .inl (cI, 8, .inl s_whole)), (o_goes, .inl (cI, 8, .inl s_goes)), (o_latest, .inl (cI, 12, .inl s_latest)), (r0, .inl (cI, 87, .inl s_r0))] → va_S A s.heap H locs → lv_has ls 11 [(0, .ref o), (1, .ref r0), (2, .int x2), (3, .int x3), (4, .int x4), (5, .int x5), (6, .int x6), (7, .int x7), (8, .int x8)] → W p l e rm_X4_laysWord s m ([.ref o, .ref r0, .int p1] : List Value).toArray below meth c H locs 0 0 QQ (F0 m 142 ls [.int t0, .int t1, .ref o_lit]) := by
        intro x6 x7 x8 t0 t1 s_lit hw H locs ls hP hD hS hl
        unfold P_X4_laysWord_J142 at hw
        obtain ⟨hi_3, hw⟩ := hw
        refine gv_iast hx hb hK hP hD hS 1 0 rfl rfl rfl hi_3 dX4_laysWord_142 (fun H locs hP hD hS => ?_)
        have hP : va_P (dC, dI) vwCl [(o, .inr (4, [.ref o_now, .ref o_then, .ref o_past, .int s_kept, .ref o_text, .int s_typed, .int s_thrown, .int s_at, .int s_isFault, .int s_value, .ref o_told, .int s_tolds, .ref o_lit, .ref o_whole, .ref o_goes, .int s_isLaid, .ref o_latest])), (o_lit, .inl (cI, 96, .inl (upd s_lit t1.toNatClampNeg t0))), (o_whole, .inl (cI, 8, .inl s_whole)), (o_goes, .inl (cI, 8, .inl s_goes)), (o_latest, .inl (cI, 12, .inl s_latest)), (r0, .inl (cI, 87, .inl s_r0))] H := hP
        have hD : va_D A [(o, .inr (4, [.ref o_now, .ref o_then, .ref o_past, .int s_kept, .ref o_text, .int s_typed, .int s_thrown, .int s_at, .int s_isFault, .int s_value, .ref o_told, .int s_tolds, .ref o_lit, .ref o_whole, .ref o_goes, .int s_isLaid, .ref o_latest])), (o_lit, .inl (cI, 96, .inl (upd s_lit t1.toNatClampNeg t0))), (o_whole, .inl (cI, 8, .inl s_whole)), (o_goes, .inl (cI, 8, .inl s_goes)), (o_latest, .inl (cI, 12, .inl s_latest)), (r0, .inl (cI, 87, .inl s_r0))] := hD
        refine lv_iload hx hb dX4_laysWord_143 (lv_at hl 7 rfl) ?_
        refine lv_if_eq (tgt := 168) hx hb dX4_laysWord_145 (by decide) (fun hc => ?_) (fun hc => ?_)
        · have hw := hw.1 hc
          exact J168 x6 x8 (upd s_lit t1.toNatClampNeg t0) hw H locs ls hP hD hS (lv_sub (l' := [(0, .ref o), (1, .ref r0), (2, .int x2), (3, .int x3), (4, .int x4), (5, .int x5), (6, .int x6), (8, .int x8)]) hl [0, 1, 2, 3, 4, 5, 6, 8] rfl)
        · have hw := hw.2 hc
          refine lv_aload_n hx hb dX4_laysWord_148 rfl (lv_at hl 0 rfl) ?_
          refine va_get (D := (dC, dI)) (ci := 4) (v := .ref o_lit) (C := RX4) (T := TX4) (N := 17) hx hb ht i_X4 hown hK hP 0 rfl rfl 12 (by decide) (ht _ k_830) (fun _ h9 => h9) rfl dX4_laysWord_149 ?_
          refine lv_bipush (v := 12) hx hb dX4_laysWord_152 (by decide) ?_
          refine lv_iload_n hx hb dX4_laysWord_154 rfl (lv_at hl 2 rfl) ?_
          refine lv_imul hx hb dX4_laysWord_155 ?_
          refine lv_iload hx hb dX4_laysWord_156 (lv_at hl 8 rfl) ?_
          refine lv_iadd hx hb dX4_laysWord_158 ?_
          obtain ⟨hi_4, hw⟩ := hw
          refine gv_iald hx hb hK hP 1 0 rfl rfl rfl hi_4 dX4_laysWord_159 ?_
          refine lv_iconst (v := (-1)) hx hb dX4_laysWord_160 (by decide) ?_
          refine lv_icmp_eq (tgt := 168) hx hb dX4_laysWord_161 (by decide) (fun hc => ?_) (fun hc => ?_)
          · have hw := hw.1 hc
            exact J168 x6 x8 (upd s_lit t1.toNatClampNeg t0) hw H locs ls hP hD hS (lv_sub (l' := [(0, .ref o), (1, .ref r0), (2, .int x2), (3, .int x3), (4, .int x4), (5, .int x5), (6, .int x6), (8, .int x8)]) hl [0, 1, 2, 3, 4, 5, 6, 8] rfl)
          · have hw := hw.2 hc
            refine lv_iconst (v := 1) hx hb dX4_laysWord_164 (by decide) ?_
            refine lv_goto (tgt := 169) hx hb dX4_laysWord_165 (by decide) ?_
            exact J169 x6 x8 1 (upd s_lit t1.toNatClampNeg t0) hw H locs ls hP hD hS (lv_sub (l' := [(0, .ref o), (1, .ref r0), (2, .int x2), (3, .int x3), (4, .int x4), (5, .int x5), (6, .int x6), (8, .int x8)]) hl [0, 1, 2, 3, 4, 5, 6, 8] rfl)
      have J99 : ∀ (x6 : Int32) (x7 : Int32) (x8 : Int32) (t0 : Int32) (s_lit : Nat → Int32), P_X4_laysWord_J99 x2 x4 x5 s_r0 rec47 x6 x7 x8 t0 s_lit → ∀ (H : Heap) (locs : List Loc) (ls : Array Slot), va_P (dC, dI) vwCl [(o, .inr (4, [.ref o_now, .ref o_then, .ref o_past, .int s_kept, .ref o_text, .int s_typed, .int s_thrown, .int s_at, .int s_isFault, .int s_value, .ref o_told, .int s_tolds, .ref o_lit, .ref o_whole, .ref o_goes, .int s_isLaid, .ref o_latest])), (o_lit, .inl (cI, 96, .inl s_lit)), (o_whole, .inl (cI, 8, .inl s_whole)), (o_goes, .inl (cI, 8, .inl s_goes)), (o_latest, .inl (cI, 12, .inl s_latest)), (r0, .inl (cI, 87, .inl s_r0))] H → va_D A [(o, .inr (4, [.ref o_now, .ref o_then, .ref o_past, .int s_kept, .ref o_text, .int s_typed, .int s_thrown, .int s_at, .int s_isFault, .int s_value, .ref o_told, .int s_tolds, .ref o_lit, .ref o_whole, .ref o_goes, .int s_isLaid, .ref o_latest])), (o_lit, .inl (cI, 96, .inl s_lit)), (o_whole, .inl (cI, 8, .inl s_whole)), (o_goes, .inl (cI, 8, .inl s_goes)), (o_latest, .inl (cI, 12, .inl s_latest)), (r0, .inl (cI, 87, .inl s_r0))] → va_S A s.heap H locs → lv_has ls 11 [(0, .ref o), (1, .ref r0), (2, .int x2), (3, .int x3), (4, .int x4), (5, .int x5), (6, .int x6), (7, .int x7), (8, .int x8)] → W p l e rm_X4_laysWord s m ([.ref o, .ref r0, .int p1] : List Value).toArray below meth c H locs 0 0 QQ (F0 m 99 ls [.int t0]) := by
        intro x6 x7 x8 t0 s_lit hw H locs ls hP hD hS hl
        unfold P_X4_laysWord_J99 at hw
        refine lv_istore (lv' := [(10, .int t0), (0, .ref o), (1, .ref r0), (2, .int x2), (3, .int x3), (4, .int x4), (5, .int x5), (6, .int x6), (7, .int x7), (8, .int x8)]) hx hb dX4_laysWord_99 hl (by decide) rfl (fun ls hl => ?_)
        refine lv_aload_n hx hb dX4_laysWord_101 rfl (lv_at hl 1 rfl) ?_
        refine va_get (D := (dC, dI)) (ci := 4) (v := .ref o_lit) (C := RX4) (T := TX4) (N := 17) hx hb ht i_X4 hown hK hP 0 rfl rfl 12 (by decide) (ht _ k_830) (fun _ h9 => h9) rfl dX4_laysWord_102 ?_
        refine lv_bipush (v := 12) hx hb dX4_laysWord_105 (by decide) ?_
        refine lv_iload_n hx hb dX4_laysWord_107 rfl (lv_at hl 3 rfl) ?_
        refine lv_imul hx hb dX4_laysWord_108 ?_
        refine lv_iload hx hb dX4_laysWord_109 (lv_at hl 9 rfl) ?_
        refine lv_iadd hx hb dX4_laysWord_111 ?_
        refine lv_iload hx hb dX4_laysWord_112 (lv_at hl 5 rfl) ?_
        refine lv_iconst (v := 2) hx hb dX4_laysWord_114 (by decide) ?_
        refine lv_icmp_ne (tgt := 123) hx hb dX4_laysWord_115 (by decide) (fun hc => ?_) (fun hc => ?_)
        · have hw := hw.1 hc
          refine lv_iload hx hb dX4_laysWord_123 (lv_at hl 0 rfl) ?_
          refine lv_iconst (v := (-1)) hx hb dX4_laysWord_125 (by decide) ?_
          refine lv_icmp_ne (tgt := 133) hx hb dX4_laysWord_126 (by decide) (fun hc => ?_) (fun hc => ?_)
          · have hw := hw.1 hc
            refine lv_aload_n hx hb dX4_laysWord_133 rfl (lv_at hl 2 rfl) ?_
            refine lv_iload_n hx hb dX4_laysWord_134 rfl (lv_at hl 3 rfl) ?_
            refine lv_iload hx hb dX4_laysWord_135 (lv_at hl 9 rfl) ?_
            refine lv_iload hx hb dX4_laysWord_137 (lv_at hl 0 rfl) ?_
            refine gc_Si (As := [.ref r0, .int x2, .int x8, .int t0]) (rest := [.int ((12 * x2) + x8), .ref o_lit]) (wr := [(o, .inr (4, [.ref o_now, .ref o_then, .ref o_past, .int s_kept, .ref o_text, .int s_typed, .int s_thrown, .int s_at, .int s_isFault, .int s_value, .ref o_told, .int s_tolds, .ref o_lit, .ref o_whole, .ref o_goes, .int s_isLaid, .ref o_latest])), (o_lit, .inl (cI, 96, .inl s_lit)), (o_whole, .inl (cI, 8, .inl s_whole)), (o_goes, .inl (cI, 8, .inl s_goes)), (o_latest, .inl (cI, 12, .inl s_latest))]) ⟨hx, hb, hml, hown, ht⟩ (c_X4_firstLight l dC dI cI cJ r0 H.size s_r0 x2 x8 t0 _ hw) (va_cwS 4 ht (g_S k_980 k_981 k_5 k_982) rfl rfl rfl (by decide +kernel) ⟨(Nat.le_of_ble_eq_true rfl), (Nat.le_of_ble_eq_true rfl)⟩) hK hP hD hS hA [5] [0, 1, 2, 3, 4] rfl rfl (by decide) rfl hl.1 rfl (Nat.le_of_ble_eq_true rfl) ⟨(Nat.le_of_ble_eq_true rfl), (Nat.le_of_ble_eq_true rfl)⟩ dX4_laysWord_139 (fun r_5 u H locs hw hP hD hS => ?_)
            try dsimp only at hw
            have hP : va_P (dC, dI) vwCl [(o, .inr (4, [.ref o_now, .ref o_then, .ref o_past, .int s_kept, .ref o_text, .int s_typed, .int s_thrown, .int s_at, .int s_isFault, .int s_value, .ref o_told, .int s_tolds, .ref o_lit, .ref o_whole, .ref o_goes, .int s_isLaid, .ref o_latest])), (o_lit, .inl (cI, 96, .inl s_lit)), (o_whole, .inl (cI, 8, .inl s_whole)), (o_goes, .inl (cI, 8, .inl s_goes)), (o_latest, .inl (cI, 12, .inl s_latest)), (r0, .inl (cI, 87, .inl s_r0))] H := hP
            have hD : va_D A [(o, .inr (4, [.ref o_now, .ref o_then, .ref o_past, .int s_kept, .ref o_text, .int s_typed, .int s_thrown, .int s_at, .int s_isFault, .int s_value, .ref o_told, .int s_tolds, .ref o_lit, .ref o_whole, .ref o_goes, .int s_isLaid, .ref o_latest])), (o_lit, .inl (cI, 96, .inl s_lit)), (o_whole, .inl (cI, 8, .inl s_whole)), (o_goes, .inl (cI, 8, .inl s_goes)), (o_latest, .inl (cI, 12, .inl s_latest)), (r0, .inl (cI, 87, .inl s_r0))] := hD
            exact J142 x6 x7 x8 r_5 ((12 * x2) + x8) s_lit hw H locs ls hP hD hS (lv_sub (l' := [(0, .ref o), (1, .ref r0), (2, .int x2), (3, .int x3), (4, .int x4), (5, .int x5), (6, .int x6), (7, .int x7), (8, .int x8)]) hl [1, 2, 3, 4, 5, 6, 7, 8, 9] rfl)
          · have hw := hw.2 hc
            refine lv_iconst (v := (-1)) hx hb dX4_laysWord_129 (by decide) ?_
            refine lv_goto (tgt := 142) hx hb dX4_laysWord_130 (by decide) ?_
            exact J142 x6 x7 x8 (-1) ((12 * x2) + x8) s_lit hw H locs ls hP hD hS (lv_sub (l' := [(0, .ref o), (1, .ref r0), (2, .int x2), (3, .int x3), (4, .int x4), (5, .int x5), (6, .int x6), (7, .int x7), (8, .int x8)]) hl [1, 2, 3, 4, 5, 6, 7, 8, 9] rfl)
        · have hw := hw.2 hc
          refine lv_iload hx hb dX4_laysWord_118 (lv_at hl 6 rfl) ?_
          refine lv_goto (tgt := 142) hx hb dX4_laysWord_120 (by decide) ?_
          exact J142 x6 x7 x8 x5 ((12 * x2) + x8) s_lit hw H locs ls hP hD hS (lv_sub (l' := [(0, .ref o), (1, .ref r0), (2, .int x2), (3, .int x3), (4, .int x4), (5, .int x5), (6, .int x6), (7, .int x7), (8, .int x8)]) hl [1, 2, 3, 4, 5, 6, 7, 8, 9] rfl)
      have J69 : ∀ (x6 : Int32) (x7 : Int32) (x8 : Int32) (t0 : Int32) (s_lit : Nat → Int32), P_X4_laysWord_J69 x2 x4 x5 s_r0 rec47 x6 x7 x8 t0 s_lit → ∀ (H : Heap) (locs : List Loc) (ls : Array Slot), va_P (dC, dI) vwCl [(o, .inr (4, [.ref o_now, .ref o_then, .ref o_past, .int s_kept, .ref o_text, .int s_typed, .int s_thrown, .int s_at, .int s_isFault, .int s_value, .ref o_told, .int s_tolds, .ref o_lit, .ref o_whole, .ref o_goes, .int s_isLaid, .ref o_latest])), (o_lit, .inl (cI, 96, .inl s_lit)), (o_whole, .inl (cI, 8, .inl s_whole)), (o_goes, .inl (cI, 8, .inl s_goes)), (o_latest, .inl (cI, 12, .inl s_latest)), (r0, .inl (cI, 87, .inl s_r0))] H → va_D A [(o, .inr (4, [.ref o_now, .ref o_then, .ref o_past, .int s_kept, .ref o_text, .int s_typed, .int s_thrown, .int s_at, .int s_isFault, .int s_value, .ref o_told, .int s_tolds, .ref o_lit, .ref o_whole, .ref o_goes, .int s_isLaid, .ref o_latest])), (o_lit, .inl (cI, 96, .inl s_lit)), (o_whole, .inl (cI, 8, .inl s_whole)), (o_goes, .inl (cI, 8, .inl s_goes)), (o_latest, .inl (cI, 12, .inl s_latest)), (r0, .inl (cI, 87, .inl s_r0))] → va_S A s.heap H locs → lv_has ls 11 [(0, .ref o), (1, .ref r0), (2, .int x2), (3, .int x3), (4, .int x4), (5, .int x5), (6, .int x6), (7, .int x7), (8, .int x8)] → W p l e rm_X4_laysWord s m ([.ref o, .ref r0, .int p1] : List Value).toArray below meth c H locs 0 0 QQ (F0 m 69 ls [.int t0]) := by
        intro x6 x7 x8 t0 s_lit hw H locs ls hP hD hS hl
        unfold P_X4_laysWord_J69 at hw
        refine lv_istore (lv' := [(9, .int t0), (0, .ref o), (1, .ref r0), (2, .int x2), (3, .int x3), (4, .int x4), (5, .int x5), (6, .int x6), (7, .int x7), (8, .int x8)]) hx hb dX4_laysWord_69 hl (by decide) rfl (fun ls hl => ?_)
        refine lv_iload hx hb dX4_laysWord_71 (lv_at hl 0 rfl) ?_
        refine lv_if_eq (tgt := 93) hx hb dX4_laysWord_73 (by decide) (fun hc => ?_) (fun hc => ?_)
        · have hw := hw.1 hc
          refine lv_aload_n hx hb dX4_laysWord_93 rfl (lv_at hl 2 rfl) ?_
          refine lv_iload_n hx hb dX4_laysWord_94 rfl (lv_at hl 3 rfl) ?_
          refine lv_iconst (v := 3) hx hb dX4_laysWord_95 (by decide) ?_
          refine gc_Si (As := [.ref r0, .int x2, .int 3]) (rest := []) (wr := [(o, .inr (4, [.ref o_now, .ref o_then, .ref o_past, .int s_kept, .ref o_text, .int s_typed, .int s_thrown, .int s_at, .int s_isFault, .int s_value, .ref o_told, .int s_tolds, .ref o_lit, .ref o_whole, .ref o_goes, .int s_isLaid, .ref o_latest])), (o_lit, .inl (cI, 96, .inl s_lit)), (o_whole, .inl (cI, 8, .inl s_whole)), (o_goes, .inl (cI, 8, .inl s_goes)), (o_latest, .inl (cI, 12, .inl s_latest))]) ⟨hx, hb, hml, hown, ht⟩ (c_X4_of l dC dI cI cJ r0 H.size s_r0 x2 3 _ hw) (va_cwS 3 ht (g_S k_964 k_965 k_5 k_966) rfl rfl rfl (by decide +kernel) ⟨(Nat.le_of_ble_eq_true rfl), (Nat.le_of_ble_eq_true rfl)⟩) hK hP hD hS hA [5] [0, 1, 2, 3, 4] rfl rfl (by decide) rfl hl.1 rfl (Nat.le_of_ble_eq_true rfl) ⟨(Nat.le_of_ble_eq_true rfl), (Nat.le_of_ble_eq_true rfl)⟩ dX4_laysWord_96 (fun r_6 u H locs hw hP hD hS => ?_)
          try dsimp only at hw
          have hP : va_P (dC, dI) vwCl [(o, .inr (4, [.ref o_now, .ref o_then, .ref o_past, .int s_kept, .ref o_text, .int s_typed, .int s_thrown, .int s_at, .int s_isFault, .int s_value, .ref o_told, .int s_tolds, .ref o_lit, .ref o_whole, .ref o_goes, .int s_isLaid, .ref o_latest])), (o_lit, .inl (cI, 96, .inl s_lit)), (o_whole, .inl (cI, 8, .inl s_whole)), (o_goes, .inl (cI, 8, .inl s_goes)), (o_latest, .inl (cI, 12, .inl s_latest)), (r0, .inl (cI, 87, .inl s_r0))] H := hP
          have hD : va_D A [(o, .inr (4, [.ref o_now, .ref o_then, .ref o_past, .int s_kept, .ref o_text, .int s_typed, .int s_thrown, .int s_at, .int s_isFault, .int s_value, .ref o_told, .int s_tolds, .ref o_lit, .ref o_whole, .ref o_goes, .int s_isLaid, .ref o_latest])), (o_lit, .inl (cI, 96, .inl s_lit)), (o_whole, .inl (cI, 8, .inl s_whole)), (o_goes, .inl (cI, 8, .inl s_goes)), (o_latest, .inl (cI, 12, .inl s_latest)), (r0, .inl (cI, 87, .inl s_r0))] := hD
          exact J99 x6 x7 x8 r_6 s_lit hw H locs ls hP hD hS (lv_sub (l' := [(0, .ref o), (1, .ref r0), (2, .int x2), (3, .int x3), (4, .int x4), (5, .int x5), (6, .int x6), (7, .int x7), (8, .int x8)]) hl [1, 2, 3, 4, 5, 6, 7, 8, 9] rfl)
        · have hw := hw.2 hc
          refine lv_aload_n hx hb dX4_laysWord_76 rfl (lv_at hl 1 rfl) ?_
          refine va_get (D := (dC, dI)) (ci := 4) (v := .ref o_lit) (C := RX4) (T := TX4) (N := 17) hx hb ht i_X4 hown hK hP 0 rfl rfl 12 (by decide) (ht _ k_830) (fun _ h9 => h9) rfl dX4_laysWord_77 ?_
          refine lv_bipush (v := 12) hx hb dX4_laysWord_80 (by decide) ?_
          refine lv_iload_n hx hb dX4_laysWord_82 rfl (lv_at hl 3 rfl) ?_
          refine lv_imul hx hb dX4_laysWord_83 ?_
          refine lv_iload hx hb dX4_laysWord_84 (lv_at hl 9 rfl) ?_
          refine lv_iadd hx hb dX4_laysWord_86 ?_
          refine lv_iconst (v := 1) hx hb dX4_laysWord_87 (by decide) ?_
          refine lv_isub hx hb dX4_laysWord_88 ?_
          obtain ⟨hi_7, hw⟩ := hw
          refine gv_iald hx hb hK hP 1 0 rfl rfl rfl hi_7 dX4_laysWord_89 ?_
          refine lv_goto (tgt := 99) hx hb dX4_laysWord_90 (by decide) ?_
          exact J99 x6 x7 x8 (s_lit ((((12 * x2) + x8) - 1).toNatClampNeg)) s_lit hw H locs ls hP hD hS (lv_sub (l' := [(0, .ref o), (1, .ref r0), (2, .int x2), (3, .int x3), (4, .int x4), (5, .int x5), (6, .int x6), (7, .int x7), (8, .int x8)]) hl [1, 2, 3, 4, 5, 6, 7, 8, 9] rfl)
      have J68 : ∀ (x6 : Int32) (x7 : Int32) (x8 : Int32) (s_lit : Nat → Int32), P_X4_laysWord_J68 x2 x4 x5 s_r0 rec47 x6 x7 x8 s_lit → ∀ (H : Heap) (locs : List Loc) (ls : Array Slot), va_P (dC, dI) vwCl [(o, .inr (4, [.ref o_now, .ref o_then, .ref o_past, .int s_kept, .ref o_text, .int s_typed, .int s_thrown, .int s_at, .int s_isFault, .int s_value, .ref o_told, .int s_tolds, .ref o_lit, .ref o_whole, .ref o_goes, .int s_isLaid, .ref o_latest])), (o_lit, .inl (cI, 96, .inl s_lit)), (o_whole, .inl (cI, 8, .inl s_whole)), (o_goes, .inl (cI, 8, .inl s_goes)), (o_latest, .inl (cI, 12, .inl s_latest)), (r0, .inl (cI, 87, .inl s_r0))] H → va_D A [(o, .inr (4, [.ref o_now, .ref o_then, .ref o_past, .int s_kept, .ref o_text, .int s_typed, .int s_thrown, .int s_at, .int s_isFault, .int s_value, .ref o_told, .int s_tolds, .ref o_lit, .ref o_whole, .ref o_goes, .int s_isLaid, .ref o_latest])), (o_lit, .inl (cI, 96, .inl s_lit)), (o_whole, .inl (cI, 8, .inl s_whole)), (o_goes, .inl (cI, 8, .inl s_goes)), (o_latest, .inl (cI, 12, .inl s_latest)), (r0, .inl (cI, 87, .inl s_r0))] → va_S A s.heap H locs → lv_has ls 11 [(0, .ref o), (1, .ref r0), (2, .int x2), (3, .int x3), (4, .int x4), (5, .int x5), (6, .int x6), (7, .int x7), (8, .int x8)] → W p l e rm_X4_laysWord s m ([.ref o, .ref r0, .int p1] : List Value).toArray below meth c H locs 0 0 QQ (F0 m 68 ls []) := by
        intro x6 x7 x8 s_lit hw H locs ls hP hD hS hl
        unfold P_X4_laysWord_J68 at hw
        refine lv_iconst (v := 0) hx hb dX4_laysWord_68 (by decide) ?_
        exact J69 x6 x7 x8 0 s_lit hw H locs ls hP hD hS hl
      intro H locs ls hP hD hS hl
      unfold B_X4_laysWord_L47 at hw
      refine lv_iload hx hb dX4_laysWord_47 (lv_at hl 8 rfl) ?_
      refine lv_iload_n hx hb dX4_laysWord_49 rfl (lv_at hl 3 rfl) ?_
      refine lv_icmp_ge (tgt := 213) hx hb dX4_laysWord_50 (by decide) (fun hc => ?_) (fun hc => ?_)
      · have hw := hw.1 hc
        exact hK47_213 x6 x7 s_lit hw H locs ls hP hD hS (lv_sub (l' := [(0, .ref o), (1, .ref r0), (2, .int x2), (6, .int x6), (7, .int x7)]) hl [0, 1, 2, 6, 7] rfl)
      · have hw := hw.2 hc
        refine lv_iload hx hb dX4_laysWord_53 (lv_at hl 4 rfl) ?_
        refine lv_iconst (v := 1) hx hb dX4_laysWord_55 (by decide) ?_
        refine lv_icmp_ne (tgt := 68) hx hb dX4_laysWord_56 (by decide) (fun hc => ?_) (fun hc => ?_)
        · have hw := hw.1 hc
          exact J68 x6 x7 x8 s_lit hw H locs ls hP hD hS hl
        · have hw := hw.2 hc
          refine lv_iload hx hb dX4_laysWord_59 (lv_at hl 8 rfl) ?_
          refine lv_if_le (tgt := 68) hx hb dX4_laysWord_61 (by decide) (fun hc => ?_) (fun hc => ?_)
          · have hw := hw.1 hc
            exact J68 x6 x7 x8 s_lit hw H locs ls hP hD hS hl
          · have hw := hw.2 hc
            refine lv_iconst (v := 1) hx hb dX4_laysWord_64 (by decide) ?_
            refine lv_goto (tgt := 69) hx hb dX4_laysWord_65 (by decide) ?_
            exact J69 x6 x7 x8 1 s_lit hw H locs ls hP hD hS hl
  have J304 : ∀ (t0 : Int32) (t1 : Int32) (s_lit : Nat → Int32) (s_whole : Nat → Int32) (s_latest : Nat → Int32), P_X4_laysWord_J304 s_goes Q t0 t1 s_lit s_whole s_latest → ∀ (H : Heap) (locs : List Loc) (ls : Array Slot), va_P (dC, dI) vwCl [(o, .inr (4, [.ref o_now, .ref o_then, .ref o_past, .int s_kept, .ref o_text, .int s_typed, .int s_thrown, .int s_at, .int s_isFault, .int s_value, .ref o_told, .int s_tolds, .ref o_lit, .ref o_whole, .ref o_goes, .int s_isLaid, .ref o_latest])), (o_lit, .inl (cI, 96, .inl s_lit)), (o_whole, .inl (cI, 8, .inl s_whole)), (o_goes, .inl (cI, 8, .inl s_goes)), (o_latest, .inl (cI, 12, .inl s_latest)), (r0, .inl (cI, 87, .inl s_r0))] H → va_D A [(o, .inr (4, [.ref o_now, .ref o_then, .ref o_past, .int s_kept, .ref o_text, .int s_typed, .int s_thrown, .int s_at, .int s_isFault, .int s_value, .ref o_told, .int s_tolds, .ref o_lit, .ref o_whole, .ref o_goes, .int s_isLaid, .ref o_latest])), (o_lit, .inl (cI, 96, .inl s_lit)), (o_whole, .inl (cI, 8, .inl s_whole)), (o_goes, .inl (cI, 8, .inl s_goes)), (o_latest, .inl (cI, 12, .inl s_latest)), (r0, .inl (cI, 87, .inl s_r0))] → va_S A s.heap H locs → lv_has ls 11 [] → W p l e rm_X4_laysWord s m ([.ref o, .ref r0, .int p1] : List Value).toArray below meth c H locs 0 0 QQ (F0 m 304 ls [.int t0, .int t1, .ref o_goes]) := by
    intro t0 t1 s_lit s_whole s_latest hw H locs ls hP hD hS hl
    unfold P_X4_laysWord_J304 at hw
    obtain ⟨hi_8, hw⟩ := hw
    refine gv_iast hx hb hK hP hD hS 3 0 rfl rfl rfl hi_8 dX4_laysWord_304 (fun H locs hP hD hS => ?_)
    have hP : va_P (dC, dI) vwCl [(o, .inr (4, [.ref o_now, .ref o_then, .ref o_past, .int s_kept, .ref o_text, .int s_typed, .int s_thrown, .int s_at, .int s_isFault, .int s_value, .ref o_told, .int s_tolds, .ref o_lit, .ref o_whole, .ref o_goes, .int s_isLaid, .ref o_latest])), (o_lit, .inl (cI, 96, .inl s_lit)), (o_whole, .inl (cI, 8, .inl s_whole)), (o_goes, .inl (cI, 8, .inl (upd s_goes t1.toNatClampNeg t0))), (o_latest, .inl (cI, 12, .inl s_latest)), (r0, .inl (cI, 87, .inl s_r0))] H := hP
    have hD : va_D A [(o, .inr (4, [.ref o_now, .ref o_then, .ref o_past, .int s_kept, .ref o_text, .int s_typed, .int s_thrown, .int s_at, .int s_isFault, .int s_value, .ref o_told, .int s_tolds, .ref o_lit, .ref o_whole, .ref o_goes, .int s_isLaid, .ref o_latest])), (o_lit, .inl (cI, 96, .inl s_lit)), (o_whole, .inl (cI, 8, .inl s_whole)), (o_goes, .inl (cI, 8, .inl (upd s_goes t1.toNatClampNeg t0))), (o_latest, .inl (cI, 12, .inl s_latest)), (r0, .inl (cI, 87, .inl s_r0))] := hD
    rw [← hQQ]
    exact g_retv (u := (s_lit, s_whole, (upd s_goes t1.toNatClampNeg t0), s_latest)) hx hb hr hlocks hw hP hK hD hS dX4_laysWord_305
  have J303 : ∀ (t0 : Int32) (s_lit : Nat → Int32) (s_whole : Nat → Int32) (s_latest : Nat → Int32), P_X4_laysWord_J303 s_goes Q t0 s_lit s_whole s_latest → ∀ (H : Heap) (locs : List Loc) (ls : Array Slot), va_P (dC, dI) vwCl [(o, .inr (4, [.ref o_now, .ref o_then, .ref o_past, .int s_kept, .ref o_text, .int s_typed, .int s_thrown, .int s_at, .int s_isFault, .int s_value, .ref o_told, .int s_tolds, .ref o_lit, .ref o_whole, .ref o_goes, .int s_isLaid, .ref o_latest])), (o_lit, .inl (cI, 96, .inl s_lit)), (o_whole, .inl (cI, 8, .inl s_whole)), (o_goes, .inl (cI, 8, .inl s_goes)), (o_latest, .inl (cI, 12, .inl s_latest)), (r0, .inl (cI, 87, .inl s_r0))] H → va_D A [(o, .inr (4, [.ref o_now, .ref o_then, .ref o_past, .int s_kept, .ref o_text, .int s_typed, .int s_thrown, .int s_at, .int s_isFault, .int s_value, .ref o_told, .int s_tolds, .ref o_lit, .ref o_whole, .ref o_goes, .int s_isLaid, .ref o_latest])), (o_lit, .inl (cI, 96, .inl s_lit)), (o_whole, .inl (cI, 8, .inl s_whole)), (o_goes, .inl (cI, 8, .inl s_goes)), (o_latest, .inl (cI, 12, .inl s_latest)), (r0, .inl (cI, 87, .inl s_r0))] → va_S A s.heap H locs → lv_has ls 11 [] → W p l e rm_X4_laysWord s m ([.ref o, .ref r0, .int p1] : List Value).toArray below meth c H locs 0 0 QQ (F0 m 303 ls [.int t0, .ref o_goes]) := by
    intro t0 s_lit s_whole s_latest hw H locs ls hP hD hS hl
    unfold P_X4_laysWord_J303 at hw
    refine lv_iconst (v := (-1)) hx hb dX4_laysWord_303 (by decide) ?_
    exact J304 (-1) t0 s_lit s_whole s_latest hw H locs ls hP hD hS hl
  have J260 : ∀ (x2 : Int32) (x7 : Int32) (t0 : Int32) (s_lit : Nat → Int32) (s_whole : Nat → Int32) (s_latest : Nat → Int32), P_X4_laysWord_J260 s_goes s_r0 Q x2 x7 t0 s_lit s_whole s_latest → ∀ (H : Heap) (locs : List Loc) (ls : Array Slot), va_P (dC, dI) vwCl [(o, .inr (4, [.ref o_now, .ref o_then, .ref o_past, .int s_kept, .ref o_text, .int s_typed, .int s_thrown, .int s_at, .int s_isFault, .int s_value, .ref o_told, .int s_tolds, .ref o_lit, .ref o_whole, .ref o_goes, .int s_isLaid, .ref o_latest])), (o_lit, .inl (cI, 96, .inl s_lit)), (o_whole, .inl (cI, 8, .inl s_whole)), (o_goes, .inl (cI, 8, .inl s_goes)), (o_latest, .inl (cI, 12, .inl s_latest)), (r0, .inl (cI, 87, .inl s_r0))] H → va_D A [(o, .inr (4, [.ref o_now, .ref o_then, .ref o_past, .int s_kept, .ref o_text, .int s_typed, .int s_thrown, .int s_at, .int s_isFault, .int s_value, .ref o_told, .int s_tolds, .ref o_lit, .ref o_whole, .ref o_goes, .int s_isLaid, .ref o_latest])), (o_lit, .inl (cI, 96, .inl s_lit)), (o_whole, .inl (cI, 8, .inl s_whole)), (o_goes, .inl (cI, 8, .inl s_goes)), (o_latest, .inl (cI, 12, .inl s_latest)), (r0, .inl (cI, 87, .inl s_r0))] → va_S A s.heap H locs → lv_has ls 11 [(0, .ref o), (1, .ref r0), (2, .int x2), (7, .int x7)] → W p l e rm_X4_laysWord s m ([.ref o, .ref r0, .int p1] : List Value).toArray below meth c H locs 0 0 QQ (F0 m 260 ls [.int t0]) := by
    intro x2 x7 t0 s_lit s_whole s_latest hw H locs ls hP hD hS hl
    unfold P_X4_laysWord_J260 at hw
    refine lv_istore (lv' := [(8, .int t0), (0, .ref o), (1, .ref r0), (2, .int x2), (7, .int x7)]) hx hb dX4_laysWord_260 hl (by decide) rfl (fun ls hl => ?_)
    refine lv_iload hx hb dX4_laysWord_262 (lv_at hl 0 rfl) ?_
    refine lv_aload_n hx hb dX4_laysWord_264 rfl (lv_at hl 2 rfl) ?_
    refine lv_iconst (v := 0) hx hb dX4_laysWord_265 (by decide) ?_
    refine gv_iald hx hb hK hP 5 0 rfl rfl (k := 0) (by decide) (by unfold vp_in; decide) dX4_laysWord_266 ?_
    refine lv_iadd hx hb dX4_laysWord_267 ?_
    refine lv_iconst (v := 1) hx hb dX4_laysWord_268 (by decide) ?_
    refine lv_isub hx hb dX4_laysWord_269 ?_
    refine lv_aload_n hx hb dX4_laysWord_270 rfl (lv_at hl 2 rfl) ?_
    refine lv_iconst (v := 0) hx hb dX4_laysWord_271 (by decide) ?_
    refine gv_iald hx hb hK hP 5 0 rfl rfl (k := 0) (by decide) (by unfold vp_in; decide) dX4_laysWord_272 ?_
    obtain ⟨hz_9, hw⟩ := hw
    refine lv_idiv hx hb dX4_laysWord_273 hz_9 ?_
    refine lv_aload_n hx hb dX4_laysWord_274 rfl (lv_at hl 2 rfl) ?_
    refine lv_iconst (v := 0) hx hb dX4_laysWord_275 (by decide) ?_
    refine gv_iald hx hb hK hP 5 0 rfl rfl (k := 0) (by decide) (by unfold vp_in; decide) dX4_laysWord_276 ?_
    refine lv_imul hx hb dX4_laysWord_277 ?_
    refine lv_istore (lv' := [(9, .int ((((t0 + (s_r0 0)) - 1) / (s_r0 0)) * (s_r0 0))), (8, .int t0), (0, .ref o), (1, .ref r0), (2, .int x2), (7, .int x7)]) hx hb dX4_laysWord_278 hl (by decide) rfl (fun ls hl => ?_)
    refine lv_aload_n hx hb dX4_laysWord_280 rfl (lv_at hl 2 rfl) ?_
    refine va_get (D := (dC, dI)) (ci := 4) (v := .ref o_goes) (C := RX4) (T := TX4) (N := 17) hx hb ht i_X4 hown hK hP 0 rfl rfl 14 (by decide) (ht _ k_832) (fun _ h9 => h9) rfl dX4_laysWord_281 ?_
    refine lv_iload_n hx hb dX4_laysWord_284 rfl (lv_at hl 4 rfl) ?_
    refine lv_iload hx hb dX4_laysWord_285 (lv_at hl 5 rfl) ?_
    refine lv_if_eq (tgt := 303) hx hb dX4_laysWord_287 (by decide) (fun hc => ?_) (fun hc => ?_)
    · have hw := hw.1 hc
      exact J303 x2 s_lit s_whole s_latest hw H locs ls hP hD hS (lv_sub (l' := []) hl [] rfl)
    · have hw := hw.2 hc
      refine lv_iload hx hb dX4_laysWord_290 (lv_at hl 0 rfl) ?_
      refine lv_sipush (v := 200) hx hb dX4_laysWord_292 (by decide) ?_
      refine lv_icmp_ge (tgt := 303) hx hb dX4_laysWord_295 (by decide) (fun hc => ?_) (fun hc => ?_)
      · have hw := hw.1 hc
        exact J303 x2 s_lit s_whole s_latest hw H locs ls hP hD hS (lv_sub (l' := []) hl [] rfl)
      · have hw := hw.2 hc
        refine lv_iload hx hb dX4_laysWord_298 (lv_at hl 0 rfl) ?_
        refine lv_goto (tgt := 304) hx hb dX4_laysWord_300 (by decide) ?_
        exact J304 ((((t0 + (s_r0 0)) - 1) / (s_r0 0)) * (s_r0 0)) x2 s_lit s_whole s_latest hw H locs ls hP hD hS (lv_sub (l' := []) hl [] rfl)
  have J229 : ∀ (x2 : Int32) (x6 : Int32) (x7 : Int32) (t0 : Int32) (t1 : Int32) (s_lit : Nat → Int32) (s_latest : Nat → Int32), P_X4_laysWord_J229 s_whole s_goes s_r0 Q x2 x6 x7 t0 t1 s_lit s_latest → ∀ (H : Heap) (locs : List Loc) (ls : Array Slot), va_P (dC, dI) vwCl [(o, .inr (4, [.ref o_now, .ref o_then, .ref o_past, .int s_kept, .ref o_text, .int s_typed, .int s_thrown, .int s_at, .int s_isFault, .int s_value, .ref o_told, .int s_tolds, .ref o_lit, .ref o_whole, .ref o_goes, .int s_isLaid, .ref o_latest])), (o_lit, .inl (cI, 96, .inl s_lit)), (o_whole, .inl (cI, 8, .inl s_whole)), (o_goes, .inl (cI, 8, .inl s_goes)), (o_latest, .inl (cI, 12, .inl s_latest)), (r0, .inl (cI, 87, .inl s_r0))] H → va_D A [(o, .inr (4, [.ref o_now, .ref o_then, .ref o_past, .int s_kept, .ref o_text, .int s_typed, .int s_thrown, .int s_at, .int s_isFault, .int s_value, .ref o_told, .int s_tolds, .ref o_lit, .ref o_whole, .ref o_goes, .int s_isLaid, .ref o_latest])), (o_lit, .inl (cI, 96, .inl s_lit)), (o_whole, .inl (cI, 8, .inl s_whole)), (o_goes, .inl (cI, 8, .inl s_goes)), (o_latest, .inl (cI, 12, .inl s_latest)), (r0, .inl (cI, 87, .inl s_r0))] → va_S A s.heap H locs → lv_has ls 11 [(0, .ref o), (1, .ref r0), (2, .int x2), (6, .int x6), (7, .int x7)] → W p l e rm_X4_laysWord s m ([.ref o, .ref r0, .int p1] : List Value).toArray below meth c H locs 0 0 QQ (F0 m 229 ls [.int t0, .int t1, .ref o_whole]) := by
    intro x2 x6 x7 t0 t1 s_lit s_latest hw H locs ls hP hD hS hl
    unfold P_X4_laysWord_J229 at hw
    obtain ⟨hi_10, hw⟩ := hw
    refine gv_iast hx hb hK hP hD hS 2 0 rfl rfl rfl hi_10 dX4_laysWord_229 (fun H locs hP hD hS => ?_)
    have hP : va_P (dC, dI) vwCl [(o, .inr (4, [.ref o_now, .ref o_then, .ref o_past, .int s_kept, .ref o_text, .int s_typed, .int s_thrown, .int s_at, .int s_isFault, .int s_value, .ref o_told, .int s_tolds, .ref o_lit, .ref o_whole, .ref o_goes, .int s_isLaid, .ref o_latest])), (o_lit, .inl (cI, 96, .inl s_lit)), (o_whole, .inl (cI, 8, .inl (upd s_whole t1.toNatClampNeg t0))), (o_goes, .inl (cI, 8, .inl s_goes)), (o_latest, .inl (cI, 12, .inl s_latest)), (r0, .inl (cI, 87, .inl s_r0))] H := hP
    have hD : va_D A [(o, .inr (4, [.ref o_now, .ref o_then, .ref o_past, .int s_kept, .ref o_text, .int s_typed, .int s_thrown, .int s_at, .int s_isFault, .int s_value, .ref o_told, .int s_tolds, .ref o_lit, .ref o_whole, .ref o_goes, .int s_isLaid, .ref o_latest])), (o_lit, .inl (cI, 96, .inl s_lit)), (o_whole, .inl (cI, 8, .inl (upd s_whole t1.toNatClampNeg t0))), (o_goes, .inl (cI, 8, .inl s_goes)), (o_latest, .inl (cI, 12, .inl s_latest)), (r0, .inl (cI, 87, .inl s_r0))] := hD
    refine lv_iload hx hb dX4_laysWord_230 (lv_at hl 3 rfl) ?_
    refine lv_aload_n hx hb dX4_laysWord_232 rfl (lv_at hl 1 rfl) ?_
    refine lv_iload_n hx hb dX4_laysWord_233 rfl (lv_at hl 2 rfl) ?_
    refine lv_iconst (v := 5) hx hb dX4_laysWord_234 (by decide) ?_
    refine gc_Si (As := [.ref r0, .int x2, .int 5]) (rest := [.int x6]) (wr := [(o, .inr (4, [.ref o_now, .ref o_then, .ref o_past, .int s_kept, .ref o_text, .int s_typed, .int s_thrown, .int s_at, .int s_isFault, .int s_value, .ref o_told, .int s_tolds, .ref o_lit, .ref o_whole, .ref o_goes, .int s_isLaid, .ref o_latest])), (o_lit, .inl (cI, 96, .inl s_lit)), (o_whole, .inl (cI, 8, .inl (upd s_whole t1.toNatClampNeg t0))), (o_goes, .inl (cI, 8, .inl s_goes)), (o_latest, .inl (cI, 12, .inl s_latest))]) ⟨hx, hb, hml, hown, ht⟩ (c_X4_of l dC dI cI cJ r0 H.size s_r0 x2 5 _ hw) (va_cwS 3 ht (g_S k_964 k_965 k_5 k_966) rfl rfl rfl (by decide +kernel) ⟨(Nat.le_of_ble_eq_true rfl), (Nat.le_of_ble_eq_true rfl)⟩) hK hP hD hS hA [5] [0, 1, 2, 3, 4] rfl rfl (by decide) rfl hl.1 rfl (Nat.le_of_ble_eq_true rfl) ⟨(Nat.le_of_ble_eq_true rfl), (Nat.le_of_ble_eq_true rfl)⟩ dX4_laysWord_235 (fun r_11 u H locs hw hP hD hS => ?_)
    try dsimp only at hw
    have hP : va_P (dC, dI) vwCl [(o, .inr (4, [.ref o_now, .ref o_then, .ref o_past, .int s_kept, .ref o_text, .int s_typed, .int s_thrown, .int s_at, .int s_isFault, .int s_value, .ref o_told, .int s_tolds, .ref o_lit, .ref o_whole, .ref o_goes, .int s_isLaid, .ref o_latest])), (o_lit, .inl (cI, 96, .inl s_lit)), (o_whole, .inl (cI, 8, .inl (upd s_whole t1.toNatClampNeg t0))), (o_goes, .inl (cI, 8, .inl s_goes)), (o_latest, .inl (cI, 12, .inl s_latest)), (r0, .inl (cI, 87, .inl s_r0))] H := hP
    have hD : va_D A [(o, .inr (4, [.ref o_now, .ref o_then, .ref o_past, .int s_kept, .ref o_text, .int s_typed, .int s_thrown, .int s_at, .int s_isFault, .int s_value, .ref o_told, .int s_tolds, .ref o_lit, .ref o_whole, .ref o_goes, .int s_isLaid, .ref o_latest])), (o_lit, .inl (cI, 96, .inl s_lit)), (o_whole, .inl (cI, 8, .inl (upd s_whole t1.toNatClampNeg t0))), (o_goes, .inl (cI, 8, .inl s_goes)), (o_latest, .inl (cI, 12, .inl s_latest)), (r0, .inl (cI, 87, .inl s_r0))] := hD
    refine lv_iadd hx hb dX4_laysWord_238 ?_
    refine lv_iload hx hb dX4_laysWord_239 (lv_at hl 3 rfl) ?_
    refine lv_icmp_le (tgt := 256) hx hb dX4_laysWord_241 (by decide) (fun hc => ?_) (fun hc => ?_)
    · have hw := hw.1 hc
      refine lv_iload hx hb dX4_laysWord_256 (lv_at hl 3 rfl) ?_
      refine lv_iconst (v := 1) hx hb dX4_laysWord_258 (by decide) ?_
      refine lv_iadd hx hb dX4_laysWord_259 ?_
      exact J260 x2 x7 (x6 + 1) s_lit (upd s_whole t1.toNatClampNeg t0) s_latest hw H locs ls hP hD hS (lv_sub (l' := [(0, .ref o), (1, .ref r0), (2, .int x2), (7, .int x7)]) hl [0, 1, 2, 4] rfl)
    · have hw := hw.2 hc
      refine lv_iload hx hb dX4_laysWord_244 (lv_at hl 3 rfl) ?_
      refine lv_aload_n hx hb dX4_laysWord_246 rfl (lv_at hl 1 rfl) ?_
      refine lv_iload_n hx hb dX4_laysWord_247 rfl (lv_at hl 2 rfl) ?_
      refine lv_iconst (v := 5) hx hb dX4_laysWord_248 (by decide) ?_
      refine gc_Si (As := [.ref r0, .int x2, .int 5]) (rest := [.int x6]) (wr := [(o, .inr (4, [.ref o_now, .ref o_then, .ref o_past, .int s_kept, .ref o_text, .int s_typed, .int s_thrown, .int s_at, .int s_isFault, .int s_value, .ref o_told, .int s_tolds, .ref o_lit, .ref o_whole, .ref o_goes, .int s_isLaid, .ref o_latest])), (o_lit, .inl (cI, 96, .inl s_lit)), (o_whole, .inl (cI, 8, .inl (upd s_whole t1.toNatClampNeg t0))), (o_goes, .inl (cI, 8, .inl s_goes)), (o_latest, .inl (cI, 12, .inl s_latest))]) ⟨hx, hb, hml, hown, ht⟩ (c_X4_of l dC dI cI cJ r0 H.size s_r0 x2 5 _ hw) (va_cwS 3 ht (g_S k_964 k_965 k_5 k_966) rfl rfl rfl (by decide +kernel) ⟨(Nat.le_of_ble_eq_true rfl), (Nat.le_of_ble_eq_true rfl)⟩) hK hP hD hS hA [5] [0, 1, 2, 3, 4] rfl rfl (by decide) rfl hl.1 rfl (Nat.le_of_ble_eq_true rfl) ⟨(Nat.le_of_ble_eq_true rfl), (Nat.le_of_ble_eq_true rfl)⟩ dX4_laysWord_249 (fun r_12 u H locs hw hP hD hS => ?_)
      try dsimp only at hw
      have hP : va_P (dC, dI) vwCl [(o, .inr (4, [.ref o_now, .ref o_then, .ref o_past, .int s_kept, .ref o_text, .int s_typed, .int s_thrown, .int s_at, .int s_isFault, .int s_value, .ref o_told, .int s_tolds, .ref o_lit, .ref o_whole, .ref o_goes, .int s_isLaid, .ref o_latest])), (o_lit, .inl (cI, 96, .inl s_lit)), (o_whole, .inl (cI, 8, .inl (upd s_whole t1.toNatClampNeg t0))), (o_goes, .inl (cI, 8, .inl s_goes)), (o_latest, .inl (cI, 12, .inl s_latest)), (r0, .inl (cI, 87, .inl s_r0))] H := hP
      have hD : va_D A [(o, .inr (4, [.ref o_now, .ref o_then, .ref o_past, .int s_kept, .ref o_text, .int s_typed, .int s_thrown, .int s_at, .int s_isFault, .int s_value, .ref o_told, .int s_tolds, .ref o_lit, .ref o_whole, .ref o_goes, .int s_isLaid, .ref o_latest])), (o_lit, .inl (cI, 96, .inl s_lit)), (o_whole, .inl (cI, 8, .inl (upd s_whole t1.toNatClampNeg t0))), (o_goes, .inl (cI, 8, .inl s_goes)), (o_latest, .inl (cI, 12, .inl s_latest)), (r0, .inl (cI, 87, .inl s_r0))] := hD
      refine lv_iadd hx hb dX4_laysWord_252 ?_
      refine lv_goto (tgt := 260) hx hb dX4_laysWord_253 (by decide) ?_
      exact J260 x2 x7 (x6 + r_12) s_lit (upd s_whole t1.toNatClampNeg t0) s_latest hw H locs ls hP hD hS (lv_sub (l' := [(0, .ref o), (1, .ref r0), (2, .int x2), (7, .int x7)]) hl [0, 1, 2, 4] rfl)
  have J31 : ∀ (x2 : Int32) (x3 : Int32) (x4 : Int32) (t0 : Int32) (s_latest : Nat → Int32), P_X4_laysWord_J31 s_lit s_whole s_goes s_r0 Q x2 x3 x4 t0 s_latest → ∀ (H : Heap) (locs : List Loc) (ls : Array Slot), va_P (dC, dI) vwCl [(o, .inr (4, [.ref o_now, .ref o_then, .ref o_past, .int s_kept, .ref o_text, .int s_typed, .int s_thrown, .int s_at, .int s_isFault, .int s_value, .ref o_told, .int s_tolds, .ref o_lit, .ref o_whole, .ref o_goes, .int s_isLaid, .ref o_latest])), (o_lit, .inl (cI, 96, .inl s_lit)), (o_whole, .inl (cI, 8, .inl s_whole)), (o_goes, .inl (cI, 8, .inl s_goes)), (o_latest, .inl (cI, 12, .inl s_latest)), (r0, .inl (cI, 87, .inl s_r0))] H → va_D A [(o, .inr (4, [.ref o_now, .ref o_then, .ref o_past, .int s_kept, .ref o_text, .int s_typed, .int s_thrown, .int s_at, .int s_isFault, .int s_value, .ref o_told, .int s_tolds, .ref o_lit, .ref o_whole, .ref o_goes, .int s_isLaid, .ref o_latest])), (o_lit, .inl (cI, 96, .inl s_lit)), (o_whole, .inl (cI, 8, .inl s_whole)), (o_goes, .inl (cI, 8, .inl s_goes)), (o_latest, .inl (cI, 12, .inl s_latest)), (r0, .inl (cI, 87, .inl s_r0))] → va_S A s.heap H locs → lv_has ls 11 [(0, .ref o), (1, .ref r0), (2, .int x2), (3, .int x3), (4, .int x4)] → W p l e rm_X4_laysWord s m ([.ref o, .ref r0, .int p1] : List Value).toArray below meth c H locs 0 0 QQ (F0 m 31 ls [.int t0]) := by
    intro x2 x3 x4 t0 s_latest hw H locs ls hP hD hS hl
    unfold P_X4_laysWord_J31 at hw
    refine lv_istore (lv' := [(5, .int t0), (0, .ref o), (1, .ref r0), (2, .int x2), (3, .int x3), (4, .int x4)]) hx hb dX4_laysWord_31 hl (by decide) rfl (fun ls hl => ?_)
    refine lv_aload_n hx hb dX4_laysWord_33 rfl (lv_at hl 2 rfl) ?_
    refine lv_iload_n hx hb dX4_laysWord_34 rfl (lv_at hl 3 rfl) ?_
    refine lv_iconst (v := 3) hx hb dX4_laysWord_35 (by decide) ?_
    refine gc_Si (As := [.ref r0, .int x2, .int 3]) (rest := []) (wr := [(o, .inr (4, [.ref o_now, .ref o_then, .ref o_past, .int s_kept, .ref o_text, .int s_typed, .int s_thrown, .int s_at, .int s_isFault, .int s_value, .ref o_told, .int s_tolds, .ref o_lit, .ref o_whole, .ref o_goes, .int s_isLaid, .ref o_latest])), (o_lit, .inl (cI, 96, .inl s_lit)), (o_whole, .inl (cI, 8, .inl s_whole)), (o_goes, .inl (cI, 8, .inl s_goes)), (o_latest, .inl (cI, 12, .inl s_latest))]) ⟨hx, hb, hml, hown, ht⟩ (c_X4_of l dC dI cI cJ r0 H.size s_r0 x2 3 _ hw) (va_cwS 3 ht (g_S k_964 k_965 k_5 k_966) rfl rfl rfl (by decide +kernel) ⟨(Nat.le_of_ble_eq_true rfl), (Nat.le_of_ble_eq_true rfl)⟩) hK hP hD hS hA [5] [0, 1, 2, 3, 4] rfl rfl (by decide) rfl hl.1 rfl (Nat.le_of_ble_eq_true rfl) ⟨(Nat.le_of_ble_eq_true rfl), (Nat.le_of_ble_eq_true rfl)⟩ dX4_laysWord_36 (fun r_13 u H locs hw hP hD hS => ?_)
    try dsimp only at hw
    have hP : va_P (dC, dI) vwCl [(o, .inr (4, [.ref o_now, .ref o_then, .ref o_past, .int s_kept, .ref o_text, .int s_typed, .int s_thrown, .int s_at, .int s_isFault, .int s_value, .ref o_told, .int s_tolds, .ref o_lit, .ref o_whole, .ref o_goes, .int s_isLaid, .ref o_latest])), (o_lit, .inl (cI, 96, .inl s_lit)), (o_whole, .inl (cI, 8, .inl s_whole)), (o_goes, .inl (cI, 8, .inl s_goes)), (o_latest, .inl (cI, 12, .inl s_latest)), (r0, .inl (cI, 87, .inl s_r0))] H := hP
    have hD : va_D A [(o, .inr (4, [.ref o_now, .ref o_then, .ref o_past, .int s_kept, .ref o_text, .int s_typed, .int s_thrown, .int s_at, .int s_isFault, .int s_value, .ref o_told, .int s_tolds, .ref o_lit, .ref o_whole, .ref o_goes, .int s_isLaid, .ref o_latest])), (o_lit, .inl (cI, 96, .inl s_lit)), (o_whole, .inl (cI, 8, .inl s_whole)), (o_goes, .inl (cI, 8, .inl s_goes)), (o_latest, .inl (cI, 12, .inl s_latest)), (r0, .inl (cI, 87, .inl s_r0))] := hD
    refine lv_istore (lv' := [(6, .int r_13), (5, .int t0), (0, .ref o), (1, .ref r0), (2, .int x2), (3, .int x3), (4, .int x4)]) hx hb dX4_laysWord_39 hl (by decide) rfl (fun ls hl => ?_)
    refine lv_iconst (v := 1) hx hb dX4_laysWord_41 (by decide) ?_
    refine lv_istore (lv' := [(7, .int 1), (6, .int r_13), (5, .int t0), (0, .ref o), (1, .ref r0), (2, .int x2), (3, .int x3), (4, .int x4)]) hx hb dX4_laysWord_42 hl (by decide) rfl (fun ls hl => ?_)
    refine lv_iconst (v := 0) hx hb dX4_laysWord_44 (by decide) ?_
    refine lv_istore (lv' := [(8, .int 0), (7, .int 1), (6, .int r_13), (5, .int t0), (0, .ref o), (1, .ref r0), (2, .int x2), (3, .int x3), (4, .int x4)]) hx hb dX4_laysWord_45 hl (by decide) rfl (fun ls hl => ?_)
    obtain ⟨n, hw⟩ := hw
    refine L47 x2 x3 x4 t0 s_latest _ (fun x6_14 x7_15 s_lit_16 hw H locs ls hP hD hS hl => ?_) n r_13 1 0 s_lit hw H locs ls hP hD hS (lv_sub (l' := [(0, .ref o), (1, .ref r0), (2, .int x2), (3, .int x3), (4, .int x4), (5, .int t0), (6, .int r_13), (7, .int 1), (8, .int 0)]) hl [4, 5, 6, 7, 8, 3, 2, 1, 0] rfl)
    refine lv_aload_n hx hb dX4_laysWord_213 rfl (lv_at hl 0 rfl) ?_
    refine va_get (D := (dC, dI)) (ci := 4) (v := .ref o_whole) (C := RX4) (T := TX4) (N := 17) hx hb ht i_X4 hown hK hP 0 rfl rfl 13 (by decide) (ht _ k_831) (fun _ h9 => h9) rfl dX4_laysWord_214 ?_
    refine lv_iload_n hx hb dX4_laysWord_217 rfl (lv_at hl 2 rfl) ?_
    refine lv_iload hx hb dX4_laysWord_218 (lv_at hl 4 rfl) ?_
    refine lv_if_eq (tgt := 228) hx hb dX4_laysWord_220 (by decide) (fun hc => ?_) (fun hc => ?_)
    · have hw := hw.1 hc
      refine lv_iconst (v := (-1)) hx hb dX4_laysWord_228 (by decide) ?_
      exact J229 x2 x6_14 x7_15 (-1) x2 s_lit_16 s_latest hw H locs ls hP hD hS hl
    · have hw := hw.2 hc
      refine lv_iload hx hb dX4_laysWord_223 (lv_at hl 3 rfl) ?_
      refine lv_goto (tgt := 229) hx hb dX4_laysWord_225 (by decide) ?_
      exact J229 x2 x6_14 x7_15 x6_14 x2 s_lit_16 s_latest hw H locs ls hP hD hS hl
  obtain ⟨H, hHH⟩ : ∃ H, H = s.heap := ⟨_, rfl⟩
  rw [← hHH] at hP ⊢
  have hS : va_S A s.heap H [] := by rw [hHH]; exact hS
  clear hHH
  generalize ([] : List Loc) = locs at hS ⊢
  unfold P_X4_laysWord at hw
  refine lv_aload_n hx hb dX4_laysWord_0 rfl (lv_at hl 1 rfl) ?_
  refine lv_iload_n hx hb dX4_laysWord_1 rfl (lv_at hl 2 rfl) ?_
  refine lv_iconst (v := 0) hx hb dX4_laysWord_2 (by decide) ?_
  refine gc_Si (As := [.ref r0, .int p1, .int 0]) (rest := []) (wr := [(o, .inr (4, [.ref o_now, .ref o_then, .ref o_past, .int s_kept, .ref o_text, .int s_typed, .int s_thrown, .int s_at, .int s_isFault, .int s_value, .ref o_told, .int s_tolds, .ref o_lit, .ref o_whole, .ref o_goes, .int s_isLaid, .ref o_latest])), (o_lit, .inl (cI, 96, .inl s_lit)), (o_whole, .inl (cI, 8, .inl s_whole)), (o_goes, .inl (cI, 8, .inl s_goes)), (o_latest, .inl (cI, 12, .inl s_latest))]) ⟨hx, hb, hml, hown, ht⟩ (c_X4_of l dC dI cI cJ r0 H.size s_r0 p1 0 _ hw) (va_cwS 3 ht (g_S k_964 k_965 k_5 k_966) rfl rfl rfl (by decide +kernel) ⟨(Nat.le_of_ble_eq_true rfl), (Nat.le_of_ble_eq_true rfl)⟩) hK hP hD hS hA [5] [0, 1, 2, 3, 4] rfl rfl (by decide) rfl hl.1 rfl (Nat.le_of_ble_eq_true rfl) ⟨(Nat.le_of_ble_eq_true rfl), (Nat.le_of_ble_eq_true rfl)⟩ dX4_laysWord_3 (fun r_17 u H locs hw hP hD hS => ?_)
  try dsimp only at hw
  have hP : va_P (dC, dI) vwCl [(o, .inr (4, [.ref o_now, .ref o_then, .ref o_past, .int s_kept, .ref o_text, .int s_typed, .int s_thrown, .int s_at, .int s_isFault, .int s_value, .ref o_told, .int s_tolds, .ref o_lit, .ref o_whole, .ref o_goes, .int s_isLaid, .ref o_latest])), (o_lit, .inl (cI, 96, .inl s_lit)), (o_whole, .inl (cI, 8, .inl s_whole)), (o_goes, .inl (cI, 8, .inl s_goes)), (o_latest, .inl (cI, 12, .inl s_latest)), (r0, .inl (cI, 87, .inl s_r0))] H := hP
  have hD : va_D A [(o, .inr (4, [.ref o_now, .ref o_then, .ref o_past, .int s_kept, .ref o_text, .int s_typed, .int s_thrown, .int s_at, .int s_isFault, .int s_value, .ref o_told, .int s_tolds, .ref o_lit, .ref o_whole, .ref o_goes, .int s_isLaid, .ref o_latest])), (o_lit, .inl (cI, 96, .inl s_lit)), (o_whole, .inl (cI, 8, .inl s_whole)), (o_goes, .inl (cI, 8, .inl s_goes)), (o_latest, .inl (cI, 12, .inl s_latest)), (r0, .inl (cI, 87, .inl s_r0))] := hD
  refine lv_istore_n (lv' := [(3, .int r_17), (0, .ref o), (1, .ref r0), (2, .int p1)]) hx hb dX4_laysWord_6 rfl hl (by decide) rfl (fun ls hl => ?_)
  refine lv_aload_n hx hb dX4_laysWord_7 rfl (lv_at hl 2 rfl) ?_
  refine lv_iload_n hx hb dX4_laysWord_8 rfl (lv_at hl 3 rfl) ?_
  refine lv_iconst (v := 4) hx hb dX4_laysWord_9 (by decide) ?_
  refine gc_Si (As := [.ref r0, .int p1, .int 4]) (rest := []) (wr := [(o, .inr (4, [.ref o_now, .ref o_then, .ref o_past, .int s_kept, .ref o_text, .int s_typed, .int s_thrown, .int s_at, .int s_isFault, .int s_value, .ref o_told, .int s_tolds, .ref o_lit, .ref o_whole, .ref o_goes, .int s_isLaid, .ref o_latest])), (o_lit, .inl (cI, 96, .inl s_lit)), (o_whole, .inl (cI, 8, .inl s_whole)), (o_goes, .inl (cI, 8, .inl s_goes)), (o_latest, .inl (cI, 12, .inl s_latest))]) ⟨hx, hb, hml, hown, ht⟩ (c_X4_of l dC dI cI cJ r0 H.size s_r0 p1 4 _ hw) (va_cwS 3 ht (g_S k_964 k_965 k_5 k_966) rfl rfl rfl (by decide +kernel) ⟨(Nat.le_of_ble_eq_true rfl), (Nat.le_of_ble_eq_true rfl)⟩) hK hP hD hS hA [5] [0, 1, 2, 3, 4] rfl rfl (by decide) rfl hl.1 rfl (Nat.le_of_ble_eq_true rfl) ⟨(Nat.le_of_ble_eq_true rfl), (Nat.le_of_ble_eq_true rfl)⟩ dX4_laysWord_10 (fun r_18 u H locs hw hP hD hS => ?_)
  try dsimp only at hw
  have hP : va_P (dC, dI) vwCl [(o, .inr (4, [.ref o_now, .ref o_then, .ref o_past, .int s_kept, .ref o_text, .int s_typed, .int s_thrown, .int s_at, .int s_isFault, .int s_value, .ref o_told, .int s_tolds, .ref o_lit, .ref o_whole, .ref o_goes, .int s_isLaid, .ref o_latest])), (o_lit, .inl (cI, 96, .inl s_lit)), (o_whole, .inl (cI, 8, .inl s_whole)), (o_goes, .inl (cI, 8, .inl s_goes)), (o_latest, .inl (cI, 12, .inl s_latest)), (r0, .inl (cI, 87, .inl s_r0))] H := hP
  have hD : va_D A [(o, .inr (4, [.ref o_now, .ref o_then, .ref o_past, .int s_kept, .ref o_text, .int s_typed, .int s_thrown, .int s_at, .int s_isFault, .int s_value, .ref o_told, .int s_tolds, .ref o_lit, .ref o_whole, .ref o_goes, .int s_isLaid, .ref o_latest])), (o_lit, .inl (cI, 96, .inl s_lit)), (o_whole, .inl (cI, 8, .inl s_whole)), (o_goes, .inl (cI, 8, .inl s_goes)), (o_latest, .inl (cI, 12, .inl s_latest)), (r0, .inl (cI, 87, .inl s_r0))] := hD
  refine lv_istore (lv' := [(4, .int r_18), (3, .int r_17), (0, .ref o), (1, .ref r0), (2, .int p1)]) hx hb dX4_laysWord_13 hl (by decide) rfl (fun ls hl => ?_)
  refine lv_iload hx hb dX4_laysWord_15 (lv_at hl 0 rfl) ?_
  refine lv_iconst (v := 2) hx hb dX4_laysWord_17 (by decide) ?_
  refine lv_icmp_ne (tgt := 30) hx hb dX4_laysWord_18 (by decide) (fun hc => ?_) (fun hc => ?_)
  · have hw := hw.1 hc
    refine lv_iconst (v := 0) hx hb dX4_laysWord_30 (by decide) ?_
    exact J31 p1 r_17 r_18 0 s_latest hw H locs ls hP hD hS (lv_sub (l' := [(0, .ref o), (1, .ref r0), (2, .int p1), (3, .int r_17), (4, .int r_18)]) hl [2, 3, 4, 1, 0] rfl)
  · have hw := hw.2 hc
    refine lv_aload_n hx hb dX4_laysWord_21 rfl (lv_at hl 2 rfl) ?_
    refine lv_aload_n hx hb dX4_laysWord_22 rfl (lv_at hl 3 rfl) ?_
    refine lv_iload_n hx hb dX4_laysWord_23 rfl (lv_at hl 4 rfl) ?_
    refine gc_Vi (As := [.ref r0, .int p1]) (rest := []) (wr := [(o_lit, .inl (cI, 96, .inl s_lit)), (o_whole, .inl (cI, 8, .inl s_whole)), (o_goes, .inl (cI, 8, .inl s_goes))]) ⟨hx, hb, hml, hown, ht⟩ (c_X4_together l dC dI cI cJ o o_now o_then o_past o_text o_told o_lit o_whole o_goes o_latest r0 H.size s_latest s_r0 s_kept s_typed s_thrown s_at s_isFault s_value s_tolds s_isLaid p1 _ hw) (cwV 2 ht (g_V k_967 k_969 k_s48 k_5 k_970) rfl rfl rfl (by decide +kernel) ⟨(Nat.le_of_ble_eq_true rfl), (Nat.le_of_ble_eq_true rfl)⟩) hK hP hD hS hA [0, 4, 5] [1, 2, 3] rfl rfl (by decide) 0 rfl rfl rfl rfl hl.1 rfl (Nat.le_of_ble_eq_true rfl) ⟨(Nat.le_of_ble_eq_true rfl), (Nat.le_of_ble_eq_true rfl)⟩ dX4_laysWord_24 (fun r_19 u H locs hw hP hD hS => ?_)
    obtain ⟨s_latest_20, rfl⟩ : ∃ z, z = u := ⟨_, rfl⟩
    try dsimp only at hw
    have hP : va_P (dC, dI) vwCl [(o_lit, .inl (cI, 96, .inl s_lit)), (o_whole, .inl (cI, 8, .inl s_whole)), (o_goes, .inl (cI, 8, .inl s_goes)), (o, .inr (4, [.ref o_now, .ref o_then, .ref o_past, .int s_kept, .ref o_text, .int s_typed, .int s_thrown, .int s_at, .int s_isFault, .int s_value, .ref o_told, .int s_tolds, .ref o_lit, .ref o_whole, .ref o_goes, .int s_isLaid, .ref o_latest])), (o_latest, .inl (cI, 12, .inl s_latest_20)), (r0, .inl (cI, 87, .inl s_r0))] H := hP
    have hD : va_D A [(o_lit, .inl (cI, 96, .inl s_lit)), (o_whole, .inl (cI, 8, .inl s_whole)), (o_goes, .inl (cI, 8, .inl s_goes)), (o, .inr (4, [.ref o_now, .ref o_then, .ref o_past, .int s_kept, .ref o_text, .int s_typed, .int s_thrown, .int s_at, .int s_isFault, .int s_value, .ref o_told, .int s_tolds, .ref o_lit, .ref o_whole, .ref o_goes, .int s_isLaid, .ref o_latest])), (o_latest, .inl (cI, 12, .inl s_latest_20)), (r0, .inl (cI, 87, .inl s_r0))] := hD
    refine lv_goto (tgt := 31) hx hb dX4_laysWord_27 (by decide) ?_
    exact J31 p1 r_17 r_18 r_19 s_latest_20 hw H locs ls (hP.sub (ws' := [(o, .inr (4, [.ref o_now, .ref o_then, .ref o_past, .int s_kept, .ref o_text, .int s_typed, .int s_thrown, .int s_at, .int s_isFault, .int s_value, .ref o_told, .int s_tolds, .ref o_lit, .ref o_whole, .ref o_goes, .int s_isLaid, .ref o_latest])), (o_lit, .inl (cI, 96, .inl s_lit)), (o_whole, .inl (cI, 8, .inl s_whole)), (o_goes, .inl (cI, 8, .inl s_goes)), (o_latest, .inl (cI, 12, .inl s_latest_20)), (r0, .inl (cI, 87, .inl s_r0))]) [3, 0, 1, 2, 4, 5] rfl) (hD.sub (ws' := [(o, .inr (4, [.ref o_now, .ref o_then, .ref o_past, .int s_kept, .ref o_text, .int s_typed, .int s_thrown, .int s_at, .int s_isFault, .int s_value, .ref o_told, .int s_tolds, .ref o_lit, .ref o_whole, .ref o_goes, .int s_isLaid, .ref o_latest])), (o_lit, .inl (cI, 96, .inl s_lit)), (o_whole, .inl (cI, 8, .inl s_whole)), (o_goes, .inl (cI, 8, .inl s_goes)), (o_latest, .inl (cI, 12, .inl s_latest_20)), (r0, .inl (cI, 87, .inl s_r0))]) [3, 0, 1, 2, 4, 5] (by decide) rfl) hS (lv_sub (l' := [(0, .ref o), (1, .ref r0), (2, .int p1), (3, .int r_17), (4, .int r_18)]) hl [2, 3, 4, 1, 0] rfl)
abbrev rm_X4_lays : Room := { frames := 6, cells := 0, slots := 0, locals := 147 }
set_option maxHeartbeats 4000000 in
set_option maxRecDepth 100000 in
theorem c_X4_lays (l : Launch) (dC : Nat → ClassId) (dI : Nat → Nat → Nat) (cI cJ : ClassId) (o o_now o_then o_past o_text o_told o_lit o_whole o_goes o_latest r0 : Nat) (sz : Nat) (s_lit : Nat → Int32) (s_whole : Nat → Int32) (s_goes : Nat → Int32) (s_latest : Nat → Int32) (s_r0 : Nat → Int32) (s_kept : Int32) (s_typed : Int32) (s_thrown : Int32) (s_at : Int32) (s_isFault : Int32) (s_value : Int32) (s_tolds : Int32) (s_isLaid : Int32)  (Q : (Nat → Int32) → (Nat → Int32) → (Nat → Int32) → (Nat → Int32) → Prop) (hw : P_X4_lays s_lit s_whole s_goes s_latest s_r0 Q) : Met l yX4_lays (Cond.code yX4_lays cX4_lays 3 none :: TBL) rm_X4_lays (gPc (dC, dI) vwCl (gTy cI cJ) [.ref o, .ref r0] [(o, .inr (4, [.ref o_now, .ref o_then, .ref o_past, .int s_kept, .ref o_text, .int s_typed, .int s_thrown, .int s_at, .int s_isFault, .int s_value, .ref o_told, .int s_tolds, .ref o_lit, .ref o_whole, .ref o_goes, .int s_isLaid, .ref o_latest])), (o_lit, .inl (cI, 96, .inl s_lit)), (o_whole, .inl (cI, 8, .inl s_whole)), (o_goes, .inl (cI, 8, .inl s_goes)), (o_latest, .inl (cI, 12, .inl s_latest)), (r0, .inl (cI, 87, .inl s_r0))] sz) (va_Qv (fun (u : (Nat → Int32) × (Nat → Int32) × (Nat → Int32) × (Nat → Int32)) => Q u.1 u.2.1 u.2.2.1 u.2.2.2) (gB (dC, dI) vwCl (gTy cI cJ) (va_A [(o, .inr (4, [.ref o_now, .ref o_then, .ref o_past, .int s_kept, .ref o_text, .int s_typed, .int s_thrown, .int s_at, .int s_isFault, .int s_value, .ref o_told, .int s_tolds, .ref o_lit, .ref o_whole, .ref o_goes, .int s_isLaid, .ref o_latest])), (o_lit, .inl (cI, 96, .inl s_lit)), (o_whole, .inl (cI, 8, .inl s_whole)), (o_goes, .inl (cI, 8, .inl s_goes)), (o_latest, .inl (cI, 12, .inl s_latest)), (r0, .inl (cI, 87, .inl s_r0))] sz) (fun (u : (Nat → Int32) × (Nat → Int32) × (Nat → Int32) × (Nat → Int32)) => [(o, .inr (4, [.ref o_now, .ref o_then, .ref o_past, .int s_kept, .ref o_text, .int s_typed, .int s_thrown, .int s_at, .int s_isFault, .int s_value, .ref o_told, .int s_tolds, .ref o_lit, .ref o_whole, .ref o_goes, .int s_isLaid, .ref o_latest])), (o_lit, .inl (cI, 96, .inl u.1)), (o_whole, .inl (cI, 8, .inl u.2.1)), (o_goes, .inl (cI, 8, .inl u.2.2.1)), (o_latest, .inl (cI, 12, .inl u.2.2.2)), (r0, .inl (cI, 87, .inl s_r0))])) (va_A [(o, .inr (4, [.ref o_now, .ref o_then, .ref o_past, .int s_kept, .ref o_text, .int s_typed, .int s_thrown, .int s_at, .int s_isFault, .int s_value, .ref o_told, .int s_tolds, .ref o_lit, .ref o_whole, .ref o_goes, .int s_isLaid, .ref o_latest])), (o_lit, .inl (cI, 96, .inl s_lit)), (o_whole, .inl (cI, 8, .inl s_whole)), (o_goes, .inl (cI, 8, .inl s_goes)), (o_latest, .inl (cI, 12, .inl s_latest)), (r0, .inl (cI, 87, .inl s_r0))] sz)) 0 0 (va_A [(o, .inr (4, [.ref o_now, .ref o_then, .ref o_past, .int s_kept, .ref o_text, .int s_typed, .int s_thrown, .int s_at, .int s_isFault, .int s_value, .ref o_told, .int s_tolds, .ref o_lit, .ref o_whole, .ref o_goes, .int s_isLaid, .ref o_latest])), (o_lit, .inl (cI, 96, .inl s_lit)), (o_whole, .inl (cI, 8, .inl s_whole)), (o_goes, .inl (cI, 8, .inl s_goes)), (o_latest, .inl (cI, 12, .inl s_latest)), (r0, .inl (cI, 87, .inl s_r0))] sz) := by
  refine Met.ofW (cc := cX4_lays) (maxL := 3) (ret := none) (by decide) rfl ?_
  intro p e s m args below meth c s₁ B hml hv
  obtain ⟨rfl, hsz, hP, hK, hD0⟩ := hv
  have hx := B.exec
  have hb := B.bytes
  have hr := B.returns
  have hts := atoms_spec (ws := Cond.code yX4_lays cX4_lays 3 none :: TBL) B.pre
  have ht : ∀ w ∈ TBL, w.before ([.ref o, .ref r0] : List Value).toArray s = true := fun w h => hts w (List.mem_cons_of_mem _ h)
  clear hts
  have hown : s.vm.findClass RX4 = some m.cls := findClass_of_methodNamed B.named
  have hlocks := B.notSynchronized
  clear B
  subst hsz
  have hD := hD0.self (sz := s.heap.size)
  clear hD0
  generalize hAe : va_A [(o, .inr (4, [.ref o_now, .ref o_then, .ref o_past, .int s_kept, .ref o_text, .int s_typed, .int s_thrown, .int s_at, .int s_isFault, .int s_value, .ref o_told, .int s_tolds, .ref o_lit, .ref o_whole, .ref o_goes, .int s_isLaid, .ref o_latest])), (o_lit, .inl (cI, 96, .inl s_lit)), (o_whole, .inl (cI, 8, .inl s_whole)), (o_goes, .inl (cI, 8, .inl s_goes)), (o_latest, .inl (cI, 12, .inl s_latest)), (r0, .inl (cI, 87, .inl s_r0))] s.heap.size = A at hD ⊢
  have hA : ∀ q : Nat, s.heap.size ≤ q → A q := fun q h => by rw [← hAe]; exact Or.inr h
  clear hAe
  have hS : va_S A s.heap s.heap [] := va_S.rf
  have hP : va_P (dC, dI) vwCl [(o, .inr (4, [.ref o_now, .ref o_then, .ref o_past, .int s_kept, .ref o_text, .int s_typed, .int s_thrown, .int s_at, .int s_isFault, .int s_value, .ref o_told, .int s_tolds, .ref o_lit, .ref o_whole, .ref o_goes, .int s_isLaid, .ref o_latest])), (o_lit, .inl (cI, 96, .inl s_lit)), (o_whole, .inl (cI, 8, .inl s_whole)), (o_goes, .inl (cI, 8, .inl s_goes)), (o_latest, .inl (cI, 12, .inl s_latest)), (r0, .inl (cI, 87, .inl s_r0))] s.heap := hP
  have hl := lv_entry ([.ref o, .ref r0]) (n := 3) (Nat.le_of_ble_eq_true rfl)
  rw [lg_entry_eq]
  generalize (lg_sl ([.ref o, .ref r0]) ++ List.replicate (3 - (lg_sl ([.ref o, .ref r0])).length) Slot.unset).toArray = ls at hl ⊢
  have hl : lv_has ls 3 [(0, .ref o), (1, .ref r0)] := hl
  generalize hQQ : MQ below _ _ _ 0 0 A = QQ
  show W p l e rm_X4_lays s m ([.ref o, .ref r0] : List Value).toArray below meth c s.heap [] 0 0 QQ (F0 m 0 ls [])
  have L2 : ∀ (n : Nat) (x2 : Int32) (s_lit : Nat → Int32) (s_whole : Nat → Int32) (s_goes : Nat → Int32) (s_latest : Nat → Int32), P_X4_lays_L2 s_r0 Q n x2 s_lit s_whole s_goes s_latest → ∀ (H : Heap) (locs : List Loc) (ls : Array Slot), va_P (dC, dI) vwCl [(o, .inr (4, [.ref o_now, .ref o_then, .ref o_past, .int s_kept, .ref o_text, .int s_typed, .int s_thrown, .int s_at, .int s_isFault, .int s_value, .ref o_told, .int s_tolds, .ref o_lit, .ref o_whole, .ref o_goes, .int s_isLaid, .ref o_latest])), (o_lit, .inl (cI, 96, .inl s_lit)), (o_whole, .inl (cI, 8, .inl s_whole)), (o_goes, .inl (cI, 8, .inl s_goes)), (o_latest, .inl (cI, 12, .inl s_latest)), (r0, .inl (cI, 87, .inl s_r0))] H → va_D A [(o, .inr (4, [.ref o_now, .ref o_then, .ref o_past, .int s_kept, .ref o_text, .int s_typed, .int s_thrown, .int s_at, .int s_isFault, .int s_value, .ref o_told, .int s_tolds, .ref o_lit, .ref o_whole, .ref o_goes, .int s_isLaid, .ref o_latest])), (o_lit, .inl (cI, 96, .inl s_lit)), (o_whole, .inl (cI, 8, .inl s_whole)), (o_goes, .inl (cI, 8, .inl s_goes)), (o_latest, .inl (cI, 12, .inl s_latest)), (r0, .inl (cI, 87, .inl s_r0))] → va_S A s.heap H locs → lv_has ls 3 [(0, .ref o), (1, .ref r0), (2, .int x2)] → W p l e rm_X4_lays s m ([.ref o, .ref r0] : List Value).toArray below meth c H locs 0 0 QQ (F0 m 2 ls []) := by
    intro n
    induction n with
    | zero => intro x2 s_lit s_whole s_goes s_latest hw; rw [P_X4_lays_L2_z] at hw; exact hw.elim
    | succ n ih =>
      intro x2 s_lit s_whole s_goes s_latest hw
      rw [P_X4_lays_L2_s] at hw
      generalize hrec : P_X4_lays_L2 s_r0 Q n = rec2 at ih hw
      intro H locs ls hP hD hS hl
      unfold B_X4_lays_L2 at hw
      refine lv_iload_n hx hb dX4_lays_2 rfl (lv_at hl 2 rfl) ?_
      refine lv_aload_n hx hb dX4_lays_3 rfl (lv_at hl 1 rfl) ?_
      refine lv_iconst (v := 2) hx hb dX4_lays_4 (by decide) ?_
      refine gv_iald hx hb hK hP 5 0 rfl rfl (k := 2) (by decide) (by unfold vp_in; decide) dX4_lays_5 ?_
      refine lv_icmp_ge (tgt := 21) hx hb dX4_lays_6 (by decide) (fun hc => ?_) (fun hc => ?_)
      · have hw := hw.1 hc
        rw [← hQQ]
        exact g_retv (u := (s_lit, s_whole, s_goes, s_latest)) hx hb hr hlocks hw hP hK hD hS dX4_lays_21
      · have hw := hw.2 hc
        refine lv_aload_n hx hb dX4_lays_9 rfl (lv_at hl 0 rfl) ?_
        refine lv_aload_n hx hb dX4_lays_10 rfl (lv_at hl 1 rfl) ?_
        refine lv_iload_n hx hb dX4_lays_11 rfl (lv_at hl 2 rfl) ?_
        refine gc_Vv (As := [.ref r0, .int x2]) (rest := []) (wr := []) ⟨hx, hb, hml, hown, ht⟩ (c_X4_laysWord l dC dI cI cJ o o_now o_then o_past o_text o_told o_lit o_whole o_goes o_latest r0 H.size s_lit s_whole s_goes s_latest s_r0 s_kept s_typed s_thrown s_at s_isFault s_value s_tolds s_isLaid x2 _ hw) (cwV 2 ht (g_V k_960 k_962 k_s47 k_5 k_963) rfl rfl rfl (by decide +kernel) ⟨(Nat.le_of_ble_eq_true rfl), (Nat.le_of_ble_eq_true rfl)⟩) hK hP hD hS hA [0, 1, 2, 3, 4, 5] [] rfl rfl (by decide) 0 rfl rfl rfl rfl hl.1 rfl (Nat.le_of_ble_eq_true rfl) ⟨(Nat.le_of_ble_eq_true rfl), (Nat.le_of_ble_eq_true rfl)⟩ dX4_lays_12 (fun u H locs hw hP hD hS => ?_)
        obtain ⟨s_lit_1, s_whole_2, s_goes_3, s_latest_4⟩ := u
        try dsimp only at hw
        have hP : va_P (dC, dI) vwCl [(o, .inr (4, [.ref o_now, .ref o_then, .ref o_past, .int s_kept, .ref o_text, .int s_typed, .int s_thrown, .int s_at, .int s_isFault, .int s_value, .ref o_told, .int s_tolds, .ref o_lit, .ref o_whole, .ref o_goes, .int s_isLaid, .ref o_latest])), (o_lit, .inl (cI, 96, .inl s_lit_1)), (o_whole, .inl (cI, 8, .inl s_whole_2)), (o_goes, .inl (cI, 8, .inl s_goes_3)), (o_latest, .inl (cI, 12, .inl s_latest_4)), (r0, .inl (cI, 87, .inl s_r0))] H := hP
        have hD : va_D A [(o, .inr (4, [.ref o_now, .ref o_then, .ref o_past, .int s_kept, .ref o_text, .int s_typed, .int s_thrown, .int s_at, .int s_isFault, .int s_value, .ref o_told, .int s_tolds, .ref o_lit, .ref o_whole, .ref o_goes, .int s_isLaid, .ref o_latest])), (o_lit, .inl (cI, 96, .inl s_lit_1)), (o_whole, .inl (cI, 8, .inl s_whole_2)), (o_goes, .inl (cI, 8, .inl s_goes_3)), (o_latest, .inl (cI, 12, .inl s_latest_4)), (r0, .inl (cI, 87, .inl s_r0))] := hD
        refine lv_iinc (v := (x2 + 1)) (lv' := [(2, .int (x2 + 1)), (0, .ref o), (1, .ref r0)]) hx hb dX4_lays_15 hl (k := 2) rfl rfl (by decide) rfl (fun ls hl => ?_)
        refine lv_goto (tgt := 2) hx hb dX4_lays_18 (by decide) ?_
        exact ih (x2 + 1) s_lit_1 s_whole_2 s_goes_3 s_latest_4 hw H locs ls hP hD hS (lv_sub (l' := [(0, .ref o), (1, .ref r0), (2, .int (x2 + 1))]) hl [1, 2, 0] rfl)
  obtain ⟨H, hHH⟩ : ∃ H, H = s.heap := ⟨_, rfl⟩
  rw [← hHH] at hP ⊢
  have hS : va_S A s.heap H [] := by rw [hHH]; exact hS
  clear hHH
  generalize ([] : List Loc) = locs at hS ⊢
  unfold P_X4_lays at hw
  refine lv_iconst (v := 0) hx hb dX4_lays_0 (by decide) ?_
  refine lv_istore_n (lv' := [(2, .int 0), (0, .ref o), (1, .ref r0)]) hx hb dX4_lays_1 rfl hl (by decide) rfl (fun ls hl => ?_)
  obtain ⟨n, hw⟩ := hw
  exact L2  n 0 s_lit s_whole s_goes s_latest hw H locs ls hP hD hS (lv_sub (l' := [(0, .ref o), (1, .ref r0), (2, .int 0)]) hl [1, 2, 0] rfl)
abbrev rm_X4_laysNow : Room := { frames := 7, cells := 0, slots := 0, locals := 169 }
set_option maxHeartbeats 4000000 in
set_option maxRecDepth 100000 in
theorem c_X4_laysNow (l : Launch) (dC : Nat → ClassId) (dI : Nat → Nat → Nat) (cI cJ : ClassId) (o o_now o_then o_past o_text o_told o_lit o_whole o_goes o_latest : Nat) (sz : Nat) (s_now : Nat → Int32) (s_lit : Nat → Int32) (s_whole : Nat → Int32) (s_goes : Nat → Int32) (s_isLaid : Int32) (s_latest : Nat → Int32) (s_kept : Int32) (s_typed : Int32) (s_thrown : Int32) (s_at : Int32) (s_isFault : Int32) (s_value : Int32) (s_tolds : Int32)  (Q : (Nat → Int32) → (Nat → Int32) → (Nat → Int32) → Int32 → (Nat → Int32) → Prop) (hw : P_X4_laysNow s_now s_lit s_whole s_goes s_isLaid s_latest Q) : Met l yX4_laysNow (Cond.code yX4_laysNow cX4_laysNow 1 none :: TBL) rm_X4_laysNow (gPc (dC, dI) vwCl (gTy cI cJ) [.ref o] [(o, .inr (4, [.ref o_now, .ref o_then, .ref o_past, .int s_kept, .ref o_text, .int s_typed, .int s_thrown, .int s_at, .int s_isFault, .int s_value, .ref o_told, .int s_tolds, .ref o_lit, .ref o_whole, .ref o_goes, .int s_isLaid, .ref o_latest])), (o_now, .inl (cI, 87, .inl s_now)), (o_lit, .inl (cI, 96, .inl s_lit)), (o_whole, .inl (cI, 8, .inl s_whole)), (o_goes, .inl (cI, 8, .inl s_goes)), (o_latest, .inl (cI, 12, .inl s_latest))] sz) (va_Qv (fun (u : (Nat → Int32) × (Nat → Int32) × (Nat → Int32) × Int32 × (Nat → Int32)) => Q u.1 u.2.1 u.2.2.1 u.2.2.2.1 u.2.2.2.2) (gB (dC, dI) vwCl (gTy cI cJ) (va_A [(o, .inr (4, [.ref o_now, .ref o_then, .ref o_past, .int s_kept, .ref o_text, .int s_typed, .int s_thrown, .int s_at, .int s_isFault, .int s_value, .ref o_told, .int s_tolds, .ref o_lit, .ref o_whole, .ref o_goes, .int s_isLaid, .ref o_latest])), (o_now, .inl (cI, 87, .inl s_now)), (o_lit, .inl (cI, 96, .inl s_lit)), (o_whole, .inl (cI, 8, .inl s_whole)), (o_goes, .inl (cI, 8, .inl s_goes)), (o_latest, .inl (cI, 12, .inl s_latest))] sz) (fun (u : (Nat → Int32) × (Nat → Int32) × (Nat → Int32) × Int32 × (Nat → Int32)) => [(o, .inr (4, [.ref o_now, .ref o_then, .ref o_past, .int s_kept, .ref o_text, .int s_typed, .int s_thrown, .int s_at, .int s_isFault, .int s_value, .ref o_told, .int s_tolds, .ref o_lit, .ref o_whole, .ref o_goes, .int u.2.2.2.1, .ref o_latest])), (o_now, .inl (cI, 87, .inl s_now)), (o_lit, .inl (cI, 96, .inl u.1)), (o_whole, .inl (cI, 8, .inl u.2.1)), (o_goes, .inl (cI, 8, .inl u.2.2.1)), (o_latest, .inl (cI, 12, .inl u.2.2.2.2))])) (va_A [(o, .inr (4, [.ref o_now, .ref o_then, .ref o_past, .int s_kept, .ref o_text, .int s_typed, .int s_thrown, .int s_at, .int s_isFault, .int s_value, .ref o_told, .int s_tolds, .ref o_lit, .ref o_whole, .ref o_goes, .int s_isLaid, .ref o_latest])), (o_now, .inl (cI, 87, .inl s_now)), (o_lit, .inl (cI, 96, .inl s_lit)), (o_whole, .inl (cI, 8, .inl s_whole)), (o_goes, .inl (cI, 8, .inl s_goes)), (o_latest, .inl (cI, 12, .inl s_latest))] sz)) 0 0 (va_A [(o, .inr (4, [.ref o_now, .ref o_then, .ref o_past, .int s_kept, .ref o_text, .int s_typed, .int s_thrown, .int s_at, .int s_isFault, .int s_value, .ref o_told, .int s_tolds, .ref o_lit, .ref o_whole, .ref o_goes, .int s_isLaid, .ref o_latest])), (o_now, .inl (cI, 87, .inl s_now)), (o_lit, .inl (cI, 96, .inl s_lit)), (o_whole, .inl (cI, 8, .inl s_whole)), (o_goes, .inl (cI, 8, .inl s_goes)), (o_latest, .inl (cI, 12, .inl s_latest))] sz) := by
  refine Met.ofW (cc := cX4_laysNow) (maxL := 1) (ret := none) (by decide) rfl ?_
  intro p e s m args below meth c s₁ B hml hv
  obtain ⟨rfl, hsz, hP, hK, hD0⟩ := hv
  have hx := B.exec
  have hb := B.bytes
  have hr := B.returns
  have hts := atoms_spec (ws := Cond.code yX4_laysNow cX4_laysNow 1 none :: TBL) B.pre
  have ht : ∀ w ∈ TBL, w.before ([.ref o] : List Value).toArray s = true := fun w h => hts w (List.mem_cons_of_mem _ h)
  clear hts
  have hown : s.vm.findClass RX4 = some m.cls := findClass_of_methodNamed B.named
  have hlocks := B.notSynchronized
  clear B
  subst hsz
  have hD := hD0.self (sz := s.heap.size)
  clear hD0
  generalize hAe : va_A [(o, .inr (4, [.ref o_now, .ref o_then, .ref o_past, .int s_kept, .ref o_text, .int s_typed, .int s_thrown, .int s_at, .int s_isFault, .int s_value, .ref o_told, .int s_tolds, .ref o_lit, .ref o_whole, .ref o_goes, .int s_isLaid, .ref o_latest])), (o_now, .inl (cI, 87, .inl s_now)), (o_lit, .inl (cI, 96, .inl s_lit)), (o_whole, .inl (cI, 8, .inl s_whole)), (o_goes, .inl (cI, 8, .inl s_goes)), (o_latest, .inl (cI, 12, .inl s_latest))] s.heap.size = A at hD ⊢
  have hA : ∀ q : Nat, s.heap.size ≤ q → A q := fun q h => by rw [← hAe]; exact Or.inr h
  clear hAe
  have hS : va_S A s.heap s.heap [] := va_S.rf
  have hP : va_P (dC, dI) vwCl [(o, .inr (4, [.ref o_now, .ref o_then, .ref o_past, .int s_kept, .ref o_text, .int s_typed, .int s_thrown, .int s_at, .int s_isFault, .int s_value, .ref o_told, .int s_tolds, .ref o_lit, .ref o_whole, .ref o_goes, .int s_isLaid, .ref o_latest])), (o_now, .inl (cI, 87, .inl s_now)), (o_lit, .inl (cI, 96, .inl s_lit)), (o_whole, .inl (cI, 8, .inl s_whole)), (o_goes, .inl (cI, 8, .inl s_goes)), (o_latest, .inl (cI, 12, .inl s_latest))] s.heap := hP
  have hl := lv_entry ([.ref o]) (n := 1) (Nat.le_of_ble_eq_true rfl)
  rw [lg_entry_eq]
  generalize (lg_sl ([.ref o]) ++ List.replicate (1 - (lg_sl ([.ref o])).length) Slot.unset).toArray = ls at hl ⊢
  have hl : lv_has ls 1 [(0, .ref o)] := hl
  generalize hQQ : MQ below _ _ _ 0 0 A = QQ
  show W p l e rm_X4_laysNow s m ([.ref o] : List Value).toArray below meth c s.heap [] 0 0 QQ (F0 m 0 ls [])
  obtain ⟨H, hHH⟩ : ∃ H, H = s.heap := ⟨_, rfl⟩
  rw [← hHH] at hP ⊢
  have hS : va_S A s.heap H [] := by rw [hHH]; exact hS
  clear hHH
  generalize ([] : List Loc) = locs at hS ⊢
  unfold P_X4_laysNow at hw
  refine lv_aload_n hx hb dX4_laysNow_0 rfl (lv_at hl 0 rfl) ?_
  refine va_get (D := (dC, dI)) (ci := 4) (v := .int s_isLaid) (C := RX4) (T := TX4) (N := 17) hx hb ht i_X4 hown hK hP 0 rfl rfl 15 (by decide) (ht _ k_833) (fun _ h9 => h9) rfl dX4_laysNow_1 ?_
  refine lv_if_ne (tgt := 20) hx hb dX4_laysNow_4 (by decide) (fun hc => ?_) (fun hc => ?_)
  · have hw := hw.1 hc
    rw [← hQQ]
    exact g_retv (u := (s_lit, s_whole, s_goes, s_isLaid, s_latest)) hx hb hr hlocks hw hP hK hD hS dX4_laysNow_20
  · have hw := hw.2 hc
    refine lv_aload_n hx hb dX4_laysNow_7 rfl (lv_at hl 0 rfl) ?_
    refine lv_aload_n hx hb dX4_laysNow_8 rfl (lv_at hl 0 rfl) ?_
    refine va_get (D := (dC, dI)) (ci := 4) (v := .ref o_now) (C := RX4) (T := TX4) (N := 17) hx hb ht i_X4 hown hK hP 0 rfl rfl 0 (by decide) (ht _ k_818) (fun _ h9 => h9) rfl dX4_laysNow_9 ?_
    refine gc_Vv (As := [.ref o_now]) (rest := []) (wr := []) ⟨hx, hb, hml, hown, ht⟩ (c_X4_lays l dC dI cI cJ o o_now o_then o_past o_text o_told o_lit o_whole o_goes o_latest o_now H.size s_lit s_whole s_goes s_latest s_now s_kept s_typed s_thrown s_at s_isFault s_value s_tolds s_isLaid _ hw) (cwV 1 ht (g_V k_956 k_958 k_s46 k_5 k_959) rfl rfl rfl (by decide +kernel) ⟨(Nat.le_of_ble_eq_true rfl), (Nat.le_of_ble_eq_true rfl)⟩) hK hP hD hS hA [0, 2, 3, 4, 5, 1] [] rfl rfl (by decide) 0 rfl rfl rfl rfl hl.1 rfl (Nat.le_of_ble_eq_true rfl) ⟨(Nat.le_of_ble_eq_true rfl), (Nat.le_of_ble_eq_true rfl)⟩ dX4_laysNow_12 (fun u H locs hw hP hD hS => ?_)
    obtain ⟨s_lit_1, s_whole_2, s_goes_3, s_latest_4⟩ := u
    try dsimp only at hw
    have hP : va_P (dC, dI) vwCl [(o, .inr (4, [.ref o_now, .ref o_then, .ref o_past, .int s_kept, .ref o_text, .int s_typed, .int s_thrown, .int s_at, .int s_isFault, .int s_value, .ref o_told, .int s_tolds, .ref o_lit, .ref o_whole, .ref o_goes, .int s_isLaid, .ref o_latest])), (o_lit, .inl (cI, 96, .inl s_lit_1)), (o_whole, .inl (cI, 8, .inl s_whole_2)), (o_goes, .inl (cI, 8, .inl s_goes_3)), (o_latest, .inl (cI, 12, .inl s_latest_4)), (o_now, .inl (cI, 87, .inl s_now))] H := hP
    have hD : va_D A [(o, .inr (4, [.ref o_now, .ref o_then, .ref o_past, .int s_kept, .ref o_text, .int s_typed, .int s_thrown, .int s_at, .int s_isFault, .int s_value, .ref o_told, .int s_tolds, .ref o_lit, .ref o_whole, .ref o_goes, .int s_isLaid, .ref o_latest])), (o_lit, .inl (cI, 96, .inl s_lit_1)), (o_whole, .inl (cI, 8, .inl s_whole_2)), (o_goes, .inl (cI, 8, .inl s_goes_3)), (o_latest, .inl (cI, 12, .inl s_latest_4)), (o_now, .inl (cI, 87, .inl s_now))] := hD
    refine lv_aload_n hx hb dX4_laysNow_15 rfl (lv_at hl 0 rfl) ?_
    refine lv_iconst (v := 1) hx hb dX4_laysNow_16 (by decide) ?_
    refine va_put (D := (dC, dI)) (ci := 4) (v := .int 1) (ty := .boolean) (C := RX4) (T := TX4) (N := 17) hx hb ht i_X4 tyX4 tyX4_ok nmX4 hown hK hP hD hS 0 rfl rfl 15 (by decide) (ht _ k_833) (fun _ h9 => h9) rfl (by decide +kernel) rfl rfl (Nat.le_of_ble_eq_true rfl) dX4_laysNow_17 (fun H locs hP hD hS => ?_)
    have hP : va_P (dC, dI) vwCl [(o, .inr (4, [.ref o_now, .ref o_then, .ref o_past, .int s_kept, .ref o_text, .int s_typed, .int s_thrown, .int s_at, .int s_isFault, .int s_value, .ref o_told, .int s_tolds, .ref o_lit, .ref o_whole, .ref o_goes, .int 1, .ref o_latest])), (o_lit, .inl (cI, 96, .inl s_lit_1)), (o_whole, .inl (cI, 8, .inl s_whole_2)), (o_goes, .inl (cI, 8, .inl s_goes_3)), (o_latest, .inl (cI, 12, .inl s_latest_4)), (o_now, .inl (cI, 87, .inl s_now))] H := hP
    have hD : va_D A [(o, .inr (4, [.ref o_now, .ref o_then, .ref o_past, .int s_kept, .ref o_text, .int s_typed, .int s_thrown, .int s_at, .int s_isFault, .int s_value, .ref o_told, .int s_tolds, .ref o_lit, .ref o_whole, .ref o_goes, .int 1, .ref o_latest])), (o_lit, .inl (cI, 96, .inl s_lit_1)), (o_whole, .inl (cI, 8, .inl s_whole_2)), (o_goes, .inl (cI, 8, .inl s_goes_3)), (o_latest, .inl (cI, 12, .inl s_latest_4)), (o_now, .inl (cI, 87, .inl s_now))] := hD
    rw [← hQQ]
    exact g_retv (u := (s_lit_1, s_whole_2, s_goes_3, 1, s_latest_4)) hx hb hr hlocks hw (hP.sub (ws' := [(o, .inr (4, [.ref o_now, .ref o_then, .ref o_past, .int s_kept, .ref o_text, .int s_typed, .int s_thrown, .int s_at, .int s_isFault, .int s_value, .ref o_told, .int s_tolds, .ref o_lit, .ref o_whole, .ref o_goes, .int 1, .ref o_latest])), (o_now, .inl (cI, 87, .inl s_now)), (o_lit, .inl (cI, 96, .inl s_lit_1)), (o_whole, .inl (cI, 8, .inl s_whole_2)), (o_goes, .inl (cI, 8, .inl s_goes_3)), (o_latest, .inl (cI, 12, .inl s_latest_4))]) [0, 5, 1, 2, 3, 4] rfl) hK (hD.sub (ws' := [(o, .inr (4, [.ref o_now, .ref o_then, .ref o_past, .int s_kept, .ref o_text, .int s_typed, .int s_thrown, .int s_at, .int s_isFault, .int s_value, .ref o_told, .int s_tolds, .ref o_lit, .ref o_whole, .ref o_goes, .int 1, .ref o_latest])), (o_now, .inl (cI, 87, .inl s_now)), (o_lit, .inl (cI, 96, .inl s_lit_1)), (o_whole, .inl (cI, 8, .inl s_whole_2)), (o_goes, .inl (cI, 8, .inl s_goes_3)), (o_latest, .inl (cI, 12, .inl s_latest_4))]) [0, 5, 1, 2, 3, 4] (by decide) rfl) hS dX4_laysNow_20
abbrev rm_X4_isSeen : Room := { frames := 0, cells := 0, slots := 0, locals := 0 }
set_option maxHeartbeats 4000000 in
set_option maxRecDepth 100000 in
theorem c_X4_isSeen (l : Launch) (dC : Nat → ClassId) (dI : Nat → Nat → Nat) (cI cJ : ClassId) (o o_now o_then o_past o_text o_told o_lit o_whole o_goes o_latest : Nat) (sz : Nat) (s_lit : Nat → Int32) (s_goes : Nat → Int32) (s_kept : Int32) (s_typed : Int32) (s_thrown : Int32) (s_at : Int32) (s_isFault : Int32) (s_value : Int32) (s_tolds : Int32) (s_isLaid : Int32) (p0 : Int32) (p1 : Int32) (p2 : Int32) (Q : Int32 → Prop) (hw : P_X4_isSeen p0 p1 p2 s_lit s_goes Q) : Met l yX4_isSeen (Cond.code yX4_isSeen cX4_isSeen 5 (some .boolean) :: TBL) rm_X4_isSeen (gPc (dC, dI) vwCl (gTy cI cJ) [.ref o, .int p0, .int p1, .int p2] [(o, .inr (4, [.ref o_now, .ref o_then, .ref o_past, .int s_kept, .ref o_text, .int s_typed, .int s_thrown, .int s_at, .int s_isFault, .int s_value, .ref o_told, .int s_tolds, .ref o_lit, .ref o_whole, .ref o_goes, .int s_isLaid, .ref o_latest])), (o_lit, .inl (cI, 96, .inl s_lit)), (o_goes, .inl (cI, 8, .inl s_goes))] sz) (va_Qi (fun (r : Int32) (u : Unit) => Q r ) (gB (dC, dI) vwCl (gTy cI cJ) (va_A [(o, .inr (4, [.ref o_now, .ref o_then, .ref o_past, .int s_kept, .ref o_text, .int s_typed, .int s_thrown, .int s_at, .int s_isFault, .int s_value, .ref o_told, .int s_tolds, .ref o_lit, .ref o_whole, .ref o_goes, .int s_isLaid, .ref o_latest])), (o_lit, .inl (cI, 96, .inl s_lit)), (o_goes, .inl (cI, 8, .inl s_goes))] sz) (fun (u : Unit) => [(o, .inr (4, [.ref o_now, .ref o_then, .ref o_past, .int s_kept, .ref o_text, .int s_typed, .int s_thrown, .int s_at, .int s_isFault, .int s_value, .ref o_told, .int s_tolds, .ref o_lit, .ref o_whole, .ref o_goes, .int s_isLaid, .ref o_latest])), (o_lit, .inl (cI, 96, .inl s_lit)), (o_goes, .inl (cI, 8, .inl s_goes))])) (va_A [(o, .inr (4, [.ref o_now, .ref o_then, .ref o_past, .int s_kept, .ref o_text, .int s_typed, .int s_thrown, .int s_at, .int s_isFault, .int s_value, .ref o_told, .int s_tolds, .ref o_lit, .ref o_whole, .ref o_goes, .int s_isLaid, .ref o_latest])), (o_lit, .inl (cI, 96, .inl s_lit)), (o_goes, .inl (cI, 8, .inl s_goes))] sz)) 0 0 (va_A [(o, .inr (4, [.ref o_now, .ref o_then, .ref o_past, .int s_kept, .ref o_text, .int s_typed, .int s_thrown, .int s_at, .int s_isFault, .int s_value, .ref o_told, .int s_tolds, .ref o_lit, .ref o_whole, .ref o_goes, .int s_isLaid, .ref o_latest])), (o_lit, .inl (cI, 96, .inl s_lit)), (o_goes, .inl (cI, 8, .inl s_goes))] sz) := by
  refine Met.ofW (cc := cX4_isSeen) (maxL := 5) (ret := (some .boolean)) (by decide) rfl ?_
  intro p e s m args below meth c s₁ B hml hv
  obtain ⟨rfl, hsz, hP, hK, hD0⟩ := hv
  have hx := B.exec
  have hb := B.bytes
  have hr := B.returns
  have hts := atoms_spec (ws := Cond.code yX4_isSeen cX4_isSeen 5 (some .boolean) :: TBL) B.pre
  have ht : ∀ w ∈ TBL, w.before ([.ref o, .int p0, .int p1, .int p2] : List Value).toArray s = true := fun w h => hts w (List.mem_cons_of_mem _ h)
  clear hts
  have hown : s.vm.findClass RX4 = some m.cls := findClass_of_methodNamed B.named
  have hlocks := B.notSynchronized
  clear B
  subst hsz
  have hD := hD0.self (sz := s.heap.size)
  clear hD0
  generalize hAe : va_A [(o, .inr (4, [.ref o_now, .ref o_then, .ref o_past, .int s_kept, .ref o_text, .int s_typed, .int s_thrown, .int s_at, .int s_isFault, .int s_value, .ref o_told, .int s_tolds, .ref o_lit, .ref o_whole, .ref o_goes, .int s_isLaid, .ref o_latest])), (o_lit, .inl (cI, 96, .inl s_lit)), (o_goes, .inl (cI, 8, .inl s_goes))] s.heap.size = A at hD ⊢
  have hA : ∀ q : Nat, s.heap.size ≤ q → A q := fun q h => by rw [← hAe]; exact Or.inr h
  clear hAe
  have hS : va_S A s.heap s.heap [] := va_S.rf
  have hP : va_P (dC, dI) vwCl [(o, .inr (4, [.ref o_now, .ref o_then, .ref o_past, .int s_kept, .ref o_text, .int s_typed, .int s_thrown, .int s_at, .int s_isFault, .int s_value, .ref o_told, .int s_tolds, .ref o_lit, .ref o_whole, .ref o_goes, .int s_isLaid, .ref o_latest])), (o_lit, .inl (cI, 96, .inl s_lit)), (o_goes, .inl (cI, 8, .inl s_goes))] s.heap := hP
  have hl := lv_entry ([.ref o, .int p0, .int p1, .int p2]) (n := 5) (Nat.le_of_ble_eq_true rfl)
  rw [lg_entry_eq]
  generalize (lg_sl ([.ref o, .int p0, .int p1, .int p2]) ++ List.replicate (5 - (lg_sl ([.ref o, .int p0, .int p1, .int p2])).length) Slot.unset).toArray = ls at hl ⊢
  have hl : lv_has ls 5 [(0, .ref o), (1, .int p0), (2, .int p1), (3, .int p2)] := hl
  generalize hQQ : MQ below _ _ _ 0 0 A = QQ
  show W p l e rm_X4_isSeen s m ([.ref o, .int p0, .int p1, .int p2] : List Value).toArray below meth c s.heap [] 0 0 QQ (F0 m 0 ls [])
  obtain ⟨H, hHH⟩ : ∃ H, H = s.heap := ⟨_, rfl⟩
  rw [← hHH] at hP ⊢
  have hS : va_S A s.heap H [] := by rw [hHH]; exact hS
  clear hHH
  generalize ([] : List Loc) = locs at hS ⊢
  unfold P_X4_isSeen at hw
  refine lv_aload_n hx hb dX4_isSeen_0 rfl (lv_at hl 0 rfl) ?_
  refine va_get (D := (dC, dI)) (ci := 4) (v := .ref o_lit) (C := RX4) (T := TX4) (N := 17) hx hb ht i_X4 hown hK hP 0 rfl rfl 12 (by decide) (ht _ k_830) (fun _ h9 => h9) rfl dX4_isSeen_1 ?_
  refine lv_bipush (v := 12) hx hb dX4_isSeen_4 (by decide) ?_
  refine lv_iload_n hx hb dX4_isSeen_6 rfl (lv_at hl 1 rfl) ?_
  refine lv_imul hx hb dX4_isSeen_7 ?_
  refine lv_iload_n hx hb dX4_isSeen_8 rfl (lv_at hl 2 rfl) ?_
  refine lv_iadd hx hb dX4_isSeen_9 ?_
  obtain ⟨hi_1, hw⟩ := hw
  refine gv_iald hx hb hK hP 1 0 rfl rfl rfl hi_1 dX4_isSeen_10 ?_
  refine lv_istore (lv' := [(4, .int (s_lit (((12 * p0) + p1).toNatClampNeg))), (0, .ref o), (1, .int p0), (2, .int p1), (3, .int p2)]) hx hb dX4_isSeen_11 hl (by decide) rfl (fun ls hl => ?_)
  refine lv_iload hx hb dX4_isSeen_13 (lv_at hl 0 rfl) ?_
  refine lv_iconst (v := (-1)) hx hb dX4_isSeen_15 (by decide) ?_
  refine lv_icmp_eq (tgt := 49) hx hb dX4_isSeen_16 (by decide) (fun hc => ?_) (fun hc => ?_)
  · have hw := hw.1 hc
    refine lv_iconst (v := 0) hx hb dX4_isSeen_49 (by decide) ?_
    rw [← hQQ]
    exact g_reti (v := 0) (u := ()) hx hb hr rfl hlocks hw hP hK hD hS dX4_isSeen_50
  · have hw := hw.2 hc
    refine lv_iload hx hb dX4_isSeen_19 (lv_at hl 0 rfl) ?_
    refine lv_iload_n hx hb dX4_isSeen_21 rfl (lv_at hl 4 rfl) ?_
    refine lv_icmp_gt (tgt := 49) hx hb dX4_isSeen_22 (by decide) (fun hc => ?_) (fun hc => ?_)
    · have hw := hw.1 hc
      refine lv_iconst (v := 0) hx hb dX4_isSeen_49 (by decide) ?_
      rw [← hQQ]
      exact g_reti (v := 0) (u := ()) hx hb hr rfl hlocks hw hP hK hD hS dX4_isSeen_50
    · have hw := hw.2 hc
      refine lv_aload_n hx hb dX4_isSeen_25 rfl (lv_at hl 1 rfl) ?_
      refine va_get (D := (dC, dI)) (ci := 4) (v := .ref o_goes) (C := RX4) (T := TX4) (N := 17) hx hb ht i_X4 hown hK hP 0 rfl rfl 14 (by decide) (ht _ k_832) (fun _ h9 => h9) rfl dX4_isSeen_26 ?_
      refine lv_iload_n hx hb dX4_isSeen_29 rfl (lv_at hl 2 rfl) ?_
      obtain ⟨hi_2, hw⟩ := hw
      refine gv_iald hx hb hK hP 2 0 rfl rfl rfl hi_2 dX4_isSeen_30 ?_
      refine lv_iconst (v := (-1)) hx hb dX4_isSeen_31 (by decide) ?_
      refine lv_icmp_eq (tgt := 45) hx hb dX4_isSeen_32 (by decide) (fun hc => ?_) (fun hc => ?_)
      · have hw := hw.1 hc
        refine lv_iconst (v := 1) hx hb dX4_isSeen_45 (by decide) ?_
        refine lv_goto (tgt := 50) hx hb dX4_isSeen_46 (by decide) ?_
        rw [← hQQ]
        exact g_reti (v := 1) (u := ()) hx hb hr rfl hlocks hw hP hK hD hS dX4_isSeen_50
      · have hw := hw.2 hc
        refine lv_iload_n hx hb dX4_isSeen_35 rfl (lv_at hl 4 rfl) ?_
        refine lv_aload_n hx hb dX4_isSeen_36 rfl (lv_at hl 1 rfl) ?_
        refine va_get (D := (dC, dI)) (ci := 4) (v := .ref o_goes) (C := RX4) (T := TX4) (N := 17) hx hb ht i_X4 hown hK hP 0 rfl rfl 14 (by decide) (ht _ k_832) (fun _ h9 => h9) rfl dX4_isSeen_37 ?_
        refine lv_iload_n hx hb dX4_isSeen_40 rfl (lv_at hl 2 rfl) ?_
        obtain ⟨hi_3, hw⟩ := hw
        refine gv_iald hx hb hK hP 2 0 rfl rfl rfl hi_3 dX4_isSeen_41 ?_
        refine lv_icmp_ge (tgt := 49) hx hb dX4_isSeen_42 (by decide) (fun hc => ?_) (fun hc => ?_)
        · have hw := hw.1 hc
          refine lv_iconst (v := 0) hx hb dX4_isSeen_49 (by decide) ?_
          rw [← hQQ]
          exact g_reti (v := 0) (u := ()) hx hb hr rfl hlocks hw hP hK hD hS dX4_isSeen_50
        · have hw := hw.2 hc
          refine lv_iconst (v := 1) hx hb dX4_isSeen_45 (by decide) ?_
          refine lv_goto (tgt := 50) hx hb dX4_isSeen_46 (by decide) ?_
          rw [← hQQ]
          exact g_reti (v := 1) (u := ()) hx hb hr rfl hlocks hw hP hK hD hS dX4_isSeen_50
abbrev rm_X4_letterAt : Room := { frames := 1, cells := 0, slots := 0, locals := 22 }
set_option maxHeartbeats 4000000 in
set_option maxRecDepth 100000 in
theorem c_X4_letterAt (l : Launch) (dC : Nat → ClassId) (dI : Nat → Nat → Nat) (cI cJ : ClassId) (r0 : Nat) (sz : Nat) (s_r0 : Nat → Int32) (p1 : Int32) (p2 : Int32) (Q : Int32 → Prop) (hw : P_X4_letterAt p1 p2 s_r0 Q) : Met l yX4_letterAt (Cond.code yX4_letterAt cX4_letterAt 4 (some .int) :: TBL) rm_X4_letterAt (gPc (dC, dI) vwCl (gTy cI cJ) [.ref r0, .int p1, .int p2] [(r0, .inl (cI, 87, .inl s_r0))] sz) (va_Qi (fun (r : Int32) (u : Unit) => Q r ) (gB (dC, dI) vwCl (gTy cI cJ) (va_A [(r0, .inl (cI, 87, .inl s_r0))] sz) (fun (u : Unit) => [(r0, .inl (cI, 87, .inl s_r0))])) (va_A [(r0, .inl (cI, 87, .inl s_r0))] sz)) 0 0 (va_A [(r0, .inl (cI, 87, .inl s_r0))] sz) := by
  refine Met.ofW (cc := cX4_letterAt) (maxL := 4) (ret := (some .int)) (by decide) rfl ?_
  intro p e s m args below meth c s₁ B hml hv
  obtain ⟨rfl, hsz, hP, hK, hD0⟩ := hv
  have hx := B.exec
  have hb := B.bytes
  have hr := B.returns
  have hts := atoms_spec (ws := Cond.code yX4_letterAt cX4_letterAt 4 (some .int) :: TBL) B.pre
  have ht : ∀ w ∈ TBL, w.before ([.ref r0, .int p1, .int p2] : List Value).toArray s = true := fun w h => hts w (List.mem_cons_of_mem _ h)
  clear hts
  have hown : s.vm.findClass RX4 = some m.cls := findClass_of_methodNamed B.named
  have hlocks := B.notSynchronized
  clear B
  subst hsz
  have hD := hD0.self (sz := s.heap.size)
  clear hD0
  generalize hAe : va_A [(r0, .inl (cI, 87, .inl s_r0))] s.heap.size = A at hD ⊢
  have hA : ∀ q : Nat, s.heap.size ≤ q → A q := fun q h => by rw [← hAe]; exact Or.inr h
  clear hAe
  have hS : va_S A s.heap s.heap [] := va_S.rf
  have hP : va_P (dC, dI) vwCl [(r0, .inl (cI, 87, .inl s_r0))] s.heap := hP
  have hl := lv_entry ([.ref r0, .int p1, .int p2]) (n := 4) (Nat.le_of_ble_eq_true rfl)
  rw [lg_entry_eq]
  generalize (lg_sl ([.ref r0, .int p1, .int p2]) ++ List.replicate (4 - (lg_sl ([.ref r0, .int p1, .int p2])).length) Slot.unset).toArray = ls at hl ⊢
  have hl : lv_has ls 4 [(0, .ref r0), (1, .int p1), (2, .int p2)] := hl
  generalize hQQ : MQ below _ _ _ 0 0 A = QQ
  show W p l e rm_X4_letterAt s m ([.ref r0, .int p1, .int p2] : List Value).toArray below meth c s.heap [] 0 0 QQ (F0 m 0 ls [])
  obtain ⟨H, hHH⟩ : ∃ H, H = s.heap := ⟨_, rfl⟩
  rw [← hHH] at hP ⊢
  have hS : va_S A s.heap H [] := by rw [hHH]; exact hS
  clear hHH
  generalize ([] : List Loc) = locs at hS ⊢
  unfold P_X4_letterAt at hw
  refine lv_iload_n hx hb dX4_letterAt_0 rfl (lv_at hl 2 rfl) ?_
  refine lv_aload_n hx hb dX4_letterAt_1 rfl (lv_at hl 0 rfl) ?_
  refine lv_iload_n hx hb dX4_letterAt_2 rfl (lv_at hl 1 rfl) ?_
  refine lv_iconst (v := 2) hx hb dX4_letterAt_3 (by decide) ?_
  refine gc_Si (As := [.ref r0, .int p1, .int 2]) (rest := [.int p2]) (wr := []) ⟨hx, hb, hml, hown, ht⟩ (c_X4_of l dC dI cI cJ r0 H.size s_r0 p1 2 _ hw) (va_cwS 3 ht (g_S k_964 k_965 k_5 k_966) rfl rfl rfl (by decide +kernel) ⟨(Nat.le_of_ble_eq_true rfl), (Nat.le_of_ble_eq_true rfl)⟩) hK hP hD hS hA [0] [] rfl rfl (by decide) rfl hl.1 rfl (Nat.le_of_ble_eq_true rfl) ⟨(Nat.le_of_ble_eq_true rfl), (Nat.le_of_ble_eq_true rfl)⟩ dX4_letterAt_4 (fun r_1 u H locs hw hP hD hS => ?_)
  try dsimp only at hw
  have hP : va_P (dC, dI) vwCl [(r0, .inl (cI, 87, .inl s_r0))] H := hP
  have hD : va_D A [(r0, .inl (cI, 87, .inl s_r0))] := hD
  refine lv_isub hx hb dX4_letterAt_7 ?_
  refine lv_istore_n (lv' := [(3, .int (p2 - r_1)), (0, .ref r0), (1, .int p1), (2, .int p2)]) hx hb dX4_letterAt_8 rfl hl (by decide) rfl (fun ls hl => ?_)
  refine lv_iload_n hx hb dX4_letterAt_9 rfl (lv_at hl 0 rfl) ?_
  refine lv_iconst (v := 0) hx hb dX4_letterAt_10 (by decide) ?_
  refine lv_aload_n hx hb dX4_letterAt_11 rfl (lv_at hl 1 rfl) ?_
  refine lv_iload_n hx hb dX4_letterAt_12 rfl (lv_at hl 2 rfl) ?_
  refine lv_iconst (v := 0) hx hb dX4_letterAt_13 (by decide) ?_
  refine gc_Si (As := [.ref r0, .int p1, .int 0]) (rest := [.int 0, .int (p2 - r_1)]) (wr := []) ⟨hx, hb, hml, hown, ht⟩ (c_X4_of l dC dI cI cJ r0 H.size s_r0 p1 0 _ hw) (va_cwS 3 ht (g_S k_964 k_965 k_5 k_966) rfl rfl rfl (by decide +kernel) ⟨(Nat.le_of_ble_eq_true rfl), (Nat.le_of_ble_eq_true rfl)⟩) hK hP hD hS hA [0] [] rfl rfl (by decide) rfl hl.1 rfl (Nat.le_of_ble_eq_true rfl) ⟨(Nat.le_of_ble_eq_true rfl), (Nat.le_of_ble_eq_true rfl)⟩ dX4_letterAt_14 (fun r_2 u H locs hw hP hD hS => ?_)
  try dsimp only at hw
  have hP : va_P (dC, dI) vwCl [(r0, .inl (cI, 87, .inl s_r0))] H := hP
  have hD : va_D A [(r0, .inl (cI, 87, .inl s_r0))] := hD
  refine lv_iconst (v := 1) hx hb dX4_letterAt_17 (by decide) ?_
  refine lv_isub hx hb dX4_letterAt_18 ?_
  refine gc_Si (As := [.int (p2 - r_1), .int 0, .int (r_2 - 1)]) (rest := []) (wr := [(r0, .inl (cI, 87, .inl s_r0))]) ⟨hx, hb, hml, hown, ht⟩ (c_X4_in l dC dI cI cJ  H.size (p2 - r_1) 0 (r_2 - 1) _ hw) (va_cwS 3 ht (g_S k_893 k_894 k_5 k_895) rfl rfl rfl (by decide +kernel) ⟨(Nat.le_of_ble_eq_true rfl), (Nat.le_of_ble_eq_true rfl)⟩) hK hP hD hS hA [] [0] rfl rfl (by decide) rfl hl.1 rfl (Nat.le_of_ble_eq_true rfl) ⟨(Nat.le_of_ble_eq_true rfl), (Nat.le_of_ble_eq_true rfl)⟩ dX4_letterAt_19 (fun r_3 u H locs hw hP hD hS => ?_)
  try dsimp only at hw
  have hP : va_P (dC, dI) vwCl [(r0, .inl (cI, 87, .inl s_r0))] H := hP
  have hD : va_D A [(r0, .inl (cI, 87, .inl s_r0))] := hD
  refine lv_if_eq (tgt := 29) hx hb dX4_letterAt_22 (by decide) (fun hc => ?_) (fun hc => ?_)
  · have hw := hw.1 hc
    refine lv_iconst (v := (-1)) hx hb dX4_letterAt_29 (by decide) ?_
    rw [← hQQ]
    exact g_reti (v := (-1)) (u := ()) hx hb hr rfl hlocks hw hP hK hD hS dX4_letterAt_30
  · have hw := hw.2 hc
    refine lv_iload_n hx hb dX4_letterAt_25 rfl (lv_at hl 0 rfl) ?_
    refine lv_goto (tgt := 30) hx hb dX4_letterAt_26 (by decide) ?_
    rw [← hQQ]
    exact g_reti (v := (p2 - r_1)) (u := ()) hx hb hr rfl hlocks hw hP hK hD hS dX4_letterAt_30
abbrev rm_X4_clash : Room := { frames := 2, cells := 0, slots := 0, locals := 45 }
set_option maxHeartbeats 4000000 in
set_option maxRecDepth 100000 in
theorem c_X4_clash (l : Launch) (dC : Nat → ClassId) (dI : Nat → Nat → Nat) (cI cJ : ClassId) (o o_now o_then o_past o_text o_told o_lit o_whole o_goes o_latest r0 : Nat) (sz : Nat) (s_lit : Nat → Int32) (s_goes : Nat → Int32) (s_r0 : Nat → Int32) (s_kept : Int32) (s_typed : Int32) (s_thrown : Int32) (s_at : Int32) (s_isFault : Int32) (s_value : Int32) (s_tolds : Int32) (s_isLaid : Int32) (p1 : Int32) (p2 : Int32) (p3 : Int32) (Q : Int32 → Prop) (hw : P_X4_clash p1 p2 p3 s_lit s_goes s_r0 Q) : Met l yX4_clash (Cond.code yX4_clash cX4_clash 8 (some .boolean) :: TBL) rm_X4_clash (gPc (dC, dI) vwCl (gTy cI cJ) [.ref o, .ref r0, .int p1, .int p2, .int p3] [(o, .inr (4, [.ref o_now, .ref o_then, .ref o_past, .int s_kept, .ref o_text, .int s_typed, .int s_thrown, .int s_at, .int s_isFault, .int s_value, .ref o_told, .int s_tolds, .ref o_lit, .ref o_whole, .ref o_goes, .int s_isLaid, .ref o_latest])), (o_lit, .inl (cI, 96, .inl s_lit)), (o_goes, .inl (cI, 8, .inl s_goes)), (r0, .inl (cI, 87, .inl s_r0))] sz) (va_Qi (fun (r : Int32) (u : Unit) => Q r ) (gB (dC, dI) vwCl (gTy cI cJ) (va_A [(o, .inr (4, [.ref o_now, .ref o_then, .ref o_past, .int s_kept, .ref o_text, .int s_typed, .int s_thrown, .int s_at, .int s_isFault, .int s_value, .ref o_told, .int s_tolds, .ref o_lit, .ref o_whole, .ref o_goes, .int s_isLaid, .ref o_latest])), (o_lit, .inl (cI, 96, .inl s_lit)), (o_goes, .inl (cI, 8, .inl s_goes)), (r0, .inl (cI, 87, .inl s_r0))] sz) (fun (u : Unit) => [(o, .inr (4, [.ref o_now, .ref o_then, .ref o_past, .int s_kept, .ref o_text, .int s_typed, .int s_thrown, .int s_at, .int s_isFault, .int s_value, .ref o_told, .int s_tolds, .ref o_lit, .ref o_whole, .ref o_goes, .int s_isLaid, .ref o_latest])), (o_lit, .inl (cI, 96, .inl s_lit)), (o_goes, .inl (cI, 8, .inl s_goes)), (r0, .inl (cI, 87, .inl s_r0))])) (va_A [(o, .inr (4, [.ref o_now, .ref o_then, .ref o_past, .int s_kept, .ref o_text, .int s_typed, .int s_thrown, .int s_at, .int s_isFault, .int s_value, .ref o_told, .int s_tolds, .ref o_lit, .ref o_whole, .ref o_goes, .int s_isLaid, .ref o_latest])), (o_lit, .inl (cI, 96, .inl s_lit)), (o_goes, .inl (cI, 8, .inl s_goes)), (r0, .inl (cI, 87, .inl s_r0))] sz)) 0 0 (va_A [(o, .inr (4, [.ref o_now, .ref o_then, .ref o_past, .int s_kept, .ref o_text, .int s_typed, .int s_thrown, .int s_at, .int s_isFault, .int s_value, .ref o_told, .int s_tolds, .ref o_lit, .ref o_whole, .ref o_goes, .int s_isLaid, .ref o_latest])), (o_lit, .inl (cI, 96, .inl s_lit)), (o_goes, .inl (cI, 8, .inl s_goes)), (r0, .inl (cI, 87, .inl s_r0))] sz) := by
  refine Met.ofW (cc := cX4_clash) (maxL := 8) (ret := (some .boolean)) (by decide) rfl ?_
  intro p e s m args below meth c s₁ B hml hv
  obtain ⟨rfl, hsz, hP, hK, hD0⟩ := hv
  have hx := B.exec
  have hb := B.bytes
  have hr := B.returns
  have hts := atoms_spec (ws := Cond.code yX4_clash cX4_clash 8 (some .boolean) :: TBL) B.pre
  have ht : ∀ w ∈ TBL, w.before ([.ref o, .ref r0, .int p1, .int p2, .int p3] : List Value).toArray s = true := fun w h => hts w (List.mem_cons_of_mem _ h)
  clear hts
  have hown : s.vm.findClass RX4 = some m.cls := findClass_of_methodNamed B.named
  have hlocks := B.notSynchronized
  clear B
  subst hsz
  have hD := hD0.self (sz := s.heap.size)
  clear hD0
  generalize hAe : va_A [(o, .inr (4, [.ref o_now, .ref o_then, .ref o_past, .int s_kept, .ref o_text, .int s_typed, .int s_thrown, .int s_at, .int s_isFault, .int s_value, .ref o_told, .int s_tolds, .ref o_lit, .ref o_whole, .ref o_goes, .int s_isLaid, .ref o_latest])), (o_lit, .inl (cI, 96, .inl s_lit)), (o_goes, .inl (cI, 8, .inl s_goes)), (r0, .inl (cI, 87, .inl s_r0))] s.heap.size = A at hD ⊢
  have hA : ∀ q : Nat, s.heap.size ≤ q → A q := fun q h => by rw [← hAe]; exact Or.inr h
  clear hAe
  have hS : va_S A s.heap s.heap [] := va_S.rf
  have hP : va_P (dC, dI) vwCl [(o, .inr (4, [.ref o_now, .ref o_then, .ref o_past, .int s_kept, .ref o_text, .int s_typed, .int s_thrown, .int s_at, .int s_isFault, .int s_value, .ref o_told, .int s_tolds, .ref o_lit, .ref o_whole, .ref o_goes, .int s_isLaid, .ref o_latest])), (o_lit, .inl (cI, 96, .inl s_lit)), (o_goes, .inl (cI, 8, .inl s_goes)), (r0, .inl (cI, 87, .inl s_r0))] s.heap := hP
  have hl := lv_entry ([.ref o, .ref r0, .int p1, .int p2, .int p3]) (n := 8) (Nat.le_of_ble_eq_true rfl)
  rw [lg_entry_eq]
  generalize (lg_sl ([.ref o, .ref r0, .int p1, .int p2, .int p3]) ++ List.replicate (8 - (lg_sl ([.ref o, .ref r0, .int p1, .int p2, .int p3])).length) Slot.unset).toArray = ls at hl ⊢
  have hl : lv_has ls 8 [(0, .ref o), (1, .ref r0), (2, .int p1), (3, .int p2), (4, .int p3)] := hl
  generalize hQQ : MQ below _ _ _ 0 0 A = QQ
  show W p l e rm_X4_clash s m ([.ref o, .ref r0, .int p1, .int p2, .int p3] : List Value).toArray below meth c s.heap [] 0 0 QQ (F0 m 0 ls [])
  have L6 : ∀ (x2 : Int32) (x3 : Int32) (x4 : Int32), ∀ (n : Nat) (x5 : Int32) (x6 : Int32), P_X4_clash_L6 x2 x3 x4 s_lit s_goes s_r0 Q n x5 x6 → ∀ (H : Heap) (locs : List Loc) (ls : Array Slot), va_P (dC, dI) vwCl [(o, .inr (4, [.ref o_now, .ref o_then, .ref o_past, .int s_kept, .ref o_text, .int s_typed, .int s_thrown, .int s_at, .int s_isFault, .int s_value, .ref o_told, .int s_tolds, .ref o_lit, .ref o_whole, .ref o_goes, .int s_isLaid, .ref o_latest])), (o_lit, .inl (cI, 96, .inl s_lit)), (o_goes, .inl (cI, 8, .inl s_goes)), (r0, .inl (cI, 87, .inl s_r0))] H → va_D A [(o, .inr (4, [.ref o_now, .ref o_then, .ref o_past, .int s_kept, .ref o_text, .int s_typed, .int s_thrown, .int s_at, .int s_isFault, .int s_value, .ref o_told, .int s_tolds, .ref o_lit, .ref o_whole, .ref o_goes, .int s_isLaid, .ref o_latest])), (o_lit, .inl (cI, 96, .inl s_lit)), (o_goes, .inl (cI, 8, .inl s_goes)), (r0, .inl (cI, 87, .inl s_r0))] → va_S A s.heap H locs → lv_has ls 8 [(0, .ref o), (1, .ref r0), (2, .int x2), (3, .int x3), (4, .int x4), (5, .int x5), (6, .int x6)] → W p l e rm_X4_clash s m ([.ref o, .ref r0, .int p1, .int p2, .int p3] : List Value).toArray below meth c H locs 0 0 QQ (F0 m 6 ls []) := by
    intro x2 x3 x4
    intro n
    induction n with
    | zero => intro x5 x6 hw; rw [P_X4_clash_L6_z] at hw; exact hw.elim
    | succ n ih =>
      intro x5 x6 hw
      rw [P_X4_clash_L6_s] at hw
      generalize hrec : P_X4_clash_L6 x2 x3 x4 s_lit s_goes s_r0 Q n = rec6 at ih hw
      have J88 : ∀ (x6 : Int32) (t0 : Int32), P_X4_clash_J88 rec6 x6 t0 → ∀ (H : Heap) (locs : List Loc) (ls : Array Slot), va_P (dC, dI) vwCl [(o, .inr (4, [.ref o_now, .ref o_then, .ref o_past, .int s_kept, .ref o_text, .int s_typed, .int s_thrown, .int s_at, .int s_isFault, .int s_value, .ref o_told, .int s_tolds, .ref o_lit, .ref o_whole, .ref o_goes, .int s_isLaid, .ref o_latest])), (o_lit, .inl (cI, 96, .inl s_lit)), (o_goes, .inl (cI, 8, .inl s_goes)), (r0, .inl (cI, 87, .inl s_r0))] H → va_D A [(o, .inr (4, [.ref o_now, .ref o_then, .ref o_past, .int s_kept, .ref o_text, .int s_typed, .int s_thrown, .int s_at, .int s_isFault, .int s_value, .ref o_told, .int s_tolds, .ref o_lit, .ref o_whole, .ref o_goes, .int s_isLaid, .ref o_latest])), (o_lit, .inl (cI, 96, .inl s_lit)), (o_goes, .inl (cI, 8, .inl s_goes)), (r0, .inl (cI, 87, .inl s_r0))] → va_S A s.heap H locs → lv_has ls 8 [(0, .ref o), (1, .ref r0), (2, .int x2), (3, .int x3), (4, .int x4), (6, .int x6)] → W p l e rm_X4_clash s m ([.ref o, .ref r0, .int p1, .int p2, .int p3] : List Value).toArray below meth c H locs 0 0 QQ (F0 m 88 ls [.int t0]) := by
        intro x6 t0 hw H locs ls hP hD hS hl
        unfold P_X4_clash_J88 at hw
        refine lv_istore (lv' := [(5, .int t0), (0, .ref o), (1, .ref r0), (2, .int x2), (3, .int x3), (4, .int x4), (6, .int x6)]) hx hb dX4_clash_88 hl (by decide) rfl (fun ls hl => ?_)
        refine lv_iinc (v := (x6 + 1)) (lv' := [(6, .int (x6 + 1)), (5, .int t0), (0, .ref o), (1, .ref r0), (2, .int x2), (3, .int x3), (4, .int x4)]) hx hb dX4_clash_90 hl (k := 6) rfl rfl (by decide) rfl (fun ls hl => ?_)
        refine lv_goto (tgt := 6) hx hb dX4_clash_93 (by decide) ?_
        exact ih t0 (x6 + 1) hw H locs ls hP hD hS (lv_sub (l' := [(0, .ref o), (1, .ref r0), (2, .int x2), (3, .int x3), (4, .int x4), (5, .int t0), (6, .int (x6 + 1))]) hl [2, 3, 4, 5, 6, 1, 0] rfl)
      have J83 : ∀ (x6 : Int32), P_X4_clash_J83 rec6 x6 → ∀ (H : Heap) (locs : List Loc) (ls : Array Slot), va_P (dC, dI) vwCl [(o, .inr (4, [.ref o_now, .ref o_then, .ref o_past, .int s_kept, .ref o_text, .int s_typed, .int s_thrown, .int s_at, .int s_isFault, .int s_value, .ref o_told, .int s_tolds, .ref o_lit, .ref o_whole, .ref o_goes, .int s_isLaid, .ref o_latest])), (o_lit, .inl (cI, 96, .inl s_lit)), (o_goes, .inl (cI, 8, .inl s_goes)), (r0, .inl (cI, 87, .inl s_r0))] H → va_D A [(o, .inr (4, [.ref o_now, .ref o_then, .ref o_past, .int s_kept, .ref o_text, .int s_typed, .int s_thrown, .int s_at, .int s_isFault, .int s_value, .ref o_told, .int s_tolds, .ref o_lit, .ref o_whole, .ref o_goes, .int s_isLaid, .ref o_latest])), (o_lit, .inl (cI, 96, .inl s_lit)), (o_goes, .inl (cI, 8, .inl s_goes)), (r0, .inl (cI, 87, .inl s_r0))] → va_S A s.heap H locs → lv_has ls 8 [(0, .ref o), (1, .ref r0), (2, .int x2), (3, .int x3), (4, .int x4), (6, .int x6)] → W p l e rm_X4_clash s m ([.ref o, .ref r0, .int p1, .int p2, .int p3] : List Value).toArray below meth c H locs 0 0 QQ (F0 m 83 ls []) := by
        intro x6 hw H locs ls hP hD hS hl
        unfold P_X4_clash_J83 at hw
        refine lv_iconst (v := 1) hx hb dX4_clash_83 (by decide) ?_
        refine lv_goto (tgt := 88) hx hb dX4_clash_84 (by decide) ?_
        exact J88 x6 1 hw H locs ls hP hD hS hl
      have J87 : ∀ (x6 : Int32), P_X4_clash_J87 rec6 x6 → ∀ (H : Heap) (locs : List Loc) (ls : Array Slot), va_P (dC, dI) vwCl [(o, .inr (4, [.ref o_now, .ref o_then, .ref o_past, .int s_kept, .ref o_text, .int s_typed, .int s_thrown, .int s_at, .int s_isFault, .int s_value, .ref o_told, .int s_tolds, .ref o_lit, .ref o_whole, .ref o_goes, .int s_isLaid, .ref o_latest])), (o_lit, .inl (cI, 96, .inl s_lit)), (o_goes, .inl (cI, 8, .inl s_goes)), (r0, .inl (cI, 87, .inl s_r0))] H → va_D A [(o, .inr (4, [.ref o_now, .ref o_then, .ref o_past, .int s_kept, .ref o_text, .int s_typed, .int s_thrown, .int s_at, .int s_isFault, .int s_value, .ref o_told, .int s_tolds, .ref o_lit, .ref o_whole, .ref o_goes, .int s_isLaid, .ref o_latest])), (o_lit, .inl (cI, 96, .inl s_lit)), (o_goes, .inl (cI, 8, .inl s_goes)), (r0, .inl (cI, 87, .inl s_r0))] → va_S A s.heap H locs → lv_has ls 8 [(0, .ref o), (1, .ref r0), (2, .int x2), (3, .int x3), (4, .int x4), (6, .int x6)] → W p l e rm_X4_clash s m ([.ref o, .ref r0, .int p1, .int p2, .int p3] : List Value).toArray below meth c H locs 0 0 QQ (F0 m 87 ls []) := by
        intro x6 hw H locs ls hP hD hS hl
        unfold P_X4_clash_J87 at hw
        refine lv_iconst (v := 0) hx hb dX4_clash_87 (by decide) ?_
        exact J88 x6 0 hw H locs ls hP hD hS hl
      intro H locs ls hP hD hS hl
      unfold B_X4_clash_L6 at hw
      refine lv_iload hx hb dX4_clash_6 (lv_at hl 6 rfl) ?_
      refine lv_aload_n hx hb dX4_clash_8 rfl (lv_at hl 1 rfl) ?_
      refine lv_iload_n hx hb dX4_clash_9 rfl (lv_at hl 2 rfl) ?_
      refine lv_iconst (v := 0) hx hb dX4_clash_10 (by decide) ?_
      refine gc_Si (As := [.ref r0, .int x2, .int 0]) (rest := [.int x6]) (wr := [(o, .inr (4, [.ref o_now, .ref o_then, .ref o_past, .int s_kept, .ref o_text, .int s_typed, .int s_thrown, .int s_at, .int s_isFault, .int s_value, .ref o_told, .int s_tolds, .ref o_lit, .ref o_whole, .ref o_goes, .int s_isLaid, .ref o_latest])), (o_lit, .inl (cI, 96, .inl s_lit)), (o_goes, .inl (cI, 8, .inl s_goes))]) ⟨hx, hb, hml, hown, ht⟩ (c_X4_of l dC dI cI cJ r0 H.size s_r0 x2 0 _ hw) (va_cwS 3 ht (g_S k_964 k_965 k_5 k_966) rfl rfl rfl (by decide +kernel) ⟨(Nat.le_of_ble_eq_true rfl), (Nat.le_of_ble_eq_true rfl)⟩) hK hP hD hS hA [3] [0, 1, 2] rfl rfl (by decide) rfl hl.1 rfl (Nat.le_of_ble_eq_true rfl) ⟨(Nat.le_of_ble_eq_true rfl), (Nat.le_of_ble_eq_true rfl)⟩ dX4_clash_11 (fun r_1 u H locs hw hP hD hS => ?_)
      try dsimp only at hw
      have hP : va_P (dC, dI) vwCl [(o, .inr (4, [.ref o_now, .ref o_then, .ref o_past, .int s_kept, .ref o_text, .int s_typed, .int s_thrown, .int s_at, .int s_isFault, .int s_value, .ref o_told, .int s_tolds, .ref o_lit, .ref o_whole, .ref o_goes, .int s_isLaid, .ref o_latest])), (o_lit, .inl (cI, 96, .inl s_lit)), (o_goes, .inl (cI, 8, .inl s_goes)), (r0, .inl (cI, 87, .inl s_r0))] H := hP
      have hD : va_D A [(o, .inr (4, [.ref o_now, .ref o_then, .ref o_past, .int s_kept, .ref o_text, .int s_typed, .int s_thrown, .int s_at, .int s_isFault, .int s_value, .ref o_told, .int s_tolds, .ref o_lit, .ref o_whole, .ref o_goes, .int s_isLaid, .ref o_latest])), (o_lit, .inl (cI, 96, .inl s_lit)), (o_goes, .inl (cI, 8, .inl s_goes)), (r0, .inl (cI, 87, .inl s_r0))] := hD
      refine lv_icmp_ge (tgt := 96) hx hb dX4_clash_14 (by decide) (fun hc => ?_) (fun hc => ?_)
      · have hw := hw.1 hc
        refine lv_iload hx hb dX4_clash_96 (lv_at hl 5 rfl) ?_
        obtain ⟨hb_2, hw⟩ := hw
        rw [← hQQ]
        exact g_reti (v := x5) (u := ()) hx hb hr hb_2 hlocks hw hP hK hD hS dX4_clash_98
      · have hw := hw.2 hc
        refine lv_aload_n hx hb dX4_clash_17 rfl (lv_at hl 1 rfl) ?_
        refine lv_iload_n hx hb dX4_clash_18 rfl (lv_at hl 2 rfl) ?_
        refine lv_iconst (v := 1) hx hb dX4_clash_19 (by decide) ?_
        refine gc_Si (As := [.ref r0, .int x2, .int 1]) (rest := []) (wr := [(o, .inr (4, [.ref o_now, .ref o_then, .ref o_past, .int s_kept, .ref o_text, .int s_typed, .int s_thrown, .int s_at, .int s_isFault, .int s_value, .ref o_told, .int s_tolds, .ref o_lit, .ref o_whole, .ref o_goes, .int s_isLaid, .ref o_latest])), (o_lit, .inl (cI, 96, .inl s_lit)), (o_goes, .inl (cI, 8, .inl s_goes))]) ⟨hx, hb, hml, hown, ht⟩ (c_X4_of l dC dI cI cJ r0 H.size s_r0 x2 1 _ hw) (va_cwS 3 ht (g_S k_964 k_965 k_5 k_966) rfl rfl rfl (by decide +kernel) ⟨(Nat.le_of_ble_eq_true rfl), (Nat.le_of_ble_eq_true rfl)⟩) hK hP hD hS hA [3] [0, 1, 2] rfl rfl (by decide) rfl hl.1 rfl (Nat.le_of_ble_eq_true rfl) ⟨(Nat.le_of_ble_eq_true rfl), (Nat.le_of_ble_eq_true rfl)⟩ dX4_clash_20 (fun r_3 u H locs hw hP hD hS => ?_)
        try dsimp only at hw
        have hP : va_P (dC, dI) vwCl [(o, .inr (4, [.ref o_now, .ref o_then, .ref o_past, .int s_kept, .ref o_text, .int s_typed, .int s_thrown, .int s_at, .int s_isFault, .int s_value, .ref o_told, .int s_tolds, .ref o_lit, .ref o_whole, .ref o_goes, .int s_isLaid, .ref o_latest])), (o_lit, .inl (cI, 96, .inl s_lit)), (o_goes, .inl (cI, 8, .inl s_goes)), (r0, .inl (cI, 87, .inl s_r0))] H := hP
        have hD : va_D A [(o, .inr (4, [.ref o_now, .ref o_then, .ref o_past, .int s_kept, .ref o_text, .int s_typed, .int s_thrown, .int s_at, .int s_isFault, .int s_value, .ref o_told, .int s_tolds, .ref o_lit, .ref o_whole, .ref o_goes, .int s_isLaid, .ref o_latest])), (o_lit, .inl (cI, 96, .inl s_lit)), (o_goes, .inl (cI, 8, .inl s_goes)), (r0, .inl (cI, 87, .inl s_r0))] := hD
        refine lv_aload_n hx hb dX4_clash_23 rfl (lv_at hl 1 rfl) ?_
        refine lv_iload_n hx hb dX4_clash_24 rfl (lv_at hl 3 rfl) ?_
        refine lv_iconst (v := 1) hx hb dX4_clash_25 (by decide) ?_
        refine gc_Si (As := [.ref r0, .int x3, .int 1]) (rest := [.int r_3]) (wr := [(o, .inr (4, [.ref o_now, .ref o_then, .ref o_past, .int s_kept, .ref o_text, .int s_typed, .int s_thrown, .int s_at, .int s_isFault, .int s_value, .ref o_told, .int s_tolds, .ref o_lit, .ref o_whole, .ref o_goes, .int s_isLaid, .ref o_latest])), (o_lit, .inl (cI, 96, .inl s_lit)), (o_goes, .inl (cI, 8, .inl s_goes))]) ⟨hx, hb, hml, hown, ht⟩ (c_X4_of l dC dI cI cJ r0 H.size s_r0 x3 1 _ hw) (va_cwS 3 ht (g_S k_964 k_965 k_5 k_966) rfl rfl rfl (by decide +kernel) ⟨(Nat.le_of_ble_eq_true rfl), (Nat.le_of_ble_eq_true rfl)⟩) hK hP hD hS hA [3] [0, 1, 2] rfl rfl (by decide) rfl hl.1 rfl (Nat.le_of_ble_eq_true rfl) ⟨(Nat.le_of_ble_eq_true rfl), (Nat.le_of_ble_eq_true rfl)⟩ dX4_clash_26 (fun r_4 u H locs hw hP hD hS => ?_)
        try dsimp only at hw
        have hP : va_P (dC, dI) vwCl [(o, .inr (4, [.ref o_now, .ref o_then, .ref o_past, .int s_kept, .ref o_text, .int s_typed, .int s_thrown, .int s_at, .int s_isFault, .int s_value, .ref o_told, .int s_tolds, .ref o_lit, .ref o_whole, .ref o_goes, .int s_isLaid, .ref o_latest])), (o_lit, .inl (cI, 96, .inl s_lit)), (o_goes, .inl (cI, 8, .inl s_goes)), (r0, .inl (cI, 87, .inl s_r0))] H := hP
        have hD : va_D A [(o, .inr (4, [.ref o_now, .ref o_then, .ref o_past, .int s_kept, .ref o_text, .int s_typed, .int s_thrown, .int s_at, .int s_isFault, .int s_value, .ref o_told, .int s_tolds, .ref o_lit, .ref o_whole, .ref o_goes, .int s_isLaid, .ref o_latest])), (o_lit, .inl (cI, 96, .inl s_lit)), (o_goes, .inl (cI, 8, .inl s_goes)), (r0, .inl (cI, 87, .inl s_r0))] := hD
        refine lv_icmp_ne (tgt := 96) hx hb dX4_clash_29 (by decide) (fun hc => ?_) (fun hc => ?_)
        · have hw := hw.1 hc
          refine lv_iload hx hb dX4_clash_96 (lv_at hl 5 rfl) ?_
          obtain ⟨hb_5, hw⟩ := hw
          rw [← hQQ]
          exact g_reti (v := x5) (u := ()) hx hb hr hb_5 hlocks hw hP hK hD hS dX4_clash_98
        · have hw := hw.2 hc
          refine lv_aload_n hx hb dX4_clash_32 rfl (lv_at hl 1 rfl) ?_
          refine lv_iload_n hx hb dX4_clash_33 rfl (lv_at hl 3 rfl) ?_
          refine lv_aload_n hx hb dX4_clash_34 rfl (lv_at hl 1 rfl) ?_
          refine lv_iload_n hx hb dX4_clash_35 rfl (lv_at hl 2 rfl) ?_
          refine lv_iconst (v := 2) hx hb dX4_clash_36 (by decide) ?_
          refine gc_Si (As := [.ref r0, .int x2, .int 2]) (rest := [.int x3, .ref r0]) (wr := [(o, .inr (4, [.ref o_now, .ref o_then, .ref o_past, .int s_kept, .ref o_text, .int s_typed, .int s_thrown, .int s_at, .int s_isFault, .int s_value, .ref o_told, .int s_tolds, .ref o_lit, .ref o_whole, .ref o_goes, .int s_isLaid, .ref o_latest])), (o_lit, .inl (cI, 96, .inl s_lit)), (o_goes, .inl (cI, 8, .inl s_goes))]) ⟨hx, hb, hml, hown, ht⟩ (c_X4_of l dC dI cI cJ r0 H.size s_r0 x2 2 _ hw) (va_cwS 3 ht (g_S k_964 k_965 k_5 k_966) rfl rfl rfl (by decide +kernel) ⟨(Nat.le_of_ble_eq_true rfl), (Nat.le_of_ble_eq_true rfl)⟩) hK hP hD hS hA [3] [0, 1, 2] rfl rfl (by decide) rfl hl.1 rfl (Nat.le_of_ble_eq_true rfl) ⟨(Nat.le_of_ble_eq_true rfl), (Nat.le_of_ble_eq_true rfl)⟩ dX4_clash_37 (fun r_6 u H locs hw hP hD hS => ?_)
          try dsimp only at hw
          have hP : va_P (dC, dI) vwCl [(o, .inr (4, [.ref o_now, .ref o_then, .ref o_past, .int s_kept, .ref o_text, .int s_typed, .int s_thrown, .int s_at, .int s_isFault, .int s_value, .ref o_told, .int s_tolds, .ref o_lit, .ref o_whole, .ref o_goes, .int s_isLaid, .ref o_latest])), (o_lit, .inl (cI, 96, .inl s_lit)), (o_goes, .inl (cI, 8, .inl s_goes)), (r0, .inl (cI, 87, .inl s_r0))] H := hP
          have hD : va_D A [(o, .inr (4, [.ref o_now, .ref o_then, .ref o_past, .int s_kept, .ref o_text, .int s_typed, .int s_thrown, .int s_at, .int s_isFault, .int s_value, .ref o_told, .int s_tolds, .ref o_lit, .ref o_whole, .ref o_goes, .int s_isLaid, .ref o_latest])), (o_lit, .inl (cI, 96, .inl s_lit)), (o_goes, .inl (cI, 8, .inl s_goes)), (r0, .inl (cI, 87, .inl s_r0))] := hD
          refine lv_iload hx hb dX4_clash_40 (lv_at hl 6 rfl) ?_
          refine lv_iadd hx hb dX4_clash_42 ?_
          refine gc_Si (As := [.ref r0, .int x3, .int (r_6 + x6)]) (rest := []) (wr := [(o, .inr (4, [.ref o_now, .ref o_then, .ref o_past, .int s_kept, .ref o_text, .int s_typed, .int s_thrown, .int s_at, .int s_isFault, .int s_value, .ref o_told, .int s_tolds, .ref o_lit, .ref o_whole, .ref o_goes, .int s_isLaid, .ref o_latest])), (o_lit, .inl (cI, 96, .inl s_lit)), (o_goes, .inl (cI, 8, .inl s_goes))]) ⟨hx, hb, hml, hown, ht⟩ (c_X4_letterAt l dC dI cI cJ r0 H.size s_r0 x3 (r_6 + x6) _ hw) (va_cwS 3 ht (g_S k_1101 k_1102 k_5 k_1103) rfl rfl rfl (by decide +kernel) ⟨(Nat.le_of_ble_eq_true rfl), (Nat.le_of_ble_eq_true rfl)⟩) hK hP hD hS hA [3] [0, 1, 2] rfl rfl (by decide) rfl hl.1 rfl (Nat.le_of_ble_eq_true rfl) ⟨(Nat.le_of_ble_eq_true rfl), (Nat.le_of_ble_eq_true rfl)⟩ dX4_clash_43 (fun r_7 u H locs hw hP hD hS => ?_)
          try dsimp only at hw
          have hP : va_P (dC, dI) vwCl [(o, .inr (4, [.ref o_now, .ref o_then, .ref o_past, .int s_kept, .ref o_text, .int s_typed, .int s_thrown, .int s_at, .int s_isFault, .int s_value, .ref o_told, .int s_tolds, .ref o_lit, .ref o_whole, .ref o_goes, .int s_isLaid, .ref o_latest])), (o_lit, .inl (cI, 96, .inl s_lit)), (o_goes, .inl (cI, 8, .inl s_goes)), (r0, .inl (cI, 87, .inl s_r0))] H := hP
          have hD : va_D A [(o, .inr (4, [.ref o_now, .ref o_then, .ref o_past, .int s_kept, .ref o_text, .int s_typed, .int s_thrown, .int s_at, .int s_isFault, .int s_value, .ref o_told, .int s_tolds, .ref o_lit, .ref o_whole, .ref o_goes, .int s_isLaid, .ref o_latest])), (o_lit, .inl (cI, 96, .inl s_lit)), (o_goes, .inl (cI, 8, .inl s_goes)), (r0, .inl (cI, 87, .inl s_r0))] := hD
          refine lv_istore (lv' := [(7, .int r_7), (0, .ref o), (1, .ref r0), (2, .int x2), (3, .int x3), (4, .int x4), (5, .int x5), (6, .int x6)]) hx hb dX4_clash_46 hl (by decide) rfl (fun ls hl => ?_)
          refine lv_iload hx hb dX4_clash_48 (lv_at hl 6 rfl) ?_
          refine lv_if_ne (tgt := 83) hx hb dX4_clash_50 (by decide) (fun hc => ?_) (fun hc => ?_)
          · have hw := hw.1 hc
            exact J83 x6 hw H locs ls hP hD hS (lv_sub (l' := [(0, .ref o), (1, .ref r0), (2, .int x2), (3, .int x3), (4, .int x4), (6, .int x6)]) hl [1, 2, 3, 4, 5, 7] rfl)
          · have hw := hw.2 hc
            refine lv_iload hx hb dX4_clash_53 (lv_at hl 0 rfl) ?_
            refine lv_iconst (v := (-1)) hx hb dX4_clash_55 (by decide) ?_
            refine lv_icmp_eq (tgt := 87) hx hb dX4_clash_56 (by decide) (fun hc => ?_) (fun hc => ?_)
            · have hw := hw.1 hc
              exact J87 x6 hw H locs ls hP hD hS (lv_sub (l' := [(0, .ref o), (1, .ref r0), (2, .int x2), (3, .int x3), (4, .int x4), (6, .int x6)]) hl [1, 2, 3, 4, 5, 7] rfl)
            · have hw := hw.2 hc
              refine lv_aload_n hx hb dX4_clash_59 rfl (lv_at hl 1 rfl) ?_
              refine lv_iload_n hx hb dX4_clash_60 rfl (lv_at hl 3 rfl) ?_
              refine lv_iload hx hb dX4_clash_61 (lv_at hl 7 rfl) ?_
              refine lv_iload hx hb dX4_clash_63 (lv_at hl 5 rfl) ?_
              refine gc_Vi (As := [.int x2, .int x6, .int x4]) (rest := []) (wr := [(r0, .inl (cI, 87, .inl s_r0))]) ⟨hx, hb, hml, hown, ht⟩ (c_X4_isSeen l dC dI cI cJ o o_now o_then o_past o_text o_told o_lit o_whole o_goes o_latest H.size s_lit s_goes s_kept s_typed s_thrown s_at s_isFault s_value s_tolds s_isLaid x2 x6 x4 _ hw) (cwV 3 ht (g_V k_1089 k_1091 k_s64 k_5 k_1092) rfl rfl rfl (by decide +kernel) ⟨(Nat.le_of_ble_eq_true rfl), (Nat.le_of_ble_eq_true rfl)⟩) hK hP hD hS hA [0, 1, 2] [3] rfl rfl (by decide) 0 rfl rfl rfl rfl hl.1 rfl (Nat.le_of_ble_eq_true rfl) ⟨(Nat.le_of_ble_eq_true rfl), (Nat.le_of_ble_eq_true rfl)⟩ dX4_clash_65 (fun r_8 u H locs hw hP hD hS => ?_)
              try dsimp only at hw
              have hP : va_P (dC, dI) vwCl [(r0, .inl (cI, 87, .inl s_r0)), (o, .inr (4, [.ref o_now, .ref o_then, .ref o_past, .int s_kept, .ref o_text, .int s_typed, .int s_thrown, .int s_at, .int s_isFault, .int s_value, .ref o_told, .int s_tolds, .ref o_lit, .ref o_whole, .ref o_goes, .int s_isLaid, .ref o_latest])), (o_lit, .inl (cI, 96, .inl s_lit)), (o_goes, .inl (cI, 8, .inl s_goes))] H := hP
              have hD : va_D A [(r0, .inl (cI, 87, .inl s_r0)), (o, .inr (4, [.ref o_now, .ref o_then, .ref o_past, .int s_kept, .ref o_text, .int s_typed, .int s_thrown, .int s_at, .int s_isFault, .int s_value, .ref o_told, .int s_tolds, .ref o_lit, .ref o_whole, .ref o_goes, .int s_isLaid, .ref o_latest])), (o_lit, .inl (cI, 96, .inl s_lit)), (o_goes, .inl (cI, 8, .inl s_goes))] := hD
              refine lv_if_eq (tgt := 87) hx hb dX4_clash_68 (by decide) (fun hc => ?_) (fun hc => ?_)
              · have hw := hw.1 hc
                exact J87 x6 hw H locs ls (hP.sub (ws' := [(o, .inr (4, [.ref o_now, .ref o_then, .ref o_past, .int s_kept, .ref o_text, .int s_typed, .int s_thrown, .int s_at, .int s_isFault, .int s_value, .ref o_told, .int s_tolds, .ref o_lit, .ref o_whole, .ref o_goes, .int s_isLaid, .ref o_latest])), (o_lit, .inl (cI, 96, .inl s_lit)), (o_goes, .inl (cI, 8, .inl s_goes)), (r0, .inl (cI, 87, .inl s_r0))]) [1, 2, 3, 0] rfl) (hD.sub (ws' := [(o, .inr (4, [.ref o_now, .ref o_then, .ref o_past, .int s_kept, .ref o_text, .int s_typed, .int s_thrown, .int s_at, .int s_isFault, .int s_value, .ref o_told, .int s_tolds, .ref o_lit, .ref o_whole, .ref o_goes, .int s_isLaid, .ref o_latest])), (o_lit, .inl (cI, 96, .inl s_lit)), (o_goes, .inl (cI, 8, .inl s_goes)), (r0, .inl (cI, 87, .inl s_r0))]) [1, 2, 3, 0] (by decide) rfl) hS (lv_sub (l' := [(0, .ref o), (1, .ref r0), (2, .int x2), (3, .int x3), (4, .int x4), (6, .int x6)]) hl [1, 2, 3, 4, 5, 7] rfl)
              · have hw := hw.2 hc
                refine lv_aload_n hx hb dX4_clash_71 rfl (lv_at hl 1 rfl) ?_
                refine lv_iload_n hx hb dX4_clash_72 rfl (lv_at hl 4 rfl) ?_
                refine lv_iload hx hb dX4_clash_73 (lv_at hl 0 rfl) ?_
                refine lv_iload hx hb dX4_clash_75 (lv_at hl 5 rfl) ?_
                refine gc_Vi (As := [.int x3, .int r_7, .int x4]) (rest := []) (wr := [(r0, .inl (cI, 87, .inl s_r0))]) ⟨hx, hb, hml, hown, ht⟩ (c_X4_isSeen l dC dI cI cJ o o_now o_then o_past o_text o_told o_lit o_whole o_goes o_latest H.size s_lit s_goes s_kept s_typed s_thrown s_at s_isFault s_value s_tolds s_isLaid x3 r_7 x4 _ hw) (cwV 3 ht (g_V k_1089 k_1091 k_s64 k_5 k_1092) rfl rfl rfl (by decide +kernel) ⟨(Nat.le_of_ble_eq_true rfl), (Nat.le_of_ble_eq_true rfl)⟩) hK hP hD hS hA [1, 2, 3] [0] rfl rfl (by decide) 1 rfl rfl rfl rfl hl.1 rfl (Nat.le_of_ble_eq_true rfl) ⟨(Nat.le_of_ble_eq_true rfl), (Nat.le_of_ble_eq_true rfl)⟩ dX4_clash_77 (fun r_9 u H locs hw hP hD hS => ?_)
                try dsimp only at hw
                have hP : va_P (dC, dI) vwCl [(r0, .inl (cI, 87, .inl s_r0)), (o, .inr (4, [.ref o_now, .ref o_then, .ref o_past, .int s_kept, .ref o_text, .int s_typed, .int s_thrown, .int s_at, .int s_isFault, .int s_value, .ref o_told, .int s_tolds, .ref o_lit, .ref o_whole, .ref o_goes, .int s_isLaid, .ref o_latest])), (o_lit, .inl (cI, 96, .inl s_lit)), (o_goes, .inl (cI, 8, .inl s_goes))] H := hP
                have hD : va_D A [(r0, .inl (cI, 87, .inl s_r0)), (o, .inr (4, [.ref o_now, .ref o_then, .ref o_past, .int s_kept, .ref o_text, .int s_typed, .int s_thrown, .int s_at, .int s_isFault, .int s_value, .ref o_told, .int s_tolds, .ref o_lit, .ref o_whole, .ref o_goes, .int s_isLaid, .ref o_latest])), (o_lit, .inl (cI, 96, .inl s_lit)), (o_goes, .inl (cI, 8, .inl s_goes))] := hD
                refine lv_if_eq (tgt := 87) hx hb dX4_clash_80 (by decide) (fun hc => ?_) (fun hc => ?_)
                · have hw := hw.1 hc
                  exact J87 x6 hw H locs ls (hP.sub (ws' := [(o, .inr (4, [.ref o_now, .ref o_then, .ref o_past, .int s_kept, .ref o_text, .int s_typed, .int s_thrown, .int s_at, .int s_isFault, .int s_value, .ref o_told, .int s_tolds, .ref o_lit, .ref o_whole, .ref o_goes, .int s_isLaid, .ref o_latest])), (o_lit, .inl (cI, 96, .inl s_lit)), (o_goes, .inl (cI, 8, .inl s_goes)), (r0, .inl (cI, 87, .inl s_r0))]) [1, 2, 3, 0] rfl) (hD.sub (ws' := [(o, .inr (4, [.ref o_now, .ref o_then, .ref o_past, .int s_kept, .ref o_text, .int s_typed, .int s_thrown, .int s_at, .int s_isFault, .int s_value, .ref o_told, .int s_tolds, .ref o_lit, .ref o_whole, .ref o_goes, .int s_isLaid, .ref o_latest])), (o_lit, .inl (cI, 96, .inl s_lit)), (o_goes, .inl (cI, 8, .inl s_goes)), (r0, .inl (cI, 87, .inl s_r0))]) [1, 2, 3, 0] (by decide) rfl) hS (lv_sub (l' := [(0, .ref o), (1, .ref r0), (2, .int x2), (3, .int x3), (4, .int x4), (6, .int x6)]) hl [1, 2, 3, 4, 5, 7] rfl)
                · have hw := hw.2 hc
                  exact J83 x6 hw H locs ls (hP.sub (ws' := [(o, .inr (4, [.ref o_now, .ref o_then, .ref o_past, .int s_kept, .ref o_text, .int s_typed, .int s_thrown, .int s_at, .int s_isFault, .int s_value, .ref o_told, .int s_tolds, .ref o_lit, .ref o_whole, .ref o_goes, .int s_isLaid, .ref o_latest])), (o_lit, .inl (cI, 96, .inl s_lit)), (o_goes, .inl (cI, 8, .inl s_goes)), (r0, .inl (cI, 87, .inl s_r0))]) [1, 2, 3, 0] rfl) (hD.sub (ws' := [(o, .inr (4, [.ref o_now, .ref o_then, .ref o_past, .int s_kept, .ref o_text, .int s_typed, .int s_thrown, .int s_at, .int s_isFault, .int s_value, .ref o_told, .int s_tolds, .ref o_lit, .ref o_whole, .ref o_goes, .int s_isLaid, .ref o_latest])), (o_lit, .inl (cI, 96, .inl s_lit)), (o_goes, .inl (cI, 8, .inl s_goes)), (r0, .inl (cI, 87, .inl s_r0))]) [1, 2, 3, 0] (by decide) rfl) hS (lv_sub (l' := [(0, .ref o), (1, .ref r0), (2, .int x2), (3, .int x3), (4, .int x4), (6, .int x6)]) hl [1, 2, 3, 4, 5, 7] rfl)
  obtain ⟨H, hHH⟩ : ∃ H, H = s.heap := ⟨_, rfl⟩
  rw [← hHH] at hP ⊢
  have hS : va_S A s.heap H [] := by rw [hHH]; exact hS
  clear hHH
  generalize ([] : List Loc) = locs at hS ⊢
  unfold P_X4_clash at hw
  refine lv_iconst (v := 0) hx hb dX4_clash_0 (by decide) ?_
  refine lv_istore (lv' := [(5, .int 0), (0, .ref o), (1, .ref r0), (2, .int p1), (3, .int p2), (4, .int p3)]) hx hb dX4_clash_1 hl (by decide) rfl (fun ls hl => ?_)
  refine lv_iconst (v := 0) hx hb dX4_clash_3 (by decide) ?_
  refine lv_istore (lv' := [(6, .int 0), (5, .int 0), (0, .ref o), (1, .ref r0), (2, .int p1), (3, .int p2), (4, .int p3)]) hx hb dX4_clash_4 hl (by decide) rfl (fun ls hl => ?_)
  obtain ⟨n, hw⟩ := hw
  exact L6 p1 p2 p3 n 0 0 hw H locs ls hP hD hS (lv_sub (l' := [(0, .ref o), (1, .ref r0), (2, .int p1), (3, .int p2), (4, .int p3), (5, .int 0), (6, .int 0)]) hl [2, 3, 4, 5, 6, 1, 0] rfl)
abbrev rm_X4_clashes : Room := { frames := 3, cells := 0, slots := 0, locals := 72 }
set_option maxHeartbeats 4000000 in
set_option maxRecDepth 100000 in
theorem c_X4_clashes (l : Launch) (dC : Nat → ClassId) (dI : Nat → Nat → Nat) (cI cJ : ClassId) (o o_now o_then o_past o_text o_told o_lit o_whole o_goes o_latest r0 : Nat) (sz : Nat) (s_lit : Nat → Int32) (s_goes : Nat → Int32) (s_r0 : Nat → Int32) (s_kept : Int32) (s_typed : Int32) (s_thrown : Int32) (s_at : Int32) (s_isFault : Int32) (s_value : Int32) (s_tolds : Int32) (s_isLaid : Int32) (p1 : Int32) (Q : Int32 → Prop) (hw : P_X4_clashes p1 s_lit s_goes s_r0 Q) : Met l yX4_clashes (Cond.code yX4_clashes cX4_clashes 6 (some .int) :: TBL) rm_X4_clashes (gPc (dC, dI) vwCl (gTy cI cJ) [.ref o, .ref r0, .int p1] [(o, .inr (4, [.ref o_now, .ref o_then, .ref o_past, .int s_kept, .ref o_text, .int s_typed, .int s_thrown, .int s_at, .int s_isFault, .int s_value, .ref o_told, .int s_tolds, .ref o_lit, .ref o_whole, .ref o_goes, .int s_isLaid, .ref o_latest])), (o_lit, .inl (cI, 96, .inl s_lit)), (o_goes, .inl (cI, 8, .inl s_goes)), (r0, .inl (cI, 87, .inl s_r0))] sz) (va_Qi (fun (r : Int32) (u : Unit) => Q r ) (gB (dC, dI) vwCl (gTy cI cJ) (va_A [(o, .inr (4, [.ref o_now, .ref o_then, .ref o_past, .int s_kept, .ref o_text, .int s_typed, .int s_thrown, .int s_at, .int s_isFault, .int s_value, .ref o_told, .int s_tolds, .ref o_lit, .ref o_whole, .ref o_goes, .int s_isLaid, .ref o_latest])), (o_lit, .inl (cI, 96, .inl s_lit)), (o_goes, .inl (cI, 8, .inl s_goes)), (r0, .inl (cI, 87, .inl s_r0))] sz) (fun (u : Unit) => [(o, .inr (4, [.ref o_now, .ref o_then, .ref o_past, .int s_kept, .ref o_text, .int s_typed, .int s_thrown, .int s_at, .int s_isFault, .int s_value, .ref o_told, .int s_tolds, .ref o_lit, .ref o_whole, .ref o_goes, .int s_isLaid, .ref o_latest])), (o_lit, .inl (cI, 96, .inl s_lit)), (o_goes, .inl (cI, 8, .inl s_goes)), (r0, .inl (cI, 87, .inl s_r0))])) (va_A [(o, .inr (4, [.ref o_now, .ref o_then, .ref o_past, .int s_kept, .ref o_text, .int s_typed, .int s_thrown, .int s_at, .int s_isFault, .int s_value, .ref o_told, .int s_tolds, .ref o_lit, .ref o_whole, .ref o_goes, .int s_isLaid, .ref o_latest])), (o_lit, .inl (cI, 96, .inl s_lit)), (o_goes, .inl (cI, 8, .inl s_goes)), (r0, .inl (cI, 87, .inl s_r0))] sz)) 0 0 (va_A [(o, .inr (4, [.ref o_now, .ref o_then, .ref o_past, .int s_kept, .ref o_text, .int s_typed, .int s_thrown, .int s_at, .int s_isFault, .int s_value, .ref o_told, .int s_tolds, .ref o_lit, .ref o_whole, .ref o_goes, .int s_isLaid, .ref o_latest])), (o_lit, .inl (cI, 96, .inl s_lit)), (o_goes, .inl (cI, 8, .inl s_goes)), (r0, .inl (cI, 87, .inl s_r0))] sz) := by
  refine Met.ofW (cc := cX4_clashes) (maxL := 6) (ret := (some .int)) (by decide) rfl ?_
  intro p e s m args below meth c s₁ B hml hv
  obtain ⟨rfl, hsz, hP, hK, hD0⟩ := hv
  have hx := B.exec
  have hb := B.bytes
  have hr := B.returns
  have hts := atoms_spec (ws := Cond.code yX4_clashes cX4_clashes 6 (some .int) :: TBL) B.pre
  have ht : ∀ w ∈ TBL, w.before ([.ref o, .ref r0, .int p1] : List Value).toArray s = true := fun w h => hts w (List.mem_cons_of_mem _ h)
  clear hts
  have hown : s.vm.findClass RX4 = some m.cls := findClass_of_methodNamed B.named
  have hlocks := B.notSynchronized
  clear B
  subst hsz
  have hD := hD0.self (sz := s.heap.size)
  clear hD0
  generalize hAe : va_A [(o, .inr (4, [.ref o_now, .ref o_then, .ref o_past, .int s_kept, .ref o_text, .int s_typed, .int s_thrown, .int s_at, .int s_isFault, .int s_value, .ref o_told, .int s_tolds, .ref o_lit, .ref o_whole, .ref o_goes, .int s_isLaid, .ref o_latest])), (o_lit, .inl (cI, 96, .inl s_lit)), (o_goes, .inl (cI, 8, .inl s_goes)), (r0, .inl (cI, 87, .inl s_r0))] s.heap.size = A at hD ⊢
  have hA : ∀ q : Nat, s.heap.size ≤ q → A q := fun q h => by rw [← hAe]; exact Or.inr h
  clear hAe
  have hS : va_S A s.heap s.heap [] := va_S.rf
  have hP : va_P (dC, dI) vwCl [(o, .inr (4, [.ref o_now, .ref o_then, .ref o_past, .int s_kept, .ref o_text, .int s_typed, .int s_thrown, .int s_at, .int s_isFault, .int s_value, .ref o_told, .int s_tolds, .ref o_lit, .ref o_whole, .ref o_goes, .int s_isLaid, .ref o_latest])), (o_lit, .inl (cI, 96, .inl s_lit)), (o_goes, .inl (cI, 8, .inl s_goes)), (r0, .inl (cI, 87, .inl s_r0))] s.heap := hP
  have hl := lv_entry ([.ref o, .ref r0, .int p1]) (n := 6) (Nat.le_of_ble_eq_true rfl)
  rw [lg_entry_eq]
  generalize (lg_sl ([.ref o, .ref r0, .int p1]) ++ List.replicate (6 - (lg_sl ([.ref o, .ref r0, .int p1])).length) Slot.unset).toArray = ls at hl ⊢
  have hl : lv_has ls 6 [(0, .ref o), (1, .ref r0), (2, .int p1)] := hl
  generalize hQQ : MQ below _ _ _ 0 0 A = QQ
  show W p l e rm_X4_clashes s m ([.ref o, .ref r0, .int p1] : List Value).toArray below meth c s.heap [] 0 0 QQ (F0 m 0 ls [])
  have L5 : ∀ (x2 : Int32), ∀ (n : Nat) (x3 : Int32) (x4 : Int32), P_X4_clashes_L5 x2 s_lit s_goes s_r0 Q n x3 x4 → ∀ (H : Heap) (locs : List Loc) (ls : Array Slot), va_P (dC, dI) vwCl [(o, .inr (4, [.ref o_now, .ref o_then, .ref o_past, .int s_kept, .ref o_text, .int s_typed, .int s_thrown, .int s_at, .int s_isFault, .int s_value, .ref o_told, .int s_tolds, .ref o_lit, .ref o_whole, .ref o_goes, .int s_isLaid, .ref o_latest])), (o_lit, .inl (cI, 96, .inl s_lit)), (o_goes, .inl (cI, 8, .inl s_goes)), (r0, .inl (cI, 87, .inl s_r0))] H → va_D A [(o, .inr (4, [.ref o_now, .ref o_then, .ref o_past, .int s_kept, .ref o_text, .int s_typed, .int s_thrown, .int s_at, .int s_isFault, .int s_value, .ref o_told, .int s_tolds, .ref o_lit, .ref o_whole, .ref o_goes, .int s_isLaid, .ref o_latest])), (o_lit, .inl (cI, 96, .inl s_lit)), (o_goes, .inl (cI, 8, .inl s_goes)), (r0, .inl (cI, 87, .inl s_r0))] → va_S A s.heap H locs → lv_has ls 6 [(0, .ref o), (1, .ref r0), (2, .int x2), (3, .int x3), (4, .int x4)] → W p l e rm_X4_clashes s m ([.ref o, .ref r0, .int p1] : List Value).toArray below meth c H locs 0 0 QQ (F0 m 5 ls []) := by
    intro x2
    intro n
    induction n with
    | zero => intro x3 x4 hw; rw [P_X4_clashes_L5_z] at hw; exact hw.elim
    | succ n ih =>
      intro x3 x4 hw
      rw [P_X4_clashes_L5_s] at hw
      generalize hrec : P_X4_clashes_L5 x2 s_lit s_goes s_r0 Q n = rec5 at ih hw
      have L16 : ∀ (x2 : Int32) (x4 : Int32) (K16_50 : Int32 → Prop), (∀ (x3 : Int32), K16_50 x3 → ∀ (H : Heap) (locs : List Loc) (ls : Array Slot), va_P (dC, dI) vwCl [(o, .inr (4, [.ref o_now, .ref o_then, .ref o_past, .int s_kept, .ref o_text, .int s_typed, .int s_thrown, .int s_at, .int s_isFault, .int s_value, .ref o_told, .int s_tolds, .ref o_lit, .ref o_whole, .ref o_goes, .int s_isLaid, .ref o_latest])), (o_lit, .inl (cI, 96, .inl s_lit)), (o_goes, .inl (cI, 8, .inl s_goes)), (r0, .inl (cI, 87, .inl s_r0))] H → va_D A [(o, .inr (4, [.ref o_now, .ref o_then, .ref o_past, .int s_kept, .ref o_text, .int s_typed, .int s_thrown, .int s_at, .int s_isFault, .int s_value, .ref o_told, .int s_tolds, .ref o_lit, .ref o_whole, .ref o_goes, .int s_isLaid, .ref o_latest])), (o_lit, .inl (cI, 96, .inl s_lit)), (o_goes, .inl (cI, 8, .inl s_goes)), (r0, .inl (cI, 87, .inl s_r0))] → va_S A s.heap H locs → lv_has ls 6 [(0, .ref o), (1, .ref r0), (2, .int x2), (3, .int x3), (4, .int x4)] → W p l e rm_X4_clashes s m ([.ref o, .ref r0, .int p1] : List Value).toArray below meth c H locs 0 0 QQ (F0 m 50 ls [])) → ∀ (n : Nat) (x3 : Int32) (x5 : Int32), P_X4_clashes_L16 x2 x4 s_lit s_goes s_r0 K16_50 n x3 x5 → ∀ (H : Heap) (locs : List Loc) (ls : Array Slot), va_P (dC, dI) vwCl [(o, .inr (4, [.ref o_now, .ref o_then, .ref o_past, .int s_kept, .ref o_text, .int s_typed, .int s_thrown, .int s_at, .int s_isFault, .int s_value, .ref o_told, .int s_tolds, .ref o_lit, .ref o_whole, .ref o_goes, .int s_isLaid, .ref o_latest])), (o_lit, .inl (cI, 96, .inl s_lit)), (o_goes, .inl (cI, 8, .inl s_goes)), (r0, .inl (cI, 87, .inl s_r0))] H → va_D A [(o, .inr (4, [.ref o_now, .ref o_then, .ref o_past, .int s_kept, .ref o_text, .int s_typed, .int s_thrown, .int s_at, .int s_isFault, .int s_value, .ref o_told, .int s_tolds, .ref o_lit, .ref o_whole, .ref o_goes, .int s_isLaid, .ref o_latest])), (o_lit, .inl (cI, 96, .inl s_lit)), (o_goes, .inl (cI, 8, .inl s_goes)), (r0, .inl (cI, 87, .inl s_r0))] → va_S A s.heap H locs → lv_has ls 6 [(0, .ref o), (1, .ref r0), (2, .int x2), (3, .int x3), (4, .int x4), (5, .int x5)] → W p l e rm_X4_clashes s m ([.ref o, .ref r0, .int p1] : List Value).toArray below meth c H locs 0 0 QQ (F0 m 16 ls []) := by
        intro x2 x4 K16_50 hK16_50
        intro n
        induction n with
        | zero => intro x3 x5 hw; rw [P_X4_clashes_L16_z] at hw; exact hw.elim
        | succ n ih =>
          intro x3 x5 hw
          rw [P_X4_clashes_L16_s] at hw
          generalize hrec : P_X4_clashes_L16 x2 x4 s_lit s_goes s_r0 K16_50 n = rec16 at ih hw
          have J42 : ∀ (x5 : Int32) (t0 : Int32) (t1 : Int32), P_X4_clashes_J42 rec16 x5 t0 t1 → ∀ (H : Heap) (locs : List Loc) (ls : Array Slot), va_P (dC, dI) vwCl [(o, .inr (4, [.ref o_now, .ref o_then, .ref o_past, .int s_kept, .ref o_text, .int s_typed, .int s_thrown, .int s_at, .int s_isFault, .int s_value, .ref o_told, .int s_tolds, .ref o_lit, .ref o_whole, .ref o_goes, .int s_isLaid, .ref o_latest])), (o_lit, .inl (cI, 96, .inl s_lit)), (o_goes, .inl (cI, 8, .inl s_goes)), (r0, .inl (cI, 87, .inl s_r0))] H → va_D A [(o, .inr (4, [.ref o_now, .ref o_then, .ref o_past, .int s_kept, .ref o_text, .int s_typed, .int s_thrown, .int s_at, .int s_isFault, .int s_value, .ref o_told, .int s_tolds, .ref o_lit, .ref o_whole, .ref o_goes, .int s_isLaid, .ref o_latest])), (o_lit, .inl (cI, 96, .inl s_lit)), (o_goes, .inl (cI, 8, .inl s_goes)), (r0, .inl (cI, 87, .inl s_r0))] → va_S A s.heap H locs → lv_has ls 6 [(0, .ref o), (1, .ref r0), (2, .int x2), (4, .int x4), (5, .int x5)] → W p l e rm_X4_clashes s m ([.ref o, .ref r0, .int p1] : List Value).toArray below meth c H locs 0 0 QQ (F0 m 42 ls [.int t0, .int t1]) := by
            intro x5 t0 t1 hw H locs ls hP hD hS hl
            unfold P_X4_clashes_J42 at hw
            refine lv_iadd hx hb dX4_clashes_42 ?_
            refine lv_istore_n (lv' := [(3, .int (t1 + t0)), (0, .ref o), (1, .ref r0), (2, .int x2), (4, .int x4), (5, .int x5)]) hx hb dX4_clashes_43 rfl hl (by decide) rfl (fun ls hl => ?_)
            refine lv_iinc (v := (x5 + 1)) (lv' := [(5, .int (x5 + 1)), (3, .int (t1 + t0)), (0, .ref o), (1, .ref r0), (2, .int x2), (4, .int x4)]) hx hb dX4_clashes_44 hl (k := 5) rfl rfl (by decide) rfl (fun ls hl => ?_)
            refine lv_goto (tgt := 16) hx hb dX4_clashes_47 (by decide) ?_
            exact ih (t1 + t0) (x5 + 1) hw H locs ls hP hD hS (lv_sub (l' := [(0, .ref o), (1, .ref r0), (2, .int x2), (3, .int (t1 + t0)), (4, .int x4), (5, .int (x5 + 1))]) hl [2, 3, 4, 1, 5, 0] rfl)
          intro H locs ls hP hD hS hl
          unfold B_X4_clashes_L16 at hw
          refine lv_iload hx hb dX4_clashes_16 (lv_at hl 5 rfl) ?_
          refine lv_iload hx hb dX4_clashes_18 (lv_at hl 4 rfl) ?_
          refine lv_icmp_ge (tgt := 50) hx hb dX4_clashes_20 (by decide) (fun hc => ?_) (fun hc => ?_)
          · have hw := hw.1 hc
            exact hK16_50 x3 hw H locs ls hP hD hS (lv_sub (l' := [(0, .ref o), (1, .ref r0), (2, .int x2), (3, .int x3), (4, .int x4)]) hl [0, 1, 2, 3, 4] rfl)
          · have hw := hw.2 hc
            refine lv_iload_n hx hb dX4_clashes_23 rfl (lv_at hl 3 rfl) ?_
            refine lv_aload_n hx hb dX4_clashes_24 rfl (lv_at hl 0 rfl) ?_
            refine lv_aload_n hx hb dX4_clashes_25 rfl (lv_at hl 1 rfl) ?_
            refine lv_iload hx hb dX4_clashes_26 (lv_at hl 4 rfl) ?_
            refine lv_iload hx hb dX4_clashes_28 (lv_at hl 5 rfl) ?_
            refine lv_iload_n hx hb dX4_clashes_30 rfl (lv_at hl 2 rfl) ?_
            refine gc_Vi (As := [.ref r0, .int x4, .int x5, .int x2]) (rest := [.int x3]) (wr := []) ⟨hx, hb, hml, hown, ht⟩ (c_X4_clash l dC dI cI cJ o o_now o_then o_past o_text o_told o_lit o_whole o_goes o_latest r0 H.size s_lit s_goes s_r0 s_kept s_typed s_thrown s_at s_isFault s_value s_tolds s_isLaid x4 x5 x2 _ hw) (cwV 4 ht (g_V k_1097 k_1099 k_s66 k_5 k_1100) rfl rfl rfl (by decide +kernel) ⟨(Nat.le_of_ble_eq_true rfl), (Nat.le_of_ble_eq_true rfl)⟩) hK hP hD hS hA [0, 1, 2, 3] [] rfl rfl (by decide) 0 rfl rfl rfl rfl hl.1 rfl (Nat.le_of_ble_eq_true rfl) ⟨(Nat.le_of_ble_eq_true rfl), (Nat.le_of_ble_eq_true rfl)⟩ dX4_clashes_31 (fun r_1 u H locs hw hP hD hS => ?_)
            try dsimp only at hw
            have hP : va_P (dC, dI) vwCl [(o, .inr (4, [.ref o_now, .ref o_then, .ref o_past, .int s_kept, .ref o_text, .int s_typed, .int s_thrown, .int s_at, .int s_isFault, .int s_value, .ref o_told, .int s_tolds, .ref o_lit, .ref o_whole, .ref o_goes, .int s_isLaid, .ref o_latest])), (o_lit, .inl (cI, 96, .inl s_lit)), (o_goes, .inl (cI, 8, .inl s_goes)), (r0, .inl (cI, 87, .inl s_r0))] H := hP
            have hD : va_D A [(o, .inr (4, [.ref o_now, .ref o_then, .ref o_past, .int s_kept, .ref o_text, .int s_typed, .int s_thrown, .int s_at, .int s_isFault, .int s_value, .ref o_told, .int s_tolds, .ref o_lit, .ref o_whole, .ref o_goes, .int s_isLaid, .ref o_latest])), (o_lit, .inl (cI, 96, .inl s_lit)), (o_goes, .inl (cI, 8, .inl s_goes)), (r0, .inl (cI, 87, .inl s_r0))] := hD
            refine lv_if_eq (tgt := 41) hx hb dX4_clashes_34 (by decide) (fun hc => ?_) (fun hc => ?_)
            · have hw := hw.1 hc
              refine lv_iconst (v := 0) hx hb dX4_clashes_41 (by decide) ?_
              exact J42 x5 0 x3 hw H locs ls hP hD hS (lv_sub (l' := [(0, .ref o), (1, .ref r0), (2, .int x2), (4, .int x4), (5, .int x5)]) hl [0, 1, 2, 4, 5] rfl)
            · have hw := hw.2 hc
              refine lv_iconst (v := 1) hx hb dX4_clashes_37 (by decide) ?_
              refine lv_goto (tgt := 42) hx hb dX4_clashes_38 (by decide) ?_
              exact J42 x5 1 x3 hw H locs ls hP hD hS (lv_sub (l' := [(0, .ref o), (1, .ref r0), (2, .int x2), (4, .int x4), (5, .int x5)]) hl [0, 1, 2, 4, 5] rfl)
      intro H locs ls hP hD hS hl
      unfold B_X4_clashes_L5 at hw
      refine lv_iload hx hb dX4_clashes_5 (lv_at hl 4 rfl) ?_
      refine lv_aload_n hx hb dX4_clashes_7 rfl (lv_at hl 1 rfl) ?_
      refine lv_iconst (v := 2) hx hb dX4_clashes_8 (by decide) ?_
      refine gv_iald hx hb hK hP 3 0 rfl rfl (k := 2) (by decide) (by unfold vp_in; decide) dX4_clashes_9 ?_
      refine lv_icmp_ge (tgt := 56) hx hb dX4_clashes_10 (by decide) (fun hc => ?_) (fun hc => ?_)
      · have hw := hw.1 hc
        refine lv_iload_n hx hb dX4_clashes_56 rfl (lv_at hl 3 rfl) ?_
        rw [← hQQ]
        exact g_reti (v := x3) (u := ()) hx hb hr rfl hlocks hw hP hK hD hS dX4_clashes_57
      · have hw := hw.2 hc
        refine lv_iconst (v := 0) hx hb dX4_clashes_13 (by decide) ?_
        refine lv_istore (lv' := [(5, .int 0), (0, .ref o), (1, .ref r0), (2, .int x2), (3, .int x3), (4, .int x4)]) hx hb dX4_clashes_14 hl (by decide) rfl (fun ls hl => ?_)
        obtain ⟨n, hw⟩ := hw
        refine L16 x2 x4 _ (fun x3_2 hw H locs ls hP hD hS hl => ?_) n x3 0 hw H locs ls hP hD hS (lv_sub (l' := [(0, .ref o), (1, .ref r0), (2, .int x2), (3, .int x3), (4, .int x4), (5, .int 0)]) hl [1, 2, 3, 4, 5, 0] rfl)
        refine lv_iinc (v := (x4 + 1)) (lv' := [(4, .int (x4 + 1)), (0, .ref o), (1, .ref r0), (2, .int x2), (3, .int x3_2)]) hx hb dX4_clashes_50 hl (k := 4) rfl rfl (by decide) rfl (fun ls hl => ?_)
        refine lv_goto (tgt := 5) hx hb dX4_clashes_53 (by decide) ?_
        exact ih x3_2 (x4 + 1) hw H locs ls hP hD hS (lv_sub (l' := [(0, .ref o), (1, .ref r0), (2, .int x2), (3, .int x3_2), (4, .int (x4 + 1))]) hl [1, 2, 3, 4, 0] rfl)
  obtain ⟨H, hHH⟩ : ∃ H, H = s.heap := ⟨_, rfl⟩
  rw [← hHH] at hP ⊢
  have hS : va_S A s.heap H [] := by rw [hHH]; exact hS
  clear hHH
  generalize ([] : List Loc) = locs at hS ⊢
  unfold P_X4_clashes at hw
  refine lv_iconst (v := 0) hx hb dX4_clashes_0 (by decide) ?_
  refine lv_istore_n (lv' := [(3, .int 0), (0, .ref o), (1, .ref r0), (2, .int p1)]) hx hb dX4_clashes_1 rfl hl (by decide) rfl (fun ls hl => ?_)
  refine lv_iconst (v := 0) hx hb dX4_clashes_2 (by decide) ?_
  refine lv_istore (lv' := [(4, .int 0), (3, .int 0), (0, .ref o), (1, .ref r0), (2, .int p1)]) hx hb dX4_clashes_3 hl (by decide) rfl (fun ls hl => ?_)
  obtain ⟨n, hw⟩ := hw
  exact L5 p1 n 0 0 hw H locs ls hP hD hS (lv_sub (l' := [(0, .ref o), (1, .ref r0), (2, .int p1), (3, .int 0), (4, .int 0)]) hl [2, 3, 4, 1, 0] rfl)
abbrev rm_X4_letters : Room := { frames := 1, cells := 0, slots := 0, locals := 22 }
set_option maxHeartbeats 4000000 in
set_option maxRecDepth 100000 in
theorem c_X4_letters (l : Launch) (dC : Nat → ClassId) (dI : Nat → Nat → Nat) (cI cJ : ClassId) (r0 : Nat) (sz : Nat) (s_r0 : Nat → Int32)  (Q : Int32 → Prop) (hw : P_X4_letters s_r0 Q) : Met l yX4_letters (Cond.code yX4_letters cX4_letters 3 (some .int) :: TBL) rm_X4_letters (gPc (dC, dI) vwCl (gTy cI cJ) [.ref r0] [(r0, .inl (cI, 87, .inl s_r0))] sz) (va_Qi (fun (r : Int32) (u : Unit) => Q r ) (gB (dC, dI) vwCl (gTy cI cJ) (va_A [(r0, .inl (cI, 87, .inl s_r0))] sz) (fun (u : Unit) => [(r0, .inl (cI, 87, .inl s_r0))])) (va_A [(r0, .inl (cI, 87, .inl s_r0))] sz)) 0 0 (va_A [(r0, .inl (cI, 87, .inl s_r0))] sz) := by
  refine Met.ofW (cc := cX4_letters) (maxL := 3) (ret := (some .int)) (by decide) rfl ?_
  intro p e s m args below meth c s₁ B hml hv
  obtain ⟨rfl, hsz, hP, hK, hD0⟩ := hv
  have hx := B.exec
  have hb := B.bytes
  have hr := B.returns
  have hts := atoms_spec (ws := Cond.code yX4_letters cX4_letters 3 (some .int) :: TBL) B.pre
  have ht : ∀ w ∈ TBL, w.before ([.ref r0] : List Value).toArray s = true := fun w h => hts w (List.mem_cons_of_mem _ h)
  clear hts
  have hown : s.vm.findClass RX4 = some m.cls := findClass_of_methodNamed B.named
  have hlocks := B.notSynchronized
  clear B
  subst hsz
  have hD := hD0.self (sz := s.heap.size)
  clear hD0
  generalize hAe : va_A [(r0, .inl (cI, 87, .inl s_r0))] s.heap.size = A at hD ⊢
  have hA : ∀ q : Nat, s.heap.size ≤ q → A q := fun q h => by rw [← hAe]; exact Or.inr h
  clear hAe
  have hS : va_S A s.heap s.heap [] := va_S.rf
  have hP : va_P (dC, dI) vwCl [(r0, .inl (cI, 87, .inl s_r0))] s.heap := hP
  have hl := lv_entry ([.ref r0]) (n := 3) (Nat.le_of_ble_eq_true rfl)
  rw [lg_entry_eq]
  generalize (lg_sl ([.ref r0]) ++ List.replicate (3 - (lg_sl ([.ref r0])).length) Slot.unset).toArray = ls at hl ⊢
  have hl : lv_has ls 3 [(0, .ref r0)] := hl
  generalize hQQ : MQ below _ _ _ 0 0 A = QQ
  show W p l e rm_X4_letters s m ([.ref r0] : List Value).toArray below meth c s.heap [] 0 0 QQ (F0 m 0 ls [])
  have L4 : ∀ (n : Nat) (x1 : Int32) (x2 : Int32), P_X4_letters_L4 s_r0 Q n x1 x2 → ∀ (H : Heap) (locs : List Loc) (ls : Array Slot), va_P (dC, dI) vwCl [(r0, .inl (cI, 87, .inl s_r0))] H → va_D A [(r0, .inl (cI, 87, .inl s_r0))] → va_S A s.heap H locs → lv_has ls 3 [(0, .ref r0), (1, .int x1), (2, .int x2)] → W p l e rm_X4_letters s m ([.ref r0] : List Value).toArray below meth c H locs 0 0 QQ (F0 m 4 ls []) := by
    intro n
    induction n with
    | zero => intro x1 x2 hw; rw [P_X4_letters_L4_z] at hw; exact hw.elim
    | succ n ih =>
      intro x1 x2 hw
      rw [P_X4_letters_L4_s] at hw
      generalize hrec : P_X4_letters_L4 s_r0 Q n = rec4 at ih hw
      intro H locs ls hP hD hS hl
      unfold B_X4_letters_L4 at hw
      refine lv_iload_n hx hb dX4_letters_4 rfl (lv_at hl 2 rfl) ?_
      refine lv_aload_n hx hb dX4_letters_5 rfl (lv_at hl 0 rfl) ?_
      refine lv_iconst (v := 2) hx hb dX4_letters_6 (by decide) ?_
      refine gv_iald hx hb hK hP 0 0 rfl rfl (k := 2) (by decide) (by unfold vp_in; decide) dX4_letters_7 ?_
      refine lv_icmp_ge (tgt := 26) hx hb dX4_letters_8 (by decide) (fun hc => ?_) (fun hc => ?_)
      · have hw := hw.1 hc
        refine lv_iload_n hx hb dX4_letters_26 rfl (lv_at hl 1 rfl) ?_
        rw [← hQQ]
        exact g_reti (v := x1) (u := ()) hx hb hr rfl hlocks hw hP hK hD hS dX4_letters_27
      · have hw := hw.2 hc
        refine lv_iload_n hx hb dX4_letters_11 rfl (lv_at hl 1 rfl) ?_
        refine lv_aload_n hx hb dX4_letters_12 rfl (lv_at hl 0 rfl) ?_
        refine lv_iload_n hx hb dX4_letters_13 rfl (lv_at hl 2 rfl) ?_
        refine lv_iconst (v := 0) hx hb dX4_letters_14 (by decide) ?_
        refine gc_Si (As := [.ref r0, .int x2, .int 0]) (rest := [.int x1]) (wr := []) ⟨hx, hb, hml, hown, ht⟩ (c_X4_of l dC dI cI cJ r0 H.size s_r0 x2 0 _ hw) (va_cwS 3 ht (g_S k_964 k_965 k_5 k_966) rfl rfl rfl (by decide +kernel) ⟨(Nat.le_of_ble_eq_true rfl), (Nat.le_of_ble_eq_true rfl)⟩) hK hP hD hS hA [0] [] rfl rfl (by decide) rfl hl.1 rfl (Nat.le_of_ble_eq_true rfl) ⟨(Nat.le_of_ble_eq_true rfl), (Nat.le_of_ble_eq_true rfl)⟩ dX4_letters_15 (fun r_1 u H locs hw hP hD hS => ?_)
        try dsimp only at hw
        have hP : va_P (dC, dI) vwCl [(r0, .inl (cI, 87, .inl s_r0))] H := hP
        have hD : va_D A [(r0, .inl (cI, 87, .inl s_r0))] := hD
        refine lv_iadd hx hb dX4_letters_18 ?_
        refine lv_istore_n (lv' := [(1, .int (x1 + r_1)), (0, .ref r0), (2, .int x2)]) hx hb dX4_letters_19 rfl hl (by decide) rfl (fun ls hl => ?_)
        refine lv_iinc (v := (x2 + 1)) (lv' := [(2, .int (x2 + 1)), (1, .int (x1 + r_1)), (0, .ref r0)]) hx hb dX4_letters_20 hl (k := 2) rfl rfl (by decide) rfl (fun ls hl => ?_)
        refine lv_goto (tgt := 4) hx hb dX4_letters_23 (by decide) ?_
        exact ih (x1 + r_1) (x2 + 1) hw H locs ls hP hD hS (lv_sub (l' := [(0, .ref r0), (1, .int (x1 + r_1)), (2, .int (x2 + 1))]) hl [2, 1, 0] rfl)
  obtain ⟨H, hHH⟩ : ∃ H, H = s.heap := ⟨_, rfl⟩
  rw [← hHH] at hP ⊢
  have hS : va_S A s.heap H [] := by rw [hHH]; exact hS
  clear hHH
  generalize ([] : List Loc) = locs at hS ⊢
  unfold P_X4_letters at hw
  refine lv_iconst (v := 0) hx hb dX4_letters_0 (by decide) ?_
  refine lv_istore_n (lv' := [(1, .int 0), (0, .ref r0)]) hx hb dX4_letters_1 rfl hl (by decide) rfl (fun ls hl => ?_)
  refine lv_iconst (v := 0) hx hb dX4_letters_2 (by decide) ?_
  refine lv_istore_n (lv' := [(2, .int 0), (1, .int 0), (0, .ref r0)]) hx hb dX4_letters_3 rfl hl (by decide) rfl (fun ls hl => ?_)
  obtain ⟨n, hw⟩ := hw
  exact L4  n 0 0 hw H locs ls hP hD hS (lv_sub (l' := [(0, .ref r0), (1, .int 0), (2, .int 0)]) hl [2, 1, 0] rfl)
abbrev rm_X4_litOf : Room := { frames := 1, cells := 0, slots := 0, locals := 22 }
set_option maxHeartbeats 4000000 in
set_option maxRecDepth 100000 in
theorem c_X4_litOf (l : Launch) (dC : Nat → ClassId) (dI : Nat → Nat → Nat) (cI cJ : ClassId) (o o_now o_then o_past o_text o_told o_lit o_whole o_goes o_latest r0 : Nat) (sz : Nat) (s_lit : Nat → Int32) (s_r0 : Nat → Int32) (s_kept : Int32) (s_typed : Int32) (s_thrown : Int32) (s_at : Int32) (s_isFault : Int32) (s_value : Int32) (s_tolds : Int32) (s_isLaid : Int32) (p1 : Int32) (Q : Int32 → Prop) (hw : P_X4_litOf p1 s_lit s_r0 Q) : Met l yX4_litOf (Cond.code yX4_litOf cX4_litOf 5 (some .int) :: TBL) rm_X4_litOf (gPc (dC, dI) vwCl (gTy cI cJ) [.ref o, .ref r0, .int p1] [(o, .inr (4, [.ref o_now, .ref o_then, .ref o_past, .int s_kept, .ref o_text, .int s_typed, .int s_thrown, .int s_at, .int s_isFault, .int s_value, .ref o_told, .int s_tolds, .ref o_lit, .ref o_whole, .ref o_goes, .int s_isLaid, .ref o_latest])), (o_lit, .inl (cI, 96, .inl s_lit)), (r0, .inl (cI, 87, .inl s_r0))] sz) (va_Qi (fun (r : Int32) (u : Unit) => Q r ) (gB (dC, dI) vwCl (gTy cI cJ) (va_A [(o, .inr (4, [.ref o_now, .ref o_then, .ref o_past, .int s_kept, .ref o_text, .int s_typed, .int s_thrown, .int s_at, .int s_isFault, .int s_value, .ref o_told, .int s_tolds, .ref o_lit, .ref o_whole, .ref o_goes, .int s_isLaid, .ref o_latest])), (o_lit, .inl (cI, 96, .inl s_lit)), (r0, .inl (cI, 87, .inl s_r0))] sz) (fun (u : Unit) => [(o, .inr (4, [.ref o_now, .ref o_then, .ref o_past, .int s_kept, .ref o_text, .int s_typed, .int s_thrown, .int s_at, .int s_isFault, .int s_value, .ref o_told, .int s_tolds, .ref o_lit, .ref o_whole, .ref o_goes, .int s_isLaid, .ref o_latest])), (o_lit, .inl (cI, 96, .inl s_lit)), (r0, .inl (cI, 87, .inl s_r0))])) (va_A [(o, .inr (4, [.ref o_now, .ref o_then, .ref o_past, .int s_kept, .ref o_text, .int s_typed, .int s_thrown, .int s_at, .int s_isFault, .int s_value, .ref o_told, .int s_tolds, .ref o_lit, .ref o_whole, .ref o_goes, .int s_isLaid, .ref o_latest])), (o_lit, .inl (cI, 96, .inl s_lit)), (r0, .inl (cI, 87, .inl s_r0))] sz)) 0 0 (va_A [(o, .inr (4, [.ref o_now, .ref o_then, .ref o_past, .int s_kept, .ref o_text, .int s_typed, .int s_thrown, .int s_at, .int s_isFault, .int s_value, .ref o_told, .int s_tolds, .ref o_lit, .ref o_whole, .ref o_goes, .int s_isLaid, .ref o_latest])), (o_lit, .inl (cI, 96, .inl s_lit)), (r0, .inl (cI, 87, .inl s_r0))] sz) := by
  refine Met.ofW (cc := cX4_litOf) (maxL := 5) (ret := (some .int)) (by decide) rfl ?_
  intro p e s m args below meth c s₁ B hml hv
  obtain ⟨rfl, hsz, hP, hK, hD0⟩ := hv
  have hx := B.exec
  have hb := B.bytes
  have hr := B.returns
  have hts := atoms_spec (ws := Cond.code yX4_litOf cX4_litOf 5 (some .int) :: TBL) B.pre
  have ht : ∀ w ∈ TBL, w.before ([.ref o, .ref r0, .int p1] : List Value).toArray s = true := fun w h => hts w (List.mem_cons_of_mem _ h)
  clear hts
  have hown : s.vm.findClass RX4 = some m.cls := findClass_of_methodNamed B.named
  have hlocks := B.notSynchronized
  clear B
  subst hsz
  have hD := hD0.self (sz := s.heap.size)
  clear hD0
  generalize hAe : va_A [(o, .inr (4, [.ref o_now, .ref o_then, .ref o_past, .int s_kept, .ref o_text, .int s_typed, .int s_thrown, .int s_at, .int s_isFault, .int s_value, .ref o_told, .int s_tolds, .ref o_lit, .ref o_whole, .ref o_goes, .int s_isLaid, .ref o_latest])), (o_lit, .inl (cI, 96, .inl s_lit)), (r0, .inl (cI, 87, .inl s_r0))] s.heap.size = A at hD ⊢
  have hA : ∀ q : Nat, s.heap.size ≤ q → A q := fun q h => by rw [← hAe]; exact Or.inr h
  clear hAe
  have hS : va_S A s.heap s.heap [] := va_S.rf
  have hP : va_P (dC, dI) vwCl [(o, .inr (4, [.ref o_now, .ref o_then, .ref o_past, .int s_kept, .ref o_text, .int s_typed, .int s_thrown, .int s_at, .int s_isFault, .int s_value, .ref o_told, .int s_tolds, .ref o_lit, .ref o_whole, .ref o_goes, .int s_isLaid, .ref o_latest])), (o_lit, .inl (cI, 96, .inl s_lit)), (r0, .inl (cI, 87, .inl s_r0))] s.heap := hP
  have hl := lv_entry ([.ref o, .ref r0, .int p1]) (n := 5) (Nat.le_of_ble_eq_true rfl)
  rw [lg_entry_eq]
  generalize (lg_sl ([.ref o, .ref r0, .int p1]) ++ List.replicate (5 - (lg_sl ([.ref o, .ref r0, .int p1])).length) Slot.unset).toArray = ls at hl ⊢
  have hl : lv_has ls 5 [(0, .ref o), (1, .ref r0), (2, .int p1)] := hl
  generalize hQQ : MQ below _ _ _ 0 0 A = QQ
  show W p l e rm_X4_litOf s m ([.ref o, .ref r0, .int p1] : List Value).toArray below meth c s.heap [] 0 0 QQ (F0 m 0 ls [])
  have L5 : ∀ (x2 : Int32), ∀ (n : Nat) (x3 : Int32) (x4 : Int32), P_X4_litOf_L5 x2 s_lit s_r0 Q n x3 x4 → ∀ (H : Heap) (locs : List Loc) (ls : Array Slot), va_P (dC, dI) vwCl [(o, .inr (4, [.ref o_now, .ref o_then, .ref o_past, .int s_kept, .ref o_text, .int s_typed, .int s_thrown, .int s_at, .int s_isFault, .int s_value, .ref o_told, .int s_tolds, .ref o_lit, .ref o_whole, .ref o_goes, .int s_isLaid, .ref o_latest])), (o_lit, .inl (cI, 96, .inl s_lit)), (r0, .inl (cI, 87, .inl s_r0))] H → va_D A [(o, .inr (4, [.ref o_now, .ref o_then, .ref o_past, .int s_kept, .ref o_text, .int s_typed, .int s_thrown, .int s_at, .int s_isFault, .int s_value, .ref o_told, .int s_tolds, .ref o_lit, .ref o_whole, .ref o_goes, .int s_isLaid, .ref o_latest])), (o_lit, .inl (cI, 96, .inl s_lit)), (r0, .inl (cI, 87, .inl s_r0))] → va_S A s.heap H locs → lv_has ls 5 [(0, .ref o), (1, .ref r0), (2, .int x2), (3, .int x3), (4, .int x4)] → W p l e rm_X4_litOf s m ([.ref o, .ref r0, .int p1] : List Value).toArray below meth c H locs 0 0 QQ (F0 m 5 ls []) := by
    intro x2
    intro n
    induction n with
    | zero => intro x3 x4 hw; rw [P_X4_litOf_L5_z] at hw; exact hw.elim
    | succ n ih =>
      intro x3 x4 hw
      rw [P_X4_litOf_L5_s] at hw
      generalize hrec : P_X4_litOf_L5 x2 s_lit s_r0 Q n = rec5 at ih hw
      have J38 : ∀ (x4 : Int32) (t0 : Int32) (t1 : Int32), P_X4_litOf_J38 rec5 x4 t0 t1 → ∀ (H : Heap) (locs : List Loc) (ls : Array Slot), va_P (dC, dI) vwCl [(o, .inr (4, [.ref o_now, .ref o_then, .ref o_past, .int s_kept, .ref o_text, .int s_typed, .int s_thrown, .int s_at, .int s_isFault, .int s_value, .ref o_told, .int s_tolds, .ref o_lit, .ref o_whole, .ref o_goes, .int s_isLaid, .ref o_latest])), (o_lit, .inl (cI, 96, .inl s_lit)), (r0, .inl (cI, 87, .inl s_r0))] H → va_D A [(o, .inr (4, [.ref o_now, .ref o_then, .ref o_past, .int s_kept, .ref o_text, .int s_typed, .int s_thrown, .int s_at, .int s_isFault, .int s_value, .ref o_told, .int s_tolds, .ref o_lit, .ref o_whole, .ref o_goes, .int s_isLaid, .ref o_latest])), (o_lit, .inl (cI, 96, .inl s_lit)), (r0, .inl (cI, 87, .inl s_r0))] → va_S A s.heap H locs → lv_has ls 5 [(0, .ref o), (1, .ref r0), (2, .int x2), (4, .int x4)] → W p l e rm_X4_litOf s m ([.ref o, .ref r0, .int p1] : List Value).toArray below meth c H locs 0 0 QQ (F0 m 38 ls [.int t0, .int t1]) := by
        intro x4 t0 t1 hw H locs ls hP hD hS hl
        unfold P_X4_litOf_J38 at hw
        refine lv_iadd hx hb dX4_litOf_38 ?_
        refine lv_istore_n (lv' := [(3, .int (t1 + t0)), (0, .ref o), (1, .ref r0), (2, .int x2), (4, .int x4)]) hx hb dX4_litOf_39 rfl hl (by decide) rfl (fun ls hl => ?_)
        refine lv_iinc (v := (x4 + 1)) (lv' := [(4, .int (x4 + 1)), (3, .int (t1 + t0)), (0, .ref o), (1, .ref r0), (2, .int x2)]) hx hb dX4_litOf_40 hl (k := 4) rfl rfl (by decide) rfl (fun ls hl => ?_)
        refine lv_goto (tgt := 5) hx hb dX4_litOf_43 (by decide) ?_
        exact ih (t1 + t0) (x4 + 1) hw H locs ls hP hD hS (lv_sub (l' := [(0, .ref o), (1, .ref r0), (2, .int x2), (3, .int (t1 + t0)), (4, .int (x4 + 1))]) hl [2, 3, 4, 1, 0] rfl)
      intro H locs ls hP hD hS hl
      unfold B_X4_litOf_L5 at hw
      refine lv_iload hx hb dX4_litOf_5 (lv_at hl 4 rfl) ?_
      refine lv_aload_n hx hb dX4_litOf_7 rfl (lv_at hl 1 rfl) ?_
      refine lv_iload_n hx hb dX4_litOf_8 rfl (lv_at hl 2 rfl) ?_
      refine lv_iconst (v := 0) hx hb dX4_litOf_9 (by decide) ?_
      refine gc_Si (As := [.ref r0, .int x2, .int 0]) (rest := [.int x4]) (wr := [(o, .inr (4, [.ref o_now, .ref o_then, .ref o_past, .int s_kept, .ref o_text, .int s_typed, .int s_thrown, .int s_at, .int s_isFault, .int s_value, .ref o_told, .int s_tolds, .ref o_lit, .ref o_whole, .ref o_goes, .int s_isLaid, .ref o_latest])), (o_lit, .inl (cI, 96, .inl s_lit))]) ⟨hx, hb, hml, hown, ht⟩ (c_X4_of l dC dI cI cJ r0 H.size s_r0 x2 0 _ hw) (va_cwS 3 ht (g_S k_964 k_965 k_5 k_966) rfl rfl rfl (by decide +kernel) ⟨(Nat.le_of_ble_eq_true rfl), (Nat.le_of_ble_eq_true rfl)⟩) hK hP hD hS hA [2] [0, 1] rfl rfl (by decide) rfl hl.1 rfl (Nat.le_of_ble_eq_true rfl) ⟨(Nat.le_of_ble_eq_true rfl), (Nat.le_of_ble_eq_true rfl)⟩ dX4_litOf_10 (fun r_1 u H locs hw hP hD hS => ?_)
      try dsimp only at hw
      have hP : va_P (dC, dI) vwCl [(o, .inr (4, [.ref o_now, .ref o_then, .ref o_past, .int s_kept, .ref o_text, .int s_typed, .int s_thrown, .int s_at, .int s_isFault, .int s_value, .ref o_told, .int s_tolds, .ref o_lit, .ref o_whole, .ref o_goes, .int s_isLaid, .ref o_latest])), (o_lit, .inl (cI, 96, .inl s_lit)), (r0, .inl (cI, 87, .inl s_r0))] H := hP
      have hD : va_D A [(o, .inr (4, [.ref o_now, .ref o_then, .ref o_past, .int s_kept, .ref o_text, .int s_typed, .int s_thrown, .int s_at, .int s_isFault, .int s_value, .ref o_told, .int s_tolds, .ref o_lit, .ref o_whole, .ref o_goes, .int s_isLaid, .ref o_latest])), (o_lit, .inl (cI, 96, .inl s_lit)), (r0, .inl (cI, 87, .inl s_r0))] := hD
      refine lv_icmp_ge (tgt := 46) hx hb dX4_litOf_13 (by decide) (fun hc => ?_) (fun hc => ?_)
      · have hw := hw.1 hc
        refine lv_iload_n hx hb dX4_litOf_46 rfl (lv_at hl 3 rfl) ?_
        rw [← hQQ]
        exact g_reti (v := x3) (u := ()) hx hb hr rfl hlocks hw hP hK hD hS dX4_litOf_47
      · have hw := hw.2 hc
        refine lv_iload_n hx hb dX4_litOf_16 rfl (lv_at hl 3 rfl) ?_
        refine lv_aload_n hx hb dX4_litOf_17 rfl (lv_at hl 0 rfl) ?_
        refine va_get (D := (dC, dI)) (ci := 4) (v := .ref o_lit) (C := RX4) (T := TX4) (N := 17) hx hb ht i_X4 hown hK hP 0 rfl rfl 12 (by decide) (ht _ k_830) (fun _ h9 => h9) rfl dX4_litOf_18 ?_
        refine lv_bipush (v := 12) hx hb dX4_litOf_21 (by decide) ?_
        refine lv_iload_n hx hb dX4_litOf_23 rfl (lv_at hl 2 rfl) ?_
        refine lv_imul hx hb dX4_litOf_24 ?_
        refine lv_iload hx hb dX4_litOf_25 (lv_at hl 4 rfl) ?_
        refine lv_iadd hx hb dX4_litOf_27 ?_
        obtain ⟨hi_2, hw⟩ := hw
        refine gv_iald hx hb hK hP 1 0 rfl rfl rfl hi_2 dX4_litOf_28 ?_
        refine lv_iconst (v := (-1)) hx hb dX4_litOf_29 (by decide) ?_
        refine lv_icmp_ne (tgt := 37) hx hb dX4_litOf_30 (by decide) (fun hc => ?_) (fun hc => ?_)
        · have hw := hw.1 hc
          refine lv_iconst (v := 1) hx hb dX4_litOf_37 (by decide) ?_
          exact J38 x4 1 x3 hw H locs ls hP hD hS (lv_sub (l' := [(0, .ref o), (1, .ref r0), (2, .int x2), (4, .int x4)]) hl [0, 1, 2, 4] rfl)
        · have hw := hw.2 hc
          refine lv_iconst (v := 0) hx hb dX4_litOf_33 (by decide) ?_
          refine lv_goto (tgt := 38) hx hb dX4_litOf_34 (by decide) ?_
          exact J38 x4 0 x3 hw H locs ls hP hD hS (lv_sub (l' := [(0, .ref o), (1, .ref r0), (2, .int x2), (4, .int x4)]) hl [0, 1, 2, 4] rfl)
  obtain ⟨H, hHH⟩ : ∃ H, H = s.heap := ⟨_, rfl⟩
  rw [← hHH] at hP ⊢
  have hS : va_S A s.heap H [] := by rw [hHH]; exact hS
  clear hHH
  generalize ([] : List Loc) = locs at hS ⊢
  unfold P_X4_litOf at hw
  refine lv_iconst (v := 0) hx hb dX4_litOf_0 (by decide) ?_
  refine lv_istore_n (lv' := [(3, .int 0), (0, .ref o), (1, .ref r0), (2, .int p1)]) hx hb dX4_litOf_1 rfl hl (by decide) rfl (fun ls hl => ?_)
  refine lv_iconst (v := 0) hx hb dX4_litOf_2 (by decide) ?_
  refine lv_istore (lv' := [(4, .int 0), (3, .int 0), (0, .ref o), (1, .ref r0), (2, .int p1)]) hx hb dX4_litOf_3 hl (by decide) rfl (fun ls hl => ?_)
  obtain ⟨n, hw⟩ := hw
  exact L5 p1 n 0 0 hw H locs ls hP hD hS (lv_sub (l' := [(0, .ref o), (1, .ref r0), (2, .int p1), (3, .int 0), (4, .int 0)]) hl [2, 3, 4, 1, 0] rfl)
abbrev rm_X4_allLit : Room := { frames := 2, cells := 0, slots := 0, locals := 46 }
set_option maxHeartbeats 4000000 in
set_option maxRecDepth 100000 in
theorem c_X4_allLit (l : Launch) (dC : Nat → ClassId) (dI : Nat → Nat → Nat) (cI cJ : ClassId) (o o_now o_then o_past o_text o_told o_lit o_whole o_goes o_latest r0 : Nat) (sz : Nat) (s_lit : Nat → Int32) (s_r0 : Nat → Int32) (s_kept : Int32) (s_typed : Int32) (s_thrown : Int32) (s_at : Int32) (s_isFault : Int32) (s_value : Int32) (s_tolds : Int32) (s_isLaid : Int32)  (Q : Int32 → Prop) (hw : P_X4_allLit s_lit s_r0 Q) : Met l yX4_allLit (Cond.code yX4_allLit cX4_allLit 4 (some .int) :: TBL) rm_X4_allLit (gPc (dC, dI) vwCl (gTy cI cJ) [.ref o, .ref r0] [(o, .inr (4, [.ref o_now, .ref o_then, .ref o_past, .int s_kept, .ref o_text, .int s_typed, .int s_thrown, .int s_at, .int s_isFault, .int s_value, .ref o_told, .int s_tolds, .ref o_lit, .ref o_whole, .ref o_goes, .int s_isLaid, .ref o_latest])), (o_lit, .inl (cI, 96, .inl s_lit)), (r0, .inl (cI, 87, .inl s_r0))] sz) (va_Qi (fun (r : Int32) (u : Unit) => Q r ) (gB (dC, dI) vwCl (gTy cI cJ) (va_A [(o, .inr (4, [.ref o_now, .ref o_then, .ref o_past, .int s_kept, .ref o_text, .int s_typed, .int s_thrown, .int s_at, .int s_isFault, .int s_value, .ref o_told, .int s_tolds, .ref o_lit, .ref o_whole, .ref o_goes, .int s_isLaid, .ref o_latest])), (o_lit, .inl (cI, 96, .inl s_lit)), (r0, .inl (cI, 87, .inl s_r0))] sz) (fun (u : Unit) => [(o, .inr (4, [.ref o_now, .ref o_then, .ref o_past, .int s_kept, .ref o_text, .int s_typed, .int s_thrown, .int s_at, .int s_isFault, .int s_value, .ref o_told, .int s_tolds, .ref o_lit, .ref o_whole, .ref o_goes, .int s_isLaid, .ref o_latest])), (o_lit, .inl (cI, 96, .inl s_lit)), (r0, .inl (cI, 87, .inl s_r0))])) (va_A [(o, .inr (4, [.ref o_now, .ref o_then, .ref o_past, .int s_kept, .ref o_text, .int s_typed, .int s_thrown, .int s_at, .int s_isFault, .int s_value, .ref o_told, .int s_tolds, .ref o_lit, .ref o_whole, .ref o_goes, .int s_isLaid, .ref o_latest])), (o_lit, .inl (cI, 96, .inl s_lit)), (r0, .inl (cI, 87, .inl s_r0))] sz)) 0 0 (va_A [(o, .inr (4, [.ref o_now, .ref o_then, .ref o_past, .int s_kept, .ref o_text, .int s_typed, .int s_thrown, .int s_at, .int s_isFault, .int s_value, .ref o_told, .int s_tolds, .ref o_lit, .ref o_whole, .ref o_goes, .int s_isLaid, .ref o_latest])), (o_lit, .inl (cI, 96, .inl s_lit)), (r0, .inl (cI, 87, .inl s_r0))] sz) := by
  refine Met.ofW (cc := cX4_allLit) (maxL := 4) (ret := (some .int)) (by decide) rfl ?_
  intro p e s m args below meth c s₁ B hml hv
  obtain ⟨rfl, hsz, hP, hK, hD0⟩ := hv
  have hx := B.exec
  have hb := B.bytes
  have hr := B.returns
  have hts := atoms_spec (ws := Cond.code yX4_allLit cX4_allLit 4 (some .int) :: TBL) B.pre
  have ht : ∀ w ∈ TBL, w.before ([.ref o, .ref r0] : List Value).toArray s = true := fun w h => hts w (List.mem_cons_of_mem _ h)
  clear hts
  have hown : s.vm.findClass RX4 = some m.cls := findClass_of_methodNamed B.named
  have hlocks := B.notSynchronized
  clear B
  subst hsz
  have hD := hD0.self (sz := s.heap.size)
  clear hD0
  generalize hAe : va_A [(o, .inr (4, [.ref o_now, .ref o_then, .ref o_past, .int s_kept, .ref o_text, .int s_typed, .int s_thrown, .int s_at, .int s_isFault, .int s_value, .ref o_told, .int s_tolds, .ref o_lit, .ref o_whole, .ref o_goes, .int s_isLaid, .ref o_latest])), (o_lit, .inl (cI, 96, .inl s_lit)), (r0, .inl (cI, 87, .inl s_r0))] s.heap.size = A at hD ⊢
  have hA : ∀ q : Nat, s.heap.size ≤ q → A q := fun q h => by rw [← hAe]; exact Or.inr h
  clear hAe
  have hS : va_S A s.heap s.heap [] := va_S.rf
  have hP : va_P (dC, dI) vwCl [(o, .inr (4, [.ref o_now, .ref o_then, .ref o_past, .int s_kept, .ref o_text, .int s_typed, .int s_thrown, .int s_at, .int s_isFault, .int s_value, .ref o_told, .int s_tolds, .ref o_lit, .ref o_whole, .ref o_goes, .int s_isLaid, .ref o_latest])), (o_lit, .inl (cI, 96, .inl s_lit)), (r0, .inl (cI, 87, .inl s_r0))] s.heap := hP
  have hl := lv_entry ([.ref o, .ref r0]) (n := 4) (Nat.le_of_ble_eq_true rfl)
  rw [lg_entry_eq]
  generalize (lg_sl ([.ref o, .ref r0]) ++ List.replicate (4 - (lg_sl ([.ref o, .ref r0])).length) Slot.unset).toArray = ls at hl ⊢
  have hl : lv_has ls 4 [(0, .ref o), (1, .ref r0)] := hl
  generalize hQQ : MQ below _ _ _ 0 0 A = QQ
  show W p l e rm_X4_allLit s m ([.ref o, .ref r0] : List Value).toArray below meth c s.heap [] 0 0 QQ (F0 m 0 ls [])
  have L4 : ∀ (n : Nat) (x2 : Int32) (x3 : Int32), P_X4_allLit_L4 s_lit s_r0 Q n x2 x3 → ∀ (H : Heap) (locs : List Loc) (ls : Array Slot), va_P (dC, dI) vwCl [(o, .inr (4, [.ref o_now, .ref o_then, .ref o_past, .int s_kept, .ref o_text, .int s_typed, .int s_thrown, .int s_at, .int s_isFault, .int s_value, .ref o_told, .int s_tolds, .ref o_lit, .ref o_whole, .ref o_goes, .int s_isLaid, .ref o_latest])), (o_lit, .inl (cI, 96, .inl s_lit)), (r0, .inl (cI, 87, .inl s_r0))] H → va_D A [(o, .inr (4, [.ref o_now, .ref o_then, .ref o_past, .int s_kept, .ref o_text, .int s_typed, .int s_thrown, .int s_at, .int s_isFault, .int s_value, .ref o_told, .int s_tolds, .ref o_lit, .ref o_whole, .ref o_goes, .int s_isLaid, .ref o_latest])), (o_lit, .inl (cI, 96, .inl s_lit)), (r0, .inl (cI, 87, .inl s_r0))] → va_S A s.heap H locs → lv_has ls 4 [(0, .ref o), (1, .ref r0), (2, .int x2), (3, .int x3)] → W p l e rm_X4_allLit s m ([.ref o, .ref r0] : List Value).toArray below meth c H locs 0 0 QQ (F0 m 4 ls []) := by
    intro n
    induction n with
    | zero => intro x2 x3 hw; rw [P_X4_allLit_L4_z] at hw; exact hw.elim
    | succ n ih =>
      intro x2 x3 hw
      rw [P_X4_allLit_L4_s] at hw
      generalize hrec : P_X4_allLit_L4 s_lit s_r0 Q n = rec4 at ih hw
      intro H locs ls hP hD hS hl
      unfold B_X4_allLit_L4 at hw
      refine lv_iload_n hx hb dX4_allLit_4 rfl (lv_at hl 3 rfl) ?_
      refine lv_aload_n hx hb dX4_allLit_5 rfl (lv_at hl 1 rfl) ?_
      refine lv_iconst (v := 2) hx hb dX4_allLit_6 (by decide) ?_
      refine gv_iald hx hb hK hP 2 0 rfl rfl (k := 2) (by decide) (by unfold vp_in; decide) dX4_allLit_7 ?_
      refine lv_icmp_ge (tgt := 26) hx hb dX4_allLit_8 (by decide) (fun hc => ?_) (fun hc => ?_)
      · have hw := hw.1 hc
        refine lv_iload_n hx hb dX4_allLit_26 rfl (lv_at hl 2 rfl) ?_
        rw [← hQQ]
        exact g_reti (v := x2) (u := ()) hx hb hr rfl hlocks hw hP hK hD hS dX4_allLit_27
      · have hw := hw.2 hc
        refine lv_iload_n hx hb dX4_allLit_11 rfl (lv_at hl 2 rfl) ?_
        refine lv_aload_n hx hb dX4_allLit_12 rfl (lv_at hl 0 rfl) ?_
        refine lv_aload_n hx hb dX4_allLit_13 rfl (lv_at hl 1 rfl) ?_
        refine lv_iload_n hx hb dX4_allLit_14 rfl (lv_at hl 3 rfl) ?_
        refine gc_Vi (As := [.ref r0, .int x3]) (rest := [.int x2]) (wr := []) ⟨hx, hb, hml, hown, ht⟩ (c_X4_litOf l dC dI cI cJ o o_now o_then o_past o_text o_told o_lit o_whole o_goes o_latest r0 H.size s_lit s_r0 s_kept s_typed s_thrown s_at s_isFault s_value s_tolds s_isLaid x3 _ hw) (cwV 2 ht (g_V k_987 k_989 k_s50 k_5 k_990) rfl rfl rfl (by decide +kernel) ⟨(Nat.le_of_ble_eq_true rfl), (Nat.le_of_ble_eq_true rfl)⟩) hK hP hD hS hA [0, 1, 2] [] rfl rfl (by decide) 0 rfl rfl rfl rfl hl.1 rfl (Nat.le_of_ble_eq_true rfl) ⟨(Nat.le_of_ble_eq_true rfl), (Nat.le_of_ble_eq_true rfl)⟩ dX4_allLit_15 (fun r_1 u H locs hw hP hD hS => ?_)
        try dsimp only at hw
        have hP : va_P (dC, dI) vwCl [(o, .inr (4, [.ref o_now, .ref o_then, .ref o_past, .int s_kept, .ref o_text, .int s_typed, .int s_thrown, .int s_at, .int s_isFault, .int s_value, .ref o_told, .int s_tolds, .ref o_lit, .ref o_whole, .ref o_goes, .int s_isLaid, .ref o_latest])), (o_lit, .inl (cI, 96, .inl s_lit)), (r0, .inl (cI, 87, .inl s_r0))] H := hP
        have hD : va_D A [(o, .inr (4, [.ref o_now, .ref o_then, .ref o_past, .int s_kept, .ref o_text, .int s_typed, .int s_thrown, .int s_at, .int s_isFault, .int s_value, .ref o_told, .int s_tolds, .ref o_lit, .ref o_whole, .ref o_goes, .int s_isLaid, .ref o_latest])), (o_lit, .inl (cI, 96, .inl s_lit)), (r0, .inl (cI, 87, .inl s_r0))] := hD
        refine lv_iadd hx hb dX4_allLit_18 ?_
        refine lv_istore_n (lv' := [(2, .int (x2 + r_1)), (0, .ref o), (1, .ref r0), (3, .int x3)]) hx hb dX4_allLit_19 rfl hl (by decide) rfl (fun ls hl => ?_)
        refine lv_iinc (v := (x3 + 1)) (lv' := [(3, .int (x3 + 1)), (2, .int (x2 + r_1)), (0, .ref o), (1, .ref r0)]) hx hb dX4_allLit_20 hl (k := 3) rfl rfl (by decide) rfl (fun ls hl => ?_)
        refine lv_goto (tgt := 4) hx hb dX4_allLit_23 (by decide) ?_
        exact ih (x2 + r_1) (x3 + 1) hw H locs ls hP hD hS (lv_sub (l' := [(0, .ref o), (1, .ref r0), (2, .int (x2 + r_1)), (3, .int (x3 + 1))]) hl [2, 3, 1, 0] rfl)
  obtain ⟨H, hHH⟩ : ∃ H, H = s.heap := ⟨_, rfl⟩
  rw [← hHH] at hP ⊢
  have hS : va_S A s.heap H [] := by rw [hHH]; exact hS
  clear hHH
  generalize ([] : List Loc) = locs at hS ⊢
  unfold P_X4_allLit at hw
  refine lv_iconst (v := 0) hx hb dX4_allLit_0 (by decide) ?_
  refine lv_istore_n (lv' := [(2, .int 0), (0, .ref o), (1, .ref r0)]) hx hb dX4_allLit_1 rfl hl (by decide) rfl (fun ls hl => ?_)
  refine lv_iconst (v := 0) hx hb dX4_allLit_2 (by decide) ?_
  refine lv_istore_n (lv' := [(3, .int 0), (2, .int 0), (0, .ref o), (1, .ref r0)]) hx hb dX4_allLit_3 rfl hl (by decide) rfl (fun ls hl => ?_)
  obtain ⟨n, hw⟩ := hw
  exact L4  n 0 0 hw H locs ls hP hD hS (lv_sub (l' := [(0, .ref o), (1, .ref r0), (2, .int 0), (3, .int 0)]) hl [2, 3, 1, 0] rfl)
abbrev rm_X4_wholes : Room := { frames := 0, cells := 0, slots := 0, locals := 0 }
set_option maxHeartbeats 4000000 in
set_option maxRecDepth 100000 in
theorem c_X4_wholes (l : Launch) (dC : Nat → ClassId) (dI : Nat → Nat → Nat) (cI cJ : ClassId) (o o_now o_then o_past o_text o_told o_lit o_whole o_goes o_latest r0 : Nat) (sz : Nat) (s_whole : Nat → Int32) (s_r0 : Nat → Int32) (s_kept : Int32) (s_typed : Int32) (s_thrown : Int32) (s_at : Int32) (s_isFault : Int32) (s_value : Int32) (s_tolds : Int32) (s_isLaid : Int32)  (Q : Int32 → Prop) (hw : P_X4_wholes s_whole s_r0 Q) : Met l yX4_wholes (Cond.code yX4_wholes cX4_wholes 4 (some .int) :: TBL) rm_X4_wholes (gPc (dC, dI) vwCl (gTy cI cJ) [.ref o, .ref r0] [(o, .inr (4, [.ref o_now, .ref o_then, .ref o_past, .int s_kept, .ref o_text, .int s_typed, .int s_thrown, .int s_at, .int s_isFault, .int s_value, .ref o_told, .int s_tolds, .ref o_lit, .ref o_whole, .ref o_goes, .int s_isLaid, .ref o_latest])), (o_whole, .inl (cI, 8, .inl s_whole)), (r0, .inl (cI, 87, .inl s_r0))] sz) (va_Qi (fun (r : Int32) (u : Unit) => Q r ) (gB (dC, dI) vwCl (gTy cI cJ) (va_A [(o, .inr (4, [.ref o_now, .ref o_then, .ref o_past, .int s_kept, .ref o_text, .int s_typed, .int s_thrown, .int s_at, .int s_isFault, .int s_value, .ref o_told, .int s_tolds, .ref o_lit, .ref o_whole, .ref o_goes, .int s_isLaid, .ref o_latest])), (o_whole, .inl (cI, 8, .inl s_whole)), (r0, .inl (cI, 87, .inl s_r0))] sz) (fun (u : Unit) => [(o, .inr (4, [.ref o_now, .ref o_then, .ref o_past, .int s_kept, .ref o_text, .int s_typed, .int s_thrown, .int s_at, .int s_isFault, .int s_value, .ref o_told, .int s_tolds, .ref o_lit, .ref o_whole, .ref o_goes, .int s_isLaid, .ref o_latest])), (o_whole, .inl (cI, 8, .inl s_whole)), (r0, .inl (cI, 87, .inl s_r0))])) (va_A [(o, .inr (4, [.ref o_now, .ref o_then, .ref o_past, .int s_kept, .ref o_text, .int s_typed, .int s_thrown, .int s_at, .int s_isFault, .int s_value, .ref o_told, .int s_tolds, .ref o_lit, .ref o_whole, .ref o_goes, .int s_isLaid, .ref o_latest])), (o_whole, .inl (cI, 8, .inl s_whole)), (r0, .inl (cI, 87, .inl s_r0))] sz)) 0 0 (va_A [(o, .inr (4, [.ref o_now, .ref o_then, .ref o_past, .int s_kept, .ref o_text, .int s_typed, .int s_thrown, .int s_at, .int s_isFault, .int s_value, .ref o_told, .int s_tolds, .ref o_lit, .ref o_whole, .ref o_goes, .int s_isLaid, .ref o_latest])), (o_whole, .inl (cI, 8, .inl s_whole)), (r0, .inl (cI, 87, .inl s_r0))] sz) := by
  refine Met.ofW (cc := cX4_wholes) (maxL := 4) (ret := (some .int)) (by decide) rfl ?_
  intro p e s m args below meth c s₁ B hml hv
  obtain ⟨rfl, hsz, hP, hK, hD0⟩ := hv
  have hx := B.exec
  have hb := B.bytes
  have hr := B.returns
  have hts := atoms_spec (ws := Cond.code yX4_wholes cX4_wholes 4 (some .int) :: TBL) B.pre
  have ht : ∀ w ∈ TBL, w.before ([.ref o, .ref r0] : List Value).toArray s = true := fun w h => hts w (List.mem_cons_of_mem _ h)
  clear hts
  have hown : s.vm.findClass RX4 = some m.cls := findClass_of_methodNamed B.named
  have hlocks := B.notSynchronized
  clear B
  subst hsz
  have hD := hD0.self (sz := s.heap.size)
  clear hD0
  generalize hAe : va_A [(o, .inr (4, [.ref o_now, .ref o_then, .ref o_past, .int s_kept, .ref o_text, .int s_typed, .int s_thrown, .int s_at, .int s_isFault, .int s_value, .ref o_told, .int s_tolds, .ref o_lit, .ref o_whole, .ref o_goes, .int s_isLaid, .ref o_latest])), (o_whole, .inl (cI, 8, .inl s_whole)), (r0, .inl (cI, 87, .inl s_r0))] s.heap.size = A at hD ⊢
  have hA : ∀ q : Nat, s.heap.size ≤ q → A q := fun q h => by rw [← hAe]; exact Or.inr h
  clear hAe
  have hS : va_S A s.heap s.heap [] := va_S.rf
  have hP : va_P (dC, dI) vwCl [(o, .inr (4, [.ref o_now, .ref o_then, .ref o_past, .int s_kept, .ref o_text, .int s_typed, .int s_thrown, .int s_at, .int s_isFault, .int s_value, .ref o_told, .int s_tolds, .ref o_lit, .ref o_whole, .ref o_goes, .int s_isLaid, .ref o_latest])), (o_whole, .inl (cI, 8, .inl s_whole)), (r0, .inl (cI, 87, .inl s_r0))] s.heap := hP
  have hl := lv_entry ([.ref o, .ref r0]) (n := 4) (Nat.le_of_ble_eq_true rfl)
  rw [lg_entry_eq]
  generalize (lg_sl ([.ref o, .ref r0]) ++ List.replicate (4 - (lg_sl ([.ref o, .ref r0])).length) Slot.unset).toArray = ls at hl ⊢
  have hl : lv_has ls 4 [(0, .ref o), (1, .ref r0)] := hl
  generalize hQQ : MQ below _ _ _ 0 0 A = QQ
  show W p l e rm_X4_wholes s m ([.ref o, .ref r0] : List Value).toArray below meth c s.heap [] 0 0 QQ (F0 m 0 ls [])
  have L4 : ∀ (n : Nat) (x2 : Int32) (x3 : Int32), P_X4_wholes_L4 s_whole s_r0 Q n x2 x3 → ∀ (H : Heap) (locs : List Loc) (ls : Array Slot), va_P (dC, dI) vwCl [(o, .inr (4, [.ref o_now, .ref o_then, .ref o_past, .int s_kept, .ref o_text, .int s_typed, .int s_thrown, .int s_at, .int s_isFault, .int s_value, .ref o_told, .int s_tolds, .ref o_lit, .ref o_whole, .ref o_goes, .int s_isLaid, .ref o_latest])), (o_whole, .inl (cI, 8, .inl s_whole)), (r0, .inl (cI, 87, .inl s_r0))] H → va_D A [(o, .inr (4, [.ref o_now, .ref o_then, .ref o_past, .int s_kept, .ref o_text, .int s_typed, .int s_thrown, .int s_at, .int s_isFault, .int s_value, .ref o_told, .int s_tolds, .ref o_lit, .ref o_whole, .ref o_goes, .int s_isLaid, .ref o_latest])), (o_whole, .inl (cI, 8, .inl s_whole)), (r0, .inl (cI, 87, .inl s_r0))] → va_S A s.heap H locs → lv_has ls 4 [(0, .ref o), (1, .ref r0), (2, .int x2), (3, .int x3)] → W p l e rm_X4_wholes s m ([.ref o, .ref r0] : List Value).toArray below meth c H locs 0 0 QQ (F0 m 4 ls []) := by
    intro n
    induction n with
    | zero => intro x2 x3 hw; rw [P_X4_wholes_L4_z] at hw; exact hw.elim
    | succ n ih =>
      intro x2 x3 hw
      rw [P_X4_wholes_L4_s] at hw
      generalize hrec : P_X4_wholes_L4 s_whole s_r0 Q n = rec4 at ih hw
      have J27 : ∀ (x3 : Int32) (t0 : Int32) (t1 : Int32), P_X4_wholes_J27 rec4 x3 t0 t1 → ∀ (H : Heap) (locs : List Loc) (ls : Array Slot), va_P (dC, dI) vwCl [(o, .inr (4, [.ref o_now, .ref o_then, .ref o_past, .int s_kept, .ref o_text, .int s_typed, .int s_thrown, .int s_at, .int s_isFault, .int s_value, .ref o_told, .int s_tolds, .ref o_lit, .ref o_whole, .ref o_goes, .int s_isLaid, .ref o_latest])), (o_whole, .inl (cI, 8, .inl s_whole)), (r0, .inl (cI, 87, .inl s_r0))] H → va_D A [(o, .inr (4, [.ref o_now, .ref o_then, .ref o_past, .int s_kept, .ref o_text, .int s_typed, .int s_thrown, .int s_at, .int s_isFault, .int s_value, .ref o_told, .int s_tolds, .ref o_lit, .ref o_whole, .ref o_goes, .int s_isLaid, .ref o_latest])), (o_whole, .inl (cI, 8, .inl s_whole)), (r0, .inl (cI, 87, .inl s_r0))] → va_S A s.heap H locs → lv_has ls 4 [(0, .ref o), (1, .ref r0), (3, .int x3)] → W p l e rm_X4_wholes s m ([.ref o, .ref r0] : List Value).toArray below meth c H locs 0 0 QQ (F0 m 27 ls [.int t0, .int t1]) := by
        intro x3 t0 t1 hw H locs ls hP hD hS hl
        unfold P_X4_wholes_J27 at hw
        refine lv_iadd hx hb dX4_wholes_27 ?_
        refine lv_istore_n (lv' := [(2, .int (t1 + t0)), (0, .ref o), (1, .ref r0), (3, .int x3)]) hx hb dX4_wholes_28 rfl hl (by decide) rfl (fun ls hl => ?_)
        refine lv_iinc (v := (x3 + 1)) (lv' := [(3, .int (x3 + 1)), (2, .int (t1 + t0)), (0, .ref o), (1, .ref r0)]) hx hb dX4_wholes_29 hl (k := 3) rfl rfl (by decide) rfl (fun ls hl => ?_)
        refine lv_goto (tgt := 4) hx hb dX4_wholes_32 (by decide) ?_
        exact ih (t1 + t0) (x3 + 1) hw H locs ls hP hD hS (lv_sub (l' := [(0, .ref o), (1, .ref r0), (2, .int (t1 + t0)), (3, .int (x3 + 1))]) hl [2, 3, 1, 0] rfl)
      intro H locs ls hP hD hS hl
      unfold B_X4_wholes_L4 at hw
      refine lv_iload_n hx hb dX4_wholes_4 rfl (lv_at hl 3 rfl) ?_
      refine lv_aload_n hx hb dX4_wholes_5 rfl (lv_at hl 1 rfl) ?_
      refine lv_iconst (v := 2) hx hb dX4_wholes_6 (by decide) ?_
      refine gv_iald hx hb hK hP 2 0 rfl rfl (k := 2) (by decide) (by unfold vp_in; decide) dX4_wholes_7 ?_
      refine lv_icmp_ge (tgt := 35) hx hb dX4_wholes_8 (by decide) (fun hc => ?_) (fun hc => ?_)
      · have hw := hw.1 hc
        refine lv_iload_n hx hb dX4_wholes_35 rfl (lv_at hl 2 rfl) ?_
        rw [← hQQ]
        exact g_reti (v := x2) (u := ()) hx hb hr rfl hlocks hw hP hK hD hS dX4_wholes_36
      · have hw := hw.2 hc
        refine lv_iload_n hx hb dX4_wholes_11 rfl (lv_at hl 2 rfl) ?_
        refine lv_aload_n hx hb dX4_wholes_12 rfl (lv_at hl 0 rfl) ?_
        refine va_get (D := (dC, dI)) (ci := 4) (v := .ref o_whole) (C := RX4) (T := TX4) (N := 17) hx hb ht i_X4 hown hK hP 0 rfl rfl 13 (by decide) (ht _ k_831) (fun _ h9 => h9) rfl dX4_wholes_13 ?_
        refine lv_iload_n hx hb dX4_wholes_16 rfl (lv_at hl 3 rfl) ?_
        obtain ⟨hi_1, hw⟩ := hw
        refine gv_iald hx hb hK hP 1 0 rfl rfl rfl hi_1 dX4_wholes_17 ?_
        refine lv_iconst (v := (-1)) hx hb dX4_wholes_18 (by decide) ?_
        refine lv_icmp_ne (tgt := 26) hx hb dX4_wholes_19 (by decide) (fun hc => ?_) (fun hc => ?_)
        · have hw := hw.1 hc
          refine lv_iconst (v := 1) hx hb dX4_wholes_26 (by decide) ?_
          exact J27 x3 1 x2 hw H locs ls hP hD hS (lv_sub (l' := [(0, .ref o), (1, .ref r0), (3, .int x3)]) hl [0, 1, 3] rfl)
        · have hw := hw.2 hc
          refine lv_iconst (v := 0) hx hb dX4_wholes_22 (by decide) ?_
          refine lv_goto (tgt := 27) hx hb dX4_wholes_23 (by decide) ?_
          exact J27 x3 0 x2 hw H locs ls hP hD hS (lv_sub (l' := [(0, .ref o), (1, .ref r0), (3, .int x3)]) hl [0, 1, 3] rfl)
  obtain ⟨H, hHH⟩ : ∃ H, H = s.heap := ⟨_, rfl⟩
  rw [← hHH] at hP ⊢
  have hS : va_S A s.heap H [] := by rw [hHH]; exact hS
  clear hHH
  generalize ([] : List Loc) = locs at hS ⊢
  unfold P_X4_wholes at hw
  refine lv_iconst (v := 0) hx hb dX4_wholes_0 (by decide) ?_
  refine lv_istore_n (lv' := [(2, .int 0), (0, .ref o), (1, .ref r0)]) hx hb dX4_wholes_1 rfl hl (by decide) rfl (fun ls hl => ?_)
  refine lv_iconst (v := 0) hx hb dX4_wholes_2 (by decide) ?_
  refine lv_istore_n (lv' := [(3, .int 0), (2, .int 0), (0, .ref o), (1, .ref r0)]) hx hb dX4_wholes_3 rfl hl (by decide) rfl (fun ls hl => ?_)
  obtain ⟨n, hw⟩ := hw
  exact L4  n 0 0 hw H locs ls hP hD hS (lv_sub (l' := [(0, .ref o), (1, .ref r0), (2, .int 0), (3, .int 0)]) hl [2, 3, 1, 0] rfl)
abbrev rm_X4_clashing : Room := { frames := 4, cells := 0, slots := 0, locals := 97 }
set_option maxHeartbeats 4000000 in
set_option maxRecDepth 100000 in
theorem c_X4_clashing (l : Launch) (dC : Nat → ClassId) (dI : Nat → Nat → Nat) (cI cJ : ClassId) (o o_now o_then o_past o_text o_told o_lit o_whole o_goes o_latest r0 : Nat) (sz : Nat) (s_lit : Nat → Int32) (s_goes : Nat → Int32) (s_r0 : Nat → Int32) (s_kept : Int32) (s_typed : Int32) (s_thrown : Int32) (s_at : Int32) (s_isFault : Int32) (s_value : Int32) (s_tolds : Int32) (s_isLaid : Int32)  (Q : Int32 → Prop) (hw : P_X4_clashing s_lit s_goes s_r0 Q) : Met l yX4_clashing (Cond.code yX4_clashing cX4_clashing 4 (some .int) :: TBL) rm_X4_clashing (gPc (dC, dI) vwCl (gTy cI cJ) [.ref o, .ref r0] [(o, .inr (4, [.ref o_now, .ref o_then, .ref o_past, .int s_kept, .ref o_text, .int s_typed, .int s_thrown, .int s_at, .int s_isFault, .int s_value, .ref o_told, .int s_tolds, .ref o_lit, .ref o_whole, .ref o_goes, .int s_isLaid, .ref o_latest])), (o_lit, .inl (cI, 96, .inl s_lit)), (o_goes, .inl (cI, 8, .inl s_goes)), (r0, .inl (cI, 87, .inl s_r0))] sz) (va_Qi (fun (r : Int32) (u : Unit) => Q r ) (gB (dC, dI) vwCl (gTy cI cJ) (va_A [(o, .inr (4, [.ref o_now, .ref o_then, .ref o_past, .int s_kept, .ref o_text, .int s_typed, .int s_thrown, .int s_at, .int s_isFault, .int s_value, .ref o_told, .int s_tolds, .ref o_lit, .ref o_whole, .ref o_goes, .int s_isLaid, .ref o_latest])), (o_lit, .inl (cI, 96, .inl s_lit)), (o_goes, .inl (cI, 8, .inl s_goes)), (r0, .inl (cI, 87, .inl s_r0))] sz) (fun (u : Unit) => [(o, .inr (4, [.ref o_now, .ref o_then, .ref o_past, .int s_kept, .ref o_text, .int s_typed, .int s_thrown, .int s_at, .int s_isFault, .int s_value, .ref o_told, .int s_tolds, .ref o_lit, .ref o_whole, .ref o_goes, .int s_isLaid, .ref o_latest])), (o_lit, .inl (cI, 96, .inl s_lit)), (o_goes, .inl (cI, 8, .inl s_goes)), (r0, .inl (cI, 87, .inl s_r0))])) (va_A [(o, .inr (4, [.ref o_now, .ref o_then, .ref o_past, .int s_kept, .ref o_text, .int s_typed, .int s_thrown, .int s_at, .int s_isFault, .int s_value, .ref o_told, .int s_tolds, .ref o_lit, .ref o_whole, .ref o_goes, .int s_isLaid, .ref o_latest])), (o_lit, .inl (cI, 96, .inl s_lit)), (o_goes, .inl (cI, 8, .inl s_goes)), (r0, .inl (cI, 87, .inl s_r0))] sz)) 0 0 (va_A [(o, .inr (4, [.ref o_now, .ref o_then, .ref o_past, .int s_kept, .ref o_text, .int s_typed, .int s_thrown, .int s_at, .int s_isFault, .int s_value, .ref o_told, .int s_tolds, .ref o_lit, .ref o_whole, .ref o_goes, .int s_isLaid, .ref o_latest])), (o_lit, .inl (cI, 96, .inl s_lit)), (o_goes, .inl (cI, 8, .inl s_goes)), (r0, .inl (cI, 87, .inl s_r0))] sz) := by
  refine Met.ofW (cc := cX4_clashing) (maxL := 4) (ret := (some .int)) (by decide) rfl ?_
  intro p e s m args below meth c s₁ B hml hv
  obtain ⟨rfl, hsz, hP, hK, hD0⟩ := hv
  have hx := B.exec
  have hb := B.bytes
  have hr := B.returns
  have hts := atoms_spec (ws := Cond.code yX4_clashing cX4_clashing 4 (some .int) :: TBL) B.pre
  have ht : ∀ w ∈ TBL, w.before ([.ref o, .ref r0] : List Value).toArray s = true := fun w h => hts w (List.mem_cons_of_mem _ h)
  clear hts
  have hown : s.vm.findClass RX4 = some m.cls := findClass_of_methodNamed B.named
  have hlocks := B.notSynchronized
  clear B
  subst hsz
  have hD := hD0.self (sz := s.heap.size)
  clear hD0
  generalize hAe : va_A [(o, .inr (4, [.ref o_now, .ref o_then, .ref o_past, .int s_kept, .ref o_text, .int s_typed, .int s_thrown, .int s_at, .int s_isFault, .int s_value, .ref o_told, .int s_tolds, .ref o_lit, .ref o_whole, .ref o_goes, .int s_isLaid, .ref o_latest])), (o_lit, .inl (cI, 96, .inl s_lit)), (o_goes, .inl (cI, 8, .inl s_goes)), (r0, .inl (cI, 87, .inl s_r0))] s.heap.size = A at hD ⊢
  have hA : ∀ q : Nat, s.heap.size ≤ q → A q := fun q h => by rw [← hAe]; exact Or.inr h
  clear hAe
  have hS : va_S A s.heap s.heap [] := va_S.rf
  have hP : va_P (dC, dI) vwCl [(o, .inr (4, [.ref o_now, .ref o_then, .ref o_past, .int s_kept, .ref o_text, .int s_typed, .int s_thrown, .int s_at, .int s_isFault, .int s_value, .ref o_told, .int s_tolds, .ref o_lit, .ref o_whole, .ref o_goes, .int s_isLaid, .ref o_latest])), (o_lit, .inl (cI, 96, .inl s_lit)), (o_goes, .inl (cI, 8, .inl s_goes)), (r0, .inl (cI, 87, .inl s_r0))] s.heap := hP
  have hl := lv_entry ([.ref o, .ref r0]) (n := 4) (Nat.le_of_ble_eq_true rfl)
  rw [lg_entry_eq]
  generalize (lg_sl ([.ref o, .ref r0]) ++ List.replicate (4 - (lg_sl ([.ref o, .ref r0])).length) Slot.unset).toArray = ls at hl ⊢
  have hl : lv_has ls 4 [(0, .ref o), (1, .ref r0)] := hl
  generalize hQQ : MQ below _ _ _ 0 0 A = QQ
  show W p l e rm_X4_clashing s m ([.ref o, .ref r0] : List Value).toArray below meth c s.heap [] 0 0 QQ (F0 m 0 ls [])
  have L4 : ∀ (n : Nat) (x2 : Int32) (x3 : Int32), P_X4_clashing_L4 s_lit s_goes s_r0 Q n x2 x3 → ∀ (H : Heap) (locs : List Loc) (ls : Array Slot), va_P (dC, dI) vwCl [(o, .inr (4, [.ref o_now, .ref o_then, .ref o_past, .int s_kept, .ref o_text, .int s_typed, .int s_thrown, .int s_at, .int s_isFault, .int s_value, .ref o_told, .int s_tolds, .ref o_lit, .ref o_whole, .ref o_goes, .int s_isLaid, .ref o_latest])), (o_lit, .inl (cI, 96, .inl s_lit)), (o_goes, .inl (cI, 8, .inl s_goes)), (r0, .inl (cI, 87, .inl s_r0))] H → va_D A [(o, .inr (4, [.ref o_now, .ref o_then, .ref o_past, .int s_kept, .ref o_text, .int s_typed, .int s_thrown, .int s_at, .int s_isFault, .int s_value, .ref o_told, .int s_tolds, .ref o_lit, .ref o_whole, .ref o_goes, .int s_isLaid, .ref o_latest])), (o_lit, .inl (cI, 96, .inl s_lit)), (o_goes, .inl (cI, 8, .inl s_goes)), (r0, .inl (cI, 87, .inl s_r0))] → va_S A s.heap H locs → lv_has ls 4 [(0, .ref o), (1, .ref r0), (2, .int x2), (3, .int x3)] → W p l e rm_X4_clashing s m ([.ref o, .ref r0] : List Value).toArray below meth c H locs 0 0 QQ (F0 m 4 ls []) := by
    intro n
    induction n with
    | zero => intro x2 x3 hw; rw [P_X4_clashing_L4_z] at hw; exact hw.elim
    | succ n ih =>
      intro x2 x3 hw
      rw [P_X4_clashing_L4_s] at hw
      generalize hrec : P_X4_clashing_L4 s_lit s_goes s_r0 Q n = rec4 at ih hw
      have J26 : ∀ (x3 : Int32) (t0 : Int32) (t1 : Int32), P_X4_clashing_J26 rec4 x3 t0 t1 → ∀ (H : Heap) (locs : List Loc) (ls : Array Slot), va_P (dC, dI) vwCl [(o, .inr (4, [.ref o_now, .ref o_then, .ref o_past, .int s_kept, .ref o_text, .int s_typed, .int s_thrown, .int s_at, .int s_isFault, .int s_value, .ref o_told, .int s_tolds, .ref o_lit, .ref o_whole, .ref o_goes, .int s_isLaid, .ref o_latest])), (o_lit, .inl (cI, 96, .inl s_lit)), (o_goes, .inl (cI, 8, .inl s_goes)), (r0, .inl (cI, 87, .inl s_r0))] H → va_D A [(o, .inr (4, [.ref o_now, .ref o_then, .ref o_past, .int s_kept, .ref o_text, .int s_typed, .int s_thrown, .int s_at, .int s_isFault, .int s_value, .ref o_told, .int s_tolds, .ref o_lit, .ref o_whole, .ref o_goes, .int s_isLaid, .ref o_latest])), (o_lit, .inl (cI, 96, .inl s_lit)), (o_goes, .inl (cI, 8, .inl s_goes)), (r0, .inl (cI, 87, .inl s_r0))] → va_S A s.heap H locs → lv_has ls 4 [(0, .ref o), (1, .ref r0), (3, .int x3)] → W p l e rm_X4_clashing s m ([.ref o, .ref r0] : List Value).toArray below meth c H locs 0 0 QQ (F0 m 26 ls [.int t0, .int t1]) := by
        intro x3 t0 t1 hw H locs ls hP hD hS hl
        unfold P_X4_clashing_J26 at hw
        refine lv_iadd hx hb dX4_clashing_26 ?_
        refine lv_istore_n (lv' := [(2, .int (t1 + t0)), (0, .ref o), (1, .ref r0), (3, .int x3)]) hx hb dX4_clashing_27 rfl hl (by decide) rfl (fun ls hl => ?_)
        refine lv_iinc (v := (x3 + 1)) (lv' := [(3, .int (x3 + 1)), (2, .int (t1 + t0)), (0, .ref o), (1, .ref r0)]) hx hb dX4_clashing_28 hl (k := 3) rfl rfl (by decide) rfl (fun ls hl => ?_)
        refine lv_goto (tgt := 4) hx hb dX4_clashing_31 (by decide) ?_
        exact ih (t1 + t0) (x3 + 1) hw H locs ls hP hD hS (lv_sub (l' := [(0, .ref o), (1, .ref r0), (2, .int (t1 + t0)), (3, .int (x3 + 1))]) hl [2, 3, 1, 0] rfl)
      intro H locs ls hP hD hS hl
      unfold B_X4_clashing_L4 at hw
      refine lv_iload_n hx hb dX4_clashing_4 rfl (lv_at hl 3 rfl) ?_
      refine lv_sipush (v := 200) hx hb dX4_clashing_5 (by decide) ?_
      refine lv_icmp_ge (tgt := 34) hx hb dX4_clashing_8 (by decide) (fun hc => ?_) (fun hc => ?_)
      · have hw := hw.1 hc
        refine lv_iload_n hx hb dX4_clashing_34 rfl (lv_at hl 2 rfl) ?_
        rw [← hQQ]
        exact g_reti (v := x2) (u := ()) hx hb hr rfl hlocks hw hP hK hD hS dX4_clashing_35
      · have hw := hw.2 hc
        refine lv_iload_n hx hb dX4_clashing_11 rfl (lv_at hl 2 rfl) ?_
        refine lv_aload_n hx hb dX4_clashing_12 rfl (lv_at hl 0 rfl) ?_
        refine lv_aload_n hx hb dX4_clashing_13 rfl (lv_at hl 1 rfl) ?_
        refine lv_iload_n hx hb dX4_clashing_14 rfl (lv_at hl 3 rfl) ?_
        refine gc_Vi (As := [.ref r0, .int x3]) (rest := [.int x2]) (wr := []) ⟨hx, hb, hml, hown, ht⟩ (c_X4_clashes l dC dI cI cJ o o_now o_then o_past o_text o_told o_lit o_whole o_goes o_latest r0 H.size s_lit s_goes s_r0 s_kept s_typed s_thrown s_at s_isFault s_value s_tolds s_isLaid x3 _ hw) (cwV 2 ht (g_V k_1093 k_1095 k_s65 k_5 k_1096) rfl rfl rfl (by decide +kernel) ⟨(Nat.le_of_ble_eq_true rfl), (Nat.le_of_ble_eq_true rfl)⟩) hK hP hD hS hA [0, 1, 2, 3] [] rfl rfl (by decide) 0 rfl rfl rfl rfl hl.1 rfl (Nat.le_of_ble_eq_true rfl) ⟨(Nat.le_of_ble_eq_true rfl), (Nat.le_of_ble_eq_true rfl)⟩ dX4_clashing_15 (fun r_1 u H locs hw hP hD hS => ?_)
        try dsimp only at hw
        have hP : va_P (dC, dI) vwCl [(o, .inr (4, [.ref o_now, .ref o_then, .ref o_past, .int s_kept, .ref o_text, .int s_typed, .int s_thrown, .int s_at, .int s_isFault, .int s_value, .ref o_told, .int s_tolds, .ref o_lit, .ref o_whole, .ref o_goes, .int s_isLaid, .ref o_latest])), (o_lit, .inl (cI, 96, .inl s_lit)), (o_goes, .inl (cI, 8, .inl s_goes)), (r0, .inl (cI, 87, .inl s_r0))] H := hP
        have hD : va_D A [(o, .inr (4, [.ref o_now, .ref o_then, .ref o_past, .int s_kept, .ref o_text, .int s_typed, .int s_thrown, .int s_at, .int s_isFault, .int s_value, .ref o_told, .int s_tolds, .ref o_lit, .ref o_whole, .ref o_goes, .int s_isLaid, .ref o_latest])), (o_lit, .inl (cI, 96, .inl s_lit)), (o_goes, .inl (cI, 8, .inl s_goes)), (r0, .inl (cI, 87, .inl s_r0))] := hD
        refine lv_if_le (tgt := 25) hx hb dX4_clashing_18 (by decide) (fun hc => ?_) (fun hc => ?_)
        · have hw := hw.1 hc
          refine lv_iconst (v := 0) hx hb dX4_clashing_25 (by decide) ?_
          exact J26 x3 0 x2 hw H locs ls hP hD hS (lv_sub (l' := [(0, .ref o), (1, .ref r0), (3, .int x3)]) hl [0, 1, 3] rfl)
        · have hw := hw.2 hc
          refine lv_iconst (v := 1) hx hb dX4_clashing_21 (by decide) ?_
          refine lv_goto (tgt := 26) hx hb dX4_clashing_22 (by decide) ?_
          exact J26 x3 1 x2 hw H locs ls hP hD hS (lv_sub (l' := [(0, .ref o), (1, .ref r0), (3, .int x3)]) hl [0, 1, 3] rfl)
  obtain ⟨H, hHH⟩ : ∃ H, H = s.heap := ⟨_, rfl⟩
  rw [← hHH] at hP ⊢
  have hS : va_S A s.heap H [] := by rw [hHH]; exact hS
  clear hHH
  generalize ([] : List Loc) = locs at hS ⊢
  unfold P_X4_clashing at hw
  refine lv_iconst (v := 0) hx hb dX4_clashing_0 (by decide) ?_
  refine lv_istore_n (lv' := [(2, .int 0), (0, .ref o), (1, .ref r0)]) hx hb dX4_clashing_1 rfl hl (by decide) rfl (fun ls hl => ?_)
  refine lv_iconst (v := 0) hx hb dX4_clashing_2 (by decide) ?_
  refine lv_istore_n (lv' := [(3, .int 0), (2, .int 0), (0, .ref o), (1, .ref r0)]) hx hb dX4_clashing_3 rfl hl (by decide) rfl (fun ls hl => ?_)
  obtain ⟨n, hw⟩ := hw
  exact L4  n 0 0 hw H locs ls hP hD hS (lv_sub (l' := [(0, .ref o), (1, .ref r0), (2, .int 0), (3, .int 0)]) hl [2, 3, 1, 0] rfl)
abbrev rm_X4_mayWord : Room := { frames := 2, cells := 0, slots := 0, locals := 42 }
set_option maxHeartbeats 4000000 in
set_option maxRecDepth 100000 in
theorem c_X4_mayWord (l : Launch) (dC : Nat → ClassId) (dI : Nat → Nat → Nat) (cI cJ : ClassId) (o o_now o_then o_past o_text o_told o_lit o_whole o_goes o_latest : Nat) (sz : Nat) (s_now : Nat → Int32) (s_kept : Int32) (s_typed : Int32) (s_thrown : Int32) (s_at : Int32) (s_isFault : Int32) (s_value : Int32) (s_tolds : Int32) (s_isLaid : Int32) (p0 : Int32) (p1 : Int32) (p2 : Int32) (p3 : Int32) (Q : Int32 → Prop) (hw : P_X4_mayWord p0 p1 p2 p3 s_now Q) : Met l yX4_mayWord (Cond.code yX4_mayWord cX4_mayWord 5 (some .int) :: TBL) rm_X4_mayWord (gPc (dC, dI) vwCl (gTy cI cJ) [.ref o, .int p0, .int p1, .int p2, .int p3] [(o, .inr (4, [.ref o_now, .ref o_then, .ref o_past, .int s_kept, .ref o_text, .int s_typed, .int s_thrown, .int s_at, .int s_isFault, .int s_value, .ref o_told, .int s_tolds, .ref o_lit, .ref o_whole, .ref o_goes, .int s_isLaid, .ref o_latest])), (o_now, .inl (cI, 87, .inl s_now))] sz) (va_Qi (fun (r : Int32) (u : Unit) => Q r ) (gB (dC, dI) vwCl (gTy cI cJ) (va_A [(o, .inr (4, [.ref o_now, .ref o_then, .ref o_past, .int s_kept, .ref o_text, .int s_typed, .int s_thrown, .int s_at, .int s_isFault, .int s_value, .ref o_told, .int s_tolds, .ref o_lit, .ref o_whole, .ref o_goes, .int s_isLaid, .ref o_latest])), (o_now, .inl (cI, 87, .inl s_now))] sz) (fun (u : Unit) => [(o, .inr (4, [.ref o_now, .ref o_then, .ref o_past, .int s_kept, .ref o_text, .int s_typed, .int s_thrown, .int s_at, .int s_isFault, .int s_value, .ref o_told, .int s_tolds, .ref o_lit, .ref o_whole, .ref o_goes, .int s_isLaid, .ref o_latest])), (o_now, .inl (cI, 87, .inl s_now))])) (va_A [(o, .inr (4, [.ref o_now, .ref o_then, .ref o_past, .int s_kept, .ref o_text, .int s_typed, .int s_thrown, .int s_at, .int s_isFault, .int s_value, .ref o_told, .int s_tolds, .ref o_lit, .ref o_whole, .ref o_goes, .int s_isLaid, .ref o_latest])), (o_now, .inl (cI, 87, .inl s_now))] sz)) 0 0 (va_A [(o, .inr (4, [.ref o_now, .ref o_then, .ref o_past, .int s_kept, .ref o_text, .int s_typed, .int s_thrown, .int s_at, .int s_isFault, .int s_value, .ref o_told, .int s_tolds, .ref o_lit, .ref o_whole, .ref o_goes, .int s_isLaid, .ref o_latest])), (o_now, .inl (cI, 87, .inl s_now))] sz) := by
  refine Met.ofW (cc := cX4_mayWord) (maxL := 5) (ret := (some .int)) (by decide) rfl ?_
  intro p e s m args below meth c s₁ B hml hv
  obtain ⟨rfl, hsz, hP, hK, hD0⟩ := hv
  have hx := B.exec
  have hb := B.bytes
  have hr := B.returns
  have hts := atoms_spec (ws := Cond.code yX4_mayWord cX4_mayWord 5 (some .int) :: TBL) B.pre
  have ht : ∀ w ∈ TBL, w.before ([.ref o, .int p0, .int p1, .int p2, .int p3] : List Value).toArray s = true := fun w h => hts w (List.mem_cons_of_mem _ h)
  clear hts
  have hown : s.vm.findClass RX4 = some m.cls := findClass_of_methodNamed B.named
  have hlocks := B.notSynchronized
  clear B
  subst hsz
  have hD := hD0.self (sz := s.heap.size)
  clear hD0
  generalize hAe : va_A [(o, .inr (4, [.ref o_now, .ref o_then, .ref o_past, .int s_kept, .ref o_text, .int s_typed, .int s_thrown, .int s_at, .int s_isFault, .int s_value, .ref o_told, .int s_tolds, .ref o_lit, .ref o_whole, .ref o_goes, .int s_isLaid, .ref o_latest])), (o_now, .inl (cI, 87, .inl s_now))] s.heap.size = A at hD ⊢
  have hA : ∀ q : Nat, s.heap.size ≤ q → A q := fun q h => by rw [← hAe]; exact Or.inr h
  clear hAe
  have hS : va_S A s.heap s.heap [] := va_S.rf
  have hP : va_P (dC, dI) vwCl [(o, .inr (4, [.ref o_now, .ref o_then, .ref o_past, .int s_kept, .ref o_text, .int s_typed, .int s_thrown, .int s_at, .int s_isFault, .int s_value, .ref o_told, .int s_tolds, .ref o_lit, .ref o_whole, .ref o_goes, .int s_isLaid, .ref o_latest])), (o_now, .inl (cI, 87, .inl s_now))] s.heap := hP
  have hl := lv_entry ([.ref o, .int p0, .int p1, .int p2, .int p3]) (n := 5) (Nat.le_of_ble_eq_true rfl)
  rw [lg_entry_eq]
  generalize (lg_sl ([.ref o, .int p0, .int p1, .int p2, .int p3]) ++ List.replicate (5 - (lg_sl ([.ref o, .int p0, .int p1, .int p2, .int p3])).length) Slot.unset).toArray = ls at hl ⊢
  have hl : lv_has ls 5 [(0, .ref o), (1, .int p0), (2, .int p1), (3, .int p2), (4, .int p3)] := hl
  generalize hQQ : MQ below _ _ _ 0 0 A = QQ
  show W p l e rm_X4_mayWord s m ([.ref o, .int p0, .int p1, .int p2, .int p3] : List Value).toArray below meth c s.heap [] 0 0 QQ (F0 m 0 ls [])
  obtain ⟨H, hHH⟩ : ∃ H, H = s.heap := ⟨_, rfl⟩
  rw [← hHH] at hP ⊢
  have hS : va_S A s.heap H [] := by rw [hHH]; exact hS
  clear hHH
  generalize ([] : List Loc) = locs at hS ⊢
  unfold P_X4_mayWord at hw
  refine lv_iload_n hx hb dX4_mayWord_0 rfl (lv_at hl 1 rfl) ?_
  refine lv_iconst (v := 1) hx hb dX4_mayWord_1 (by decide) ?_
  refine lv_bipush (v := 12) hx hb dX4_mayWord_2 (by decide) ?_
  refine gc_Si (As := [.int p0, .int 1, .int 12]) (rest := []) (wr := [(o, .inr (4, [.ref o_now, .ref o_then, .ref o_past, .int s_kept, .ref o_text, .int s_typed, .int s_thrown, .int s_at, .int s_isFault, .int s_value, .ref o_told, .int s_tolds, .ref o_lit, .ref o_whole, .ref o_goes, .int s_isLaid, .ref o_latest])), (o_now, .inl (cI, 87, .inl s_now))]) ⟨hx, hb, hml, hown, ht⟩ (c_X4_in l dC dI cI cJ  H.size p0 1 12 _ hw) (va_cwS 3 ht (g_S k_893 k_894 k_5 k_895) rfl rfl rfl (by decide +kernel) ⟨(Nat.le_of_ble_eq_true rfl), (Nat.le_of_ble_eq_true rfl)⟩) hK hP hD hS hA [] [0, 1] rfl rfl (by decide) rfl hl.1 rfl (Nat.le_of_ble_eq_true rfl) ⟨(Nat.le_of_ble_eq_true rfl), (Nat.le_of_ble_eq_true rfl)⟩ dX4_mayWord_4 (fun r_1 u H locs hw hP hD hS => ?_)
  try dsimp only at hw
  have hP : va_P (dC, dI) vwCl [(o, .inr (4, [.ref o_now, .ref o_then, .ref o_past, .int s_kept, .ref o_text, .int s_typed, .int s_thrown, .int s_at, .int s_isFault, .int s_value, .ref o_told, .int s_tolds, .ref o_lit, .ref o_whole, .ref o_goes, .int s_isLaid, .ref o_latest])), (o_now, .inl (cI, 87, .inl s_now))] H := hP
  have hD : va_D A [(o, .inr (4, [.ref o_now, .ref o_then, .ref o_past, .int s_kept, .ref o_text, .int s_typed, .int s_thrown, .int s_at, .int s_isFault, .int s_value, .ref o_told, .int s_tolds, .ref o_lit, .ref o_whole, .ref o_goes, .int s_isLaid, .ref o_latest])), (o_now, .inl (cI, 87, .inl s_now))] := hD
  refine lv_if_eq (tgt := 43) hx hb dX4_mayWord_7 (by decide) (fun hc => ?_) (fun hc => ?_)
  · have hw := hw.1 hc
    refine lv_iconst (v := 1) hx hb dX4_mayWord_43 (by decide) ?_
    rw [← hQQ]
    exact g_reti (v := 1) (u := ()) hx hb hr rfl hlocks hw hP hK hD hS dX4_mayWord_44
  · have hw := hw.2 hc
    refine lv_iload_n hx hb dX4_mayWord_10 rfl (lv_at hl 2 rfl) ?_
    refine lv_iconst (v := 0) hx hb dX4_mayWord_11 (by decide) ?_
    refine lv_bipush (v := 7) hx hb dX4_mayWord_12 (by decide) ?_
    refine gc_Si (As := [.int p1, .int 0, .int 7]) (rest := []) (wr := [(o, .inr (4, [.ref o_now, .ref o_then, .ref o_past, .int s_kept, .ref o_text, .int s_typed, .int s_thrown, .int s_at, .int s_isFault, .int s_value, .ref o_told, .int s_tolds, .ref o_lit, .ref o_whole, .ref o_goes, .int s_isLaid, .ref o_latest])), (o_now, .inl (cI, 87, .inl s_now))]) ⟨hx, hb, hml, hown, ht⟩ (c_X4_in l dC dI cI cJ  H.size p1 0 7 _ hw) (va_cwS 3 ht (g_S k_893 k_894 k_5 k_895) rfl rfl rfl (by decide +kernel) ⟨(Nat.le_of_ble_eq_true rfl), (Nat.le_of_ble_eq_true rfl)⟩) hK hP hD hS hA [] [0, 1] rfl rfl (by decide) rfl hl.1 rfl (Nat.le_of_ble_eq_true rfl) ⟨(Nat.le_of_ble_eq_true rfl), (Nat.le_of_ble_eq_true rfl)⟩ dX4_mayWord_14 (fun r_2 u H locs hw hP hD hS => ?_)
    try dsimp only at hw
    have hP : va_P (dC, dI) vwCl [(o, .inr (4, [.ref o_now, .ref o_then, .ref o_past, .int s_kept, .ref o_text, .int s_typed, .int s_thrown, .int s_at, .int s_isFault, .int s_value, .ref o_told, .int s_tolds, .ref o_lit, .ref o_whole, .ref o_goes, .int s_isLaid, .ref o_latest])), (o_now, .inl (cI, 87, .inl s_now))] H := hP
    have hD : va_D A [(o, .inr (4, [.ref o_now, .ref o_then, .ref o_past, .int s_kept, .ref o_text, .int s_typed, .int s_thrown, .int s_at, .int s_isFault, .int s_value, .ref o_told, .int s_tolds, .ref o_lit, .ref o_whole, .ref o_goes, .int s_isLaid, .ref o_latest])), (o_now, .inl (cI, 87, .inl s_now))] := hD
    refine lv_if_eq (tgt := 43) hx hb dX4_mayWord_17 (by decide) (fun hc => ?_) (fun hc => ?_)
    · have hw := hw.1 hc
      refine lv_iconst (v := 1) hx hb dX4_mayWord_43 (by decide) ?_
      rw [← hQQ]
      exact g_reti (v := 1) (u := ()) hx hb hr rfl hlocks hw hP hK hD hS dX4_mayWord_44
    · have hw := hw.2 hc
      refine lv_iload_n hx hb dX4_mayWord_20 rfl (lv_at hl 3 rfl) ?_
      refine gc_Si (As := [.int p2]) (rest := []) (wr := [(o, .inr (4, [.ref o_now, .ref o_then, .ref o_past, .int s_kept, .ref o_text, .int s_typed, .int s_thrown, .int s_at, .int s_isFault, .int s_value, .ref o_told, .int s_tolds, .ref o_lit, .ref o_whole, .ref o_goes, .int s_isLaid, .ref o_latest])), (o_now, .inl (cI, 87, .inl s_now))]) ⟨hx, hb, hml, hown, ht⟩ (c_X4_isColumn l dC dI cI cJ  H.size p2 _ hw) (va_cwS 1 ht (g_S k_896 k_897 k_5 k_898) rfl rfl rfl (by decide +kernel) ⟨(Nat.le_of_ble_eq_true rfl), (Nat.le_of_ble_eq_true rfl)⟩) hK hP hD hS hA [] [0, 1] rfl rfl (by decide) rfl hl.1 rfl (Nat.le_of_ble_eq_true rfl) ⟨(Nat.le_of_ble_eq_true rfl), (Nat.le_of_ble_eq_true rfl)⟩ dX4_mayWord_21 (fun r_3 u H locs hw hP hD hS => ?_)
      try dsimp only at hw
      have hP : va_P (dC, dI) vwCl [(o, .inr (4, [.ref o_now, .ref o_then, .ref o_past, .int s_kept, .ref o_text, .int s_typed, .int s_thrown, .int s_at, .int s_isFault, .int s_value, .ref o_told, .int s_tolds, .ref o_lit, .ref o_whole, .ref o_goes, .int s_isLaid, .ref o_latest])), (o_now, .inl (cI, 87, .inl s_now))] H := hP
      have hD : va_D A [(o, .inr (4, [.ref o_now, .ref o_then, .ref o_past, .int s_kept, .ref o_text, .int s_typed, .int s_thrown, .int s_at, .int s_isFault, .int s_value, .ref o_told, .int s_tolds, .ref o_lit, .ref o_whole, .ref o_goes, .int s_isLaid, .ref o_latest])), (o_now, .inl (cI, 87, .inl s_now))] := hD
      refine lv_if_eq (tgt := 43) hx hb dX4_mayWord_24 (by decide) (fun hc => ?_) (fun hc => ?_)
      · have hw := hw.1 hc
        refine lv_iconst (v := 1) hx hb dX4_mayWord_43 (by decide) ?_
        rw [← hQQ]
        exact g_reti (v := 1) (u := ()) hx hb hr rfl hlocks hw hP hK hD hS dX4_mayWord_44
      · have hw := hw.2 hc
        refine lv_iload hx hb dX4_mayWord_27 (lv_at hl 4 rfl) ?_
        refine gc_Si (As := [.int p3]) (rest := []) (wr := [(o, .inr (4, [.ref o_now, .ref o_then, .ref o_past, .int s_kept, .ref o_text, .int s_typed, .int s_thrown, .int s_at, .int s_isFault, .int s_value, .ref o_told, .int s_tolds, .ref o_lit, .ref o_whole, .ref o_goes, .int s_isLaid, .ref o_latest])), (o_now, .inl (cI, 87, .inl s_now))]) ⟨hx, hb, hml, hown, ht⟩ (c_X4_isBeat l dC dI cI cJ  H.size p3 _ hw) (va_cwS 1 ht (g_S k_899 k_900 k_5 k_901) rfl rfl rfl (by decide +kernel) ⟨(Nat.le_of_ble_eq_true rfl), (Nat.le_of_ble_eq_true rfl)⟩) hK hP hD hS hA [] [0, 1] rfl rfl (by decide) rfl hl.1 rfl (Nat.le_of_ble_eq_true rfl) ⟨(Nat.le_of_ble_eq_true rfl), (Nat.le_of_ble_eq_true rfl)⟩ dX4_mayWord_29 (fun r_4 u H locs hw hP hD hS => ?_)
        try dsimp only at hw
        have hP : va_P (dC, dI) vwCl [(o, .inr (4, [.ref o_now, .ref o_then, .ref o_past, .int s_kept, .ref o_text, .int s_typed, .int s_thrown, .int s_at, .int s_isFault, .int s_value, .ref o_told, .int s_tolds, .ref o_lit, .ref o_whole, .ref o_goes, .int s_isLaid, .ref o_latest])), (o_now, .inl (cI, 87, .inl s_now))] H := hP
        have hD : va_D A [(o, .inr (4, [.ref o_now, .ref o_then, .ref o_past, .int s_kept, .ref o_text, .int s_typed, .int s_thrown, .int s_at, .int s_isFault, .int s_value, .ref o_told, .int s_tolds, .ref o_lit, .ref o_whole, .ref o_goes, .int s_isLaid, .ref o_latest])), (o_now, .inl (cI, 87, .inl s_now))] := hD
        refine lv_if_eq (tgt := 43) hx hb dX4_mayWord_32 (by decide) (fun hc => ?_) (fun hc => ?_)
        · have hw := hw.1 hc
          refine lv_iconst (v := 1) hx hb dX4_mayWord_43 (by decide) ?_
          rw [← hQQ]
          exact g_reti (v := 1) (u := ()) hx hb hr rfl hlocks hw hP hK hD hS dX4_mayWord_44
        · have hw := hw.2 hc
          refine lv_iload_n hx hb dX4_mayWord_35 rfl (lv_at hl 3 rfl) ?_
          refine lv_iload_n hx hb dX4_mayWord_36 rfl (lv_at hl 1 rfl) ?_
          refine lv_iadd hx hb dX4_mayWord_37 ?_
          refine lv_bipush (v := 60) hx hb dX4_mayWord_38 (by decide) ?_
          refine lv_icmp_le (tgt := 45) hx hb dX4_mayWord_40 (by decide) (fun hc => ?_) (fun hc => ?_)
          · have hw := hw.1 hc
            refine lv_aload_n hx hb dX4_mayWord_45 rfl (lv_at hl 0 rfl) ?_
            refine va_get (D := (dC, dI)) (ci := 4) (v := .ref o_now) (C := RX4) (T := TX4) (N := 17) hx hb ht i_X4 hown hK hP 0 rfl rfl 0 (by decide) (ht _ k_818) (fun _ h9 => h9) rfl dX4_mayWord_46 ?_
            refine lv_iconst (v := 2) hx hb dX4_mayWord_49 (by decide) ?_
            refine gv_iald hx hb hK hP 1 0 rfl rfl (k := 2) (by decide) (by unfold vp_in; decide) dX4_mayWord_50 ?_
            refine lv_bipush (v := 8) hx hb dX4_mayWord_51 (by decide) ?_
            refine lv_icmp_ne (tgt := 60) hx hb dX4_mayWord_53 (by decide) (fun hc => ?_) (fun hc => ?_)
            · have hw := hw.1 hc
              refine lv_iconst (v := 0) hx hb dX4_mayWord_60 (by decide) ?_
              rw [← hQQ]
              exact g_reti (v := 0) (u := ()) hx hb hr rfl hlocks hw hP hK hD hS dX4_mayWord_61
            · have hw := hw.2 hc
              refine lv_iconst (v := 2) hx hb dX4_mayWord_56 (by decide) ?_
              refine lv_goto (tgt := 61) hx hb dX4_mayWord_57 (by decide) ?_
              rw [← hQQ]
              exact g_reti (v := 2) (u := ()) hx hb hr rfl hlocks hw hP hK hD hS dX4_mayWord_61
          · have hw := hw.2 hc
            refine lv_iconst (v := 1) hx hb dX4_mayWord_43 (by decide) ?_
            rw [← hQQ]
            exact g_reti (v := 1) (u := ()) hx hb hr rfl hlocks hw hP hK hD hS dX4_mayWord_44
abbrev rm_X4_words : Room := { frames := 0, cells := 0, slots := 0, locals := 0 }
set_option maxHeartbeats 4000000 in
set_option maxRecDepth 100000 in
theorem c_X4_words (l : Launch) (dC : Nat → ClassId) (dI : Nat → Nat → Nat) (cI cJ : ClassId) (o o_now o_then o_past o_text o_told o_lit o_whole o_goes o_latest : Nat) (sz : Nat) (s_now : Nat → Int32) (s_kept : Int32) (s_typed : Int32) (s_thrown : Int32) (s_at : Int32) (s_isFault : Int32) (s_value : Int32) (s_tolds : Int32) (s_isLaid : Int32) (p0 : Int32) (p1 : Int32) (p2 : Int32) (p3 : Int32) (Q : Int32 → (Nat → Int32) → Prop) (hw : P_X4_words p0 p1 p2 p3 s_now Q) : Met l yX4_words (Cond.code yX4_words cX4_words 6 (some .int) :: TBL) rm_X4_words (gPc (dC, dI) vwCl (gTy cI cJ) [.ref o, .int p0, .int p1, .int p2, .int p3] [(o, .inr (4, [.ref o_now, .ref o_then, .ref o_past, .int s_kept, .ref o_text, .int s_typed, .int s_thrown, .int s_at, .int s_isFault, .int s_value, .ref o_told, .int s_tolds, .ref o_lit, .ref o_whole, .ref o_goes, .int s_isLaid, .ref o_latest])), (o_now, .inl (cI, 87, .inl s_now))] sz) (va_Qi (fun (r : Int32) (u : (Nat → Int32)) => Q r u) (gB (dC, dI) vwCl (gTy cI cJ) (va_A [(o, .inr (4, [.ref o_now, .ref o_then, .ref o_past, .int s_kept, .ref o_text, .int s_typed, .int s_thrown, .int s_at, .int s_isFault, .int s_value, .ref o_told, .int s_tolds, .ref o_lit, .ref o_whole, .ref o_goes, .int s_isLaid, .ref o_latest])), (o_now, .inl (cI, 87, .inl s_now))] sz) (fun (u : (Nat → Int32)) => [(o, .inr (4, [.ref o_now, .ref o_then, .ref o_past, .int s_kept, .ref o_text, .int s_typed, .int s_thrown, .int s_at, .int s_isFault, .int s_value, .ref o_told, .int s_tolds, .ref o_lit, .ref o_whole, .ref o_goes, .int s_isLaid, .ref o_latest])), (o_now, .inl (cI, 87, .inl u))])) (va_A [(o, .inr (4, [.ref o_now, .ref o_then, .ref o_past, .int s_kept, .ref o_text, .int s_typed, .int s_thrown, .int s_at, .int s_isFault, .int s_value, .ref o_told, .int s_tolds, .ref o_lit, .ref o_whole, .ref o_goes, .int s_isLaid, .ref o_latest])), (o_now, .inl (cI, 87, .inl s_now))] sz)) 0 0 (va_A [(o, .inr (4, [.ref o_now, .ref o_then, .ref o_past, .int s_kept, .ref o_text, .int s_typed, .int s_thrown, .int s_at, .int s_isFault, .int s_value, .ref o_told, .int s_tolds, .ref o_lit, .ref o_whole, .ref o_goes, .int s_isLaid, .ref o_latest])), (o_now, .inl (cI, 87, .inl s_now))] sz) := by
  refine Met.ofW (cc := cX4_words) (maxL := 6) (ret := (some .int)) (by decide) rfl ?_
  intro p e s m args below meth c s₁ B hml hv
  obtain ⟨rfl, hsz, hP, hK, hD0⟩ := hv
  have hx := B.exec
  have hb := B.bytes
  have hr := B.returns
  have hts := atoms_spec (ws := Cond.code yX4_words cX4_words 6 (some .int) :: TBL) B.pre
  have ht : ∀ w ∈ TBL, w.before ([.ref o, .int p0, .int p1, .int p2, .int p3] : List Value).toArray s = true := fun w h => hts w (List.mem_cons_of_mem _ h)
  clear hts
  have hown : s.vm.findClass RX4 = some m.cls := findClass_of_methodNamed B.named
  have hlocks := B.notSynchronized
  clear B
  subst hsz
  have hD := hD0.self (sz := s.heap.size)
  clear hD0
  generalize hAe : va_A [(o, .inr (4, [.ref o_now, .ref o_then, .ref o_past, .int s_kept, .ref o_text, .int s_typed, .int s_thrown, .int s_at, .int s_isFault, .int s_value, .ref o_told, .int s_tolds, .ref o_lit, .ref o_whole, .ref o_goes, .int s_isLaid, .ref o_latest])), (o_now, .inl (cI, 87, .inl s_now))] s.heap.size = A at hD ⊢
  have hA : ∀ q : Nat, s.heap.size ≤ q → A q := fun q h => by rw [← hAe]; exact Or.inr h
  clear hAe
  have hS : va_S A s.heap s.heap [] := va_S.rf
  have hP : va_P (dC, dI) vwCl [(o, .inr (4, [.ref o_now, .ref o_then, .ref o_past, .int s_kept, .ref o_text, .int s_typed, .int s_thrown, .int s_at, .int s_isFault, .int s_value, .ref o_told, .int s_tolds, .ref o_lit, .ref o_whole, .ref o_goes, .int s_isLaid, .ref o_latest])), (o_now, .inl (cI, 87, .inl s_now))] s.heap := hP
  have hl := lv_entry ([.ref o, .int p0, .int p1, .int p2, .int p3]) (n := 6) (Nat.le_of_ble_eq_true rfl)
  rw [lg_entry_eq]
  generalize (lg_sl ([.ref o, .int p0, .int p1, .int p2, .int p3]) ++ List.replicate (6 - (lg_sl ([.ref o, .int p0, .int p1, .int p2, .int p3])).length) Slot.unset).toArray = ls at hl ⊢
  have hl : lv_has ls 6 [(0, .ref o), (1, .int p0), (2, .int p1), (3, .int p2), (4, .int p3)] := hl
  generalize hQQ : MQ below _ _ _ 0 0 A = QQ
  show W p l e rm_X4_words s m ([.ref o, .int p0, .int p1, .int p2, .int p3] : List Value).toArray below meth c s.heap [] 0 0 QQ (F0 m 0 ls [])
  obtain ⟨H, hHH⟩ : ∃ H, H = s.heap := ⟨_, rfl⟩
  rw [← hHH] at hP ⊢
  have hS : va_S A s.heap H [] := by rw [hHH]; exact hS
  clear hHH
  generalize ([] : List Loc) = locs at hS ⊢
  unfold P_X4_words at hw
  refine lv_iconst (v := 4) hx hb dX4_words_0 (by decide) ?_
  refine lv_bipush (v := 6) hx hb dX4_words_1 (by decide) ?_
  refine lv_aload_n hx hb dX4_words_3 rfl (lv_at hl 0 rfl) ?_
  refine va_get (D := (dC, dI)) (ci := 4) (v := .ref o_now) (C := RX4) (T := TX4) (N := 17) hx hb ht i_X4 hown hK hP 0 rfl rfl 0 (by decide) (ht _ k_818) (fun _ h9 => h9) rfl dX4_words_4 ?_
  refine lv_iconst (v := 2) hx hb dX4_words_7 (by decide) ?_
  refine gv_iald hx hb hK hP 1 0 rfl rfl (k := 2) (by decide) (by unfold vp_in; decide) dX4_words_8 ?_
  refine lv_imul hx hb dX4_words_9 ?_
  refine lv_iadd hx hb dX4_words_10 ?_
  refine lv_istore (lv' := [(5, .int (4 + (6 * (s_now 2)))), (0, .ref o), (1, .int p0), (2, .int p1), (3, .int p2), (4, .int p3)]) hx hb dX4_words_11 hl (by decide) rfl (fun ls hl => ?_)
  refine lv_aload_n hx hb dX4_words_13 rfl (lv_at hl 1 rfl) ?_
  refine va_get (D := (dC, dI)) (ci := 4) (v := .ref o_now) (C := RX4) (T := TX4) (N := 17) hx hb ht i_X4 hown hK hP 0 rfl rfl 0 (by decide) (ht _ k_818) (fun _ h9 => h9) rfl dX4_words_14 ?_
  refine lv_iload hx hb dX4_words_17 (lv_at hl 0 rfl) ?_
  refine lv_iload_n hx hb dX4_words_19 rfl (lv_at hl 2 rfl) ?_
  obtain ⟨hi_1, hw⟩ := hw
  refine gv_iast hx hb hK hP hD hS 1 0 rfl rfl rfl hi_1 dX4_words_20 (fun H locs hP hD hS => ?_)
  have hP : va_P (dC, dI) vwCl [(o, .inr (4, [.ref o_now, .ref o_then, .ref o_past, .int s_kept, .ref o_text, .int s_typed, .int s_thrown, .int s_at, .int s_isFault, .int s_value, .ref o_told, .int s_tolds, .ref o_lit, .ref o_whole, .ref o_goes, .int s_isLaid, .ref o_latest])), (o_now, .inl (cI, 87, .inl (upd s_now ((4 + (6 * (s_now 2))).toNatClampNeg) p0)))] H := hP
  have hD : va_D A [(o, .inr (4, [.ref o_now, .ref o_then, .ref o_past, .int s_kept, .ref o_text, .int s_typed, .int s_thrown, .int s_at, .int s_isFault, .int s_value, .ref o_told, .int s_tolds, .ref o_lit, .ref o_whole, .ref o_goes, .int s_isLaid, .ref o_latest])), (o_now, .inl (cI, 87, .inl (upd s_now ((4 + (6 * (s_now 2))).toNatClampNeg) p0)))] := hD
  refine lv_aload_n hx hb dX4_words_21 rfl (lv_at hl 1 rfl) ?_
  refine va_get (D := (dC, dI)) (ci := 4) (v := .ref o_now) (C := RX4) (T := TX4) (N := 17) hx hb ht i_X4 hown hK hP 0 rfl rfl 0 (by decide) (ht _ k_818) (fun _ h9 => h9) rfl dX4_words_22 ?_
  refine lv_iload hx hb dX4_words_25 (lv_at hl 0 rfl) ?_
  refine lv_iconst (v := 1) hx hb dX4_words_27 (by decide) ?_
  refine lv_iadd hx hb dX4_words_28 ?_
  refine lv_iload_n hx hb dX4_words_29 rfl (lv_at hl 3 rfl) ?_
  obtain ⟨hi_2, hw⟩ := hw
  refine gv_iast hx hb hK hP hD hS 1 0 rfl rfl rfl hi_2 dX4_words_30 (fun H locs hP hD hS => ?_)
  have hP : va_P (dC, dI) vwCl [(o, .inr (4, [.ref o_now, .ref o_then, .ref o_past, .int s_kept, .ref o_text, .int s_typed, .int s_thrown, .int s_at, .int s_isFault, .int s_value, .ref o_told, .int s_tolds, .ref o_lit, .ref o_whole, .ref o_goes, .int s_isLaid, .ref o_latest])), (o_now, .inl (cI, 87, .inl (upd (upd s_now ((4 + (6 * (s_now 2))).toNatClampNeg) p0) (((4 + (6 * (s_now 2))) + 1).toNatClampNeg) p1)))] H := hP
  have hD : va_D A [(o, .inr (4, [.ref o_now, .ref o_then, .ref o_past, .int s_kept, .ref o_text, .int s_typed, .int s_thrown, .int s_at, .int s_isFault, .int s_value, .ref o_told, .int s_tolds, .ref o_lit, .ref o_whole, .ref o_goes, .int s_isLaid, .ref o_latest])), (o_now, .inl (cI, 87, .inl (upd (upd s_now ((4 + (6 * (s_now 2))).toNatClampNeg) p0) (((4 + (6 * (s_now 2))) + 1).toNatClampNeg) p1)))] := hD
  refine lv_aload_n hx hb dX4_words_31 rfl (lv_at hl 1 rfl) ?_
  refine va_get (D := (dC, dI)) (ci := 4) (v := .ref o_now) (C := RX4) (T := TX4) (N := 17) hx hb ht i_X4 hown hK hP 0 rfl rfl 0 (by decide) (ht _ k_818) (fun _ h9 => h9) rfl dX4_words_32 ?_
  refine lv_iload hx hb dX4_words_35 (lv_at hl 0 rfl) ?_
  refine lv_iconst (v := 2) hx hb dX4_words_37 (by decide) ?_
  refine lv_iadd hx hb dX4_words_38 ?_
  refine lv_iload_n hx hb dX4_words_39 rfl (lv_at hl 4 rfl) ?_
  obtain ⟨hi_3, hw⟩ := hw
  refine gv_iast hx hb hK hP hD hS 1 0 rfl rfl rfl hi_3 dX4_words_40 (fun H locs hP hD hS => ?_)
  have hP : va_P (dC, dI) vwCl [(o, .inr (4, [.ref o_now, .ref o_then, .ref o_past, .int s_kept, .ref o_text, .int s_typed, .int s_thrown, .int s_at, .int s_isFault, .int s_value, .ref o_told, .int s_tolds, .ref o_lit, .ref o_whole, .ref o_goes, .int s_isLaid, .ref o_latest])), (o_now, .inl (cI, 87, .inl (upd (upd (upd s_now ((4 + (6 * (s_now 2))).toNatClampNeg) p0) (((4 + (6 * (s_now 2))) + 1).toNatClampNeg) p1) (((4 + (6 * (s_now 2))) + 2).toNatClampNeg) p2)))] H := hP
  have hD : va_D A [(o, .inr (4, [.ref o_now, .ref o_then, .ref o_past, .int s_kept, .ref o_text, .int s_typed, .int s_thrown, .int s_at, .int s_isFault, .int s_value, .ref o_told, .int s_tolds, .ref o_lit, .ref o_whole, .ref o_goes, .int s_isLaid, .ref o_latest])), (o_now, .inl (cI, 87, .inl (upd (upd (upd s_now ((4 + (6 * (s_now 2))).toNatClampNeg) p0) (((4 + (6 * (s_now 2))) + 1).toNatClampNeg) p1) (((4 + (6 * (s_now 2))) + 2).toNatClampNeg) p2)))] := hD
  refine lv_aload_n hx hb dX4_words_41 rfl (lv_at hl 1 rfl) ?_
  refine va_get (D := (dC, dI)) (ci := 4) (v := .ref o_now) (C := RX4) (T := TX4) (N := 17) hx hb ht i_X4 hown hK hP 0 rfl rfl 0 (by decide) (ht _ k_818) (fun _ h9 => h9) rfl dX4_words_42 ?_
  refine lv_iload hx hb dX4_words_45 (lv_at hl 0 rfl) ?_
  refine lv_iconst (v := 3) hx hb dX4_words_47 (by decide) ?_
  refine lv_iadd hx hb dX4_words_48 ?_
  refine lv_iload hx hb dX4_words_49 (lv_at hl 5 rfl) ?_
  obtain ⟨hi_4, hw⟩ := hw
  refine gv_iast hx hb hK hP hD hS 1 0 rfl rfl rfl hi_4 dX4_words_51 (fun H locs hP hD hS => ?_)
  have hP : va_P (dC, dI) vwCl [(o, .inr (4, [.ref o_now, .ref o_then, .ref o_past, .int s_kept, .ref o_text, .int s_typed, .int s_thrown, .int s_at, .int s_isFault, .int s_value, .ref o_told, .int s_tolds, .ref o_lit, .ref o_whole, .ref o_goes, .int s_isLaid, .ref o_latest])), (o_now, .inl (cI, 87, .inl (upd (upd (upd (upd s_now ((4 + (6 * (s_now 2))).toNatClampNeg) p0) (((4 + (6 * (s_now 2))) + 1).toNatClampNeg) p1) (((4 + (6 * (s_now 2))) + 2).toNatClampNeg) p2) (((4 + (6 * (s_now 2))) + 3).toNatClampNeg) p3)))] H := hP
  have hD : va_D A [(o, .inr (4, [.ref o_now, .ref o_then, .ref o_past, .int s_kept, .ref o_text, .int s_typed, .int s_thrown, .int s_at, .int s_isFault, .int s_value, .ref o_told, .int s_tolds, .ref o_lit, .ref o_whole, .ref o_goes, .int s_isLaid, .ref o_latest])), (o_now, .inl (cI, 87, .inl (upd (upd (upd (upd s_now ((4 + (6 * (s_now 2))).toNatClampNeg) p0) (((4 + (6 * (s_now 2))) + 1).toNatClampNeg) p1) (((4 + (6 * (s_now 2))) + 2).toNatClampNeg) p2) (((4 + (6 * (s_now 2))) + 3).toNatClampNeg) p3)))] := hD
  refine lv_aload_n hx hb dX4_words_52 rfl (lv_at hl 1 rfl) ?_
  refine va_get (D := (dC, dI)) (ci := 4) (v := .ref o_now) (C := RX4) (T := TX4) (N := 17) hx hb ht i_X4 hown hK hP 0 rfl rfl 0 (by decide) (ht _ k_818) (fun _ h9 => h9) rfl dX4_words_53 ?_
  refine lv_iload hx hb dX4_words_56 (lv_at hl 0 rfl) ?_
  refine lv_iconst (v := 4) hx hb dX4_words_58 (by decide) ?_
  refine lv_iadd hx hb dX4_words_59 ?_
  refine lv_iconst (v := 0) hx hb dX4_words_60 (by decide) ?_
  obtain ⟨hi_5, hw⟩ := hw
  refine gv_iast hx hb hK hP hD hS 1 0 rfl rfl rfl hi_5 dX4_words_61 (fun H locs hP hD hS => ?_)
  have hP : va_P (dC, dI) vwCl [(o, .inr (4, [.ref o_now, .ref o_then, .ref o_past, .int s_kept, .ref o_text, .int s_typed, .int s_thrown, .int s_at, .int s_isFault, .int s_value, .ref o_told, .int s_tolds, .ref o_lit, .ref o_whole, .ref o_goes, .int s_isLaid, .ref o_latest])), (o_now, .inl (cI, 87, .inl (upd (upd (upd (upd (upd s_now ((4 + (6 * (s_now 2))).toNatClampNeg) p0) (((4 + (6 * (s_now 2))) + 1).toNatClampNeg) p1) (((4 + (6 * (s_now 2))) + 2).toNatClampNeg) p2) (((4 + (6 * (s_now 2))) + 3).toNatClampNeg) p3) (((4 + (6 * (s_now 2))) + 4).toNatClampNeg) 0)))] H := hP
  have hD : va_D A [(o, .inr (4, [.ref o_now, .ref o_then, .ref o_past, .int s_kept, .ref o_text, .int s_typed, .int s_thrown, .int s_at, .int s_isFault, .int s_value, .ref o_told, .int s_tolds, .ref o_lit, .ref o_whole, .ref o_goes, .int s_isLaid, .ref o_latest])), (o_now, .inl (cI, 87, .inl (upd (upd (upd (upd (upd s_now ((4 + (6 * (s_now 2))).toNatClampNeg) p0) (((4 + (6 * (s_now 2))) + 1).toNatClampNeg) p1) (((4 + (6 * (s_now 2))) + 2).toNatClampNeg) p2) (((4 + (6 * (s_now 2))) + 3).toNatClampNeg) p3) (((4 + (6 * (s_now 2))) + 4).toNatClampNeg) 0)))] := hD
  refine lv_aload_n hx hb dX4_words_62 rfl (lv_at hl 1 rfl) ?_
  refine va_get (D := (dC, dI)) (ci := 4) (v := .ref o_now) (C := RX4) (T := TX4) (N := 17) hx hb ht i_X4 hown hK hP 0 rfl rfl 0 (by decide) (ht _ k_818) (fun _ h9 => h9) rfl dX4_words_63 ?_
  refine lv_iload hx hb dX4_words_66 (lv_at hl 0 rfl) ?_
  refine lv_iconst (v := 5) hx hb dX4_words_68 (by decide) ?_
  refine lv_iadd hx hb dX4_words_69 ?_
  refine lv_iconst (v := 4) hx hb dX4_words_70 (by decide) ?_
  obtain ⟨hi_6, hw⟩ := hw
  refine gv_iast hx hb hK hP hD hS 1 0 rfl rfl rfl hi_6 dX4_words_71 (fun H locs hP hD hS => ?_)
  have hP : va_P (dC, dI) vwCl [(o, .inr (4, [.ref o_now, .ref o_then, .ref o_past, .int s_kept, .ref o_text, .int s_typed, .int s_thrown, .int s_at, .int s_isFault, .int s_value, .ref o_told, .int s_tolds, .ref o_lit, .ref o_whole, .ref o_goes, .int s_isLaid, .ref o_latest])), (o_now, .inl (cI, 87, .inl (upd (upd (upd (upd (upd (upd s_now ((4 + (6 * (s_now 2))).toNatClampNeg) p0) (((4 + (6 * (s_now 2))) + 1).toNatClampNeg) p1) (((4 + (6 * (s_now 2))) + 2).toNatClampNeg) p2) (((4 + (6 * (s_now 2))) + 3).toNatClampNeg) p3) (((4 + (6 * (s_now 2))) + 4).toNatClampNeg) 0) (((4 + (6 * (s_now 2))) + 5).toNatClampNeg) 4)))] H := hP
  have hD : va_D A [(o, .inr (4, [.ref o_now, .ref o_then, .ref o_past, .int s_kept, .ref o_text, .int s_typed, .int s_thrown, .int s_at, .int s_isFault, .int s_value, .ref o_told, .int s_tolds, .ref o_lit, .ref o_whole, .ref o_goes, .int s_isLaid, .ref o_latest])), (o_now, .inl (cI, 87, .inl (upd (upd (upd (upd (upd (upd s_now ((4 + (6 * (s_now 2))).toNatClampNeg) p0) (((4 + (6 * (s_now 2))) + 1).toNatClampNeg) p1) (((4 + (6 * (s_now 2))) + 2).toNatClampNeg) p2) (((4 + (6 * (s_now 2))) + 3).toNatClampNeg) p3) (((4 + (6 * (s_now 2))) + 4).toNatClampNeg) 0) (((4 + (6 * (s_now 2))) + 5).toNatClampNeg) 4)))] := hD
  refine lv_aload_n hx hb dX4_words_72 rfl (lv_at hl 1 rfl) ?_
  refine va_get (D := (dC, dI)) (ci := 4) (v := .ref o_now) (C := RX4) (T := TX4) (N := 17) hx hb ht i_X4 hown hK hP 0 rfl rfl 0 (by decide) (ht _ k_818) (fun _ h9 => h9) rfl dX4_words_73 ?_
  refine lv_iconst (v := 2) hx hb dX4_words_76 (by decide) ?_
  refine lv_dup2_11 hx hb dX4_words_77 rfl rfl ?_
  refine gv_iald hx hb hK hP 1 0 rfl rfl (k := 2) (by decide) (by unfold vp_in; decide) dX4_words_78 ?_
  refine lv_iconst (v := 1) hx hb dX4_words_79 (by decide) ?_
  refine lv_iadd hx hb dX4_words_80 ?_
  refine gv_iast hx hb hK hP hD hS 1 0 rfl rfl (k := 2) (by decide) (by unfold vp_in; decide) dX4_words_81 (fun H locs hP hD hS => ?_)
  have hP : va_P (dC, dI) vwCl [(o, .inr (4, [.ref o_now, .ref o_then, .ref o_past, .int s_kept, .ref o_text, .int s_typed, .int s_thrown, .int s_at, .int s_isFault, .int s_value, .ref o_told, .int s_tolds, .ref o_lit, .ref o_whole, .ref o_goes, .int s_isLaid, .ref o_latest])), (o_now, .inl (cI, 87, .inl (upd (upd (upd (upd (upd (upd (upd s_now ((4 + (6 * (s_now 2))).toNatClampNeg) p0) (((4 + (6 * (s_now 2))) + 1).toNatClampNeg) p1) (((4 + (6 * (s_now 2))) + 2).toNatClampNeg) p2) (((4 + (6 * (s_now 2))) + 3).toNatClampNeg) p3) (((4 + (6 * (s_now 2))) + 4).toNatClampNeg) 0) (((4 + (6 * (s_now 2))) + 5).toNatClampNeg) 4) 2 (((upd (upd (upd (upd (upd (upd s_now ((4 + (6 * (s_now 2))).toNatClampNeg) p0) (((4 + (6 * (s_now 2))) + 1).toNatClampNeg) p1) (((4 + (6 * (s_now 2))) + 2).toNatClampNeg) p2) (((4 + (6 * (s_now 2))) + 3).toNatClampNeg) p3) (((4 + (6 * (s_now 2))) + 4).toNatClampNeg) 0) (((4 + (6 * (s_now 2))) + 5).toNatClampNeg) 4) 2) + 1))))] H := hP
  have hD : va_D A [(o, .inr (4, [.ref o_now, .ref o_then, .ref o_past, .int s_kept, .ref o_text, .int s_typed, .int s_thrown, .int s_at, .int s_isFault, .int s_value, .ref o_told, .int s_tolds, .ref o_lit, .ref o_whole, .ref o_goes, .int s_isLaid, .ref o_latest])), (o_now, .inl (cI, 87, .inl (upd (upd (upd (upd (upd (upd (upd s_now ((4 + (6 * (s_now 2))).toNatClampNeg) p0) (((4 + (6 * (s_now 2))) + 1).toNatClampNeg) p1) (((4 + (6 * (s_now 2))) + 2).toNatClampNeg) p2) (((4 + (6 * (s_now 2))) + 3).toNatClampNeg) p3) (((4 + (6 * (s_now 2))) + 4).toNatClampNeg) 0) (((4 + (6 * (s_now 2))) + 5).toNatClampNeg) 4) 2 (((upd (upd (upd (upd (upd (upd s_now ((4 + (6 * (s_now 2))).toNatClampNeg) p0) (((4 + (6 * (s_now 2))) + 1).toNatClampNeg) p1) (((4 + (6 * (s_now 2))) + 2).toNatClampNeg) p2) (((4 + (6 * (s_now 2))) + 3).toNatClampNeg) p3) (((4 + (6 * (s_now 2))) + 4).toNatClampNeg) 0) (((4 + (6 * (s_now 2))) + 5).toNatClampNeg) 4) 2) + 1))))] := hD
  refine lv_aload_n hx hb dX4_words_82 rfl (lv_at hl 1 rfl) ?_
  refine va_get (D := (dC, dI)) (ci := 4) (v := .ref o_now) (C := RX4) (T := TX4) (N := 17) hx hb ht i_X4 hown hK hP 0 rfl rfl 0 (by decide) (ht _ k_818) (fun _ h9 => h9) rfl dX4_words_83 ?_
  refine lv_iconst (v := 2) hx hb dX4_words_86 (by decide) ?_
  refine gv_iald hx hb hK hP 1 0 rfl rfl (k := 2) (by decide) (by unfold vp_in; decide) dX4_words_87 ?_
  refine lv_iconst (v := 1) hx hb dX4_words_88 (by decide) ?_
  refine lv_isub hx hb dX4_words_89 ?_
  rw [← hQQ]
  exact g_reti (v := (((upd (upd (upd (upd (upd (upd (upd s_now ((4 + (6 * (s_now 2))).toNatClampNeg) p0) (((4 + (6 * (s_now 2))) + 1).toNatClampNeg) p1) (((4 + (6 * (s_now 2))) + 2).toNatClampNeg) p2) (((4 + (6 * (s_now 2))) + 3).toNatClampNeg) p3) (((4 + (6 * (s_now 2))) + 4).toNatClampNeg) 0) (((4 + (6 * (s_now 2))) + 5).toNatClampNeg) 4) 2 (((upd (upd (upd (upd (upd (upd s_now ((4 + (6 * (s_now 2))).toNatClampNeg) p0) (((4 + (6 * (s_now 2))) + 1).toNatClampNeg) p1) (((4 + (6 * (s_now 2))) + 2).toNatClampNeg) p2) (((4 + (6 * (s_now 2))) + 3).toNatClampNeg) p3) (((4 + (6 * (s_now 2))) + 4).toNatClampNeg) 0) (((4 + (6 * (s_now 2))) + 5).toNatClampNeg) 4) 2) + 1)) 2) - 1)) (u := (upd (upd (upd (upd (upd (upd (upd s_now ((4 + (6 * (s_now 2))).toNatClampNeg) p0) (((4 + (6 * (s_now 2))) + 1).toNatClampNeg) p1) (((4 + (6 * (s_now 2))) + 2).toNatClampNeg) p2) (((4 + (6 * (s_now 2))) + 3).toNatClampNeg) p3) (((4 + (6 * (s_now 2))) + 4).toNatClampNeg) 0) (((4 + (6 * (s_now 2))) + 5).toNatClampNeg) 4) 2 (((upd (upd (upd (upd (upd (upd s_now ((4 + (6 * (s_now 2))).toNatClampNeg) p0) (((4 + (6 * (s_now 2))) + 1).toNatClampNeg) p1) (((4 + (6 * (s_now 2))) + 2).toNatClampNeg) p2) (((4 + (6 * (s_now 2))) + 3).toNatClampNeg) p3) (((4 + (6 * (s_now 2))) + 4).toNatClampNeg) 0) (((4 + (6 * (s_now 2))) + 5).toNatClampNeg) 4) 2) + 1))) hx hb hr rfl hlocks hw hP hK hD hS dX4_words_90
abbrev rm_X4_word : Room := { frames := 3, cells := 0, slots := 0, locals := 66 }
set_option maxHeartbeats 4000000 in
set_option maxRecDepth 100000 in
theorem c_X4_word (l : Launch) (dC : Nat → ClassId) (dI : Nat → Nat → Nat) (cI cJ : ClassId) (o o_now o_then o_past o_text o_told o_lit o_whole o_goes o_latest : Nat) (sz : Nat) (s_now : Nat → Int32) (s_past : Nat → Int32) (s_kept : Int32) (s_thrown : Int32) (s_isLaid : Int32) (s_typed : Int32) (s_at : Int32) (s_isFault : Int32) (s_value : Int32) (s_tolds : Int32) (p0 : Int32) (p1 : Int32) (p2 : Int32) (p3 : Int32) (Q : Int32 → (Nat → Int32) → (Nat → Int32) → Int32 → Int32 → Int32 → Prop) (hw : P_X4_word p0 p1 p2 p3 s_now s_past s_kept s_thrown s_isLaid Q) : Met l yX4_word (Cond.code yX4_word cX4_word 5 (some .int) :: TBL) rm_X4_word (gPc (dC, dI) vwCl (gTy cI cJ) [.ref o, .int p0, .int p1, .int p2, .int p3] [(o, .inr (4, [.ref o_now, .ref o_then, .ref o_past, .int s_kept, .ref o_text, .int s_typed, .int s_thrown, .int s_at, .int s_isFault, .int s_value, .ref o_told, .int s_tolds, .ref o_lit, .ref o_whole, .ref o_goes, .int s_isLaid, .ref o_latest])), (o_now, .inl (cI, 87, .inl s_now)), (o_past, .inl (cI, 522, .inl s_past))] sz) (va_Qi (fun (r : Int32) (u : (Nat → Int32) × (Nat → Int32) × Int32 × Int32 × Int32) => Q r u.1 u.2.1 u.2.2.1 u.2.2.2.1 u.2.2.2.2) (gB (dC, dI) vwCl (gTy cI cJ) (va_A [(o, .inr (4, [.ref o_now, .ref o_then, .ref o_past, .int s_kept, .ref o_text, .int s_typed, .int s_thrown, .int s_at, .int s_isFault, .int s_value, .ref o_told, .int s_tolds, .ref o_lit, .ref o_whole, .ref o_goes, .int s_isLaid, .ref o_latest])), (o_now, .inl (cI, 87, .inl s_now)), (o_past, .inl (cI, 522, .inl s_past))] sz) (fun (u : (Nat → Int32) × (Nat → Int32) × Int32 × Int32 × Int32) => [(o, .inr (4, [.ref o_now, .ref o_then, .ref o_past, .int u.2.2.1, .ref o_text, .int s_typed, .int u.2.2.2.1, .int s_at, .int s_isFault, .int s_value, .ref o_told, .int s_tolds, .ref o_lit, .ref o_whole, .ref o_goes, .int u.2.2.2.2, .ref o_latest])), (o_now, .inl (cI, 87, .inl u.1)), (o_past, .inl (cI, 522, .inl u.2.1))])) (va_A [(o, .inr (4, [.ref o_now, .ref o_then, .ref o_past, .int s_kept, .ref o_text, .int s_typed, .int s_thrown, .int s_at, .int s_isFault, .int s_value, .ref o_told, .int s_tolds, .ref o_lit, .ref o_whole, .ref o_goes, .int s_isLaid, .ref o_latest])), (o_now, .inl (cI, 87, .inl s_now)), (o_past, .inl (cI, 522, .inl s_past))] sz)) 0 0 (va_A [(o, .inr (4, [.ref o_now, .ref o_then, .ref o_past, .int s_kept, .ref o_text, .int s_typed, .int s_thrown, .int s_at, .int s_isFault, .int s_value, .ref o_told, .int s_tolds, .ref o_lit, .ref o_whole, .ref o_goes, .int s_isLaid, .ref o_latest])), (o_now, .inl (cI, 87, .inl s_now)), (o_past, .inl (cI, 522, .inl s_past))] sz) := by
  refine Met.ofW (cc := cX4_word) (maxL := 5) (ret := (some .int)) (by decide) rfl ?_
  intro p e s m args below meth c s₁ B hml hv
  obtain ⟨rfl, hsz, hP, hK, hD0⟩ := hv
  have hx := B.exec
  have hb := B.bytes
  have hr := B.returns
  have hts := atoms_spec (ws := Cond.code yX4_word cX4_word 5 (some .int) :: TBL) B.pre
  have ht : ∀ w ∈ TBL, w.before ([.ref o, .int p0, .int p1, .int p2, .int p3] : List Value).toArray s = true := fun w h => hts w (List.mem_cons_of_mem _ h)
  clear hts
  have hown : s.vm.findClass RX4 = some m.cls := findClass_of_methodNamed B.named
  have hlocks := B.notSynchronized
  clear B
  subst hsz
  have hD := hD0.self (sz := s.heap.size)
  clear hD0
  generalize hAe : va_A [(o, .inr (4, [.ref o_now, .ref o_then, .ref o_past, .int s_kept, .ref o_text, .int s_typed, .int s_thrown, .int s_at, .int s_isFault, .int s_value, .ref o_told, .int s_tolds, .ref o_lit, .ref o_whole, .ref o_goes, .int s_isLaid, .ref o_latest])), (o_now, .inl (cI, 87, .inl s_now)), (o_past, .inl (cI, 522, .inl s_past))] s.heap.size = A at hD ⊢
  have hA : ∀ q : Nat, s.heap.size ≤ q → A q := fun q h => by rw [← hAe]; exact Or.inr h
  clear hAe
  have hS : va_S A s.heap s.heap [] := va_S.rf
  have hP : va_P (dC, dI) vwCl [(o, .inr (4, [.ref o_now, .ref o_then, .ref o_past, .int s_kept, .ref o_text, .int s_typed, .int s_thrown, .int s_at, .int s_isFault, .int s_value, .ref o_told, .int s_tolds, .ref o_lit, .ref o_whole, .ref o_goes, .int s_isLaid, .ref o_latest])), (o_now, .inl (cI, 87, .inl s_now)), (o_past, .inl (cI, 522, .inl s_past))] s.heap := hP
  have hl := lv_entry ([.ref o, .int p0, .int p1, .int p2, .int p3]) (n := 5) (Nat.le_of_ble_eq_true rfl)
  rw [lg_entry_eq]
  generalize (lg_sl ([.ref o, .int p0, .int p1, .int p2, .int p3]) ++ List.replicate (5 - (lg_sl ([.ref o, .int p0, .int p1, .int p2, .int p3])).length) Slot.unset).toArray = ls at hl ⊢
  have hl : lv_has ls 5 [(0, .ref o), (1, .int p0), (2, .int p1), (3, .int p2), (4, .int p3)] := hl
  generalize hQQ : MQ below _ _ _ 0 0 A = QQ
  show W p l e rm_X4_word s m ([.ref o, .int p0, .int p1, .int p2, .int p3] : List Value).toArray below meth c s.heap [] 0 0 QQ (F0 m 0 ls [])
  obtain ⟨H, hHH⟩ : ∃ H, H = s.heap := ⟨_, rfl⟩
  rw [← hHH] at hP ⊢
  have hS : va_S A s.heap H [] := by rw [hHH]; exact hS
  clear hHH
  generalize ([] : List Loc) = locs at hS ⊢
  unfold P_X4_word at hw
  refine lv_aload_n hx hb dX4_word_0 rfl (lv_at hl 0 rfl) ?_
  refine lv_aload_n hx hb dX4_word_1 rfl (lv_at hl 0 rfl) ?_
  refine lv_iload_n hx hb dX4_word_2 rfl (lv_at hl 1 rfl) ?_
  refine lv_iload_n hx hb dX4_word_3 rfl (lv_at hl 2 rfl) ?_
  refine lv_iload_n hx hb dX4_word_4 rfl (lv_at hl 3 rfl) ?_
  refine lv_iload hx hb dX4_word_5 (lv_at hl 4 rfl) ?_
  refine gc_Vi (As := [.int p0, .int p1, .int p2, .int p3]) (rest := [.ref o]) (wr := [(o_past, .inl (cI, 522, .inl s_past))]) ⟨hx, hb, hml, hown, ht⟩ (c_X4_mayWord l dC dI cI cJ o o_now o_then o_past o_text o_told o_lit o_whole o_goes o_latest H.size s_now s_kept s_typed s_thrown s_at s_isFault s_value s_tolds s_isLaid p0 p1 p2 p3 _ hw) (cwV 4 ht (g_V k_889 k_891 k_s38 k_5 k_892) rfl rfl rfl (by decide +kernel) ⟨(Nat.le_of_ble_eq_true rfl), (Nat.le_of_ble_eq_true rfl)⟩) hK hP hD hS hA [0, 1] [2] rfl rfl (by decide) 0 rfl rfl rfl rfl hl.1 rfl (Nat.le_of_ble_eq_true rfl) ⟨(Nat.le_of_ble_eq_true rfl), (Nat.le_of_ble_eq_true rfl)⟩ dX4_word_7 (fun r_1 u H locs hw hP hD hS => ?_)
  try dsimp only at hw
  have hP : va_P (dC, dI) vwCl [(o_past, .inl (cI, 522, .inl s_past)), (o, .inr (4, [.ref o_now, .ref o_then, .ref o_past, .int s_kept, .ref o_text, .int s_typed, .int s_thrown, .int s_at, .int s_isFault, .int s_value, .ref o_told, .int s_tolds, .ref o_lit, .ref o_whole, .ref o_goes, .int s_isLaid, .ref o_latest])), (o_now, .inl (cI, 87, .inl s_now))] H := hP
  have hD : va_D A [(o_past, .inl (cI, 522, .inl s_past)), (o, .inr (4, [.ref o_now, .ref o_then, .ref o_past, .int s_kept, .ref o_text, .int s_typed, .int s_thrown, .int s_at, .int s_isFault, .int s_value, .ref o_told, .int s_tolds, .ref o_lit, .ref o_whole, .ref o_goes, .int s_isLaid, .ref o_latest])), (o_now, .inl (cI, 87, .inl s_now))] := hD
  refine va_put (D := (dC, dI)) (ci := 4) (v := .int r_1) (ty := .int) (C := RX4) (T := TX4) (N := 17) hx hb ht i_X4 tyX4 tyX4_ok nmX4 hown hK hP hD hS 1 rfl rfl 6 (by decide) (ht _ k_824) (fun _ h9 => h9) rfl (by decide +kernel) rfl rfl (Nat.le_of_ble_eq_true rfl) dX4_word_10 (fun H locs hP hD hS => ?_)
  have hP : va_P (dC, dI) vwCl [(o_past, .inl (cI, 522, .inl s_past)), (o, .inr (4, [.ref o_now, .ref o_then, .ref o_past, .int s_kept, .ref o_text, .int s_typed, .int r_1, .int s_at, .int s_isFault, .int s_value, .ref o_told, .int s_tolds, .ref o_lit, .ref o_whole, .ref o_goes, .int s_isLaid, .ref o_latest])), (o_now, .inl (cI, 87, .inl s_now))] H := hP
  have hD : va_D A [(o_past, .inl (cI, 522, .inl s_past)), (o, .inr (4, [.ref o_now, .ref o_then, .ref o_past, .int s_kept, .ref o_text, .int s_typed, .int r_1, .int s_at, .int s_isFault, .int s_value, .ref o_told, .int s_tolds, .ref o_lit, .ref o_whole, .ref o_goes, .int s_isLaid, .ref o_latest])), (o_now, .inl (cI, 87, .inl s_now))] := hD
  refine lv_aload_n hx hb dX4_word_13 rfl (lv_at hl 0 rfl) ?_
  refine va_get (D := (dC, dI)) (ci := 4) (v := .int r_1) (C := RX4) (T := TX4) (N := 17) hx hb ht i_X4 hown hK hP 1 rfl rfl 6 (by decide) (ht _ k_824) (fun _ h9 => h9) rfl dX4_word_14 ?_
  refine lv_if_eq (tgt := 22) hx hb dX4_word_17 (by decide) (fun hc => ?_) (fun hc => ?_)
  · have hw := hw.1 hc
    refine lv_aload_n hx hb dX4_word_22 rfl (lv_at hl 0 rfl) ?_
    refine gc_Vv (As := []) (rest := []) (wr := []) ⟨hx, hb, hml, hown, ht⟩ (c_X4_saves l dC dI cI cJ o o_now o_then o_past o_text o_told o_lit o_whole o_goes o_latest H.size s_now s_past s_kept s_isLaid s_typed r_1 s_at s_isFault s_value s_tolds _ hw) (cwV 0 ht (g_V k_902 k_904 k_s39 k_5 k_905) rfl rfl rfl (by decide +kernel) ⟨(Nat.le_of_ble_eq_true rfl), (Nat.le_of_ble_eq_true rfl)⟩) hK hP hD hS hA [1, 2, 0] [] rfl rfl (by decide) 1 rfl rfl rfl rfl hl.1 rfl (Nat.le_of_ble_eq_true rfl) ⟨(Nat.le_of_ble_eq_true rfl), (Nat.le_of_ble_eq_true rfl)⟩ dX4_word_23 (fun u H locs hw hP hD hS => ?_)
    obtain ⟨s_past_2, s_kept_3, s_isLaid_4⟩ := u
    try dsimp only at hw
    have hP : va_P (dC, dI) vwCl [(o, .inr (4, [.ref o_now, .ref o_then, .ref o_past, .int s_kept_3, .ref o_text, .int s_typed, .int r_1, .int s_at, .int s_isFault, .int s_value, .ref o_told, .int s_tolds, .ref o_lit, .ref o_whole, .ref o_goes, .int s_isLaid_4, .ref o_latest])), (o_now, .inl (cI, 87, .inl s_now)), (o_past, .inl (cI, 522, .inl s_past_2))] H := hP
    have hD : va_D A [(o, .inr (4, [.ref o_now, .ref o_then, .ref o_past, .int s_kept_3, .ref o_text, .int s_typed, .int r_1, .int s_at, .int s_isFault, .int s_value, .ref o_told, .int s_tolds, .ref o_lit, .ref o_whole, .ref o_goes, .int s_isLaid_4, .ref o_latest])), (o_now, .inl (cI, 87, .inl s_now)), (o_past, .inl (cI, 522, .inl s_past_2))] := hD
    refine lv_aload_n hx hb dX4_word_26 rfl (lv_at hl 0 rfl) ?_
    refine lv_iload_n hx hb dX4_word_27 rfl (lv_at hl 1 rfl) ?_
    refine lv_iload_n hx hb dX4_word_28 rfl (lv_at hl 2 rfl) ?_
    refine lv_iload_n hx hb dX4_word_29 rfl (lv_at hl 3 rfl) ?_
    refine lv_iload hx hb dX4_word_30 (lv_at hl 4 rfl) ?_
    refine gc_Vi (As := [.int p0, .int p1, .int p2, .int p3]) (rest := []) (wr := [(o_past, .inl (cI, 522, .inl s_past_2))]) ⟨hx, hb, hml, hown, ht⟩ (c_X4_words l dC dI cI cJ o o_now o_then o_past o_text o_told o_lit o_whole o_goes o_latest H.size s_now s_kept_3 s_typed r_1 s_at s_isFault s_value s_tolds s_isLaid_4 p0 p1 p2 p3 _ hw) (cwV 4 ht (g_V k_906 k_908 k_s40 k_5 k_909) rfl rfl rfl (by decide +kernel) ⟨(Nat.le_of_ble_eq_true rfl), (Nat.le_of_ble_eq_true rfl)⟩) hK hP hD hS hA [0, 1] [2] rfl rfl (by decide) 0 rfl rfl rfl rfl hl.1 rfl (Nat.le_of_ble_eq_true rfl) ⟨(Nat.le_of_ble_eq_true rfl), (Nat.le_of_ble_eq_true rfl)⟩ dX4_word_32 (fun r_5 u H locs hw hP hD hS => ?_)
    obtain ⟨s_now_6, rfl⟩ : ∃ z, z = u := ⟨_, rfl⟩
    try dsimp only at hw
    have hP : va_P (dC, dI) vwCl [(o_past, .inl (cI, 522, .inl s_past_2)), (o, .inr (4, [.ref o_now, .ref o_then, .ref o_past, .int s_kept_3, .ref o_text, .int s_typed, .int r_1, .int s_at, .int s_isFault, .int s_value, .ref o_told, .int s_tolds, .ref o_lit, .ref o_whole, .ref o_goes, .int s_isLaid_4, .ref o_latest])), (o_now, .inl (cI, 87, .inl s_now_6))] H := hP
    have hD : va_D A [(o_past, .inl (cI, 522, .inl s_past_2)), (o, .inr (4, [.ref o_now, .ref o_then, .ref o_past, .int s_kept_3, .ref o_text, .int s_typed, .int r_1, .int s_at, .int s_isFault, .int s_value, .ref o_told, .int s_tolds, .ref o_lit, .ref o_whole, .ref o_goes, .int s_isLaid_4, .ref o_latest])), (o_now, .inl (cI, 87, .inl s_now_6))] := hD
    rw [← hQQ]
    exact g_reti (v := r_5) (u := (s_now_6, s_past_2, s_kept_3, r_1, s_isLaid_4)) hx hb hr rfl hlocks hw (hP.sub (ws' := [(o, .inr (4, [.ref o_now, .ref o_then, .ref o_past, .int s_kept_3, .ref o_text, .int s_typed, .int r_1, .int s_at, .int s_isFault, .int s_value, .ref o_told, .int s_tolds, .ref o_lit, .ref o_whole, .ref o_goes, .int s_isLaid_4, .ref o_latest])), (o_now, .inl (cI, 87, .inl s_now_6)), (o_past, .inl (cI, 522, .inl s_past_2))]) [1, 2, 0] rfl) hK (hD.sub (ws' := [(o, .inr (4, [.ref o_now, .ref o_then, .ref o_past, .int s_kept_3, .ref o_text, .int s_typed, .int r_1, .int s_at, .int s_isFault, .int s_value, .ref o_told, .int s_tolds, .ref o_lit, .ref o_whole, .ref o_goes, .int s_isLaid_4, .ref o_latest])), (o_now, .inl (cI, 87, .inl s_now_6)), (o_past, .inl (cI, 522, .inl s_past_2))]) [1, 2, 0] (by decide) rfl) hS dX4_word_35
  · have hw := hw.2 hc
    refine lv_iconst (v := 0) hx hb dX4_word_20 (by decide) ?_
    rw [← hQQ]
    exact g_reti (v := 0) (u := (s_now, s_past, s_kept, r_1, s_isLaid)) hx hb hr rfl hlocks hw (hP.sub (ws' := [(o, .inr (4, [.ref o_now, .ref o_then, .ref o_past, .int s_kept, .ref o_text, .int s_typed, .int r_1, .int s_at, .int s_isFault, .int s_value, .ref o_told, .int s_tolds, .ref o_lit, .ref o_whole, .ref o_goes, .int s_isLaid, .ref o_latest])), (o_now, .inl (cI, 87, .inl s_now)), (o_past, .inl (cI, 522, .inl s_past))]) [1, 2, 0] rfl) hK (hD.sub (ws' := [(o, .inr (4, [.ref o_now, .ref o_then, .ref o_past, .int s_kept, .ref o_text, .int s_typed, .int r_1, .int s_at, .int s_isFault, .int s_value, .ref o_told, .int s_tolds, .ref o_lit, .ref o_whole, .ref o_goes, .int s_isLaid, .ref o_latest])), (o_now, .inl (cI, 87, .inl s_now)), (o_past, .inl (cI, 522, .inl s_past))]) [1, 2, 0] (by decide) rfl) hS dX4_word_21
abbrev rm_X4_changes : Room := { frames := 0, cells := 0, slots := 0, locals := 0 }
set_option maxHeartbeats 4000000 in
set_option maxRecDepth 100000 in
theorem c_X4_changes (l : Launch) (dC : Nat → ClassId) (dI : Nat → Nat → Nat) (cI cJ : ClassId) (o o_now o_then o_past o_text o_told o_lit o_whole o_goes o_latest : Nat) (sz : Nat) (s_now : Nat → Int32) (s_kept : Int32) (s_typed : Int32) (s_thrown : Int32) (s_at : Int32) (s_isFault : Int32) (s_value : Int32) (s_tolds : Int32) (s_isLaid : Int32) (p0 : Int32) (p1 : Int32) (Q : Int32 → (Nat → Int32) → Prop) (hw : P_X4_changes p0 p1 s_now Q) : Met l yX4_changes (Cond.code yX4_changes cX4_changes 4 (some .int) :: TBL) rm_X4_changes (gPc (dC, dI) vwCl (gTy cI cJ) [.ref o, .int p0, .int p1] [(o, .inr (4, [.ref o_now, .ref o_then, .ref o_past, .int s_kept, .ref o_text, .int s_typed, .int s_thrown, .int s_at, .int s_isFault, .int s_value, .ref o_told, .int s_tolds, .ref o_lit, .ref o_whole, .ref o_goes, .int s_isLaid, .ref o_latest])), (o_now, .inl (cI, 87, .inl s_now))] sz) (va_Qi (fun (r : Int32) (u : (Nat → Int32)) => Q r u) (gB (dC, dI) vwCl (gTy cI cJ) (va_A [(o, .inr (4, [.ref o_now, .ref o_then, .ref o_past, .int s_kept, .ref o_text, .int s_typed, .int s_thrown, .int s_at, .int s_isFault, .int s_value, .ref o_told, .int s_tolds, .ref o_lit, .ref o_whole, .ref o_goes, .int s_isLaid, .ref o_latest])), (o_now, .inl (cI, 87, .inl s_now))] sz) (fun (u : (Nat → Int32)) => [(o, .inr (4, [.ref o_now, .ref o_then, .ref o_past, .int s_kept, .ref o_text, .int s_typed, .int s_thrown, .int s_at, .int s_isFault, .int s_value, .ref o_told, .int s_tolds, .ref o_lit, .ref o_whole, .ref o_goes, .int s_isLaid, .ref o_latest])), (o_now, .inl (cI, 87, .inl u))])) (va_A [(o, .inr (4, [.ref o_now, .ref o_then, .ref o_past, .int s_kept, .ref o_text, .int s_typed, .int s_thrown, .int s_at, .int s_isFault, .int s_value, .ref o_told, .int s_tolds, .ref o_lit, .ref o_whole, .ref o_goes, .int s_isLaid, .ref o_latest])), (o_now, .inl (cI, 87, .inl s_now))] sz)) 0 0 (va_A [(o, .inr (4, [.ref o_now, .ref o_then, .ref o_past, .int s_kept, .ref o_text, .int s_typed, .int s_thrown, .int s_at, .int s_isFault, .int s_value, .ref o_told, .int s_tolds, .ref o_lit, .ref o_whole, .ref o_goes, .int s_isLaid, .ref o_latest])), (o_now, .inl (cI, 87, .inl s_now))] sz) := by
  refine Met.ofW (cc := cX4_changes) (maxL := 4) (ret := (some .int)) (by decide) rfl ?_
  intro p e s m args below meth c s₁ B hml hv
  obtain ⟨rfl, hsz, hP, hK, hD0⟩ := hv
  have hx := B.exec
  have hb := B.bytes
  have hr := B.returns
  have hts := atoms_spec (ws := Cond.code yX4_changes cX4_changes 4 (some .int) :: TBL) B.pre
  have ht : ∀ w ∈ TBL, w.before ([.ref o, .int p0, .int p1] : List Value).toArray s = true := fun w h => hts w (List.mem_cons_of_mem _ h)
  clear hts
  have hown : s.vm.findClass RX4 = some m.cls := findClass_of_methodNamed B.named
  have hlocks := B.notSynchronized
  clear B
  subst hsz
  have hD := hD0.self (sz := s.heap.size)
  clear hD0
  generalize hAe : va_A [(o, .inr (4, [.ref o_now, .ref o_then, .ref o_past, .int s_kept, .ref o_text, .int s_typed, .int s_thrown, .int s_at, .int s_isFault, .int s_value, .ref o_told, .int s_tolds, .ref o_lit, .ref o_whole, .ref o_goes, .int s_isLaid, .ref o_latest])), (o_now, .inl (cI, 87, .inl s_now))] s.heap.size = A at hD ⊢
  have hA : ∀ q : Nat, s.heap.size ≤ q → A q := fun q h => by rw [← hAe]; exact Or.inr h
  clear hAe
  have hS : va_S A s.heap s.heap [] := va_S.rf
  have hP : va_P (dC, dI) vwCl [(o, .inr (4, [.ref o_now, .ref o_then, .ref o_past, .int s_kept, .ref o_text, .int s_typed, .int s_thrown, .int s_at, .int s_isFault, .int s_value, .ref o_told, .int s_tolds, .ref o_lit, .ref o_whole, .ref o_goes, .int s_isLaid, .ref o_latest])), (o_now, .inl (cI, 87, .inl s_now))] s.heap := hP
  have hl := lv_entry ([.ref o, .int p0, .int p1]) (n := 4) (Nat.le_of_ble_eq_true rfl)
  rw [lg_entry_eq]
  generalize (lg_sl ([.ref o, .int p0, .int p1]) ++ List.replicate (4 - (lg_sl ([.ref o, .int p0, .int p1])).length) Slot.unset).toArray = ls at hl ⊢
  have hl : lv_has ls 4 [(0, .ref o), (1, .int p0), (2, .int p1)] := hl
  generalize hQQ : MQ below _ _ _ 0 0 A = QQ
  show W p l e rm_X4_changes s m ([.ref o, .int p0, .int p1] : List Value).toArray below meth c s.heap [] 0 0 QQ (F0 m 0 ls [])
  obtain ⟨H, hHH⟩ : ∃ H, H = s.heap := ⟨_, rfl⟩
  rw [← hHH] at hP ⊢
  have hS : va_S A s.heap H [] := by rw [hHH]; exact hS
  clear hHH
  generalize ([] : List Loc) = locs at hS ⊢
  unfold P_X4_changes at hw
  refine lv_aload_n hx hb dX4_changes_0 rfl (lv_at hl 0 rfl) ?_
  refine va_get (D := (dC, dI)) (ci := 4) (v := .ref o_now) (C := RX4) (T := TX4) (N := 17) hx hb ht i_X4 hown hK hP 0 rfl rfl 0 (by decide) (ht _ k_818) (fun _ h9 => h9) rfl dX4_changes_1 ?_
  refine lv_iload_n hx hb dX4_changes_4 rfl (lv_at hl 1 rfl) ?_
  obtain ⟨hi_1, hw⟩ := hw
  refine gv_iald hx hb hK hP 1 0 rfl rfl rfl hi_1 dX4_changes_5 ?_
  refine lv_istore_n (lv' := [(3, .int (s_now p0.toNatClampNeg)), (0, .ref o), (1, .int p0), (2, .int p1)]) hx hb dX4_changes_6 rfl hl (by decide) rfl (fun ls hl => ?_)
  refine lv_aload_n hx hb dX4_changes_7 rfl (lv_at hl 1 rfl) ?_
  refine va_get (D := (dC, dI)) (ci := 4) (v := .ref o_now) (C := RX4) (T := TX4) (N := 17) hx hb ht i_X4 hown hK hP 0 rfl rfl 0 (by decide) (ht _ k_818) (fun _ h9 => h9) rfl dX4_changes_8 ?_
  refine lv_iload_n hx hb dX4_changes_11 rfl (lv_at hl 2 rfl) ?_
  refine lv_iload_n hx hb dX4_changes_12 rfl (lv_at hl 3 rfl) ?_
  obtain ⟨hi_2, hw⟩ := hw
  refine gv_iast hx hb hK hP hD hS 1 0 rfl rfl rfl hi_2 dX4_changes_13 (fun H locs hP hD hS => ?_)
  have hP : va_P (dC, dI) vwCl [(o, .inr (4, [.ref o_now, .ref o_then, .ref o_past, .int s_kept, .ref o_text, .int s_typed, .int s_thrown, .int s_at, .int s_isFault, .int s_value, .ref o_told, .int s_tolds, .ref o_lit, .ref o_whole, .ref o_goes, .int s_isLaid, .ref o_latest])), (o_now, .inl (cI, 87, .inl (upd s_now p0.toNatClampNeg p1)))] H := hP
  have hD : va_D A [(o, .inr (4, [.ref o_now, .ref o_then, .ref o_past, .int s_kept, .ref o_text, .int s_typed, .int s_thrown, .int s_at, .int s_isFault, .int s_value, .ref o_told, .int s_tolds, .ref o_lit, .ref o_whole, .ref o_goes, .int s_isLaid, .ref o_latest])), (o_now, .inl (cI, 87, .inl (upd s_now p0.toNatClampNeg p1)))] := hD
  refine lv_iload_n hx hb dX4_changes_14 rfl (lv_at hl 0 rfl) ?_
  rw [← hQQ]
  exact g_reti (v := (s_now p0.toNatClampNeg)) (u := (upd s_now p0.toNatClampNeg p1)) hx hb hr rfl hlocks hw hP hK hD hS dX4_changes_15
abbrev rm_X4_rule : Room := { frames := 2, cells := 0, slots := 0, locals := 45 }
set_option maxHeartbeats 4000000 in
set_option maxRecDepth 100000 in
theorem c_X4_rule (l : Launch) (dC : Nat → ClassId) (dI : Nat → Nat → Nat) (cI cJ : ClassId) (o o_now o_then o_past o_text o_told o_lit o_whole o_goes o_latest : Nat) (sz : Nat) (s_now : Nat → Int32) (s_past : Nat → Int32) (s_kept : Int32) (s_thrown : Int32) (s_isLaid : Int32) (s_typed : Int32) (s_at : Int32) (s_isFault : Int32) (s_value : Int32) (s_tolds : Int32) (p0 : Int32) (p1 : Int32) (p2 : Int32) (Q : Int32 → (Nat → Int32) → (Nat → Int32) → Int32 → Int32 → Int32 → Prop) (hw : P_X4_rule p0 p1 p2 s_now s_past s_kept s_thrown s_isLaid Q) : Met l yX4_rule (Cond.code yX4_rule cX4_rule 4 (some .int) :: TBL) rm_X4_rule (gPc (dC, dI) vwCl (gTy cI cJ) [.ref o, .int p0, .int p1, .int p2] [(o, .inr (4, [.ref o_now, .ref o_then, .ref o_past, .int s_kept, .ref o_text, .int s_typed, .int s_thrown, .int s_at, .int s_isFault, .int s_value, .ref o_told, .int s_tolds, .ref o_lit, .ref o_whole, .ref o_goes, .int s_isLaid, .ref o_latest])), (o_now, .inl (cI, 87, .inl s_now)), (o_past, .inl (cI, 522, .inl s_past))] sz) (va_Qi (fun (r : Int32) (u : (Nat → Int32) × (Nat → Int32) × Int32 × Int32 × Int32) => Q r u.1 u.2.1 u.2.2.1 u.2.2.2.1 u.2.2.2.2) (gB (dC, dI) vwCl (gTy cI cJ) (va_A [(o, .inr (4, [.ref o_now, .ref o_then, .ref o_past, .int s_kept, .ref o_text, .int s_typed, .int s_thrown, .int s_at, .int s_isFault, .int s_value, .ref o_told, .int s_tolds, .ref o_lit, .ref o_whole, .ref o_goes, .int s_isLaid, .ref o_latest])), (o_now, .inl (cI, 87, .inl s_now)), (o_past, .inl (cI, 522, .inl s_past))] sz) (fun (u : (Nat → Int32) × (Nat → Int32) × Int32 × Int32 × Int32) => [(o, .inr (4, [.ref o_now, .ref o_then, .ref o_past, .int u.2.2.1, .ref o_text, .int s_typed, .int u.2.2.2.1, .int s_at, .int s_isFault, .int s_value, .ref o_told, .int s_tolds, .ref o_lit, .ref o_whole, .ref o_goes, .int u.2.2.2.2, .ref o_latest])), (o_now, .inl (cI, 87, .inl u.1)), (o_past, .inl (cI, 522, .inl u.2.1))])) (va_A [(o, .inr (4, [.ref o_now, .ref o_then, .ref o_past, .int s_kept, .ref o_text, .int s_typed, .int s_thrown, .int s_at, .int s_isFault, .int s_value, .ref o_told, .int s_tolds, .ref o_lit, .ref o_whole, .ref o_goes, .int s_isLaid, .ref o_latest])), (o_now, .inl (cI, 87, .inl s_now)), (o_past, .inl (cI, 522, .inl s_past))] sz)) 0 0 (va_A [(o, .inr (4, [.ref o_now, .ref o_then, .ref o_past, .int s_kept, .ref o_text, .int s_typed, .int s_thrown, .int s_at, .int s_isFault, .int s_value, .ref o_told, .int s_tolds, .ref o_lit, .ref o_whole, .ref o_goes, .int s_isLaid, .ref o_latest])), (o_now, .inl (cI, 87, .inl s_now)), (o_past, .inl (cI, 522, .inl s_past))] sz) := by
  refine Met.ofW (cc := cX4_rule) (maxL := 4) (ret := (some .int)) (by decide) rfl ?_
  intro p e s m args below meth c s₁ B hml hv
  obtain ⟨rfl, hsz, hP, hK, hD0⟩ := hv
  have hx := B.exec
  have hb := B.bytes
  have hr := B.returns
  have hts := atoms_spec (ws := Cond.code yX4_rule cX4_rule 4 (some .int) :: TBL) B.pre
  have ht : ∀ w ∈ TBL, w.before ([.ref o, .int p0, .int p1, .int p2] : List Value).toArray s = true := fun w h => hts w (List.mem_cons_of_mem _ h)
  clear hts
  have hown : s.vm.findClass RX4 = some m.cls := findClass_of_methodNamed B.named
  have hlocks := B.notSynchronized
  clear B
  subst hsz
  have hD := hD0.self (sz := s.heap.size)
  clear hD0
  generalize hAe : va_A [(o, .inr (4, [.ref o_now, .ref o_then, .ref o_past, .int s_kept, .ref o_text, .int s_typed, .int s_thrown, .int s_at, .int s_isFault, .int s_value, .ref o_told, .int s_tolds, .ref o_lit, .ref o_whole, .ref o_goes, .int s_isLaid, .ref o_latest])), (o_now, .inl (cI, 87, .inl s_now)), (o_past, .inl (cI, 522, .inl s_past))] s.heap.size = A at hD ⊢
  have hA : ∀ q : Nat, s.heap.size ≤ q → A q := fun q h => by rw [← hAe]; exact Or.inr h
  clear hAe
  have hS : va_S A s.heap s.heap [] := va_S.rf
  have hP : va_P (dC, dI) vwCl [(o, .inr (4, [.ref o_now, .ref o_then, .ref o_past, .int s_kept, .ref o_text, .int s_typed, .int s_thrown, .int s_at, .int s_isFault, .int s_value, .ref o_told, .int s_tolds, .ref o_lit, .ref o_whole, .ref o_goes, .int s_isLaid, .ref o_latest])), (o_now, .inl (cI, 87, .inl s_now)), (o_past, .inl (cI, 522, .inl s_past))] s.heap := hP
  have hl := lv_entry ([.ref o, .int p0, .int p1, .int p2]) (n := 4) (Nat.le_of_ble_eq_true rfl)
  rw [lg_entry_eq]
  generalize (lg_sl ([.ref o, .int p0, .int p1, .int p2]) ++ List.replicate (4 - (lg_sl ([.ref o, .int p0, .int p1, .int p2])).length) Slot.unset).toArray = ls at hl ⊢
  have hl : lv_has ls 4 [(0, .ref o), (1, .int p0), (2, .int p1), (3, .int p2)] := hl
  generalize hQQ : MQ below _ _ _ 0 0 A = QQ
  show W p l e rm_X4_rule s m ([.ref o, .int p0, .int p1, .int p2] : List Value).toArray below meth c s.heap [] 0 0 QQ (F0 m 0 ls [])
  have J38 : ∀ (s_thrown : Int32), P_X4_rule_J38 s_now s_past s_kept s_isLaid Q s_thrown → ∀ (H : Heap) (locs : List Loc) (ls : Array Slot), va_P (dC, dI) vwCl [(o, .inr (4, [.ref o_now, .ref o_then, .ref o_past, .int s_kept, .ref o_text, .int s_typed, .int s_thrown, .int s_at, .int s_isFault, .int s_value, .ref o_told, .int s_tolds, .ref o_lit, .ref o_whole, .ref o_goes, .int s_isLaid, .ref o_latest])), (o_now, .inl (cI, 87, .inl s_now)), (o_past, .inl (cI, 522, .inl s_past))] H → va_D A [(o, .inr (4, [.ref o_now, .ref o_then, .ref o_past, .int s_kept, .ref o_text, .int s_typed, .int s_thrown, .int s_at, .int s_isFault, .int s_value, .ref o_told, .int s_tolds, .ref o_lit, .ref o_whole, .ref o_goes, .int s_isLaid, .ref o_latest])), (o_now, .inl (cI, 87, .inl s_now)), (o_past, .inl (cI, 522, .inl s_past))] → va_S A s.heap H locs → lv_has ls 4 [(0, .ref o)] → W p l e rm_X4_rule s m ([.ref o, .int p0, .int p1, .int p2] : List Value).toArray below meth c H locs 0 0 QQ (F0 m 38 ls []) := by
    intro s_thrown hw H locs ls hP hD hS hl
    unfold P_X4_rule_J38 at hw
    refine lv_aload_n hx hb dX4_rule_38 rfl (lv_at hl 0 rfl) ?_
    refine lv_iconst (v := 2) hx hb dX4_rule_39 (by decide) ?_
    refine gc_Vi (As := [.int 2]) (rest := []) (wr := [(o_now, .inl (cI, 87, .inl s_now)), (o_past, .inl (cI, 522, .inl s_past))]) ⟨hx, hb, hml, hown, ht⟩ (c_X4_fails l dC dI cI cJ o o_now o_then o_past o_text o_told o_lit o_whole o_goes o_latest H.size s_thrown s_kept s_typed s_at s_isFault s_value s_tolds s_isLaid 2 _ hw) (cwV 1 ht (g_V k_878 k_880 k_s37 k_5 k_881) rfl rfl rfl (by decide +kernel) ⟨(Nat.le_of_ble_eq_true rfl), (Nat.le_of_ble_eq_true rfl)⟩) hK hP hD hS hA [0] [1, 2] rfl rfl (by decide) 0 rfl rfl rfl rfl hl.1 rfl (Nat.le_of_ble_eq_true rfl) ⟨(Nat.le_of_ble_eq_true rfl), (Nat.le_of_ble_eq_true rfl)⟩ dX4_rule_40 (fun r_1 u H locs hw hP hD hS => ?_)
    obtain ⟨s_thrown_2, rfl⟩ : ∃ z, z = u := ⟨_, rfl⟩
    try dsimp only at hw
    have hP : va_P (dC, dI) vwCl [(o_now, .inl (cI, 87, .inl s_now)), (o_past, .inl (cI, 522, .inl s_past)), (o, .inr (4, [.ref o_now, .ref o_then, .ref o_past, .int s_kept, .ref o_text, .int s_typed, .int s_thrown_2, .int s_at, .int s_isFault, .int s_value, .ref o_told, .int s_tolds, .ref o_lit, .ref o_whole, .ref o_goes, .int s_isLaid, .ref o_latest]))] H := hP
    have hD : va_D A [(o_now, .inl (cI, 87, .inl s_now)), (o_past, .inl (cI, 522, .inl s_past)), (o, .inr (4, [.ref o_now, .ref o_then, .ref o_past, .int s_kept, .ref o_text, .int s_typed, .int s_thrown_2, .int s_at, .int s_isFault, .int s_value, .ref o_told, .int s_tolds, .ref o_lit, .ref o_whole, .ref o_goes, .int s_isLaid, .ref o_latest]))] := hD
    rw [← hQQ]
    exact g_reti (v := r_1) (u := (s_now, s_past, s_kept, s_thrown_2, s_isLaid)) hx hb hr rfl hlocks hw (hP.sub (ws' := [(o, .inr (4, [.ref o_now, .ref o_then, .ref o_past, .int s_kept, .ref o_text, .int s_typed, .int s_thrown_2, .int s_at, .int s_isFault, .int s_value, .ref o_told, .int s_tolds, .ref o_lit, .ref o_whole, .ref o_goes, .int s_isLaid, .ref o_latest])), (o_now, .inl (cI, 87, .inl s_now)), (o_past, .inl (cI, 522, .inl s_past))]) [2, 0, 1] rfl) hK (hD.sub (ws' := [(o, .inr (4, [.ref o_now, .ref o_then, .ref o_past, .int s_kept, .ref o_text, .int s_typed, .int s_thrown_2, .int s_at, .int s_isFault, .int s_value, .ref o_told, .int s_tolds, .ref o_lit, .ref o_whole, .ref o_goes, .int s_isLaid, .ref o_latest])), (o_now, .inl (cI, 87, .inl s_now)), (o_past, .inl (cI, 522, .inl s_past))]) [2, 0, 1] (by decide) rfl) hS dX4_rule_43
  obtain ⟨H, hHH⟩ : ∃ H, H = s.heap := ⟨_, rfl⟩
  rw [← hHH] at hP ⊢
  have hS : va_S A s.heap H [] := by rw [hHH]; exact hS
  clear hHH
  generalize ([] : List Loc) = locs at hS ⊢
  unfold P_X4_rule at hw
  refine lv_aload_n hx hb dX4_rule_0 rfl (lv_at hl 0 rfl) ?_
  refine lv_iconst (v := 0) hx hb dX4_rule_1 (by decide) ?_
  refine va_put (D := (dC, dI)) (ci := 4) (v := .int 0) (ty := .int) (C := RX4) (T := TX4) (N := 17) hx hb ht i_X4 tyX4 tyX4_ok nmX4 hown hK hP hD hS 0 rfl rfl 6 (by decide) (ht _ k_824) (fun _ h9 => h9) rfl (by decide +kernel) rfl rfl (Nat.le_of_ble_eq_true rfl) dX4_rule_2 (fun H locs hP hD hS => ?_)
  have hP : va_P (dC, dI) vwCl [(o, .inr (4, [.ref o_now, .ref o_then, .ref o_past, .int s_kept, .ref o_text, .int s_typed, .int 0, .int s_at, .int s_isFault, .int s_value, .ref o_told, .int s_tolds, .ref o_lit, .ref o_whole, .ref o_goes, .int s_isLaid, .ref o_latest])), (o_now, .inl (cI, 87, .inl s_now)), (o_past, .inl (cI, 522, .inl s_past))] H := hP
  have hD : va_D A [(o, .inr (4, [.ref o_now, .ref o_then, .ref o_past, .int s_kept, .ref o_text, .int s_typed, .int 0, .int s_at, .int s_isFault, .int s_value, .ref o_told, .int s_tolds, .ref o_lit, .ref o_whole, .ref o_goes, .int s_isLaid, .ref o_latest])), (o_now, .inl (cI, 87, .inl s_now)), (o_past, .inl (cI, 522, .inl s_past))] := hD
  refine lv_aload_n hx hb dX4_rule_5 rfl (lv_at hl 0 rfl) ?_
  refine lv_iload_n hx hb dX4_rule_6 rfl (lv_at hl 1 rfl) ?_
  refine gc_Vi (As := [.int p0]) (rest := []) (wr := [(o_past, .inl (cI, 522, .inl s_past))]) ⟨hx, hb, hml, hown, ht⟩ (c_X4_isWord l dC dI cI cJ o o_now o_then o_past o_text o_told o_lit o_whole o_goes o_latest H.size s_now s_kept s_typed 0 s_at s_isFault s_value s_tolds s_isLaid p0 _ hw) (cwV 1 ht (g_V k_914 k_916 k_s41 k_5 k_917) rfl rfl rfl (by decide +kernel) ⟨(Nat.le_of_ble_eq_true rfl), (Nat.le_of_ble_eq_true rfl)⟩) hK hP hD hS hA [0, 1] [2] rfl rfl (by decide) 0 rfl rfl rfl rfl hl.1 rfl (Nat.le_of_ble_eq_true rfl) ⟨(Nat.le_of_ble_eq_true rfl), (Nat.le_of_ble_eq_true rfl)⟩ dX4_rule_7 (fun r_3 u H locs hw hP hD hS => ?_)
  try dsimp only at hw
  have hP : va_P (dC, dI) vwCl [(o_past, .inl (cI, 522, .inl s_past)), (o, .inr (4, [.ref o_now, .ref o_then, .ref o_past, .int s_kept, .ref o_text, .int s_typed, .int 0, .int s_at, .int s_isFault, .int s_value, .ref o_told, .int s_tolds, .ref o_lit, .ref o_whole, .ref o_goes, .int s_isLaid, .ref o_latest])), (o_now, .inl (cI, 87, .inl s_now))] H := hP
  have hD : va_D A [(o_past, .inl (cI, 522, .inl s_past)), (o, .inr (4, [.ref o_now, .ref o_then, .ref o_past, .int s_kept, .ref o_text, .int s_typed, .int 0, .int s_at, .int s_isFault, .int s_value, .ref o_told, .int s_tolds, .ref o_lit, .ref o_whole, .ref o_goes, .int s_isLaid, .ref o_latest])), (o_now, .inl (cI, 87, .inl s_now))] := hD
  refine lv_if_ne (tgt := 19) hx hb dX4_rule_10 (by decide) (fun hc => ?_) (fun hc => ?_)
  · have hw := hw.1 hc
    refine lv_iload_n hx hb dX4_rule_19 rfl (lv_at hl 2 rfl) ?_
    refine lv_iconst (v := 0) hx hb dX4_rule_20 (by decide) ?_
    refine lv_iconst (v := 2) hx hb dX4_rule_21 (by decide) ?_
    refine gc_Si (As := [.int p1, .int 0, .int 2]) (rest := []) (wr := [(o_past, .inl (cI, 522, .inl s_past)), (o, .inr (4, [.ref o_now, .ref o_then, .ref o_past, .int s_kept, .ref o_text, .int s_typed, .int 0, .int s_at, .int s_isFault, .int s_value, .ref o_told, .int s_tolds, .ref o_lit, .ref o_whole, .ref o_goes, .int s_isLaid, .ref o_latest])), (o_now, .inl (cI, 87, .inl s_now))]) ⟨hx, hb, hml, hown, ht⟩ (c_X4_in l dC dI cI cJ  H.size p1 0 2 _ hw) (va_cwS 3 ht (g_S k_893 k_894 k_5 k_895) rfl rfl rfl (by decide +kernel) ⟨(Nat.le_of_ble_eq_true rfl), (Nat.le_of_ble_eq_true rfl)⟩) hK hP hD hS hA [] [0, 1, 2] rfl rfl (by decide) rfl hl.1 rfl (Nat.le_of_ble_eq_true rfl) ⟨(Nat.le_of_ble_eq_true rfl), (Nat.le_of_ble_eq_true rfl)⟩ dX4_rule_22 (fun r_4 u H locs hw hP hD hS => ?_)
    try dsimp only at hw
    have hP : va_P (dC, dI) vwCl [(o_past, .inl (cI, 522, .inl s_past)), (o, .inr (4, [.ref o_now, .ref o_then, .ref o_past, .int s_kept, .ref o_text, .int s_typed, .int 0, .int s_at, .int s_isFault, .int s_value, .ref o_told, .int s_tolds, .ref o_lit, .ref o_whole, .ref o_goes, .int s_isLaid, .ref o_latest])), (o_now, .inl (cI, 87, .inl s_now))] H := hP
    have hD : va_D A [(o_past, .inl (cI, 522, .inl s_past)), (o, .inr (4, [.ref o_now, .ref o_then, .ref o_past, .int s_kept, .ref o_text, .int s_typed, .int 0, .int s_at, .int s_isFault, .int s_value, .ref o_told, .int s_tolds, .ref o_lit, .ref o_whole, .ref o_goes, .int s_isLaid, .ref o_latest])), (o_now, .inl (cI, 87, .inl s_now))] := hD
    refine lv_if_eq (tgt := 38) hx hb dX4_rule_25 (by decide) (fun hc => ?_) (fun hc => ?_)
    · have hw := hw.1 hc
      exact J38 0 hw H locs ls (hP.sub (ws' := [(o, .inr (4, [.ref o_now, .ref o_then, .ref o_past, .int s_kept, .ref o_text, .int s_typed, .int 0, .int s_at, .int s_isFault, .int s_value, .ref o_told, .int s_tolds, .ref o_lit, .ref o_whole, .ref o_goes, .int s_isLaid, .ref o_latest])), (o_now, .inl (cI, 87, .inl s_now)), (o_past, .inl (cI, 522, .inl s_past))]) [1, 2, 0] rfl) (hD.sub (ws' := [(o, .inr (4, [.ref o_now, .ref o_then, .ref o_past, .int s_kept, .ref o_text, .int s_typed, .int 0, .int s_at, .int s_isFault, .int s_value, .ref o_told, .int s_tolds, .ref o_lit, .ref o_whole, .ref o_goes, .int s_isLaid, .ref o_latest])), (o_now, .inl (cI, 87, .inl s_now)), (o_past, .inl (cI, 522, .inl s_past))]) [1, 2, 0] (by decide) rfl) hS (lv_sub (l' := [(0, .ref o)]) hl [0] rfl)
    · have hw := hw.2 hc
      refine lv_iload_n hx hb dX4_rule_28 rfl (lv_at hl 3 rfl) ?_
      refine lv_iconst (v := 0) hx hb dX4_rule_29 (by decide) ?_
      refine lv_bipush (v := 50) hx hb dX4_rule_30 (by decide) ?_
      refine gc_Si (As := [.int p2, .int 0, .int 50]) (rest := []) (wr := [(o_past, .inl (cI, 522, .inl s_past)), (o, .inr (4, [.ref o_now, .ref o_then, .ref o_past, .int s_kept, .ref o_text, .int s_typed, .int 0, .int s_at, .int s_isFault, .int s_value, .ref o_told, .int s_tolds, .ref o_lit, .ref o_whole, .ref o_goes, .int s_isLaid, .ref o_latest])), (o_now, .inl (cI, 87, .inl s_now))]) ⟨hx, hb, hml, hown, ht⟩ (c_X4_in l dC dI cI cJ  H.size p2 0 50 _ hw) (va_cwS 3 ht (g_S k_893 k_894 k_5 k_895) rfl rfl rfl (by decide +kernel) ⟨(Nat.le_of_ble_eq_true rfl), (Nat.le_of_ble_eq_true rfl)⟩) hK hP hD hS hA [] [0, 1, 2] rfl rfl (by decide) rfl hl.1 rfl (Nat.le_of_ble_eq_true rfl) ⟨(Nat.le_of_ble_eq_true rfl), (Nat.le_of_ble_eq_true rfl)⟩ dX4_rule_32 (fun r_5 u H locs hw hP hD hS => ?_)
      try dsimp only at hw
      have hP : va_P (dC, dI) vwCl [(o_past, .inl (cI, 522, .inl s_past)), (o, .inr (4, [.ref o_now, .ref o_then, .ref o_past, .int s_kept, .ref o_text, .int s_typed, .int 0, .int s_at, .int s_isFault, .int s_value, .ref o_told, .int s_tolds, .ref o_lit, .ref o_whole, .ref o_goes, .int s_isLaid, .ref o_latest])), (o_now, .inl (cI, 87, .inl s_now))] H := hP
      have hD : va_D A [(o_past, .inl (cI, 522, .inl s_past)), (o, .inr (4, [.ref o_now, .ref o_then, .ref o_past, .int s_kept, .ref o_text, .int s_typed, .int 0, .int s_at, .int s_isFault, .int s_value, .ref o_told, .int s_tolds, .ref o_lit, .ref o_whole, .ref o_goes, .int s_isLaid, .ref o_latest])), (o_now, .inl (cI, 87, .inl s_now))] := hD
      refine lv_if_ne (tgt := 44) hx hb dX4_rule_35 (by decide) (fun hc => ?_) (fun hc => ?_)
      · have hw := hw.1 hc
        refine lv_aload_n hx hb dX4_rule_44 rfl (lv_at hl 0 rfl) ?_
        refine gc_Vv (As := []) (rest := []) (wr := []) ⟨hx, hb, hml, hown, ht⟩ (c_X4_saves l dC dI cI cJ o o_now o_then o_past o_text o_told o_lit o_whole o_goes o_latest H.size s_now s_past s_kept s_isLaid s_typed 0 s_at s_isFault s_value s_tolds _ hw) (cwV 0 ht (g_V k_902 k_904 k_s39 k_5 k_905) rfl rfl rfl (by decide +kernel) ⟨(Nat.le_of_ble_eq_true rfl), (Nat.le_of_ble_eq_true rfl)⟩) hK hP hD hS hA [1, 2, 0] [] rfl rfl (by decide) 1 rfl rfl rfl rfl hl.1 rfl (Nat.le_of_ble_eq_true rfl) ⟨(Nat.le_of_ble_eq_true rfl), (Nat.le_of_ble_eq_true rfl)⟩ dX4_rule_45 (fun u H locs hw hP hD hS => ?_)
        obtain ⟨s_past_6, s_kept_7, s_isLaid_8⟩ := u
        try dsimp only at hw
        have hP : va_P (dC, dI) vwCl [(o, .inr (4, [.ref o_now, .ref o_then, .ref o_past, .int s_kept_7, .ref o_text, .int s_typed, .int 0, .int s_at, .int s_isFault, .int s_value, .ref o_told, .int s_tolds, .ref o_lit, .ref o_whole, .ref o_goes, .int s_isLaid_8, .ref o_latest])), (o_now, .inl (cI, 87, .inl s_now)), (o_past, .inl (cI, 522, .inl s_past_6))] H := hP
        have hD : va_D A [(o, .inr (4, [.ref o_now, .ref o_then, .ref o_past, .int s_kept_7, .ref o_text, .int s_typed, .int 0, .int s_at, .int s_isFault, .int s_value, .ref o_told, .int s_tolds, .ref o_lit, .ref o_whole, .ref o_goes, .int s_isLaid_8, .ref o_latest])), (o_now, .inl (cI, 87, .inl s_now)), (o_past, .inl (cI, 522, .inl s_past_6))] := hD
        refine lv_aload_n hx hb dX4_rule_48 rfl (lv_at hl 0 rfl) ?_
        refine lv_iconst (v := 4) hx hb dX4_rule_49 (by decide) ?_
        refine lv_bipush (v := 6) hx hb dX4_rule_50 (by decide) ?_
        refine lv_iload_n hx hb dX4_rule_52 rfl (lv_at hl 1 rfl) ?_
        refine lv_imul hx hb dX4_rule_53 ?_
        refine lv_iadd hx hb dX4_rule_54 ?_
        refine lv_iconst (v := 5) hx hb dX4_rule_55 (by decide) ?_
        refine lv_iadd hx hb dX4_rule_56 ?_
        refine lv_iload_n hx hb dX4_rule_57 rfl (lv_at hl 3 rfl) ?_
        refine gc_Vi (As := [.int ((4 + (6 * p0)) + 5), .int p2]) (rest := []) (wr := [(o_past, .inl (cI, 522, .inl s_past_6))]) ⟨hx, hb, hml, hown, ht⟩ (c_X4_changes l dC dI cI cJ o o_now o_then o_past o_text o_told o_lit o_whole o_goes o_latest H.size s_now s_kept_7 s_typed 0 s_at s_isFault s_value s_tolds s_isLaid_8 ((4 + (6 * p0)) + 5) p2 _ hw) (cwV 2 ht (g_V k_918 k_920 k_s42 k_5 k_921) rfl rfl rfl (by decide +kernel) ⟨(Nat.le_of_ble_eq_true rfl), (Nat.le_of_ble_eq_true rfl)⟩) hK hP hD hS hA [0, 1] [2] rfl rfl (by decide) 0 rfl rfl rfl rfl hl.1 rfl (Nat.le_of_ble_eq_true rfl) ⟨(Nat.le_of_ble_eq_true rfl), (Nat.le_of_ble_eq_true rfl)⟩ dX4_rule_58 (fun r_9 u H locs hw hP hD hS => ?_)
        obtain ⟨s_now_10, rfl⟩ : ∃ z, z = u := ⟨_, rfl⟩
        try dsimp only at hw
        have hP : va_P (dC, dI) vwCl [(o_past, .inl (cI, 522, .inl s_past_6)), (o, .inr (4, [.ref o_now, .ref o_then, .ref o_past, .int s_kept_7, .ref o_text, .int s_typed, .int 0, .int s_at, .int s_isFault, .int s_value, .ref o_told, .int s_tolds, .ref o_lit, .ref o_whole, .ref o_goes, .int s_isLaid_8, .ref o_latest])), (o_now, .inl (cI, 87, .inl s_now_10))] H := hP
        have hD : va_D A [(o_past, .inl (cI, 522, .inl s_past_6)), (o, .inr (4, [.ref o_now, .ref o_then, .ref o_past, .int s_kept_7, .ref o_text, .int s_typed, .int 0, .int s_at, .int s_isFault, .int s_value, .ref o_told, .int s_tolds, .ref o_lit, .ref o_whole, .ref o_goes, .int s_isLaid_8, .ref o_latest])), (o_now, .inl (cI, 87, .inl s_now_10))] := hD
        refine lv_pop hx hb dX4_rule_61 rfl ?_
        refine lv_aload_n hx hb dX4_rule_62 rfl (lv_at hl 0 rfl) ?_
        refine lv_iconst (v := 4) hx hb dX4_rule_63 (by decide) ?_
        refine lv_bipush (v := 6) hx hb dX4_rule_64 (by decide) ?_
        refine lv_iload_n hx hb dX4_rule_66 rfl (lv_at hl 1 rfl) ?_
        refine lv_imul hx hb dX4_rule_67 ?_
        refine lv_iadd hx hb dX4_rule_68 ?_
        refine lv_iconst (v := 4) hx hb dX4_rule_69 (by decide) ?_
        refine lv_iadd hx hb dX4_rule_70 ?_
        refine lv_iload_n hx hb dX4_rule_71 rfl (lv_at hl 2 rfl) ?_
        refine gc_Vi (As := [.int ((4 + (6 * p0)) + 4), .int p1]) (rest := []) (wr := [(o_past, .inl (cI, 522, .inl s_past_6))]) ⟨hx, hb, hml, hown, ht⟩ (c_X4_changes l dC dI cI cJ o o_now o_then o_past o_text o_told o_lit o_whole o_goes o_latest H.size s_now_10 s_kept_7 s_typed 0 s_at s_isFault s_value s_tolds s_isLaid_8 ((4 + (6 * p0)) + 4) p1 _ hw) (cwV 2 ht (g_V k_918 k_920 k_s42 k_5 k_921) rfl rfl rfl (by decide +kernel) ⟨(Nat.le_of_ble_eq_true rfl), (Nat.le_of_ble_eq_true rfl)⟩) hK hP hD hS hA [1, 2] [0] rfl rfl (by decide) 1 rfl rfl rfl rfl hl.1 rfl (Nat.le_of_ble_eq_true rfl) ⟨(Nat.le_of_ble_eq_true rfl), (Nat.le_of_ble_eq_true rfl)⟩ dX4_rule_72 (fun r_11 u H locs hw hP hD hS => ?_)
        obtain ⟨s_now_12, rfl⟩ : ∃ z, z = u := ⟨_, rfl⟩
        try dsimp only at hw
        have hP : va_P (dC, dI) vwCl [(o_past, .inl (cI, 522, .inl s_past_6)), (o, .inr (4, [.ref o_now, .ref o_then, .ref o_past, .int s_kept_7, .ref o_text, .int s_typed, .int 0, .int s_at, .int s_isFault, .int s_value, .ref o_told, .int s_tolds, .ref o_lit, .ref o_whole, .ref o_goes, .int s_isLaid_8, .ref o_latest])), (o_now, .inl (cI, 87, .inl s_now_12))] H := hP
        have hD : va_D A [(o_past, .inl (cI, 522, .inl s_past_6)), (o, .inr (4, [.ref o_now, .ref o_then, .ref o_past, .int s_kept_7, .ref o_text, .int s_typed, .int 0, .int s_at, .int s_isFault, .int s_value, .ref o_told, .int s_tolds, .ref o_lit, .ref o_whole, .ref o_goes, .int s_isLaid_8, .ref o_latest])), (o_now, .inl (cI, 87, .inl s_now_12))] := hD
        rw [← hQQ]
        exact g_reti (v := r_11) (u := (s_now_12, s_past_6, s_kept_7, 0, s_isLaid_8)) hx hb hr rfl hlocks hw (hP.sub (ws' := [(o, .inr (4, [.ref o_now, .ref o_then, .ref o_past, .int s_kept_7, .ref o_text, .int s_typed, .int 0, .int s_at, .int s_isFault, .int s_value, .ref o_told, .int s_tolds, .ref o_lit, .ref o_whole, .ref o_goes, .int s_isLaid_8, .ref o_latest])), (o_now, .inl (cI, 87, .inl s_now_12)), (o_past, .inl (cI, 522, .inl s_past_6))]) [1, 2, 0] rfl) hK (hD.sub (ws' := [(o, .inr (4, [.ref o_now, .ref o_then, .ref o_past, .int s_kept_7, .ref o_text, .int s_typed, .int 0, .int s_at, .int s_isFault, .int s_value, .ref o_told, .int s_tolds, .ref o_lit, .ref o_whole, .ref o_goes, .int s_isLaid_8, .ref o_latest])), (o_now, .inl (cI, 87, .inl s_now_12)), (o_past, .inl (cI, 522, .inl s_past_6))]) [1, 2, 0] (by decide) rfl) hS dX4_rule_75
      · have hw := hw.2 hc
        exact J38 0 hw H locs ls (hP.sub (ws' := [(o, .inr (4, [.ref o_now, .ref o_then, .ref o_past, .int s_kept, .ref o_text, .int s_typed, .int 0, .int s_at, .int s_isFault, .int s_value, .ref o_told, .int s_tolds, .ref o_lit, .ref o_whole, .ref o_goes, .int s_isLaid, .ref o_latest])), (o_now, .inl (cI, 87, .inl s_now)), (o_past, .inl (cI, 522, .inl s_past))]) [1, 2, 0] rfl) (hD.sub (ws' := [(o, .inr (4, [.ref o_now, .ref o_then, .ref o_past, .int s_kept, .ref o_text, .int s_typed, .int 0, .int s_at, .int s_isFault, .int s_value, .ref o_told, .int s_tolds, .ref o_lit, .ref o_whole, .ref o_goes, .int s_isLaid, .ref o_latest])), (o_now, .inl (cI, 87, .inl s_now)), (o_past, .inl (cI, 522, .inl s_past))]) [1, 2, 0] (by decide) rfl) hS (lv_sub (l' := [(0, .ref o)]) hl [0] rfl)
  · have hw := hw.2 hc
    refine lv_aload_n hx hb dX4_rule_13 rfl (lv_at hl 0 rfl) ?_
    refine lv_iconst (v := 1) hx hb dX4_rule_14 (by decide) ?_
    refine gc_Vi (As := [.int 1]) (rest := []) (wr := [(o_past, .inl (cI, 522, .inl s_past)), (o_now, .inl (cI, 87, .inl s_now))]) ⟨hx, hb, hml, hown, ht⟩ (c_X4_fails l dC dI cI cJ o o_now o_then o_past o_text o_told o_lit o_whole o_goes o_latest H.size 0 s_kept s_typed s_at s_isFault s_value s_tolds s_isLaid 1 _ hw) (cwV 1 ht (g_V k_878 k_880 k_s37 k_5 k_881) rfl rfl rfl (by decide +kernel) ⟨(Nat.le_of_ble_eq_true rfl), (Nat.le_of_ble_eq_true rfl)⟩) hK hP hD hS hA [1] [0, 2] rfl rfl (by decide) 1 rfl rfl rfl rfl hl.1 rfl (Nat.le_of_ble_eq_true rfl) ⟨(Nat.le_of_ble_eq_true rfl), (Nat.le_of_ble_eq_true rfl)⟩ dX4_rule_15 (fun r_13 u H locs hw hP hD hS => ?_)
    obtain ⟨s_thrown_14, rfl⟩ : ∃ z, z = u := ⟨_, rfl⟩
    try dsimp only at hw
    have hP : va_P (dC, dI) vwCl [(o_past, .inl (cI, 522, .inl s_past)), (o_now, .inl (cI, 87, .inl s_now)), (o, .inr (4, [.ref o_now, .ref o_then, .ref o_past, .int s_kept, .ref o_text, .int s_typed, .int s_thrown_14, .int s_at, .int s_isFault, .int s_value, .ref o_told, .int s_tolds, .ref o_lit, .ref o_whole, .ref o_goes, .int s_isLaid, .ref o_latest]))] H := hP
    have hD : va_D A [(o_past, .inl (cI, 522, .inl s_past)), (o_now, .inl (cI, 87, .inl s_now)), (o, .inr (4, [.ref o_now, .ref o_then, .ref o_past, .int s_kept, .ref o_text, .int s_typed, .int s_thrown_14, .int s_at, .int s_isFault, .int s_value, .ref o_told, .int s_tolds, .ref o_lit, .ref o_whole, .ref o_goes, .int s_isLaid, .ref o_latest]))] := hD
    rw [← hQQ]
    exact g_reti (v := r_13) (u := (s_now, s_past, s_kept, s_thrown_14, s_isLaid)) hx hb hr rfl hlocks hw (hP.sub (ws' := [(o, .inr (4, [.ref o_now, .ref o_then, .ref o_past, .int s_kept, .ref o_text, .int s_typed, .int s_thrown_14, .int s_at, .int s_isFault, .int s_value, .ref o_told, .int s_tolds, .ref o_lit, .ref o_whole, .ref o_goes, .int s_isLaid, .ref o_latest])), (o_now, .inl (cI, 87, .inl s_now)), (o_past, .inl (cI, 522, .inl s_past))]) [2, 1, 0] rfl) hK (hD.sub (ws' := [(o, .inr (4, [.ref o_now, .ref o_then, .ref o_past, .int s_kept, .ref o_text, .int s_typed, .int s_thrown_14, .int s_at, .int s_isFault, .int s_value, .ref o_told, .int s_tolds, .ref o_lit, .ref o_whole, .ref o_goes, .int s_isLaid, .ref o_latest])), (o_now, .inl (cI, 87, .inl s_now)), (o_past, .inl (cI, 522, .inl s_past))]) [2, 1, 0] (by decide) rfl) hS dX4_rule_18
abbrev rm_X4_cue : Room := { frames := 2, cells := 0, slots := 0, locals := 45 }
set_option maxHeartbeats 4000000 in
set_option maxRecDepth 100000 in
theorem c_X4_cue (l : Launch) (dC : Nat → ClassId) (dI : Nat → Nat → Nat) (cI cJ : ClassId) (o o_now o_then o_past o_text o_told o_lit o_whole o_goes o_latest : Nat) (sz : Nat) (s_now : Nat → Int32) (s_past : Nat → Int32) (s_kept : Int32) (s_thrown : Int32) (s_isLaid : Int32) (s_typed : Int32) (s_at : Int32) (s_isFault : Int32) (s_value : Int32) (s_tolds : Int32) (p0 : Int32) (p1 : Int32) (Q : Int32 → (Nat → Int32) → (Nat → Int32) → Int32 → Int32 → Int32 → Prop) (hw : P_X4_cue p0 p1 s_now s_past s_kept s_thrown s_isLaid Q) : Met l yX4_cue (Cond.code yX4_cue cX4_cue 3 (some .int) :: TBL) rm_X4_cue (gPc (dC, dI) vwCl (gTy cI cJ) [.ref o, .int p0, .int p1] [(o, .inr (4, [.ref o_now, .ref o_then, .ref o_past, .int s_kept, .ref o_text, .int s_typed, .int s_thrown, .int s_at, .int s_isFault, .int s_value, .ref o_told, .int s_tolds, .ref o_lit, .ref o_whole, .ref o_goes, .int s_isLaid, .ref o_latest])), (o_now, .inl (cI, 87, .inl s_now)), (o_past, .inl (cI, 522, .inl s_past))] sz) (va_Qi (fun (r : Int32) (u : (Nat → Int32) × (Nat → Int32) × Int32 × Int32 × Int32) => Q r u.1 u.2.1 u.2.2.1 u.2.2.2.1 u.2.2.2.2) (gB (dC, dI) vwCl (gTy cI cJ) (va_A [(o, .inr (4, [.ref o_now, .ref o_then, .ref o_past, .int s_kept, .ref o_text, .int s_typed, .int s_thrown, .int s_at, .int s_isFault, .int s_value, .ref o_told, .int s_tolds, .ref o_lit, .ref o_whole, .ref o_goes, .int s_isLaid, .ref o_latest])), (o_now, .inl (cI, 87, .inl s_now)), (o_past, .inl (cI, 522, .inl s_past))] sz) (fun (u : (Nat → Int32) × (Nat → Int32) × Int32 × Int32 × Int32) => [(o, .inr (4, [.ref o_now, .ref o_then, .ref o_past, .int u.2.2.1, .ref o_text, .int s_typed, .int u.2.2.2.1, .int s_at, .int s_isFault, .int s_value, .ref o_told, .int s_tolds, .ref o_lit, .ref o_whole, .ref o_goes, .int u.2.2.2.2, .ref o_latest])), (o_now, .inl (cI, 87, .inl u.1)), (o_past, .inl (cI, 522, .inl u.2.1))])) (va_A [(o, .inr (4, [.ref o_now, .ref o_then, .ref o_past, .int s_kept, .ref o_text, .int s_typed, .int s_thrown, .int s_at, .int s_isFault, .int s_value, .ref o_told, .int s_tolds, .ref o_lit, .ref o_whole, .ref o_goes, .int s_isLaid, .ref o_latest])), (o_now, .inl (cI, 87, .inl s_now)), (o_past, .inl (cI, 522, .inl s_past))] sz)) 0 0 (va_A [(o, .inr (4, [.ref o_now, .ref o_then, .ref o_past, .int s_kept, .ref o_text, .int s_typed, .int s_thrown, .int s_at, .int s_isFault, .int s_value, .ref o_told, .int s_tolds, .ref o_lit, .ref o_whole, .ref o_goes, .int s_isLaid, .ref o_latest])), (o_now, .inl (cI, 87, .inl s_now)), (o_past, .inl (cI, 522, .inl s_past))] sz) := by
  refine Met.ofW (cc := cX4_cue) (maxL := 3) (ret := (some .int)) (by decide) rfl ?_
  intro p e s m args below meth c s₁ B hml hv
  obtain ⟨rfl, hsz, hP, hK, hD0⟩ := hv
  have hx := B.exec
  have hb := B.bytes
  have hr := B.returns
  have hts := atoms_spec (ws := Cond.code yX4_cue cX4_cue 3 (some .int) :: TBL) B.pre
  have ht : ∀ w ∈ TBL, w.before ([.ref o, .int p0, .int p1] : List Value).toArray s = true := fun w h => hts w (List.mem_cons_of_mem _ h)
  clear hts
  have hown : s.vm.findClass RX4 = some m.cls := findClass_of_methodNamed B.named
  have hlocks := B.notSynchronized
  clear B
  subst hsz
  have hD := hD0.self (sz := s.heap.size)
  clear hD0
  generalize hAe : va_A [(o, .inr (4, [.ref o_now, .ref o_then, .ref o_past, .int s_kept, .ref o_text, .int s_typed, .int s_thrown, .int s_at, .int s_isFault, .int s_value, .ref o_told, .int s_tolds, .ref o_lit, .ref o_whole, .ref o_goes, .int s_isLaid, .ref o_latest])), (o_now, .inl (cI, 87, .inl s_now)), (o_past, .inl (cI, 522, .inl s_past))] s.heap.size = A at hD ⊢
  have hA : ∀ q : Nat, s.heap.size ≤ q → A q := fun q h => by rw [← hAe]; exact Or.inr h
  clear hAe
  have hS : va_S A s.heap s.heap [] := va_S.rf
  have hP : va_P (dC, dI) vwCl [(o, .inr (4, [.ref o_now, .ref o_then, .ref o_past, .int s_kept, .ref o_text, .int s_typed, .int s_thrown, .int s_at, .int s_isFault, .int s_value, .ref o_told, .int s_tolds, .ref o_lit, .ref o_whole, .ref o_goes, .int s_isLaid, .ref o_latest])), (o_now, .inl (cI, 87, .inl s_now)), (o_past, .inl (cI, 522, .inl s_past))] s.heap := hP
  have hl := lv_entry ([.ref o, .int p0, .int p1]) (n := 3) (Nat.le_of_ble_eq_true rfl)
  rw [lg_entry_eq]
  generalize (lg_sl ([.ref o, .int p0, .int p1]) ++ List.replicate (3 - (lg_sl ([.ref o, .int p0, .int p1])).length) Slot.unset).toArray = ls at hl ⊢
  have hl : lv_has ls 3 [(0, .ref o), (1, .int p0), (2, .int p1)] := hl
  generalize hQQ : MQ below _ _ _ 0 0 A = QQ
  show W p l e rm_X4_cue s m ([.ref o, .int p0, .int p1] : List Value).toArray below meth c s.heap [] 0 0 QQ (F0 m 0 ls [])
  obtain ⟨H, hHH⟩ : ∃ H, H = s.heap := ⟨_, rfl⟩
  rw [← hHH] at hP ⊢
  have hS : va_S A s.heap H [] := by rw [hHH]; exact hS
  clear hHH
  generalize ([] : List Loc) = locs at hS ⊢
  unfold P_X4_cue at hw
  refine lv_aload_n hx hb dX4_cue_0 rfl (lv_at hl 0 rfl) ?_
  refine lv_iconst (v := 0) hx hb dX4_cue_1 (by decide) ?_
  refine va_put (D := (dC, dI)) (ci := 4) (v := .int 0) (ty := .int) (C := RX4) (T := TX4) (N := 17) hx hb ht i_X4 tyX4 tyX4_ok nmX4 hown hK hP hD hS 0 rfl rfl 6 (by decide) (ht _ k_824) (fun _ h9 => h9) rfl (by decide +kernel) rfl rfl (Nat.le_of_ble_eq_true rfl) dX4_cue_2 (fun H locs hP hD hS => ?_)
  have hP : va_P (dC, dI) vwCl [(o, .inr (4, [.ref o_now, .ref o_then, .ref o_past, .int s_kept, .ref o_text, .int s_typed, .int 0, .int s_at, .int s_isFault, .int s_value, .ref o_told, .int s_tolds, .ref o_lit, .ref o_whole, .ref o_goes, .int s_isLaid, .ref o_latest])), (o_now, .inl (cI, 87, .inl s_now)), (o_past, .inl (cI, 522, .inl s_past))] H := hP
  have hD : va_D A [(o, .inr (4, [.ref o_now, .ref o_then, .ref o_past, .int s_kept, .ref o_text, .int s_typed, .int 0, .int s_at, .int s_isFault, .int s_value, .ref o_told, .int s_tolds, .ref o_lit, .ref o_whole, .ref o_goes, .int s_isLaid, .ref o_latest])), (o_now, .inl (cI, 87, .inl s_now)), (o_past, .inl (cI, 522, .inl s_past))] := hD
  refine lv_aload_n hx hb dX4_cue_5 rfl (lv_at hl 0 rfl) ?_
  refine lv_iload_n hx hb dX4_cue_6 rfl (lv_at hl 1 rfl) ?_
  refine gc_Vi (As := [.int p0]) (rest := []) (wr := [(o_past, .inl (cI, 522, .inl s_past))]) ⟨hx, hb, hml, hown, ht⟩ (c_X4_isWord l dC dI cI cJ o o_now o_then o_past o_text o_told o_lit o_whole o_goes o_latest H.size s_now s_kept s_typed 0 s_at s_isFault s_value s_tolds s_isLaid p0 _ hw) (cwV 1 ht (g_V k_914 k_916 k_s41 k_5 k_917) rfl rfl rfl (by decide +kernel) ⟨(Nat.le_of_ble_eq_true rfl), (Nat.le_of_ble_eq_true rfl)⟩) hK hP hD hS hA [0, 1] [2] rfl rfl (by decide) 0 rfl rfl rfl rfl hl.1 rfl (Nat.le_of_ble_eq_true rfl) ⟨(Nat.le_of_ble_eq_true rfl), (Nat.le_of_ble_eq_true rfl)⟩ dX4_cue_7 (fun r_1 u H locs hw hP hD hS => ?_)
  try dsimp only at hw
  have hP : va_P (dC, dI) vwCl [(o_past, .inl (cI, 522, .inl s_past)), (o, .inr (4, [.ref o_now, .ref o_then, .ref o_past, .int s_kept, .ref o_text, .int s_typed, .int 0, .int s_at, .int s_isFault, .int s_value, .ref o_told, .int s_tolds, .ref o_lit, .ref o_whole, .ref o_goes, .int s_isLaid, .ref o_latest])), (o_now, .inl (cI, 87, .inl s_now))] H := hP
  have hD : va_D A [(o_past, .inl (cI, 522, .inl s_past)), (o, .inr (4, [.ref o_now, .ref o_then, .ref o_past, .int s_kept, .ref o_text, .int s_typed, .int 0, .int s_at, .int s_isFault, .int s_value, .ref o_told, .int s_tolds, .ref o_lit, .ref o_whole, .ref o_goes, .int s_isLaid, .ref o_latest])), (o_now, .inl (cI, 87, .inl s_now))] := hD
  refine lv_if_ne (tgt := 19) hx hb dX4_cue_10 (by decide) (fun hc => ?_) (fun hc => ?_)
  · have hw := hw.1 hc
    refine lv_iload_n hx hb dX4_cue_19 rfl (lv_at hl 2 rfl) ?_
    refine gc_Si (As := [.int p1]) (rest := []) (wr := [(o_past, .inl (cI, 522, .inl s_past)), (o, .inr (4, [.ref o_now, .ref o_then, .ref o_past, .int s_kept, .ref o_text, .int s_typed, .int 0, .int s_at, .int s_isFault, .int s_value, .ref o_told, .int s_tolds, .ref o_lit, .ref o_whole, .ref o_goes, .int s_isLaid, .ref o_latest])), (o_now, .inl (cI, 87, .inl s_now))]) ⟨hx, hb, hml, hown, ht⟩ (c_X4_isBeat l dC dI cI cJ  H.size p1 _ hw) (va_cwS 1 ht (g_S k_899 k_900 k_5 k_901) rfl rfl rfl (by decide +kernel) ⟨(Nat.le_of_ble_eq_true rfl), (Nat.le_of_ble_eq_true rfl)⟩) hK hP hD hS hA [] [0, 1, 2] rfl rfl (by decide) rfl hl.1 rfl (Nat.le_of_ble_eq_true rfl) ⟨(Nat.le_of_ble_eq_true rfl), (Nat.le_of_ble_eq_true rfl)⟩ dX4_cue_20 (fun r_2 u H locs hw hP hD hS => ?_)
    try dsimp only at hw
    have hP : va_P (dC, dI) vwCl [(o_past, .inl (cI, 522, .inl s_past)), (o, .inr (4, [.ref o_now, .ref o_then, .ref o_past, .int s_kept, .ref o_text, .int s_typed, .int 0, .int s_at, .int s_isFault, .int s_value, .ref o_told, .int s_tolds, .ref o_lit, .ref o_whole, .ref o_goes, .int s_isLaid, .ref o_latest])), (o_now, .inl (cI, 87, .inl s_now))] H := hP
    have hD : va_D A [(o_past, .inl (cI, 522, .inl s_past)), (o, .inr (4, [.ref o_now, .ref o_then, .ref o_past, .int s_kept, .ref o_text, .int s_typed, .int 0, .int s_at, .int s_isFault, .int s_value, .ref o_told, .int s_tolds, .ref o_lit, .ref o_whole, .ref o_goes, .int s_isLaid, .ref o_latest])), (o_now, .inl (cI, 87, .inl s_now))] := hD
    refine lv_if_ne (tgt := 32) hx hb dX4_cue_23 (by decide) (fun hc => ?_) (fun hc => ?_)
    · have hw := hw.1 hc
      refine lv_aload_n hx hb dX4_cue_32 rfl (lv_at hl 0 rfl) ?_
      refine gc_Vv (As := []) (rest := []) (wr := []) ⟨hx, hb, hml, hown, ht⟩ (c_X4_saves l dC dI cI cJ o o_now o_then o_past o_text o_told o_lit o_whole o_goes o_latest H.size s_now s_past s_kept s_isLaid s_typed 0 s_at s_isFault s_value s_tolds _ hw) (cwV 0 ht (g_V k_902 k_904 k_s39 k_5 k_905) rfl rfl rfl (by decide +kernel) ⟨(Nat.le_of_ble_eq_true rfl), (Nat.le_of_ble_eq_true rfl)⟩) hK hP hD hS hA [1, 2, 0] [] rfl rfl (by decide) 1 rfl rfl rfl rfl hl.1 rfl (Nat.le_of_ble_eq_true rfl) ⟨(Nat.le_of_ble_eq_true rfl), (Nat.le_of_ble_eq_true rfl)⟩ dX4_cue_33 (fun u H locs hw hP hD hS => ?_)
      obtain ⟨s_past_3, s_kept_4, s_isLaid_5⟩ := u
      try dsimp only at hw
      have hP : va_P (dC, dI) vwCl [(o, .inr (4, [.ref o_now, .ref o_then, .ref o_past, .int s_kept_4, .ref o_text, .int s_typed, .int 0, .int s_at, .int s_isFault, .int s_value, .ref o_told, .int s_tolds, .ref o_lit, .ref o_whole, .ref o_goes, .int s_isLaid_5, .ref o_latest])), (o_now, .inl (cI, 87, .inl s_now)), (o_past, .inl (cI, 522, .inl s_past_3))] H := hP
      have hD : va_D A [(o, .inr (4, [.ref o_now, .ref o_then, .ref o_past, .int s_kept_4, .ref o_text, .int s_typed, .int 0, .int s_at, .int s_isFault, .int s_value, .ref o_told, .int s_tolds, .ref o_lit, .ref o_whole, .ref o_goes, .int s_isLaid_5, .ref o_latest])), (o_now, .inl (cI, 87, .inl s_now)), (o_past, .inl (cI, 522, .inl s_past_3))] := hD
      refine lv_aload_n hx hb dX4_cue_36 rfl (lv_at hl 0 rfl) ?_
      refine lv_iconst (v := 4) hx hb dX4_cue_37 (by decide) ?_
      refine lv_bipush (v := 6) hx hb dX4_cue_38 (by decide) ?_
      refine lv_iload_n hx hb dX4_cue_40 rfl (lv_at hl 1 rfl) ?_
      refine lv_imul hx hb dX4_cue_41 ?_
      refine lv_iadd hx hb dX4_cue_42 ?_
      refine lv_iconst (v := 3) hx hb dX4_cue_43 (by decide) ?_
      refine lv_iadd hx hb dX4_cue_44 ?_
      refine lv_iload_n hx hb dX4_cue_45 rfl (lv_at hl 2 rfl) ?_
      refine gc_Vi (As := [.int ((4 + (6 * p0)) + 3), .int p1]) (rest := []) (wr := [(o_past, .inl (cI, 522, .inl s_past_3))]) ⟨hx, hb, hml, hown, ht⟩ (c_X4_changes l dC dI cI cJ o o_now o_then o_past o_text o_told o_lit o_whole o_goes o_latest H.size s_now s_kept_4 s_typed 0 s_at s_isFault s_value s_tolds s_isLaid_5 ((4 + (6 * p0)) + 3) p1 _ hw) (cwV 2 ht (g_V k_918 k_920 k_s42 k_5 k_921) rfl rfl rfl (by decide +kernel) ⟨(Nat.le_of_ble_eq_true rfl), (Nat.le_of_ble_eq_true rfl)⟩) hK hP hD hS hA [0, 1] [2] rfl rfl (by decide) 0 rfl rfl rfl rfl hl.1 rfl (Nat.le_of_ble_eq_true rfl) ⟨(Nat.le_of_ble_eq_true rfl), (Nat.le_of_ble_eq_true rfl)⟩ dX4_cue_46 (fun r_6 u H locs hw hP hD hS => ?_)
      obtain ⟨s_now_7, rfl⟩ : ∃ z, z = u := ⟨_, rfl⟩
      try dsimp only at hw
      have hP : va_P (dC, dI) vwCl [(o_past, .inl (cI, 522, .inl s_past_3)), (o, .inr (4, [.ref o_now, .ref o_then, .ref o_past, .int s_kept_4, .ref o_text, .int s_typed, .int 0, .int s_at, .int s_isFault, .int s_value, .ref o_told, .int s_tolds, .ref o_lit, .ref o_whole, .ref o_goes, .int s_isLaid_5, .ref o_latest])), (o_now, .inl (cI, 87, .inl s_now_7))] H := hP
      have hD : va_D A [(o_past, .inl (cI, 522, .inl s_past_3)), (o, .inr (4, [.ref o_now, .ref o_then, .ref o_past, .int s_kept_4, .ref o_text, .int s_typed, .int 0, .int s_at, .int s_isFault, .int s_value, .ref o_told, .int s_tolds, .ref o_lit, .ref o_whole, .ref o_goes, .int s_isLaid_5, .ref o_latest])), (o_now, .inl (cI, 87, .inl s_now_7))] := hD
      rw [← hQQ]
      exact g_reti (v := r_6) (u := (s_now_7, s_past_3, s_kept_4, 0, s_isLaid_5)) hx hb hr rfl hlocks hw (hP.sub (ws' := [(o, .inr (4, [.ref o_now, .ref o_then, .ref o_past, .int s_kept_4, .ref o_text, .int s_typed, .int 0, .int s_at, .int s_isFault, .int s_value, .ref o_told, .int s_tolds, .ref o_lit, .ref o_whole, .ref o_goes, .int s_isLaid_5, .ref o_latest])), (o_now, .inl (cI, 87, .inl s_now_7)), (o_past, .inl (cI, 522, .inl s_past_3))]) [1, 2, 0] rfl) hK (hD.sub (ws' := [(o, .inr (4, [.ref o_now, .ref o_then, .ref o_past, .int s_kept_4, .ref o_text, .int s_typed, .int 0, .int s_at, .int s_isFault, .int s_value, .ref o_told, .int s_tolds, .ref o_lit, .ref o_whole, .ref o_goes, .int s_isLaid_5, .ref o_latest])), (o_now, .inl (cI, 87, .inl s_now_7)), (o_past, .inl (cI, 522, .inl s_past_3))]) [1, 2, 0] (by decide) rfl) hS dX4_cue_49
    · have hw := hw.2 hc
      refine lv_aload_n hx hb dX4_cue_26 rfl (lv_at hl 0 rfl) ?_
      refine lv_iconst (v := 2) hx hb dX4_cue_27 (by decide) ?_
      refine gc_Vi (As := [.int 2]) (rest := []) (wr := [(o_past, .inl (cI, 522, .inl s_past)), (o_now, .inl (cI, 87, .inl s_now))]) ⟨hx, hb, hml, hown, ht⟩ (c_X4_fails l dC dI cI cJ o o_now o_then o_past o_text o_told o_lit o_whole o_goes o_latest H.size 0 s_kept s_typed s_at s_isFault s_value s_tolds s_isLaid 2 _ hw) (cwV 1 ht (g_V k_878 k_880 k_s37 k_5 k_881) rfl rfl rfl (by decide +kernel) ⟨(Nat.le_of_ble_eq_true rfl), (Nat.le_of_ble_eq_true rfl)⟩) hK hP hD hS hA [1] [0, 2] rfl rfl (by decide) 1 rfl rfl rfl rfl hl.1 rfl (Nat.le_of_ble_eq_true rfl) ⟨(Nat.le_of_ble_eq_true rfl), (Nat.le_of_ble_eq_true rfl)⟩ dX4_cue_28 (fun r_8 u H locs hw hP hD hS => ?_)
      obtain ⟨s_thrown_9, rfl⟩ : ∃ z, z = u := ⟨_, rfl⟩
      try dsimp only at hw
      have hP : va_P (dC, dI) vwCl [(o_past, .inl (cI, 522, .inl s_past)), (o_now, .inl (cI, 87, .inl s_now)), (o, .inr (4, [.ref o_now, .ref o_then, .ref o_past, .int s_kept, .ref o_text, .int s_typed, .int s_thrown_9, .int s_at, .int s_isFault, .int s_value, .ref o_told, .int s_tolds, .ref o_lit, .ref o_whole, .ref o_goes, .int s_isLaid, .ref o_latest]))] H := hP
      have hD : va_D A [(o_past, .inl (cI, 522, .inl s_past)), (o_now, .inl (cI, 87, .inl s_now)), (o, .inr (4, [.ref o_now, .ref o_then, .ref o_past, .int s_kept, .ref o_text, .int s_typed, .int s_thrown_9, .int s_at, .int s_isFault, .int s_value, .ref o_told, .int s_tolds, .ref o_lit, .ref o_whole, .ref o_goes, .int s_isLaid, .ref o_latest]))] := hD
      rw [← hQQ]
      exact g_reti (v := r_8) (u := (s_now, s_past, s_kept, s_thrown_9, s_isLaid)) hx hb hr rfl hlocks hw (hP.sub (ws' := [(o, .inr (4, [.ref o_now, .ref o_then, .ref o_past, .int s_kept, .ref o_text, .int s_typed, .int s_thrown_9, .int s_at, .int s_isFault, .int s_value, .ref o_told, .int s_tolds, .ref o_lit, .ref o_whole, .ref o_goes, .int s_isLaid, .ref o_latest])), (o_now, .inl (cI, 87, .inl s_now)), (o_past, .inl (cI, 522, .inl s_past))]) [2, 1, 0] rfl) hK (hD.sub (ws' := [(o, .inr (4, [.ref o_now, .ref o_then, .ref o_past, .int s_kept, .ref o_text, .int s_typed, .int s_thrown_9, .int s_at, .int s_isFault, .int s_value, .ref o_told, .int s_tolds, .ref o_lit, .ref o_whole, .ref o_goes, .int s_isLaid, .ref o_latest])), (o_now, .inl (cI, 87, .inl s_now)), (o_past, .inl (cI, 522, .inl s_past))]) [2, 1, 0] (by decide) rfl) hS dX4_cue_31
  · have hw := hw.2 hc
    refine lv_aload_n hx hb dX4_cue_13 rfl (lv_at hl 0 rfl) ?_
    refine lv_iconst (v := 1) hx hb dX4_cue_14 (by decide) ?_
    refine gc_Vi (As := [.int 1]) (rest := []) (wr := [(o_past, .inl (cI, 522, .inl s_past)), (o_now, .inl (cI, 87, .inl s_now))]) ⟨hx, hb, hml, hown, ht⟩ (c_X4_fails l dC dI cI cJ o o_now o_then o_past o_text o_told o_lit o_whole o_goes o_latest H.size 0 s_kept s_typed s_at s_isFault s_value s_tolds s_isLaid 1 _ hw) (cwV 1 ht (g_V k_878 k_880 k_s37 k_5 k_881) rfl rfl rfl (by decide +kernel) ⟨(Nat.le_of_ble_eq_true rfl), (Nat.le_of_ble_eq_true rfl)⟩) hK hP hD hS hA [1] [0, 2] rfl rfl (by decide) 1 rfl rfl rfl rfl hl.1 rfl (Nat.le_of_ble_eq_true rfl) ⟨(Nat.le_of_ble_eq_true rfl), (Nat.le_of_ble_eq_true rfl)⟩ dX4_cue_15 (fun r_10 u H locs hw hP hD hS => ?_)
    obtain ⟨s_thrown_11, rfl⟩ : ∃ z, z = u := ⟨_, rfl⟩
    try dsimp only at hw
    have hP : va_P (dC, dI) vwCl [(o_past, .inl (cI, 522, .inl s_past)), (o_now, .inl (cI, 87, .inl s_now)), (o, .inr (4, [.ref o_now, .ref o_then, .ref o_past, .int s_kept, .ref o_text, .int s_typed, .int s_thrown_11, .int s_at, .int s_isFault, .int s_value, .ref o_told, .int s_tolds, .ref o_lit, .ref o_whole, .ref o_goes, .int s_isLaid, .ref o_latest]))] H := hP
    have hD : va_D A [(o_past, .inl (cI, 522, .inl s_past)), (o_now, .inl (cI, 87, .inl s_now)), (o, .inr (4, [.ref o_now, .ref o_then, .ref o_past, .int s_kept, .ref o_text, .int s_typed, .int s_thrown_11, .int s_at, .int s_isFault, .int s_value, .ref o_told, .int s_tolds, .ref o_lit, .ref o_whole, .ref o_goes, .int s_isLaid, .ref o_latest]))] := hD
    rw [← hQQ]
    exact g_reti (v := r_10) (u := (s_now, s_past, s_kept, s_thrown_11, s_isLaid)) hx hb hr rfl hlocks hw (hP.sub (ws' := [(o, .inr (4, [.ref o_now, .ref o_then, .ref o_past, .int s_kept, .ref o_text, .int s_typed, .int s_thrown_11, .int s_at, .int s_isFault, .int s_value, .ref o_told, .int s_tolds, .ref o_lit, .ref o_whole, .ref o_goes, .int s_isLaid, .ref o_latest])), (o_now, .inl (cI, 87, .inl s_now)), (o_past, .inl (cI, 522, .inl s_past))]) [2, 1, 0] rfl) hK (hD.sub (ws' := [(o, .inr (4, [.ref o_now, .ref o_then, .ref o_past, .int s_kept, .ref o_text, .int s_typed, .int s_thrown_11, .int s_at, .int s_isFault, .int s_value, .ref o_told, .int s_tolds, .ref o_lit, .ref o_whole, .ref o_goes, .int s_isLaid, .ref o_latest])), (o_now, .inl (cI, 87, .inl s_now)), (o_past, .inl (cI, 522, .inl s_past))]) [2, 1, 0] (by decide) rfl) hS dX4_cue_18
abbrev rm_X4_removeWord : Room := { frames := 2, cells := 0, slots := 0, locals := 45 }
set_option maxHeartbeats 4000000 in
set_option maxRecDepth 100000 in
theorem c_X4_removeWord (l : Launch) (dC : Nat → ClassId) (dI : Nat → Nat → Nat) (cI cJ : ClassId) (o o_now o_then o_past o_text o_told o_lit o_whole o_goes o_latest : Nat) (sz : Nat) (s_now : Nat → Int32) (s_past : Nat → Int32) (s_kept : Int32) (s_thrown : Int32) (s_isLaid : Int32) (s_typed : Int32) (s_at : Int32) (s_isFault : Int32) (s_value : Int32) (s_tolds : Int32) (p0 : Int32) (Q : Int32 → (Nat → Int32) → (Nat → Int32) → Int32 → Int32 → Int32 → Prop) (hw : P_X4_removeWord p0 s_now s_past s_kept s_thrown s_isLaid Q) : Met l yX4_removeWord (Cond.code yX4_removeWord cX4_removeWord 3 (some .int) :: TBL) rm_X4_removeWord (gPc (dC, dI) vwCl (gTy cI cJ) [.ref o, .int p0] [(o, .inr (4, [.ref o_now, .ref o_then, .ref o_past, .int s_kept, .ref o_text, .int s_typed, .int s_thrown, .int s_at, .int s_isFault, .int s_value, .ref o_told, .int s_tolds, .ref o_lit, .ref o_whole, .ref o_goes, .int s_isLaid, .ref o_latest])), (o_now, .inl (cI, 87, .inl s_now)), (o_past, .inl (cI, 522, .inl s_past))] sz) (va_Qi (fun (r : Int32) (u : (Nat → Int32) × (Nat → Int32) × Int32 × Int32 × Int32) => Q r u.1 u.2.1 u.2.2.1 u.2.2.2.1 u.2.2.2.2) (gB (dC, dI) vwCl (gTy cI cJ) (va_A [(o, .inr (4, [.ref o_now, .ref o_then, .ref o_past, .int s_kept, .ref o_text, .int s_typed, .int s_thrown, .int s_at, .int s_isFault, .int s_value, .ref o_told, .int s_tolds, .ref o_lit, .ref o_whole, .ref o_goes, .int s_isLaid, .ref o_latest])), (o_now, .inl (cI, 87, .inl s_now)), (o_past, .inl (cI, 522, .inl s_past))] sz) (fun (u : (Nat → Int32) × (Nat → Int32) × Int32 × Int32 × Int32) => [(o, .inr (4, [.ref o_now, .ref o_then, .ref o_past, .int u.2.2.1, .ref o_text, .int s_typed, .int u.2.2.2.1, .int s_at, .int s_isFault, .int s_value, .ref o_told, .int s_tolds, .ref o_lit, .ref o_whole, .ref o_goes, .int u.2.2.2.2, .ref o_latest])), (o_now, .inl (cI, 87, .inl u.1)), (o_past, .inl (cI, 522, .inl u.2.1))])) (va_A [(o, .inr (4, [.ref o_now, .ref o_then, .ref o_past, .int s_kept, .ref o_text, .int s_typed, .int s_thrown, .int s_at, .int s_isFault, .int s_value, .ref o_told, .int s_tolds, .ref o_lit, .ref o_whole, .ref o_goes, .int s_isLaid, .ref o_latest])), (o_now, .inl (cI, 87, .inl s_now)), (o_past, .inl (cI, 522, .inl s_past))] sz)) 0 0 (va_A [(o, .inr (4, [.ref o_now, .ref o_then, .ref o_past, .int s_kept, .ref o_text, .int s_typed, .int s_thrown, .int s_at, .int s_isFault, .int s_value, .ref o_told, .int s_tolds, .ref o_lit, .ref o_whole, .ref o_goes, .int s_isLaid, .ref o_latest])), (o_now, .inl (cI, 87, .inl s_now)), (o_past, .inl (cI, 522, .inl s_past))] sz) := by
  refine Met.ofW (cc := cX4_removeWord) (maxL := 3) (ret := (some .int)) (by decide) rfl ?_
  intro p e s m args below meth c s₁ B hml hv
  obtain ⟨rfl, hsz, hP, hK, hD0⟩ := hv
  have hx := B.exec
  have hb := B.bytes
  have hr := B.returns
  have hts := atoms_spec (ws := Cond.code yX4_removeWord cX4_removeWord 3 (some .int) :: TBL) B.pre
  have ht : ∀ w ∈ TBL, w.before ([.ref o, .int p0] : List Value).toArray s = true := fun w h => hts w (List.mem_cons_of_mem _ h)
  clear hts
  have hown : s.vm.findClass RX4 = some m.cls := findClass_of_methodNamed B.named
  have hlocks := B.notSynchronized
  clear B
  subst hsz
  have hD := hD0.self (sz := s.heap.size)
  clear hD0
  generalize hAe : va_A [(o, .inr (4, [.ref o_now, .ref o_then, .ref o_past, .int s_kept, .ref o_text, .int s_typed, .int s_thrown, .int s_at, .int s_isFault, .int s_value, .ref o_told, .int s_tolds, .ref o_lit, .ref o_whole, .ref o_goes, .int s_isLaid, .ref o_latest])), (o_now, .inl (cI, 87, .inl s_now)), (o_past, .inl (cI, 522, .inl s_past))] s.heap.size = A at hD ⊢
  have hA : ∀ q : Nat, s.heap.size ≤ q → A q := fun q h => by rw [← hAe]; exact Or.inr h
  clear hAe
  have hS : va_S A s.heap s.heap [] := va_S.rf
  have hP : va_P (dC, dI) vwCl [(o, .inr (4, [.ref o_now, .ref o_then, .ref o_past, .int s_kept, .ref o_text, .int s_typed, .int s_thrown, .int s_at, .int s_isFault, .int s_value, .ref o_told, .int s_tolds, .ref o_lit, .ref o_whole, .ref o_goes, .int s_isLaid, .ref o_latest])), (o_now, .inl (cI, 87, .inl s_now)), (o_past, .inl (cI, 522, .inl s_past))] s.heap := hP
  have hl := lv_entry ([.ref o, .int p0]) (n := 3) (Nat.le_of_ble_eq_true rfl)
  rw [lg_entry_eq]
  generalize (lg_sl ([.ref o, .int p0]) ++ List.replicate (3 - (lg_sl ([.ref o, .int p0])).length) Slot.unset).toArray = ls at hl ⊢
  have hl : lv_has ls 3 [(0, .ref o), (1, .int p0)] := hl
  generalize hQQ : MQ below _ _ _ 0 0 A = QQ
  show W p l e rm_X4_removeWord s m ([.ref o, .int p0] : List Value).toArray below meth c s.heap [] 0 0 QQ (F0 m 0 ls [])
  have L40 : ∀ (s_past : Nat → Int32) (s_kept : Int32) (s_thrown : Int32) (s_isLaid : Int32), ∀ (n : Nat) (x2 : Int32) (s_now : Nat → Int32), P_X4_removeWord_L40 s_past s_kept s_thrown s_isLaid Q n x2 s_now → ∀ (H : Heap) (locs : List Loc) (ls : Array Slot), va_P (dC, dI) vwCl [(o, .inr (4, [.ref o_now, .ref o_then, .ref o_past, .int s_kept, .ref o_text, .int s_typed, .int s_thrown, .int s_at, .int s_isFault, .int s_value, .ref o_told, .int s_tolds, .ref o_lit, .ref o_whole, .ref o_goes, .int s_isLaid, .ref o_latest])), (o_now, .inl (cI, 87, .inl s_now)), (o_past, .inl (cI, 522, .inl s_past))] H → va_D A [(o, .inr (4, [.ref o_now, .ref o_then, .ref o_past, .int s_kept, .ref o_text, .int s_typed, .int s_thrown, .int s_at, .int s_isFault, .int s_value, .ref o_told, .int s_tolds, .ref o_lit, .ref o_whole, .ref o_goes, .int s_isLaid, .ref o_latest])), (o_now, .inl (cI, 87, .inl s_now)), (o_past, .inl (cI, 522, .inl s_past))] → va_S A s.heap H locs → lv_has ls 3 [(0, .ref o), (2, .int x2)] → W p l e rm_X4_removeWord s m ([.ref o, .int p0] : List Value).toArray below meth c H locs 0 0 QQ (F0 m 40 ls []) := by
    intro s_past s_kept s_thrown s_isLaid
    intro n
    induction n with
    | zero => intro x2 s_now hw; rw [P_X4_removeWord_L40_z] at hw; exact hw.elim
    | succ n ih =>
      intro x2 s_now hw
      rw [P_X4_removeWord_L40_s] at hw
      generalize hrec : P_X4_removeWord_L40 s_past s_kept s_thrown s_isLaid Q n = rec40 at ih hw
      intro H locs ls hP hD hS hl
      unfold B_X4_removeWord_L40 at hw
      refine lv_iload_n hx hb dX4_removeWord_40 rfl (lv_at hl 1 rfl) ?_
      refine lv_iconst (v := 4) hx hb dX4_removeWord_41 (by decide) ?_
      refine lv_bipush (v := 6) hx hb dX4_removeWord_42 (by decide) ?_
      refine lv_aload_n hx hb dX4_removeWord_44 rfl (lv_at hl 0 rfl) ?_
      refine va_get (D := (dC, dI)) (ci := 4) (v := .ref o_now) (C := RX4) (T := TX4) (N := 17) hx hb ht i_X4 hown hK hP 0 rfl rfl 0 (by decide) (ht _ k_818) (fun _ h9 => h9) rfl dX4_removeWord_45 ?_
      refine lv_iconst (v := 2) hx hb dX4_removeWord_48 (by decide) ?_
      refine gv_iald hx hb hK hP 1 0 rfl rfl (k := 2) (by decide) (by unfold vp_in; decide) dX4_removeWord_49 ?_
      refine lv_imul hx hb dX4_removeWord_50 ?_
      refine lv_iadd hx hb dX4_removeWord_51 ?_
      refine lv_icmp_ge (tgt := 76) hx hb dX4_removeWord_52 (by decide) (fun hc => ?_) (fun hc => ?_)
      · have hw := hw.1 hc
        refine lv_aload_n hx hb dX4_removeWord_76 rfl (lv_at hl 0 rfl) ?_
        refine va_get (D := (dC, dI)) (ci := 4) (v := .ref o_now) (C := RX4) (T := TX4) (N := 17) hx hb ht i_X4 hown hK hP 0 rfl rfl 0 (by decide) (ht _ k_818) (fun _ h9 => h9) rfl dX4_removeWord_77 ?_
        refine lv_iconst (v := 2) hx hb dX4_removeWord_80 (by decide) ?_
        refine gv_iald hx hb hK hP 1 0 rfl rfl (k := 2) (by decide) (by unfold vp_in; decide) dX4_removeWord_81 ?_
        rw [← hQQ]
        exact g_reti (v := (s_now 2)) (u := (s_now, s_past, s_kept, s_thrown, s_isLaid)) hx hb hr rfl hlocks hw hP hK hD hS dX4_removeWord_82
      · have hw := hw.2 hc
        refine lv_aload_n hx hb dX4_removeWord_55 rfl (lv_at hl 0 rfl) ?_
        refine va_get (D := (dC, dI)) (ci := 4) (v := .ref o_now) (C := RX4) (T := TX4) (N := 17) hx hb ht i_X4 hown hK hP 0 rfl rfl 0 (by decide) (ht _ k_818) (fun _ h9 => h9) rfl dX4_removeWord_56 ?_
        refine lv_iload_n hx hb dX4_removeWord_59 rfl (lv_at hl 1 rfl) ?_
        refine lv_aload_n hx hb dX4_removeWord_60 rfl (lv_at hl 0 rfl) ?_
        refine va_get (D := (dC, dI)) (ci := 4) (v := .ref o_now) (C := RX4) (T := TX4) (N := 17) hx hb ht i_X4 hown hK hP 0 rfl rfl 0 (by decide) (ht _ k_818) (fun _ h9 => h9) rfl dX4_removeWord_61 ?_
        refine lv_iload_n hx hb dX4_removeWord_64 rfl (lv_at hl 1 rfl) ?_
        refine lv_bipush (v := 6) hx hb dX4_removeWord_65 (by decide) ?_
        refine lv_iadd hx hb dX4_removeWord_67 ?_
        obtain ⟨hi_1, hw⟩ := hw
        refine gv_iald hx hb hK hP 1 0 rfl rfl rfl hi_1 dX4_removeWord_68 ?_
        obtain ⟨hi_2, hw⟩ := hw
        refine gv_iast hx hb hK hP hD hS 1 0 rfl rfl rfl hi_2 dX4_removeWord_69 (fun H locs hP hD hS => ?_)
        have hP : va_P (dC, dI) vwCl [(o, .inr (4, [.ref o_now, .ref o_then, .ref o_past, .int s_kept, .ref o_text, .int s_typed, .int s_thrown, .int s_at, .int s_isFault, .int s_value, .ref o_told, .int s_tolds, .ref o_lit, .ref o_whole, .ref o_goes, .int s_isLaid, .ref o_latest])), (o_now, .inl (cI, 87, .inl (upd s_now x2.toNatClampNeg (s_now ((x2 + 6).toNatClampNeg))))), (o_past, .inl (cI, 522, .inl s_past))] H := hP
        have hD : va_D A [(o, .inr (4, [.ref o_now, .ref o_then, .ref o_past, .int s_kept, .ref o_text, .int s_typed, .int s_thrown, .int s_at, .int s_isFault, .int s_value, .ref o_told, .int s_tolds, .ref o_lit, .ref o_whole, .ref o_goes, .int s_isLaid, .ref o_latest])), (o_now, .inl (cI, 87, .inl (upd s_now x2.toNatClampNeg (s_now ((x2 + 6).toNatClampNeg))))), (o_past, .inl (cI, 522, .inl s_past))] := hD
        refine lv_iinc (v := (x2 + 1)) (lv' := [(2, .int (x2 + 1)), (0, .ref o)]) hx hb dX4_removeWord_70 hl (k := 1) rfl rfl (by decide) rfl (fun ls hl => ?_)
        refine lv_goto (tgt := 40) hx hb dX4_removeWord_73 (by decide) ?_
        exact ih (x2 + 1) (upd s_now x2.toNatClampNeg (s_now ((x2 + 6).toNatClampNeg))) hw H locs ls hP hD hS (lv_sub (l' := [(0, .ref o), (2, .int (x2 + 1))]) hl [1, 0] rfl)
  obtain ⟨H, hHH⟩ : ∃ H, H = s.heap := ⟨_, rfl⟩
  rw [← hHH] at hP ⊢
  have hS : va_S A s.heap H [] := by rw [hHH]; exact hS
  clear hHH
  generalize ([] : List Loc) = locs at hS ⊢
  unfold P_X4_removeWord at hw
  refine lv_aload_n hx hb dX4_removeWord_0 rfl (lv_at hl 0 rfl) ?_
  refine lv_iconst (v := 0) hx hb dX4_removeWord_1 (by decide) ?_
  refine va_put (D := (dC, dI)) (ci := 4) (v := .int 0) (ty := .int) (C := RX4) (T := TX4) (N := 17) hx hb ht i_X4 tyX4 tyX4_ok nmX4 hown hK hP hD hS 0 rfl rfl 6 (by decide) (ht _ k_824) (fun _ h9 => h9) rfl (by decide +kernel) rfl rfl (Nat.le_of_ble_eq_true rfl) dX4_removeWord_2 (fun H locs hP hD hS => ?_)
  have hP : va_P (dC, dI) vwCl [(o, .inr (4, [.ref o_now, .ref o_then, .ref o_past, .int s_kept, .ref o_text, .int s_typed, .int 0, .int s_at, .int s_isFault, .int s_value, .ref o_told, .int s_tolds, .ref o_lit, .ref o_whole, .ref o_goes, .int s_isLaid, .ref o_latest])), (o_now, .inl (cI, 87, .inl s_now)), (o_past, .inl (cI, 522, .inl s_past))] H := hP
  have hD : va_D A [(o, .inr (4, [.ref o_now, .ref o_then, .ref o_past, .int s_kept, .ref o_text, .int s_typed, .int 0, .int s_at, .int s_isFault, .int s_value, .ref o_told, .int s_tolds, .ref o_lit, .ref o_whole, .ref o_goes, .int s_isLaid, .ref o_latest])), (o_now, .inl (cI, 87, .inl s_now)), (o_past, .inl (cI, 522, .inl s_past))] := hD
  refine lv_aload_n hx hb dX4_removeWord_5 rfl (lv_at hl 0 rfl) ?_
  refine lv_iload_n hx hb dX4_removeWord_6 rfl (lv_at hl 1 rfl) ?_
  refine gc_Vi (As := [.int p0]) (rest := []) (wr := [(o_past, .inl (cI, 522, .inl s_past))]) ⟨hx, hb, hml, hown, ht⟩ (c_X4_isWord l dC dI cI cJ o o_now o_then o_past o_text o_told o_lit o_whole o_goes o_latest H.size s_now s_kept s_typed 0 s_at s_isFault s_value s_tolds s_isLaid p0 _ hw) (cwV 1 ht (g_V k_914 k_916 k_s41 k_5 k_917) rfl rfl rfl (by decide +kernel) ⟨(Nat.le_of_ble_eq_true rfl), (Nat.le_of_ble_eq_true rfl)⟩) hK hP hD hS hA [0, 1] [2] rfl rfl (by decide) 0 rfl rfl rfl rfl hl.1 rfl (Nat.le_of_ble_eq_true rfl) ⟨(Nat.le_of_ble_eq_true rfl), (Nat.le_of_ble_eq_true rfl)⟩ dX4_removeWord_7 (fun r_3 u H locs hw hP hD hS => ?_)
  try dsimp only at hw
  have hP : va_P (dC, dI) vwCl [(o_past, .inl (cI, 522, .inl s_past)), (o, .inr (4, [.ref o_now, .ref o_then, .ref o_past, .int s_kept, .ref o_text, .int s_typed, .int 0, .int s_at, .int s_isFault, .int s_value, .ref o_told, .int s_tolds, .ref o_lit, .ref o_whole, .ref o_goes, .int s_isLaid, .ref o_latest])), (o_now, .inl (cI, 87, .inl s_now))] H := hP
  have hD : va_D A [(o_past, .inl (cI, 522, .inl s_past)), (o, .inr (4, [.ref o_now, .ref o_then, .ref o_past, .int s_kept, .ref o_text, .int s_typed, .int 0, .int s_at, .int s_isFault, .int s_value, .ref o_told, .int s_tolds, .ref o_lit, .ref o_whole, .ref o_goes, .int s_isLaid, .ref o_latest])), (o_now, .inl (cI, 87, .inl s_now))] := hD
  refine lv_if_ne (tgt := 19) hx hb dX4_removeWord_10 (by decide) (fun hc => ?_) (fun hc => ?_)
  · have hw := hw.1 hc
    refine lv_aload_n hx hb dX4_removeWord_19 rfl (lv_at hl 0 rfl) ?_
    refine gc_Vv (As := []) (rest := []) (wr := []) ⟨hx, hb, hml, hown, ht⟩ (c_X4_saves l dC dI cI cJ o o_now o_then o_past o_text o_told o_lit o_whole o_goes o_latest H.size s_now s_past s_kept s_isLaid s_typed 0 s_at s_isFault s_value s_tolds _ hw) (cwV 0 ht (g_V k_902 k_904 k_s39 k_5 k_905) rfl rfl rfl (by decide +kernel) ⟨(Nat.le_of_ble_eq_true rfl), (Nat.le_of_ble_eq_true rfl)⟩) hK hP hD hS hA [1, 2, 0] [] rfl rfl (by decide) 1 rfl rfl rfl rfl hl.1 rfl (Nat.le_of_ble_eq_true rfl) ⟨(Nat.le_of_ble_eq_true rfl), (Nat.le_of_ble_eq_true rfl)⟩ dX4_removeWord_20 (fun u H locs hw hP hD hS => ?_)
    obtain ⟨s_past_4, s_kept_5, s_isLaid_6⟩ := u
    try dsimp only at hw
    have hP : va_P (dC, dI) vwCl [(o, .inr (4, [.ref o_now, .ref o_then, .ref o_past, .int s_kept_5, .ref o_text, .int s_typed, .int 0, .int s_at, .int s_isFault, .int s_value, .ref o_told, .int s_tolds, .ref o_lit, .ref o_whole, .ref o_goes, .int s_isLaid_6, .ref o_latest])), (o_now, .inl (cI, 87, .inl s_now)), (o_past, .inl (cI, 522, .inl s_past_4))] H := hP
    have hD : va_D A [(o, .inr (4, [.ref o_now, .ref o_then, .ref o_past, .int s_kept_5, .ref o_text, .int s_typed, .int 0, .int s_at, .int s_isFault, .int s_value, .ref o_told, .int s_tolds, .ref o_lit, .ref o_whole, .ref o_goes, .int s_isLaid_6, .ref o_latest])), (o_now, .inl (cI, 87, .inl s_now)), (o_past, .inl (cI, 522, .inl s_past_4))] := hD
    refine lv_aload_n hx hb dX4_removeWord_23 rfl (lv_at hl 0 rfl) ?_
    refine va_get (D := (dC, dI)) (ci := 4) (v := .ref o_now) (C := RX4) (T := TX4) (N := 17) hx hb ht i_X4 hown hK hP 0 rfl rfl 0 (by decide) (ht _ k_818) (fun _ h9 => h9) rfl dX4_removeWord_24 ?_
    refine lv_iconst (v := 2) hx hb dX4_removeWord_27 (by decide) ?_
    refine lv_dup2_11 hx hb dX4_removeWord_28 rfl rfl ?_
    refine gv_iald hx hb hK hP 1 0 rfl rfl (k := 2) (by decide) (by unfold vp_in; decide) dX4_removeWord_29 ?_
    refine lv_iconst (v := 1) hx hb dX4_removeWord_30 (by decide) ?_
    refine lv_isub hx hb dX4_removeWord_31 ?_
    refine gv_iast hx hb hK hP hD hS 1 0 rfl rfl (k := 2) (by decide) (by unfold vp_in; decide) dX4_removeWord_32 (fun H locs hP hD hS => ?_)
    have hP : va_P (dC, dI) vwCl [(o, .inr (4, [.ref o_now, .ref o_then, .ref o_past, .int s_kept_5, .ref o_text, .int s_typed, .int 0, .int s_at, .int s_isFault, .int s_value, .ref o_told, .int s_tolds, .ref o_lit, .ref o_whole, .ref o_goes, .int s_isLaid_6, .ref o_latest])), (o_now, .inl (cI, 87, .inl (upd s_now 2 ((s_now 2) - 1)))), (o_past, .inl (cI, 522, .inl s_past_4))] H := hP
    have hD : va_D A [(o, .inr (4, [.ref o_now, .ref o_then, .ref o_past, .int s_kept_5, .ref o_text, .int s_typed, .int 0, .int s_at, .int s_isFault, .int s_value, .ref o_told, .int s_tolds, .ref o_lit, .ref o_whole, .ref o_goes, .int s_isLaid_6, .ref o_latest])), (o_now, .inl (cI, 87, .inl (upd s_now 2 ((s_now 2) - 1)))), (o_past, .inl (cI, 522, .inl s_past_4))] := hD
    refine lv_iconst (v := 4) hx hb dX4_removeWord_33 (by decide) ?_
    refine lv_bipush (v := 6) hx hb dX4_removeWord_34 (by decide) ?_
    refine lv_iload_n hx hb dX4_removeWord_36 rfl (lv_at hl 1 rfl) ?_
    refine lv_imul hx hb dX4_removeWord_37 ?_
    refine lv_iadd hx hb dX4_removeWord_38 ?_
    refine lv_istore_n (lv' := [(2, .int (4 + (6 * p0))), (0, .ref o), (1, .int p0)]) hx hb dX4_removeWord_39 rfl hl (by decide) rfl (fun ls hl => ?_)
    obtain ⟨n, hw⟩ := hw
    exact L40 s_past_4 s_kept_5 0 s_isLaid_6 n (4 + (6 * p0)) (upd s_now 2 ((s_now 2) - 1)) hw H locs ls hP hD hS (lv_sub (l' := [(0, .ref o), (2, .int (4 + (6 * p0)))]) hl [1, 0] rfl)
  · have hw := hw.2 hc
    refine lv_aload_n hx hb dX4_removeWord_13 rfl (lv_at hl 0 rfl) ?_
    refine lv_iconst (v := 1) hx hb dX4_removeWord_14 (by decide) ?_
    refine gc_Vi (As := [.int 1]) (rest := []) (wr := [(o_past, .inl (cI, 522, .inl s_past)), (o_now, .inl (cI, 87, .inl s_now))]) ⟨hx, hb, hml, hown, ht⟩ (c_X4_fails l dC dI cI cJ o o_now o_then o_past o_text o_told o_lit o_whole o_goes o_latest H.size 0 s_kept s_typed s_at s_isFault s_value s_tolds s_isLaid 1 _ hw) (cwV 1 ht (g_V k_878 k_880 k_s37 k_5 k_881) rfl rfl rfl (by decide +kernel) ⟨(Nat.le_of_ble_eq_true rfl), (Nat.le_of_ble_eq_true rfl)⟩) hK hP hD hS hA [1] [0, 2] rfl rfl (by decide) 1 rfl rfl rfl rfl hl.1 rfl (Nat.le_of_ble_eq_true rfl) ⟨(Nat.le_of_ble_eq_true rfl), (Nat.le_of_ble_eq_true rfl)⟩ dX4_removeWord_15 (fun r_7 u H locs hw hP hD hS => ?_)
    obtain ⟨s_thrown_8, rfl⟩ : ∃ z, z = u := ⟨_, rfl⟩
    try dsimp only at hw
    have hP : va_P (dC, dI) vwCl [(o_past, .inl (cI, 522, .inl s_past)), (o_now, .inl (cI, 87, .inl s_now)), (o, .inr (4, [.ref o_now, .ref o_then, .ref o_past, .int s_kept, .ref o_text, .int s_typed, .int s_thrown_8, .int s_at, .int s_isFault, .int s_value, .ref o_told, .int s_tolds, .ref o_lit, .ref o_whole, .ref o_goes, .int s_isLaid, .ref o_latest]))] H := hP
    have hD : va_D A [(o_past, .inl (cI, 522, .inl s_past)), (o_now, .inl (cI, 87, .inl s_now)), (o, .inr (4, [.ref o_now, .ref o_then, .ref o_past, .int s_kept, .ref o_text, .int s_typed, .int s_thrown_8, .int s_at, .int s_isFault, .int s_value, .ref o_told, .int s_tolds, .ref o_lit, .ref o_whole, .ref o_goes, .int s_isLaid, .ref o_latest]))] := hD
    rw [← hQQ]
    exact g_reti (v := r_7) (u := (s_now, s_past, s_kept, s_thrown_8, s_isLaid)) hx hb hr rfl hlocks hw (hP.sub (ws' := [(o, .inr (4, [.ref o_now, .ref o_then, .ref o_past, .int s_kept, .ref o_text, .int s_typed, .int s_thrown_8, .int s_at, .int s_isFault, .int s_value, .ref o_told, .int s_tolds, .ref o_lit, .ref o_whole, .ref o_goes, .int s_isLaid, .ref o_latest])), (o_now, .inl (cI, 87, .inl s_now)), (o_past, .inl (cI, 522, .inl s_past))]) [2, 1, 0] rfl) hK (hD.sub (ws' := [(o, .inr (4, [.ref o_now, .ref o_then, .ref o_past, .int s_kept, .ref o_text, .int s_typed, .int s_thrown_8, .int s_at, .int s_isFault, .int s_value, .ref o_told, .int s_tolds, .ref o_lit, .ref o_whole, .ref o_goes, .int s_isLaid, .ref o_latest])), (o_now, .inl (cI, 87, .inl s_now)), (o_past, .inl (cI, 522, .inl s_past))]) [2, 1, 0] (by decide) rfl) hS dX4_removeWord_18
abbrev rm_X4_mayBeam : Room := { frames := 2, cells := 0, slots := 0, locals := 42 }
set_option maxHeartbeats 4000000 in
set_option maxRecDepth 100000 in
theorem c_X4_mayBeam (l : Launch) (dC : Nat → ClassId) (dI : Nat → Nat → Nat) (cI cJ : ClassId) (o o_now o_then o_past o_text o_told o_lit o_whole o_goes o_latest : Nat) (sz : Nat) (s_now : Nat → Int32) (s_kept : Int32) (s_typed : Int32) (s_thrown : Int32) (s_at : Int32) (s_isFault : Int32) (s_value : Int32) (s_tolds : Int32) (s_isLaid : Int32) (p0 : Int32) (p1 : Int32) (p2 : Int32) (p3 : Int32) (p4 : Int32) (Q : Int32 → Prop) (hw : P_X4_mayBeam p0 p1 p2 p3 p4 s_now Q) : Met l yX4_mayBeam (Cond.code yX4_mayBeam cX4_mayBeam 6 (some .int) :: TBL) rm_X4_mayBeam (gPc (dC, dI) vwCl (gTy cI cJ) [.ref o, .int p0, .int p1, .int p2, .int p3, .int p4] [(o, .inr (4, [.ref o_now, .ref o_then, .ref o_past, .int s_kept, .ref o_text, .int s_typed, .int s_thrown, .int s_at, .int s_isFault, .int s_value, .ref o_told, .int s_tolds, .ref o_lit, .ref o_whole, .ref o_goes, .int s_isLaid, .ref o_latest])), (o_now, .inl (cI, 87, .inl s_now))] sz) (va_Qi (fun (r : Int32) (u : Unit) => Q r ) (gB (dC, dI) vwCl (gTy cI cJ) (va_A [(o, .inr (4, [.ref o_now, .ref o_then, .ref o_past, .int s_kept, .ref o_text, .int s_typed, .int s_thrown, .int s_at, .int s_isFault, .int s_value, .ref o_told, .int s_tolds, .ref o_lit, .ref o_whole, .ref o_goes, .int s_isLaid, .ref o_latest])), (o_now, .inl (cI, 87, .inl s_now))] sz) (fun (u : Unit) => [(o, .inr (4, [.ref o_now, .ref o_then, .ref o_past, .int s_kept, .ref o_text, .int s_typed, .int s_thrown, .int s_at, .int s_isFault, .int s_value, .ref o_told, .int s_tolds, .ref o_lit, .ref o_whole, .ref o_goes, .int s_isLaid, .ref o_latest])), (o_now, .inl (cI, 87, .inl s_now))])) (va_A [(o, .inr (4, [.ref o_now, .ref o_then, .ref o_past, .int s_kept, .ref o_text, .int s_typed, .int s_thrown, .int s_at, .int s_isFault, .int s_value, .ref o_told, .int s_tolds, .ref o_lit, .ref o_whole, .ref o_goes, .int s_isLaid, .ref o_latest])), (o_now, .inl (cI, 87, .inl s_now))] sz)) 0 0 (va_A [(o, .inr (4, [.ref o_now, .ref o_then, .ref o_past, .int s_kept, .ref o_text, .int s_typed, .int s_thrown, .int s_at, .int s_isFault, .int s_value, .ref o_told, .int s_tolds, .ref o_lit, .ref o_whole, .ref o_goes, .int s_isLaid, .ref o_latest])), (o_now, .inl (cI, 87, .inl s_now))] sz) := by
  refine Met.ofW (cc := cX4_mayBeam) (maxL := 6) (ret := (some .int)) (by decide) rfl ?_
  intro p e s m args below meth c s₁ B hml hv
  obtain ⟨rfl, hsz, hP, hK, hD0⟩ := hv
  have hx := B.exec
  have hb := B.bytes
  have hr := B.returns
  have hts := atoms_spec (ws := Cond.code yX4_mayBeam cX4_mayBeam 6 (some .int) :: TBL) B.pre
  have ht : ∀ w ∈ TBL, w.before ([.ref o, .int p0, .int p1, .int p2, .int p3, .int p4] : List Value).toArray s = true := fun w h => hts w (List.mem_cons_of_mem _ h)
  clear hts
  have hown : s.vm.findClass RX4 = some m.cls := findClass_of_methodNamed B.named
  have hlocks := B.notSynchronized
  clear B
  subst hsz
  have hD := hD0.self (sz := s.heap.size)
  clear hD0
  generalize hAe : va_A [(o, .inr (4, [.ref o_now, .ref o_then, .ref o_past, .int s_kept, .ref o_text, .int s_typed, .int s_thrown, .int s_at, .int s_isFault, .int s_value, .ref o_told, .int s_tolds, .ref o_lit, .ref o_whole, .ref o_goes, .int s_isLaid, .ref o_latest])), (o_now, .inl (cI, 87, .inl s_now))] s.heap.size = A at hD ⊢
  have hA : ∀ q : Nat, s.heap.size ≤ q → A q := fun q h => by rw [← hAe]; exact Or.inr h
  clear hAe
  have hS : va_S A s.heap s.heap [] := va_S.rf
  have hP : va_P (dC, dI) vwCl [(o, .inr (4, [.ref o_now, .ref o_then, .ref o_past, .int s_kept, .ref o_text, .int s_typed, .int s_thrown, .int s_at, .int s_isFault, .int s_value, .ref o_told, .int s_tolds, .ref o_lit, .ref o_whole, .ref o_goes, .int s_isLaid, .ref o_latest])), (o_now, .inl (cI, 87, .inl s_now))] s.heap := hP
  have hl := lv_entry ([.ref o, .int p0, .int p1, .int p2, .int p3, .int p4]) (n := 6) (Nat.le_of_ble_eq_true rfl)
  rw [lg_entry_eq]
  generalize (lg_sl ([.ref o, .int p0, .int p1, .int p2, .int p3, .int p4]) ++ List.replicate (6 - (lg_sl ([.ref o, .int p0, .int p1, .int p2, .int p3, .int p4])).length) Slot.unset).toArray = ls at hl ⊢
  have hl : lv_has ls 6 [(0, .ref o), (1, .int p0), (2, .int p1), (3, .int p2), (4, .int p3), (5, .int p4)] := hl
  generalize hQQ : MQ below _ _ _ 0 0 A = QQ
  show W p l e rm_X4_mayBeam s m ([.ref o, .int p0, .int p1, .int p2, .int p3, .int p4] : List Value).toArray below meth c s.heap [] 0 0 QQ (F0 m 0 ls [])
  obtain ⟨H, hHH⟩ : ∃ H, H = s.heap := ⟨_, rfl⟩
  rw [← hHH] at hP ⊢
  have hS : va_S A s.heap H [] := by rw [hHH]; exact hS
  clear hHH
  generalize ([] : List Loc) = locs at hS ⊢
  unfold P_X4_mayBeam at hw
  refine lv_iload_n hx hb dX4_mayBeam_0 rfl (lv_at hl 1 rfl) ?_
  refine gc_Si (As := [.int p0]) (rest := []) (wr := [(o, .inr (4, [.ref o_now, .ref o_then, .ref o_past, .int s_kept, .ref o_text, .int s_typed, .int s_thrown, .int s_at, .int s_isFault, .int s_value, .ref o_told, .int s_tolds, .ref o_lit, .ref o_whole, .ref o_goes, .int s_isLaid, .ref o_latest])), (o_now, .inl (cI, 87, .inl s_now))]) ⟨hx, hb, hml, hown, ht⟩ (c_X4_isBeat l dC dI cI cJ  H.size p0 _ hw) (va_cwS 1 ht (g_S k_899 k_900 k_5 k_901) rfl rfl rfl (by decide +kernel) ⟨(Nat.le_of_ble_eq_true rfl), (Nat.le_of_ble_eq_true rfl)⟩) hK hP hD hS hA [] [0, 1] rfl rfl (by decide) rfl hl.1 rfl (Nat.le_of_ble_eq_true rfl) ⟨(Nat.le_of_ble_eq_true rfl), (Nat.le_of_ble_eq_true rfl)⟩ dX4_mayBeam_1 (fun r_1 u H locs hw hP hD hS => ?_)
  try dsimp only at hw
  have hP : va_P (dC, dI) vwCl [(o, .inr (4, [.ref o_now, .ref o_then, .ref o_past, .int s_kept, .ref o_text, .int s_typed, .int s_thrown, .int s_at, .int s_isFault, .int s_value, .ref o_told, .int s_tolds, .ref o_lit, .ref o_whole, .ref o_goes, .int s_isLaid, .ref o_latest])), (o_now, .inl (cI, 87, .inl s_now))] H := hP
  have hD : va_D A [(o, .inr (4, [.ref o_now, .ref o_then, .ref o_past, .int s_kept, .ref o_text, .int s_typed, .int s_thrown, .int s_at, .int s_isFault, .int s_value, .ref o_told, .int s_tolds, .ref o_lit, .ref o_whole, .ref o_goes, .int s_isLaid, .ref o_latest])), (o_now, .inl (cI, 87, .inl s_now))] := hD
  refine lv_if_eq (tgt := 48) hx hb dX4_mayBeam_4 (by decide) (fun hc => ?_) (fun hc => ?_)
  · have hw := hw.1 hc
    refine lv_iconst (v := 1) hx hb dX4_mayBeam_48 (by decide) ?_
    rw [← hQQ]
    exact g_reti (v := 1) (u := ()) hx hb hr rfl hlocks hw hP hK hD hS dX4_mayBeam_49
  · have hw := hw.2 hc
    refine lv_iload_n hx hb dX4_mayBeam_7 rfl (lv_at hl 2 rfl) ?_
    refine gc_Si (As := [.int p1]) (rest := []) (wr := [(o, .inr (4, [.ref o_now, .ref o_then, .ref o_past, .int s_kept, .ref o_text, .int s_typed, .int s_thrown, .int s_at, .int s_isFault, .int s_value, .ref o_told, .int s_tolds, .ref o_lit, .ref o_whole, .ref o_goes, .int s_isLaid, .ref o_latest])), (o_now, .inl (cI, 87, .inl s_now))]) ⟨hx, hb, hml, hown, ht⟩ (c_X4_isColumn l dC dI cI cJ  H.size p1 _ hw) (va_cwS 1 ht (g_S k_896 k_897 k_5 k_898) rfl rfl rfl (by decide +kernel) ⟨(Nat.le_of_ble_eq_true rfl), (Nat.le_of_ble_eq_true rfl)⟩) hK hP hD hS hA [] [0, 1] rfl rfl (by decide) rfl hl.1 rfl (Nat.le_of_ble_eq_true rfl) ⟨(Nat.le_of_ble_eq_true rfl), (Nat.le_of_ble_eq_true rfl)⟩ dX4_mayBeam_8 (fun r_2 u H locs hw hP hD hS => ?_)
    try dsimp only at hw
    have hP : va_P (dC, dI) vwCl [(o, .inr (4, [.ref o_now, .ref o_then, .ref o_past, .int s_kept, .ref o_text, .int s_typed, .int s_thrown, .int s_at, .int s_isFault, .int s_value, .ref o_told, .int s_tolds, .ref o_lit, .ref o_whole, .ref o_goes, .int s_isLaid, .ref o_latest])), (o_now, .inl (cI, 87, .inl s_now))] H := hP
    have hD : va_D A [(o, .inr (4, [.ref o_now, .ref o_then, .ref o_past, .int s_kept, .ref o_text, .int s_typed, .int s_thrown, .int s_at, .int s_isFault, .int s_value, .ref o_told, .int s_tolds, .ref o_lit, .ref o_whole, .ref o_goes, .int s_isLaid, .ref o_latest])), (o_now, .inl (cI, 87, .inl s_now))] := hD
    refine lv_if_eq (tgt := 48) hx hb dX4_mayBeam_11 (by decide) (fun hc => ?_) (fun hc => ?_)
    · have hw := hw.1 hc
      refine lv_iconst (v := 1) hx hb dX4_mayBeam_48 (by decide) ?_
      rw [← hQQ]
      exact g_reti (v := 1) (u := ()) hx hb hr rfl hlocks hw hP hK hD hS dX4_mayBeam_49
    · have hw := hw.2 hc
      refine lv_iload_n hx hb dX4_mayBeam_14 rfl (lv_at hl 3 rfl) ?_
      refine lv_bipush (v := (-9)) hx hb dX4_mayBeam_15 (by decide) ?_
      refine lv_bipush (v := 9) hx hb dX4_mayBeam_17 (by decide) ?_
      refine gc_Si (As := [.int p2, .int (-9), .int 9]) (rest := []) (wr := [(o, .inr (4, [.ref o_now, .ref o_then, .ref o_past, .int s_kept, .ref o_text, .int s_typed, .int s_thrown, .int s_at, .int s_isFault, .int s_value, .ref o_told, .int s_tolds, .ref o_lit, .ref o_whole, .ref o_goes, .int s_isLaid, .ref o_latest])), (o_now, .inl (cI, 87, .inl s_now))]) ⟨hx, hb, hml, hown, ht⟩ (c_X4_in l dC dI cI cJ  H.size p2 (-9) 9 _ hw) (va_cwS 3 ht (g_S k_893 k_894 k_5 k_895) rfl rfl rfl (by decide +kernel) ⟨(Nat.le_of_ble_eq_true rfl), (Nat.le_of_ble_eq_true rfl)⟩) hK hP hD hS hA [] [0, 1] rfl rfl (by decide) rfl hl.1 rfl (Nat.le_of_ble_eq_true rfl) ⟨(Nat.le_of_ble_eq_true rfl), (Nat.le_of_ble_eq_true rfl)⟩ dX4_mayBeam_19 (fun r_3 u H locs hw hP hD hS => ?_)
      try dsimp only at hw
      have hP : va_P (dC, dI) vwCl [(o, .inr (4, [.ref o_now, .ref o_then, .ref o_past, .int s_kept, .ref o_text, .int s_typed, .int s_thrown, .int s_at, .int s_isFault, .int s_value, .ref o_told, .int s_tolds, .ref o_lit, .ref o_whole, .ref o_goes, .int s_isLaid, .ref o_latest])), (o_now, .inl (cI, 87, .inl s_now))] H := hP
      have hD : va_D A [(o, .inr (4, [.ref o_now, .ref o_then, .ref o_past, .int s_kept, .ref o_text, .int s_typed, .int s_thrown, .int s_at, .int s_isFault, .int s_value, .ref o_told, .int s_tolds, .ref o_lit, .ref o_whole, .ref o_goes, .int s_isLaid, .ref o_latest])), (o_now, .inl (cI, 87, .inl s_now))] := hD
      refine lv_if_eq (tgt := 48) hx hb dX4_mayBeam_22 (by decide) (fun hc => ?_) (fun hc => ?_)
      · have hw := hw.1 hc
        refine lv_iconst (v := 1) hx hb dX4_mayBeam_48 (by decide) ?_
        rw [← hQQ]
        exact g_reti (v := 1) (u := ()) hx hb hr rfl hlocks hw hP hK hD hS dX4_mayBeam_49
      · have hw := hw.2 hc
        refine lv_iload hx hb dX4_mayBeam_25 (lv_at hl 4 rfl) ?_
        refine lv_iconst (v := 1) hx hb dX4_mayBeam_27 (by decide) ?_
        refine lv_bipush (v := 9) hx hb dX4_mayBeam_28 (by decide) ?_
        refine gc_Si (As := [.int p3, .int 1, .int 9]) (rest := []) (wr := [(o, .inr (4, [.ref o_now, .ref o_then, .ref o_past, .int s_kept, .ref o_text, .int s_typed, .int s_thrown, .int s_at, .int s_isFault, .int s_value, .ref o_told, .int s_tolds, .ref o_lit, .ref o_whole, .ref o_goes, .int s_isLaid, .ref o_latest])), (o_now, .inl (cI, 87, .inl s_now))]) ⟨hx, hb, hml, hown, ht⟩ (c_X4_in l dC dI cI cJ  H.size p3 1 9 _ hw) (va_cwS 3 ht (g_S k_893 k_894 k_5 k_895) rfl rfl rfl (by decide +kernel) ⟨(Nat.le_of_ble_eq_true rfl), (Nat.le_of_ble_eq_true rfl)⟩) hK hP hD hS hA [] [0, 1] rfl rfl (by decide) rfl hl.1 rfl (Nat.le_of_ble_eq_true rfl) ⟨(Nat.le_of_ble_eq_true rfl), (Nat.le_of_ble_eq_true rfl)⟩ dX4_mayBeam_30 (fun r_4 u H locs hw hP hD hS => ?_)
        try dsimp only at hw
        have hP : va_P (dC, dI) vwCl [(o, .inr (4, [.ref o_now, .ref o_then, .ref o_past, .int s_kept, .ref o_text, .int s_typed, .int s_thrown, .int s_at, .int s_isFault, .int s_value, .ref o_told, .int s_tolds, .ref o_lit, .ref o_whole, .ref o_goes, .int s_isLaid, .ref o_latest])), (o_now, .inl (cI, 87, .inl s_now))] H := hP
        have hD : va_D A [(o, .inr (4, [.ref o_now, .ref o_then, .ref o_past, .int s_kept, .ref o_text, .int s_typed, .int s_thrown, .int s_at, .int s_isFault, .int s_value, .ref o_told, .int s_tolds, .ref o_lit, .ref o_whole, .ref o_goes, .int s_isLaid, .ref o_latest])), (o_now, .inl (cI, 87, .inl s_now))] := hD
        refine lv_if_eq (tgt := 48) hx hb dX4_mayBeam_33 (by decide) (fun hc => ?_) (fun hc => ?_)
        · have hw := hw.1 hc
          refine lv_iconst (v := 1) hx hb dX4_mayBeam_48 (by decide) ?_
          rw [← hQQ]
          exact g_reti (v := 1) (u := ()) hx hb hr rfl hlocks hw hP hK hD hS dX4_mayBeam_49
        · have hw := hw.2 hc
          refine lv_iload hx hb dX4_mayBeam_36 (lv_at hl 5 rfl) ?_
          refine lv_iconst (v := 1) hx hb dX4_mayBeam_38 (by decide) ?_
          refine lv_sipush (v := 255) hx hb dX4_mayBeam_39 (by decide) ?_
          refine gc_Si (As := [.int p4, .int 1, .int 255]) (rest := []) (wr := [(o, .inr (4, [.ref o_now, .ref o_then, .ref o_past, .int s_kept, .ref o_text, .int s_typed, .int s_thrown, .int s_at, .int s_isFault, .int s_value, .ref o_told, .int s_tolds, .ref o_lit, .ref o_whole, .ref o_goes, .int s_isLaid, .ref o_latest])), (o_now, .inl (cI, 87, .inl s_now))]) ⟨hx, hb, hml, hown, ht⟩ (c_X4_in l dC dI cI cJ  H.size p4 1 255 _ hw) (va_cwS 3 ht (g_S k_893 k_894 k_5 k_895) rfl rfl rfl (by decide +kernel) ⟨(Nat.le_of_ble_eq_true rfl), (Nat.le_of_ble_eq_true rfl)⟩) hK hP hD hS hA [] [0, 1] rfl rfl (by decide) rfl hl.1 rfl (Nat.le_of_ble_eq_true rfl) ⟨(Nat.le_of_ble_eq_true rfl), (Nat.le_of_ble_eq_true rfl)⟩ dX4_mayBeam_42 (fun r_5 u H locs hw hP hD hS => ?_)
          try dsimp only at hw
          have hP : va_P (dC, dI) vwCl [(o, .inr (4, [.ref o_now, .ref o_then, .ref o_past, .int s_kept, .ref o_text, .int s_typed, .int s_thrown, .int s_at, .int s_isFault, .int s_value, .ref o_told, .int s_tolds, .ref o_lit, .ref o_whole, .ref o_goes, .int s_isLaid, .ref o_latest])), (o_now, .inl (cI, 87, .inl s_now))] H := hP
          have hD : va_D A [(o, .inr (4, [.ref o_now, .ref o_then, .ref o_past, .int s_kept, .ref o_text, .int s_typed, .int s_thrown, .int s_at, .int s_isFault, .int s_value, .ref o_told, .int s_tolds, .ref o_lit, .ref o_whole, .ref o_goes, .int s_isLaid, .ref o_latest])), (o_now, .inl (cI, 87, .inl s_now))] := hD
          refine lv_if_ne (tgt := 50) hx hb dX4_mayBeam_45 (by decide) (fun hc => ?_) (fun hc => ?_)
          · have hw := hw.1 hc
            refine lv_aload_n hx hb dX4_mayBeam_50 rfl (lv_at hl 0 rfl) ?_
            refine va_get (D := (dC, dI)) (ci := 4) (v := .ref o_now) (C := RX4) (T := TX4) (N := 17) hx hb ht i_X4 hown hK hP 0 rfl rfl 0 (by decide) (ht _ k_818) (fun _ h9 => h9) rfl dX4_mayBeam_51 ?_
            refine lv_iconst (v := 3) hx hb dX4_mayBeam_54 (by decide) ?_
            refine gv_iald hx hb hK hP 1 0 rfl rfl (k := 3) (by decide) (by unfold vp_in; decide) dX4_mayBeam_55 ?_
            refine lv_bipush (v := 6) hx hb dX4_mayBeam_56 (by decide) ?_
            refine lv_icmp_ne (tgt := 65) hx hb dX4_mayBeam_58 (by decide) (fun hc => ?_) (fun hc => ?_)
            · have hw := hw.1 hc
              refine lv_iconst (v := 0) hx hb dX4_mayBeam_65 (by decide) ?_
              rw [← hQQ]
              exact g_reti (v := 0) (u := ()) hx hb hr rfl hlocks hw hP hK hD hS dX4_mayBeam_66
            · have hw := hw.2 hc
              refine lv_iconst (v := 2) hx hb dX4_mayBeam_61 (by decide) ?_
              refine lv_goto (tgt := 66) hx hb dX4_mayBeam_62 (by decide) ?_
              rw [← hQQ]
              exact g_reti (v := 2) (u := ()) hx hb hr rfl hlocks hw hP hK hD hS dX4_mayBeam_66
          · have hw := hw.2 hc
            refine lv_iconst (v := 1) hx hb dX4_mayBeam_48 (by decide) ?_
            rw [← hQQ]
            exact g_reti (v := 1) (u := ()) hx hb hr rfl hlocks hw hP hK hD hS dX4_mayBeam_49
abbrev rm_X4_beams : Room := { frames := 0, cells := 0, slots := 0, locals := 0 }
set_option maxHeartbeats 4000000 in
set_option maxRecDepth 100000 in
theorem c_X4_beams (l : Launch) (dC : Nat → ClassId) (dI : Nat → Nat → Nat) (cI cJ : ClassId) (r0 : Nat) (sz : Nat) (s_r0 : Nat → Int32) (p1 : Int32) (p2 : Int32) (p3 : Int32) (p4 : Int32) (p5 : Int32) (Q : (Nat → Int32) → Prop) (hw : P_X4_beams p1 p2 p3 p4 p5 s_r0 Q) : Met l yX4_beams (Cond.code yX4_beams cX4_beams 7 none :: TBL) rm_X4_beams (gPc (dC, dI) vwCl (gTy cI cJ) [.ref r0, .int p1, .int p2, .int p3, .int p4, .int p5] [(r0, .inl (cI, 87, .inl s_r0))] sz) (va_Qv (fun (u : (Nat → Int32)) => Q u) (gB (dC, dI) vwCl (gTy cI cJ) (va_A [(r0, .inl (cI, 87, .inl s_r0))] sz) (fun (u : (Nat → Int32)) => [(r0, .inl (cI, 87, .inl u))])) (va_A [(r0, .inl (cI, 87, .inl s_r0))] sz)) 0 0 (va_A [(r0, .inl (cI, 87, .inl s_r0))] sz) := by
  refine Met.ofW (cc := cX4_beams) (maxL := 7) (ret := none) (by decide) rfl ?_
  intro p e s m args below meth c s₁ B hml hv
  obtain ⟨rfl, hsz, hP, hK, hD0⟩ := hv
  have hx := B.exec
  have hb := B.bytes
  have hr := B.returns
  have hts := atoms_spec (ws := Cond.code yX4_beams cX4_beams 7 none :: TBL) B.pre
  have ht : ∀ w ∈ TBL, w.before ([.ref r0, .int p1, .int p2, .int p3, .int p4, .int p5] : List Value).toArray s = true := fun w h => hts w (List.mem_cons_of_mem _ h)
  clear hts
  have hown : s.vm.findClass RX4 = some m.cls := findClass_of_methodNamed B.named
  have hlocks := B.notSynchronized
  clear B
  subst hsz
  have hD := hD0.self (sz := s.heap.size)
  clear hD0
  generalize hAe : va_A [(r0, .inl (cI, 87, .inl s_r0))] s.heap.size = A at hD ⊢
  have hA : ∀ q : Nat, s.heap.size ≤ q → A q := fun q h => by rw [← hAe]; exact Or.inr h
  clear hAe
  have hS : va_S A s.heap s.heap [] := va_S.rf
  have hP : va_P (dC, dI) vwCl [(r0, .inl (cI, 87, .inl s_r0))] s.heap := hP
  have hl := lv_entry ([.ref r0, .int p1, .int p2, .int p3, .int p4, .int p5]) (n := 7) (Nat.le_of_ble_eq_true rfl)
  rw [lg_entry_eq]
  generalize (lg_sl ([.ref r0, .int p1, .int p2, .int p3, .int p4, .int p5]) ++ List.replicate (7 - (lg_sl ([.ref r0, .int p1, .int p2, .int p3, .int p4, .int p5])).length) Slot.unset).toArray = ls at hl ⊢
  have hl : lv_has ls 7 [(0, .ref r0), (1, .int p1), (2, .int p2), (3, .int p3), (4, .int p4), (5, .int p5)] := hl
  generalize hQQ : MQ below _ _ _ 0 0 A = QQ
  show W p l e rm_X4_beams s m ([.ref r0, .int p1, .int p2, .int p3, .int p4, .int p5] : List Value).toArray below meth c s.heap [] 0 0 QQ (F0 m 0 ls [])
  obtain ⟨H, hHH⟩ : ∃ H, H = s.heap := ⟨_, rfl⟩
  rw [← hHH] at hP ⊢
  have hS : va_S A s.heap H [] := by rw [hHH]; exact hS
  clear hHH
  generalize ([] : List Loc) = locs at hS ⊢
  unfold P_X4_beams at hw
  refine lv_bipush (v := 52) hx hb dX4_beams_0 (by decide) ?_
  refine lv_iconst (v := 5) hx hb dX4_beams_2 (by decide) ?_
  refine lv_aload_n hx hb dX4_beams_3 rfl (lv_at hl 0 rfl) ?_
  refine lv_iconst (v := 3) hx hb dX4_beams_4 (by decide) ?_
  refine gv_iald hx hb hK hP 0 0 rfl rfl (k := 3) (by decide) (by unfold vp_in; decide) dX4_beams_5 ?_
  refine lv_imul hx hb dX4_beams_6 ?_
  refine lv_iadd hx hb dX4_beams_7 ?_
  refine lv_istore (lv' := [(6, .int (52 + (5 * (s_r0 3)))), (0, .ref r0), (1, .int p1), (2, .int p2), (3, .int p3), (4, .int p4), (5, .int p5)]) hx hb dX4_beams_8 hl (by decide) rfl (fun ls hl => ?_)
  refine lv_aload_n hx hb dX4_beams_10 rfl (lv_at hl 1 rfl) ?_
  refine lv_iload hx hb dX4_beams_11 (lv_at hl 0 rfl) ?_
  refine lv_iload_n hx hb dX4_beams_13 rfl (lv_at hl 2 rfl) ?_
  obtain ⟨hi_1, hw⟩ := hw
  refine gv_iast hx hb hK hP hD hS 0 0 rfl rfl rfl hi_1 dX4_beams_14 (fun H locs hP hD hS => ?_)
  have hP : va_P (dC, dI) vwCl [(r0, .inl (cI, 87, .inl (upd s_r0 ((52 + (5 * (s_r0 3))).toNatClampNeg) p1)))] H := hP
  have hD : va_D A [(r0, .inl (cI, 87, .inl (upd s_r0 ((52 + (5 * (s_r0 3))).toNatClampNeg) p1)))] := hD
  refine lv_aload_n hx hb dX4_beams_15 rfl (lv_at hl 1 rfl) ?_
  refine lv_iload hx hb dX4_beams_16 (lv_at hl 0 rfl) ?_
  refine lv_iconst (v := 1) hx hb dX4_beams_18 (by decide) ?_
  refine lv_iadd hx hb dX4_beams_19 ?_
  refine lv_iload_n hx hb dX4_beams_20 rfl (lv_at hl 3 rfl) ?_
  obtain ⟨hi_2, hw⟩ := hw
  refine gv_iast hx hb hK hP hD hS 0 0 rfl rfl rfl hi_2 dX4_beams_21 (fun H locs hP hD hS => ?_)
  have hP : va_P (dC, dI) vwCl [(r0, .inl (cI, 87, .inl (upd (upd s_r0 ((52 + (5 * (s_r0 3))).toNatClampNeg) p1) (((52 + (5 * (s_r0 3))) + 1).toNatClampNeg) p2)))] H := hP
  have hD : va_D A [(r0, .inl (cI, 87, .inl (upd (upd s_r0 ((52 + (5 * (s_r0 3))).toNatClampNeg) p1) (((52 + (5 * (s_r0 3))) + 1).toNatClampNeg) p2)))] := hD
  refine lv_aload_n hx hb dX4_beams_22 rfl (lv_at hl 1 rfl) ?_
  refine lv_iload hx hb dX4_beams_23 (lv_at hl 0 rfl) ?_
  refine lv_iconst (v := 2) hx hb dX4_beams_25 (by decide) ?_
  refine lv_iadd hx hb dX4_beams_26 ?_
  refine lv_iload_n hx hb dX4_beams_27 rfl (lv_at hl 4 rfl) ?_
  obtain ⟨hi_3, hw⟩ := hw
  refine gv_iast hx hb hK hP hD hS 0 0 rfl rfl rfl hi_3 dX4_beams_28 (fun H locs hP hD hS => ?_)
  have hP : va_P (dC, dI) vwCl [(r0, .inl (cI, 87, .inl (upd (upd (upd s_r0 ((52 + (5 * (s_r0 3))).toNatClampNeg) p1) (((52 + (5 * (s_r0 3))) + 1).toNatClampNeg) p2) (((52 + (5 * (s_r0 3))) + 2).toNatClampNeg) p3)))] H := hP
  have hD : va_D A [(r0, .inl (cI, 87, .inl (upd (upd (upd s_r0 ((52 + (5 * (s_r0 3))).toNatClampNeg) p1) (((52 + (5 * (s_r0 3))) + 1).toNatClampNeg) p2) (((52 + (5 * (s_r0 3))) + 2).toNatClampNeg) p3)))] := hD
  refine lv_aload_n hx hb dX4_beams_29 rfl (lv_at hl 1 rfl) ?_
  refine lv_iload hx hb dX4_beams_30 (lv_at hl 0 rfl) ?_
  refine lv_iconst (v := 3) hx hb dX4_beams_32 (by decide) ?_
  refine lv_iadd hx hb dX4_beams_33 ?_
  refine lv_iload hx hb dX4_beams_34 (lv_at hl 5 rfl) ?_
  obtain ⟨hi_4, hw⟩ := hw
  refine gv_iast hx hb hK hP hD hS 0 0 rfl rfl rfl hi_4 dX4_beams_36 (fun H locs hP hD hS => ?_)
  have hP : va_P (dC, dI) vwCl [(r0, .inl (cI, 87, .inl (upd (upd (upd (upd s_r0 ((52 + (5 * (s_r0 3))).toNatClampNeg) p1) (((52 + (5 * (s_r0 3))) + 1).toNatClampNeg) p2) (((52 + (5 * (s_r0 3))) + 2).toNatClampNeg) p3) (((52 + (5 * (s_r0 3))) + 3).toNatClampNeg) p4)))] H := hP
  have hD : va_D A [(r0, .inl (cI, 87, .inl (upd (upd (upd (upd s_r0 ((52 + (5 * (s_r0 3))).toNatClampNeg) p1) (((52 + (5 * (s_r0 3))) + 1).toNatClampNeg) p2) (((52 + (5 * (s_r0 3))) + 2).toNatClampNeg) p3) (((52 + (5 * (s_r0 3))) + 3).toNatClampNeg) p4)))] := hD
  refine lv_aload_n hx hb dX4_beams_37 rfl (lv_at hl 1 rfl) ?_
  refine lv_iload hx hb dX4_beams_38 (lv_at hl 0 rfl) ?_
  refine lv_iconst (v := 4) hx hb dX4_beams_40 (by decide) ?_
  refine lv_iadd hx hb dX4_beams_41 ?_
  refine lv_iload hx hb dX4_beams_42 (lv_at hl 6 rfl) ?_
  obtain ⟨hi_5, hw⟩ := hw
  refine gv_iast hx hb hK hP hD hS 0 0 rfl rfl rfl hi_5 dX4_beams_44 (fun H locs hP hD hS => ?_)
  have hP : va_P (dC, dI) vwCl [(r0, .inl (cI, 87, .inl (upd (upd (upd (upd (upd s_r0 ((52 + (5 * (s_r0 3))).toNatClampNeg) p1) (((52 + (5 * (s_r0 3))) + 1).toNatClampNeg) p2) (((52 + (5 * (s_r0 3))) + 2).toNatClampNeg) p3) (((52 + (5 * (s_r0 3))) + 3).toNatClampNeg) p4) (((52 + (5 * (s_r0 3))) + 4).toNatClampNeg) p5)))] H := hP
  have hD : va_D A [(r0, .inl (cI, 87, .inl (upd (upd (upd (upd (upd s_r0 ((52 + (5 * (s_r0 3))).toNatClampNeg) p1) (((52 + (5 * (s_r0 3))) + 1).toNatClampNeg) p2) (((52 + (5 * (s_r0 3))) + 2).toNatClampNeg) p3) (((52 + (5 * (s_r0 3))) + 3).toNatClampNeg) p4) (((52 + (5 * (s_r0 3))) + 4).toNatClampNeg) p5)))] := hD
  refine lv_aload_n hx hb dX4_beams_45 rfl (lv_at hl 1 rfl) ?_
  refine lv_iconst (v := 3) hx hb dX4_beams_46 (by decide) ?_
  refine lv_dup2_11 hx hb dX4_beams_47 rfl rfl ?_
  refine gv_iald hx hb hK hP 0 0 rfl rfl (k := 3) (by decide) (by unfold vp_in; decide) dX4_beams_48 ?_
  refine lv_iconst (v := 1) hx hb dX4_beams_49 (by decide) ?_
  refine lv_iadd hx hb dX4_beams_50 ?_
  refine gv_iast hx hb hK hP hD hS 0 0 rfl rfl (k := 3) (by decide) (by unfold vp_in; decide) dX4_beams_51 (fun H locs hP hD hS => ?_)
  have hP : va_P (dC, dI) vwCl [(r0, .inl (cI, 87, .inl (upd (upd (upd (upd (upd (upd s_r0 ((52 + (5 * (s_r0 3))).toNatClampNeg) p1) (((52 + (5 * (s_r0 3))) + 1).toNatClampNeg) p2) (((52 + (5 * (s_r0 3))) + 2).toNatClampNeg) p3) (((52 + (5 * (s_r0 3))) + 3).toNatClampNeg) p4) (((52 + (5 * (s_r0 3))) + 4).toNatClampNeg) p5) 3 (((upd (upd (upd (upd (upd s_r0 ((52 + (5 * (s_r0 3))).toNatClampNeg) p1) (((52 + (5 * (s_r0 3))) + 1).toNatClampNeg) p2) (((52 + (5 * (s_r0 3))) + 2).toNatClampNeg) p3) (((52 + (5 * (s_r0 3))) + 3).toNatClampNeg) p4) (((52 + (5 * (s_r0 3))) + 4).toNatClampNeg) p5) 3) + 1))))] H := hP
  have hD : va_D A [(r0, .inl (cI, 87, .inl (upd (upd (upd (upd (upd (upd s_r0 ((52 + (5 * (s_r0 3))).toNatClampNeg) p1) (((52 + (5 * (s_r0 3))) + 1).toNatClampNeg) p2) (((52 + (5 * (s_r0 3))) + 2).toNatClampNeg) p3) (((52 + (5 * (s_r0 3))) + 3).toNatClampNeg) p4) (((52 + (5 * (s_r0 3))) + 4).toNatClampNeg) p5) 3 (((upd (upd (upd (upd (upd s_r0 ((52 + (5 * (s_r0 3))).toNatClampNeg) p1) (((52 + (5 * (s_r0 3))) + 1).toNatClampNeg) p2) (((52 + (5 * (s_r0 3))) + 2).toNatClampNeg) p3) (((52 + (5 * (s_r0 3))) + 3).toNatClampNeg) p4) (((52 + (5 * (s_r0 3))) + 4).toNatClampNeg) p5) 3) + 1))))] := hD
  rw [← hQQ]
  exact g_retv (u := (upd (upd (upd (upd (upd (upd s_r0 ((52 + (5 * (s_r0 3))).toNatClampNeg) p1) (((52 + (5 * (s_r0 3))) + 1).toNatClampNeg) p2) (((52 + (5 * (s_r0 3))) + 2).toNatClampNeg) p3) (((52 + (5 * (s_r0 3))) + 3).toNatClampNeg) p4) (((52 + (5 * (s_r0 3))) + 4).toNatClampNeg) p5) 3 (((upd (upd (upd (upd (upd s_r0 ((52 + (5 * (s_r0 3))).toNatClampNeg) p1) (((52 + (5 * (s_r0 3))) + 1).toNatClampNeg) p2) (((52 + (5 * (s_r0 3))) + 2).toNatClampNeg) p3) (((52 + (5 * (s_r0 3))) + 3).toNatClampNeg) p4) (((52 + (5 * (s_r0 3))) + 4).toNatClampNeg) p5) 3) + 1))) hx hb hr hlocks hw hP hK hD hS dX4_beams_52
abbrev rm_X4_unlights : Room := { frames := 0, cells := 0, slots := 0, locals := 0 }
set_option maxHeartbeats 4000000 in
set_option maxRecDepth 100000 in
theorem c_X4_unlights (l : Launch) (dC : Nat → ClassId) (dI : Nat → Nat → Nat) (cI cJ : ClassId) (r0 : Nat) (sz : Nat) (s_r0 : Nat → Int32) (p1 : Int32) (Q : (Nat → Int32) → Prop) (hw : P_X4_unlights p1 s_r0 Q) : Met l yX4_unlights (Cond.code yX4_unlights cX4_unlights 3 none :: TBL) rm_X4_unlights (gPc (dC, dI) vwCl (gTy cI cJ) [.ref r0, .int p1] [(r0, .inl (cI, 87, .inl s_r0))] sz) (va_Qv (fun (u : (Nat → Int32)) => Q u) (gB (dC, dI) vwCl (gTy cI cJ) (va_A [(r0, .inl (cI, 87, .inl s_r0))] sz) (fun (u : (Nat → Int32)) => [(r0, .inl (cI, 87, .inl u))])) (va_A [(r0, .inl (cI, 87, .inl s_r0))] sz)) 0 0 (va_A [(r0, .inl (cI, 87, .inl s_r0))] sz) := by
  refine Met.ofW (cc := cX4_unlights) (maxL := 3) (ret := none) (by decide) rfl ?_
  intro p e s m args below meth c s₁ B hml hv
  obtain ⟨rfl, hsz, hP, hK, hD0⟩ := hv
  have hx := B.exec
  have hb := B.bytes
  have hr := B.returns
  have hts := atoms_spec (ws := Cond.code yX4_unlights cX4_unlights 3 none :: TBL) B.pre
  have ht : ∀ w ∈ TBL, w.before ([.ref r0, .int p1] : List Value).toArray s = true := fun w h => hts w (List.mem_cons_of_mem _ h)
  clear hts
  have hown : s.vm.findClass RX4 = some m.cls := findClass_of_methodNamed B.named
  have hlocks := B.notSynchronized
  clear B
  subst hsz
  have hD := hD0.self (sz := s.heap.size)
  clear hD0
  generalize hAe : va_A [(r0, .inl (cI, 87, .inl s_r0))] s.heap.size = A at hD ⊢
  have hA : ∀ q : Nat, s.heap.size ≤ q → A q := fun q h => by rw [← hAe]; exact Or.inr h
  clear hAe
  have hS : va_S A s.heap s.heap [] := va_S.rf
  have hP : va_P (dC, dI) vwCl [(r0, .inl (cI, 87, .inl s_r0))] s.heap := hP
  have hl := lv_entry ([.ref r0, .int p1]) (n := 3) (Nat.le_of_ble_eq_true rfl)
  rw [lg_entry_eq]
  generalize (lg_sl ([.ref r0, .int p1]) ++ List.replicate (3 - (lg_sl ([.ref r0, .int p1])).length) Slot.unset).toArray = ls at hl ⊢
  have hl : lv_has ls 3 [(0, .ref r0), (1, .int p1)] := hl
  generalize hQQ : MQ below _ _ _ 0 0 A = QQ
  show W p l e rm_X4_unlights s m ([.ref r0, .int p1] : List Value).toArray below meth c s.heap [] 0 0 QQ (F0 m 0 ls [])
  have L14 : ∀ (n : Nat) (x2 : Int32) (s_r0 : Nat → Int32), P_X4_unlights_L14 Q n x2 s_r0 → ∀ (H : Heap) (locs : List Loc) (ls : Array Slot), va_P (dC, dI) vwCl [(r0, .inl (cI, 87, .inl s_r0))] H → va_D A [(r0, .inl (cI, 87, .inl s_r0))] → va_S A s.heap H locs → lv_has ls 3 [(0, .ref r0), (2, .int x2)] → W p l e rm_X4_unlights s m ([.ref r0, .int p1] : List Value).toArray below meth c H locs 0 0 QQ (F0 m 14 ls []) := by
    intro n
    induction n with
    | zero => intro x2 s_r0 hw; rw [P_X4_unlights_L14_z] at hw; exact hw.elim
    | succ n ih =>
      intro x2 s_r0 hw
      rw [P_X4_unlights_L14_s] at hw
      generalize hrec : P_X4_unlights_L14 Q n = rec14 at ih hw
      intro H locs ls hP hD hS hl
      unfold B_X4_unlights_L14 at hw
      refine lv_iload_n hx hb dX4_unlights_14 rfl (lv_at hl 1 rfl) ?_
      refine lv_bipush (v := 52) hx hb dX4_unlights_15 (by decide) ?_
      refine lv_iconst (v := 5) hx hb dX4_unlights_17 (by decide) ?_
      refine lv_aload_n hx hb dX4_unlights_18 rfl (lv_at hl 0 rfl) ?_
      refine lv_iconst (v := 3) hx hb dX4_unlights_19 (by decide) ?_
      refine gv_iald hx hb hK hP 0 0 rfl rfl (k := 3) (by decide) (by unfold vp_in; decide) dX4_unlights_20 ?_
      refine lv_imul hx hb dX4_unlights_21 ?_
      refine lv_iadd hx hb dX4_unlights_22 ?_
      refine lv_icmp_ge (tgt := 40) hx hb dX4_unlights_23 (by decide) (fun hc => ?_) (fun hc => ?_)
      · have hw := hw.1 hc
        rw [← hQQ]
        exact g_retv (u := s_r0) hx hb hr hlocks hw hP hK hD hS dX4_unlights_40
      · have hw := hw.2 hc
        refine lv_aload_n hx hb dX4_unlights_26 rfl (lv_at hl 0 rfl) ?_
        refine lv_iload_n hx hb dX4_unlights_27 rfl (lv_at hl 1 rfl) ?_
        refine lv_aload_n hx hb dX4_unlights_28 rfl (lv_at hl 0 rfl) ?_
        refine lv_iload_n hx hb dX4_unlights_29 rfl (lv_at hl 1 rfl) ?_
        refine lv_iconst (v := 5) hx hb dX4_unlights_30 (by decide) ?_
        refine lv_iadd hx hb dX4_unlights_31 ?_
        obtain ⟨hi_1, hw⟩ := hw
        refine gv_iald hx hb hK hP 0 0 rfl rfl rfl hi_1 dX4_unlights_32 ?_
        obtain ⟨hi_2, hw⟩ := hw
        refine gv_iast hx hb hK hP hD hS 0 0 rfl rfl rfl hi_2 dX4_unlights_33 (fun H locs hP hD hS => ?_)
        have hP : va_P (dC, dI) vwCl [(r0, .inl (cI, 87, .inl (upd s_r0 x2.toNatClampNeg (s_r0 ((x2 + 5).toNatClampNeg)))))] H := hP
        have hD : va_D A [(r0, .inl (cI, 87, .inl (upd s_r0 x2.toNatClampNeg (s_r0 ((x2 + 5).toNatClampNeg)))))] := hD
        refine lv_iinc (v := (x2 + 1)) (lv' := [(2, .int (x2 + 1)), (0, .ref r0)]) hx hb dX4_unlights_34 hl (k := 1) rfl rfl (by decide) rfl (fun ls hl => ?_)
        refine lv_goto (tgt := 14) hx hb dX4_unlights_37 (by decide) ?_
        exact ih (x2 + 1) (upd s_r0 x2.toNatClampNeg (s_r0 ((x2 + 5).toNatClampNeg))) hw H locs ls hP hD hS (lv_sub (l' := [(0, .ref r0), (2, .int (x2 + 1))]) hl [1, 0] rfl)
  obtain ⟨H, hHH⟩ : ∃ H, H = s.heap := ⟨_, rfl⟩
  rw [← hHH] at hP ⊢
  have hS : va_S A s.heap H [] := by rw [hHH]; exact hS
  clear hHH
  generalize ([] : List Loc) = locs at hS ⊢
  unfold P_X4_unlights at hw
  refine lv_aload_n hx hb dX4_unlights_0 rfl (lv_at hl 0 rfl) ?_
  refine lv_iconst (v := 3) hx hb dX4_unlights_1 (by decide) ?_
  refine lv_dup2_11 hx hb dX4_unlights_2 rfl rfl ?_
  refine gv_iald hx hb hK hP 0 0 rfl rfl (k := 3) (by decide) (by unfold vp_in; decide) dX4_unlights_3 ?_
  refine lv_iconst (v := 1) hx hb dX4_unlights_4 (by decide) ?_
  refine lv_isub hx hb dX4_unlights_5 ?_
  refine gv_iast hx hb hK hP hD hS 0 0 rfl rfl (k := 3) (by decide) (by unfold vp_in; decide) dX4_unlights_6 (fun H locs hP hD hS => ?_)
  have hP : va_P (dC, dI) vwCl [(r0, .inl (cI, 87, .inl (upd s_r0 3 ((s_r0 3) - 1))))] H := hP
  have hD : va_D A [(r0, .inl (cI, 87, .inl (upd s_r0 3 ((s_r0 3) - 1))))] := hD
  refine lv_bipush (v := 52) hx hb dX4_unlights_7 (by decide) ?_
  refine lv_iconst (v := 5) hx hb dX4_unlights_9 (by decide) ?_
  refine lv_iload_n hx hb dX4_unlights_10 rfl (lv_at hl 1 rfl) ?_
  refine lv_imul hx hb dX4_unlights_11 ?_
  refine lv_iadd hx hb dX4_unlights_12 ?_
  refine lv_istore_n (lv' := [(2, .int (52 + (5 * p1))), (0, .ref r0), (1, .int p1)]) hx hb dX4_unlights_13 rfl hl (by decide) rfl (fun ls hl => ?_)
  obtain ⟨n, hw⟩ := hw
  exact L14  n (52 + (5 * p1)) (upd s_r0 3 ((s_r0 3) - 1)) hw H locs ls hP hD hS (lv_sub (l' := [(0, .ref r0), (2, .int (52 + (5 * p1)))]) hl [1, 0] rfl)
abbrev rm_X4_beam : Room := { frames := 3, cells := 0, slots := 0, locals := 67 }
set_option maxHeartbeats 4000000 in
set_option maxRecDepth 100000 in
theorem c_X4_beam (l : Launch) (dC : Nat → ClassId) (dI : Nat → Nat → Nat) (cI cJ : ClassId) (o o_now o_then o_past o_text o_told o_lit o_whole o_goes o_latest : Nat) (sz : Nat) (s_now : Nat → Int32) (s_past : Nat → Int32) (s_kept : Int32) (s_thrown : Int32) (s_isLaid : Int32) (s_typed : Int32) (s_at : Int32) (s_isFault : Int32) (s_value : Int32) (s_tolds : Int32) (p0 : Int32) (p1 : Int32) (p2 : Int32) (p3 : Int32) (p4 : Int32) (Q : Int32 → (Nat → Int32) → (Nat → Int32) → Int32 → Int32 → Int32 → Prop) (hw : P_X4_beam p0 p1 p2 p3 p4 s_now s_past s_kept s_thrown s_isLaid Q) : Met l yX4_beam (Cond.code yX4_beam cX4_beam 6 (some .int) :: TBL) rm_X4_beam (gPc (dC, dI) vwCl (gTy cI cJ) [.ref o, .int p0, .int p1, .int p2, .int p3, .int p4] [(o, .inr (4, [.ref o_now, .ref o_then, .ref o_past, .int s_kept, .ref o_text, .int s_typed, .int s_thrown, .int s_at, .int s_isFault, .int s_value, .ref o_told, .int s_tolds, .ref o_lit, .ref o_whole, .ref o_goes, .int s_isLaid, .ref o_latest])), (o_now, .inl (cI, 87, .inl s_now)), (o_past, .inl (cI, 522, .inl s_past))] sz) (va_Qi (fun (r : Int32) (u : (Nat → Int32) × (Nat → Int32) × Int32 × Int32 × Int32) => Q r u.1 u.2.1 u.2.2.1 u.2.2.2.1 u.2.2.2.2) (gB (dC, dI) vwCl (gTy cI cJ) (va_A [(o, .inr (4, [.ref o_now, .ref o_then, .ref o_past, .int s_kept, .ref o_text, .int s_typed, .int s_thrown, .int s_at, .int s_isFault, .int s_value, .ref o_told, .int s_tolds, .ref o_lit, .ref o_whole, .ref o_goes, .int s_isLaid, .ref o_latest])), (o_now, .inl (cI, 87, .inl s_now)), (o_past, .inl (cI, 522, .inl s_past))] sz) (fun (u : (Nat → Int32) × (Nat → Int32) × Int32 × Int32 × Int32) => [(o, .inr (4, [.ref o_now, .ref o_then, .ref o_past, .int u.2.2.1, .ref o_text, .int s_typed, .int u.2.2.2.1, .int s_at, .int s_isFault, .int s_value, .ref o_told, .int s_tolds, .ref o_lit, .ref o_whole, .ref o_goes, .int u.2.2.2.2, .ref o_latest])), (o_now, .inl (cI, 87, .inl u.1)), (o_past, .inl (cI, 522, .inl u.2.1))])) (va_A [(o, .inr (4, [.ref o_now, .ref o_then, .ref o_past, .int s_kept, .ref o_text, .int s_typed, .int s_thrown, .int s_at, .int s_isFault, .int s_value, .ref o_told, .int s_tolds, .ref o_lit, .ref o_whole, .ref o_goes, .int s_isLaid, .ref o_latest])), (o_now, .inl (cI, 87, .inl s_now)), (o_past, .inl (cI, 522, .inl s_past))] sz)) 0 0 (va_A [(o, .inr (4, [.ref o_now, .ref o_then, .ref o_past, .int s_kept, .ref o_text, .int s_typed, .int s_thrown, .int s_at, .int s_isFault, .int s_value, .ref o_told, .int s_tolds, .ref o_lit, .ref o_whole, .ref o_goes, .int s_isLaid, .ref o_latest])), (o_now, .inl (cI, 87, .inl s_now)), (o_past, .inl (cI, 522, .inl s_past))] sz) := by
  refine Met.ofW (cc := cX4_beam) (maxL := 6) (ret := (some .int)) (by decide) rfl ?_
  intro p e s m args below meth c s₁ B hml hv
  obtain ⟨rfl, hsz, hP, hK, hD0⟩ := hv
  have hx := B.exec
  have hb := B.bytes
  have hr := B.returns
  have hts := atoms_spec (ws := Cond.code yX4_beam cX4_beam 6 (some .int) :: TBL) B.pre
  have ht : ∀ w ∈ TBL, w.before ([.ref o, .int p0, .int p1, .int p2, .int p3, .int p4] : List Value).toArray s = true := fun w h => hts w (List.mem_cons_of_mem _ h)
  clear hts
  have hown : s.vm.findClass RX4 = some m.cls := findClass_of_methodNamed B.named
  have hlocks := B.notSynchronized
  clear B
  subst hsz
  have hD := hD0.self (sz := s.heap.size)
  clear hD0
  generalize hAe : va_A [(o, .inr (4, [.ref o_now, .ref o_then, .ref o_past, .int s_kept, .ref o_text, .int s_typed, .int s_thrown, .int s_at, .int s_isFault, .int s_value, .ref o_told, .int s_tolds, .ref o_lit, .ref o_whole, .ref o_goes, .int s_isLaid, .ref o_latest])), (o_now, .inl (cI, 87, .inl s_now)), (o_past, .inl (cI, 522, .inl s_past))] s.heap.size = A at hD ⊢
  have hA : ∀ q : Nat, s.heap.size ≤ q → A q := fun q h => by rw [← hAe]; exact Or.inr h
  clear hAe
  have hS : va_S A s.heap s.heap [] := va_S.rf
  have hP : va_P (dC, dI) vwCl [(o, .inr (4, [.ref o_now, .ref o_then, .ref o_past, .int s_kept, .ref o_text, .int s_typed, .int s_thrown, .int s_at, .int s_isFault, .int s_value, .ref o_told, .int s_tolds, .ref o_lit, .ref o_whole, .ref o_goes, .int s_isLaid, .ref o_latest])), (o_now, .inl (cI, 87, .inl s_now)), (o_past, .inl (cI, 522, .inl s_past))] s.heap := hP
  have hl := lv_entry ([.ref o, .int p0, .int p1, .int p2, .int p3, .int p4]) (n := 6) (Nat.le_of_ble_eq_true rfl)
  rw [lg_entry_eq]
  generalize (lg_sl ([.ref o, .int p0, .int p1, .int p2, .int p3, .int p4]) ++ List.replicate (6 - (lg_sl ([.ref o, .int p0, .int p1, .int p2, .int p3, .int p4])).length) Slot.unset).toArray = ls at hl ⊢
  have hl : lv_has ls 6 [(0, .ref o), (1, .int p0), (2, .int p1), (3, .int p2), (4, .int p3), (5, .int p4)] := hl
  generalize hQQ : MQ below _ _ _ 0 0 A = QQ
  show W p l e rm_X4_beam s m ([.ref o, .int p0, .int p1, .int p2, .int p3, .int p4] : List Value).toArray below meth c s.heap [] 0 0 QQ (F0 m 0 ls [])
  obtain ⟨H, hHH⟩ : ∃ H, H = s.heap := ⟨_, rfl⟩
  rw [← hHH] at hP ⊢
  have hS : va_S A s.heap H [] := by rw [hHH]; exact hS
  clear hHH
  generalize ([] : List Loc) = locs at hS ⊢
  unfold P_X4_beam at hw
  refine lv_aload_n hx hb dX4_beam_0 rfl (lv_at hl 0 rfl) ?_
  refine lv_aload_n hx hb dX4_beam_1 rfl (lv_at hl 0 rfl) ?_
  refine lv_iload_n hx hb dX4_beam_2 rfl (lv_at hl 1 rfl) ?_
  refine lv_iload_n hx hb dX4_beam_3 rfl (lv_at hl 2 rfl) ?_
  refine lv_iload_n hx hb dX4_beam_4 rfl (lv_at hl 3 rfl) ?_
  refine lv_iload hx hb dX4_beam_5 (lv_at hl 4 rfl) ?_
  refine lv_iload hx hb dX4_beam_7 (lv_at hl 5 rfl) ?_
  refine gc_Vi (As := [.int p0, .int p1, .int p2, .int p3, .int p4]) (rest := [.ref o]) (wr := [(o_past, .inl (cI, 522, .inl s_past))]) ⟨hx, hb, hml, hown, ht⟩ (c_X4_mayBeam l dC dI cI cJ o o_now o_then o_past o_text o_told o_lit o_whole o_goes o_latest H.size s_now s_kept s_typed s_thrown s_at s_isFault s_value s_tolds s_isLaid p0 p1 p2 p3 p4 _ hw) (cwV 5 ht (g_V k_934 k_936 k_s43 k_5 k_937) rfl rfl rfl (by decide +kernel) ⟨(Nat.le_of_ble_eq_true rfl), (Nat.le_of_ble_eq_true rfl)⟩) hK hP hD hS hA [0, 1] [2] rfl rfl (by decide) 0 rfl rfl rfl rfl hl.1 rfl (Nat.le_of_ble_eq_true rfl) ⟨(Nat.le_of_ble_eq_true rfl), (Nat.le_of_ble_eq_true rfl)⟩ dX4_beam_9 (fun r_1 u H locs hw hP hD hS => ?_)
  try dsimp only at hw
  have hP : va_P (dC, dI) vwCl [(o_past, .inl (cI, 522, .inl s_past)), (o, .inr (4, [.ref o_now, .ref o_then, .ref o_past, .int s_kept, .ref o_text, .int s_typed, .int s_thrown, .int s_at, .int s_isFault, .int s_value, .ref o_told, .int s_tolds, .ref o_lit, .ref o_whole, .ref o_goes, .int s_isLaid, .ref o_latest])), (o_now, .inl (cI, 87, .inl s_now))] H := hP
  have hD : va_D A [(o_past, .inl (cI, 522, .inl s_past)), (o, .inr (4, [.ref o_now, .ref o_then, .ref o_past, .int s_kept, .ref o_text, .int s_typed, .int s_thrown, .int s_at, .int s_isFault, .int s_value, .ref o_told, .int s_tolds, .ref o_lit, .ref o_whole, .ref o_goes, .int s_isLaid, .ref o_latest])), (o_now, .inl (cI, 87, .inl s_now))] := hD
  refine va_put (D := (dC, dI)) (ci := 4) (v := .int r_1) (ty := .int) (C := RX4) (T := TX4) (N := 17) hx hb ht i_X4 tyX4 tyX4_ok nmX4 hown hK hP hD hS 1 rfl rfl 6 (by decide) (ht _ k_824) (fun _ h9 => h9) rfl (by decide +kernel) rfl rfl (Nat.le_of_ble_eq_true rfl) dX4_beam_12 (fun H locs hP hD hS => ?_)
  have hP : va_P (dC, dI) vwCl [(o_past, .inl (cI, 522, .inl s_past)), (o, .inr (4, [.ref o_now, .ref o_then, .ref o_past, .int s_kept, .ref o_text, .int s_typed, .int r_1, .int s_at, .int s_isFault, .int s_value, .ref o_told, .int s_tolds, .ref o_lit, .ref o_whole, .ref o_goes, .int s_isLaid, .ref o_latest])), (o_now, .inl (cI, 87, .inl s_now))] H := hP
  have hD : va_D A [(o_past, .inl (cI, 522, .inl s_past)), (o, .inr (4, [.ref o_now, .ref o_then, .ref o_past, .int s_kept, .ref o_text, .int s_typed, .int r_1, .int s_at, .int s_isFault, .int s_value, .ref o_told, .int s_tolds, .ref o_lit, .ref o_whole, .ref o_goes, .int s_isLaid, .ref o_latest])), (o_now, .inl (cI, 87, .inl s_now))] := hD
  refine lv_aload_n hx hb dX4_beam_15 rfl (lv_at hl 0 rfl) ?_
  refine va_get (D := (dC, dI)) (ci := 4) (v := .int r_1) (C := RX4) (T := TX4) (N := 17) hx hb ht i_X4 hown hK hP 1 rfl rfl 6 (by decide) (ht _ k_824) (fun _ h9 => h9) rfl dX4_beam_16 ?_
  refine lv_if_eq (tgt := 24) hx hb dX4_beam_19 (by decide) (fun hc => ?_) (fun hc => ?_)
  · have hw := hw.1 hc
    refine lv_aload_n hx hb dX4_beam_24 rfl (lv_at hl 0 rfl) ?_
    refine gc_Vv (As := []) (rest := []) (wr := []) ⟨hx, hb, hml, hown, ht⟩ (c_X4_saves l dC dI cI cJ o o_now o_then o_past o_text o_told o_lit o_whole o_goes o_latest H.size s_now s_past s_kept s_isLaid s_typed r_1 s_at s_isFault s_value s_tolds _ hw) (cwV 0 ht (g_V k_902 k_904 k_s39 k_5 k_905) rfl rfl rfl (by decide +kernel) ⟨(Nat.le_of_ble_eq_true rfl), (Nat.le_of_ble_eq_true rfl)⟩) hK hP hD hS hA [1, 2, 0] [] rfl rfl (by decide) 1 rfl rfl rfl rfl hl.1 rfl (Nat.le_of_ble_eq_true rfl) ⟨(Nat.le_of_ble_eq_true rfl), (Nat.le_of_ble_eq_true rfl)⟩ dX4_beam_25 (fun u H locs hw hP hD hS => ?_)
    obtain ⟨s_past_2, s_kept_3, s_isLaid_4⟩ := u
    try dsimp only at hw
    have hP : va_P (dC, dI) vwCl [(o, .inr (4, [.ref o_now, .ref o_then, .ref o_past, .int s_kept_3, .ref o_text, .int s_typed, .int r_1, .int s_at, .int s_isFault, .int s_value, .ref o_told, .int s_tolds, .ref o_lit, .ref o_whole, .ref o_goes, .int s_isLaid_4, .ref o_latest])), (o_now, .inl (cI, 87, .inl s_now)), (o_past, .inl (cI, 522, .inl s_past_2))] H := hP
    have hD : va_D A [(o, .inr (4, [.ref o_now, .ref o_then, .ref o_past, .int s_kept_3, .ref o_text, .int s_typed, .int r_1, .int s_at, .int s_isFault, .int s_value, .ref o_told, .int s_tolds, .ref o_lit, .ref o_whole, .ref o_goes, .int s_isLaid_4, .ref o_latest])), (o_now, .inl (cI, 87, .inl s_now)), (o_past, .inl (cI, 522, .inl s_past_2))] := hD
    refine lv_aload_n hx hb dX4_beam_28 rfl (lv_at hl 0 rfl) ?_
    refine va_get (D := (dC, dI)) (ci := 4) (v := .ref o_now) (C := RX4) (T := TX4) (N := 17) hx hb ht i_X4 hown hK hP 0 rfl rfl 0 (by decide) (ht _ k_818) (fun _ h9 => h9) rfl dX4_beam_29 ?_
    refine lv_iload_n hx hb dX4_beam_32 rfl (lv_at hl 1 rfl) ?_
    refine lv_iload_n hx hb dX4_beam_33 rfl (lv_at hl 2 rfl) ?_
    refine lv_iload_n hx hb dX4_beam_34 rfl (lv_at hl 3 rfl) ?_
    refine lv_iload hx hb dX4_beam_35 (lv_at hl 4 rfl) ?_
    refine lv_iload hx hb dX4_beam_37 (lv_at hl 5 rfl) ?_
    refine gc_Sv (As := [.ref o_now, .int p0, .int p1, .int p2, .int p3, .int p4]) (rest := []) (wr := [(o, .inr (4, [.ref o_now, .ref o_then, .ref o_past, .int s_kept_3, .ref o_text, .int s_typed, .int r_1, .int s_at, .int s_isFault, .int s_value, .ref o_told, .int s_tolds, .ref o_lit, .ref o_whole, .ref o_goes, .int s_isLaid_4, .ref o_latest])), (o_past, .inl (cI, 522, .inl s_past_2))]) ⟨hx, hb, hml, hown, ht⟩ (c_X4_beams l dC dI cI cJ o_now H.size s_now p0 p1 p2 p3 p4 _ hw) (va_cwS 6 ht (g_S k_938 k_939 k_5 k_940) rfl rfl rfl (by decide +kernel) ⟨(Nat.le_of_ble_eq_true rfl), (Nat.le_of_ble_eq_true rfl)⟩) hK hP hD hS hA [1] [0, 2] rfl rfl (by decide) rfl hl.1 rfl (Nat.le_of_ble_eq_true rfl) ⟨(Nat.le_of_ble_eq_true rfl), (Nat.le_of_ble_eq_true rfl)⟩ dX4_beam_39 (fun u H locs hw hP hD hS => ?_)
    obtain ⟨s_now_5, rfl⟩ : ∃ z, z = u := ⟨_, rfl⟩
    try dsimp only at hw
    have hP : va_P (dC, dI) vwCl [(o, .inr (4, [.ref o_now, .ref o_then, .ref o_past, .int s_kept_3, .ref o_text, .int s_typed, .int r_1, .int s_at, .int s_isFault, .int s_value, .ref o_told, .int s_tolds, .ref o_lit, .ref o_whole, .ref o_goes, .int s_isLaid_4, .ref o_latest])), (o_past, .inl (cI, 522, .inl s_past_2)), (o_now, .inl (cI, 87, .inl s_now_5))] H := hP
    have hD : va_D A [(o, .inr (4, [.ref o_now, .ref o_then, .ref o_past, .int s_kept_3, .ref o_text, .int s_typed, .int r_1, .int s_at, .int s_isFault, .int s_value, .ref o_told, .int s_tolds, .ref o_lit, .ref o_whole, .ref o_goes, .int s_isLaid_4, .ref o_latest])), (o_past, .inl (cI, 522, .inl s_past_2)), (o_now, .inl (cI, 87, .inl s_now_5))] := hD
    refine lv_aload_n hx hb dX4_beam_42 rfl (lv_at hl 0 rfl) ?_
    refine va_get (D := (dC, dI)) (ci := 4) (v := .ref o_now) (C := RX4) (T := TX4) (N := 17) hx hb ht i_X4 hown hK hP 0 rfl rfl 0 (by decide) (ht _ k_818) (fun _ h9 => h9) rfl dX4_beam_43 ?_
    refine lv_iconst (v := 3) hx hb dX4_beam_46 (by decide) ?_
    refine gv_iald hx hb hK hP 2 0 rfl rfl (k := 3) (by decide) (by unfold vp_in; decide) dX4_beam_47 ?_
    refine lv_iconst (v := 1) hx hb dX4_beam_48 (by decide) ?_
    refine lv_isub hx hb dX4_beam_49 ?_
    rw [← hQQ]
    exact g_reti (v := ((s_now_5 3) - 1)) (u := (s_now_5, s_past_2, s_kept_3, r_1, s_isLaid_4)) hx hb hr rfl hlocks hw (hP.sub (ws' := [(o, .inr (4, [.ref o_now, .ref o_then, .ref o_past, .int s_kept_3, .ref o_text, .int s_typed, .int r_1, .int s_at, .int s_isFault, .int s_value, .ref o_told, .int s_tolds, .ref o_lit, .ref o_whole, .ref o_goes, .int s_isLaid_4, .ref o_latest])), (o_now, .inl (cI, 87, .inl s_now_5)), (o_past, .inl (cI, 522, .inl s_past_2))]) [0, 2, 1] rfl) hK (hD.sub (ws' := [(o, .inr (4, [.ref o_now, .ref o_then, .ref o_past, .int s_kept_3, .ref o_text, .int s_typed, .int r_1, .int s_at, .int s_isFault, .int s_value, .ref o_told, .int s_tolds, .ref o_lit, .ref o_whole, .ref o_goes, .int s_isLaid_4, .ref o_latest])), (o_now, .inl (cI, 87, .inl s_now_5)), (o_past, .inl (cI, 522, .inl s_past_2))]) [0, 2, 1] (by decide) rfl) hS dX4_beam_50
  · have hw := hw.2 hc
    refine lv_iconst (v := 0) hx hb dX4_beam_22 (by decide) ?_
    rw [← hQQ]
    exact g_reti (v := 0) (u := (s_now, s_past, s_kept, r_1, s_isLaid)) hx hb hr rfl hlocks hw (hP.sub (ws' := [(o, .inr (4, [.ref o_now, .ref o_then, .ref o_past, .int s_kept, .ref o_text, .int s_typed, .int r_1, .int s_at, .int s_isFault, .int s_value, .ref o_told, .int s_tolds, .ref o_lit, .ref o_whole, .ref o_goes, .int s_isLaid, .ref o_latest])), (o_now, .inl (cI, 87, .inl s_now)), (o_past, .inl (cI, 522, .inl s_past))]) [1, 2, 0] rfl) hK (hD.sub (ws' := [(o, .inr (4, [.ref o_now, .ref o_then, .ref o_past, .int s_kept, .ref o_text, .int s_typed, .int r_1, .int s_at, .int s_isFault, .int s_value, .ref o_told, .int s_tolds, .ref o_lit, .ref o_whole, .ref o_goes, .int s_isLaid, .ref o_latest])), (o_now, .inl (cI, 87, .inl s_now)), (o_past, .inl (cI, 522, .inl s_past))]) [1, 2, 0] (by decide) rfl) hS dX4_beam_23
abbrev rm_X4_turn : Room := { frames := 8, cells := 0, slots := 0, locals := 189 }
set_option maxHeartbeats 4000000 in
set_option maxRecDepth 100000 in
theorem c_X4_turn (l : Launch) (dC : Nat → ClassId) (dI : Nat → Nat → Nat) (cI cJ : ClassId) (o o_now o_then o_past o_text o_told o_lit o_whole o_goes o_latest : Nat) (sz : Nat) (s_now : Nat → Int32) (s_past : Nat → Int32) (s_kept : Int32) (s_thrown : Int32) (s_lit : Nat → Int32) (s_whole : Nat → Int32) (s_goes : Nat → Int32) (s_isLaid : Int32) (s_latest : Nat → Int32) (s_typed : Int32) (s_at : Int32) (s_isFault : Int32) (s_value : Int32) (s_tolds : Int32) (p0 : Int32) (Q : Int32 → (Nat → Int32) → (Nat → Int32) → Int32 → Int32 → (Nat → Int32) → (Nat → Int32) → (Nat → Int32) → Int32 → (Nat → Int32) → Prop) (hw : P_X4_turn p0 s_now s_past s_kept s_thrown s_lit s_whole s_goes s_isLaid s_latest Q) : Met l yX4_turn (Cond.code yX4_turn cX4_turn 2 (some .int) :: TBL) rm_X4_turn (gPc (dC, dI) vwCl (gTy cI cJ) [.ref o, .int p0] [(o, .inr (4, [.ref o_now, .ref o_then, .ref o_past, .int s_kept, .ref o_text, .int s_typed, .int s_thrown, .int s_at, .int s_isFault, .int s_value, .ref o_told, .int s_tolds, .ref o_lit, .ref o_whole, .ref o_goes, .int s_isLaid, .ref o_latest])), (o_now, .inl (cI, 87, .inl s_now)), (o_past, .inl (cI, 522, .inl s_past)), (o_lit, .inl (cI, 96, .inl s_lit)), (o_whole, .inl (cI, 8, .inl s_whole)), (o_goes, .inl (cI, 8, .inl s_goes)), (o_latest, .inl (cI, 12, .inl s_latest))] sz) (va_Qi (fun (r : Int32) (u : (Nat → Int32) × (Nat → Int32) × Int32 × Int32 × (Nat → Int32) × (Nat → Int32) × (Nat → Int32) × Int32 × (Nat → Int32)) => Q r u.1 u.2.1 u.2.2.1 u.2.2.2.1 u.2.2.2.2.1 u.2.2.2.2.2.1 u.2.2.2.2.2.2.1 u.2.2.2.2.2.2.2.1 u.2.2.2.2.2.2.2.2) (gB (dC, dI) vwCl (gTy cI cJ) (va_A [(o, .inr (4, [.ref o_now, .ref o_then, .ref o_past, .int s_kept, .ref o_text, .int s_typed, .int s_thrown, .int s_at, .int s_isFault, .int s_value, .ref o_told, .int s_tolds, .ref o_lit, .ref o_whole, .ref o_goes, .int s_isLaid, .ref o_latest])), (o_now, .inl (cI, 87, .inl s_now)), (o_past, .inl (cI, 522, .inl s_past)), (o_lit, .inl (cI, 96, .inl s_lit)), (o_whole, .inl (cI, 8, .inl s_whole)), (o_goes, .inl (cI, 8, .inl s_goes)), (o_latest, .inl (cI, 12, .inl s_latest))] sz) (fun (u : (Nat → Int32) × (Nat → Int32) × Int32 × Int32 × (Nat → Int32) × (Nat → Int32) × (Nat → Int32) × Int32 × (Nat → Int32)) => [(o, .inr (4, [.ref o_now, .ref o_then, .ref o_past, .int u.2.2.1, .ref o_text, .int s_typed, .int u.2.2.2.1, .int s_at, .int s_isFault, .int s_value, .ref o_told, .int s_tolds, .ref o_lit, .ref o_whole, .ref o_goes, .int u.2.2.2.2.2.2.2.1, .ref o_latest])), (o_now, .inl (cI, 87, .inl u.1)), (o_past, .inl (cI, 522, .inl u.2.1)), (o_lit, .inl (cI, 96, .inl u.2.2.2.2.1)), (o_whole, .inl (cI, 8, .inl u.2.2.2.2.2.1)), (o_goes, .inl (cI, 8, .inl u.2.2.2.2.2.2.1)), (o_latest, .inl (cI, 12, .inl u.2.2.2.2.2.2.2.2))])) (va_A [(o, .inr (4, [.ref o_now, .ref o_then, .ref o_past, .int s_kept, .ref o_text, .int s_typed, .int s_thrown, .int s_at, .int s_isFault, .int s_value, .ref o_told, .int s_tolds, .ref o_lit, .ref o_whole, .ref o_goes, .int s_isLaid, .ref o_latest])), (o_now, .inl (cI, 87, .inl s_now)), (o_past, .inl (cI, 522, .inl s_past)), (o_lit, .inl (cI, 96, .inl s_lit)), (o_whole, .inl (cI, 8, .inl s_whole)), (o_goes, .inl (cI, 8, .inl s_goes)), (o_latest, .inl (cI, 12, .inl s_latest))] sz)) 0 0 (va_A [(o, .inr (4, [.ref o_now, .ref o_then, .ref o_past, .int s_kept, .ref o_text, .int s_typed, .int s_thrown, .int s_at, .int s_isFault, .int s_value, .ref o_told, .int s_tolds, .ref o_lit, .ref o_whole, .ref o_goes, .int s_isLaid, .ref o_latest])), (o_now, .inl (cI, 87, .inl s_now)), (o_past, .inl (cI, 522, .inl s_past)), (o_lit, .inl (cI, 96, .inl s_lit)), (o_whole, .inl (cI, 8, .inl s_whole)), (o_goes, .inl (cI, 8, .inl s_goes)), (o_latest, .inl (cI, 12, .inl s_latest))] sz) := by
  refine Met.ofW (cc := cX4_turn) (maxL := 2) (ret := (some .int)) (by decide) rfl ?_
  intro p e s m args below meth c s₁ B hml hv
  obtain ⟨rfl, hsz, hP, hK, hD0⟩ := hv
  have hx := B.exec
  have hb := B.bytes
  have hr := B.returns
  have hts := atoms_spec (ws := Cond.code yX4_turn cX4_turn 2 (some .int) :: TBL) B.pre
  have ht : ∀ w ∈ TBL, w.before ([.ref o, .int p0] : List Value).toArray s = true := fun w h => hts w (List.mem_cons_of_mem _ h)
  clear hts
  have hown : s.vm.findClass RX4 = some m.cls := findClass_of_methodNamed B.named
  have hlocks := B.notSynchronized
  clear B
  subst hsz
  have hD := hD0.self (sz := s.heap.size)
  clear hD0
  generalize hAe : va_A [(o, .inr (4, [.ref o_now, .ref o_then, .ref o_past, .int s_kept, .ref o_text, .int s_typed, .int s_thrown, .int s_at, .int s_isFault, .int s_value, .ref o_told, .int s_tolds, .ref o_lit, .ref o_whole, .ref o_goes, .int s_isLaid, .ref o_latest])), (o_now, .inl (cI, 87, .inl s_now)), (o_past, .inl (cI, 522, .inl s_past)), (o_lit, .inl (cI, 96, .inl s_lit)), (o_whole, .inl (cI, 8, .inl s_whole)), (o_goes, .inl (cI, 8, .inl s_goes)), (o_latest, .inl (cI, 12, .inl s_latest))] s.heap.size = A at hD ⊢
  have hA : ∀ q : Nat, s.heap.size ≤ q → A q := fun q h => by rw [← hAe]; exact Or.inr h
  clear hAe
  have hS : va_S A s.heap s.heap [] := va_S.rf
  have hP : va_P (dC, dI) vwCl [(o, .inr (4, [.ref o_now, .ref o_then, .ref o_past, .int s_kept, .ref o_text, .int s_typed, .int s_thrown, .int s_at, .int s_isFault, .int s_value, .ref o_told, .int s_tolds, .ref o_lit, .ref o_whole, .ref o_goes, .int s_isLaid, .ref o_latest])), (o_now, .inl (cI, 87, .inl s_now)), (o_past, .inl (cI, 522, .inl s_past)), (o_lit, .inl (cI, 96, .inl s_lit)), (o_whole, .inl (cI, 8, .inl s_whole)), (o_goes, .inl (cI, 8, .inl s_goes)), (o_latest, .inl (cI, 12, .inl s_latest))] s.heap := hP
  have hl := lv_entry ([.ref o, .int p0]) (n := 2) (Nat.le_of_ble_eq_true rfl)
  rw [lg_entry_eq]
  generalize (lg_sl ([.ref o, .int p0]) ++ List.replicate (2 - (lg_sl ([.ref o, .int p0])).length) Slot.unset).toArray = ls at hl ⊢
  have hl : lv_has ls 2 [(0, .ref o), (1, .int p0)] := hl
  generalize hQQ : MQ below _ _ _ 0 0 A = QQ
  show W p l e rm_X4_turn s m ([.ref o, .int p0] : List Value).toArray below meth c s.heap [] 0 0 QQ (F0 m 0 ls [])
  obtain ⟨H, hHH⟩ : ∃ H, H = s.heap := ⟨_, rfl⟩
  rw [← hHH] at hP ⊢
  have hS : va_S A s.heap H [] := by rw [hHH]; exact hS
  clear hHH
  generalize ([] : List Loc) = locs at hS ⊢
  unfold P_X4_turn at hw
  refine lv_aload_n hx hb dX4_turn_0 rfl (lv_at hl 0 rfl) ?_
  refine lv_iconst (v := 0) hx hb dX4_turn_1 (by decide) ?_
  refine va_put (D := (dC, dI)) (ci := 4) (v := .int 0) (ty := .int) (C := RX4) (T := TX4) (N := 17) hx hb ht i_X4 tyX4 tyX4_ok nmX4 hown hK hP hD hS 0 rfl rfl 6 (by decide) (ht _ k_824) (fun _ h9 => h9) rfl (by decide +kernel) rfl rfl (Nat.le_of_ble_eq_true rfl) dX4_turn_2 (fun H locs hP hD hS => ?_)
  have hP : va_P (dC, dI) vwCl [(o, .inr (4, [.ref o_now, .ref o_then, .ref o_past, .int s_kept, .ref o_text, .int s_typed, .int 0, .int s_at, .int s_isFault, .int s_value, .ref o_told, .int s_tolds, .ref o_lit, .ref o_whole, .ref o_goes, .int s_isLaid, .ref o_latest])), (o_now, .inl (cI, 87, .inl s_now)), (o_past, .inl (cI, 522, .inl s_past)), (o_lit, .inl (cI, 96, .inl s_lit)), (o_whole, .inl (cI, 8, .inl s_whole)), (o_goes, .inl (cI, 8, .inl s_goes)), (o_latest, .inl (cI, 12, .inl s_latest))] H := hP
  have hD : va_D A [(o, .inr (4, [.ref o_now, .ref o_then, .ref o_past, .int s_kept, .ref o_text, .int s_typed, .int 0, .int s_at, .int s_isFault, .int s_value, .ref o_told, .int s_tolds, .ref o_lit, .ref o_whole, .ref o_goes, .int s_isLaid, .ref o_latest])), (o_now, .inl (cI, 87, .inl s_now)), (o_past, .inl (cI, 522, .inl s_past)), (o_lit, .inl (cI, 96, .inl s_lit)), (o_whole, .inl (cI, 8, .inl s_whole)), (o_goes, .inl (cI, 8, .inl s_goes)), (o_latest, .inl (cI, 12, .inl s_latest))] := hD
  refine lv_aload_n hx hb dX4_turn_5 rfl (lv_at hl 0 rfl) ?_
  refine lv_iload_n hx hb dX4_turn_6 rfl (lv_at hl 1 rfl) ?_
  refine gc_Vi (As := [.int p0]) (rest := []) (wr := [(o_past, .inl (cI, 522, .inl s_past)), (o_lit, .inl (cI, 96, .inl s_lit)), (o_whole, .inl (cI, 8, .inl s_whole)), (o_goes, .inl (cI, 8, .inl s_goes)), (o_latest, .inl (cI, 12, .inl s_latest))]) ⟨hx, hb, hml, hown, ht⟩ (c_X4_isBeam l dC dI cI cJ o o_now o_then o_past o_text o_told o_lit o_whole o_goes o_latest H.size s_now s_kept s_typed 0 s_at s_isFault s_value s_tolds s_isLaid p0 _ hw) (cwV 1 ht (g_V k_945 k_947 k_s44 k_5 k_948) rfl rfl rfl (by decide +kernel) ⟨(Nat.le_of_ble_eq_true rfl), (Nat.le_of_ble_eq_true rfl)⟩) hK hP hD hS hA [0, 1] [2, 3, 4, 5, 6] rfl rfl (by decide) 0 rfl rfl rfl rfl hl.1 rfl (Nat.le_of_ble_eq_true rfl) ⟨(Nat.le_of_ble_eq_true rfl), (Nat.le_of_ble_eq_true rfl)⟩ dX4_turn_7 (fun r_1 u H locs hw hP hD hS => ?_)
  try dsimp only at hw
  have hP : va_P (dC, dI) vwCl [(o_past, .inl (cI, 522, .inl s_past)), (o_lit, .inl (cI, 96, .inl s_lit)), (o_whole, .inl (cI, 8, .inl s_whole)), (o_goes, .inl (cI, 8, .inl s_goes)), (o_latest, .inl (cI, 12, .inl s_latest)), (o, .inr (4, [.ref o_now, .ref o_then, .ref o_past, .int s_kept, .ref o_text, .int s_typed, .int 0, .int s_at, .int s_isFault, .int s_value, .ref o_told, .int s_tolds, .ref o_lit, .ref o_whole, .ref o_goes, .int s_isLaid, .ref o_latest])), (o_now, .inl (cI, 87, .inl s_now))] H := hP
  have hD : va_D A [(o_past, .inl (cI, 522, .inl s_past)), (o_lit, .inl (cI, 96, .inl s_lit)), (o_whole, .inl (cI, 8, .inl s_whole)), (o_goes, .inl (cI, 8, .inl s_goes)), (o_latest, .inl (cI, 12, .inl s_latest)), (o, .inr (4, [.ref o_now, .ref o_then, .ref o_past, .int s_kept, .ref o_text, .int s_typed, .int 0, .int s_at, .int s_isFault, .int s_value, .ref o_told, .int s_tolds, .ref o_lit, .ref o_whole, .ref o_goes, .int s_isLaid, .ref o_latest])), (o_now, .inl (cI, 87, .inl s_now))] := hD
  refine lv_if_ne (tgt := 19) hx hb dX4_turn_10 (by decide) (fun hc => ?_) (fun hc => ?_)
  · have hw := hw.1 hc
    refine lv_aload_n hx hb dX4_turn_19 rfl (lv_at hl 0 rfl) ?_
    refine gc_Vv (As := []) (rest := []) (wr := [(o_lit, .inl (cI, 96, .inl s_lit)), (o_whole, .inl (cI, 8, .inl s_whole)), (o_goes, .inl (cI, 8, .inl s_goes)), (o_latest, .inl (cI, 12, .inl s_latest))]) ⟨hx, hb, hml, hown, ht⟩ (c_X4_saves l dC dI cI cJ o o_now o_then o_past o_text o_told o_lit o_whole o_goes o_latest H.size s_now s_past s_kept s_isLaid s_typed 0 s_at s_isFault s_value s_tolds _ hw) (cwV 0 ht (g_V k_902 k_904 k_s39 k_5 k_905) rfl rfl rfl (by decide +kernel) ⟨(Nat.le_of_ble_eq_true rfl), (Nat.le_of_ble_eq_true rfl)⟩) hK hP hD hS hA [5, 6, 0] [1, 2, 3, 4] rfl rfl (by decide) 5 rfl rfl rfl rfl hl.1 rfl (Nat.le_of_ble_eq_true rfl) ⟨(Nat.le_of_ble_eq_true rfl), (Nat.le_of_ble_eq_true rfl)⟩ dX4_turn_20 (fun u H locs hw hP hD hS => ?_)
    obtain ⟨s_past_2, s_kept_3, s_isLaid_4⟩ := u
    try dsimp only at hw
    have hP : va_P (dC, dI) vwCl [(o_lit, .inl (cI, 96, .inl s_lit)), (o_whole, .inl (cI, 8, .inl s_whole)), (o_goes, .inl (cI, 8, .inl s_goes)), (o_latest, .inl (cI, 12, .inl s_latest)), (o, .inr (4, [.ref o_now, .ref o_then, .ref o_past, .int s_kept_3, .ref o_text, .int s_typed, .int 0, .int s_at, .int s_isFault, .int s_value, .ref o_told, .int s_tolds, .ref o_lit, .ref o_whole, .ref o_goes, .int s_isLaid_4, .ref o_latest])), (o_now, .inl (cI, 87, .inl s_now)), (o_past, .inl (cI, 522, .inl s_past_2))] H := hP
    have hD : va_D A [(o_lit, .inl (cI, 96, .inl s_lit)), (o_whole, .inl (cI, 8, .inl s_whole)), (o_goes, .inl (cI, 8, .inl s_goes)), (o_latest, .inl (cI, 12, .inl s_latest)), (o, .inr (4, [.ref o_now, .ref o_then, .ref o_past, .int s_kept_3, .ref o_text, .int s_typed, .int 0, .int s_at, .int s_isFault, .int s_value, .ref o_told, .int s_tolds, .ref o_lit, .ref o_whole, .ref o_goes, .int s_isLaid_4, .ref o_latest])), (o_now, .inl (cI, 87, .inl s_now)), (o_past, .inl (cI, 522, .inl s_past_2))] := hD
    refine lv_aload_n hx hb dX4_turn_23 rfl (lv_at hl 0 rfl) ?_
    refine va_get (D := (dC, dI)) (ci := 4) (v := .ref o_now) (C := RX4) (T := TX4) (N := 17) hx hb ht i_X4 hown hK hP 4 rfl rfl 0 (by decide) (ht _ k_818) (fun _ h9 => h9) rfl dX4_turn_24 ?_
    refine lv_bipush (v := 52) hx hb dX4_turn_27 (by decide) ?_
    refine lv_iconst (v := 5) hx hb dX4_turn_29 (by decide) ?_
    refine lv_iload_n hx hb dX4_turn_30 rfl (lv_at hl 1 rfl) ?_
    refine lv_imul hx hb dX4_turn_31 ?_
    refine lv_iadd hx hb dX4_turn_32 ?_
    refine lv_iconst (v := 2) hx hb dX4_turn_33 (by decide) ?_
    refine lv_iadd hx hb dX4_turn_34 ?_
    refine lv_aload_n hx hb dX4_turn_35 rfl (lv_at hl 0 rfl) ?_
    refine va_get (D := (dC, dI)) (ci := 4) (v := .ref o_now) (C := RX4) (T := TX4) (N := 17) hx hb ht i_X4 hown hK hP 4 rfl rfl 0 (by decide) (ht _ k_818) (fun _ h9 => h9) rfl dX4_turn_36 ?_
    refine lv_iload_n hx hb dX4_turn_39 rfl (lv_at hl 1 rfl) ?_
    refine lv_iconst (v := 2) hx hb dX4_turn_40 (by decide) ?_
    refine gc_Si (As := [.ref o_now, .int p0, .int 2]) (rest := [.int ((52 + (5 * p0)) + 2), .ref o_now]) (wr := [(o_lit, .inl (cI, 96, .inl s_lit)), (o_whole, .inl (cI, 8, .inl s_whole)), (o_goes, .inl (cI, 8, .inl s_goes)), (o_latest, .inl (cI, 12, .inl s_latest)), (o, .inr (4, [.ref o_now, .ref o_then, .ref o_past, .int s_kept_3, .ref o_text, .int s_typed, .int 0, .int s_at, .int s_isFault, .int s_value, .ref o_told, .int s_tolds, .ref o_lit, .ref o_whole, .ref o_goes, .int s_isLaid_4, .ref o_latest])), (o_past, .inl (cI, 522, .inl s_past_2))]) ⟨hx, hb, hml, hown, ht⟩ (c_X4_by l dC dI cI cJ o_now H.size s_now p0 2 _ hw) (va_cwS 3 ht (g_S k_949 k_950 k_5 k_951) rfl rfl rfl (by decide +kernel) ⟨(Nat.le_of_ble_eq_true rfl), (Nat.le_of_ble_eq_true rfl)⟩) hK hP hD hS hA [5] [0, 1, 2, 3, 4, 6] rfl rfl (by decide) rfl hl.1 rfl (Nat.le_of_ble_eq_true rfl) ⟨(Nat.le_of_ble_eq_true rfl), (Nat.le_of_ble_eq_true rfl)⟩ dX4_turn_41 (fun r_5 u H locs hw hP hD hS => ?_)
    try dsimp only at hw
    have hP : va_P (dC, dI) vwCl [(o_lit, .inl (cI, 96, .inl s_lit)), (o_whole, .inl (cI, 8, .inl s_whole)), (o_goes, .inl (cI, 8, .inl s_goes)), (o_latest, .inl (cI, 12, .inl s_latest)), (o, .inr (4, [.ref o_now, .ref o_then, .ref o_past, .int s_kept_3, .ref o_text, .int s_typed, .int 0, .int s_at, .int s_isFault, .int s_value, .ref o_told, .int s_tolds, .ref o_lit, .ref o_whole, .ref o_goes, .int s_isLaid_4, .ref o_latest])), (o_past, .inl (cI, 522, .inl s_past_2)), (o_now, .inl (cI, 87, .inl s_now))] H := hP
    have hD : va_D A [(o_lit, .inl (cI, 96, .inl s_lit)), (o_whole, .inl (cI, 8, .inl s_whole)), (o_goes, .inl (cI, 8, .inl s_goes)), (o_latest, .inl (cI, 12, .inl s_latest)), (o, .inr (4, [.ref o_now, .ref o_then, .ref o_past, .int s_kept_3, .ref o_text, .int s_typed, .int 0, .int s_at, .int s_isFault, .int s_value, .ref o_told, .int s_tolds, .ref o_lit, .ref o_whole, .ref o_goes, .int s_isLaid_4, .ref o_latest])), (o_past, .inl (cI, 522, .inl s_past_2)), (o_now, .inl (cI, 87, .inl s_now))] := hD
    refine lv_ineg hx hb dX4_turn_44 ?_
    obtain ⟨hi_6, hw⟩ := hw
    refine gv_iast hx hb hK hP hD hS 6 0 rfl rfl rfl hi_6 dX4_turn_45 (fun H locs hP hD hS => ?_)
    have hP : va_P (dC, dI) vwCl [(o_lit, .inl (cI, 96, .inl s_lit)), (o_whole, .inl (cI, 8, .inl s_whole)), (o_goes, .inl (cI, 8, .inl s_goes)), (o_latest, .inl (cI, 12, .inl s_latest)), (o, .inr (4, [.ref o_now, .ref o_then, .ref o_past, .int s_kept_3, .ref o_text, .int s_typed, .int 0, .int s_at, .int s_isFault, .int s_value, .ref o_told, .int s_tolds, .ref o_lit, .ref o_whole, .ref o_goes, .int s_isLaid_4, .ref o_latest])), (o_past, .inl (cI, 522, .inl s_past_2)), (o_now, .inl (cI, 87, .inl (upd s_now (((52 + (5 * p0)) + 2).toNatClampNeg) (-r_5))))] H := hP
    have hD : va_D A [(o_lit, .inl (cI, 96, .inl s_lit)), (o_whole, .inl (cI, 8, .inl s_whole)), (o_goes, .inl (cI, 8, .inl s_goes)), (o_latest, .inl (cI, 12, .inl s_latest)), (o, .inr (4, [.ref o_now, .ref o_then, .ref o_past, .int s_kept_3, .ref o_text, .int s_typed, .int 0, .int s_at, .int s_isFault, .int s_value, .ref o_told, .int s_tolds, .ref o_lit, .ref o_whole, .ref o_goes, .int s_isLaid_4, .ref o_latest])), (o_past, .inl (cI, 522, .inl s_past_2)), (o_now, .inl (cI, 87, .inl (upd s_now (((52 + (5 * p0)) + 2).toNatClampNeg) (-r_5))))] := hD
    refine lv_aload_n hx hb dX4_turn_46 rfl (lv_at hl 0 rfl) ?_
    refine gc_Vv (As := []) (rest := []) (wr := [(o_past, .inl (cI, 522, .inl s_past_2))]) ⟨hx, hb, hml, hown, ht⟩ (c_X4_laysNow l dC dI cI cJ o o_now o_then o_past o_text o_told o_lit o_whole o_goes o_latest H.size (upd s_now (((52 + (5 * p0)) + 2).toNatClampNeg) (-r_5)) s_lit s_whole s_goes s_isLaid_4 s_latest s_kept_3 s_typed 0 s_at s_isFault s_value s_tolds _ hw) (cwV 0 ht (g_V k_952 k_954 k_s45 k_5 k_955) rfl rfl rfl (by decide +kernel) ⟨(Nat.le_of_ble_eq_true rfl), (Nat.le_of_ble_eq_true rfl)⟩) hK hP hD hS hA [4, 6, 0, 1, 2, 3] [5] rfl rfl (by decide) 4 rfl rfl rfl rfl hl.1 rfl (Nat.le_of_ble_eq_true rfl) ⟨(Nat.le_of_ble_eq_true rfl), (Nat.le_of_ble_eq_true rfl)⟩ dX4_turn_47 (fun u H locs hw hP hD hS => ?_)
    obtain ⟨s_lit_7, s_whole_8, s_goes_9, s_isLaid_10, s_latest_11⟩ := u
    try dsimp only at hw
    have hP : va_P (dC, dI) vwCl [(o_past, .inl (cI, 522, .inl s_past_2)), (o, .inr (4, [.ref o_now, .ref o_then, .ref o_past, .int s_kept_3, .ref o_text, .int s_typed, .int 0, .int s_at, .int s_isFault, .int s_value, .ref o_told, .int s_tolds, .ref o_lit, .ref o_whole, .ref o_goes, .int s_isLaid_10, .ref o_latest])), (o_now, .inl (cI, 87, .inl (upd s_now (((52 + (5 * p0)) + 2).toNatClampNeg) (-r_5)))), (o_lit, .inl (cI, 96, .inl s_lit_7)), (o_whole, .inl (cI, 8, .inl s_whole_8)), (o_goes, .inl (cI, 8, .inl s_goes_9)), (o_latest, .inl (cI, 12, .inl s_latest_11))] H := hP
    have hD : va_D A [(o_past, .inl (cI, 522, .inl s_past_2)), (o, .inr (4, [.ref o_now, .ref o_then, .ref o_past, .int s_kept_3, .ref o_text, .int s_typed, .int 0, .int s_at, .int s_isFault, .int s_value, .ref o_told, .int s_tolds, .ref o_lit, .ref o_whole, .ref o_goes, .int s_isLaid_10, .ref o_latest])), (o_now, .inl (cI, 87, .inl (upd s_now (((52 + (5 * p0)) + 2).toNatClampNeg) (-r_5)))), (o_lit, .inl (cI, 96, .inl s_lit_7)), (o_whole, .inl (cI, 8, .inl s_whole_8)), (o_goes, .inl (cI, 8, .inl s_goes_9)), (o_latest, .inl (cI, 12, .inl s_latest_11))] := hD
    refine lv_aload_n hx hb dX4_turn_50 rfl (lv_at hl 0 rfl) ?_
    refine lv_aload_n hx hb dX4_turn_51 rfl (lv_at hl 0 rfl) ?_
    refine va_get (D := (dC, dI)) (ci := 4) (v := .ref o_now) (C := RX4) (T := TX4) (N := 17) hx hb ht i_X4 hown hK hP 1 rfl rfl 0 (by decide) (ht _ k_818) (fun _ h9 => h9) rfl dX4_turn_52 ?_
    refine gc_Vi (As := [.ref o_now]) (rest := []) (wr := [(o_past, .inl (cI, 522, .inl s_past_2)), (o_whole, .inl (cI, 8, .inl s_whole_8)), (o_goes, .inl (cI, 8, .inl s_goes_9)), (o_latest, .inl (cI, 12, .inl s_latest_11))]) ⟨hx, hb, hml, hown, ht⟩ (c_X4_allLit l dC dI cI cJ o o_now o_then o_past o_text o_told o_lit o_whole o_goes o_latest o_now H.size s_lit_7 (upd s_now (((52 + (5 * p0)) + 2).toNatClampNeg) (-r_5)) s_kept_3 s_typed 0 s_at s_isFault s_value s_tolds s_isLaid_10 _ hw) (cwV 1 ht (g_V k_983 k_985 k_s49 k_5 k_986) rfl rfl rfl (by decide +kernel) ⟨(Nat.le_of_ble_eq_true rfl), (Nat.le_of_ble_eq_true rfl)⟩) hK hP hD hS hA [1, 3, 2] [0, 4, 5, 6] rfl rfl (by decide) 1 rfl rfl rfl rfl hl.1 rfl (Nat.le_of_ble_eq_true rfl) ⟨(Nat.le_of_ble_eq_true rfl), (Nat.le_of_ble_eq_true rfl)⟩ dX4_turn_55 (fun r_12 u H locs hw hP hD hS => ?_)
    try dsimp only at hw
    have hP : va_P (dC, dI) vwCl [(o_past, .inl (cI, 522, .inl s_past_2)), (o_whole, .inl (cI, 8, .inl s_whole_8)), (o_goes, .inl (cI, 8, .inl s_goes_9)), (o_latest, .inl (cI, 12, .inl s_latest_11)), (o, .inr (4, [.ref o_now, .ref o_then, .ref o_past, .int s_kept_3, .ref o_text, .int s_typed, .int 0, .int s_at, .int s_isFault, .int s_value, .ref o_told, .int s_tolds, .ref o_lit, .ref o_whole, .ref o_goes, .int s_isLaid_10, .ref o_latest])), (o_lit, .inl (cI, 96, .inl s_lit_7)), (o_now, .inl (cI, 87, .inl (upd s_now (((52 + (5 * p0)) + 2).toNatClampNeg) (-r_5))))] H := hP
    have hD : va_D A [(o_past, .inl (cI, 522, .inl s_past_2)), (o_whole, .inl (cI, 8, .inl s_whole_8)), (o_goes, .inl (cI, 8, .inl s_goes_9)), (o_latest, .inl (cI, 12, .inl s_latest_11)), (o, .inr (4, [.ref o_now, .ref o_then, .ref o_past, .int s_kept_3, .ref o_text, .int s_typed, .int 0, .int s_at, .int s_isFault, .int s_value, .ref o_told, .int s_tolds, .ref o_lit, .ref o_whole, .ref o_goes, .int s_isLaid_10, .ref o_latest])), (o_lit, .inl (cI, 96, .inl s_lit_7)), (o_now, .inl (cI, 87, .inl (upd s_now (((52 + (5 * p0)) + 2).toNatClampNeg) (-r_5))))] := hD
    rw [← hQQ]
    exact g_reti (v := r_12) (u := ((upd s_now (((52 + (5 * p0)) + 2).toNatClampNeg) (-r_5)), s_past_2, s_kept_3, 0, s_lit_7, s_whole_8, s_goes_9, s_isLaid_10, s_latest_11)) hx hb hr rfl hlocks hw (hP.sub (ws' := [(o, .inr (4, [.ref o_now, .ref o_then, .ref o_past, .int s_kept_3, .ref o_text, .int s_typed, .int 0, .int s_at, .int s_isFault, .int s_value, .ref o_told, .int s_tolds, .ref o_lit, .ref o_whole, .ref o_goes, .int s_isLaid_10, .ref o_latest])), (o_now, .inl (cI, 87, .inl (upd s_now (((52 + (5 * p0)) + 2).toNatClampNeg) (-r_5)))), (o_past, .inl (cI, 522, .inl s_past_2)), (o_lit, .inl (cI, 96, .inl s_lit_7)), (o_whole, .inl (cI, 8, .inl s_whole_8)), (o_goes, .inl (cI, 8, .inl s_goes_9)), (o_latest, .inl (cI, 12, .inl s_latest_11))]) [4, 6, 0, 5, 1, 2, 3] rfl) hK (hD.sub (ws' := [(o, .inr (4, [.ref o_now, .ref o_then, .ref o_past, .int s_kept_3, .ref o_text, .int s_typed, .int 0, .int s_at, .int s_isFault, .int s_value, .ref o_told, .int s_tolds, .ref o_lit, .ref o_whole, .ref o_goes, .int s_isLaid_10, .ref o_latest])), (o_now, .inl (cI, 87, .inl (upd s_now (((52 + (5 * p0)) + 2).toNatClampNeg) (-r_5)))), (o_past, .inl (cI, 522, .inl s_past_2)), (o_lit, .inl (cI, 96, .inl s_lit_7)), (o_whole, .inl (cI, 8, .inl s_whole_8)), (o_goes, .inl (cI, 8, .inl s_goes_9)), (o_latest, .inl (cI, 12, .inl s_latest_11))]) [4, 6, 0, 5, 1, 2, 3] (by decide) rfl) hS dX4_turn_58
  · have hw := hw.2 hc
    refine lv_aload_n hx hb dX4_turn_13 rfl (lv_at hl 0 rfl) ?_
    refine lv_iconst (v := 1) hx hb dX4_turn_14 (by decide) ?_
    refine gc_Vi (As := [.int 1]) (rest := []) (wr := [(o_past, .inl (cI, 522, .inl s_past)), (o_lit, .inl (cI, 96, .inl s_lit)), (o_whole, .inl (cI, 8, .inl s_whole)), (o_goes, .inl (cI, 8, .inl s_goes)), (o_latest, .inl (cI, 12, .inl s_latest)), (o_now, .inl (cI, 87, .inl s_now))]) ⟨hx, hb, hml, hown, ht⟩ (c_X4_fails l dC dI cI cJ o o_now o_then o_past o_text o_told o_lit o_whole o_goes o_latest H.size 0 s_kept s_typed s_at s_isFault s_value s_tolds s_isLaid 1 _ hw) (cwV 1 ht (g_V k_878 k_880 k_s37 k_5 k_881) rfl rfl rfl (by decide +kernel) ⟨(Nat.le_of_ble_eq_true rfl), (Nat.le_of_ble_eq_true rfl)⟩) hK hP hD hS hA [5] [0, 1, 2, 3, 4, 6] rfl rfl (by decide) 5 rfl rfl rfl rfl hl.1 rfl (Nat.le_of_ble_eq_true rfl) ⟨(Nat.le_of_ble_eq_true rfl), (Nat.le_of_ble_eq_true rfl)⟩ dX4_turn_15 (fun r_13 u H locs hw hP hD hS => ?_)
    obtain ⟨s_thrown_14, rfl⟩ : ∃ z, z = u := ⟨_, rfl⟩
    try dsimp only at hw
    have hP : va_P (dC, dI) vwCl [(o_past, .inl (cI, 522, .inl s_past)), (o_lit, .inl (cI, 96, .inl s_lit)), (o_whole, .inl (cI, 8, .inl s_whole)), (o_goes, .inl (cI, 8, .inl s_goes)), (o_latest, .inl (cI, 12, .inl s_latest)), (o_now, .inl (cI, 87, .inl s_now)), (o, .inr (4, [.ref o_now, .ref o_then, .ref o_past, .int s_kept, .ref o_text, .int s_typed, .int s_thrown_14, .int s_at, .int s_isFault, .int s_value, .ref o_told, .int s_tolds, .ref o_lit, .ref o_whole, .ref o_goes, .int s_isLaid, .ref o_latest]))] H := hP
    have hD : va_D A [(o_past, .inl (cI, 522, .inl s_past)), (o_lit, .inl (cI, 96, .inl s_lit)), (o_whole, .inl (cI, 8, .inl s_whole)), (o_goes, .inl (cI, 8, .inl s_goes)), (o_latest, .inl (cI, 12, .inl s_latest)), (o_now, .inl (cI, 87, .inl s_now)), (o, .inr (4, [.ref o_now, .ref o_then, .ref o_past, .int s_kept, .ref o_text, .int s_typed, .int s_thrown_14, .int s_at, .int s_isFault, .int s_value, .ref o_told, .int s_tolds, .ref o_lit, .ref o_whole, .ref o_goes, .int s_isLaid, .ref o_latest]))] := hD
    rw [← hQQ]
    exact g_reti (v := r_13) (u := (s_now, s_past, s_kept, s_thrown_14, s_lit, s_whole, s_goes, s_isLaid, s_latest)) hx hb hr rfl hlocks hw (hP.sub (ws' := [(o, .inr (4, [.ref o_now, .ref o_then, .ref o_past, .int s_kept, .ref o_text, .int s_typed, .int s_thrown_14, .int s_at, .int s_isFault, .int s_value, .ref o_told, .int s_tolds, .ref o_lit, .ref o_whole, .ref o_goes, .int s_isLaid, .ref o_latest])), (o_now, .inl (cI, 87, .inl s_now)), (o_past, .inl (cI, 522, .inl s_past)), (o_lit, .inl (cI, 96, .inl s_lit)), (o_whole, .inl (cI, 8, .inl s_whole)), (o_goes, .inl (cI, 8, .inl s_goes)), (o_latest, .inl (cI, 12, .inl s_latest))]) [6, 5, 0, 1, 2, 3, 4] rfl) hK (hD.sub (ws' := [(o, .inr (4, [.ref o_now, .ref o_then, .ref o_past, .int s_kept, .ref o_text, .int s_typed, .int s_thrown_14, .int s_at, .int s_isFault, .int s_value, .ref o_told, .int s_tolds, .ref o_lit, .ref o_whole, .ref o_goes, .int s_isLaid, .ref o_latest])), (o_now, .inl (cI, 87, .inl s_now)), (o_past, .inl (cI, 522, .inl s_past)), (o_lit, .inl (cI, 96, .inl s_lit)), (o_whole, .inl (cI, 8, .inl s_whole)), (o_goes, .inl (cI, 8, .inl s_goes)), (o_latest, .inl (cI, 12, .inl s_latest))]) [6, 5, 0, 1, 2, 3, 4] (by decide) rfl) hS dX4_turn_18
