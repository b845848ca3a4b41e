/-- the reader of orders: kind, whether in an order, place, value, minus, numbers -/
abbrev Rd : Type := Int × Int × Int × Int × Int × (Int → Int)
abbrev rK (s : Rd) : Int := s.1
abbrev rO (s : Rd) : Int := s.2.1
abbrev rP (s : Rd) : Int := s.2.2.1
abbrev rV (s : Rd) : Int := s.2.2.2.1
abbrev rM (s : Rd) : Int := s.2.2.2.2.1
abbrev rN (s : Rd) : Int → Int := s.2.2.2.2.2
def moR (k p : Int) : Int := if k = 119 then (if p = 0 then 12 else if p = 1 then 7 else if p = 2 then 59 else 199) else (if p = 0 then 199 else if p = 1 then 59 else 9)
def enR (k p : Int) : Int := if k = 119 then (if p = 0 then 64 else if p = 3 then 59 else 44) else (if p = 2 then 59 else 44)
def leR (k p : Int) : Int := if k = 119 ∧ p = 0 then 1 else 0
def KP (k p : Int) : Prop := (k = 119 ∧ 0 ≤ p ∧ p ≤ 3) ∨ (k = 98 ∧ 0 ≤ p ∧ p ≤ 2)
def RV (s : Rd) : Prop := rO s = 0 ∨ (rO s = 1 ∧ KP (rK s) (rP s) ∧ (-1 ≤ rV s ∧ rV s ≤ 199) ∧ (rM s = 0 ∨ rM s = 1))
def diR (c v : Int) : Int := if v = -1 then c - 48 else 10 * v + (c - 48)
def fdX (c k o p v m : Int) (N : Int → Int) : Int × Rd :=
  if o = 0 then (if c = 119 ∨ c = 98 then (1, (c, 1, 0, -1, 0, N)) else (0, (k, o, p, v, m, N)))
  else if 48 ≤ c ∧ c ≤ 57 then (if v ≠ 0 ∧ leR k p ≤ diR c v ∧ diR c v ≤ moR k p then (1, (k, o, p, diR c v, m, N)) else (0, (k, o, p, v, m, N)))
  else if c = 45 then (if k = 98 ∧ p = 2 ∧ m = 0 ∧ v = -1 then (1, (k, o, p, v, 1, N)) else (0, (k, o, p, v, m, N)))
  else if v ≠ -1 ∧ c = enR k p then (if enR k p = 59 then (2, (k, 0, p + 1, -1, 0, up N p (if m = 0 then v else -v))) else (1, (k, 1, p + 1, -1, 0, up N p (if m = 0 then v else -v))))
  else (0, (k, o, p, v, m, N))
def fd (c : Int) (s : Rd) : Int × Rd := fdX c (rK s) (rO s) (rP s) (rV s) (rM s) (rN s)
theorem fd_x (c k o p v m : Int) (N : Int → Int) : fd c (k, o, p, v, m, N) = fdX c k o p v m N := rfl
theorem leR_01 (k p : Int) : leR k p = 0 ∨ leR k p = 1 := by unfold leR; by_cases h : k = 119 ∧ p = 0; rw [if_pos h]; exact Or.inr rfl; rw [if_neg h]; exact Or.inl rfl
theorem moR_rng (k p : Int) : 7 ≤ moR k p ∧ moR k p ≤ 199 := by unfold moR; repeat' split; all_goals omega
theorem enR_3 (k p : Int) : enR k p = 44 ∨ enR k p = 59 ∨ enR k p = 64 := by unfold enR; repeat' split; all_goals omega
theorem enR_last {k p : Int} (h : KP k p) (e : enR k p = 59) : (k = 119 ∧ p = 3) ∨ (k = 98 ∧ p = 2) := by
  unfold enR at e
  unfold KP at h
  repeat' split at e
  all_goals omega
theorem enR_more {k p : Int} (h : KP k p) (e : enR k p ≠ 59) : KP k (p + 1) := by
  unfold enR at e
  unfold KP at h ⊢
  repeat' split at e
  all_goals omega
theorem s_X1_least {k p : Int} {Q : Int32 → Prop} (hk : KP k p) (h : Q (iI (leR k p))) : P_X1_least (iI k) (iI p) Q := by
  unfold P_X1_least
  unfold leR at h
  unfold KP at hk
  simp (disch := omega) only [iI_eq, i_m9, i_m1, i_0, i_1, i_2, i_3, i_4, i_5, i_6, i_7, i_8, i_9, i_10, i_11, i_12, i_13, i_14, i_15, i_16, i_17, i_18, i_19, i_20, i_21, i_22, i_23, i_24, i_25, i_26, i_27, i_28, i_29, i_30, i_31, i_32, i_33, i_34, i_35, i_36, i_37, i_38, i_39, i_40, i_41, i_42, i_43, i_44, i_45, i_46, i_47, i_48, i_49, i_50, i_51, i_52, i_53, i_54, i_55, i_56, i_57, i_58, i_59, i_60, i_61, i_62, i_63, i_64, i_65, i_66, i_67, i_68, i_69, i_70, i_72, i_77, i_78, i_80, i_81, i_82, i_83, i_84, i_87, i_88, i_96, i_98, i_100, i_101, i_103, i_118, i_119, i_126, i_133, i_137, i_144, i_154, i_158, i_160, i_190, i_199, i_200, i_207, i_209, i_213, i_229, i_252, i_254, i_255, i_260, i_282, i_303, i_304, i_321, i_348, i_435, i_492, i_522, i_1000, i_1023, i_1600, i_2903, iI_neg]
  refine ⟨fun e => ?_, fun e => ⟨fun e2 => ?_, fun e2 => ?_⟩⟩
  · rw [if_neg (by omega)] at h; exact h
  · rw [if_neg (by omega)] at h; exact h
  · rw [if_pos (by omega)] at h; exact h
theorem s_X1_most {k p : Int} {Q : Int32 → Prop} (hk : KP k p) (h : Q (iI (moR k p))) : P_X1_most (iI k) (iI p) Q := by
  unfold P_X1_most
  unfold moR at h
  rcases hk with ⟨rfl, p0, p1⟩ | ⟨rfl, p0, p1⟩
  · have : p = 0 ∨ p = 1 ∨ p = 2 ∨ p = 3 := by omega
    rcases this with rfl | rfl | rfl | rfl <;> refine ⟨fun hx => absurd rfl hx, fun _ => ⟨fun hx => absurd hx (by decide), fun _ => ⟨fun hx => absurd hx (by decide), fun _ => ⟨iI_in (by omega) (by omega) (by omega), h⟩⟩⟩⟩
  · have : p = 0 ∨ p = 1 ∨ p = 2 := by omega
    rcases this with rfl | rfl | rfl <;> refine ⟨fun _ => ⟨fun hx => absurd hx (by decide), fun _ => ⟨fun hx => absurd hx (by decide), fun _ => ⟨iI_in (by omega) (by omega) (by omega), h⟩⟩⟩, fun hx => absurd hx (by decide)⟩
theorem s_X1_endCode {k p : Int} {Q : Int32 → Prop} (hk : KP k p) (h : Q (iI (enR k p))) : P_X1_endCode (iI k) (iI p) Q := by
  unfold P_X1_endCode
  unfold enR at h
  rcases hk with ⟨rfl, p0, p1⟩ | ⟨rfl, p0, p1⟩
  · have : p = 0 ∨ p = 1 ∨ p = 2 ∨ p = 3 := by omega
    rcases this with rfl | rfl | rfl | rfl <;> refine ⟨fun hx => absurd rfl hx, fun _ => ⟨fun hx => absurd hx (by decide), fun _ => ⟨fun hx => absurd hx (by decide), fun _ => ⟨iI_in (by omega) (by omega) (by omega), h⟩⟩⟩⟩
  · have : p = 0 ∨ p = 1 ∨ p = 2 := by omega
    rcases this with rfl | rfl | rfl <;> refine ⟨fun _ => ⟨fun hx => absurd hx (by decide), fun _ => ⟨fun hx => absurd hx (by decide), fun _ => ⟨iI_in (by omega) (by omega) (by omega), h⟩⟩⟩, fun hx => absurd hx (by decide)⟩
theorem narI0 : narrow .boolean (.int (iI 0)) = .int (iI 0) := narZ (Or.inl rfl)
theorem narI1 : narrow .boolean (.int (iI 1)) = .int (iI 1) := narZ (Or.inr rfl)
theorem fitI0 : fits .boolean (.int (iI 0)) = true := fitZ (Or.inl rfl)
theorem fitI1 : fits .boolean (.int (iI 1)) = true := fitZ (Or.inr rfl)
theorem s_X1_endNumber {k p v m : Int} {N : Int → Int} {Q : Int32 → (Nat → Int32) → Int32 → Int32 → Int32 → Int32 → Prop} (hk : KP k p) (v0 : -1 ≤ v) (v1 : v ≤ 199) (hm : m = 0 ∨ m = 1)
    (h1 : enR k p ≠ 59 → Q (iI 1) (aI (up N p (if m = 0 then v else -v))) (iI 1) (iI (p + 1)) (iI (-1)) (iI 0))
    (h2 : enR k p = 59 → Q (iI 2) (aI (up N p (if m = 0 then v else -v))) (iI 0) (iI (p + 1)) (iI (-1)) (iI 0)) : P_X1_endNumber (aI N) (iI k) (iI 1) (iI p) (iI v) (iI m) Q := by
  have hp : 0 ≤ p ∧ p ≤ 3 := by unfold KP at hk; omega
  have hJ : P_X1_endNumber_J47 (iI k) (iI p) (iI v) (iI m) Q (aI (up N p (if m = 0 then v else -v))) := by
    unfold P_X1_endNumber_J47
    refine s_X1_endCode hk ?_
    have he := enR_3 k p
    simp (disch := omega) only [iI_eq, i_m9, i_m1, i_0, i_1, i_2, i_3, i_4, i_5, i_6, i_7, i_8, i_9, i_10, i_11, i_12, i_13, i_14, i_15, i_16, i_17, i_18, i_19, i_20, i_21, i_22, i_23, i_24, i_25, i_26, i_27, i_28, i_29, i_30, i_31, i_32, i_33, i_34, i_35, i_36, i_37, i_38, i_39, i_40, i_41, i_42, i_43, i_44, i_45, i_46, i_47, i_48, i_49, i_50, i_51, i_52, i_53, i_54, i_55, i_56, i_57, i_58, i_59, i_60, i_61, i_62, i_63, i_64, i_65, i_66, i_67, i_68, i_69, i_70, i_72, i_77, i_78, i_80, i_81, i_82, i_83, i_84, i_87, i_88, i_96, i_98, i_100, i_101, i_103, i_118, i_119, i_126, i_133, i_137, i_144, i_154, i_158, i_160, i_190, i_199, i_200, i_207, i_209, i_213, i_229, i_252, i_254, i_255, i_260, i_282, i_303, i_304, i_321, i_348, i_435, i_492, i_522, i_1000, i_1023, i_1600, i_2903, iI_neg]
    unfold P_X1_endNumber_J61 P_X1_endNumber_J72 P_X1_startNumber
    simp only [iI_add, i_m9, i_m1, i_0, i_1, i_2, i_3, i_4, i_5, i_6, i_7, i_8, i_9, i_10, i_11, i_12, i_13, i_14, i_15, i_16, i_17, i_18, i_19, i_20, i_21, i_22, i_23, i_24, i_25, i_26, i_27, i_28, i_29, i_30, i_31, i_32, i_33, i_34, i_35, i_36, i_37, i_38, i_39, i_40, i_41, i_42, i_43, i_44, i_45, i_46, i_47, i_48, i_49, i_50, i_51, i_52, i_53, i_54, i_55, i_56, i_57, i_58, i_59, i_60, i_61, i_62, i_63, i_64, i_65, i_66, i_67, i_68, i_69, i_70, i_72, i_77, i_78, i_80, i_81, i_82, i_83, i_84, i_87, i_88, i_96, i_98, i_100, i_101, i_103, i_118, i_119, i_126, i_133, i_137, i_144, i_154, i_158, i_160, i_190, i_199, i_200, i_207, i_209, i_213, i_229, i_252, i_254, i_255, i_260, i_282, i_303, i_304, i_321, i_348, i_435, i_492, i_522, i_1000, i_1023, i_1600, i_2903, iI_neg]
    refine ⟨fun e => ⟨fun hx => absurd trivial hx, fun _ => ⟨⟨narI1, fitI1⟩, fun _ => h1 e, fun hx => absurd trivial hx⟩⟩, fun e => ⟨fun _ => ⟨⟨narI0, fitI0⟩, fun hx => absurd hx (by decide), fun _ => h2 e⟩, fun hx => absurd hx (by decide)⟩⟩
  unfold P_X1_endNumber P_X1_endNumber_J46
  simp (disch := omega) only [iI_add, iI_sub, iI_mul, iI_neg, iI_lt, iI_le, iI_eq, iI_cl, aI_at, aI_up, aI_l0, aI_l1, aI_l2, aI_l3, i_m9, i_m1, i_0, i_1, i_2, i_3, i_4, i_5, i_6, i_7, i_8, i_9, i_10, i_11, i_12, i_13, i_14, i_15, i_16, i_17, i_18, i_19, i_20, i_21, i_22, i_23, i_24, i_25, i_26, i_27, i_28, i_29, i_30, i_31, i_32, i_33, i_34, i_35, i_36, i_37, i_38, i_39, i_40, i_41, i_42, i_43, i_44, i_45, i_46, i_47, i_48, i_49, i_50, i_51, i_52, i_53, i_54, i_55, i_56, i_57, i_58, i_59, i_60, i_61, i_62, i_63, i_64, i_65, i_66, i_67, i_68, i_69, i_70, i_72, i_77, i_78, i_80, i_81, i_82, i_83, i_84, i_87, i_88, i_96, i_98, i_100, i_101, i_103, i_118, i_119, i_126, i_133, i_137, i_144, i_154, i_158, i_160, i_190, i_199, i_200, i_207, i_209, i_213, i_229, i_252, i_254, i_255, i_260, i_282, i_303, i_304, i_321, i_348, i_435, i_492, i_522, i_1000, i_1023, i_1600, i_2903, iI_neg]
  refine ⟨fun hx => absurd hx (by omega), fun _ => ⟨fun hx => absurd hx (by omega), fun _ => ⟨fun hm0 => ⟨iI_in (by omega) (by omega) (by omega), ?_⟩, fun hm1 => ⟨iI_in (by omega) (by omega) (by omega), ?_⟩⟩⟩⟩
  · rw [if_pos hm0] at hJ; exact hJ
  · rw [if_neg hm1] at hJ; exact hJ
theorem s_X1_takeDigit {c k p v : Int} {Q : Int32 → Int32 → Prop} (hk : KP k p) (v0 : -1 ≤ v) (v1 : v ≤ 199) (c0 : 48 ≤ c) (c1 : c ≤ 57)
    (h1 : v ≠ 0 ∧ leR k p ≤ diR c v ∧ diR c v ≤ moR k p → Q (iI 1) (iI (diR c v))) (h0 : ¬ (v ≠ 0 ∧ leR k p ≤ diR c v ∧ diR c v ≤ moR k p) → Q (iI 0) (iI v)) : P_X1_takeDigit (iI (c - 48)) (iI k) (iI p) (iI v) Q := by
  have hl := leR_01 k p
  have hm := moR_rng k p
  have hd : -100 ≤ diR c v ∧ diR c v ≤ 3000 := by unfold diR; split <;> omega
  have hJ : v ≠ 0 → P_X1_takeDigit_J30 (iI k) (iI p) (iI v) Q (iI (diR c v)) := by
    intro hv
    unfold P_X1_takeDigit_J30
    simp only [i_m9, i_m1, i_0, i_1, i_2, i_3, i_4, i_5, i_6, i_7, i_8, i_9, i_10, i_11, i_12, i_13, i_14, i_15, i_16, i_17, i_18, i_19, i_20, i_21, i_22, i_23, i_24, i_25, i_26, i_27, i_28, i_29, i_30, i_31, i_32, i_33, i_34, i_35, i_36, i_37, i_38, i_39, i_40, i_41, i_42, i_43, i_44, i_45, i_46, i_47, i_48, i_49, i_50, i_51, i_52, i_53, i_54, i_55, i_56, i_57, i_58, i_59, i_60, i_61, i_62, i_63, i_64, i_65, i_66, i_67, i_68, i_69, i_70, i_72, i_77, i_78, i_80, i_81, i_82, i_83, i_84, i_87, i_88, i_96, i_98, i_100, i_101, i_103, i_118, i_119, i_126, i_133, i_137, i_144, i_154, i_158, i_160, i_190, i_199, i_200, i_207, i_209, i_213, i_229, i_252, i_254, i_255, i_260, i_282, i_303, i_304, i_321, i_348, i_435, i_492, i_522, i_1000, i_1023, i_1600, i_2903, iI_neg]
    refine s_X1_least hk ?_
    simp (disch := omega) only [iI_lt]
    refine ⟨fun e => h0 (by omega), fun e => s_X1_most hk ?_⟩
    simp (disch := omega) only [iI_le]
    exact ⟨fun e2 => h1 ⟨hv, by omega, e2⟩, fun e2 => h0 (by omega)⟩
  unfold P_X1_takeDigit
  simp (disch := omega) only [iI_add, iI_sub, iI_mul, iI_neg, iI_lt, iI_le, iI_eq, iI_cl, aI_at, aI_up, aI_l0, aI_l1, aI_l2, aI_l3, i_m9, i_m1, i_0, i_1, i_2, i_3, i_4, i_5, i_6, i_7, i_8, i_9, i_10, i_11, i_12, i_13, i_14, i_15, i_16, i_17, i_18, i_19, i_20, i_21, i_22, i_23, i_24, i_25, i_26, i_27, i_28, i_29, i_30, i_31, i_32, i_33, i_34, i_35, i_36, i_37, i_38, i_39, i_40, i_41, i_42, i_43, i_44, i_45, i_46, i_47, i_48, i_49, i_50, i_51, i_52, i_53, i_54, i_55, i_56, i_57, i_58, i_59, i_60, i_61, i_62, i_63, i_64, i_65, i_66, i_67, i_68, i_69, i_70, i_72, i_77, i_78, i_80, i_81, i_82, i_83, i_84, i_87, i_88, i_96, i_98, i_100, i_101, i_103, i_118, i_119, i_126, i_133, i_137, i_144, i_154, i_158, i_160, i_190, i_199, i_200, i_207, i_209, i_213, i_229, i_252, i_254, i_255, i_260, i_282, i_303, i_304, i_321, i_348, i_435, i_492, i_522, i_1000, i_1023, i_1600, i_2903, iI_neg]
  refine ⟨fun e => ⟨fun e2 => ?_, fun e2 => ?_⟩, fun e => h0 (fun hx => hx.1 e)⟩
  · have := hJ e
    unfold diR at this
    rw [if_neg e2] at this
    exact this
  · have := hJ e
    unfold diR at this
    rw [if_pos e2] at this
    exact this
theorem s_X1_takeMinus {k p v m : Int} {Q : Int32 → Int32 → Prop} (hk : KP k p) (v0 : -1 ≤ v) (v1 : v ≤ 199) (hm : m = 0 ∨ m = 1)
    (h1 : k = 98 ∧ p = 2 ∧ m = 0 ∧ v = -1 → Q (iI 1) (iI 1)) (h0 : ¬ (k = 98 ∧ p = 2 ∧ m = 0 ∧ v = -1) → Q (iI 0) (iI m)) : P_X1_takeMinus (iI k) (iI p) (iI v) (iI m) Q := by
  have hk2 := hk
  unfold KP at hk2
  unfold P_X1_takeMinus P_X1_takeMinus_J21 P_X1_takeMinus_J22
  simp (disch := omega) only [iI_eq, i_m9, i_m1, i_0, i_1, i_2, i_3, i_4, i_5, i_6, i_7, i_8, i_9, i_10, i_11, i_12, i_13, i_14, i_15, i_16, i_17, i_18, i_19, i_20, i_21, i_22, i_23, i_24, i_25, i_26, i_27, i_28, i_29, i_30, i_31, i_32, i_33, i_34, i_35, i_36, i_37, i_38, i_39, i_40, i_41, i_42, i_43, i_44, i_45, i_46, i_47, i_48, i_49, i_50, i_51, i_52, i_53, i_54, i_55, i_56, i_57, i_58, i_59, i_60, i_61, i_62, i_63, i_64, i_65, i_66, i_67, i_68, i_69, i_70, i_72, i_77, i_78, i_80, i_81, i_82, i_83, i_84, i_87, i_88, i_96, i_98, i_100, i_101, i_103, i_118, i_119, i_126, i_133, i_137, i_144, i_154, i_158, i_160, i_190, i_199, i_200, i_207, i_209, i_213, i_229, i_252, i_254, i_255, i_260, i_282, i_303, i_304, i_321, i_348, i_435, i_492, i_522, i_1000, i_1023, i_1600, i_2903, iI_neg]
  refine ⟨fun e => ⟨fun _ => h0 (by omega), fun hx => absurd trivial hx⟩, fun e => ⟨fun e2 => ⟨fun _ => h0 (by omega), fun hx => absurd trivial hx⟩, fun e2 => ⟨fun hx => absurd hx (by omega), fun _ => ⟨fun e3 => h0 (by omega), fun e3 => ⟨fun e4 => h1 (by omega), fun e4 => h0 (by omega)⟩⟩⟩⟩⟩
theorem s_X1_feed {c : Int} {s : Rd} {Q : Int32 → (Nat → Int32) → Int32 → Int32 → Int32 → Int32 → Int32 → Prop} (hr : RV s) (c0 : 33 ≤ c) (c1 : c ≤ 126)
    (h : Q (iI (fd c s).1) (aI (rN (fd c s).2)) (iI (rK (fd c s).2)) (iI (rO (fd c s).2)) (iI (rP (fd c s).2)) (iI (rV (fd c s).2)) (iI (rM (fd c s).2))) :
    P_X1_feed (iI c) (aI (rN s)) (iI (rK s)) (iI (rO s)) (iI (rP s)) (iI (rV s)) (iI (rM s)) Q := by
  obtain ⟨k, o, p, v, m, N⟩ := s
  rw [fd_x] at h
  have hr2 : o = 0 ∨ (o = 1 ∧ KP k p ∧ (-1 ≤ v ∧ v ≤ 199) ∧ (m = 0 ∨ m = 1)) := hr
  show P_X1_feed (iI c) (aI N) (iI k) (iI o) (iI p) (iI v) (iI m) Q
  unfold P_X1_feed
  rcases hr2 with rfl | ⟨rfl, hk, ⟨v0, v1⟩, hm⟩
  · refine ⟨fun hx => absurd rfl hx, fun _ => ?_⟩
    unfold P_X1_startOrder P_X1_startOrder_J14 P_X1_startNumber
    simp (disch := omega) only [iI_eq, i_m9, i_m1, i_0, i_1, i_2, i_3, i_4, i_5, i_6, i_7, i_8, i_9, i_10, i_11, i_12, i_13, i_14, i_15, i_16, i_17, i_18, i_19, i_20, i_21, i_22, i_23, i_24, i_25, i_26, i_27, i_28, i_29, i_30, i_31, i_32, i_33, i_34, i_35, i_36, i_37, i_38, i_39, i_40, i_41, i_42, i_43, i_44, i_45, i_46, i_47, i_48, i_49, i_50, i_51, i_52, i_53, i_54, i_55, i_56, i_57, i_58, i_59, i_60, i_61, i_62, i_63, i_64, i_65, i_66, i_67, i_68, i_69, i_70, i_72, i_77, i_78, i_80, i_81, i_82, i_83, i_84, i_87, i_88, i_96, i_98, i_100, i_101, i_103, i_118, i_119, i_126, i_133, i_137, i_144, i_154, i_158, i_160, i_190, i_199, i_200, i_207, i_209, i_213, i_229, i_252, i_254, i_255, i_260, i_282, i_303, i_304, i_321, i_348, i_435, i_492, i_522, i_1000, i_1023, i_1600, i_2903, iI_neg]
    unfold fdX at h
    rw [if_pos rfl] at h
    refine ⟨fun e => ?_, fun e => ⟨fun e2 => ?_, fun e2 => ?_⟩⟩
    · rw [if_pos (by omega)] at h; exact h
    · rw [if_pos (by omega)] at h; exact h
    · rw [if_neg (by omega)] at h; exact h
  · refine ⟨fun _ => ?_, fun hx => absurd hx (by decide)⟩
    have hJ : ¬ (48 ≤ c ∧ c ≤ 57) → P_X1_feed_J34 (aI N) (iI k) (iI 1) (iI p) (iI v) (iI m) Q (iI c) := by
      intro hd
      unfold fdX at h
      rw [if_neg (by decide), if_neg hd] at h
      unfold P_X1_feed_J34
      have he := enR_3 k p
      simp (disch := omega) only [iI_eq, i_m9, i_m1, i_0, i_1, i_2, i_3, i_4, i_5, i_6, i_7, i_8, i_9, i_10, i_11, i_12, i_13, i_14, i_15, i_16, i_17, i_18, i_19, i_20, i_21, i_22, i_23, i_24, i_25, i_26, i_27, i_28, i_29, i_30, i_31, i_32, i_33, i_34, i_35, i_36, i_37, i_38, i_39, i_40, i_41, i_42, i_43, i_44, i_45, i_46, i_47, i_48, i_49, i_50, i_51, i_52, i_53, i_54, i_55, i_56, i_57, i_58, i_59, i_60, i_61, i_62, i_63, i_64, i_65, i_66, i_67, i_68, i_69, i_70, i_72, i_77, i_78, i_80, i_81, i_82, i_83, i_84, i_87, i_88, i_96, i_98, i_100, i_101, i_103, i_118, i_119, i_126, i_133, i_137, i_144, i_154, i_158, i_160, i_190, i_199, i_200, i_207, i_209, i_213, i_229, i_252, i_254, i_255, i_260, i_282, i_303, i_304, i_321, i_348, i_435, i_492, i_522, i_1000, i_1023, i_1600, i_2903, iI_neg]
      refine ⟨fun e => ⟨fun e2 => ?_, fun e2 => s_X1_endCode hk ?_⟩, fun e => s_X1_takeMinus hk v0 v1 hm (fun e2 => ?_) (fun e2 => ?_)⟩
      · rw [if_neg e, if_neg (by omega)] at h; exact h
      · simp (disch := omega) only [iI_eq]
        refine ⟨fun e3 => ?_, fun e3 => s_X1_endNumber hk v0 v1 hm (fun e4 => ?_) (fun e4 => ?_)⟩
        · rw [if_neg e, if_neg (by omega)] at h; exact h
        · rw [if_neg e, if_pos ⟨e2, e3⟩, if_neg e4] at h; exact h
        · rw [if_neg e, if_pos ⟨e2, e3⟩, if_pos e4] at h; exact h
      · rw [if_pos e, if_pos e2] at h; exact h
      · rw [if_pos e, if_neg e2] at h; exact h
    simp (disch := omega) only [iI_lt, iI_sub, i_m9, i_m1, i_0, i_1, i_2, i_3, i_4, i_5, i_6, i_7, i_8, i_9, i_10, i_11, i_12, i_13, i_14, i_15, i_16, i_17, i_18, i_19, i_20, i_21, i_22, i_23, i_24, i_25, i_26, i_27, i_28, i_29, i_30, i_31, i_32, i_33, i_34, i_35, i_36, i_37, i_38, i_39, i_40, i_41, i_42, i_43, i_44, i_45, i_46, i_47, i_48, i_49, i_50, i_51, i_52, i_53, i_54, i_55, i_56, i_57, i_58, i_59, i_60, i_61, i_62, i_63, i_64, i_65, i_66, i_67, i_68, i_69, i_70, i_72, i_77, i_78, i_80, i_81, i_82, i_83, i_84, i_87, i_88, i_96, i_98, i_100, i_101, i_103, i_118, i_119, i_126, i_133, i_137, i_144, i_154, i_158, i_160, i_190, i_199, i_200, i_207, i_209, i_213, i_229, i_252, i_254, i_255, i_260, i_282, i_303, i_304, i_321, i_348, i_435, i_492, i_522, i_1000, i_1023, i_1600, i_2903, iI_neg]
    refine ⟨fun e => hJ (by omega), fun e => ⟨fun e2 => hJ (by omega), fun e2 => s_X1_takeDigit hk v0 v1 (by omega) (by omega) (fun e3 => ?_) (fun e3 => ?_)⟩⟩
    · unfold fdX at h
      rw [if_neg (by decide), if_pos (by omega), if_pos e3] at h; exact h
    · unfold fdX at h
      rw [if_neg (by decide), if_pos (by omega), if_neg e3] at h; exact h
theorem fd_RV {c : Int} {s : Rd} (hr : RV s) (c0 : 33 ≤ c) (c1 : c ≤ 126) : RV (fd c s).2 := by
  obtain ⟨k, o, p, v, m, N⟩ := s
  have hr2 : o = 0 ∨ (o = 1 ∧ KP k p ∧ (-1 ≤ v ∧ v ≤ 199) ∧ (m = 0 ∨ m = 1)) := hr
  rw [fd_x]
  unfold fdX
  rcases hr2 with rfl | ⟨rfl, hk, ⟨v0, v1⟩, hm⟩
  · rw [if_pos rfl]
    by_cases e : c = 119 ∨ c = 98
    · rw [if_pos e]
      exact Or.inr ⟨rfl, by show KP c 0; unfold KP; omega, ⟨by show (-1 : Int) ≤ -1; omega, by show (-1 : Int) ≤ 199; omega⟩, Or.inl rfl⟩
    · rw [if_neg e]; exact hr
  · rw [if_neg (by decide)]
    have hl := leR_01 k p
    have hmo := moR_rng k p
    by_cases e : 48 ≤ c ∧ c ≤ 57
    · rw [if_pos e]
      by_cases e2 : v ≠ 0 ∧ leR k p ≤ diR c v ∧ diR c v ≤ moR k p
      · rw [if_pos e2]
        exact Or.inr ⟨rfl, hk, ⟨by show -1 ≤ diR c v; omega, by show diR c v ≤ 199; omega⟩, hm⟩
      · rw [if_neg e2]; exact hr
    · rw [if_neg e]
      by_cases e3 : c = 45
      · rw [if_pos e3]
        by_cases e4 : k = 98 ∧ p = 2 ∧ m = 0 ∧ v = -1
        · rw [if_pos e4]; exact Or.inr ⟨rfl, hk, ⟨v0, v1⟩, Or.inr rfl⟩
        · rw [if_neg e4]; exact hr
      · rw [if_neg e3]
        by_cases e4 : v ≠ -1 ∧ c = enR k p
        · rw [if_pos e4]
          by_cases e5 : enR k p = 59
          · rw [if_pos e5]; exact Or.inl rfl
          · rw [if_neg e5]; exact Or.inr ⟨rfl, enR_more hk e5, ⟨by show (-1 : Int) ≤ -1; omega, by show (-1 : Int) ≤ 199; omega⟩, Or.inl rfl⟩
        · rw [if_neg e4]; exact hr
/-- ";" ends an order or is an error -/
theorem fd_59 (s : Rd) : (fd 59 s).1 = 0 ∨ (fd 59 s).1 = 2 := by
  obtain ⟨k, o, p, v, m, N⟩ := s
  rw [fd_x]
  unfold fdX
  by_cases h : o = 0
  · rw [if_pos h, if_neg (by omega)]; exact Or.inl rfl
  · rw [if_neg h, if_neg (by omega), if_neg (by omega)]
    by_cases e : v ≠ -1 ∧ 59 = enR k p
    · rw [if_pos e, if_pos (by omega)]; exact Or.inr rfl
    · rw [if_neg e]; exact Or.inl rfl
theorem fd_012 (c : Int) (s : Rd) : (fd c s).1 = 0 ∨ (fd c s).1 = 1 ∨ (fd c s).1 = 2 := by
  obtain ⟨k, o, p, v, m, N⟩ := s
  rw [fd_x]
  unfold fdX
  repeat' split
  all_goals first | exact Or.inl rfl | exact Or.inr (Or.inl rfl) | exact Or.inr (Or.inr rfl)
