/-- the reader of orders -/
abbrev Rd : Type := Int × Int × Int × Int × Int × (Int → Int)
abbrev Rd.k (s : Rd) : Int := s.1
abbrev Rd.o (s : Rd) : Int := s.2.1
abbrev Rd.p (s : Rd) : Int := s.2.2.1
abbrev Rd.v (s : Rd) : Int := s.2.2.2.1
abbrev Rd.m (s : Rd) : Int := s.2.2.2.2.1
abbrev Rd.N (s : Rd) : Int → Int := s.2.2.2.2.2
def moR (k p : Int) : Int := if k = 119 then (if p = 0 then 12 else if p = 1 then 7 else if p = 2 then 59 else 199) else (if p = 0 then 199 else if p = 1 then 59 else 9)
def enR (k p : Int) : Int := if k = 119 then (if p = 0 then 64 else if p = 3 then 59 else 44) else (if p = 2 then 59 else 44)
def leR (k p : Int) : Int := if k = 119 ∧ p = 0 then 1 else 0
def RV (s : Rd) : Prop := (s.o = 0) ∨ (s.o = 1 ∧ ((s.k = 119 ∧ 0 ≤ s.p ∧ s.p ≤ 3) ∨ (s.k = 98 ∧ 0 ≤ s.p ∧ s.p ≤ 2)) ∧ (-1 ≤ s.v ∧ s.v ≤ 199) ∧ (s.m = 0 ∨ s.m = 1))
def diR (c v : Int) : Int := if v = -1 then c - 48 else 10 * v + (c - 48)
def fd (c : Int) (s : Rd) : Int × Rd :=
  if s.o = 0 then (if c = 119 ∨ c = 98 then (1, ⟨c, 1, 0, -1, 0, s.N⟩) else (0, s))
  else if 48 ≤ c ∧ c ≤ 57 then (if s.v ≠ 0 ∧ leR s.k s.p ≤ diR c s.v ∧ diR c s.v ≤ moR s.k s.p then (1, ⟨s.k, s.o, s.p, diR c s.v, s.m, s.N⟩) else (0, s))
  else if c = 45 then (if s.k = 98 ∧ s.p = 2 ∧ s.m = 0 ∧ s.v = -1 then (1, ⟨s.k, s.o, s.p, s.v, 1, s.N⟩) else (0, s))
  else if s.v ≠ -1 ∧ c = enR s.k s.p then (if enR s.k s.p = 59 then (2, ⟨s.k, 0, s.p + 1, -1, 0, up s.N s.p (if s.m = 0 then s.v else -s.v)⟩) else (1, ⟨s.k, 1, s.p + 1, -1, 0, up s.N s.p (if s.m = 0 then s.v else -s.v)⟩))
  else (0, s)
theorem s_X1_least {k p : Int} {Q : Int32 → Prop} (hk : k = 119 ∨ k = 98) (p0 : 0 ≤ p) (p1 : p ≤ 3) (h : Q (iI (leR k p))) : P_X1_least (iI k) (iI p) Q := by
  unfold P_X1_least
  unfold leR at h
  simp (disch := omega) only [iI_eq, i_m9, i_m1, i_0, i_1, i_2, i_3, i_4, i_5, i_6, i_7, i_8, i_9, i_10, i_11, i_12, i_13, i_14, i_15, i_16, i_17, i_18, i_19, i_20, i_21, i_22, i_23, i_24, i_25, i_26, i_27, i_28, i_29, i_30, i_31, i_32, i_33, i_34, i_35, i_36, i_37, i_38, i_39, i_40, i_41, i_42, i_43, i_44, i_45, i_46, i_47, i_48, i_49, i_50, i_51, i_52, i_53, i_54, i_55, i_56, i_57, i_58, i_59, i_60, i_61, i_62, i_63, i_64, i_65, i_66, i_67, i_68, i_69, i_70, i_72, i_77, i_78, i_80, i_81, i_82, i_83, i_84, i_87, i_88, i_96, i_98, i_100, i_101, i_103, i_118, i_119, i_126, i_133, i_137, i_144, i_154, i_158, i_160, i_190, i_199, i_200, i_207, i_209, i_213, i_229, i_252, i_254, i_255, i_260, i_282, i_303, i_304, i_321, i_348, i_435, i_492, i_522, i_1000, i_1023, i_1600, i_2903, iI_neg]
  refine ⟨fun e => ?_, fun e => ⟨fun e2 => ?_, fun e2 => ?_⟩⟩
  · rw [if_neg (by omega)] at h; exact h
  · rw [if_neg (by omega)] at h; exact h
  · rw [if_pos (by omega)] at h; exact h
theorem s_X1_most {k p : Int} {Q : Int32 → Prop} (hk : (k = 119 ∧ 0 ≤ p ∧ p ≤ 3) ∨ (k = 98 ∧ 0 ≤ p ∧ p ≤ 2)) (h : Q (iI (moR k p))) : P_X1_most (iI k) (iI p) Q := by
  unfold P_X1_most
  unfold moR at h
  rcases hk with ⟨rfl, p0, p1⟩ | ⟨rfl, p0, p1⟩
  · have : p = 0 ∨ p = 1 ∨ p = 2 ∨ p = 3 := by omega
    rcases this with rfl | rfl | rfl | rfl <;> refine ⟨fun hx => absurd rfl hx, fun _ => ⟨fun hx => absurd hx (by decide), fun _ => ⟨fun hx => absurd hx (by decide), fun _ => ⟨by decide, h⟩⟩⟩⟩
  · have : p = 0 ∨ p = 1 ∨ p = 2 := by omega
    rcases this with rfl | rfl | rfl <;> refine ⟨fun _ => ⟨fun hx => absurd hx (by decide), fun _ => ⟨fun hx => absurd hx (by decide), fun _ => ⟨by decide, h⟩⟩⟩, fun hx => absurd hx (by decide)⟩
theorem s_X1_endCode {k p : Int} {Q : Int32 → Prop} (hk : (k = 119 ∧ 0 ≤ p ∧ p ≤ 3) ∨ (k = 98 ∧ 0 ≤ p ∧ p ≤ 2)) (h : Q (iI (enR k p))) : P_X1_endCode (iI k) (iI p) Q := by
  unfold P_X1_endCode
  unfold enR at h
  rcases hk with ⟨rfl, p0, p1⟩ | ⟨rfl, p0, p1⟩
  · have : p = 0 ∨ p = 1 ∨ p = 2 ∨ p = 3 := by omega
    rcases this with rfl | rfl | rfl | rfl <;> refine ⟨fun hx => absurd rfl hx, fun _ => ⟨fun hx => absurd hx (by decide), fun _ => ⟨fun hx => absurd hx (by decide), fun _ => ⟨by decide, h⟩⟩⟩⟩
  · have : p = 0 ∨ p = 1 ∨ p = 2 := by omega
    rcases this with rfl | rfl | rfl <;> refine ⟨fun _ => ⟨fun hx => absurd hx (by decide), fun _ => ⟨fun hx => absurd hx (by decide), fun _ => ⟨by decide, h⟩⟩⟩, fun hx => absurd hx (by decide)⟩
