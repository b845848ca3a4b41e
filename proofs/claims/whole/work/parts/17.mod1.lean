def bi (b : Bool) : Int := if b then 1 else 0
theorem bi_rng (b : Bool) : 0 ≤ bi b ∧ bi b ≤ 1 := by cases b <;> decide
theorem bi_t {b : Bool} (h : b = true) : bi b = 1 := by rw [h]; rfl
theorem bi_f {b : Bool} (h : b = false) : bi b = 0 := by rw [h]; rfl
theorem bi_0 (b : Bool) : (bi b = 0) = (b = false) := by cases b <;> simp [bi]
theorem bi_nar (b : Bool) : narrow .boolean (.int (iI (bi b))) = .int (iI (bi b)) := narZ (by cases b; exact Or.inl rfl; exact Or.inr rfl)
theorem bi_fit (b : Bool) : fits .boolean (.int (iI (bi b))) = true := fitZ (by cases b; exact Or.inl rfl; exact Or.inr rfl)
theorem iI_bi0 (b : Bool) : (iI (bi b) = iI 0) = (b = false) := by
  rw [iI_eq (by have := bi_rng b; omega) (by have := bi_rng b; omega) (by omega) (by omega), bi_0]
theorem aI_l0 (f : Int → Int) : aI f 0 = iI (f 0) := rfl
theorem aI_l1 (f : Int → Int) : aI f 1 = iI (f 1) := rfl
theorem aI_l2 (f : Int → Int) : aI f 2 = iI (f 2) := rfl
theorem aI_l3 (f : Int → Int) : aI f 3 = iI (f 3) := rfl
/-- a branch on what a Bool says -/
theorem br_b {b : Bool} {A B : Prop} (h1 : b = false → A) (h2 : b = true → B) : (iI (bi b) = iI 0 → A) ∧ (¬ iI (bi b) = iI 0 → B) := by
  rw [iI_bi0]
  exact ⟨h1, fun h => h2 (by cases b; exact absurd rfl h; rfl)⟩
theorem br_b' {b : Bool} {A B : Prop} (h1 : b = false → A) (h2 : b = true → B) : (¬ iI (bi b) = iI 0 → B) ∧ (iI (bi b) = iI 0 → A) := ⟨(br_b h1 h2).2, (br_b h1 h2).1⟩
/-- v lies from lo to hi -/
def inn (v lo hi : Int) : Bool := decide (lo ≤ v) && decide (v ≤ hi)
theorem inn_iff (v lo hi : Int) : inn v lo hi = true ↔ lo ≤ v ∧ v ≤ hi := by simp [inn]
theorem inn_f {v lo hi : Int} : inn v lo hi = false ↔ v < lo ∨ hi < v := by
  rw [← Bool.not_eq_true, inn_iff]; omega
theorem s_X4_in {v lo hi : Int} {Q : Int32 → Prop} (a1 : -2147483648 ≤ v) (a2 : v < 2147483648) (b1 : -2147483648 ≤ lo) (b2 : lo < 2147483648) (c1 : -2147483648 ≤ hi) (c2 : hi < 2147483648) (h : Q (iI (bi (inn v lo hi)))) : P_X4_in (iI v) (iI lo) (iI hi) Q := by
  unfold P_X4_in
  simp (disch := omega) only [iI_add, iI_sub, iI_mul, iI_neg, iI_lt, iI_le, iI_eq, iI_cl, aI_at, aI_up, aI_l0, aI_l1, aI_l2, aI_l3, i_m9, i_m1, i_0, i_1, i_2, i_3, i_4, i_5, i_6, i_7, i_8, i_9, i_10, i_11, i_12, i_13, i_14, i_15, i_16, i_17, i_18, i_19, i_20, i_21, i_22, i_23, i_24, i_25, i_26, i_27, i_28, i_29, i_30, i_31, i_32, i_33, i_34, i_35, i_36, i_37, i_38, i_39, i_40, i_41, i_42, i_43, i_44, i_45, i_46, i_47, i_48, i_49, i_50, i_51, i_52, i_53, i_54, i_55, i_56, i_57, i_58, i_59, i_60, i_61, i_62, i_63, i_64, i_65, i_66, i_67, i_68, i_69, i_70, i_72, i_77, i_78, i_80, i_81, i_82, i_83, i_84, i_87, i_88, i_96, i_98, i_100, i_101, i_103, i_118, i_119, i_126, i_133, i_137, i_144, i_154, i_158, i_160, i_190, i_199, i_200, i_207, i_209, i_213, i_229, i_252, i_254, i_255, i_260, i_282, i_303, i_304, i_321, i_348, i_435, i_492, i_522, i_1000, i_1023, i_1600, i_2903, iI_neg]
  refine ⟨fun h1 => ?_, fun h1 => ⟨fun h2 => ?_, fun h2 => ?_⟩⟩
  · rwa [bi_f (inn_f.mpr (by omega))] at h
  · rwa [bi_f (inn_f.mpr (by omega))] at h
  · rwa [bi_t ((inn_iff _ _ _).mpr (by omega))] at h
theorem s_X4_isBeat {v : Int} {Q : Int32 → Prop} (a1 : -2147483648 ≤ v) (a2 : v < 2147483648) (h : Q (iI (bi (inn v 0 199)))) : P_X4_isBeat (iI v) Q := by
  unfold P_X4_isBeat
  simp only [i_m9, i_m1, i_0, i_1, i_2, i_3, i_4, i_5, i_6, i_7, i_8, i_9, i_10, i_11, i_12, i_13, i_14, i_15, i_16, i_17, i_18, i_19, i_20, i_21, i_22, i_23, i_24, i_25, i_26, i_27, i_28, i_29, i_30, i_31, i_32, i_33, i_34, i_35, i_36, i_37, i_38, i_39, i_40, i_41, i_42, i_43, i_44, i_45, i_46, i_47, i_48, i_49, i_50, i_51, i_52, i_53, i_54, i_55, i_56, i_57, i_58, i_59, i_60, i_61, i_62, i_63, i_64, i_65, i_66, i_67, i_68, i_69, i_70, i_72, i_77, i_78, i_80, i_81, i_82, i_83, i_84, i_87, i_88, i_96, i_98, i_100, i_101, i_103, i_118, i_119, i_126, i_133, i_137, i_144, i_154, i_158, i_160, i_190, i_199, i_200, i_207, i_209, i_213, i_229, i_252, i_254, i_255, i_260, i_282, i_303, i_304, i_321, i_348, i_435, i_492, i_522, i_1000, i_1023, i_1600, i_2903, iI_neg]
  exact s_X4_in a1 a2 (by omega) (by omega) (by omega) (by omega) ⟨bi_nar _, h⟩
theorem s_X4_isColumn {v : Int} {Q : Int32 → Prop} (a1 : -2147483648 ≤ v) (a2 : v < 2147483648) (h : Q (iI (bi (inn v 0 59)))) : P_X4_isColumn (iI v) Q := by
  unfold P_X4_isColumn
  simp only [i_m9, i_m1, i_0, i_1, i_2, i_3, i_4, i_5, i_6, i_7, i_8, i_9, i_10, i_11, i_12, i_13, i_14, i_15, i_16, i_17, i_18, i_19, i_20, i_21, i_22, i_23, i_24, i_25, i_26, i_27, i_28, i_29, i_30, i_31, i_32, i_33, i_34, i_35, i_36, i_37, i_38, i_39, i_40, i_41, i_42, i_43, i_44, i_45, i_46, i_47, i_48, i_49, i_50, i_51, i_52, i_53, i_54, i_55, i_56, i_57, i_58, i_59, i_60, i_61, i_62, i_63, i_64, i_65, i_66, i_67, i_68, i_69, i_70, i_72, i_77, i_78, i_80, i_81, i_82, i_83, i_84, i_87, i_88, i_96, i_98, i_100, i_101, i_103, i_118, i_119, i_126, i_133, i_137, i_144, i_154, i_158, i_160, i_190, i_199, i_200, i_207, i_209, i_213, i_229, i_252, i_254, i_255, i_260, i_282, i_303, i_304, i_321, i_348, i_435, i_492, i_522, i_1000, i_1023, i_1600, i_2903, iI_neg]
  exact s_X4_in a1 a2 (by omega) (by omega) (by omega) (by omega) ⟨bi_nar _, h⟩
theorem s_X4_isWord {v : Int} {f : Int → Int} {Q : Int32 → Prop} (a1 : -2147483648 ≤ v) (a2 : v < 2147483648) (h2 : 0 ≤ f 2 ∧ f 2 ≤ 8) (h : Q (iI (bi (inn v 0 (f 2 - 1))))) : P_X4_isWord (iI v) (aI f) Q := by
  unfold P_X4_isWord
  simp only [iI_add, iI_sub, iI_mul, iI_neg, iI_lt, iI_le, iI_eq, iI_cl, aI_at, aI_up, aI_l0, aI_l1, aI_l2, aI_l3, i_m9, i_m1, i_0, i_1, i_2, i_3, i_4, i_5, i_6, i_7, i_8, i_9, i_10, i_11, i_12, i_13, i_14, i_15, i_16, i_17, i_18, i_19, i_20, i_21, i_22, i_23, i_24, i_25, i_26, i_27, i_28, i_29, i_30, i_31, i_32, i_33, i_34, i_35, i_36, i_37, i_38, i_39, i_40, i_41, i_42, i_43, i_44, i_45, i_46, i_47, i_48, i_49, i_50, i_51, i_52, i_53, i_54, i_55, i_56, i_57, i_58, i_59, i_60, i_61, i_62, i_63, i_64, i_65, i_66, i_67, i_68, i_69, i_70, i_72, i_77, i_78, i_80, i_81, i_82, i_83, i_84, i_87, i_88, i_96, i_98, i_100, i_101, i_103, i_118, i_119, i_126, i_133, i_137, i_144, i_154, i_158, i_160, i_190, i_199, i_200, i_207, i_209, i_213, i_229, i_252, i_254, i_255, i_260, i_282, i_303, i_304, i_321, i_348, i_435, i_492, i_522, i_1000, i_1023, i_1600, i_2903, iI_neg]
  exact s_X4_in a1 a2 (by omega) (by omega) (by omega) (by omega) ⟨bi_nar _, h⟩
theorem s_X4_isBeam {v : Int} {f : Int → Int} {Q : Int32 → Prop} (a1 : -2147483648 ≤ v) (a2 : v < 2147483648) (h2 : 0 ≤ f 3 ∧ f 3 ≤ 7) (h : Q (iI (bi (inn v 0 (f 3 - 1))))) : P_X4_isBeam (iI v) (aI f) Q := by
  unfold P_X4_isBeam
  simp only [iI_add, iI_sub, iI_mul, iI_neg, iI_lt, iI_le, iI_eq, iI_cl, aI_at, aI_up, aI_l0, aI_l1, aI_l2, aI_l3, i_m9, i_m1, i_0, i_1, i_2, i_3, i_4, i_5, i_6, i_7, i_8, i_9, i_10, i_11, i_12, i_13, i_14, i_15, i_16, i_17, i_18, i_19, i_20, i_21, i_22, i_23, i_24, i_25, i_26, i_27, i_28, i_29, i_30, i_31, i_32, i_33, i_34, i_35, i_36, i_37, i_38, i_39, i_40, i_41, i_42, i_43, i_44, i_45, i_46, i_47, i_48, i_49, i_50, i_51, i_52, i_53, i_54, i_55, i_56, i_57, i_58, i_59, i_60, i_61, i_62, i_63, i_64, i_65, i_66, i_67, i_68, i_69, i_70, i_72, i_77, i_78, i_80, i_81, i_82, i_83, i_84, i_87, i_88, i_96, i_98, i_100, i_101, i_103, i_118, i_119, i_126, i_133, i_137, i_144, i_154, i_158, i_160, i_190, i_199, i_200, i_207, i_209, i_213, i_229, i_252, i_254, i_255, i_260, i_282, i_303, i_304, i_321, i_348, i_435, i_492, i_522, i_1000, i_1023, i_1600, i_2903, iI_neg]
  exact s_X4_in a1 a2 (by omega) (by omega) (by omega) (by omega) ⟨bi_nar _, h⟩
theorem s_X4_of {w i : Int} {f : Int → Int} {Q : Int32 → Prop} (a1 : 0 ≤ 4 + 6 * w + i) (a2 : 4 + 6 * w + i < 87) (h : Q (iI (f (4 + 6 * w + i)))) : P_X4_of (iI w) (iI i) (aI f) Q := by
  unfold P_X4_of
  simp (disch := omega) only [iI_add, iI_sub, iI_mul, iI_neg, iI_lt, iI_le, iI_eq, iI_cl, aI_at, aI_up, aI_l0, aI_l1, aI_l2, aI_l3, i_m9, i_m1, i_0, i_1, i_2, i_3, i_4, i_5, i_6, i_7, i_8, i_9, i_10, i_11, i_12, i_13, i_14, i_15, i_16, i_17, i_18, i_19, i_20, i_21, i_22, i_23, i_24, i_25, i_26, i_27, i_28, i_29, i_30, i_31, i_32, i_33, i_34, i_35, i_36, i_37, i_38, i_39, i_40, i_41, i_42, i_43, i_44, i_45, i_46, i_47, i_48, i_49, i_50, i_51, i_52, i_53, i_54, i_55, i_56, i_57, i_58, i_59, i_60, i_61, i_62, i_63, i_64, i_65, i_66, i_67, i_68, i_69, i_70, i_72, i_77, i_78, i_80, i_81, i_82, i_83, i_84, i_87, i_88, i_96, i_98, i_100, i_101, i_103, i_118, i_119, i_126, i_133, i_137, i_144, i_154, i_158, i_160, i_190, i_199, i_200, i_207, i_209, i_213, i_229, i_252, i_254, i_255, i_260, i_282, i_303, i_304, i_321, i_348, i_435, i_492, i_522, i_1000, i_1023, i_1600, i_2903, iI_neg]
  exact ⟨iI_in a1 (by omega) (by omega), h⟩
theorem s_X4_by {w i : Int} {f : Int → Int} {Q : Int32 → Prop} (a1 : 0 ≤ 52 + 5 * w + i) (a2 : 52 + 5 * w + i < 87) (h : Q (iI (f (52 + 5 * w + i)))) : P_X4_by (iI w) (iI i) (aI f) Q := by
  unfold P_X4_by
  simp (disch := omega) only [iI_add, iI_sub, iI_mul, iI_neg, iI_lt, iI_le, iI_eq, iI_cl, aI_at, aI_up, aI_l0, aI_l1, aI_l2, aI_l3, i_m9, i_m1, i_0, i_1, i_2, i_3, i_4, i_5, i_6, i_7, i_8, i_9, i_10, i_11, i_12, i_13, i_14, i_15, i_16, i_17, i_18, i_19, i_20, i_21, i_22, i_23, i_24, i_25, i_26, i_27, i_28, i_29, i_30, i_31, i_32, i_33, i_34, i_35, i_36, i_37, i_38, i_39, i_40, i_41, i_42, i_43, i_44, i_45, i_46, i_47, i_48, i_49, i_50, i_51, i_52, i_53, i_54, i_55, i_56, i_57, i_58, i_59, i_60, i_61, i_62, i_63, i_64, i_65, i_66, i_67, i_68, i_69, i_70, i_72, i_77, i_78, i_80, i_81, i_82, i_83, i_84, i_87, i_88, i_96, i_98, i_100, i_101, i_103, i_118, i_119, i_126, i_133, i_137, i_144, i_154, i_158, i_160, i_190, i_199, i_200, i_207, i_209, i_213, i_229, i_252, i_254, i_255, i_260, i_282, i_303, i_304, i_321, i_348, i_435, i_492, i_522, i_1000, i_1023, i_1600, i_2903, iI_neg]
  exact ⟨iI_in a1 (by omega) (by omega), h⟩
def OKw (f : Int → Int) (w : Int) : Prop := (1 ≤ f (4 + 6 * w + 0) ∧ f (4 + 6 * w + 0) ≤ 12) ∧ (0 ≤ f (4 + 6 * w + 1) ∧ f (4 + 6 * w + 1) ≤ 7) ∧ (0 ≤ f (4 + 6 * w + 2) ∧ f (4 + 6 * w + 2) + f (4 + 6 * w + 0) ≤ 60) ∧ (0 ≤ f (4 + 6 * w + 3) ∧ f (4 + 6 * w + 3) ≤ 199) ∧ (0 ≤ f (4 + 6 * w + 4) ∧ f (4 + 6 * w + 4) ≤ 2) ∧ (0 ≤ f (4 + 6 * w + 5) ∧ f (4 + 6 * w + 5) ≤ 50)
def OKb (f : Int → Int) (b : Int) : Prop := (0 ≤ f (52 + 5 * b + 0) ∧ f (52 + 5 * b + 0) ≤ 199) ∧ (0 ≤ f (52 + 5 * b + 1) ∧ f (52 + 5 * b + 1) ≤ 59) ∧ (-9 ≤ f (52 + 5 * b + 2) ∧ f (52 + 5 * b + 2) ≤ 9) ∧ (1 ≤ f (52 + 5 * b + 3) ∧ f (52 + 5 * b + 3) ≤ 9) ∧ (1 ≤ f (52 + 5 * b + 4) ∧ f (52 + 5 * b + 4) ≤ 255)
/-- a good state, with at most mb beams -/
def OK (mb : Int) (f : Int → Int) : Prop := (1 ≤ f 0 ∧ f 0 ≤ 16) ∧ (0 ≤ f 1 ∧ f 1 ≤ 20) ∧ (0 ≤ f 2 ∧ f 2 ≤ 8) ∧ (0 ≤ f 3 ∧ f 3 ≤ mb) ∧ (∀ w, 0 ≤ w → w < f 2 → OKw f w) ∧ (∀ b, 0 ≤ b → b < f 3 → OKb f b)
theorem mulb {s a n : Int} (h1 : -9 ≤ s) (h2 : s ≤ 9) (h3 : 0 ≤ a) (h4 : a ≤ n) : -(9 * n) ≤ s * a ∧ s * a ≤ 9 * n := by
  have e1 := Int.mul_le_mul_of_nonneg_right h2 h3
  have e2 := Int.mul_le_mul_of_nonneg_right h1 h3
  omega
/-- the first column that a beam covers in a beat -/
def fst (f : Int → Int) (b t : Int) : Int := f (52 + 5 * b + 1) + f (52 + 5 * b + 2) * (t - f (52 + 5 * b + 0))
theorem fst_rng {f : Int → Int} {b t : Int} (hb : OKb f b) (h1 : f (52 + 5 * b + 0) ≤ t) (h2 : t ≤ 199) : -1791 ≤ fst f b t ∧ fst f b t ≤ 1850 := by
  obtain ⟨⟨a1, a2⟩, ⟨b1, b2⟩, ⟨c1, c2⟩, -⟩ := hb
  have := mulb c1 c2 (a := t - f (52 + 5 * b + 0)) (n := 199) (by omega) (by omega)
  unfold fst
  omega
theorem s_X4_first {b t : Int} {f : Int → Int} {Q : Int32 → Prop} (b0 : 0 ≤ b) (b1 : b < 7) (h : Q (iI (fst f b t))) : P_X4_first (iI b) (iI t) (aI f) Q := by
  unfold P_X4_first
  simp only [i_m9, i_m1, i_0, i_1, i_2, i_3, i_4, i_5, i_6, i_7, i_8, i_9, i_10, i_11, i_12, i_13, i_14, i_15, i_16, i_17, i_18, i_19, i_20, i_21, i_22, i_23, i_24, i_25, i_26, i_27, i_28, i_29, i_30, i_31, i_32, i_33, i_34, i_35, i_36, i_37, i_38, i_39, i_40, i_41, i_42, i_43, i_44, i_45, i_46, i_47, i_48, i_49, i_50, i_51, i_52, i_53, i_54, i_55, i_56, i_57, i_58, i_59, i_60, i_61, i_62, i_63, i_64, i_65, i_66, i_67, i_68, i_69, i_70, i_72, i_77, i_78, i_80, i_81, i_82, i_83, i_84, i_87, i_88, i_96, i_98, i_100, i_101, i_103, i_118, i_119, i_126, i_133, i_137, i_144, i_154, i_158, i_160, i_190, i_199, i_200, i_207, i_209, i_213, i_229, i_252, i_254, i_255, i_260, i_282, i_303, i_304, i_321, i_348, i_435, i_492, i_522, i_1000, i_1023, i_1600, i_2903, iI_neg]
  refine s_X4_by (by omega) (by omega) ?_
  refine s_X4_by (by omega) (by omega) ?_
  refine s_X4_by (by omega) (by omega) ?_
  simp only [iI_add, iI_sub, iI_mul]
  exact h
/-- whether a beam covers a column in a beat -/
def cov (f : Int → Int) (b t c : Int) : Bool := decide (f (52 + 5 * b + 0) ≤ t) && inn (c - fst f b t) 0 (f (52 + 5 * b + 3) - 1)
theorem s_X4_covers {b t c : Int} {f : Int → Int} {Q : Int32 → Prop} (b0 : 0 ≤ b) (b1 : b < 7) (hb : OKb f b) (t0 : 0 ≤ t) (t1 : t ≤ 199) (c0 : 0 ≤ c) (c1 : c ≤ 100) (h : Q (iI (bi (cov f b t c)))) : P_X4_covers (iI b) (iI t) (iI c) (aI f) Q := by
  unfold P_X4_covers
  simp only [i_m9, i_m1, i_0, i_1, i_2, i_3, i_4, i_5, i_6, i_7, i_8, i_9, i_10, i_11, i_12, i_13, i_14, i_15, i_16, i_17, i_18, i_19, i_20, i_21, i_22, i_23, i_24, i_25, i_26, i_27, i_28, i_29, i_30, i_31, i_32, i_33, i_34, i_35, i_36, i_37, i_38, i_39, i_40, i_41, i_42, i_43, i_44, i_45, i_46, i_47, i_48, i_49, i_50, i_51, i_52, i_53, i_54, i_55, i_56, i_57, i_58, i_59, i_60, i_61, i_62, i_63, i_64, i_65, i_66, i_67, i_68, i_69, i_70, i_72, i_77, i_78, i_80, i_81, i_82, i_83, i_84, i_87, i_88, i_96, i_98, i_100, i_101, i_103, i_118, i_119, i_126, i_133, i_137, i_144, i_154, i_158, i_160, i_190, i_199, i_200, i_207, i_209, i_213, i_229, i_252, i_254, i_255, i_260, i_282, i_303, i_304, i_321, i_348, i_435, i_492, i_522, i_1000, i_1023, i_1600, i_2903, iI_neg]
  obtain ⟨⟨q1, q2⟩, -, -, ⟨q3, q4⟩, -⟩ := id hb
  refine s_X4_by (by omega) (by omega) ?_
  simp (disch := omega) only [iI_lt]
  refine ⟨fun h1 => ?_, fun h1 => ?_⟩
  · rwa [bi_f (by unfold cov; rw [decide_eq_false (by omega)]; rfl)] at h
  · refine s_X4_first b0 b1 ?_
    refine s_X4_by (by omega) (by omega) ?_
    have hr := fst_rng hb (t := t) (by omega) t1
    simp only [iI_sub]
    refine s_X4_in (by omega) (by omega) (by omega) (by omega) (by omega) (by omega) ?_
    have e : cov f b t c = inn (c - fst f b t) 0 (f (52 + 5 * b + 3) - 1) := by unfold cov; rw [decide_eq_true (by omega)]; rfl
    rw [e] at h
    refine br_b (fun h2 => ?_) (fun h2 => ?_)
    · rwa [h2] at h
    · rwa [h2] at h
/-- whether a beam covers some column in a beat -/
def cos (f : Int → Int) (b t : Int) : Bool := decide (f (52 + 5 * b + 0) ≤ t) && (decide (fst f b t < 60) && decide (0 < fst f b t + f (52 + 5 * b + 3)))
theorem s_X4_coversSome {b t : Int} {f : Int → Int} {Q : Int32 → Prop} (b0 : 0 ≤ b) (b1 : b < 7) (hb : OKb f b) (t0 : 0 ≤ t) (t1 : t ≤ 199) (h : Q (iI (bi (cos f b t)))) : P_X4_coversSome (iI b) (iI t) (aI f) Q := by
  unfold P_X4_coversSome
  simp only [i_m9, i_m1, i_0, i_1, i_2, i_3, i_4, i_5, i_6, i_7, i_8, i_9, i_10, i_11, i_12, i_13, i_14, i_15, i_16, i_17, i_18, i_19, i_20, i_21, i_22, i_23, i_24, i_25, i_26, i_27, i_28, i_29, i_30, i_31, i_32, i_33, i_34, i_35, i_36, i_37, i_38, i_39, i_40, i_41, i_42, i_43, i_44, i_45, i_46, i_47, i_48, i_49, i_50, i_51, i_52, i_53, i_54, i_55, i_56, i_57, i_58, i_59, i_60, i_61, i_62, i_63, i_64, i_65, i_66, i_67, i_68, i_69, i_70, i_72, i_77, i_78, i_80, i_81, i_82, i_83, i_84, i_87, i_88, i_96, i_98, i_100, i_101, i_103, i_118, i_119, i_126, i_133, i_137, i_144, i_154, i_158, i_160, i_190, i_199, i_200, i_207, i_209, i_213, i_229, i_252, i_254, i_255, i_260, i_282, i_303, i_304, i_321, i_348, i_435, i_492, i_522, i_1000, i_1023, i_1600, i_2903, iI_neg]
  obtain ⟨⟨q1, q2⟩, -, -, ⟨q3, q4⟩, -⟩ := id hb
  refine s_X4_by (by omega) (by omega) ?_
  simp (disch := omega) only [iI_lt]
  refine ⟨fun h1 => ?_, fun h1 => ?_⟩
  · rwa [bi_f (by unfold cos; rw [decide_eq_false (by omega)]; rfl)] at h
  · have hr := fst_rng hb (t := t) (by omega) t1
    refine s_X4_first b0 b1 ?_
    simp (disch := omega) only [iI_le]
    refine ⟨fun h2 => ?_, fun h2 => ?_⟩
    · rwa [bi_f (by unfold cos; rw [decide_eq_false (p := fst f b t < 60) (by omega)]; simp)] at h
    · refine s_X4_first b0 b1 ?_
      refine s_X4_by (by omega) (by omega) ?_
      simp only [iI_add]
      simp (disch := omega) only [iI_le]
      refine ⟨fun h3 => ?_, fun h3 => ?_⟩
      · rwa [bi_f (by unfold cos; rw [decide_eq_false (p := 0 < fst f b t + f (52 + 5 * b + 3)) (by omega)]; simp)] at h
      · rwa [bi_t (by unfold cos; rw [decide_eq_true (p := f (52 + 5 * b + 0) ≤ t) (by omega), decide_eq_true (p := fst f b t < 60) (by omega), decide_eq_true (p := 0 < fst f b t + f (52 + 5 * b + 3)) (by omega)]; rfl)] at h
