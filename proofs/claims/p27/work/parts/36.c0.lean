/-- the class's cells c hold the state f -/
def Ag (c f : Int → Int) : Prop := (c 78 = f 0 ∧ c 79 = f 1 ∧ c 80 = f 2 ∧ c 81 = f 3) ∧ (∀ w i : Int, 0 ≤ w → w < f 2 → 0 ≤ i → i < 6 → c (w * 6 + i) = f (4 + 6 * w + i)) ∧ (∀ b i : Int, 0 ≤ b → b < f 3 → 0 ≤ i → i < 5 → c (48 + b * 5 + i) = f (52 + 5 * b + i))
theorem s_X0_words {c f : Int → Int} {Q : Int32 → Prop} (hA : Ag c f) (h : Q (iI (f 2))) : P_X0_words (aI c) Q := by
  show Q (iI (c 80))
  rw [hA.1.2.2.1]; exact h
theorem s_X0_beams {c f : Int → Int} {Q : Int32 → Prop} (hA : Ag c f) (h : Q (iI (f 3))) : P_X0_beams (aI c) Q := by
  show Q (iI (c 81))
  rw [hA.1.2.2.2]; exact h
theorem s_X0_ofWord {c f : Int → Int} {w i : Int} {Q : Int32 → Prop} (hA : Ag c f) (n2 : f 2 ≤ 8) (w0 : 0 ≤ w) (w1 : w < f 2) (i0 : 0 ≤ i) (i1 : i < 6) (h : Q (iI (f (4 + 6 * w + i)))) : P_X0_ofWord (iI w) (iI i) (aI c) Q := by
  have e := hA.2.1 w i w0 w1 i0 i1
  unfold P_X0_ofWord
  simp (disch := omega) only [iI_add, iI_sub, iI_mul, iI_neg, iI_lt, iI_le, iI_eq, iI_cl, aI_at, aI_up, aI_l0, aI_l1, aI_l2, aI_l3, i_m9, i_m1, i_0, i_1, i_2, i_3, i_4, i_5, i_6, i_7, i_8, i_9, i_10, i_11, i_12, i_13, i_14, i_15, i_16, i_17, i_18, i_19, i_20, i_21, i_22, i_23, i_24, i_25, i_26, i_27, i_28, i_29, i_30, i_31, i_32, i_33, i_34, i_35, i_36, i_37, i_38, i_39, i_40, i_41, i_42, i_43, i_44, i_45, i_46, i_47, i_48, i_49, i_50, i_51, i_52, i_53, i_54, i_55, i_56, i_57, i_58, i_59, i_60, i_61, i_62, i_63, i_64, i_65, i_66, i_67, i_68, i_69, i_70, i_72, i_77, i_78, i_80, i_81, i_82, i_83, i_84, i_87, i_88, i_96, i_98, i_100, i_101, i_103, i_118, i_119, i_126, i_133, i_137, i_144, i_154, i_158, i_160, i_190, i_199, i_200, i_207, i_209, i_213, i_229, i_252, i_254, i_255, i_260, i_282, i_303, i_304, i_321, i_348, i_435, i_492, i_522, i_1000, i_1023, i_1600, i_2903, iI_neg, e]
  exact ⟨fun hx => absurd hx (by omega), fun _ => ⟨fun hx => absurd hx (by omega), fun _ => ⟨iI_in (by omega) (by omega) (by omega), h⟩⟩⟩
theorem s_X0_ofBeam {c f : Int → Int} {b i : Int} {Q : Int32 → Prop} (hA : Ag c f) (n3 : f 3 ≤ 6) (b0 : 0 ≤ b) (b1 : b < f 3) (i0 : 0 ≤ i) (i1 : i < 5) (h : Q (iI (f (52 + 5 * b + i)))) : P_X0_ofBeam (iI b) (iI i) (aI c) Q := by
  have e := hA.2.2 b i b0 b1 i0 i1
  unfold P_X0_ofBeam
  simp (disch := omega) only [iI_add, iI_sub, iI_mul, iI_neg, iI_lt, iI_le, iI_eq, iI_cl, aI_at, aI_up, aI_l0, aI_l1, aI_l2, aI_l3, i_m9, i_m1, i_0, i_1, i_2, i_3, i_4, i_5, i_6, i_7, i_8, i_9, i_10, i_11, i_12, i_13, i_14, i_15, i_16, i_17, i_18, i_19, i_20, i_21, i_22, i_23, i_24, i_25, i_26, i_27, i_28, i_29, i_30, i_31, i_32, i_33, i_34, i_35, i_36, i_37, i_38, i_39, i_40, i_41, i_42, i_43, i_44, i_45, i_46, i_47, i_48, i_49, i_50, i_51, i_52, i_53, i_54, i_55, i_56, i_57, i_58, i_59, i_60, i_61, i_62, i_63, i_64, i_65, i_66, i_67, i_68, i_69, i_70, i_72, i_77, i_78, i_80, i_81, i_82, i_83, i_84, i_87, i_88, i_96, i_98, i_100, i_101, i_103, i_118, i_119, i_126, i_133, i_137, i_144, i_154, i_158, i_160, i_190, i_199, i_200, i_207, i_209, i_213, i_229, i_252, i_254, i_255, i_260, i_282, i_303, i_304, i_321, i_348, i_435, i_492, i_522, i_1000, i_1023, i_1600, i_2903, iI_neg, e]
  exact ⟨fun hx => absurd hx (by omega), fun _ => ⟨fun hx => absurd hx (by omega), fun _ => ⟨iI_in (by omega) (by omega) (by omega), h⟩⟩⟩
theorem s_X0_hasWord {c f : Int → Int} {w : Int} {Q : Int32 → Prop} (hA : Ag c f) (hw : I32 w) (n2 : 0 ≤ f 2 ∧ f 2 ≤ 8) (h0 : ¬ (0 ≤ w ∧ w < f 2) → Q (iI 0)) (h1 : 0 ≤ w ∧ w < f 2 → Q (iI 1)) : P_X0_hasWord (iI w) (aI c) Q := by
  obtain ⟨w0, w1⟩ := hw
  unfold P_X0_hasWord
  simp (disch := omega) only [iI_add, iI_sub, iI_mul, iI_neg, iI_lt, iI_le, iI_eq, iI_cl, aI_at, aI_up, aI_l0, aI_l1, aI_l2, aI_l3, i_m9, i_m1, i_0, i_1, i_2, i_3, i_4, i_5, i_6, i_7, i_8, i_9, i_10, i_11, i_12, i_13, i_14, i_15, i_16, i_17, i_18, i_19, i_20, i_21, i_22, i_23, i_24, i_25, i_26, i_27, i_28, i_29, i_30, i_31, i_32, i_33, i_34, i_35, i_36, i_37, i_38, i_39, i_40, i_41, i_42, i_43, i_44, i_45, i_46, i_47, i_48, i_49, i_50, i_51, i_52, i_53, i_54, i_55, i_56, i_57, i_58, i_59, i_60, i_61, i_62, i_63, i_64, i_65, i_66, i_67, i_68, i_69, i_70, i_72, i_77, i_78, i_80, i_81, i_82, i_83, i_84, i_87, i_88, i_96, i_98, i_100, i_101, i_103, i_118, i_119, i_126, i_133, i_137, i_144, i_154, i_158, i_160, i_190, i_199, i_200, i_207, i_209, i_213, i_229, i_252, i_254, i_255, i_260, i_282, i_303, i_304, i_321, i_348, i_435, i_492, i_522, i_1000, i_1023, i_1600, i_2903, iI_neg]
  refine ⟨fun e => h0 (by omega), fun e => s_X0_words hA ?_⟩
  simp (disch := omega) only [iI_add, iI_sub, iI_mul, iI_neg, iI_lt, iI_le, iI_eq, iI_cl, aI_at, aI_up, aI_l0, aI_l1, aI_l2, aI_l3]
  exact ⟨fun e => h0 (by omega), fun e => h1 (by omega)⟩
theorem s_X0_hasBeam {c f : Int → Int} {w : Int} {Q : Int32 → Prop} (hA : Ag c f) (hw : I32 w) (n2 : 0 ≤ f 3 ∧ f 3 ≤ 6) (h0 : ¬ (0 ≤ w ∧ w < f 3) → Q (iI 0)) (h1 : 0 ≤ w ∧ w < f 3 → Q (iI 1)) : P_X0_hasBeam (iI w) (aI c) Q := by
  obtain ⟨w0, w1⟩ := hw
  unfold P_X0_hasBeam
  simp (disch := omega) only [iI_add, iI_sub, iI_mul, iI_neg, iI_lt, iI_le, iI_eq, iI_cl, aI_at, aI_up, aI_l0, aI_l1, aI_l2, aI_l3, i_m9, i_m1, i_0, i_1, i_2, i_3, i_4, i_5, i_6, i_7, i_8, i_9, i_10, i_11, i_12, i_13, i_14, i_15, i_16, i_17, i_18, i_19, i_20, i_21, i_22, i_23, i_24, i_25, i_26, i_27, i_28, i_29, i_30, i_31, i_32, i_33, i_34, i_35, i_36, i_37, i_38, i_39, i_40, i_41, i_42, i_43, i_44, i_45, i_46, i_47, i_48, i_49, i_50, i_51, i_52, i_53, i_54, i_55, i_56, i_57, i_58, i_59, i_60, i_61, i_62, i_63, i_64, i_65, i_66, i_67, i_68, i_69, i_70, i_72, i_77, i_78, i_80, i_81, i_82, i_83, i_84, i_87, i_88, i_96, i_98, i_100, i_101, i_103, i_118, i_119, i_126, i_133, i_137, i_144, i_154, i_158, i_160, i_190, i_199, i_200, i_207, i_209, i_213, i_229, i_252, i_254, i_255, i_260, i_282, i_303, i_304, i_321, i_348, i_435, i_492, i_522, i_1000, i_1023, i_1600, i_2903, iI_neg]
  refine ⟨fun e => h0 (by omega), fun e => s_X0_beams hA ?_⟩
  simp (disch := omega) only [iI_add, iI_sub, iI_mul, iI_neg, iI_lt, iI_le, iI_eq, iI_cl, aI_at, aI_up, aI_l0, aI_l1, aI_l2, aI_l3]
  exact ⟨fun e => h0 (by omega), fun e => h1 (by omega)⟩
theorem s_X0_setting {c f : Int → Int} {i : Int} {Q : Int32 → Prop} (hA : Ag c f) (hi : i = 0 ∨ i = 1) (h : Q (iI (f i))) : P_X0_setting (iI i) (aI c) Q := by
  have e : c (78 + i) = f i := by
    rcases hi with rfl | rfl
    · exact hA.1.1
    · exact hA.1.2.1
  unfold P_X0_setting
  simp (disch := omega) only [iI_add, iI_sub, iI_mul, iI_neg, iI_lt, iI_le, iI_eq, iI_cl, aI_at, aI_up, aI_l0, aI_l1, aI_l2, aI_l3, i_m9, i_m1, i_0, i_1, i_2, i_3, i_4, i_5, i_6, i_7, i_8, i_9, i_10, i_11, i_12, i_13, i_14, i_15, i_16, i_17, i_18, i_19, i_20, i_21, i_22, i_23, i_24, i_25, i_26, i_27, i_28, i_29, i_30, i_31, i_32, i_33, i_34, i_35, i_36, i_37, i_38, i_39, i_40, i_41, i_42, i_43, i_44, i_45, i_46, i_47, i_48, i_49, i_50, i_51, i_52, i_53, i_54, i_55, i_56, i_57, i_58, i_59, i_60, i_61, i_62, i_63, i_64, i_65, i_66, i_67, i_68, i_69, i_70, i_72, i_77, i_78, i_80, i_81, i_82, i_83, i_84, i_87, i_88, i_96, i_98, i_100, i_101, i_103, i_118, i_119, i_126, i_133, i_137, i_144, i_154, i_158, i_160, i_190, i_199, i_200, i_207, i_209, i_213, i_229, i_252, i_254, i_255, i_260, i_282, i_303, i_304, i_321, i_348, i_435, i_492, i_522, i_1000, i_1023, i_1600, i_2903, iI_neg, e]
  exact ⟨fun hx => absurd hx (by omega), fun _ => ⟨fun hx => absurd hx (by omega), fun _ => ⟨iI_in (by omega) (by omega) (by omega), h⟩⟩⟩
theorem s_X0_letters {mb : Int} {c f : Int → Int} {Q : Int32 → Prop} (hA : Ag c f) (hf : OK mb f) (h : Q (iI (letS f))) : P_X0_letters (aI c) Q := by
  have n2 := hf.2.2.1
  have hW := hf.2.2.2.2.1
  have lp : ∀ (m n : Nat), (n : Int) + m = f 2 → P_X0_letters_L4 (aI c) Q (m + 1) (iI (sm (fun w => f (4 + 6 * w + 0)) n)) (iI n) := by
    intro m
    induction m with
    | zero =>
      intro n hn
      rw [P_X0_letters_L4_s]
      unfold B_X0_letters_L4
      refine s_X0_words hA ?_
      simp (disch := omega) only [iI_add, iI_sub, iI_mul, iI_neg, iI_lt, iI_le, iI_eq, iI_cl, aI_at, aI_up, aI_l0, aI_l1, aI_l2, aI_l3]
      refine ⟨fun _ => ?_, fun hx => absurd (by omega) hx⟩
      have e : (f 2).toNat = n := by omega
      unfold letS at h
      rwa [e] at h
    | succ m ih =>
      intro n hn
      rw [P_X0_letters_L4_s]
      unfold B_X0_letters_L4
      refine s_X0_words hA ?_
      simp (disch := omega) only [iI_add, iI_sub, iI_mul, iI_neg, iI_lt, iI_le, iI_eq, iI_cl, aI_at, aI_up, aI_l0, aI_l1, aI_l2, aI_l3, i_m9, i_m1, i_0, i_1, i_2, i_3, i_4, i_5, i_6, i_7, i_8, i_9, i_10, i_11, i_12, i_13, i_14, i_15, i_16, i_17, i_18, i_19, i_20, i_21, i_22, i_23, i_24, i_25, i_26, i_27, i_28, i_29, i_30, i_31, i_32, i_33, i_34, i_35, i_36, i_37, i_38, i_39, i_40, i_41, i_42, i_43, i_44, i_45, i_46, i_47, i_48, i_49, i_50, i_51, i_52, i_53, i_54, i_55, i_56, i_57, i_58, i_59, i_60, i_61, i_62, i_63, i_64, i_65, i_66, i_67, i_68, i_69, i_70, i_72, i_77, i_78, i_80, i_81, i_82, i_83, i_84, i_87, i_88, i_96, i_98, i_100, i_101, i_103, i_118, i_119, i_126, i_133, i_137, i_144, i_154, i_158, i_160, i_190, i_199, i_200, i_207, i_209, i_213, i_229, i_252, i_254, i_255, i_260, i_282, i_303, i_304, i_321, i_348, i_435, i_492, i_522, i_1000, i_1023, i_1600, i_2903, iI_neg]
      refine ⟨fun hx => absurd hx (by omega), fun _ => s_X0_ofWord hA (by omega) (by omega) (by omega) (by omega) (by omega) ?_⟩
      simp only [iI_add]
      have := ih (n + 1) (by omega)
      rw [nsucc, sm_s] at this
      exact this
  unfold P_X0_letters
  simp only [i_m9, i_m1, i_0, i_1, i_2, i_3, i_4, i_5, i_6, i_7, i_8, i_9, i_10, i_11, i_12, i_13, i_14, i_15, i_16, i_17, i_18, i_19, i_20, i_21, i_22, i_23, i_24, i_25, i_26, i_27, i_28, i_29, i_30, i_31, i_32, i_33, i_34, i_35, i_36, i_37, i_38, i_39, i_40, i_41, i_42, i_43, i_44, i_45, i_46, i_47, i_48, i_49, i_50, i_51, i_52, i_53, i_54, i_55, i_56, i_57, i_58, i_59, i_60, i_61, i_62, i_63, i_64, i_65, i_66, i_67, i_68, i_69, i_70, i_72, i_77, i_78, i_80, i_81, i_82, i_83, i_84, i_87, i_88, i_96, i_98, i_100, i_101, i_103, i_118, i_119, i_126, i_133, i_137, i_144, i_154, i_158, i_160, i_190, i_199, i_200, i_207, i_209, i_213, i_229, i_252, i_254, i_255, i_260, i_282, i_303, i_304, i_321, i_348, i_435, i_492, i_522, i_1000, i_1023, i_1600, i_2903, iI_neg]
  exact ⟨_, lp (f 2).toNat 0 (by omega)⟩
theorem s_X0_putCell {c : Int → Int} {a v : Int} {Q : (Nat → Int32) → Prop} (a0 : 0 ≤ a) (a1 : a < 82) (h : Q (aI (up c a v))) : P_X0_putCell (iI a) (iI v) (aI c) Q := by
  unfold P_X0_putCell
  simp (disch := omega) only [iI_add, iI_sub, iI_mul, iI_neg, iI_lt, iI_le, iI_eq, iI_cl, aI_at, aI_up, aI_l0, aI_l1, aI_l2, aI_l3, i_m9, i_m1, i_0, i_1, i_2, i_3, i_4, i_5, i_6, i_7, i_8, i_9, i_10, i_11, i_12, i_13, i_14, i_15, i_16, i_17, i_18, i_19, i_20, i_21, i_22, i_23, i_24, i_25, i_26, i_27, i_28, i_29, i_30, i_31, i_32, i_33, i_34, i_35, i_36, i_37, i_38, i_39, i_40, i_41, i_42, i_43, i_44, i_45, i_46, i_47, i_48, i_49, i_50, i_51, i_52, i_53, i_54, i_55, i_56, i_57, i_58, i_59, i_60, i_61, i_62, i_63, i_64, i_65, i_66, i_67, i_68, i_69, i_70, i_72, i_77, i_78, i_80, i_81, i_82, i_83, i_84, i_87, i_88, i_96, i_98, i_100, i_101, i_103, i_118, i_119, i_126, i_133, i_137, i_144, i_154, i_158, i_160, i_190, i_199, i_200, i_207, i_209, i_213, i_229, i_252, i_254, i_255, i_260, i_282, i_303, i_304, i_321, i_348, i_435, i_492, i_522, i_1000, i_1023, i_1600, i_2903, iI_neg]
  exact ⟨fun hx => absurd hx (by omega), fun _ => ⟨fun hx => absurd hx (by omega), fun _ => ⟨iI_in (by omega) (by omega) (by omega), h⟩⟩⟩
theorem s_X0_putWord {c : Int → Int} {w i v : Int} {Q : (Nat → Int32) → Prop} (w0 : 0 ≤ w) (w1 : w < 8) (i0 : 0 ≤ i) (i1 : i < 6) (h : Q (aI (up c (w * 6 + i) v))) : P_X0_putWord (iI w) (iI i) (iI v) (aI c) Q := by
  unfold P_X0_putWord
  simp only [iI_add, iI_mul, i_m9, i_m1, i_0, i_1, i_2, i_3, i_4, i_5, i_6, i_7, i_8, i_9, i_10, i_11, i_12, i_13, i_14, i_15, i_16, i_17, i_18, i_19, i_20, i_21, i_22, i_23, i_24, i_25, i_26, i_27, i_28, i_29, i_30, i_31, i_32, i_33, i_34, i_35, i_36, i_37, i_38, i_39, i_40, i_41, i_42, i_43, i_44, i_45, i_46, i_47, i_48, i_49, i_50, i_51, i_52, i_53, i_54, i_55, i_56, i_57, i_58, i_59, i_60, i_61, i_62, i_63, i_64, i_65, i_66, i_67, i_68, i_69, i_70, i_72, i_77, i_78, i_80, i_81, i_82, i_83, i_84, i_87, i_88, i_96, i_98, i_100, i_101, i_103, i_118, i_119, i_126, i_133, i_137, i_144, i_154, i_158, i_160, i_190, i_199, i_200, i_207, i_209, i_213, i_229, i_252, i_254, i_255, i_260, i_282, i_303, i_304, i_321, i_348, i_435, i_492, i_522, i_1000, i_1023, i_1600, i_2903, iI_neg]
  exact s_X0_putCell (by omega) (by omega) h
theorem s_X0_putBeam {c : Int → Int} {w i v : Int} {Q : (Nat → Int32) → Prop} (w0 : 0 ≤ w) (w1 : w < 6) (i0 : 0 ≤ i) (i1 : i < 5) (h : Q (aI (up c (48 + w * 5 + i) v))) : P_X0_putBeam (iI w) (iI i) (iI v) (aI c) Q := by
  unfold P_X0_putBeam
  simp only [iI_add, iI_mul, i_m9, i_m1, i_0, i_1, i_2, i_3, i_4, i_5, i_6, i_7, i_8, i_9, i_10, i_11, i_12, i_13, i_14, i_15, i_16, i_17, i_18, i_19, i_20, i_21, i_22, i_23, i_24, i_25, i_26, i_27, i_28, i_29, i_30, i_31, i_32, i_33, i_34, i_35, i_36, i_37, i_38, i_39, i_40, i_41, i_42, i_43, i_44, i_45, i_46, i_47, i_48, i_49, i_50, i_51, i_52, i_53, i_54, i_55, i_56, i_57, i_58, i_59, i_60, i_61, i_62, i_63, i_64, i_65, i_66, i_67, i_68, i_69, i_70, i_72, i_77, i_78, i_80, i_81, i_82, i_83, i_84, i_87, i_88, i_96, i_98, i_100, i_101, i_103, i_118, i_119, i_126, i_133, i_137, i_144, i_154, i_158, i_160, i_190, i_199, i_200, i_207, i_209, i_213, i_229, i_252, i_254, i_255, i_260, i_282, i_303, i_304, i_321, i_348, i_435, i_492, i_522, i_1000, i_1023, i_1600, i_2903, iI_neg]
  exact s_X0_putCell (by omega) (by omega) h
theorem s_X0_putSetting {c : Int → Int} {i v : Int} {Q : (Nat → Int32) → Prop} (hi : i = 0 ∨ i = 1) (h : Q (aI (up c (78 + i) v))) : P_X0_putSetting (iI i) (iI v) (aI c) Q := by
  unfold P_X0_putSetting
  simp only [iI_add, i_m9, i_m1, i_0, i_1, i_2, i_3, i_4, i_5, i_6, i_7, i_8, i_9, i_10, i_11, i_12, i_13, i_14, i_15, i_16, i_17, i_18, i_19, i_20, i_21, i_22, i_23, i_24, i_25, i_26, i_27, i_28, i_29, i_30, i_31, i_32, i_33, i_34, i_35, i_36, i_37, i_38, i_39, i_40, i_41, i_42, i_43, i_44, i_45, i_46, i_47, i_48, i_49, i_50, i_51, i_52, i_53, i_54, i_55, i_56, i_57, i_58, i_59, i_60, i_61, i_62, i_63, i_64, i_65, i_66, i_67, i_68, i_69, i_70, i_72, i_77, i_78, i_80, i_81, i_82, i_83, i_84, i_87, i_88, i_96, i_98, i_100, i_101, i_103, i_118, i_119, i_126, i_133, i_137, i_144, i_154, i_158, i_160, i_190, i_199, i_200, i_207, i_209, i_213, i_229, i_252, i_254, i_255, i_260, i_282, i_303, i_304, i_321, i_348, i_435, i_492, i_522, i_1000, i_1023, i_1600, i_2903, iI_neg]
  exact s_X0_putCell (by omega) (by omega) h
/-- the changes keep the agreement -/
theorem Ag_upw {c f : Int → Int} {w i v : Int} (hA : Ag c f) (n2 : f 2 ≤ 8) (n3 : f 3 ≤ 6) (w0 : 0 ≤ w) (w1 : w < f 2) (i0 : 0 ≤ i) (i1 : i < 6) : Ag (up c (w * 6 + i) v) (up f (4 + 6 * w + i) v) := by
  obtain ⟨⟨a0, a1, a2, a3⟩, a4, a5⟩ := hA
  refine ⟨⟨?_, ?_, ?_, ?_⟩, fun u j u0 u1 j0 j1 => ?_, fun b j b0 b1 j0 j1 => ?_⟩
  · rw [up_ne (by omega), up_ne (by omega)]; exact a0
  · rw [up_ne (by omega), up_ne (by omega)]; exact a1
  · rw [up_ne (by omega), up_ne (by omega)]; exact a2
  · rw [up_ne (by omega), up_ne (by omega)]; exact a3
  · rw [up_ne (by omega)] at u1
    by_cases e : u = w ∧ j = i
    · obtain ⟨rfl, rfl⟩ := e
      rw [up_eq, up_eq]
    · rw [up_ne (by omega), up_ne (by omega)]; exact a4 u j u0 u1 j0 j1
  · rw [up_ne (by omega)] at b1
    rw [up_ne (by omega), up_ne (by omega)]; exact a5 b j b0 b1 j0 j1
theorem Ag_upb {c f : Int → Int} {w i v : Int} (hA : Ag c f) (n2 : f 2 ≤ 8) (n3 : f 3 ≤ 6) (w0 : 0 ≤ w) (w1 : w < f 3) (i0 : 0 ≤ i) (i1 : i < 5) : Ag (up c (48 + w * 5 + i) v) (up f (52 + 5 * w + i) v) := by
  obtain ⟨⟨a0, a1, a2, a3⟩, a4, a5⟩ := hA
  refine ⟨⟨?_, ?_, ?_, ?_⟩, fun u j u0 u1 j0 j1 => ?_, fun b j b0 b1 j0 j1 => ?_⟩
  · rw [up_ne (by omega), up_ne (by omega)]; exact a0
  · rw [up_ne (by omega), up_ne (by omega)]; exact a1
  · rw [up_ne (by omega), up_ne (by omega)]; exact a2
  · rw [up_ne (by omega), up_ne (by omega)]; exact a3
  · rw [up_ne (by omega)] at u1
    rw [up_ne (by omega), up_ne (by omega)]; exact a4 u j u0 u1 j0 j1
  · rw [up_ne (by omega)] at b1
    by_cases e : b = w ∧ j = i
    · obtain ⟨rfl, rfl⟩ := e
      rw [up_eq, up_eq]
    · rw [up_ne (by omega), up_ne (by omega)]; exact a5 b j b0 b1 j0 j1
theorem Ag_ups {c f : Int → Int} {i v : Int} (hA : Ag c f) (n2 : f 2 ≤ 8) (n3 : f 3 ≤ 6) (hi : i = 0 ∨ i = 1) : Ag (up c (78 + i) v) (up f i v) := by
  obtain ⟨⟨a0, a1, a2, a3⟩, a4, a5⟩ := hA
  refine ⟨⟨?_, ?_, ?_, ?_⟩, fun u j u0 u1 j0 j1 => ?_, fun b j b0 b1 j0 j1 => ?_⟩
  · rcases hi with rfl | rfl
    · rw [show (78 : Int) + 0 = 78 by omega, up_eq, up_eq]
    · rw [up_ne (by omega), up_ne (by omega)]; exact a0
  · rcases hi with rfl | rfl
    · rw [up_ne (by omega), up_ne (by omega)]; exact a1
    · rw [show (78 : Int) + 1 = 79 by omega, up_eq, up_eq]
  · rw [up_ne (by omega), up_ne (by omega)]; exact a2
  · rw [up_ne (by omega), up_ne (by omega)]; exact a3
  · rw [up_ne (by omega)] at u1
    rw [up_ne (by omega), up_ne (by omega)]; exact a4 u j u0 u1 j0 j1
  · rw [up_ne (by omega)] at b1
    rw [up_ne (by omega), up_ne (by omega)]; exact a5 b j b0 b1 j0 j1
theorem s_X0_addWord {c f : Int → Int} {l r o q : Int} {Q : Int32 → (Nat → Int32) → Prop} (hA : Ag c f) (n2 : 0 ≤ f 2 ∧ f 2 < 8) (n3 : 0 ≤ f 3 ∧ f 3 ≤ 6) (h : ∀ c2, Ag c2 (wdF f l r o q) → Q (iI (f 2)) (aI c2)) : P_X0_addWord (iI l) (iI r) (iI o) (iI q) (aI c) Q := by
  unfold P_X0_addWord
  simp only [i_m9, i_m1, i_0, i_1, i_2, i_3, i_4, i_5, i_6, i_7, i_8, i_9, i_10, i_11, i_12, i_13, i_14, i_15, i_16, i_17, i_18, i_19, i_20, i_21, i_22, i_23, i_24, i_25, i_26, i_27, i_28, i_29, i_30, i_31, i_32, i_33, i_34, i_35, i_36, i_37, i_38, i_39, i_40, i_41, i_42, i_43, i_44, i_45, i_46, i_47, i_48, i_49, i_50, i_51, i_52, i_53, i_54, i_55, i_56, i_57, i_58, i_59, i_60, i_61, i_62, i_63, i_64, i_65, i_66, i_67, i_68, i_69, i_70, i_72, i_77, i_78, i_80, i_81, i_82, i_83, i_84, i_87, i_88, i_96, i_98, i_100, i_101, i_103, i_118, i_119, i_126, i_133, i_137, i_144, i_154, i_158, i_160, i_190, i_199, i_200, i_207, i_209, i_213, i_229, i_252, i_254, i_255, i_260, i_282, i_303, i_304, i_321, i_348, i_435, i_492, i_522, i_1000, i_1023, i_1600, i_2903, iI_neg]
  refine s_X0_words hA ?_
  refine s_X0_putWord (by omega) (by omega) (by omega) (by omega) (s_X0_putWord (by omega) (by omega) (by omega) (by omega) (s_X0_putWord (by omega) (by omega) (by omega) (by omega) (s_X0_putWord (by omega) (by omega) (by omega) (by omega) (s_X0_putWord (by omega) (by omega) (by omega) (by omega) (s_X0_putWord (by omega) (by omega) (by omega) (by omega) ?_)))))
  simp only [iI_add]
  refine s_X0_putCell (by omega) (by omega) (h _ ?_)
  obtain ⟨⟨a0, a1, a2, a3⟩, a4, a5⟩ := hA
  obtain ⟨k0, k1, k2, k3, k4, k5, k6, k7⟩ := wdF_at (f := f) (l := l) (r := r) (c := o) (q := q) n2.1 n2.2
  refine ⟨⟨?_, ?_, ?_, ?_⟩, fun u j u0 u1 j0 j1 => ?_, fun b j b0 b1 j0 j1 => ?_⟩
  · rw [k0 0 (by omega) (by omega), up_ne (by omega), up_ne (by omega), up_ne (by omega), up_ne (by omega), up_ne (by omega), up_ne (by omega), up_ne (by omega)]; exact a0
  · rw [k0 1 (by omega) (by omega), up_ne (by omega), up_ne (by omega), up_ne (by omega), up_ne (by omega), up_ne (by omega), up_ne (by omega), up_ne (by omega)]; exact a1
  · rw [k1, up_eq]
  · rw [k0 3 (by omega) (by omega), up_ne (by omega), up_ne (by omega), up_ne (by omega), up_ne (by omega), up_ne (by omega), up_ne (by omega), up_ne (by omega)]; exact a3
  · rw [k1] at u1
    by_cases e : u = f 2
    · subst e
      rcases (show j = 0 ∨ j = 1 ∨ j = 2 ∨ j = 3 ∨ j = 4 ∨ j = 5 by omega) with rfl | rfl | rfl | rfl | rfl | rfl
      · rw [k2, up_ne (by omega), up_ne (by omega), up_ne (by omega), up_ne (by omega), up_ne (by omega), up_ne (by omega), up_eq]
      · rw [k3, up_ne (by omega), up_ne (by omega), up_ne (by omega), up_ne (by omega), up_ne (by omega), up_eq]
      · rw [k4, up_ne (by omega), up_ne (by omega), up_ne (by omega), up_ne (by omega), up_eq]
      · rw [k5, up_ne (by omega), up_ne (by omega), up_ne (by omega), up_eq]
      · rw [k6, up_ne (by omega), up_ne (by omega), up_eq]
      · rw [k7, up_ne (by omega), up_eq]
    · rw [k0 _ (by omega) (by omega), up_ne (by omega), up_ne (by omega), up_ne (by omega), up_ne (by omega), up_ne (by omega), up_ne (by omega), up_ne (by omega)]
      exact a4 u j u0 (by omega) j0 j1
  · rw [k0 3 (by omega) (by omega)] at b1
    rw [k0 _ (by omega) (by omega), up_ne (by omega), up_ne (by omega), up_ne (by omega), up_ne (by omega), up_ne (by omega), up_ne (by omega), up_ne (by omega)]
    exact a5 b j b0 b1 j0 j1
theorem s_X0_addBeam {c f : Int → Int} {t o s w r : Int} {Q : Int32 → (Nat → Int32) → Prop} (hA : Ag c f) (n2 : 0 ≤ f 2 ∧ f 2 ≤ 8) (n3 : 0 ≤ f 3 ∧ f 3 < 6) (h : ∀ c2, Ag c2 (bmF f t o s w r) → Q (iI (f 3)) (aI c2)) : P_X0_addBeam (iI t) (iI o) (iI s) (iI w) (iI r) (aI c) Q := by
  unfold P_X0_addBeam
  simp only [i_m9, i_m1, i_0, i_1, i_2, i_3, i_4, i_5, i_6, i_7, i_8, i_9, i_10, i_11, i_12, i_13, i_14, i_15, i_16, i_17, i_18, i_19, i_20, i_21, i_22, i_23, i_24, i_25, i_26, i_27, i_28, i_29, i_30, i_31, i_32, i_33, i_34, i_35, i_36, i_37, i_38, i_39, i_40, i_41, i_42, i_43, i_44, i_45, i_46, i_47, i_48, i_49, i_50, i_51, i_52, i_53, i_54, i_55, i_56, i_57, i_58, i_59, i_60, i_61, i_62, i_63, i_64, i_65, i_66, i_67, i_68, i_69, i_70, i_72, i_77, i_78, i_80, i_81, i_82, i_83, i_84, i_87, i_88, i_96, i_98, i_100, i_101, i_103, i_118, i_119, i_126, i_133, i_137, i_144, i_154, i_158, i_160, i_190, i_199, i_200, i_207, i_209, i_213, i_229, i_252, i_254, i_255, i_260, i_282, i_303, i_304, i_321, i_348, i_435, i_492, i_522, i_1000, i_1023, i_1600, i_2903, iI_neg]
  refine s_X0_beams hA ?_
  refine s_X0_putBeam (by omega) (by omega) (by omega) (by omega) (s_X0_putBeam (by omega) (by omega) (by omega) (by omega) (s_X0_putBeam (by omega) (by omega) (by omega) (by omega) (s_X0_putBeam (by omega) (by omega) (by omega) (by omega) (s_X0_putBeam (by omega) (by omega) (by omega) (by omega) ?_))))
  simp only [iI_add]
  refine s_X0_putCell (by omega) (by omega) (h _ ?_)
  obtain ⟨⟨a0, a1, a2, a3⟩, a4, a5⟩ := hA
  obtain ⟨k0, k1, k2, k3, k4, k5, k6⟩ := bmF_at (f := f) (t := t) (c := o) (s := s) (w := w) (r := r) n3.1 (by omega)
  refine ⟨⟨?_, ?_, ?_, ?_⟩, fun u j u0 u1 j0 j1 => ?_, fun b j b0 b1 j0 j1 => ?_⟩
  · rw [k0 0 (by omega) (by omega), up_ne (by omega), up_ne (by omega), up_ne (by omega), up_ne (by omega), up_ne (by omega), up_ne (by omega)]; exact a0
  · rw [k0 1 (by omega) (by omega), up_ne (by omega), up_ne (by omega), up_ne (by omega), up_ne (by omega), up_ne (by omega), up_ne (by omega)]; exact a1
  · rw [k0 2 (by omega) (by omega), up_ne (by omega), up_ne (by omega), up_ne (by omega), up_ne (by omega), up_ne (by omega), up_ne (by omega)]; exact a2
  · rw [k1, up_eq]
  · rw [k0 2 (by omega) (by omega)] at u1
    rw [k0 _ (by omega) (by omega), up_ne (by omega), up_ne (by omega), up_ne (by omega), up_ne (by omega), up_ne (by omega), up_ne (by omega)]
    exact a4 u j u0 u1 j0 j1
  · rw [k1] at b1
    by_cases e : b = f 3
    · subst e
      rcases (show j = 0 ∨ j = 1 ∨ j = 2 ∨ j = 3 ∨ j = 4 by omega) with rfl | rfl | rfl | rfl | rfl
      · rw [k2, up_ne (by omega), up_ne (by omega), up_ne (by omega), up_ne (by omega), up_ne (by omega), up_eq]
      · rw [k3, up_ne (by omega), up_ne (by omega), up_ne (by omega), up_ne (by omega), up_eq]
      · rw [k4, up_ne (by omega), up_ne (by omega), up_ne (by omega), up_eq]
      · rw [k5, up_ne (by omega), up_ne (by omega), up_eq]
      · rw [k6, up_ne (by omega), up_eq]
    · rw [k0 _ (by omega) (by omega), up_ne (by omega), up_ne (by omega), up_ne (by omega), up_ne (by omega), up_ne (by omega), up_ne (by omega)]
      exact a5 b j b0 (by omega) j0 j1
/-- copies of arrays -/
def cpA (g : Int → Int) (s : Int) (h : Int → Int) (d n : Int) : Int → Int := fun j => if d ≤ j ∧ j < d + n then g (s + (j - d)) else h j
theorem aI_cpy {g h : Int → Int} {s d n : Nat} : va_cpy (aI g) (aI h) s d n = aI (cpA g s h d n) := by
  funext k
  by_cases e : d ≤ k ∧ k < d + n
  · rw [pk_cpy_in e.1 e.2]
    unfold aI cpA
    rw [if_pos (by omega)]
    congr 2
    omega
  · rw [pk_cpy_out (by omega)]
    unfold aI cpA
    rw [if_neg (by omega)]
theorem s_X0_closeGap {c : Int → Int} {s n e : Int} {Q : (Nat → Int32) → Prop} (s0 : 0 ≤ s) (n0 : 0 ≤ n) (h1 : s + n ≤ e) (e1 : e ≤ 82) (h : Q (aI (cpA c (s + n) c s (e - s - n)))) : P_X0_closeGap (iI s) (iI n) (iI e) (aI c) Q := by
  unfold P_X0_closeGap
  simp (disch := omega) only [iI_add, iI_sub, iI_mul, iI_neg, iI_lt, iI_le, iI_eq, iI_cl, aI_at, aI_up, aI_l0, aI_l1, aI_l2, aI_l3, i_m9, i_m1, i_0, i_1, i_2, i_3, i_4, i_5, i_6, i_7, i_8, i_9, i_10, i_11, i_12, i_13, i_14, i_15, i_16, i_17, i_18, i_19, i_20, i_21, i_22, i_23, i_24, i_25, i_26, i_27, i_28, i_29, i_30, i_31, i_32, i_33, i_34, i_35, i_36, i_37, i_38, i_39, i_40, i_41, i_42, i_43, i_44, i_45, i_46, i_47, i_48, i_49, i_50, i_51, i_52, i_53, i_54, i_55, i_56, i_57, i_58, i_59, i_60, i_61, i_62, i_63, i_64, i_65, i_66, i_67, i_68, i_69, i_70, i_72, i_77, i_78, i_80, i_81, i_82, i_83, i_84, i_87, i_88, i_96, i_98, i_100, i_101, i_103, i_118, i_119, i_126, i_133, i_137, i_144, i_154, i_158, i_160, i_190, i_199, i_200, i_207, i_209, i_213, i_229, i_252, i_254, i_255, i_260, i_282, i_303, i_304, i_321, i_348, i_435, i_492, i_522, i_1000, i_1023, i_1600, i_2903, iI_neg]
  refine ⟨fun hx => absurd hx (by omega), fun _ => ⟨fun hx => absurd hx (by omega), fun _ => ⟨fun hx => absurd hx (by omega), fun _ => ⟨fun hx => absurd hx (by omega), fun _ => ⟨⟨by omega, by omega, by omega, by omega, by omega⟩, ?_⟩⟩⟩⟩⟩
  rw [aI_cpy, show (((s + n).toNat : Nat) : Int) = s + n by omega, show ((s.toNat : Nat) : Int) = s by omega, show (((e - s - n).toNat : Nat) : Int) = e - s - n by omega]
  exact h
theorem s_X0_dropWord {c f : Int → Int} {w : Int} {Q : (Nat → Int32) → Prop} (hA : Ag c f) (n2 : f 2 ≤ 8) (n3 : f 3 ≤ 6) (w0 : 0 ≤ w) (w1 : w < f 2) (h : ∀ c2, Ag c2 (rwF f w) → Q (aI c2)) : P_X0_dropWord (iI w) (aI c) Q := by
  obtain ⟨⟨a0, a1, a2, a3⟩, a4, a5⟩ := hA
  unfold P_X0_dropWord
  simp only [iI_mul, i_m9, i_m1, i_0, i_1, i_2, i_3, i_4, i_5, i_6, i_7, i_8, i_9, i_10, i_11, i_12, i_13, i_14, i_15, i_16, i_17, i_18, i_19, i_20, i_21, i_22, i_23, i_24, i_25, i_26, i_27, i_28, i_29, i_30, i_31, i_32, i_33, i_34, i_35, i_36, i_37, i_38, i_39, i_40, i_41, i_42, i_43, i_44, i_45, i_46, i_47, i_48, i_49, i_50, i_51, i_52, i_53, i_54, i_55, i_56, i_57, i_58, i_59, i_60, i_61, i_62, i_63, i_64, i_65, i_66, i_67, i_68, i_69, i_70, i_72, i_77, i_78, i_80, i_81, i_82, i_83, i_84, i_87, i_88, i_96, i_98, i_100, i_101, i_103, i_118, i_119, i_126, i_133, i_137, i_144, i_154, i_158, i_160, i_190, i_199, i_200, i_207, i_209, i_213, i_229, i_252, i_254, i_255, i_260, i_282, i_303, i_304, i_321, i_348, i_435, i_492, i_522, i_1000, i_1023, i_1600, i_2903, iI_neg]
  refine s_X0_closeGap (by omega) (by omega) (by omega) (by omega) ?_
  have e80 : cpA c (w * 6 + 6) c (w * 6) (48 - w * 6 - 6) 80 = f 2 := by unfold cpA; rw [if_neg (by omega)]; exact a2
  show P_X0_putCell (iI 80) (iI (cpA c (w * 6 + 6) c (w * 6) (48 - w * 6 - 6) 80) - iI 1) _ _
  rw [e80, iI_sub]
  refine s_X0_putCell (by omega) (by omega) (h _ ?_)
  have k2 : rwF f w 2 = f 2 - 1 := by unfold rwF; rw [if_pos rfl]
  have kl : ∀ j : Int, j ≠ 2 → (j < 4 + 6 * w ∨ 52 ≤ j) → rwF f w j = f j := fun j h1 h2 => by unfold rwF; rw [if_neg h1, if_neg (by omega)]
  have cl : ∀ j : Int, j ≠ 80 → (j < w * 6 ∨ 48 ≤ j) → up (cpA c (w * 6 + 6) c (w * 6) (48 - w * 6 - 6)) 80 (f 2 - 1) j = c j := fun j h1 h2 => by rw [up_ne h1]; unfold cpA; rw [if_neg (by omega)]
  refine ⟨⟨?_, ?_, ?_, ?_⟩, fun u j u0 u1 j0 j1 => ?_, fun b j b0 b1 j0 j1 => ?_⟩
  · rw [kl 0 (by omega) (by omega), cl 78 (by omega) (by omega)]; exact a0
  · rw [kl 1 (by omega) (by omega), cl 79 (by omega) (by omega)]; exact a1
  · rw [k2, up_eq]
  · rw [kl 3 (by omega) (by omega), cl 81 (by omega) (by omega)]; exact a3
  · rw [k2] at u1
    by_cases e : u < w
    · rw [kl _ (by omega) (by omega), cl _ (by omega) (by omega)]; exact a4 u j u0 (by omega) j0 j1
    · have e1 : rwF f w (4 + 6 * u + j) = f (4 + 6 * (u + 1) + j) := by
        unfold rwF
        rw [if_neg (by omega), if_pos (by omega)]
        exact congrArg f (by omega)
      have e2 : up (cpA c (w * 6 + 6) c (w * 6) (48 - w * 6 - 6)) 80 (f 2 - 1) (u * 6 + j) = c ((u + 1) * 6 + j) := by
        rw [up_ne (by omega)]
        unfold cpA
        rw [if_pos (by omega)]
        exact congrArg c (by omega)
      rw [e1, e2]
      exact a4 (u + 1) j (by omega) (by omega) j0 j1
  · rw [kl 3 (by omega) (by omega)] at b1
    rw [kl _ (by omega) (by omega), cl _ (by omega) (by omega)]; exact a5 b j b0 b1 j0 j1
theorem s_X0_dropBeam {c f : Int → Int} {w : Int} {Q : (Nat → Int32) → Prop} (hA : Ag c f) (n2 : f 2 ≤ 8) (n3 : f 3 ≤ 6) (w0 : 0 ≤ w) (w1 : w < f 3) (h : ∀ c2, Ag c2 (ulF f w) → Q (aI c2)) : P_X0_dropBeam (iI w) (aI c) Q := by
  obtain ⟨⟨a0, a1, a2, a3⟩, a4, a5⟩ := hA
  unfold P_X0_dropBeam
  simp only [iI_mul, iI_add, i_m9, i_m1, i_0, i_1, i_2, i_3, i_4, i_5, i_6, i_7, i_8, i_9, i_10, i_11, i_12, i_13, i_14, i_15, i_16, i_17, i_18, i_19, i_20, i_21, i_22, i_23, i_24, i_25, i_26, i_27, i_28, i_29, i_30, i_31, i_32, i_33, i_34, i_35, i_36, i_37, i_38, i_39, i_40, i_41, i_42, i_43, i_44, i_45, i_46, i_47, i_48, i_49, i_50, i_51, i_52, i_53, i_54, i_55, i_56, i_57, i_58, i_59, i_60, i_61, i_62, i_63, i_64, i_65, i_66, i_67, i_68, i_69, i_70, i_72, i_77, i_78, i_80, i_81, i_82, i_83, i_84, i_87, i_88, i_96, i_98, i_100, i_101, i_103, i_118, i_119, i_126, i_133, i_137, i_144, i_154, i_158, i_160, i_190, i_199, i_200, i_207, i_209, i_213, i_229, i_252, i_254, i_255, i_260, i_282, i_303, i_304, i_321, i_348, i_435, i_492, i_522, i_1000, i_1023, i_1600, i_2903, iI_neg]
  refine s_X0_closeGap (by omega) (by omega) (by omega) (by omega) ?_
  have e81 : cpA c (48 + w * 5 + 5) c (48 + w * 5) (78 - (48 + w * 5) - 5) 81 = f 3 := by unfold cpA; rw [if_neg (by omega)]; exact a3
  show P_X0_putCell (iI 81) (iI (cpA c (48 + w * 5 + 5) c (48 + w * 5) (78 - (48 + w * 5) - 5) 81) - iI 1) _ _
  rw [e81, iI_sub]
  refine s_X0_putCell (by omega) (by omega) (h _ ?_)
  have k3 : ulF f w 3 = f 3 - 1 := by unfold ulF; rw [if_pos rfl]
  have kl : ∀ j : Int, j ≠ 3 → j < 52 + 5 * w → ulF f w j = f j := fun j h1 h2 => by unfold ulF; rw [if_neg h1, if_neg (by omega)]
  have cl : ∀ j : Int, j ≠ 81 → (j < 48 + w * 5 ∨ 78 ≤ j) → up (cpA c (48 + w * 5 + 5) c (48 + w * 5) (78 - (48 + w * 5) - 5)) 81 (f 3 - 1) j = c j := fun j h1 h2 => by rw [up_ne h1]; unfold cpA; rw [if_neg (by omega)]
  refine ⟨⟨?_, ?_, ?_, ?_⟩, fun u j u0 u1 j0 j1 => ?_, fun b j b0 b1 j0 j1 => ?_⟩
  · rw [kl 0 (by omega) (by omega), cl 78 (by omega) (by omega)]; exact a0
  · rw [kl 1 (by omega) (by omega), cl 79 (by omega) (by omega)]; exact a1
  · rw [kl 2 (by omega) (by omega), cl 80 (by omega) (by omega)]; exact a2
  · rw [k3, up_eq]
  · rw [kl 2 (by omega) (by omega)] at u1
    rw [kl _ (by omega) (by omega), cl _ (by omega) (by omega)]; exact a4 u j u0 u1 j0 j1
  · rw [k3] at b1
    by_cases e : b < w
    · rw [kl _ (by omega) (by omega), cl _ (by omega) (by omega)]; exact a5 b j b0 (by omega) j0 j1
    · have e1 : ulF f w (52 + 5 * b + j) = f (52 + 5 * (b + 1) + j) := by
        unfold ulF
        rw [if_neg (by omega), if_pos (by omega)]
        exact congrArg f (by omega)
      have e2 : up (cpA c (48 + w * 5 + 5) c (48 + w * 5) (78 - (48 + w * 5) - 5)) 81 (f 3 - 1) (48 + b * 5 + j) = c (48 + (b + 1) * 5 + j) := by
        rw [up_ne (by omega)]
        unfold cpA
        rw [if_pos (by omega)]
        exact congrArg c (by omega)
      rw [e1, e2]
      exact a5 (b + 1) j (by omega) (by omega) j0 j1
