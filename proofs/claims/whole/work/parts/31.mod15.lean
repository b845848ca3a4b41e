theorem dig_L15 {f li wh go : Int → Int} {kp : Int} {K : Int64 → Prop} (hf : OK 6 f) (hl : Ld f (f 2) li wh go) (hK : K (hs 2903 (coS f kp) 10)) :
    ∀ (m j : Nat), j + m = 10 → P_X4_digest_L15 (aI f) (iI kp) (aI li) (aI wh) (aI go) K (m + 1) (hs 2903 (coS f kp) j) (iI j) := by
  intro m
  induction m with
  | zero =>
    intro j hj
    rw [P_X4_digest_L15_s]
    unfold B_X4_digest_L15
    simp (disch := omega) only [iI_le, i_m9, i_m1, i_0, i_1, i_2, i_3, i_4, i_5, i_6, i_7, i_8, i_9, i_10, i_11, i_12, i_13, i_14, i_15, i_16, i_17, i_18, i_19, i_20, i_21, i_22, i_23, i_24, i_25, i_26, i_27, i_28, i_29, i_30, i_31, i_32, i_33, i_34, i_35, i_36, i_37, i_38, i_39, i_40, i_41, i_42, i_43, i_44, i_45, i_46, i_47, i_48, i_49, i_50, i_51, i_52, i_53, i_54, i_55, i_56, i_57, i_58, i_59, i_60, i_61, i_62, i_63, i_64, i_65, i_66, i_67, i_68, i_69, i_70, i_72, i_77, i_78, i_80, i_81, i_82, i_83, i_84, i_87, i_88, i_96, i_98, i_100, i_101, i_103, i_118, i_119, i_126, i_133, i_137, i_144, i_154, i_158, i_160, i_190, i_199, i_200, i_207, i_209, i_213, i_229, i_252, i_254, i_255, i_260, i_282, i_303, i_304, i_321, i_348, i_435, i_492, i_522, i_1000, i_1023, i_1600, i_2903, iI_neg]
    refine ⟨fun _ => ?_, fun hx => absurd (by omega) hx⟩
    rwa [show j = 10 by omega]
  | succ m ih =>
    intro j hj
    have ih1 := ih (j + 1) (by omega)
    rw [nsucc] at ih1
    rw [P_X4_digest_L15_s]
    unfold B_X4_digest_L15
    simp (disch := omega) only [iI_le, iI_add, i_m9, i_m1, i_0, i_1, i_2, i_3, i_4, i_5, i_6, i_7, i_8, i_9, i_10, i_11, i_12, i_13, i_14, i_15, i_16, i_17, i_18, i_19, i_20, i_21, i_22, i_23, i_24, i_25, i_26, i_27, i_28, i_29, i_30, i_31, i_32, i_33, i_34, i_35, i_36, i_37, i_38, i_39, i_40, i_41, i_42, i_43, i_44, i_45, i_46, i_47, i_48, i_49, i_50, i_51, i_52, i_53, i_54, i_55, i_56, i_57, i_58, i_59, i_60, i_61, i_62, i_63, i_64, i_65, i_66, i_67, i_68, i_69, i_70, i_72, i_77, i_78, i_80, i_81, i_82, i_83, i_84, i_87, i_88, i_96, i_98, i_100, i_101, i_103, i_118, i_119, i_126, i_133, i_137, i_144, i_154, i_158, i_160, i_190, i_199, i_200, i_207, i_209, i_213, i_229, i_252, i_254, i_255, i_260, i_282, i_303, i_304, i_321, i_348, i_435, i_492, i_522, i_1000, i_1023, i_1600, i_2903, iI_neg]
    exact ⟨fun hx => absurd hx (by omega), fun _ => s_X4_counted hf (by omega) hl (by omega) (by omega) ih1⟩
theorem dig_L81 {w : Int} {f li wh go : Int → Int} {h : Int64} {K : Int64 → Prop} (hf : OK 6 f) (hl : Ld f (f 2) li wh go) (w0 : 0 ≤ w) (w1 : w < f 2) (hK : K (hs h (woS f w) 10)) :
    ∀ (m j : Nat), j + m = 10 → P_X4_digest_L81 (iI w) (aI f) (aI li) (aI wh) (aI go) K (m + 1) (hs h (woS f w) j) (iI j) := by
  intro m
  induction m with
  | zero =>
    intro j hj
    rw [P_X4_digest_L81_s]
    unfold B_X4_digest_L81
    simp (disch := omega) only [iI_le, i_m9, i_m1, i_0, i_1, i_2, i_3, i_4, i_5, i_6, i_7, i_8, i_9, i_10, i_11, i_12, i_13, i_14, i_15, i_16, i_17, i_18, i_19, i_20, i_21, i_22, i_23, i_24, i_25, i_26, i_27, i_28, i_29, i_30, i_31, i_32, i_33, i_34, i_35, i_36, i_37, i_38, i_39, i_40, i_41, i_42, i_43, i_44, i_45, i_46, i_47, i_48, i_49, i_50, i_51, i_52, i_53, i_54, i_55, i_56, i_57, i_58, i_59, i_60, i_61, i_62, i_63, i_64, i_65, i_66, i_67, i_68, i_69, i_70, i_72, i_77, i_78, i_80, i_81, i_82, i_83, i_84, i_87, i_88, i_96, i_98, i_100, i_101, i_103, i_118, i_119, i_126, i_133, i_137, i_144, i_154, i_158, i_160, i_190, i_199, i_200, i_207, i_209, i_213, i_229, i_252, i_254, i_255, i_260, i_282, i_303, i_304, i_321, i_348, i_435, i_492, i_522, i_1000, i_1023, i_1600, i_2903, iI_neg]
    refine ⟨fun _ => ?_, fun hx => absurd (by omega) hx⟩
    rwa [show j = 10 by omega]
  | succ m ih =>
    intro j hj
    have ih1 := ih (j + 1) (by omega)
    rw [nsucc] at ih1
    rw [P_X4_digest_L81_s]
    unfold B_X4_digest_L81
    simp (disch := omega) only [iI_le, iI_add, i_m9, i_m1, i_0, i_1, i_2, i_3, i_4, i_5, i_6, i_7, i_8, i_9, i_10, i_11, i_12, i_13, i_14, i_15, i_16, i_17, i_18, i_19, i_20, i_21, i_22, i_23, i_24, i_25, i_26, i_27, i_28, i_29, i_30, i_31, i_32, i_33, i_34, i_35, i_36, i_37, i_38, i_39, i_40, i_41, i_42, i_43, i_44, i_45, i_46, i_47, i_48, i_49, i_50, i_51, i_52, i_53, i_54, i_55, i_56, i_57, i_58, i_59, i_60, i_61, i_62, i_63, i_64, i_65, i_66, i_67, i_68, i_69, i_70, i_72, i_77, i_78, i_80, i_81, i_82, i_83, i_84, i_87, i_88, i_96, i_98, i_100, i_101, i_103, i_118, i_119, i_126, i_133, i_137, i_144, i_154, i_158, i_160, i_190, i_199, i_200, i_207, i_209, i_213, i_229, i_252, i_254, i_255, i_260, i_282, i_303, i_304, i_321, i_348, i_435, i_492, i_522, i_1000, i_1023, i_1600, i_2903, iI_neg]
    exact ⟨fun hx => absurd hx (by omega), fun _ => s_X4_ofWord hf hl w0 w1 (by omega) (by omega) ih1⟩
theorem dig_L112 {w : Int} {f li wh go : Int → Int} {h : Int64} {K : Int64 → Prop} (hf : OK 6 f) (hl : Ld f (f 2) li wh go) (w0 : 0 ≤ w) (w1 : w < f 2) (hK : K (hs h (litS f w) (f (4 + 6 * w + 0)).toNat)) :
    ∀ (m j : Nat), (j : Int) + m = f (4 + 6 * w + 0) → P_X4_digest_L112 (iI w) (aI f) (aI li) K (m + 1) (hs h (litS f w) j) (iI j) := by
  have h8 := hf.2.2.1
  obtain ⟨l0, l1⟩ := (hf.2.2.2.2.1 w w0 w1).1
  intro m
  induction m with
  | zero =>
    intro j hj
    rw [P_X4_digest_L112_s]
    unfold B_X4_digest_L112
    simp only [i_m9, i_m1, i_0, i_1, i_2, i_3, i_4, i_5, i_6, i_7, i_8, i_9, i_10, i_11, i_12, i_13, i_14, i_15, i_16, i_17, i_18, i_19, i_20, i_21, i_22, i_23, i_24, i_25, i_26, i_27, i_28, i_29, i_30, i_31, i_32, i_33, i_34, i_35, i_36, i_37, i_38, i_39, i_40, i_41, i_42, i_43, i_44, i_45, i_46, i_47, i_48, i_49, i_50, i_51, i_52, i_53, i_54, i_55, i_56, i_57, i_58, i_59, i_60, i_61, i_62, i_63, i_64, i_65, i_66, i_67, i_68, i_69, i_70, i_72, i_77, i_78, i_80, i_81, i_82, i_83, i_84, i_87, i_88, i_96, i_98, i_100, i_101, i_103, i_118, i_119, i_126, i_133, i_137, i_144, i_154, i_158, i_160, i_190, i_199, i_200, i_207, i_209, i_213, i_229, i_252, i_254, i_255, i_260, i_282, i_303, i_304, i_321, i_348, i_435, i_492, i_522, i_1000, i_1023, i_1600, i_2903, iI_neg]
    refine s_X4_of (by omega) (by omega) ?_
    simp (disch := omega) only [iI_le]
    refine ⟨fun _ => ?_, fun hx => absurd (by omega) hx⟩
    rwa [show j = (f (4 + 6 * w + 0)).toNat by omega]
  | succ m ih =>
    intro j hj
    have ih1 := ih (j + 1) (by omega)
    have e := (hl w w0 w1).1 j (by omega) (by omega)
    rw [nsucc] at ih1
    rw [P_X4_digest_L112_s]
    unfold B_X4_digest_L112
    simp only [i_m9, i_m1, i_0, i_1, i_2, i_3, i_4, i_5, i_6, i_7, i_8, i_9, i_10, i_11, i_12, i_13, i_14, i_15, i_16, i_17, i_18, i_19, i_20, i_21, i_22, i_23, i_24, i_25, i_26, i_27, i_28, i_29, i_30, i_31, i_32, i_33, i_34, i_35, i_36, i_37, i_38, i_39, i_40, i_41, i_42, i_43, i_44, i_45, i_46, i_47, i_48, i_49, i_50, i_51, i_52, i_53, i_54, i_55, i_56, i_57, i_58, i_59, i_60, i_61, i_62, i_63, i_64, i_65, i_66, i_67, i_68, i_69, i_70, i_72, i_77, i_78, i_80, i_81, i_82, i_83, i_84, i_87, i_88, i_96, i_98, i_100, i_101, i_103, i_118, i_119, i_126, i_133, i_137, i_144, i_154, i_158, i_160, i_190, i_199, i_200, i_207, i_209, i_213, i_229, i_252, i_254, i_255, i_260, i_282, i_303, i_304, i_321, i_348, i_435, i_492, i_522, i_1000, i_1023, i_1600, i_2903, iI_neg]
    refine s_X4_of (by omega) (by omega) ?_
    simp (disch := omega) only [iI_le, iI_add, iI_mul, iI_cl, aI_at]
    rw [e]
    exact ⟨fun hx => absurd hx (by omega), fun _ => ⟨iI_in (by omega) (by omega) (by omega), ih1⟩⟩
theorem dig_L68 {f li wh go : Int → Int} {h : Int64} {K : Int64 → Prop} (hf : OK 6 f) (hl : Ld f (f 2) li wh go) (hK : K (dgW f h (f 2).toNat)) :
    ∀ (m w : Nat), (w : Int) + m = f 2 → P_X4_digest_L68 (aI f) (aI li) (aI wh) (aI go) K (m + 1) (dgW f h w) (iI w) := by
  have h8 := hf.2.2.1
  intro m
  induction m with
  | zero =>
    intro w hw
    rw [P_X4_digest_L68_s]
    unfold B_X4_digest_L68
    simp (disch := omega) only [iI_le, i_m9, i_m1, i_0, i_1, i_2, i_3, i_4, i_5, i_6, i_7, i_8, i_9, i_10, i_11, i_12, i_13, i_14, i_15, i_16, i_17, i_18, i_19, i_20, i_21, i_22, i_23, i_24, i_25, i_26, i_27, i_28, i_29, i_30, i_31, i_32, i_33, i_34, i_35, i_36, i_37, i_38, i_39, i_40, i_41, i_42, i_43, i_44, i_45, i_46, i_47, i_48, i_49, i_50, i_51, i_52, i_53, i_54, i_55, i_56, i_57, i_58, i_59, i_60, i_61, i_62, i_63, i_64, i_65, i_66, i_67, i_68, i_69, i_70, i_72, i_77, i_78, i_80, i_81, i_82, i_83, i_84, i_87, i_88, i_96, i_98, i_100, i_101, i_103, i_118, i_119, i_126, i_133, i_137, i_144, i_154, i_158, i_160, i_190, i_199, i_200, i_207, i_209, i_213, i_229, i_252, i_254, i_255, i_260, i_282, i_303, i_304, i_321, i_348, i_435, i_492, i_522, i_1000, i_1023, i_1600, i_2903, iI_neg, aI_at, aI_l0, aI_l1, aI_l2, aI_l3]
    refine ⟨fun _ => ?_, fun hx => absurd (by omega) hx⟩
    rwa [show w = (f 2).toNat by omega]
  | succ m ih =>
    intro w hw
    have ih1 := ih (w + 1) (by omega)
    rw [nsucc] at ih1
    rw [P_X4_digest_L68_s]
    unfold B_X4_digest_L68
    simp (disch := omega) only [iI_le, iI_add, i_m9, i_m1, i_0, i_1, i_2, i_3, i_4, i_5, i_6, i_7, i_8, i_9, i_10, i_11, i_12, i_13, i_14, i_15, i_16, i_17, i_18, i_19, i_20, i_21, i_22, i_23, i_24, i_25, i_26, i_27, i_28, i_29, i_30, i_31, i_32, i_33, i_34, i_35, i_36, i_37, i_38, i_39, i_40, i_41, i_42, i_43, i_44, i_45, i_46, i_47, i_48, i_49, i_50, i_51, i_52, i_53, i_54, i_55, i_56, i_57, i_58, i_59, i_60, i_61, i_62, i_63, i_64, i_65, i_66, i_67, i_68, i_69, i_70, i_72, i_77, i_78, i_80, i_81, i_82, i_83, i_84, i_87, i_88, i_96, i_98, i_100, i_101, i_103, i_118, i_119, i_126, i_133, i_137, i_144, i_154, i_158, i_160, i_190, i_199, i_200, i_207, i_209, i_213, i_229, i_252, i_254, i_255, i_260, i_282, i_303, i_304, i_321, i_348, i_435, i_492, i_522, i_1000, i_1023, i_1600, i_2903, iI_neg, aI_at, aI_l0, aI_l1, aI_l2, aI_l3]
    have hl0 := (hf.2.2.2.2.1 w (by omega) (by omega)).1
    refine ⟨fun hx => absurd hx (by omega), fun _ => ⟨10 + 1, dig_L81 hf hl (by omega) (by omega) ⟨(f (4 + 6 * (w : Int) + 0)).toNat + 1, dig_L112 hf hl (by omega) (by omega) ih1 _ 0 (by omega)⟩ _ 0 (by omega)⟩⟩
theorem dig_L219 {t : Int} {f li wh go : Int → Int} {h : Int64} {K : Int64 → Prop} (hf : OK 6 f) (hl : Ld f (f 2) li wh go) (t0 : 0 ≤ t) (t1 : t ≤ 199) (hK : K (hs h (inS f t) 5)) :
    ∀ (m j : Nat), j + m = 5 → P_X4_digest_L219 (iI t) (aI f) (aI li) (aI wh) (aI go) K (m + 1) (hs h (inS f t) j) (iI j) := by
  intro m
  induction m with
  | zero =>
    intro j hj
    rw [P_X4_digest_L219_s]
    unfold B_X4_digest_L219
    simp (disch := omega) only [iI_le, i_m9, i_m1, i_0, i_1, i_2, i_3, i_4, i_5, i_6, i_7, i_8, i_9, i_10, i_11, i_12, i_13, i_14, i_15, i_16, i_17, i_18, i_19, i_20, i_21, i_22, i_23, i_24, i_25, i_26, i_27, i_28, i_29, i_30, i_31, i_32, i_33, i_34, i_35, i_36, i_37, i_38, i_39, i_40, i_41, i_42, i_43, i_44, i_45, i_46, i_47, i_48, i_49, i_50, i_51, i_52, i_53, i_54, i_55, i_56, i_57, i_58, i_59, i_60, i_61, i_62, i_63, i_64, i_65, i_66, i_67, i_68, i_69, i_70, i_72, i_77, i_78, i_80, i_81, i_82, i_83, i_84, i_87, i_88, i_96, i_98, i_100, i_101, i_103, i_118, i_119, i_126, i_133, i_137, i_144, i_154, i_158, i_160, i_190, i_199, i_200, i_207, i_209, i_213, i_229, i_252, i_254, i_255, i_260, i_282, i_303, i_304, i_321, i_348, i_435, i_492, i_522, i_1000, i_1023, i_1600, i_2903, iI_neg]
    refine ⟨fun _ => ?_, fun hx => absurd (by omega) hx⟩
    rwa [show j = 5 by omega]
  | succ m ih =>
    intro j hj
    have ih1 := ih (j + 1) (by omega)
    rw [nsucc] at ih1
    rw [P_X4_digest_L219_s]
    unfold B_X4_digest_L219
    simp (disch := omega) only [iI_le, iI_add, i_m9, i_m1, i_0, i_1, i_2, i_3, i_4, i_5, i_6, i_7, i_8, i_9, i_10, i_11, i_12, i_13, i_14, i_15, i_16, i_17, i_18, i_19, i_20, i_21, i_22, i_23, i_24, i_25, i_26, i_27, i_28, i_29, i_30, i_31, i_32, i_33, i_34, i_35, i_36, i_37, i_38, i_39, i_40, i_41, i_42, i_43, i_44, i_45, i_46, i_47, i_48, i_49, i_50, i_51, i_52, i_53, i_54, i_55, i_56, i_57, i_58, i_59, i_60, i_61, i_62, i_63, i_64, i_65, i_66, i_67, i_68, i_69, i_70, i_72, i_77, i_78, i_80, i_81, i_82, i_83, i_84, i_87, i_88, i_96, i_98, i_100, i_101, i_103, i_118, i_119, i_126, i_133, i_137, i_144, i_154, i_158, i_160, i_190, i_199, i_200, i_207, i_209, i_213, i_229, i_252, i_254, i_255, i_260, i_282, i_303, i_304, i_321, i_348, i_435, i_492, i_522, i_1000, i_1023, i_1600, i_2903, iI_neg]
    exact ⟨fun hx => absurd hx (by omega), fun _ => s_X4_inBeat hf (by omega) hl t0 t1 (by omega) (by omega) ih1⟩
theorem dig_L209 {f li wh go : Int → Int} {h : Int64} {K : Int64 → Prop} (hf : OK 6 f) (hl : Ld f (f 2) li wh go) (hK : K (dgT f h 20)) :
    ∀ (m j : Nat), j + m = 20 → P_X4_digest_L209 (aI f) (aI li) (aI wh) (aI go) K (m + 1) (dgT f h j) (iI (10 * (j : Int))) := by
  intro m
  induction m with
  | zero =>
    intro j hj
    rw [P_X4_digest_L209_s]
    unfold B_X4_digest_L209
    simp (disch := omega) only [iI_le, i_m9, i_m1, i_0, i_1, i_2, i_3, i_4, i_5, i_6, i_7, i_8, i_9, i_10, i_11, i_12, i_13, i_14, i_15, i_16, i_17, i_18, i_19, i_20, i_21, i_22, i_23, i_24, i_25, i_26, i_27, i_28, i_29, i_30, i_31, i_32, i_33, i_34, i_35, i_36, i_37, i_38, i_39, i_40, i_41, i_42, i_43, i_44, i_45, i_46, i_47, i_48, i_49, i_50, i_51, i_52, i_53, i_54, i_55, i_56, i_57, i_58, i_59, i_60, i_61, i_62, i_63, i_64, i_65, i_66, i_67, i_68, i_69, i_70, i_72, i_77, i_78, i_80, i_81, i_82, i_83, i_84, i_87, i_88, i_96, i_98, i_100, i_101, i_103, i_118, i_119, i_126, i_133, i_137, i_144, i_154, i_158, i_160, i_190, i_199, i_200, i_207, i_209, i_213, i_229, i_252, i_254, i_255, i_260, i_282, i_303, i_304, i_321, i_348, i_435, i_492, i_522, i_1000, i_1023, i_1600, i_2903, iI_neg]
    refine ⟨fun _ => ?_, fun hx => absurd (by omega) hx⟩
    rwa [show j = 20 by omega]
  | succ m ih =>
    intro j hj
    have ih1 := ih (j + 1) (by omega)
    rw [nsucc, show 10 * ((j : Int) + 1) = 10 * (j : Int) + 10 by omega] at ih1
    rw [P_X4_digest_L209_s]
    unfold B_X4_digest_L209
    simp (disch := omega) only [iI_le, iI_add, i_m9, i_m1, i_0, i_1, i_2, i_3, i_4, i_5, i_6, i_7, i_8, i_9, i_10, i_11, i_12, i_13, i_14, i_15, i_16, i_17, i_18, i_19, i_20, i_21, i_22, i_23, i_24, i_25, i_26, i_27, i_28, i_29, i_30, i_31, i_32, i_33, i_34, i_35, i_36, i_37, i_38, i_39, i_40, i_41, i_42, i_43, i_44, i_45, i_46, i_47, i_48, i_49, i_50, i_51, i_52, i_53, i_54, i_55, i_56, i_57, i_58, i_59, i_60, i_61, i_62, i_63, i_64, i_65, i_66, i_67, i_68, i_69, i_70, i_72, i_77, i_78, i_80, i_81, i_82, i_83, i_84, i_87, i_88, i_96, i_98, i_100, i_101, i_103, i_118, i_119, i_126, i_133, i_137, i_144, i_154, i_158, i_160, i_190, i_199, i_200, i_207, i_209, i_213, i_229, i_252, i_254, i_255, i_260, i_282, i_303, i_304, i_321, i_348, i_435, i_492, i_522, i_1000, i_1023, i_1600, i_2903, iI_neg]
    exact ⟨fun hx => absurd hx (by omega), fun _ => ⟨5 + 1, dig_L219 hf hl (by omega) (by omega) ih1 _ 0 (by omega)⟩⟩
theorem dig_L254 {f : Int → Int} {h : Int64} {K : Int64 → (Nat → Int32) → (Nat → Int32) → (Nat → Int32) → (Nat → Int32) → Int32 → (Nat → Int32) → Prop} (hf : OK 6 f) (zf : Z f)
    (hK : ∀ (th li wh go la : Int → Int), Z th → Ld f (f 2) li wh go → K (hs h (ibS f 5 0 1 3) 3) (aI th) (aI li) (aI wh) (aI go) (iI 1) (aI la)) :
    ∀ (m j : Nat) (th li wh go la : Int → Int), j + m = 3 → Z th → Ld f (f 2) li wh go → P_X4_digest_L254 (aI f) K (m + 1) (hs h (ibS f 5 0 1 3) j) (iI j) (aI th) (aI li) (aI wh) (aI go) (iI 1) (aI la) := by
  intro m
  induction m with
  | zero =>
    intro j th li wh go la hj zt hl
    rw [P_X4_digest_L254_s]
    unfold B_X4_digest_L254
    simp (disch := omega) only [iI_le, i_m9, i_m1, i_0, i_1, i_2, i_3, i_4, i_5, i_6, i_7, i_8, i_9, i_10, i_11, i_12, i_13, i_14, i_15, i_16, i_17, i_18, i_19, i_20, i_21, i_22, i_23, i_24, i_25, i_26, i_27, i_28, i_29, i_30, i_31, i_32, i_33, i_34, i_35, i_36, i_37, i_38, i_39, i_40, i_41, i_42, i_43, i_44, i_45, i_46, i_47, i_48, i_49, i_50, i_51, i_52, i_53, i_54, i_55, i_56, i_57, i_58, i_59, i_60, i_61, i_62, i_63, i_64, i_65, i_66, i_67, i_68, i_69, i_70, i_72, i_77, i_78, i_80, i_81, i_82, i_83, i_84, i_87, i_88, i_96, i_98, i_100, i_101, i_103, i_118, i_119, i_126, i_133, i_137, i_144, i_154, i_158, i_160, i_190, i_199, i_200, i_207, i_209, i_213, i_229, i_252, i_254, i_255, i_260, i_282, i_303, i_304, i_321, i_348, i_435, i_492, i_522, i_1000, i_1023, i_1600, i_2903, iI_neg]
    refine ⟨fun _ => ?_, fun hx => absurd (by omega) hx⟩
    rw [show j = 3 by omega]
    exact hK th li wh go la zt hl
  | succ m ih =>
    intro j th li wh go la hj zt hl
    rw [P_X4_digest_L254_s]
    unfold B_X4_digest_L254
    simp (disch := omega) only [iI_le, iI_add, i_m9, i_m1, i_0, i_1, i_2, i_3, i_4, i_5, i_6, i_7, i_8, i_9, i_10, i_11, i_12, i_13, i_14, i_15, i_16, i_17, i_18, i_19, i_20, i_21, i_22, i_23, i_24, i_25, i_26, i_27, i_28, i_29, i_30, i_31, i_32, i_33, i_34, i_35, i_36, i_37, i_38, i_39, i_40, i_41, i_42, i_43, i_44, i_45, i_46, i_47, i_48, i_49, i_50, i_51, i_52, i_53, i_54, i_55, i_56, i_57, i_58, i_59, i_60, i_61, i_62, i_63, i_64, i_65, i_66, i_67, i_68, i_69, i_70, i_72, i_77, i_78, i_80, i_81, i_82, i_83, i_84, i_87, i_88, i_96, i_98, i_100, i_101, i_103, i_118, i_119, i_126, i_133, i_137, i_144, i_154, i_158, i_160, i_190, i_199, i_200, i_207, i_209, i_213, i_229, i_252, i_254, i_255, i_260, i_282, i_303, i_304, i_321, i_348, i_435, i_492, i_522, i_1000, i_1023, i_1600, i_2903, iI_neg]
    refine ⟨fun hx => absurd hx (by omega), fun _ => s_X4_byBeam hf zf zt (by omega) (by omega) (by omega) (fun th li wh go la hz hl => ?_)⟩
    have ih1 := ih (j + 1) th li wh go la (by omega) hz hl
    rw [nsucc] at ih1
    exact ih1
theorem dig_L173 {b : Int} {f : Int → Int} {h : Int64} {K : Int64 → (Nat → Int32) → (Nat → Int32) → (Nat → Int32) → (Nat → Int32) → (Nat → Int32) → Prop} (hf : OK 6 f) (zf : Z f) (b0 : 0 ≤ b) (b1 : b < f 3)
    (hK : ∀ (th li wh go la : Int → Int), Z th → Ld f (f 2) li wh go → K (hs h (boS f b) 7) (aI th) (aI li) (aI wh) (aI go) (aI la)) :
    ∀ (m j : Nat) (th li wh go la : Int → Int), j + m = 7 → Z th → Ld f (f 2) li wh go → P_X4_digest_L173 (iI b) (aI f) K (m + 1) (hs h (boS f b) j) (iI j) (aI th) (aI li) (aI wh) (aI go) (aI la) := by
  intro m
  induction m with
  | zero =>
    intro j th li wh go la hj zt hl
    rw [P_X4_digest_L173_s]
    unfold B_X4_digest_L173
    simp (disch := omega) only [iI_le, i_m9, i_m1, i_0, i_1, i_2, i_3, i_4, i_5, i_6, i_7, i_8, i_9, i_10, i_11, i_12, i_13, i_14, i_15, i_16, i_17, i_18, i_19, i_20, i_21, i_22, i_23, i_24, i_25, i_26, i_27, i_28, i_29, i_30, i_31, i_32, i_33, i_34, i_35, i_36, i_37, i_38, i_39, i_40, i_41, i_42, i_43, i_44, i_45, i_46, i_47, i_48, i_49, i_50, i_51, i_52, i_53, i_54, i_55, i_56, i_57, i_58, i_59, i_60, i_61, i_62, i_63, i_64, i_65, i_66, i_67, i_68, i_69, i_70, i_72, i_77, i_78, i_80, i_81, i_82, i_83, i_84, i_87, i_88, i_96, i_98, i_100, i_101, i_103, i_118, i_119, i_126, i_133, i_137, i_144, i_154, i_158, i_160, i_190, i_199, i_200, i_207, i_209, i_213, i_229, i_252, i_254, i_255, i_260, i_282, i_303, i_304, i_321, i_348, i_435, i_492, i_522, i_1000, i_1023, i_1600, i_2903, iI_neg]
    refine ⟨fun _ => ?_, fun hx => absurd (by omega) hx⟩
    rw [show j = 7 by omega]
    exact hK th li wh go la zt hl
  | succ m ih =>
    intro j th li wh go la hj zt hl
    rw [P_X4_digest_L173_s]
    unfold B_X4_digest_L173
    simp (disch := omega) only [iI_le, iI_add, i_m9, i_m1, i_0, i_1, i_2, i_3, i_4, i_5, i_6, i_7, i_8, i_9, i_10, i_11, i_12, i_13, i_14, i_15, i_16, i_17, i_18, i_19, i_20, i_21, i_22, i_23, i_24, i_25, i_26, i_27, i_28, i_29, i_30, i_31, i_32, i_33, i_34, i_35, i_36, i_37, i_38, i_39, i_40, i_41, i_42, i_43, i_44, i_45, i_46, i_47, i_48, i_49, i_50, i_51, i_52, i_53, i_54, i_55, i_56, i_57, i_58, i_59, i_60, i_61, i_62, i_63, i_64, i_65, i_66, i_67, i_68, i_69, i_70, i_72, i_77, i_78, i_80, i_81, i_82, i_83, i_84, i_87, i_88, i_96, i_98, i_100, i_101, i_103, i_118, i_119, i_126, i_133, i_137, i_144, i_154, i_158, i_160, i_190, i_199, i_200, i_207, i_209, i_213, i_229, i_252, i_254, i_255, i_260, i_282, i_303, i_304, i_321, i_348, i_435, i_492, i_522, i_1000, i_1023, i_1600, i_2903, iI_neg]
    refine ⟨fun hx => absurd hx (by omega), fun _ => s_X4_ofBeam hf zf zt hl b0 b1 (by omega) (by omega) (fun th li wh go la hz hl => ?_)⟩
    have ih1 := ih (j + 1) th li wh go la (by omega) hz hl
    rw [nsucc] at ih1
    exact ih1
theorem dig_L160 {f : Int → Int} {h : Int64} {K : Int64 → (Nat → Int32) → (Nat → Int32) → (Nat → Int32) → (Nat → Int32) → (Nat → Int32) → Prop} (hf : OK 6 f) (zf : Z f)
    (hK : ∀ (th li wh go la : Int → Int), Z th → Ld f (f 2) li wh go → K (dgB f h (f 3).toNat) (aI th) (aI li) (aI wh) (aI go) (aI la)) :
    ∀ (m b : Nat) (th li wh go la : Int → Int), (b : Int) + m = f 3 → Z th → Ld f (f 2) li wh go → P_X4_digest_L160 (aI f) K (m + 1) (dgB f h b) (iI b) (aI th) (aI li) (aI wh) (aI go) (aI la) := by
  have h3 := hf.2.2.2.1
  intro m
  induction m with
  | zero =>
    intro b th li wh go la hb zt hl
    rw [P_X4_digest_L160_s]
    unfold B_X4_digest_L160
    simp (disch := omega) only [iI_le, i_m9, i_m1, i_0, i_1, i_2, i_3, i_4, i_5, i_6, i_7, i_8, i_9, i_10, i_11, i_12, i_13, i_14, i_15, i_16, i_17, i_18, i_19, i_20, i_21, i_22, i_23, i_24, i_25, i_26, i_27, i_28, i_29, i_30, i_31, i_32, i_33, i_34, i_35, i_36, i_37, i_38, i_39, i_40, i_41, i_42, i_43, i_44, i_45, i_46, i_47, i_48, i_49, i_50, i_51, i_52, i_53, i_54, i_55, i_56, i_57, i_58, i_59, i_60, i_61, i_62, i_63, i_64, i_65, i_66, i_67, i_68, i_69, i_70, i_72, i_77, i_78, i_80, i_81, i_82, i_83, i_84, i_87, i_88, i_96, i_98, i_100, i_101, i_103, i_118, i_119, i_126, i_133, i_137, i_144, i_154, i_158, i_160, i_190, i_199, i_200, i_207, i_209, i_213, i_229, i_252, i_254, i_255, i_260, i_282, i_303, i_304, i_321, i_348, i_435, i_492, i_522, i_1000, i_1023, i_1600, i_2903, iI_neg, aI_at, aI_l0, aI_l1, aI_l2, aI_l3]
    refine ⟨fun _ => ?_, fun hx => absurd (by omega) hx⟩
    rw [show b = (f 3).toNat by omega]
    exact hK th li wh go la zt hl
  | succ m ih =>
    intro b th li wh go la hb zt hl
    rw [P_X4_digest_L160_s]
    unfold B_X4_digest_L160
    simp (disch := omega) only [iI_le, iI_add, i_m9, i_m1, i_0, i_1, i_2, i_3, i_4, i_5, i_6, i_7, i_8, i_9, i_10, i_11, i_12, i_13, i_14, i_15, i_16, i_17, i_18, i_19, i_20, i_21, i_22, i_23, i_24, i_25, i_26, i_27, i_28, i_29, i_30, i_31, i_32, i_33, i_34, i_35, i_36, i_37, i_38, i_39, i_40, i_41, i_42, i_43, i_44, i_45, i_46, i_47, i_48, i_49, i_50, i_51, i_52, i_53, i_54, i_55, i_56, i_57, i_58, i_59, i_60, i_61, i_62, i_63, i_64, i_65, i_66, i_67, i_68, i_69, i_70, i_72, i_77, i_78, i_80, i_81, i_82, i_83, i_84, i_87, i_88, i_96, i_98, i_100, i_101, i_103, i_118, i_119, i_126, i_133, i_137, i_144, i_154, i_158, i_160, i_190, i_199, i_200, i_207, i_209, i_213, i_229, i_252, i_254, i_255, i_260, i_282, i_303, i_304, i_321, i_348, i_435, i_492, i_522, i_1000, i_1023, i_1600, i_2903, iI_neg, aI_at, aI_l0, aI_l1, aI_l2, aI_l3]
    refine ⟨fun hx => absurd hx (by omega), fun _ => ⟨7 + 1, dig_L173 hf zf (by omega) (by omega) (fun th li wh go la hz hl => ?_) _ 0 th li wh go la (by omega) zt hl⟩⟩
    have ih1 := ih (b + 1) th li wh go la (by omega) hz hl
    rw [nsucc] at ih1
    exact ih1
theorem dig_a {f li wh go : Int → Int} {kp : Int} {K : Int64 → Prop} (hf : OK 6 f) (hl : Ld f (f 2) li wh go) (hK : K (hs 2903 (coS f kp) 10)) : ∃ n : Nat, P_X4_digest_L15 (aI f) (iI kp) (aI li) (aI wh) (aI go) K n 2903 (iI 0) := ⟨10 + 1, dig_L15 hf hl hK 10 0 rfl⟩
theorem dig_b {f li wh go : Int → Int} {h : Int64} {K : Int64 → Prop} (hf : OK 6 f) (hl : Ld f (f 2) li wh go) (hK : K (dgW f h (f 2).toNat)) : ∃ n : Nat, P_X4_digest_L68 (aI f) (aI li) (aI wh) (aI go) K n h (iI 0) := ⟨(f 2).toNat + 1, dig_L68 hf hl hK (f 2).toNat 0 (by have := hf.2.2.1; omega)⟩
theorem dig_c {f th li wh go la : Int → Int} {h : Int64} {K : Int64 → (Nat → Int32) → (Nat → Int32) → (Nat → Int32) → (Nat → Int32) → (Nat → Int32) → Prop} (hf : OK 6 f) (zf : Z f) (zt : Z th) (hl : Ld f (f 2) li wh go)
    (hK : ∀ (th li wh go la : Int → Int), Z th → Ld f (f 2) li wh go → K (dgB f h (f 3).toNat) (aI th) (aI li) (aI wh) (aI go) (aI la)) : ∃ n : Nat, P_X4_digest_L160 (aI f) K n h (iI 0) (aI th) (aI li) (aI wh) (aI go) (aI la) := ⟨(f 3).toNat + 1, dig_L160 hf zf hK (f 3).toNat 0 th li wh go la (by have := hf.2.2.2.1; omega) zt hl⟩
theorem dig_d {f li wh go : Int → Int} {h : Int64} {K : Int64 → Prop} (hf : OK 6 f) (hl : Ld f (f 2) li wh go) (hK : K (dgT f h 20)) : ∃ n : Nat, P_X4_digest_L209 (aI f) (aI li) (aI wh) (aI go) K n h (iI 0) := ⟨20 + 1, dig_L209 hf hl hK 20 0 rfl⟩
theorem dig_e {f th li wh go la : Int → Int} {h : Int64} {K : Int64 → (Nat → Int32) → (Nat → Int32) → (Nat → Int32) → (Nat → Int32) → Int32 → (Nat → Int32) → Prop} (hf : OK 6 f) (zf : Z f) (zt : Z th) (hl : Ld f (f 2) li wh go)
    (hK : ∀ (th li wh go la : Int → Int), Z th → Ld f (f 2) li wh go → K (hs h (ibS f 5 0 1 3) 3) (aI th) (aI li) (aI wh) (aI go) (iI 1) (aI la)) : ∃ n : Nat, P_X4_digest_L254 (aI f) K n h (iI 0) (aI th) (aI li) (aI wh) (aI go) (iI 1) (aI la) := ⟨3 + 1, dig_L254 hf zf hK 3 0 th li wh go la rfl zt hl⟩
theorem s_X4_digest {n il th0 kp : Int} {f th T li wh go la : Int → Int} {Q : Int64 → (Nat → Int32) → Int32 → (Nat → Int32) → (Nat → Int32) → (Nat → Int32) → Int32 → (Nat → Int32) → Prop} (hf : OK 6 f) (zf : Z f) (zt : Z th) (hm : ML f il li wh go) (n0 : 0 ≤ n) (n1 : n ≤ 60)
    (hq : ∀ (th li wh go la : Int → Int) (il : Int), Z th → ML f il li wh go → Q (dgS f kp T n) (aI th) (iI 0) (aI li) (aI wh) (aI go) (iI il) (aI la)) :
    P_X4_digest (aI f) (aI th) (iI kp) (aI T) (iI n) (iI th0) (aI li) (aI wh) (aI go) (iI il) (aI la) Q := by
  have h8 := hf.2.2.1
  have h3 := hf.2.2.2.1
  unfold P_X4_digest
  simp only [i_m9, i_m1, i_0, i_1, i_2, i_3, i_4, i_5, i_6, i_7, i_8, i_9, i_10, i_11, i_12, i_13, i_14, i_15, i_16, i_17, i_18, i_19, i_20, i_21, i_22, i_23, i_24, i_25, i_26, i_27, i_28, i_29, i_30, i_31, i_32, i_33, i_34, i_35, i_36, i_37, i_38, i_39, i_40, i_41, i_42, i_43, i_44, i_45, i_46, i_47, i_48, i_49, i_50, i_51, i_52, i_53, i_54, i_55, i_56, i_57, i_58, i_59, i_60, i_61, i_62, i_63, i_64, i_65, i_66, i_67, i_68, i_69, i_70, i_72, i_77, i_78, i_80, i_81, i_82, i_83, i_84, i_87, i_88, i_96, i_98, i_100, i_101, i_103, i_118, i_119, i_126, i_133, i_137, i_144, i_154, i_158, i_160, i_190, i_199, i_200, i_207, i_209, i_213, i_229, i_252, i_254, i_255, i_260, i_282, i_303, i_304, i_321, i_348, i_435, i_492, i_522, i_1000, i_1023, i_1600, i_2903, iI_neg, aI_l0, aI_l1, aI_l2, aI_l3]
  refine s_X4_laysNow hf (by omega) hm (fun li wh go la hl => ?_)
  refine dig_a hf hl ?_
  refine dig_b hf hl ?_
  refine dig_c hf zf zt hl (fun th li wh go la zt hl => ?_)
  refine dig_d hf hl ?_
  refine dig_e hf zf zt hl (fun th li wh go la zt hl => ?_)
  refine s_X4_best hf zf zt (by omega) (fun th li wh go la zt hl => ?_)
  simp (disch := omega) only [iI_eq]
  refine ⟨fun e => s_X4_clear hf zf zt hl (by omega) (by omega) (fun th li wh go la zt hl => ?_), fun e => ?_⟩
  · have := s_X4_digest_J321 (kp := kp) (T := T) hf hl n0 n1 (Q := Q) (th := th) (th0 := 0) (il := 1) (la := la) (hq th li wh go la 1 zt (Or.inr ⟨rfl, hl⟩))
    unfold dg7 at this
    rw [if_neg e] at this
    exact this
  · have := s_X4_digest_J321 (kp := kp) (T := T) hf hl n0 n1 (Q := Q) (th := th) (th0 := 0) (il := 1) (la := la) (hq th li wh go la 1 zt (Or.inr ⟨rfl, hl⟩))
    unfold dg7 at this
    rw [if_pos e] at this
    exact this
