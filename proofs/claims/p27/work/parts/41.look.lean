theorem wholeFrom_at {w : Int} {wh : Int → Int} {Q : Int32 → Prop} (w0 : 0 ≤ w) (w1 : w < 8) (h : Q (iI (wh w))) : P_X2_wholeFrom (iI w) (aI wh) Q := by
  unfold P_X2_wholeFrom
  simp (disch := omega) only [iI_add, iI_sub, iI_mul, iI_neg, iI_lt, iI_le, iI_eq, iI_cl, aI_at, aI_up, aI_l0, aI_l1, aI_l2, aI_l3, i_m9, i_m1, i_0, i_1, i_2, i_3, i_4, i_5, i_6, i_7, i_8, i_9, i_10, i_11, i_12, i_13, i_14, i_15, i_16, i_17, i_18, i_19, i_20, i_21, i_22, i_23, i_24, i_25, i_26, i_27, i_28, i_29, i_30, i_31, i_32, i_33, i_34, i_35, i_36, i_37, i_38, i_39, i_40, i_41, i_42, i_43, i_44, i_45, i_46, i_47, i_48, i_49, i_50, i_51, i_52, i_53, i_54, i_55, i_56, i_57, i_58, i_59, i_60, i_61, i_62, i_63, i_64, i_65, i_66, i_67, i_68, i_69, i_70, i_72, i_77, i_78, i_80, i_81, i_82, i_83, i_84, i_87, i_88, i_96, i_98, i_100, i_101, i_103, i_118, i_119, i_126, i_133, i_137, i_144, i_154, i_158, i_160, i_190, i_199, i_200, i_207, i_209, i_213, i_229, i_252, i_254, i_255, i_260, i_282, i_303, i_304, i_321, i_348, i_435, i_492, i_522, i_1000, i_1023, i_1600, i_2903, iI_neg]
  exact ⟨fun hx => absurd hx (by omega), fun _ => ⟨fun hx => absurd hx (by omega), fun _ => ⟨iI_in (by omega) (by omega) (by omega), h⟩⟩⟩
theorem endOf_at {w : Int} {en : Int → Int} {Q : Int32 → Prop} (w0 : 0 ≤ w) (w1 : w < 8) (h : Q (iI (en w))) : P_X2_endOf (iI w) (aI en) Q := by
  unfold P_X2_endOf
  simp (disch := omega) only [iI_add, iI_sub, iI_mul, iI_neg, iI_lt, iI_le, iI_eq, iI_cl, aI_at, aI_up, aI_l0, aI_l1, aI_l2, aI_l3, i_m9, i_m1, i_0, i_1, i_2, i_3, i_4, i_5, i_6, i_7, i_8, i_9, i_10, i_11, i_12, i_13, i_14, i_15, i_16, i_17, i_18, i_19, i_20, i_21, i_22, i_23, i_24, i_25, i_26, i_27, i_28, i_29, i_30, i_31, i_32, i_33, i_34, i_35, i_36, i_37, i_38, i_39, i_40, i_41, i_42, i_43, i_44, i_45, i_46, i_47, i_48, i_49, i_50, i_51, i_52, i_53, i_54, i_55, i_56, i_57, i_58, i_59, i_60, i_61, i_62, i_63, i_64, i_65, i_66, i_67, i_68, i_69, i_70, i_72, i_77, i_78, i_80, i_81, i_82, i_83, i_84, i_87, i_88, i_96, i_98, i_100, i_101, i_103, i_118, i_119, i_126, i_133, i_137, i_144, i_154, i_158, i_160, i_190, i_199, i_200, i_207, i_209, i_213, i_229, i_252, i_254, i_255, i_260, i_282, i_303, i_304, i_321, i_348, i_435, i_492, i_522, i_1000, i_1023, i_1600, i_2903, iI_neg]
  exact ⟨fun hx => absurd hx (by omega), fun _ => ⟨fun hx => absurd hx (by omega), fun _ => ⟨iI_in (by omega) (by omega) (by omega), h⟩⟩⟩
theorem go_rng {mb w : Int} {g : Int → Int} (hg : OK mb g) (w0 : 0 ≤ w) (w1 : w < g 2) : -1 ≤ goS g w ∧ goS g w < 200 := by
  have h := lsN_rng hg w0 w1 (g (4 + 6 * w + 0)).toNat
  have g0 := hg.1
  have h5 := hg.2.2.2.2.1 w w0 w1
  unfold OKw at h5
  have hb : 0 ≤ barS g w := by
    unfold barS
    refine Int.mul_nonneg (divb (s := g 0) ?_ g0.1).1 (by omega)
    split <;> omega
  unfold goS
  split
  · split <;> omega
  · omega
theorem en_rng {mb w : Int} {g : Int → Int} (hg : OK mb g) (w0 : 0 ≤ w) (w1 : w < g 2) : 0 ≤ enS g w ∧ enS g w ≤ 200 ∧ (goS g w = -1 ∧ enS g w = 200 ∨ goS g w ≠ -1 ∧ enS g w = goS g w ∧ goS g w < 200) := by
  have := go_rng hg w0 w1
  unfold enS
  split <;> omega
theorem s_X2_goesAt {mb w : Int} {g li wh en : Int → Int} {Q : Int32 → Prop} (hg : OK mb g) (hl : LC g (g 2) li wh en) (w0 : 0 ≤ w) (w1 : w < g 2) (h : Q (iI (goS g w))) : P_X2_goesAt (iI w) (aI en) Q := by
  have n2 := hg.2.2.1
  have he := en_rng hg w0 w1
  unfold P_X2_goesAt
  refine endOf_at w0 (by omega) ?_
  rw [(hl w w0 w1).2.2]
  simp (disch := omega) only [iI_le, i_m9, i_m1, i_0, i_1, i_2, i_3, i_4, i_5, i_6, i_7, i_8, i_9, i_10, i_11, i_12, i_13, i_14, i_15, i_16, i_17, i_18, i_19, i_20, i_21, i_22, i_23, i_24, i_25, i_26, i_27, i_28, i_29, i_30, i_31, i_32, i_33, i_34, i_35, i_36, i_37, i_38, i_39, i_40, i_41, i_42, i_43, i_44, i_45, i_46, i_47, i_48, i_49, i_50, i_51, i_52, i_53, i_54, i_55, i_56, i_57, i_58, i_59, i_60, i_61, i_62, i_63, i_64, i_65, i_66, i_67, i_68, i_69, i_70, i_72, i_77, i_78, i_80, i_81, i_82, i_83, i_84, i_87, i_88, i_96, i_98, i_100, i_101, i_103, i_118, i_119, i_126, i_133, i_137, i_144, i_154, i_158, i_160, i_190, i_199, i_200, i_207, i_209, i_213, i_229, i_252, i_254, i_255, i_260, i_282, i_303, i_304, i_321, i_348, i_435, i_492, i_522, i_1000, i_1023, i_1600, i_2903, iI_neg]
  refine ⟨fun e => ?_, fun e => ?_⟩
  · rw [show goS g w = -1 by omega] at h; exact h
  · rw [show enS g w = goS g w by omega]; exact h
theorem fiN_s (g : Int → Int) (w : Int) (k : Nat) : fiN g w (k + 1) = if litS g w k ≠ -1 ∧ (fiN g w k = -1 ∨ litS g w k < fiN g w k) then litS g w k else fiN g w k := rfl
theorem s_X2_firstLit {mb w : Int} {c g li wh en : Int → Int} {Q : Int32 → Prop} (hA : AW c g) (hg : OK mb g) (hl : LC g (g 2) li wh en) (w0 : 0 ≤ w) (w1 : w < g 2) (h : Q (iI (fiN g w (g (4 + 6 * w + 0)).toNat))) : P_X2_firstLit (iI w) (aI c) (aI li) Q := by
  have n2 := hg.2.2.1
  obtain ⟨⟨l0, l1⟩, -, -, ⟨q0, q1⟩, -⟩ := hg.2.2.2.2.1 w w0 w1
  have lp : ∀ (m b : Nat), (b : Int) + m = g (4 + 6 * w + 0) → P_X2_firstLit_L4 (iI w) (aI c) (aI li) Q (m + 1) (iI (fiN g w b)) (iI b) := by
    intro m
    induction m with
    | zero =>
      intro b hb
      rw [P_X2_firstLit_L4_s]
      unfold B_X2_firstLit_L4
      simp only [i_m9, i_m1, i_0, i_1, i_2, i_3, i_4, i_5, i_6, i_7, i_8, i_9, i_10, i_11, i_12, i_13, i_14, i_15, i_16, i_17, i_18, i_19, i_20, i_21, i_22, i_23, i_24, i_25, i_26, i_27, i_28, i_29, i_30, i_31, i_32, i_33, i_34, i_35, i_36, i_37, i_38, i_39, i_40, i_41, i_42, i_43, i_44, i_45, i_46, i_47, i_48, i_49, i_50, i_51, i_52, i_53, i_54, i_55, i_56, i_57, i_58, i_59, i_60, i_61, i_62, i_63, i_64, i_65, i_66, i_67, i_68, i_69, i_70, i_72, i_77, i_78, i_80, i_81, i_82, i_83, i_84, i_87, i_88, i_96, i_98, i_100, i_101, i_103, i_118, i_119, i_126, i_133, i_137, i_144, i_154, i_158, i_160, i_190, i_199, i_200, i_207, i_209, i_213, i_229, i_252, i_254, i_255, i_260, i_282, i_303, i_304, i_321, i_348, i_435, i_492, i_522, i_1000, i_1023, i_1600, i_2903, iI_neg]
      refine s_AW_ofWord hA (by omega) w0 w1 (by omega) (by omega) (by omega) ?_
      simp (disch := omega) only [iI_le, i_m9, i_m1, i_0, i_1, i_2, i_3, i_4, i_5, i_6, i_7, i_8, i_9, i_10, i_11, i_12, i_13, i_14, i_15, i_16, i_17, i_18, i_19, i_20, i_21, i_22, i_23, i_24, i_25, i_26, i_27, i_28, i_29, i_30, i_31, i_32, i_33, i_34, i_35, i_36, i_37, i_38, i_39, i_40, i_41, i_42, i_43, i_44, i_45, i_46, i_47, i_48, i_49, i_50, i_51, i_52, i_53, i_54, i_55, i_56, i_57, i_58, i_59, i_60, i_61, i_62, i_63, i_64, i_65, i_66, i_67, i_68, i_69, i_70, i_72, i_77, i_78, i_80, i_81, i_82, i_83, i_84, i_87, i_88, i_96, i_98, i_100, i_101, i_103, i_118, i_119, i_126, i_133, i_137, i_144, i_154, i_158, i_160, i_190, i_199, i_200, i_207, i_209, i_213, i_229, i_252, i_254, i_255, i_260, i_282, i_303, i_304, i_321, i_348, i_435, i_492, i_522, i_1000, i_1023, i_1600, i_2903, iI_neg]
      refine ⟨fun _ => ?_, fun hx => absurd (by omega) hx⟩
      rw [show (g (4 + 6 * w + 0)).toNat = b by omega] at h
      exact h
    | succ m ih =>
      intro b hb
      have ih1 := ih (b + 1) (by omega)
      have hr := litS_rng hg w0 w1 b
      have hf := fiN_rng hg w0 w1 b
      rw [nsucc, fiN_s] at ih1
      rw [P_X2_firstLit_L4_s]
      unfold B_X2_firstLit_L4 P_X2_firstLit_J45 P_X2_firstLit_J42 P_X2_firstLit_J45
      simp only [i_m9, i_m1, i_0, i_1, i_2, i_3, i_4, i_5, i_6, i_7, i_8, i_9, i_10, i_11, i_12, i_13, i_14, i_15, i_16, i_17, i_18, i_19, i_20, i_21, i_22, i_23, i_24, i_25, i_26, i_27, i_28, i_29, i_30, i_31, i_32, i_33, i_34, i_35, i_36, i_37, i_38, i_39, i_40, i_41, i_42, i_43, i_44, i_45, i_46, i_47, i_48, i_49, i_50, i_51, i_52, i_53, i_54, i_55, i_56, i_57, i_58, i_59, i_60, i_61, i_62, i_63, i_64, i_65, i_66, i_67, i_68, i_69, i_70, i_72, i_77, i_78, i_80, i_81, i_82, i_83, i_84, i_87, i_88, i_96, i_98, i_100, i_101, i_103, i_118, i_119, i_126, i_133, i_137, i_144, i_154, i_158, i_160, i_190, i_199, i_200, i_207, i_209, i_213, i_229, i_252, i_254, i_255, i_260, i_282, i_303, i_304, i_321, i_348, i_435, i_492, i_522, i_1000, i_1023, i_1600, i_2903, iI_neg]
      refine s_AW_ofWord hA (by omega) w0 w1 (by omega) (by omega) (by omega) ?_
      simp (disch := omega) only [iI_le, iI_add, i_m9, i_m1, i_0, i_1, i_2, i_3, i_4, i_5, i_6, i_7, i_8, i_9, i_10, i_11, i_12, i_13, i_14, i_15, i_16, i_17, i_18, i_19, i_20, i_21, i_22, i_23, i_24, i_25, i_26, i_27, i_28, i_29, i_30, i_31, i_32, i_33, i_34, i_35, i_36, i_37, i_38, i_39, i_40, i_41, i_42, i_43, i_44, i_45, i_46, i_47, i_48, i_49, i_50, i_51, i_52, i_53, i_54, i_55, i_56, i_57, i_58, i_59, i_60, i_61, i_62, i_63, i_64, i_65, i_66, i_67, i_68, i_69, i_70, i_72, i_77, i_78, i_80, i_81, i_82, i_83, i_84, i_87, i_88, i_96, i_98, i_100, i_101, i_103, i_118, i_119, i_126, i_133, i_137, i_144, i_154, i_158, i_160, i_190, i_199, i_200, i_207, i_209, i_213, i_229, i_252, i_254, i_255, i_260, i_282, i_303, i_304, i_321, i_348, i_435, i_492, i_522, i_1000, i_1023, i_1600, i_2903, iI_neg]
      refine ⟨fun hx => absurd hx (by omega), fun _ => litBeat_at w0 (by omega) (by omega) (by omega) ?_⟩
      rw [(hl w w0 w1).1 b (by omega) (by omega)]
      simp (disch := omega) only [iI_le, iI_eq]
      refine ⟨fun e => ?_, fun e => ⟨fun e2 => ?_, fun e2 => ⟨fun e3 => ?_, fun e3 => ?_⟩⟩⟩
      · rw [if_neg (by omega)] at ih1; exact ih1
      · rw [if_pos (by omega)] at ih1; exact ih1
      · rw [if_neg (by omega)] at ih1; exact ih1
      · rw [if_pos (by omega)] at ih1; exact ih1
  unfold P_X2_firstLit
  simp only [i_m9, i_m1, i_0, i_1, i_2, i_3, i_4, i_5, i_6, i_7, i_8, i_9, i_10, i_11, i_12, i_13, i_14, i_15, i_16, i_17, i_18, i_19, i_20, i_21, i_22, i_23, i_24, i_25, i_26, i_27, i_28, i_29, i_30, i_31, i_32, i_33, i_34, i_35, i_36, i_37, i_38, i_39, i_40, i_41, i_42, i_43, i_44, i_45, i_46, i_47, i_48, i_49, i_50, i_51, i_52, i_53, i_54, i_55, i_56, i_57, i_58, i_59, i_60, i_61, i_62, i_63, i_64, i_65, i_66, i_67, i_68, i_69, i_70, i_72, i_77, i_78, i_80, i_81, i_82, i_83, i_84, i_87, i_88, i_96, i_98, i_100, i_101, i_103, i_118, i_119, i_126, i_133, i_137, i_144, i_154, i_158, i_160, i_190, i_199, i_200, i_207, i_209, i_213, i_229, i_252, i_254, i_255, i_260, i_282, i_303, i_304, i_321, i_348, i_435, i_492, i_522, i_1000, i_1023, i_1600, i_2903, iI_neg]
  exact ⟨_, lp (g (4 + 6 * w + 0)).toNat 0 (by omega)⟩
theorem s_X2_litLettersOf {mb w : Int} {c g li wh en : Int → Int} {Q : Int32 → Prop} (hA : AW c g) (hg : OK mb g) (hl : LC g (g 2) li wh en) (w0 : 0 ≤ w) (w1 : w < g 2) (h : Q (iI (loS g w))) : P_X2_litLettersOf (iI w) (aI c) (aI li) Q := by
  have n2 := hg.2.2.1
  obtain ⟨⟨l0, l1⟩, -⟩ := hg.2.2.2.2.1 w w0 w1
  have lp : ∀ (m b : Nat), (b : Int) + m = g (4 + 6 * w + 0) → P_X2_litLettersOf_L4 (iI w) (aI c) (aI li) Q (m + 1) (iI (sm (fun k => bi (decide (litS g w k ≠ -1))) b)) (iI b) := by
    intro m
    induction m with
    | zero =>
      intro b hb
      rw [P_X2_litLettersOf_L4_s]
      unfold B_X2_litLettersOf_L4
      simp only [i_m9, i_m1, i_0, i_1, i_2, i_3, i_4, i_5, i_6, i_7, i_8, i_9, i_10, i_11, i_12, i_13, i_14, i_15, i_16, i_17, i_18, i_19, i_20, i_21, i_22, i_23, i_24, i_25, i_26, i_27, i_28, i_29, i_30, i_31, i_32, i_33, i_34, i_35, i_36, i_37, i_38, i_39, i_40, i_41, i_42, i_43, i_44, i_45, i_46, i_47, i_48, i_49, i_50, i_51, i_52, i_53, i_54, i_55, i_56, i_57, i_58, i_59, i_60, i_61, i_62, i_63, i_64, i_65, i_66, i_67, i_68, i_69, i_70, i_72, i_77, i_78, i_80, i_81, i_82, i_83, i_84, i_87, i_88, i_96, i_98, i_100, i_101, i_103, i_118, i_119, i_126, i_133, i_137, i_144, i_154, i_158, i_160, i_190, i_199, i_200, i_207, i_209, i_213, i_229, i_252, i_254, i_255, i_260, i_282, i_303, i_304, i_321, i_348, i_435, i_492, i_522, i_1000, i_1023, i_1600, i_2903, iI_neg]
      refine s_AW_ofWord hA (by omega) w0 w1 (by omega) (by omega) (by omega) ?_
      simp (disch := omega) only [iI_le, i_m9, i_m1, i_0, i_1, i_2, i_3, i_4, i_5, i_6, i_7, i_8, i_9, i_10, i_11, i_12, i_13, i_14, i_15, i_16, i_17, i_18, i_19, i_20, i_21, i_22, i_23, i_24, i_25, i_26, i_27, i_28, i_29, i_30, i_31, i_32, i_33, i_34, i_35, i_36, i_37, i_38, i_39, i_40, i_41, i_42, i_43, i_44, i_45, i_46, i_47, i_48, i_49, i_50, i_51, i_52, i_53, i_54, i_55, i_56, i_57, i_58, i_59, i_60, i_61, i_62, i_63, i_64, i_65, i_66, i_67, i_68, i_69, i_70, i_72, i_77, i_78, i_80, i_81, i_82, i_83, i_84, i_87, i_88, i_96, i_98, i_100, i_101, i_103, i_118, i_119, i_126, i_133, i_137, i_144, i_154, i_158, i_160, i_190, i_199, i_200, i_207, i_209, i_213, i_229, i_252, i_254, i_255, i_260, i_282, i_303, i_304, i_321, i_348, i_435, i_492, i_522, i_1000, i_1023, i_1600, i_2903, iI_neg]
      refine ⟨fun _ => ?_, fun hx => absurd (by omega) hx⟩
      unfold loS at h
      rw [show (g (4 + 6 * w + 0)).toNat = b by omega] at h
      exact h
    | succ m ih =>
      intro b hb
      have ih1 := ih (b + 1) (by omega)
      simp only [nsucc, sm_s] at ih1
      rw [P_X2_litLettersOf_L4_s]
      unfold B_X2_litLettersOf_L4 P_X2_litLettersOf_J30
      simp only [i_m9, i_m1, i_0, i_1, i_2, i_3, i_4, i_5, i_6, i_7, i_8, i_9, i_10, i_11, i_12, i_13, i_14, i_15, i_16, i_17, i_18, i_19, i_20, i_21, i_22, i_23, i_24, i_25, i_26, i_27, i_28, i_29, i_30, i_31, i_32, i_33, i_34, i_35, i_36, i_37, i_38, i_39, i_40, i_41, i_42, i_43, i_44, i_45, i_46, i_47, i_48, i_49, i_50, i_51, i_52, i_53, i_54, i_55, i_56, i_57, i_58, i_59, i_60, i_61, i_62, i_63, i_64, i_65, i_66, i_67, i_68, i_69, i_70, i_72, i_77, i_78, i_80, i_81, i_82, i_83, i_84, i_87, i_88, i_96, i_98, i_100, i_101, i_103, i_118, i_119, i_126, i_133, i_137, i_144, i_154, i_158, i_160, i_190, i_199, i_200, i_207, i_209, i_213, i_229, i_252, i_254, i_255, i_260, i_282, i_303, i_304, i_321, i_348, i_435, i_492, i_522, i_1000, i_1023, i_1600, i_2903, iI_neg]
      refine s_AW_ofWord hA (by omega) w0 w1 (by omega) (by omega) (by omega) ?_
      simp (disch := omega) only [iI_le, iI_add, i_m9, i_m1, i_0, i_1, i_2, i_3, i_4, i_5, i_6, i_7, i_8, i_9, i_10, i_11, i_12, i_13, i_14, i_15, i_16, i_17, i_18, i_19, i_20, i_21, i_22, i_23, i_24, i_25, i_26, i_27, i_28, i_29, i_30, i_31, i_32, i_33, i_34, i_35, i_36, i_37, i_38, i_39, i_40, i_41, i_42, i_43, i_44, i_45, i_46, i_47, i_48, i_49, i_50, i_51, i_52, i_53, i_54, i_55, i_56, i_57, i_58, i_59, i_60, i_61, i_62, i_63, i_64, i_65, i_66, i_67, i_68, i_69, i_70, i_72, i_77, i_78, i_80, i_81, i_82, i_83, i_84, i_87, i_88, i_96, i_98, i_100, i_101, i_103, i_118, i_119, i_126, i_133, i_137, i_144, i_154, i_158, i_160, i_190, i_199, i_200, i_207, i_209, i_213, i_229, i_252, i_254, i_255, i_260, i_282, i_303, i_304, i_321, i_348, i_435, i_492, i_522, i_1000, i_1023, i_1600, i_2903, iI_neg]
      refine ⟨fun hx => absurd hx (by omega), fun _ => ?_⟩
      refine litBeat_at w0 (by omega) (by omega) (by omega) ?_
      have hr := litS_rng hg w0 w1 b
      have hq := (hg.2.2.2.2.1 w w0 w1).2.2.2.1
      rw [(hl w w0 w1).1 b (by omega) (by omega)]
      simp (disch := omega) only [iI_eq]
      refine ⟨fun e => ?_, fun e => ?_⟩
      · rw [decide_eq_false (fun hx => hx e), bi_false, Int.add_zero] at ih1
        exact ih1
      · rw [decide_eq_true e, bi_true] at ih1
        exact ih1
  unfold P_X2_litLettersOf
  rw [i_0]
  exact ⟨_, lp (g (4 + 6 * w + 0)).toNat 0 (by omega)⟩
theorem s_X2_litLetters {mb : Int} {c g li wh en : Int → Int} {Q : Int32 → Prop} (hA : AW c g) (hg : OK mb g) (hl : LC g (g 2) li wh en) (h : Q (iI (alS g))) : P_X2_litLetters (aI c) (aI li) Q := by
  have n2 := hg.2.2.1
  have lp : ∀ (m b : Nat), (b : Int) + m = g 2 → P_X2_litLetters_L4 (aI c) (aI li) Q (m + 1) (iI (sm (loS g) b)) (iI b) := by
    intro m
    induction m with
    | zero =>
      intro b hb
      rw [P_X2_litLetters_L4_s]
      unfold B_X2_litLetters_L4
      simp only [i_m9, i_m1, i_0, i_1, i_2, i_3, i_4, i_5, i_6, i_7, i_8, i_9, i_10, i_11, i_12, i_13, i_14, i_15, i_16, i_17, i_18, i_19, i_20, i_21, i_22, i_23, i_24, i_25, i_26, i_27, i_28, i_29, i_30, i_31, i_32, i_33, i_34, i_35, i_36, i_37, i_38, i_39, i_40, i_41, i_42, i_43, i_44, i_45, i_46, i_47, i_48, i_49, i_50, i_51, i_52, i_53, i_54, i_55, i_56, i_57, i_58, i_59, i_60, i_61, i_62, i_63, i_64, i_65, i_66, i_67, i_68, i_69, i_70, i_72, i_77, i_78, i_80, i_81, i_82, i_83, i_84, i_87, i_88, i_96, i_98, i_100, i_101, i_103, i_118, i_119, i_126, i_133, i_137, i_144, i_154, i_158, i_160, i_190, i_199, i_200, i_207, i_209, i_213, i_229, i_252, i_254, i_255, i_260, i_282, i_303, i_304, i_321, i_348, i_435, i_492, i_522, i_1000, i_1023, i_1600, i_2903, iI_neg]
      refine s_AW_words hA ?_
      simp (disch := omega) only [iI_le, i_m9, i_m1, i_0, i_1, i_2, i_3, i_4, i_5, i_6, i_7, i_8, i_9, i_10, i_11, i_12, i_13, i_14, i_15, i_16, i_17, i_18, i_19, i_20, i_21, i_22, i_23, i_24, i_25, i_26, i_27, i_28, i_29, i_30, i_31, i_32, i_33, i_34, i_35, i_36, i_37, i_38, i_39, i_40, i_41, i_42, i_43, i_44, i_45, i_46, i_47, i_48, i_49, i_50, i_51, i_52, i_53, i_54, i_55, i_56, i_57, i_58, i_59, i_60, i_61, i_62, i_63, i_64, i_65, i_66, i_67, i_68, i_69, i_70, i_72, i_77, i_78, i_80, i_81, i_82, i_83, i_84, i_87, i_88, i_96, i_98, i_100, i_101, i_103, i_118, i_119, i_126, i_133, i_137, i_144, i_154, i_158, i_160, i_190, i_199, i_200, i_207, i_209, i_213, i_229, i_252, i_254, i_255, i_260, i_282, i_303, i_304, i_321, i_348, i_435, i_492, i_522, i_1000, i_1023, i_1600, i_2903, iI_neg]
      refine ⟨fun _ => ?_, fun hx => absurd (by omega) hx⟩
      unfold alS at h
      rw [show (g 2).toNat = b by omega] at h
      exact h
    | succ m ih =>
      intro b hb
      have ih1 := ih (b + 1) (by omega)
      simp only [nsucc, sm_s] at ih1
      rw [P_X2_litLetters_L4_s]
      unfold B_X2_litLetters_L4
      simp only [i_m9, i_m1, i_0, i_1, i_2, i_3, i_4, i_5, i_6, i_7, i_8, i_9, i_10, i_11, i_12, i_13, i_14, i_15, i_16, i_17, i_18, i_19, i_20, i_21, i_22, i_23, i_24, i_25, i_26, i_27, i_28, i_29, i_30, i_31, i_32, i_33, i_34, i_35, i_36, i_37, i_38, i_39, i_40, i_41, i_42, i_43, i_44, i_45, i_46, i_47, i_48, i_49, i_50, i_51, i_52, i_53, i_54, i_55, i_56, i_57, i_58, i_59, i_60, i_61, i_62, i_63, i_64, i_65, i_66, i_67, i_68, i_69, i_70, i_72, i_77, i_78, i_80, i_81, i_82, i_83, i_84, i_87, i_88, i_96, i_98, i_100, i_101, i_103, i_118, i_119, i_126, i_133, i_137, i_144, i_154, i_158, i_160, i_190, i_199, i_200, i_207, i_209, i_213, i_229, i_252, i_254, i_255, i_260, i_282, i_303, i_304, i_321, i_348, i_435, i_492, i_522, i_1000, i_1023, i_1600, i_2903, iI_neg]
      refine s_AW_words hA ?_
      simp (disch := omega) only [iI_le, iI_add, i_m9, i_m1, i_0, i_1, i_2, i_3, i_4, i_5, i_6, i_7, i_8, i_9, i_10, i_11, i_12, i_13, i_14, i_15, i_16, i_17, i_18, i_19, i_20, i_21, i_22, i_23, i_24, i_25, i_26, i_27, i_28, i_29, i_30, i_31, i_32, i_33, i_34, i_35, i_36, i_37, i_38, i_39, i_40, i_41, i_42, i_43, i_44, i_45, i_46, i_47, i_48, i_49, i_50, i_51, i_52, i_53, i_54, i_55, i_56, i_57, i_58, i_59, i_60, i_61, i_62, i_63, i_64, i_65, i_66, i_67, i_68, i_69, i_70, i_72, i_77, i_78, i_80, i_81, i_82, i_83, i_84, i_87, i_88, i_96, i_98, i_100, i_101, i_103, i_118, i_119, i_126, i_133, i_137, i_144, i_154, i_158, i_160, i_190, i_199, i_200, i_207, i_209, i_213, i_229, i_252, i_254, i_255, i_260, i_282, i_303, i_304, i_321, i_348, i_435, i_492, i_522, i_1000, i_1023, i_1600, i_2903, iI_neg]
      refine ⟨fun hx => absurd hx (by omega), fun _ => ?_⟩
      refine s_X2_litLettersOf hA hg hl (by omega) (by omega) ?_
      simp only [iI_add]
      exact ih1
  unfold P_X2_litLetters
  rw [i_0]
  exact ⟨_, lp (g 2).toNat 0 (by omega)⟩
theorem s_X2_wholeWords {mb : Int} {c g li wh en : Int → Int} {Q : Int32 → Prop} (hA : AW c g) (hg : OK mb g) (hl : LC g (g 2) li wh en) (h : Q (iI (whS g))) : P_X2_wholeWords (aI c) (aI wh) Q := by
  have n2 := hg.2.2.1
  have lp : ∀ (m b : Nat), (b : Int) + m = g 2 → P_X2_wholeWords_L4 (aI c) (aI wh) Q (m + 1) (iI (sm (fun w => bi (decide (wlS g w ≠ -1))) b)) (iI b) := by
    intro m
    induction m with
    | zero =>
      intro b hb
      rw [P_X2_wholeWords_L4_s]
      unfold B_X2_wholeWords_L4
      simp only [i_m9, i_m1, i_0, i_1, i_2, i_3, i_4, i_5, i_6, i_7, i_8, i_9, i_10, i_11, i_12, i_13, i_14, i_15, i_16, i_17, i_18, i_19, i_20, i_21, i_22, i_23, i_24, i_25, i_26, i_27, i_28, i_29, i_30, i_31, i_32, i_33, i_34, i_35, i_36, i_37, i_38, i_39, i_40, i_41, i_42, i_43, i_44, i_45, i_46, i_47, i_48, i_49, i_50, i_51, i_52, i_53, i_54, i_55, i_56, i_57, i_58, i_59, i_60, i_61, i_62, i_63, i_64, i_65, i_66, i_67, i_68, i_69, i_70, i_72, i_77, i_78, i_80, i_81, i_82, i_83, i_84, i_87, i_88, i_96, i_98, i_100, i_101, i_103, i_118, i_119, i_126, i_133, i_137, i_144, i_154, i_158, i_160, i_190, i_199, i_200, i_207, i_209, i_213, i_229, i_252, i_254, i_255, i_260, i_282, i_303, i_304, i_321, i_348, i_435, i_492, i_522, i_1000, i_1023, i_1600, i_2903, iI_neg]
      refine s_AW_words hA ?_
      simp (disch := omega) only [iI_le, i_m9, i_m1, i_0, i_1, i_2, i_3, i_4, i_5, i_6, i_7, i_8, i_9, i_10, i_11, i_12, i_13, i_14, i_15, i_16, i_17, i_18, i_19, i_20, i_21, i_22, i_23, i_24, i_25, i_26, i_27, i_28, i_29, i_30, i_31, i_32, i_33, i_34, i_35, i_36, i_37, i_38, i_39, i_40, i_41, i_42, i_43, i_44, i_45, i_46, i_47, i_48, i_49, i_50, i_51, i_52, i_53, i_54, i_55, i_56, i_57, i_58, i_59, i_60, i_61, i_62, i_63, i_64, i_65, i_66, i_67, i_68, i_69, i_70, i_72, i_77, i_78, i_80, i_81, i_82, i_83, i_84, i_87, i_88, i_96, i_98, i_100, i_101, i_103, i_118, i_119, i_126, i_133, i_137, i_144, i_154, i_158, i_160, i_190, i_199, i_200, i_207, i_209, i_213, i_229, i_252, i_254, i_255, i_260, i_282, i_303, i_304, i_321, i_348, i_435, i_492, i_522, i_1000, i_1023, i_1600, i_2903, iI_neg]
      refine ⟨fun _ => ?_, fun hx => absurd (by omega) hx⟩
      unfold whS at h
      rw [show (g 2).toNat = b by omega] at h
      exact h
    | succ m ih =>
      intro b hb
      have ih1 := ih (b + 1) (by omega)
      simp only [nsucc, sm_s] at ih1
      rw [P_X2_wholeWords_L4_s]
      unfold B_X2_wholeWords_L4 P_X2_wholeWords_J27
      simp only [i_m9, i_m1, i_0, i_1, i_2, i_3, i_4, i_5, i_6, i_7, i_8, i_9, i_10, i_11, i_12, i_13, i_14, i_15, i_16, i_17, i_18, i_19, i_20, i_21, i_22, i_23, i_24, i_25, i_26, i_27, i_28, i_29, i_30, i_31, i_32, i_33, i_34, i_35, i_36, i_37, i_38, i_39, i_40, i_41, i_42, i_43, i_44, i_45, i_46, i_47, i_48, i_49, i_50, i_51, i_52, i_53, i_54, i_55, i_56, i_57, i_58, i_59, i_60, i_61, i_62, i_63, i_64, i_65, i_66, i_67, i_68, i_69, i_70, i_72, i_77, i_78, i_80, i_81, i_82, i_83, i_84, i_87, i_88, i_96, i_98, i_100, i_101, i_103, i_118, i_119, i_126, i_133, i_137, i_144, i_154, i_158, i_160, i_190, i_199, i_200, i_207, i_209, i_213, i_229, i_252, i_254, i_255, i_260, i_282, i_303, i_304, i_321, i_348, i_435, i_492, i_522, i_1000, i_1023, i_1600, i_2903, iI_neg]
      refine s_AW_words hA ?_
      simp (disch := omega) only [iI_le, iI_add, i_m9, i_m1, i_0, i_1, i_2, i_3, i_4, i_5, i_6, i_7, i_8, i_9, i_10, i_11, i_12, i_13, i_14, i_15, i_16, i_17, i_18, i_19, i_20, i_21, i_22, i_23, i_24, i_25, i_26, i_27, i_28, i_29, i_30, i_31, i_32, i_33, i_34, i_35, i_36, i_37, i_38, i_39, i_40, i_41, i_42, i_43, i_44, i_45, i_46, i_47, i_48, i_49, i_50, i_51, i_52, i_53, i_54, i_55, i_56, i_57, i_58, i_59, i_60, i_61, i_62, i_63, i_64, i_65, i_66, i_67, i_68, i_69, i_70, i_72, i_77, i_78, i_80, i_81, i_82, i_83, i_84, i_87, i_88, i_96, i_98, i_100, i_101, i_103, i_118, i_119, i_126, i_133, i_137, i_144, i_154, i_158, i_160, i_190, i_199, i_200, i_207, i_209, i_213, i_229, i_252, i_254, i_255, i_260, i_282, i_303, i_304, i_321, i_348, i_435, i_492, i_522, i_1000, i_1023, i_1600, i_2903, iI_neg]
      refine ⟨fun hx => absurd hx (by omega), fun _ => ?_⟩
      refine wholeFrom_at (by omega) (by omega) ?_
      rw [(hl b (by omega) (by omega)).2.1]
      have hr := wl_rng hg (w := b) (by omega) (by omega)
      simp (disch := omega) only [iI_eq]
      refine ⟨fun e => ?_, fun e => ?_⟩
      · rw [decide_eq_false (fun hx => hx e), bi_false, Int.add_zero] at ih1
        exact ih1
      · rw [decide_eq_true e, bi_true] at ih1
        exact ih1
  unfold P_X2_wholeWords
  rw [i_0]
  exact ⟨_, lp (g 2).toNat 0 (by omega)⟩
theorem lwN_s (g : Int → Int) (w : Nat) : lwN g (w + 1) = if wlS g w ≤ lwN g w then lwN g w else wlS g w := rfl
theorem s_X2_lastWhole {mb : Int} {c g li wh en : Int → Int} {Q : Int32 → Prop} (hA : AW c g) (hg : OK mb g) (hl : LC g (g 2) li wh en) (h : Q (iI (lwN g (g 2).toNat))) : P_X2_lastWhole (aI c) (aI wh) Q := by
  have n2 := hg.2.2.1
  have lp : ∀ (m b : Nat), (b : Int) + m = g 2 → P_X2_lastWhole_L4 (aI c) (aI wh) Q (m + 1) (iI (lwN g b)) (iI b) := by
    intro m
    induction m with
    | zero =>
      intro b hb
      rw [P_X2_lastWhole_L4_s]
      unfold B_X2_lastWhole_L4
      refine s_AW_words hA ?_
      simp (disch := omega) only [iI_le, i_m9, i_m1, i_0, i_1, i_2, i_3, i_4, i_5, i_6, i_7, i_8, i_9, i_10, i_11, i_12, i_13, i_14, i_15, i_16, i_17, i_18, i_19, i_20, i_21, i_22, i_23, i_24, i_25, i_26, i_27, i_28, i_29, i_30, i_31, i_32, i_33, i_34, i_35, i_36, i_37, i_38, i_39, i_40, i_41, i_42, i_43, i_44, i_45, i_46, i_47, i_48, i_49, i_50, i_51, i_52, i_53, i_54, i_55, i_56, i_57, i_58, i_59, i_60, i_61, i_62, i_63, i_64, i_65, i_66, i_67, i_68, i_69, i_70, i_72, i_77, i_78, i_80, i_81, i_82, i_83, i_84, i_87, i_88, i_96, i_98, i_100, i_101, i_103, i_118, i_119, i_126, i_133, i_137, i_144, i_154, i_158, i_160, i_190, i_199, i_200, i_207, i_209, i_213, i_229, i_252, i_254, i_255, i_260, i_282, i_303, i_304, i_321, i_348, i_435, i_492, i_522, i_1000, i_1023, i_1600, i_2903, iI_neg]
      refine ⟨fun _ => ?_, fun hx => absurd (by omega) hx⟩
      rw [show (g 2).toNat = b by omega] at h
      exact h
    | succ m ih =>
      intro b hb
      have ih1 := ih (b + 1) (by omega)
      have hr := wl_rng hg (w := b) (by omega) (by omega)
      have hf := lwN_rng hg b (by omega)
      rw [nsucc, lwN_s] at ih1
      rw [P_X2_lastWhole_L4_s]
      unfold B_X2_lastWhole_L4
      refine s_AW_words hA ?_
      simp (disch := omega) only [iI_le, iI_add, i_m9, i_m1, i_0, i_1, i_2, i_3, i_4, i_5, i_6, i_7, i_8, i_9, i_10, i_11, i_12, i_13, i_14, i_15, i_16, i_17, i_18, i_19, i_20, i_21, i_22, i_23, i_24, i_25, i_26, i_27, i_28, i_29, i_30, i_31, i_32, i_33, i_34, i_35, i_36, i_37, i_38, i_39, i_40, i_41, i_42, i_43, i_44, i_45, i_46, i_47, i_48, i_49, i_50, i_51, i_52, i_53, i_54, i_55, i_56, i_57, i_58, i_59, i_60, i_61, i_62, i_63, i_64, i_65, i_66, i_67, i_68, i_69, i_70, i_72, i_77, i_78, i_80, i_81, i_82, i_83, i_84, i_87, i_88, i_96, i_98, i_100, i_101, i_103, i_118, i_119, i_126, i_133, i_137, i_144, i_154, i_158, i_160, i_190, i_199, i_200, i_207, i_209, i_213, i_229, i_252, i_254, i_255, i_260, i_282, i_303, i_304, i_321, i_348, i_435, i_492, i_522, i_1000, i_1023, i_1600, i_2903, iI_neg]
      refine ⟨fun hx => absurd hx (by omega), fun _ => wholeFrom_at (by omega) (by omega) ?_⟩
      rw [(hl b (by omega) (by omega)).2.1]
      simp (disch := omega) only [iI_lt, iI_if]
      by_cases e : wlS g b ≤ lwN g b
      · rw [if_neg (by omega)]
        rw [if_pos e] at ih1; exact ih1
      · rw [if_pos (by omega)]
        rw [if_neg e] at ih1; exact ih1
  unfold P_X2_lastWhole
  simp only [i_m9, i_m1, i_0, i_1, i_2, i_3, i_4, i_5, i_6, i_7, i_8, i_9, i_10, i_11, i_12, i_13, i_14, i_15, i_16, i_17, i_18, i_19, i_20, i_21, i_22, i_23, i_24, i_25, i_26, i_27, i_28, i_29, i_30, i_31, i_32, i_33, i_34, i_35, i_36, i_37, i_38, i_39, i_40, i_41, i_42, i_43, i_44, i_45, i_46, i_47, i_48, i_49, i_50, i_51, i_52, i_53, i_54, i_55, i_56, i_57, i_58, i_59, i_60, i_61, i_62, i_63, i_64, i_65, i_66, i_67, i_68, i_69, i_70, i_72, i_77, i_78, i_80, i_81, i_82, i_83, i_84, i_87, i_88, i_96, i_98, i_100, i_101, i_103, i_118, i_119, i_126, i_133, i_137, i_144, i_154, i_158, i_160, i_190, i_199, i_200, i_207, i_209, i_213, i_229, i_252, i_254, i_255, i_260, i_282, i_303, i_304, i_321, i_348, i_435, i_492, i_522, i_1000, i_1023, i_1600, i_2903, iI_neg]
  exact ⟨_, lp (g 2).toNat 0 (by omega)⟩
theorem snS_iff {mb w k t : Int} {g : Int → Int} (hg : OK mb g) (w0 : 0 ≤ w) (w1 : w < g 2) (t1 : t ≤ 199) : snS g w k t = true ↔ litS g w k ≠ -1 ∧ litS g w k ≤ t ∧ t < enS g w := by
  have he := en_rng hg w0 w1
  unfold snS
  rw [Bool.and_eq_true, Bool.and_eq_true, Bool.or_eq_true, decide_eq_true_iff, decide_eq_true_iff, decide_eq_true_iff, decide_eq_true_iff]
  omega
theorem s_X2_isThere {w s t : Int} {en : Int → Int} {Q : Int32 → Prop} (w0 : 0 ≤ w) (w1 : w < 8) (hs : -1 ≤ s ∧ s < 200) (t0 : 0 ≤ t) (t1 : t ≤ 199) (he : 0 ≤ en w ∧ en w ≤ 200) (h : Q (iI (bi (decide (s ≠ -1 ∧ s ≤ t ∧ t < en w))))) : P_X2_isThere (iI w) (iI s) (iI t) (aI en) Q := by
  have no : ¬ (s ≠ -1 ∧ s ≤ t ∧ t < en w) → Q (iI 0) := fun hx => by
    rw [decide_eq_false hx] at h; exact h
  unfold P_X2_isThere
  simp (disch := omega) only [iI_lt, iI_eq, i_m9, i_m1, i_0, i_1, i_2, i_3, i_4, i_5, i_6, i_7, i_8, i_9, i_10, i_11, i_12, i_13, i_14, i_15, i_16, i_17, i_18, i_19, i_20, i_21, i_22, i_23, i_24, i_25, i_26, i_27, i_28, i_29, i_30, i_31, i_32, i_33, i_34, i_35, i_36, i_37, i_38, i_39, i_40, i_41, i_42, i_43, i_44, i_45, i_46, i_47, i_48, i_49, i_50, i_51, i_52, i_53, i_54, i_55, i_56, i_57, i_58, i_59, i_60, i_61, i_62, i_63, i_64, i_65, i_66, i_67, i_68, i_69, i_70, i_72, i_77, i_78, i_80, i_81, i_82, i_83, i_84, i_87, i_88, i_96, i_98, i_100, i_101, i_103, i_118, i_119, i_126, i_133, i_137, i_144, i_154, i_158, i_160, i_190, i_199, i_200, i_207, i_209, i_213, i_229, i_252, i_254, i_255, i_260, i_282, i_303, i_304, i_321, i_348, i_435, i_492, i_522, i_1000, i_1023, i_1600, i_2903, iI_neg]
  refine ⟨fun e => no (by omega), fun e => ⟨fun e2 => no (by omega), fun e2 => endOf_at w0 w1 ?_⟩⟩
  simp (disch := omega) only [iI_le]
  refine ⟨fun e3 => no (by omega), fun e3 => ?_⟩
  rw [decide_eq_true (⟨e, by omega, by omega⟩ : s ≠ -1 ∧ s ≤ t ∧ t < en w)] at h; exact h
theorem s_X2_isSeen {mb w k t : Int} {c g li wh en : Int → Int} {Q : Int32 → Prop} (hA : AW c g) (hg : OK mb g) (hl : LC g (g 2) li wh en) (w0 : 0 ≤ w) (w1 : w < g 2) (k0 : -1000 ≤ k) (k1 : k ≤ 1000) (t0 : 0 ≤ t) (t1 : t ≤ 199) (h : Q (iI (bi (decide (0 ≤ k ∧ k < g (4 + 6 * w + 0)) && snS g w k t)))) : P_X2_isSeen (iI w) (iI k) (iI t) (aI c) (aI li) (aI en) Q := by
  have n2 := hg.2.2.1
  obtain ⟨⟨l0, l1⟩, -, -, ⟨q0, q1⟩, -⟩ := hg.2.2.2.2.1 w w0 w1
  have he := en_rng hg w0 w1
  have hr := litS_rng hg w0 w1 k
  have h0 : ¬ ((0 ≤ k ∧ k < g (4 + 6 * w + 0)) ∧ (litS g w k ≠ -1 ∧ litS g w k ≤ t ∧ t < enS g w)) → Q (iI 0) := fun hx => by
    rw [show (decide (0 ≤ k ∧ k < g (4 + 6 * w + 0)) && snS g w k t) = false by rw [← Bool.not_eq_true, Bool.and_eq_true, decide_eq_true_iff, snS_iff hg w0 w1 t1]; exact hx] at h
    exact h
  unfold P_X2_isSeen
  simp only [i_m9, i_m1, i_0, i_1, i_2, i_3, i_4, i_5, i_6, i_7, i_8, i_9, i_10, i_11, i_12, i_13, i_14, i_15, i_16, i_17, i_18, i_19, i_20, i_21, i_22, i_23, i_24, i_25, i_26, i_27, i_28, i_29, i_30, i_31, i_32, i_33, i_34, i_35, i_36, i_37, i_38, i_39, i_40, i_41, i_42, i_43, i_44, i_45, i_46, i_47, i_48, i_49, i_50, i_51, i_52, i_53, i_54, i_55, i_56, i_57, i_58, i_59, i_60, i_61, i_62, i_63, i_64, i_65, i_66, i_67, i_68, i_69, i_70, i_72, i_77, i_78, i_80, i_81, i_82, i_83, i_84, i_87, i_88, i_96, i_98, i_100, i_101, i_103, i_118, i_119, i_126, i_133, i_137, i_144, i_154, i_158, i_160, i_190, i_199, i_200, i_207, i_209, i_213, i_229, i_252, i_254, i_255, i_260, i_282, i_303, i_304, i_321, i_348, i_435, i_492, i_522, i_1000, i_1023, i_1600, i_2903, iI_neg]
  rw [iI_lt (by omega) (by omega) (by omega) (by omega)]
  refine ⟨fun e => h0 (by omega), fun e => s_AW_ofWord hA (by omega) w0 w1 (by omega) (by omega) (by omega) ?_⟩
  rw [iI_lt (by omega) (by omega) (by omega) (by omega)]
  refine ⟨fun e2 => litBeat_at w0 (by omega) (by omega) (by omega) ?_, fun e2 => h0 (by omega)⟩
  rw [(hl w w0 w1).1 k (by omega) e2]
  refine s_X2_isThere w0 (by omega) (by omega) t0 t1 (by rw [(hl w w0 w1).2.2]; omega) ⟨bi_nar _, ?_⟩
  rw [(hl w w0 w1).2.2]
  rw [show (decide (0 ≤ k ∧ k < g (4 + 6 * w + 0)) && snS g w k t) = decide (litS g w k ≠ -1 ∧ litS g w k ≤ t ∧ t < enS g w) by rw [Bool.eq_iff_iff, Bool.and_eq_true, decide_eq_true_iff, decide_eq_true_iff, snS_iff hg w0 w1 t1]; omega] at h
  exact h
theorem s_X2_seenLettersOf {mb w t : Int} {c g li wh en : Int → Int} {Q : Int32 → Prop} (hA : AW c g) (hg : OK mb g) (hl : LC g (g 2) li wh en) (w0 : 0 ≤ w) (w1 : w < g 2) (t0 : 0 ≤ t) (t1 : t ≤ 199) (h : Q (iI (soS g w t))) : P_X2_seenLettersOf (iI w) (iI t) (aI c) (aI li) (aI en) Q := by
  have n2 := hg.2.2.1
  obtain ⟨⟨l0, l1⟩, -⟩ := hg.2.2.2.2.1 w w0 w1
  have lp : ∀ (m b : Nat), (b : Int) + m = g (4 + 6 * w + 0) → P_X2_seenLettersOf_L5 (iI w) (iI t) (aI c) (aI li) (aI en) Q (m + 1) (iI (sm (fun k => bi (snS g w k t)) b)) (iI b) := by
    intro m
    induction m with
    | zero =>
      intro b hb
      rw [P_X2_seenLettersOf_L5_s]
      unfold B_X2_seenLettersOf_L5
      simp only [i_m9, i_m1, i_0, i_1, i_2, i_3, i_4, i_5, i_6, i_7, i_8, i_9, i_10, i_11, i_12, i_13, i_14, i_15, i_16, i_17, i_18, i_19, i_20, i_21, i_22, i_23, i_24, i_25, i_26, i_27, i_28, i_29, i_30, i_31, i_32, i_33, i_34, i_35, i_36, i_37, i_38, i_39, i_40, i_41, i_42, i_43, i_44, i_45, i_46, i_47, i_48, i_49, i_50, i_51, i_52, i_53, i_54, i_55, i_56, i_57, i_58, i_59, i_60, i_61, i_62, i_63, i_64, i_65, i_66, i_67, i_68, i_69, i_70, i_72, i_77, i_78, i_80, i_81, i_82, i_83, i_84, i_87, i_88, i_96, i_98, i_100, i_101, i_103, i_118, i_119, i_126, i_133, i_137, i_144, i_154, i_158, i_160, i_190, i_199, i_200, i_207, i_209, i_213, i_229, i_252, i_254, i_255, i_260, i_282, i_303, i_304, i_321, i_348, i_435, i_492, i_522, i_1000, i_1023, i_1600, i_2903, iI_neg]
      refine s_AW_ofWord hA (by omega) w0 w1 (by omega) (by omega) (by omega) ?_
      simp (disch := omega) only [iI_le, i_m9, i_m1, i_0, i_1, i_2, i_3, i_4, i_5, i_6, i_7, i_8, i_9, i_10, i_11, i_12, i_13, i_14, i_15, i_16, i_17, i_18, i_19, i_20, i_21, i_22, i_23, i_24, i_25, i_26, i_27, i_28, i_29, i_30, i_31, i_32, i_33, i_34, i_35, i_36, i_37, i_38, i_39, i_40, i_41, i_42, i_43, i_44, i_45, i_46, i_47, i_48, i_49, i_50, i_51, i_52, i_53, i_54, i_55, i_56, i_57, i_58, i_59, i_60, i_61, i_62, i_63, i_64, i_65, i_66, i_67, i_68, i_69, i_70, i_72, i_77, i_78, i_80, i_81, i_82, i_83, i_84, i_87, i_88, i_96, i_98, i_100, i_101, i_103, i_118, i_119, i_126, i_133, i_137, i_144, i_154, i_158, i_160, i_190, i_199, i_200, i_207, i_209, i_213, i_229, i_252, i_254, i_255, i_260, i_282, i_303, i_304, i_321, i_348, i_435, i_492, i_522, i_1000, i_1023, i_1600, i_2903, iI_neg]
      refine ⟨fun _ => ?_, fun hx => absurd (by omega) hx⟩
      unfold soS at h
      rw [show (g (4 + 6 * w + 0)).toNat = b by omega] at h
      exact h
    | succ m ih =>
      intro b hb
      have ih1 := ih (b + 1) (by omega)
      simp only [nsucc, sm_s] at ih1
      rw [P_X2_seenLettersOf_L5_s]
      unfold B_X2_seenLettersOf_L5 P_X2_seenLettersOf_J33
      simp only [i_m9, i_m1, i_0, i_1, i_2, i_3, i_4, i_5, i_6, i_7, i_8, i_9, i_10, i_11, i_12, i_13, i_14, i_15, i_16, i_17, i_18, i_19, i_20, i_21, i_22, i_23, i_24, i_25, i_26, i_27, i_28, i_29, i_30, i_31, i_32, i_33, i_34, i_35, i_36, i_37, i_38, i_39, i_40, i_41, i_42, i_43, i_44, i_45, i_46, i_47, i_48, i_49, i_50, i_51, i_52, i_53, i_54, i_55, i_56, i_57, i_58, i_59, i_60, i_61, i_62, i_63, i_64, i_65, i_66, i_67, i_68, i_69, i_70, i_72, i_77, i_78, i_80, i_81, i_82, i_83, i_84, i_87, i_88, i_96, i_98, i_100, i_101, i_103, i_118, i_119, i_126, i_133, i_137, i_144, i_154, i_158, i_160, i_190, i_199, i_200, i_207, i_209, i_213, i_229, i_252, i_254, i_255, i_260, i_282, i_303, i_304, i_321, i_348, i_435, i_492, i_522, i_1000, i_1023, i_1600, i_2903, iI_neg]
      refine s_AW_ofWord hA (by omega) w0 w1 (by omega) (by omega) (by omega) ?_
      simp (disch := omega) only [iI_le, iI_add, i_m9, i_m1, i_0, i_1, i_2, i_3, i_4, i_5, i_6, i_7, i_8, i_9, i_10, i_11, i_12, i_13, i_14, i_15, i_16, i_17, i_18, i_19, i_20, i_21, i_22, i_23, i_24, i_25, i_26, i_27, i_28, i_29, i_30, i_31, i_32, i_33, i_34, i_35, i_36, i_37, i_38, i_39, i_40, i_41, i_42, i_43, i_44, i_45, i_46, i_47, i_48, i_49, i_50, i_51, i_52, i_53, i_54, i_55, i_56, i_57, i_58, i_59, i_60, i_61, i_62, i_63, i_64, i_65, i_66, i_67, i_68, i_69, i_70, i_72, i_77, i_78, i_80, i_81, i_82, i_83, i_84, i_87, i_88, i_96, i_98, i_100, i_101, i_103, i_118, i_119, i_126, i_133, i_137, i_144, i_154, i_158, i_160, i_190, i_199, i_200, i_207, i_209, i_213, i_229, i_252, i_254, i_255, i_260, i_282, i_303, i_304, i_321, i_348, i_435, i_492, i_522, i_1000, i_1023, i_1600, i_2903, iI_neg]
      refine ⟨fun hx => absurd hx (by omega), fun _ => ?_⟩
      refine s_X2_isSeen hA hg hl w0 w1 (by omega) (by omega) t0 t1 ?_
      rw [decide_eq_true (by omega), Bool.true_and]
      refine br_b (fun e => ?_) (fun e => ?_)
      · rw [e, bi_false, Int.add_zero] at ih1
        exact ih1
      · rw [e, bi_true] at ih1
        exact ih1
  unfold P_X2_seenLettersOf
  rw [i_0]
  exact ⟨_, lp (g (4 + 6 * w + 0)).toNat 0 (by omega)⟩
theorem s_X2_seenLetters {mb t : Int} {c g li wh en : Int → Int} {Q : Int32 → Prop} (hA : AW c g) (hg : OK mb g) (hl : LC g (g 2) li wh en) (t0 : 0 ≤ t) (t1 : t ≤ 199) (h : Q (iI (in0 g t))) : P_X2_seenLetters (iI t) (aI c) (aI li) (aI en) Q := by
  have n2 := hg.2.2.1
  have lp : ∀ (m b : Nat), (b : Int) + m = g 2 → P_X2_seenLetters_L4 (iI t) (aI c) (aI li) (aI en) Q (m + 1) (iI (sm (fun w => soS g w t) b)) (iI b) := by
    intro m
    induction m with
    | zero =>
      intro b hb
      rw [P_X2_seenLetters_L4_s]
      unfold B_X2_seenLetters_L4
      simp only [i_m9, i_m1, i_0, i_1, i_2, i_3, i_4, i_5, i_6, i_7, i_8, i_9, i_10, i_11, i_12, i_13, i_14, i_15, i_16, i_17, i_18, i_19, i_20, i_21, i_22, i_23, i_24, i_25, i_26, i_27, i_28, i_29, i_30, i_31, i_32, i_33, i_34, i_35, i_36, i_37, i_38, i_39, i_40, i_41, i_42, i_43, i_44, i_45, i_46, i_47, i_48, i_49, i_50, i_51, i_52, i_53, i_54, i_55, i_56, i_57, i_58, i_59, i_60, i_61, i_62, i_63, i_64, i_65, i_66, i_67, i_68, i_69, i_70, i_72, i_77, i_78, i_80, i_81, i_82, i_83, i_84, i_87, i_88, i_96, i_98, i_100, i_101, i_103, i_118, i_119, i_126, i_133, i_137, i_144, i_154, i_158, i_160, i_190, i_199, i_200, i_207, i_209, i_213, i_229, i_252, i_254, i_255, i_260, i_282, i_303, i_304, i_321, i_348, i_435, i_492, i_522, i_1000, i_1023, i_1600, i_2903, iI_neg]
      refine s_AW_words hA ?_
      simp (disch := omega) only [iI_le, i_m9, i_m1, i_0, i_1, i_2, i_3, i_4, i_5, i_6, i_7, i_8, i_9, i_10, i_11, i_12, i_13, i_14, i_15, i_16, i_17, i_18, i_19, i_20, i_21, i_22, i_23, i_24, i_25, i_26, i_27, i_28, i_29, i_30, i_31, i_32, i_33, i_34, i_35, i_36, i_37, i_38, i_39, i_40, i_41, i_42, i_43, i_44, i_45, i_46, i_47, i_48, i_49, i_50, i_51, i_52, i_53, i_54, i_55, i_56, i_57, i_58, i_59, i_60, i_61, i_62, i_63, i_64, i_65, i_66, i_67, i_68, i_69, i_70, i_72, i_77, i_78, i_80, i_81, i_82, i_83, i_84, i_87, i_88, i_96, i_98, i_100, i_101, i_103, i_118, i_119, i_126, i_133, i_137, i_144, i_154, i_158, i_160, i_190, i_199, i_200, i_207, i_209, i_213, i_229, i_252, i_254, i_255, i_260, i_282, i_303, i_304, i_321, i_348, i_435, i_492, i_522, i_1000, i_1023, i_1600, i_2903, iI_neg]
      refine ⟨fun _ => ?_, fun hx => absurd (by omega) hx⟩
      unfold in0 at h
      rw [show (g 2).toNat = b by omega] at h
      exact h
    | succ m ih =>
      intro b hb
      have ih1 := ih (b + 1) (by omega)
      simp only [nsucc, sm_s] at ih1
      rw [P_X2_seenLetters_L4_s]
      unfold B_X2_seenLetters_L4
      simp only [i_m9, i_m1, i_0, i_1, i_2, i_3, i_4, i_5, i_6, i_7, i_8, i_9, i_10, i_11, i_12, i_13, i_14, i_15, i_16, i_17, i_18, i_19, i_20, i_21, i_22, i_23, i_24, i_25, i_26, i_27, i_28, i_29, i_30, i_31, i_32, i_33, i_34, i_35, i_36, i_37, i_38, i_39, i_40, i_41, i_42, i_43, i_44, i_45, i_46, i_47, i_48, i_49, i_50, i_51, i_52, i_53, i_54, i_55, i_56, i_57, i_58, i_59, i_60, i_61, i_62, i_63, i_64, i_65, i_66, i_67, i_68, i_69, i_70, i_72, i_77, i_78, i_80, i_81, i_82, i_83, i_84, i_87, i_88, i_96, i_98, i_100, i_101, i_103, i_118, i_119, i_126, i_133, i_137, i_144, i_154, i_158, i_160, i_190, i_199, i_200, i_207, i_209, i_213, i_229, i_252, i_254, i_255, i_260, i_282, i_303, i_304, i_321, i_348, i_435, i_492, i_522, i_1000, i_1023, i_1600, i_2903, iI_neg]
      refine s_AW_words hA ?_
      simp (disch := omega) only [iI_le, iI_add, i_m9, i_m1, i_0, i_1, i_2, i_3, i_4, i_5, i_6, i_7, i_8, i_9, i_10, i_11, i_12, i_13, i_14, i_15, i_16, i_17, i_18, i_19, i_20, i_21, i_22, i_23, i_24, i_25, i_26, i_27, i_28, i_29, i_30, i_31, i_32, i_33, i_34, i_35, i_36, i_37, i_38, i_39, i_40, i_41, i_42, i_43, i_44, i_45, i_46, i_47, i_48, i_49, i_50, i_51, i_52, i_53, i_54, i_55, i_56, i_57, i_58, i_59, i_60, i_61, i_62, i_63, i_64, i_65, i_66, i_67, i_68, i_69, i_70, i_72, i_77, i_78, i_80, i_81, i_82, i_83, i_84, i_87, i_88, i_96, i_98, i_100, i_101, i_103, i_118, i_119, i_126, i_133, i_137, i_144, i_154, i_158, i_160, i_190, i_199, i_200, i_207, i_209, i_213, i_229, i_252, i_254, i_255, i_260, i_282, i_303, i_304, i_321, i_348, i_435, i_492, i_522, i_1000, i_1023, i_1600, i_2903, iI_neg]
      refine ⟨fun hx => absurd hx (by omega), fun _ => ?_⟩
      refine s_X2_seenLettersOf hA hg hl (by omega) (by omega) t0 t1 ?_
      simp only [iI_add]
      exact ih1
  unfold P_X2_seenLetters
  rw [i_0]
  exact ⟨_, lp (g 2).toNat 0 (by omega)⟩
theorem sm_pos {b : Int → Bool} : ∀ n : Nat, 0 < sm (fun k => bi (b k)) n ↔ ∃ k : Int, 0 ≤ k ∧ k < n ∧ b k = true
  | 0 => ⟨fun h => absurd h (by unfold sm; omega), fun ⟨k, h0, h1, _⟩ => absurd h0 (by omega)⟩
  | n + 1 => by
    have ih := sm_pos (b := b) n
    have hr := bsm_rng b n
    have hb := bi_rng (b n)
    rw [sm_s]
    constructor
    · intro h
      by_cases e : b n = true
      · exact ⟨n, by omega, by omega, e⟩
      · have e2 : b n = false := by cases hc : b n; rfl; exact absurd hc e
        have h2 : 0 < sm (fun k => bi (b k)) n + bi (b n) := h
        rw [e2, bi_false] at h2
        obtain ⟨k, k0, k1, k2⟩ := ih.mp (by omega)
        exact ⟨k, k0, by omega, k2⟩
    · rintro ⟨k, k0, k1, k2⟩
      show 0 < sm (fun k => bi (b k)) n + bi (b n)
      by_cases e : k = n
      · rw [e] at k2
        rw [k2, bi_true]; omega
      · have := ih.mpr ⟨k, k0, by omega, k2⟩
        omega
theorem ls_ge (g : Int → Int) (w : Int) : ∀ n : Nat, evN g w n = true → ∀ k : Int, 0 ≤ k → k < n → litS g w k ≠ -1 ∧ litS g w k ≤ lsN g w n
  | 0, _, k, k0, k1 => absurd k0 (by omega)
  | n + 1, h, k, k0, k1 => by
    rw [evN_s, Bool.and_eq_true, decide_eq_true_iff] at h
    rw [lsN_s]
    by_cases e : k = n
    · rw [e]
      refine ⟨h.2, ?_⟩
      split <;> omega
    · have := ls_ge g w n h.1 k k0 (by omega)
      refine ⟨this.1, ?_⟩
      split <;> omega
theorem in2_eq {mb w t : Int} {g : Int → Int} (hg : OK mb g) (w0 : 0 ≤ w) (w1 : w < g 2) (t1 : t ≤ 199) : (decide (wlS g w ≠ -1) && (decide (wlS g w ≤ t) && decide (0 < soS g w t))) = true ↔ wlS g w ≠ -1 ∧ wlS g w ≤ t ∧ t < enS g w := by
  obtain ⟨⟨l0, l1⟩, -⟩ := hg.2.2.2.2.1 w w0 w1
  rw [Bool.and_eq_true, Bool.and_eq_true, decide_eq_true_iff, decide_eq_true_iff, decide_eq_true_iff]
  unfold soS
  rw [sm_pos]
  constructor
  · rintro ⟨h1, h2, k, -, -, h3⟩
    exact ⟨h1, h2, ((snS_iff hg w0 w1 t1).mp h3).2.2⟩
  · rintro ⟨h1, h2, h3⟩
    refine ⟨h1, h2, 0, by omega, by omega, (snS_iff hg w0 w1 t1).mpr ?_⟩
    by_cases e : evN g w (g (4 + 6 * w + 0)).toNat = true
    · have := ls_ge g w _ e 0 (by omega) (by omega)
      have hw : wlS g w = lsN g w (g (4 + 6 * w + 0)).toNat := if_pos e
      omega
    · exact absurd (if_neg e) h1

theorem fi_le {g : Int → Int} {w t : Int} (hl : ∀ k : Int, -1 ≤ litS g w k) : ∀ n : Nat, (fiN g w n ≠ -1 ∧ fiN g w n ≤ t) ↔ ∃ k : Int, 0 ≤ k ∧ k < n ∧ litS g w k ≠ -1 ∧ litS g w k ≤ t
  | 0 => ⟨fun h => absurd rfl h.1, fun ⟨k, h0, h1, _⟩ => absurd h0 (by omega)⟩
  | n + 1 => by
    have ih := fi_le hl (t := t) n
    have hn := hl n
    rw [fiN_s]
    constructor
    · intro h
      by_cases e : litS g w n ≠ -1 ∧ (fiN g w n = -1 ∨ litS g w n < fiN g w n)
      · rw [if_pos e] at h
        exact ⟨n, by omega, by omega, h.1, h.2⟩
      · rw [if_neg e] at h
        obtain ⟨k, k0, k1, k2⟩ := ih.mp h
        exact ⟨k, k0, by omega, k2⟩
    · rintro ⟨k, k0, k1, k2, k3⟩
      by_cases e2 : k = n
      · subst e2
        by_cases e : litS g w n ≠ -1 ∧ (fiN g w n = -1 ∨ litS g w n < fiN g w n)
        · rw [if_pos e]; exact ⟨k2, k3⟩
        · rw [if_neg e]; omega
      · have h := ih.mpr ⟨k, k0, by omega, k2, k3⟩
        by_cases e : litS g w n ≠ -1 ∧ (fiN g w n = -1 ∨ litS g w n < fiN g w n)
        · rw [if_pos e]; omega
        · rw [if_neg e]; exact h
theorem so_pos {mb w t : Int} {g : Int → Int} (hg : OK mb g) (w0 : 0 ≤ w) (w1 : w < g 2) (t1 : t ≤ 199) : 0 < soS g w t ↔ fiN g w (g (4 + 6 * w + 0)).toNat ≠ -1 ∧ fiN g w (g (4 + 6 * w + 0)).toNat ≤ t ∧ t < enS g w := by
  have hf := fi_le (g := g) (w := w) (t := t) (fun k => by have := litS_rng hg w0 w1 k; have := (hg.2.2.2.2.1 w w0 w1).2.2.2.1; omega) (g (4 + 6 * w + 0)).toNat
  unfold soS
  rw [sm_pos]
  constructor
  · rintro ⟨k, k0, k1, k2⟩
    rw [snS_iff hg w0 w1 t1] at k2
    have := hf.mpr ⟨k, k0, k1, k2.1, k2.2.1⟩
    exact ⟨this.1, this.2, k2.2.2⟩
  · rintro ⟨h1, h2, h3⟩
    obtain ⟨k, k0, k1, k2, k3⟩ := hf.mp ⟨h1, h2⟩
    exact ⟨k, k0, k1, (snS_iff hg w0 w1 t1).mpr ⟨k2, k3, h3⟩⟩
theorem s_X2_seenWords {mb t : Int} {c g li wh en : Int → Int} {Q : Int32 → Prop} (hA : AW c g) (hg : OK mb g) (hl : LC g (g 2) li wh en) (t0 : 0 ≤ t) (t1 : t ≤ 199) (h : Q (iI (in1 g t))) : P_X2_seenWords (iI t) (aI c) (aI li) (aI en) Q := by
  have n2 := hg.2.2.1
  have lp : ∀ (m b : Nat), (b : Int) + m = g 2 → P_X2_seenWords_L4 (iI t) (aI c) (aI li) (aI en) Q (m + 1) (iI (sm (fun w => bi (decide (0 < soS g w t))) b)) (iI b) := by
    intro m
    induction m with
    | zero =>
      intro b hb
      rw [P_X2_seenWords_L4_s]
      unfold B_X2_seenWords_L4
      simp only [i_m9, i_m1, i_0, i_1, i_2, i_3, i_4, i_5, i_6, i_7, i_8, i_9, i_10, i_11, i_12, i_13, i_14, i_15, i_16, i_17, i_18, i_19, i_20, i_21, i_22, i_23, i_24, i_25, i_26, i_27, i_28, i_29, i_30, i_31, i_32, i_33, i_34, i_35, i_36, i_37, i_38, i_39, i_40, i_41, i_42, i_43, i_44, i_45, i_46, i_47, i_48, i_49, i_50, i_51, i_52, i_53, i_54, i_55, i_56, i_57, i_58, i_59, i_60, i_61, i_62, i_63, i_64, i_65, i_66, i_67, i_68, i_69, i_70, i_72, i_77, i_78, i_80, i_81, i_82, i_83, i_84, i_87, i_88, i_96, i_98, i_100, i_101, i_103, i_118, i_119, i_126, i_133, i_137, i_144, i_154, i_158, i_160, i_190, i_199, i_200, i_207, i_209, i_213, i_229, i_252, i_254, i_255, i_260, i_282, i_303, i_304, i_321, i_348, i_435, i_492, i_522, i_1000, i_1023, i_1600, i_2903, iI_neg]
      refine s_AW_words hA ?_
      simp (disch := omega) only [iI_le, i_m9, i_m1, i_0, i_1, i_2, i_3, i_4, i_5, i_6, i_7, i_8, i_9, i_10, i_11, i_12, i_13, i_14, i_15, i_16, i_17, i_18, i_19, i_20, i_21, i_22, i_23, i_24, i_25, i_26, i_27, i_28, i_29, i_30, i_31, i_32, i_33, i_34, i_35, i_36, i_37, i_38, i_39, i_40, i_41, i_42, i_43, i_44, i_45, i_46, i_47, i_48, i_49, i_50, i_51, i_52, i_53, i_54, i_55, i_56, i_57, i_58, i_59, i_60, i_61, i_62, i_63, i_64, i_65, i_66, i_67, i_68, i_69, i_70, i_72, i_77, i_78, i_80, i_81, i_82, i_83, i_84, i_87, i_88, i_96, i_98, i_100, i_101, i_103, i_118, i_119, i_126, i_133, i_137, i_144, i_154, i_158, i_160, i_190, i_199, i_200, i_207, i_209, i_213, i_229, i_252, i_254, i_255, i_260, i_282, i_303, i_304, i_321, i_348, i_435, i_492, i_522, i_1000, i_1023, i_1600, i_2903, iI_neg]
      refine ⟨fun _ => ?_, fun hx => absurd (by omega) hx⟩
      unfold in1 at h
      rw [show (g 2).toNat = b by omega] at h
      exact h
    | succ m ih =>
      intro b hb
      have ih1 := ih (b + 1) (by omega)
      simp only [nsucc, sm_s] at ih1
      rw [P_X2_seenWords_L4_s]
      unfold B_X2_seenWords_L4 P_X2_seenWords_J32
      simp only [i_m9, i_m1, i_0, i_1, i_2, i_3, i_4, i_5, i_6, i_7, i_8, i_9, i_10, i_11, i_12, i_13, i_14, i_15, i_16, i_17, i_18, i_19, i_20, i_21, i_22, i_23, i_24, i_25, i_26, i_27, i_28, i_29, i_30, i_31, i_32, i_33, i_34, i_35, i_36, i_37, i_38, i_39, i_40, i_41, i_42, i_43, i_44, i_45, i_46, i_47, i_48, i_49, i_50, i_51, i_52, i_53, i_54, i_55, i_56, i_57, i_58, i_59, i_60, i_61, i_62, i_63, i_64, i_65, i_66, i_67, i_68, i_69, i_70, i_72, i_77, i_78, i_80, i_81, i_82, i_83, i_84, i_87, i_88, i_96, i_98, i_100, i_101, i_103, i_118, i_119, i_126, i_133, i_137, i_144, i_154, i_158, i_160, i_190, i_199, i_200, i_207, i_209, i_213, i_229, i_252, i_254, i_255, i_260, i_282, i_303, i_304, i_321, i_348, i_435, i_492, i_522, i_1000, i_1023, i_1600, i_2903, iI_neg]
      refine s_AW_words hA ?_
      simp (disch := omega) only [iI_le, iI_add, i_m9, i_m1, i_0, i_1, i_2, i_3, i_4, i_5, i_6, i_7, i_8, i_9, i_10, i_11, i_12, i_13, i_14, i_15, i_16, i_17, i_18, i_19, i_20, i_21, i_22, i_23, i_24, i_25, i_26, i_27, i_28, i_29, i_30, i_31, i_32, i_33, i_34, i_35, i_36, i_37, i_38, i_39, i_40, i_41, i_42, i_43, i_44, i_45, i_46, i_47, i_48, i_49, i_50, i_51, i_52, i_53, i_54, i_55, i_56, i_57, i_58, i_59, i_60, i_61, i_62, i_63, i_64, i_65, i_66, i_67, i_68, i_69, i_70, i_72, i_77, i_78, i_80, i_81, i_82, i_83, i_84, i_87, i_88, i_96, i_98, i_100, i_101, i_103, i_118, i_119, i_126, i_133, i_137, i_144, i_154, i_158, i_160, i_190, i_199, i_200, i_207, i_209, i_213, i_229, i_252, i_254, i_255, i_260, i_282, i_303, i_304, i_321, i_348, i_435, i_492, i_522, i_1000, i_1023, i_1600, i_2903, iI_neg]
      refine ⟨fun hx => absurd hx (by omega), fun _ => ?_⟩
      refine s_X2_firstLit hA hg hl (by omega) (by omega) ?_
      have hs := so_rng hg (w := b) (by omega) (by omega) t
      have he := en_rng hg (w := b) (by omega) (by omega)
      have hp := so_pos hg (w := b) (by omega) (by omega) t1
      refine s_X2_isThere (by omega) (by omega) (fiN_rng hg (by omega) (by omega) _) t0 t1 (by rw [(hl b (by omega) (by omega)).2.2]; omega) ?_
      rw [(hl b (by omega) (by omega)).2.2]
      refine br_b (fun e => ?_) (fun e => ?_)
      · rw [decide_eq_false_iff_not] at e
        rw [decide_eq_false (fun hx => e (hp.mp hx)), bi_false, Int.add_zero] at ih1
        exact ih1
      · rw [decide_eq_true_iff] at e
        rw [decide_eq_true (hp.mpr e), bi_true] at ih1
        exact ih1
  unfold P_X2_seenWords
  rw [i_0]
  exact ⟨_, lp (g 2).toNat 0 (by omega)⟩
theorem s_X2_standingWords {mb t : Int} {c g li wh en : Int → Int} {Q : Int32 → Prop} (hA : AW c g) (hg : OK mb g) (hl : LC g (g 2) li wh en) (t0 : 0 ≤ t) (t1 : t ≤ 199) (h : Q (iI (in2 g t))) : P_X2_standingWords (iI t) (aI c) (aI wh) (aI en) Q := by
  have n2 := hg.2.2.1
  have lp : ∀ (m b : Nat), (b : Int) + m = g 2 → P_X2_standingWords_L4 (iI t) (aI c) (aI wh) (aI en) Q (m + 1) (iI (sm (fun w => bi (decide (wlS g w ≠ -1) && (decide (wlS g w ≤ t) && decide (0 < soS g w t)))) b)) (iI b) := by
    intro m
    induction m with
    | zero =>
      intro b hb
      rw [P_X2_standingWords_L4_s]
      unfold B_X2_standingWords_L4
      simp only [i_m9, i_m1, i_0, i_1, i_2, i_3, i_4, i_5, i_6, i_7, i_8, i_9, i_10, i_11, i_12, i_13, i_14, i_15, i_16, i_17, i_18, i_19, i_20, i_21, i_22, i_23, i_24, i_25, i_26, i_27, i_28, i_29, i_30, i_31, i_32, i_33, i_34, i_35, i_36, i_37, i_38, i_39, i_40, i_41, i_42, i_43, i_44, i_45, i_46, i_47, i_48, i_49, i_50, i_51, i_52, i_53, i_54, i_55, i_56, i_57, i_58, i_59, i_60, i_61, i_62, i_63, i_64, i_65, i_66, i_67, i_68, i_69, i_70, i_72, i_77, i_78, i_80, i_81, i_82, i_83, i_84, i_87, i_88, i_96, i_98, i_100, i_101, i_103, i_118, i_119, i_126, i_133, i_137, i_144, i_154, i_158, i_160, i_190, i_199, i_200, i_207, i_209, i_213, i_229, i_252, i_254, i_255, i_260, i_282, i_303, i_304, i_321, i_348, i_435, i_492, i_522, i_1000, i_1023, i_1600, i_2903, iI_neg]
      refine s_AW_words hA ?_
      simp (disch := omega) only [iI_le, i_m9, i_m1, i_0, i_1, i_2, i_3, i_4, i_5, i_6, i_7, i_8, i_9, i_10, i_11, i_12, i_13, i_14, i_15, i_16, i_17, i_18, i_19, i_20, i_21, i_22, i_23, i_24, i_25, i_26, i_27, i_28, i_29, i_30, i_31, i_32, i_33, i_34, i_35, i_36, i_37, i_38, i_39, i_40, i_41, i_42, i_43, i_44, i_45, i_46, i_47, i_48, i_49, i_50, i_51, i_52, i_53, i_54, i_55, i_56, i_57, i_58, i_59, i_60, i_61, i_62, i_63, i_64, i_65, i_66, i_67, i_68, i_69, i_70, i_72, i_77, i_78, i_80, i_81, i_82, i_83, i_84, i_87, i_88, i_96, i_98, i_100, i_101, i_103, i_118, i_119, i_126, i_133, i_137, i_144, i_154, i_158, i_160, i_190, i_199, i_200, i_207, i_209, i_213, i_229, i_252, i_254, i_255, i_260, i_282, i_303, i_304, i_321, i_348, i_435, i_492, i_522, i_1000, i_1023, i_1600, i_2903, iI_neg]
      refine ⟨fun _ => ?_, fun hx => absurd (by omega) hx⟩
      unfold in2 at h
      rw [show (g 2).toNat = b by omega] at h
      exact h
    | succ m ih =>
      intro b hb
      have ih1 := ih (b + 1) (by omega)
      simp only [nsucc, sm_s] at ih1
      rw [P_X2_standingWords_L4_s]
      unfold B_X2_standingWords_L4 P_X2_standingWords_J32
      simp only [i_m9, i_m1, i_0, i_1, i_2, i_3, i_4, i_5, i_6, i_7, i_8, i_9, i_10, i_11, i_12, i_13, i_14, i_15, i_16, i_17, i_18, i_19, i_20, i_21, i_22, i_23, i_24, i_25, i_26, i_27, i_28, i_29, i_30, i_31, i_32, i_33, i_34, i_35, i_36, i_37, i_38, i_39, i_40, i_41, i_42, i_43, i_44, i_45, i_46, i_47, i_48, i_49, i_50, i_51, i_52, i_53, i_54, i_55, i_56, i_57, i_58, i_59, i_60, i_61, i_62, i_63, i_64, i_65, i_66, i_67, i_68, i_69, i_70, i_72, i_77, i_78, i_80, i_81, i_82, i_83, i_84, i_87, i_88, i_96, i_98, i_100, i_101, i_103, i_118, i_119, i_126, i_133, i_137, i_144, i_154, i_158, i_160, i_190, i_199, i_200, i_207, i_209, i_213, i_229, i_252, i_254, i_255, i_260, i_282, i_303, i_304, i_321, i_348, i_435, i_492, i_522, i_1000, i_1023, i_1600, i_2903, iI_neg]
      refine s_AW_words hA ?_
      simp (disch := omega) only [iI_le, iI_add, i_m9, i_m1, i_0, i_1, i_2, i_3, i_4, i_5, i_6, i_7, i_8, i_9, i_10, i_11, i_12, i_13, i_14, i_15, i_16, i_17, i_18, i_19, i_20, i_21, i_22, i_23, i_24, i_25, i_26, i_27, i_28, i_29, i_30, i_31, i_32, i_33, i_34, i_35, i_36, i_37, i_38, i_39, i_40, i_41, i_42, i_43, i_44, i_45, i_46, i_47, i_48, i_49, i_50, i_51, i_52, i_53, i_54, i_55, i_56, i_57, i_58, i_59, i_60, i_61, i_62, i_63, i_64, i_65, i_66, i_67, i_68, i_69, i_70, i_72, i_77, i_78, i_80, i_81, i_82, i_83, i_84, i_87, i_88, i_96, i_98, i_100, i_101, i_103, i_118, i_119, i_126, i_133, i_137, i_144, i_154, i_158, i_160, i_190, i_199, i_200, i_207, i_209, i_213, i_229, i_252, i_254, i_255, i_260, i_282, i_303, i_304, i_321, i_348, i_435, i_492, i_522, i_1000, i_1023, i_1600, i_2903, iI_neg]
      refine ⟨fun hx => absurd hx (by omega), fun _ => ?_⟩
      refine wholeFrom_at (by omega) (by omega) ?_
      rw [(hl b (by omega) (by omega)).2.1]
      have hr := wl_rng hg (w := b) (by omega) (by omega)
      have he := en_rng hg (w := b) (by omega) (by omega)
      have hi := in2_eq hg (w := b) (by omega) (by omega) t1
      refine s_X2_isThere (by omega) (by omega) (by omega) t0 t1 (by rw [(hl b (by omega) (by omega)).2.2]; omega) ?_
      rw [(hl b (by omega) (by omega)).2.2]
      refine br_b (fun e => ?_) (fun e => ?_)
      · rw [decide_eq_false_iff_not] at e
        rw [show (decide (wlS g b ≠ -1) && (decide (wlS g b ≤ t) && decide (0 < soS g b t))) = false by rw [← Bool.not_eq_true]; exact fun hx => e (hi.mp hx), bi_false, Int.add_zero] at ih1
        exact ih1
      · rw [decide_eq_true_iff] at e
        rw [hi.mpr e, bi_true] at ih1
        exact ih1
  unfold P_X2_standingWords
  rw [i_0]
  exact ⟨_, lp (g 2).toNat 0 (by omega)⟩
theorem s_X2_emptyBeats {mb : Int} {c g li wh en : Int → Int} {Q : Int32 → Prop} (hA : AW c g) (hg : OK mb g) (hl : LC g (g 2) li wh en) (h : Q (iI (dkS g))) : P_X2_emptyBeats (aI c) (aI li) (aI en) Q := by
  have lp : ∀ (m b : Nat), (b : Int) + m = 200 → P_X2_emptyBeats_L4 (aI c) (aI li) (aI en) Q (m + 1) (iI (sm (fun t => bi (decide (in1 g t = 0))) b)) (iI b) := by
    intro m
    induction m with
    | zero =>
      intro b hb
      rw [P_X2_emptyBeats_L4_s]
      unfold B_X2_emptyBeats_L4
      simp only [i_m9, i_m1, i_0, i_1, i_2, i_3, i_4, i_5, i_6, i_7, i_8, i_9, i_10, i_11, i_12, i_13, i_14, i_15, i_16, i_17, i_18, i_19, i_20, i_21, i_22, i_23, i_24, i_25, i_26, i_27, i_28, i_29, i_30, i_31, i_32, i_33, i_34, i_35, i_36, i_37, i_38, i_39, i_40, i_41, i_42, i_43, i_44, i_45, i_46, i_47, i_48, i_49, i_50, i_51, i_52, i_53, i_54, i_55, i_56, i_57, i_58, i_59, i_60, i_61, i_62, i_63, i_64, i_65, i_66, i_67, i_68, i_69, i_70, i_72, i_77, i_78, i_80, i_81, i_82, i_83, i_84, i_87, i_88, i_96, i_98, i_100, i_101, i_103, i_118, i_119, i_126, i_133, i_137, i_144, i_154, i_158, i_160, i_190, i_199, i_200, i_207, i_209, i_213, i_229, i_252, i_254, i_255, i_260, i_282, i_303, i_304, i_321, i_348, i_435, i_492, i_522, i_1000, i_1023, i_1600, i_2903, iI_neg]
      simp (disch := omega) only [iI_le, i_m9, i_m1, i_0, i_1, i_2, i_3, i_4, i_5, i_6, i_7, i_8, i_9, i_10, i_11, i_12, i_13, i_14, i_15, i_16, i_17, i_18, i_19, i_20, i_21, i_22, i_23, i_24, i_25, i_26, i_27, i_28, i_29, i_30, i_31, i_32, i_33, i_34, i_35, i_36, i_37, i_38, i_39, i_40, i_41, i_42, i_43, i_44, i_45, i_46, i_47, i_48, i_49, i_50, i_51, i_52, i_53, i_54, i_55, i_56, i_57, i_58, i_59, i_60, i_61, i_62, i_63, i_64, i_65, i_66, i_67, i_68, i_69, i_70, i_72, i_77, i_78, i_80, i_81, i_82, i_83, i_84, i_87, i_88, i_96, i_98, i_100, i_101, i_103, i_118, i_119, i_126, i_133, i_137, i_144, i_154, i_158, i_160, i_190, i_199, i_200, i_207, i_209, i_213, i_229, i_252, i_254, i_255, i_260, i_282, i_303, i_304, i_321, i_348, i_435, i_492, i_522, i_1000, i_1023, i_1600, i_2903, iI_neg]
      refine ⟨fun _ => ?_, fun hx => absurd (by omega) hx⟩
      unfold dkS at h
      rw [show 200 = b by omega] at h
      exact h
    | succ m ih =>
      intro b hb
      have ih1 := ih (b + 1) (by omega)
      simp only [nsucc, sm_s] at ih1
      rw [P_X2_emptyBeats_L4_s]
      unfold B_X2_emptyBeats_L4 P_X2_emptyBeats_J22
      simp only [i_m9, i_m1, i_0, i_1, i_2, i_3, i_4, i_5, i_6, i_7, i_8, i_9, i_10, i_11, i_12, i_13, i_14, i_15, i_16, i_17, i_18, i_19, i_20, i_21, i_22, i_23, i_24, i_25, i_26, i_27, i_28, i_29, i_30, i_31, i_32, i_33, i_34, i_35, i_36, i_37, i_38, i_39, i_40, i_41, i_42, i_43, i_44, i_45, i_46, i_47, i_48, i_49, i_50, i_51, i_52, i_53, i_54, i_55, i_56, i_57, i_58, i_59, i_60, i_61, i_62, i_63, i_64, i_65, i_66, i_67, i_68, i_69, i_70, i_72, i_77, i_78, i_80, i_81, i_82, i_83, i_84, i_87, i_88, i_96, i_98, i_100, i_101, i_103, i_118, i_119, i_126, i_133, i_137, i_144, i_154, i_158, i_160, i_190, i_199, i_200, i_207, i_209, i_213, i_229, i_252, i_254, i_255, i_260, i_282, i_303, i_304, i_321, i_348, i_435, i_492, i_522, i_1000, i_1023, i_1600, i_2903, iI_neg]
      simp (disch := omega) only [iI_le, iI_add, i_m9, i_m1, i_0, i_1, i_2, i_3, i_4, i_5, i_6, i_7, i_8, i_9, i_10, i_11, i_12, i_13, i_14, i_15, i_16, i_17, i_18, i_19, i_20, i_21, i_22, i_23, i_24, i_25, i_26, i_27, i_28, i_29, i_30, i_31, i_32, i_33, i_34, i_35, i_36, i_37, i_38, i_39, i_40, i_41, i_42, i_43, i_44, i_45, i_46, i_47, i_48, i_49, i_50, i_51, i_52, i_53, i_54, i_55, i_56, i_57, i_58, i_59, i_60, i_61, i_62, i_63, i_64, i_65, i_66, i_67, i_68, i_69, i_70, i_72, i_77, i_78, i_80, i_81, i_82, i_83, i_84, i_87, i_88, i_96, i_98, i_100, i_101, i_103, i_118, i_119, i_126, i_133, i_137, i_144, i_154, i_158, i_160, i_190, i_199, i_200, i_207, i_209, i_213, i_229, i_252, i_254, i_255, i_260, i_282, i_303, i_304, i_321, i_348, i_435, i_492, i_522, i_1000, i_1023, i_1600, i_2903, iI_neg]
      refine ⟨fun hx => absurd hx (by omega), fun _ => ?_⟩
      refine s_X2_seenWords hA hg hl (by omega) (by omega) ?_
      have hs := in1_rng hg b
      simp (disch := omega) only [iI_eq]
      refine ⟨fun e => ?_, fun e => ?_⟩
      · rw [decide_eq_false e, bi_false, Int.add_zero] at ih1
        exact ih1
      · rw [decide_eq_true e, bi_true] at ih1
        exact ih1
  unfold P_X2_emptyBeats
  rw [i_0]
  exact ⟨_, lp 200 0 (by omega)⟩
