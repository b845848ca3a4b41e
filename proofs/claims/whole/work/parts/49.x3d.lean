theorem s_X3_mix {x y : Int64} {Q : Int64 → Prop} (h : Q (31 * x + y)) : P_X3_mix x y Q := h
theorem x3_L6 {k : Int} {f c li wh en cs : Int → Int} {L : Nat → Int64} {K : Int64 → Prop} (hv : CV f c L li wh en cs) (hf : OK 6 f) (hK : K (hs 2903 (coS f k) 10)) :
    ∀ (m j : Nat), j + m = 10 → P_X3_digest_L6 (aI c) (aI li) (aI wh) (aI en) (aI cs) (iI (paS f)) (iI k) K (m + 1) (hs 2903 (coS f k) j) (iI j) := by
  intro m
  induction m with
  | zero =>
    intro j hj
    rw [P_X3_digest_L6_s]
    unfold B_X3_digest_L6
    simp (disch := omega) only [iI_lt, i_m9, i_m1, i_0, i_1, i_2, i_3, i_4, i_5, i_6, i_7, i_8, i_9, i_10, i_11, i_12, i_13, i_14, i_15, i_16, i_17, i_18, i_19, i_20, i_21, i_22, i_23, i_24, i_25, i_26, i_27, i_28, i_29, i_30, i_31, i_32, i_33, i_34, i_35, i_36, i_37, i_38, i_39, i_40, i_41, i_42, i_43, i_44, i_45, i_46, i_47, i_48, i_49, i_50, i_51, i_52, i_53, i_54, i_55, i_56, i_57, i_58, i_59, i_60, i_61, i_62, i_63, i_64, i_65, i_66, i_67, i_68, i_69, i_70, i_72, i_77, i_78, i_80, i_81, i_82, i_83, i_84, i_87, i_88, i_96, i_98, i_100, i_101, i_103, i_118, i_119, i_126, i_133, i_137, i_144, i_154, i_158, i_160, i_190, i_199, i_200, i_207, i_209, i_213, i_229, i_252, i_254, i_255, i_260, i_282, i_303, i_304, i_321, i_348, i_435, i_492, i_522, i_1000, i_1023, i_1600, i_2903, iI_neg]
    refine ⟨fun _ => ?_, fun hx => absurd (by omega) hx⟩
    rwa [show j = 10 by omega]
  | succ m ih =>
    intro j hj
    have ih1 := ih (j + 1) (by omega)
    rw [nsucc] at ih1
    rw [P_X3_digest_L6_s]
    unfold B_X3_digest_L6
    simp (disch := omega) only [iI_lt, iI_add, i_m9, i_m1, i_0, i_1, i_2, i_3, i_4, i_5, i_6, i_7, i_8, i_9, i_10, i_11, i_12, i_13, i_14, i_15, i_16, i_17, i_18, i_19, i_20, i_21, i_22, i_23, i_24, i_25, i_26, i_27, i_28, i_29, i_30, i_31, i_32, i_33, i_34, i_35, i_36, i_37, i_38, i_39, i_40, i_41, i_42, i_43, i_44, i_45, i_46, i_47, i_48, i_49, i_50, i_51, i_52, i_53, i_54, i_55, i_56, i_57, i_58, i_59, i_60, i_61, i_62, i_63, i_64, i_65, i_66, i_67, i_68, i_69, i_70, i_72, i_77, i_78, i_80, i_81, i_82, i_83, i_84, i_87, i_88, i_96, i_98, i_100, i_101, i_103, i_118, i_119, i_126, i_133, i_137, i_144, i_154, i_158, i_160, i_190, i_199, i_200, i_207, i_209, i_213, i_229, i_252, i_254, i_255, i_260, i_282, i_303, i_304, i_321, i_348, i_435, i_492, i_522, i_1000, i_1023, i_1600, i_2903, iI_neg]
    refine ⟨fun hx => absurd hx (by omega), fun _ => s_X3_count hv hf lit32 (fun _ => s_X3_mix ih1) (fun hx => ?_)⟩
    unfold tN at hx
    rw [if_pos (by omega)] at hx
    exact absurd hx (by decide)
theorem x3_W20 {w : Int} {f c li wh en : Int → Int} {h : Int64} {K : Int64 → Prop} (hA : Ag c f) (hf : OK 6 f) (hl : LC f (f 2) li wh en) (w0 : 0 ≤ w) (w1 : w < f 2) (hK : K (hs h (woS f w) 10)) :
    ∀ (m j : Nat), j + m = 10 → P_X3_mixWords_L20 (iI w) (aI c) (aI li) (aI wh) (aI en) K (m + 1) (hs h (woS f w) j) (iI j) := by
  have n2 := hf.2.2.1
  intro m
  induction m with
  | zero =>
    intro j hj
    rw [P_X3_mixWords_L20_s]
    unfold B_X3_mixWords_L20
    simp (disch := omega) only [iI_lt, i_m9, i_m1, i_0, i_1, i_2, i_3, i_4, i_5, i_6, i_7, i_8, i_9, i_10, i_11, i_12, i_13, i_14, i_15, i_16, i_17, i_18, i_19, i_20, i_21, i_22, i_23, i_24, i_25, i_26, i_27, i_28, i_29, i_30, i_31, i_32, i_33, i_34, i_35, i_36, i_37, i_38, i_39, i_40, i_41, i_42, i_43, i_44, i_45, i_46, i_47, i_48, i_49, i_50, i_51, i_52, i_53, i_54, i_55, i_56, i_57, i_58, i_59, i_60, i_61, i_62, i_63, i_64, i_65, i_66, i_67, i_68, i_69, i_70, i_72, i_77, i_78, i_80, i_81, i_82, i_83, i_84, i_87, i_88, i_96, i_98, i_100, i_101, i_103, i_118, i_119, i_126, i_133, i_137, i_144, i_154, i_158, i_160, i_190, i_199, i_200, i_207, i_209, i_213, i_229, i_252, i_254, i_255, i_260, i_282, i_303, i_304, i_321, i_348, i_435, i_492, i_522, i_1000, i_1023, i_1600, i_2903, iI_neg]
    refine ⟨fun _ => ?_, fun hx => absurd (by omega) hx⟩
    rwa [show j = 10 by omega]
  | succ m ih =>
    intro j hj
    have ih1 := ih (j + 1) (by omega)
    rw [nsucc] at ih1
    rw [P_X3_mixWords_L20_s]
    unfold B_X3_mixWords_L20
    simp (disch := omega) only [iI_lt, iI_add, i_m9, i_m1, i_0, i_1, i_2, i_3, i_4, i_5, i_6, i_7, i_8, i_9, i_10, i_11, i_12, i_13, i_14, i_15, i_16, i_17, i_18, i_19, i_20, i_21, i_22, i_23, i_24, i_25, i_26, i_27, i_28, i_29, i_30, i_31, i_32, i_33, i_34, i_35, i_36, i_37, i_38, i_39, i_40, i_41, i_42, i_43, i_44, i_45, i_46, i_47, i_48, i_49, i_50, i_51, i_52, i_53, i_54, i_55, i_56, i_57, i_58, i_59, i_60, i_61, i_62, i_63, i_64, i_65, i_66, i_67, i_68, i_69, i_70, i_72, i_77, i_78, i_80, i_81, i_82, i_83, i_84, i_87, i_88, i_96, i_98, i_100, i_101, i_103, i_118, i_119, i_126, i_133, i_137, i_144, i_154, i_158, i_160, i_190, i_199, i_200, i_207, i_209, i_213, i_229, i_252, i_254, i_255, i_260, i_282, i_303, i_304, i_321, i_348, i_435, i_492, i_522, i_1000, i_1023, i_1600, i_2903, iI_neg]
    have h0 : tX (f 2) w j 9 = 0 := by unfold tX; rw [if_pos (by omega), if_pos (by omega)]
    refine ⟨fun hx => absurd hx (by omega), fun _ => s_X3_wordOf hA hf hl lit32 lit32 (fun _ => s_X3_mix ih1) (fun hx => ?_) (fun hx => ?_)⟩
    · omega
    · omega
theorem x3_W50 {w : Int} {f c li wh en : Int → Int} {h : Int64} {K : Int64 → Prop} (hA : Ag c f) (hf : OK 6 f) (hl : LC f (f 2) li wh en) (w0 : 0 ≤ w) (w1 : w < f 2) (hK : K (hs h (litS f w) (f (4 + 6 * w + 0)).toNat)) :
    ∀ (m j : Nat), (j : Int) + m = f (4 + 6 * w + 0) → P_X3_mixWords_L50 (iI w) (aI c) (aI li) K (m + 1) (hs h (litS f w) j) (iI j) := by
  have n2 := hf.2.2.1
  have hw := (hf.2.2.2.2.1 w w0 w1).1
  intro m
  induction m with
  | zero =>
    intro j hj
    rw [P_X3_mixWords_L50_s]
    unfold B_X3_mixWords_L50
    simp only [i_m9, i_m1, i_0, i_1, i_2, i_3, i_4, i_5, i_6, i_7, i_8, i_9, i_10, i_11, i_12, i_13, i_14, i_15, i_16, i_17, i_18, i_19, i_20, i_21, i_22, i_23, i_24, i_25, i_26, i_27, i_28, i_29, i_30, i_31, i_32, i_33, i_34, i_35, i_36, i_37, i_38, i_39, i_40, i_41, i_42, i_43, i_44, i_45, i_46, i_47, i_48, i_49, i_50, i_51, i_52, i_53, i_54, i_55, i_56, i_57, i_58, i_59, i_60, i_61, i_62, i_63, i_64, i_65, i_66, i_67, i_68, i_69, i_70, i_72, i_77, i_78, i_80, i_81, i_82, i_83, i_84, i_87, i_88, i_96, i_98, i_100, i_101, i_103, i_118, i_119, i_126, i_133, i_137, i_144, i_154, i_158, i_160, i_190, i_199, i_200, i_207, i_209, i_213, i_229, i_252, i_254, i_255, i_260, i_282, i_303, i_304, i_321, i_348, i_435, i_492, i_522, i_1000, i_1023, i_1600, i_2903, iI_neg]
    refine s_X0_ofWord hA n2.2 w0 w1 (by omega) (by omega) ?_
    simp (disch := omega) only [iI_le]
    refine ⟨fun _ => ?_, fun hx => absurd (by omega) hx⟩
    rw [show (f (4 + 6 * w + 0)).toNat = j by omega] at hK
    exact hK
  | succ m ih =>
    intro j hj
    have ih1 := ih (j + 1) (by omega)
    rw [nsucc] at ih1
    rw [P_X3_mixWords_L50_s]
    unfold B_X3_mixWords_L50
    simp only [i_m9, i_m1, i_0, i_1, i_2, i_3, i_4, i_5, i_6, i_7, i_8, i_9, i_10, i_11, i_12, i_13, i_14, i_15, i_16, i_17, i_18, i_19, i_20, i_21, i_22, i_23, i_24, i_25, i_26, i_27, i_28, i_29, i_30, i_31, i_32, i_33, i_34, i_35, i_36, i_37, i_38, i_39, i_40, i_41, i_42, i_43, i_44, i_45, i_46, i_47, i_48, i_49, i_50, i_51, i_52, i_53, i_54, i_55, i_56, i_57, i_58, i_59, i_60, i_61, i_62, i_63, i_64, i_65, i_66, i_67, i_68, i_69, i_70, i_72, i_77, i_78, i_80, i_81, i_82, i_83, i_84, i_87, i_88, i_96, i_98, i_100, i_101, i_103, i_118, i_119, i_126, i_133, i_137, i_144, i_154, i_158, i_160, i_190, i_199, i_200, i_207, i_209, i_213, i_229, i_252, i_254, i_255, i_260, i_282, i_303, i_304, i_321, i_348, i_435, i_492, i_522, i_1000, i_1023, i_1600, i_2903, iI_neg]
    refine s_X0_ofWord hA n2.2 w0 w1 (by omega) (by omega) ?_
    simp (disch := omega) only [iI_le, iI_add]
    have h0 : tL f w j = 0 := by unfold tL; rw [if_pos (by omega)]
    exact ⟨fun hx => absurd hx (by omega), fun _ => s_X3_litAt hA hf hl lit32 lit32 (fun _ => s_X3_mix ih1) (fun hx => by omega)⟩
theorem x3_W {f c li wh en : Int → Int} {h : Int64} {K : Int64 → Prop} (hA : Ag c f) (hf : OK 6 f) (hl : LC f (f 2) li wh en) (hK : K (dgW f h (f 2).toNat)) : P_X3_mixWords h (aI c) (aI li) (aI wh) (aI en) K := by
  have n2 := hf.2.2.1
  have lp : ∀ (m b : Nat), (b : Int) + m = f 2 → P_X3_mixWords_L5 (aI c) (aI li) (aI wh) (aI en) K (m + 1) (dgW f h b) (iI b) := by
    intro m
    induction m with
    | zero =>
      intro b hb
      rw [P_X3_mixWords_L5_s]
      unfold B_X3_mixWords_L5
      refine s_X0_words hA ?_
      simp (disch := omega) only [iI_le]
      refine ⟨fun _ => ?_, fun hx => absurd (by omega) hx⟩
      rw [show (f 2).toNat = b by omega] at hK
      exact hK
    | succ m ih =>
      intro b hb
      have ih1 := ih (b + 1) (by omega)
      rw [nsucc] at ih1
      have hw := (hf.2.2.2.2.1 b (by omega) (by omega)).1
      rw [P_X3_mixWords_L5_s]
      unfold B_X3_mixWords_L5
      refine s_X0_words hA ?_
      simp (disch := omega) only [iI_le, iI_add, i_m9, i_m1, i_0, i_1, i_2, i_3, i_4, i_5, i_6, i_7, i_8, i_9, i_10, i_11, i_12, i_13, i_14, i_15, i_16, i_17, i_18, i_19, i_20, i_21, i_22, i_23, i_24, i_25, i_26, i_27, i_28, i_29, i_30, i_31, i_32, i_33, i_34, i_35, i_36, i_37, i_38, i_39, i_40, i_41, i_42, i_43, i_44, i_45, i_46, i_47, i_48, i_49, i_50, i_51, i_52, i_53, i_54, i_55, i_56, i_57, i_58, i_59, i_60, i_61, i_62, i_63, i_64, i_65, i_66, i_67, i_68, i_69, i_70, i_72, i_77, i_78, i_80, i_81, i_82, i_83, i_84, i_87, i_88, i_96, i_98, i_100, i_101, i_103, i_118, i_119, i_126, i_133, i_137, i_144, i_154, i_158, i_160, i_190, i_199, i_200, i_207, i_209, i_213, i_229, i_252, i_254, i_255, i_260, i_282, i_303, i_304, i_321, i_348, i_435, i_492, i_522, i_1000, i_1023, i_1600, i_2903, iI_neg]
      exact ⟨fun hx => absurd hx (by omega), fun _ => ⟨10 + 1, x3_W20 hA hf hl (by omega) (by omega) ⟨(f (4 + 6 * (b : Int) + 0)).toNat + 1, x3_W50 hA hf hl (by omega) (by omega) ih1 (f (4 + 6 * (b : Int) + 0)).toNat 0 (by omega)⟩ 10 0 rfl⟩⟩
  unfold P_X3_mixWords
  rw [i_0]
  exact ⟨_, lp (f 2).toNat 0 (by omega)⟩
theorem x3_B {f c li wh en : Int → Int} {h : Int64} {L0 : Nat → Int64} {l0 w0 e0 re0 la0 : Nat → Int32} {K : Int64 → (Nat → Int64) → (Nat → Int32) → (Nat → Int32) → (Nat → Int32) → (Nat → Int32) → (Nat → Int32) → Prop} (hA : Ag c f) (hf : OK 6 f) (hl : LC f (f 2) li wh en) (hK : ∀ tl a1 a2 a3 a4 a5, K (dgB f h (f 3).toNat) tl a1 a2 a3 a4 a5) : P_X3_mixBeams h (aI c) (aI li) L0 l0 w0 e0 re0 la0 K := by
  have n3 := hf.2.2.2.1
  have lq : ∀ (b : Int), 0 ≤ b → b < f 3 → ∀ (h : Int64) (K : Int64 → (Nat → Int64) → (Nat → Int32) → (Nat → Int32) → (Nat → Int32) → (Nat → Int32) → (Nat → Int32) → Prop), (∀ tl a1 a2 a3 a4 a5, K (hs h (boS f b) 7) tl a1 a2 a3 a4 a5) → ∀ (m j : Nat), j + m = 7 → ∀ (L0 : Nat → Int64) (l0 w0 e0 re0 la0 : Nat → Int32), P_X3_mixBeams_L20 (iI b) (aI c) (aI li) K (m + 1) (hs h (boS f b) j) (iI j) L0 l0 w0 e0 re0 la0 := by
    intro b b0 b1 h K hK m
    induction m with
    | zero =>
      intro j hj L0 l0 w0 e0 re0 la0
      rw [P_X3_mixBeams_L20_s]
      unfold B_X3_mixBeams_L20
      simp (disch := omega) only [iI_lt, i_m9, i_m1, i_0, i_1, i_2, i_3, i_4, i_5, i_6, i_7, i_8, i_9, i_10, i_11, i_12, i_13, i_14, i_15, i_16, i_17, i_18, i_19, i_20, i_21, i_22, i_23, i_24, i_25, i_26, i_27, i_28, i_29, i_30, i_31, i_32, i_33, i_34, i_35, i_36, i_37, i_38, i_39, i_40, i_41, i_42, i_43, i_44, i_45, i_46, i_47, i_48, i_49, i_50, i_51, i_52, i_53, i_54, i_55, i_56, i_57, i_58, i_59, i_60, i_61, i_62, i_63, i_64, i_65, i_66, i_67, i_68, i_69, i_70, i_72, i_77, i_78, i_80, i_81, i_82, i_83, i_84, i_87, i_88, i_96, i_98, i_100, i_101, i_103, i_118, i_119, i_126, i_133, i_137, i_144, i_154, i_158, i_160, i_190, i_199, i_200, i_207, i_209, i_213, i_229, i_252, i_254, i_255, i_260, i_282, i_303, i_304, i_321, i_348, i_435, i_492, i_522, i_1000, i_1023, i_1600, i_2903, iI_neg]
      refine ⟨fun _ => ?_, fun hx => absurd (by omega) hx⟩
      rw [show j = 7 by omega]
      exact hK _ _ _ _ _ _
    | succ m ih =>
      intro j hj L0 l0 w0 e0 re0 la0
      have ih1 := ih (j + 1) (by omega)
      rw [nsucc] at ih1
      rw [P_X3_mixBeams_L20_s]
      unfold B_X3_mixBeams_L20
      simp (disch := omega) only [iI_lt, iI_add, i_m9, i_m1, i_0, i_1, i_2, i_3, i_4, i_5, i_6, i_7, i_8, i_9, i_10, i_11, i_12, i_13, i_14, i_15, i_16, i_17, i_18, i_19, i_20, i_21, i_22, i_23, i_24, i_25, i_26, i_27, i_28, i_29, i_30, i_31, i_32, i_33, i_34, i_35, i_36, i_37, i_38, i_39, i_40, i_41, i_42, i_43, i_44, i_45, i_46, i_47, i_48, i_49, i_50, i_51, i_52, i_53, i_54, i_55, i_56, i_57, i_58, i_59, i_60, i_61, i_62, i_63, i_64, i_65, i_66, i_67, i_68, i_69, i_70, i_72, i_77, i_78, i_80, i_81, i_82, i_83, i_84, i_87, i_88, i_96, i_98, i_100, i_101, i_103, i_118, i_119, i_126, i_133, i_137, i_144, i_154, i_158, i_160, i_190, i_199, i_200, i_207, i_209, i_213, i_229, i_252, i_254, i_255, i_260, i_282, i_303, i_304, i_321, i_348, i_435, i_492, i_522, i_1000, i_1023, i_1600, i_2903, iI_neg]
      have h0 : tX (f 3) b j 6 = 0 := by unfold tX; rw [if_pos (by omega), if_pos (by omega)]
      exact ⟨fun hx => absurd hx (by omega), fun _ => s_X3_beamOf hA hf hl lit32 lit32 (fun _ tl a1 a2 a3 a4 a5 => s_X3_mix (ih1 _ _ _ _ _ _)) (fun hx => by omega) (fun hx => by omega)⟩
  have lp : ∀ (m b : Nat), (b : Int) + m = f 3 → ∀ (L0 : Nat → Int64) (l0 w0 e0 re0 la0 : Nat → Int32), P_X3_mixBeams_L5 (aI c) (aI li) K (m + 1) (dgB f h b) (iI b) L0 l0 w0 e0 re0 la0 := by
    intro m
    induction m with
    | zero =>
      intro b hb L0 l0 w0 e0 re0 la0
      rw [P_X3_mixBeams_L5_s]
      unfold B_X3_mixBeams_L5
      refine s_X0_beams hA ?_
      simp (disch := omega) only [iI_le]
      refine ⟨fun _ => ?_, fun hx => absurd (by omega) hx⟩
      rw [show (f 3).toNat = b by omega] at hK
      exact hK _ _ _ _ _ _
    | succ m ih =>
      intro b hb L0 l0 w0 e0 re0 la0
      have ih1 := ih (b + 1) (by omega)
      rw [nsucc] at ih1
      rw [P_X3_mixBeams_L5_s]
      unfold B_X3_mixBeams_L5
      refine s_X0_beams hA ?_
      simp (disch := omega) only [iI_le, iI_add, i_m9, i_m1, i_0, i_1, i_2, i_3, i_4, i_5, i_6, i_7, i_8, i_9, i_10, i_11, i_12, i_13, i_14, i_15, i_16, i_17, i_18, i_19, i_20, i_21, i_22, i_23, i_24, i_25, i_26, i_27, i_28, i_29, i_30, i_31, i_32, i_33, i_34, i_35, i_36, i_37, i_38, i_39, i_40, i_41, i_42, i_43, i_44, i_45, i_46, i_47, i_48, i_49, i_50, i_51, i_52, i_53, i_54, i_55, i_56, i_57, i_58, i_59, i_60, i_61, i_62, i_63, i_64, i_65, i_66, i_67, i_68, i_69, i_70, i_72, i_77, i_78, i_80, i_81, i_82, i_83, i_84, i_87, i_88, i_96, i_98, i_100, i_101, i_103, i_118, i_119, i_126, i_133, i_137, i_144, i_154, i_158, i_160, i_190, i_199, i_200, i_207, i_209, i_213, i_229, i_252, i_254, i_255, i_260, i_282, i_303, i_304, i_321, i_348, i_435, i_492, i_522, i_1000, i_1023, i_1600, i_2903, iI_neg]
      exact ⟨fun hx => absurd hx (by omega), fun _ => ⟨7 + 1, lq b (by omega) (by omega) _ _ (fun tl a1 a2 a3 a4 a5 => ih1 tl a1 a2 a3 a4 a5) 7 0 rfl _ _ _ _ _ _⟩⟩
  unfold P_X3_mixBeams
  rw [i_0]
  exact ⟨_, lp (f 3).toNat 0 (by omega) _ _ _ _ _ _⟩
theorem x3_T {f c li wh en cs : Int → Int} {L : Nat → Int64} {h : Int64} {K : Int64 → Prop} (hv : CV f c L li wh en cs) (hf : OK 6 f) (hK : K (dgT f h 20)) : P_X3_mixBeats h (aI c) (aI li) (aI wh) (aI en) (aI cs) K := by
  have lq : ∀ (t : Int), 0 ≤ t → t ≤ 199 → ∀ (h : Int64) (K : Int64 → Prop), K (hs h (inS f t) 5) → ∀ (m j : Nat), j + m = 5 → P_X3_mixBeats_L16 (iI t) (aI c) (aI li) (aI wh) (aI en) (aI cs) K (m + 1) (hs h (inS f t) j) (iI j) := by
    intro t t0 t1 h K hK m
    induction m with
    | zero =>
      intro j hj
      rw [P_X3_mixBeats_L16_s]
      unfold B_X3_mixBeats_L16
      simp (disch := omega) only [iI_lt, i_m9, i_m1, i_0, i_1, i_2, i_3, i_4, i_5, i_6, i_7, i_8, i_9, i_10, i_11, i_12, i_13, i_14, i_15, i_16, i_17, i_18, i_19, i_20, i_21, i_22, i_23, i_24, i_25, i_26, i_27, i_28, i_29, i_30, i_31, i_32, i_33, i_34, i_35, i_36, i_37, i_38, i_39, i_40, i_41, i_42, i_43, i_44, i_45, i_46, i_47, i_48, i_49, i_50, i_51, i_52, i_53, i_54, i_55, i_56, i_57, i_58, i_59, i_60, i_61, i_62, i_63, i_64, i_65, i_66, i_67, i_68, i_69, i_70, i_72, i_77, i_78, i_80, i_81, i_82, i_83, i_84, i_87, i_88, i_96, i_98, i_100, i_101, i_103, i_118, i_119, i_126, i_133, i_137, i_144, i_154, i_158, i_160, i_190, i_199, i_200, i_207, i_209, i_213, i_229, i_252, i_254, i_255, i_260, i_282, i_303, i_304, i_321, i_348, i_435, i_492, i_522, i_1000, i_1023, i_1600, i_2903, iI_neg]
      refine ⟨fun _ => ?_, fun hx => absurd (by omega) hx⟩
      rw [show j = 5 by omega]
      exact hK
    | succ m ih =>
      intro j hj
      have ih1 := ih (j + 1) (by omega)
      rw [nsucc] at ih1
      rw [P_X3_mixBeats_L16_s]
      unfold B_X3_mixBeats_L16
      simp (disch := omega) only [iI_lt, iI_add, i_m9, i_m1, i_0, i_1, i_2, i_3, i_4, i_5, i_6, i_7, i_8, i_9, i_10, i_11, i_12, i_13, i_14, i_15, i_16, i_17, i_18, i_19, i_20, i_21, i_22, i_23, i_24, i_25, i_26, i_27, i_28, i_29, i_30, i_31, i_32, i_33, i_34, i_35, i_36, i_37, i_38, i_39, i_40, i_41, i_42, i_43, i_44, i_45, i_46, i_47, i_48, i_49, i_50, i_51, i_52, i_53, i_54, i_55, i_56, i_57, i_58, i_59, i_60, i_61, i_62, i_63, i_64, i_65, i_66, i_67, i_68, i_69, i_70, i_72, i_77, i_78, i_80, i_81, i_82, i_83, i_84, i_87, i_88, i_96, i_98, i_100, i_101, i_103, i_118, i_119, i_126, i_133, i_137, i_144, i_154, i_158, i_160, i_190, i_199, i_200, i_207, i_209, i_213, i_229, i_252, i_254, i_255, i_260, i_282, i_303, i_304, i_321, i_348, i_435, i_492, i_522, i_1000, i_1023, i_1600, i_2903, iI_neg]
      have h0 : tT t j 4 = 0 := by unfold tT; rw [if_pos (by omega)]
      exact ⟨fun hx => absurd hx (by omega), fun _ => s_X3_beat hv hf lit32 lit32 (fun _ => s_X3_mix ih1) (fun hx => by omega)⟩
  have lp : ∀ (m b : Nat), b + m = 20 → P_X3_mixBeats_L5 (aI c) (aI li) (aI wh) (aI en) (aI cs) K (m + 1) (dgT f h b) (iI (10 * (b : Int))) := by
    intro m
    induction m with
    | zero =>
      intro b hb
      rw [P_X3_mixBeats_L5_s]
      unfold B_X3_mixBeats_L5
      simp (disch := omega) only [iI_lt, i_m9, i_m1, i_0, i_1, i_2, i_3, i_4, i_5, i_6, i_7, i_8, i_9, i_10, i_11, i_12, i_13, i_14, i_15, i_16, i_17, i_18, i_19, i_20, i_21, i_22, i_23, i_24, i_25, i_26, i_27, i_28, i_29, i_30, i_31, i_32, i_33, i_34, i_35, i_36, i_37, i_38, i_39, i_40, i_41, i_42, i_43, i_44, i_45, i_46, i_47, i_48, i_49, i_50, i_51, i_52, i_53, i_54, i_55, i_56, i_57, i_58, i_59, i_60, i_61, i_62, i_63, i_64, i_65, i_66, i_67, i_68, i_69, i_70, i_72, i_77, i_78, i_80, i_81, i_82, i_83, i_84, i_87, i_88, i_96, i_98, i_100, i_101, i_103, i_118, i_119, i_126, i_133, i_137, i_144, i_154, i_158, i_160, i_190, i_199, i_200, i_207, i_209, i_213, i_229, i_252, i_254, i_255, i_260, i_282, i_303, i_304, i_321, i_348, i_435, i_492, i_522, i_1000, i_1023, i_1600, i_2903, iI_neg]
      refine ⟨fun _ => ?_, fun hx => absurd (by omega) hx⟩
      rw [show b = 20 by omega]
      exact hK
    | succ m ih =>
      intro b hb
      have ih1 := ih (b + 1) (by omega)
      rw [nsucc, show 10 * ((b : Int) + 1) = 10 * (b : Int) + 10 by omega] at ih1
      rw [P_X3_mixBeats_L5_s]
      unfold B_X3_mixBeats_L5
      simp (disch := omega) only [iI_lt, iI_add, i_m9, i_m1, i_0, i_1, i_2, i_3, i_4, i_5, i_6, i_7, i_8, i_9, i_10, i_11, i_12, i_13, i_14, i_15, i_16, i_17, i_18, i_19, i_20, i_21, i_22, i_23, i_24, i_25, i_26, i_27, i_28, i_29, i_30, i_31, i_32, i_33, i_34, i_35, i_36, i_37, i_38, i_39, i_40, i_41, i_42, i_43, i_44, i_45, i_46, i_47, i_48, i_49, i_50, i_51, i_52, i_53, i_54, i_55, i_56, i_57, i_58, i_59, i_60, i_61, i_62, i_63, i_64, i_65, i_66, i_67, i_68, i_69, i_70, i_72, i_77, i_78, i_80, i_81, i_82, i_83, i_84, i_87, i_88, i_96, i_98, i_100, i_101, i_103, i_118, i_119, i_126, i_133, i_137, i_144, i_154, i_158, i_160, i_190, i_199, i_200, i_207, i_209, i_213, i_229, i_252, i_254, i_255, i_260, i_282, i_303, i_304, i_321, i_348, i_435, i_492, i_522, i_1000, i_1023, i_1600, i_2903, iI_neg]
      exact ⟨fun hx => absurd hx (by omega), fun _ => ⟨5 + 1, lq _ (by omega) (by omega) _ _ ih1 5 0 rfl⟩⟩
  unfold P_X3_mixBeats
  rw [i_0]
  exact ⟨_, lp 20 0 rfl⟩
theorem x3_L77 {f c : Int → Int} {L : Nat → Int64} {h : Int64} {K : Int64 → (Nat → Int64) → (Nat → Int32) → (Nat → Int32) → (Nat → Int32) → (Nat → Int32) → Int32 → (Nat → Int32) → (Nat → Int32) → Prop} (hA : Ag c f) (hf : OK 6 f) (hL : LTS f L) (hK : ∀ tl a1 a2 a3 a4 cp a5 a6, K (hs h (ibS f 5 0 1 3) 3) tl a1 a2 a3 a4 cp a5 a6) :
    ∀ (m j : Nat), j + m = 3 → ∀ (L0 : Nat → Int64) (l0 w0 e0 cs0 : Nat → Int32) (cp0 : Int32) (re0 la0 : Nat → Int32), P_X3_digest_L77 (aI c) L K (m + 1) (hs h (ibS f 5 0 1 3) j) (iI j) L0 l0 w0 e0 cs0 cp0 re0 la0 := by
  intro m
  induction m with
  | zero =>
    intro j hj L0 l0 w0 e0 cs0 cp0 re0 la0
    rw [P_X3_digest_L77_s]
    unfold B_X3_digest_L77
    simp (disch := omega) only [iI_lt, i_m9, i_m1, i_0, i_1, i_2, i_3, i_4, i_5, i_6, i_7, i_8, i_9, i_10, i_11, i_12, i_13, i_14, i_15, i_16, i_17, i_18, i_19, i_20, i_21, i_22, i_23, i_24, i_25, i_26, i_27, i_28, i_29, i_30, i_31, i_32, i_33, i_34, i_35, i_36, i_37, i_38, i_39, i_40, i_41, i_42, i_43, i_44, i_45, i_46, i_47, i_48, i_49, i_50, i_51, i_52, i_53, i_54, i_55, i_56, i_57, i_58, i_59, i_60, i_61, i_62, i_63, i_64, i_65, i_66, i_67, i_68, i_69, i_70, i_72, i_77, i_78, i_80, i_81, i_82, i_83, i_84, i_87, i_88, i_96, i_98, i_100, i_101, i_103, i_118, i_119, i_126, i_133, i_137, i_144, i_154, i_158, i_160, i_190, i_199, i_200, i_207, i_209, i_213, i_229, i_252, i_254, i_255, i_260, i_282, i_303, i_304, i_321, i_348, i_435, i_492, i_522, i_1000, i_1023, i_1600, i_2903, iI_neg]
    refine ⟨fun _ => ?_, fun hx => absurd (by omega) hx⟩
    rw [show j = 3 by omega]
    exact hK _ _ _ _ _ _ _ _
  | succ m ih =>
    intro j hj L0 l0 w0 e0 cs0 cp0 re0 la0
    have ih1 := ih (j + 1) (by omega)
    rw [nsucc] at ih1
    rw [P_X3_digest_L77_s]
    unfold B_X3_digest_L77
    simp (disch := omega) only [iI_lt, iI_add, i_m9, i_m1, i_0, i_1, i_2, i_3, i_4, i_5, i_6, i_7, i_8, i_9, i_10, i_11, i_12, i_13, i_14, i_15, i_16, i_17, i_18, i_19, i_20, i_21, i_22, i_23, i_24, i_25, i_26, i_27, i_28, i_29, i_30, i_31, i_32, i_33, i_34, i_35, i_36, i_37, i_38, i_39, i_40, i_41, i_42, i_43, i_44, i_45, i_46, i_47, i_48, i_49, i_50, i_51, i_52, i_53, i_54, i_55, i_56, i_57, i_58, i_59, i_60, i_61, i_62, i_63, i_64, i_65, i_66, i_67, i_68, i_69, i_70, i_72, i_77, i_78, i_80, i_81, i_82, i_83, i_84, i_87, i_88, i_96, i_98, i_100, i_101, i_103, i_118, i_119, i_126, i_133, i_137, i_144, i_154, i_158, i_160, i_190, i_199, i_200, i_207, i_209, i_213, i_229, i_252, i_254, i_255, i_260, i_282, i_303, i_304, i_321, i_348, i_435, i_492, i_522, i_1000, i_1023, i_1600, i_2903, iI_neg]
    have h0 : tI 5 0 1 3 j = 0 := by unfold tI; rw [if_pos (by omega)]
    exact ⟨fun hx => absurd hx (by omega), fun _ => s_X3_ifBeam hA hf hL lit32 lit32 lit32 lit32 lit32 (fun _ tl a1 a2 a3 a4 cp a5 a6 => s_X3_mix (ih1 _ _ _ _ _ _ _ _)) (fun hx => by omega)⟩
theorem x3_buf {T : Int → Int} {n : Int} {h : Int64} {K : Int64 → Prop} (ht : TX T n) (hK : K (hs (31 * h + (iI n).toInt64) T n.toNat)) : P_X3_mixBuffer h (aI T) (iI n) K := by
  have hn := ht.1
  have lp : ∀ (m b : Nat), (b : Int) + m = n → P_X3_mixBuffer_L13 (aI T) (iI n) K (m + 1) (hs (31 * h + (iI n).toInt64) T b) (iI b) := by
    intro m
    induction m with
    | zero =>
      intro b hb
      rw [P_X3_mixBuffer_L13_s]
      unfold B_X3_mixBuffer_L13
      simp (disch := omega) only [iI_le]
      refine ⟨fun _ => ?_, fun hx => absurd (by omega) hx⟩
      rw [show n.toNat = b by omega] at hK
      exact hK
    | succ m ih =>
      intro b hb
      have ih1 := ih (b + 1) (by omega)
      rw [nsucc] at ih1
      rw [P_X3_mixBuffer_L13_s]
      unfold B_X3_mixBuffer_L13
      simp (disch := omega) only [iI_le, iI_add, i_m9, i_m1, i_0, i_1, i_2, i_3, i_4, i_5, i_6, i_7, i_8, i_9, i_10, i_11, i_12, i_13, i_14, i_15, i_16, i_17, i_18, i_19, i_20, i_21, i_22, i_23, i_24, i_25, i_26, i_27, i_28, i_29, i_30, i_31, i_32, i_33, i_34, i_35, i_36, i_37, i_38, i_39, i_40, i_41, i_42, i_43, i_44, i_45, i_46, i_47, i_48, i_49, i_50, i_51, i_52, i_53, i_54, i_55, i_56, i_57, i_58, i_59, i_60, i_61, i_62, i_63, i_64, i_65, i_66, i_67, i_68, i_69, i_70, i_72, i_77, i_78, i_80, i_81, i_82, i_83, i_84, i_87, i_88, i_96, i_98, i_100, i_101, i_103, i_118, i_119, i_126, i_133, i_137, i_144, i_154, i_158, i_160, i_190, i_199, i_200, i_207, i_209, i_213, i_229, i_252, i_254, i_255, i_260, i_282, i_303, i_304, i_321, i_348, i_435, i_492, i_522, i_1000, i_1023, i_1600, i_2903, iI_neg]
      refine ⟨fun hx => absurd hx (by omega), fun _ => s_X3_codeAt ht (by omega) (by omega) (s_X3_mix ?_)⟩
      rw [ch_in (by omega)]
      exact ih1
  unfold P_X3_mixBuffer
  rw [i_0]
  exact s_X3_mix ⟨_, lp n.toNat 0 (by omega)⟩
theorem x3_a {k : Int} {f c li wh en cs : Int → Int} {L : Nat → Int64} {K : Int64 → Prop} (hv : CV f c L li wh en cs) (hf : OK 6 f) (hK : K (hs 2903 (coS f k) 10)) : ∃ n : Nat, P_X3_digest_L6 (aI c) (aI li) (aI wh) (aI en) (aI cs) (iI (paS f)) (iI k) K n 2903 (iI 0) := ⟨10 + 1, x3_L6 hv hf hK 10 0 rfl⟩
theorem x3_e {f c : Int → Int} {L : Nat → Int64} {h : Int64} {L0 : Nat → Int64} {l0 w0 e0 cs0 re0 la0 : Nat → Int32} {cp0 : Int32} {K : Int64 → (Nat → Int64) → (Nat → Int32) → (Nat → Int32) → (Nat → Int32) → (Nat → Int32) → Int32 → (Nat → Int32) → (Nat → Int32) → Prop} (hA : Ag c f) (hf : OK 6 f) (hL : LTS f L) (hK : ∀ tl a1 a2 a3 a4 cp a5 a6, K (hs h (ibS f 5 0 1 3) 3) tl a1 a2 a3 a4 cp a5 a6) : ∃ n : Nat, P_X3_digest_L77 (aI c) L K n h (iI 0) L0 l0 w0 e0 cs0 cp0 re0 la0 := ⟨3 + 1, x3_L77 hA hf hL hK 3 0 rfl _ _ _ _ _ _ _ _⟩
theorem s_X3_digest {k n : Int} {f c li wh en cs T : Int → Int} {L L0 : Nat → Int64} {l0 w0 e0 cs0 re0 la0 : Nat → Int32} {cp0 : Int32} {Q : Int64 → (Nat → Int64) → (Nat → Int32) → (Nat → Int32) → (Nat → Int32) → (Nat → Int32) → Int32 → (Nat → Int32) → (Nat → Int32) → Prop} (hv : CV f c L li wh en cs) (hf : OK 6 f) (ht : TX T n)
    (h : ∀ tl a1 a2 a3 a4 cp a5 a6, Q (dgS f k T n) tl a1 a2 a3 a4 cp a5 a6) :
    P_X3_digest (aI c) L (aI li) (aI wh) (aI en) (aI cs) (iI (paS f)) L0 l0 w0 e0 cs0 cp0 re0 la0 (iI k) (aI T) (iI n) Q := by
  obtain ⟨hA, hL, hl, hcs⟩ := id hv
  have n2 := hf.2.2.1
  have hs := shS_ok hf
  have hJ : ∀ tl a1 a2 a3 a4 cp a5 a6, P_X3_digest_J137 (aI c) (aI li) (aI T) (iI n) Q (dg7 f k) tl a1 a2 a3 a4 cp a5 a6 := by
    intro tl a1 a2 a3 a4 cp a5 a6
    unfold P_X3_digest_J137
    exact s_X3_litShare hA hf hl (s_X3_shareBits hs.1 hs.2.1 hs.2.2.1 hs.2.2.2 (s_X3_mix (x3_buf ht (h _ _ _ _ _ _ _ _))))
  unfold P_X3_digest
  simp only [i_m9, i_m1, i_0, i_1, i_2, i_3, i_4, i_5, i_6, i_7, i_8, i_9, i_10, i_11, i_12, i_13, i_14, i_15, i_16, i_17, i_18, i_19, i_20, i_21, i_22, i_23, i_24, i_25, i_26, i_27, i_28, i_29, i_30, i_31, i_32, i_33, i_34, i_35, i_36, i_37, i_38, i_39, i_40, i_41, i_42, i_43, i_44, i_45, i_46, i_47, i_48, i_49, i_50, i_51, i_52, i_53, i_54, i_55, i_56, i_57, i_58, i_59, i_60, i_61, i_62, i_63, i_64, i_65, i_66, i_67, i_68, i_69, i_70, i_72, i_77, i_78, i_80, i_81, i_82, i_83, i_84, i_87, i_88, i_96, i_98, i_100, i_101, i_103, i_118, i_119, i_126, i_133, i_137, i_144, i_154, i_158, i_160, i_190, i_199, i_200, i_207, i_209, i_213, i_229, i_252, i_254, i_255, i_260, i_282, i_303, i_304, i_321, i_348, i_435, i_492, i_522, i_1000, i_1023, i_1600, i_2903, iI_neg]
  refine x3_a (k := k) hv hf ?_
  refine s_X0_setting hA (Or.inl rfl) ?_
  refine s_X3_mix ?_
  refine s_X0_setting hA (Or.inr rfl) ?_
  refine s_X3_mix ?_
  refine x3_W hA hf hl ?_
  refine x3_B hA hf hl (fun tl a1 a2 a3 a4 a5 => ?_)
  refine x3_T hv hf ?_
  refine x3_e hA hf hL (fun tl a1 a2 a3 a4 cp a5 a6 => ?_)
  have h0 : tBS 0 0 = 0 := by decide
  refine s_X3_bestSpeed hA hf hL lit32 lit32 (fun _ tl a1 a2 a3 a5 a6 => ?_) (fun hx => by omega)
  refine s_X3_mix ?_
  refine s_X0_hasWord hA lit32 n2 (fun g => ⟨fun _ => ?_, fun hx => absurd rfl hx⟩) (fun g => ⟨fun hx => absurd hx (by decide), fun _ => ?_⟩)
  · have e : dg7 f k = dg6 f k := by unfold dg7; rw [if_pos (by omega)]
    have := hJ tl a1 a2 a3 a4 cp a5 a6
    rw [e] at this
    exact this
  · have e : dg7 f k = 31 * dg6 f k + (iI (ccS f 0)).toInt64 := by unfold dg7; rw [if_neg (by omega)]
    have h1 : t1 (f 2) 0 = 0 := by unfold t1; rw [if_pos g]
    refine s_X3_clearCue hA hf hL lit32 (fun _ tl a1 a2 a3 a4 a5 => s_X3_mix ?_) (fun hx => by omega)
    have := hJ tl a1 a2 a3
    rw [e] at this
    exact this _ _ _ _
