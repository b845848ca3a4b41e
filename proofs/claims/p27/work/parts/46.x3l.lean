theorem s_X3_wordOf {w i : Int} {f c li wh en : Int → Int} {Q : Int32 → Prop} {E : Nat → Prop} (hA : Ag c f) (hf : OK 6 f) (hl : LC f (f 2) li wh en) (hw : I32 w) (hi : I32 i) (h1 : tX (f 2) w i 9 = 0 → Q (iI (woS f w i))) (h2 : tX (f 2) w i 9 = 1 → E 3) (h3 : tX (f 2) w i 9 = 2 → E 1) : P_X3_wordOf (iI w) (iI i) (aI c) (aI li) (aI wh) (aI en) Q E := by
  have n2 := hf.2.2.1
  unfold P_X3_wordOf
  simp only [i_m9, i_m1, i_0, i_1, i_2, i_3, i_4, i_5, i_6, i_7, i_8, i_9, i_10, i_11, i_12, i_13, i_14, i_15, i_16, i_17, i_18, i_19, i_20, i_21, i_22, i_23, i_24, i_25, i_26, i_27, i_28, i_29, i_30, i_31, i_32, i_33, i_34, i_35, i_36, i_37, i_38, i_39, i_40, i_41, i_42, i_43, i_44, i_45, i_46, i_47, i_48, i_49, i_50, i_51, i_52, i_53, i_54, i_55, i_56, i_57, i_58, i_59, i_60, i_61, i_62, i_63, i_64, i_65, i_66, i_67, i_68, i_69, i_70, i_72, i_77, i_78, i_80, i_81, i_82, i_83, i_84, i_87, i_88, i_96, i_98, i_100, i_101, i_103, i_118, i_119, i_126, i_133, i_137, i_144, i_154, i_158, i_160, i_190, i_199, i_200, i_207, i_209, i_213, i_229, i_252, i_254, i_255, i_260, i_282, i_303, i_304, i_321, i_348, i_435, i_492, i_522, i_1000, i_1023, i_1600, i_2903, iI_neg]
  refine s_X0_hasWord hA hw n2 (fun g => ⟨fun hx => absurd rfl hx, fun _ => h2 (by unfold tX; rw [if_neg g])⟩) (fun g => ⟨fun _ => ?_, fun hx => absurd hx (by decide)⟩)
  refine s_X3_within hi lit32 lit32 (br_b' (fun g1 => ?_) (fun g1 => ?_))
  · rw [inn_f] at g1
    exact h3 (by unfold tX; rw [if_pos g, if_neg (by omega)])
  rw [inn_iff] at g1
  have h := h1 (by unfold tX; rw [if_pos g, if_pos g1])
  unfold woS at h
  simp (disch := omega) only [iI_eq]
  refine ⟨fun e => s_X2_firstLit (Ag_AW hA) hf hl g.1 g.2 ?_, fun e => wholeFrom_at g.1 (by omega) ?_, fun e => s_X2_goesAt hf hl g.1 g.2 ?_, fun e => s_X2_litLettersOf (Ag_AW hA) hf hl g.1 g.2 ?_, fun e6 e7 e8 e9 => s_X0_ofWord hA n2.2 g.1 g.2 g1.1 (by omega) ?_⟩
  · rw [if_neg (by omega), if_pos e] at h; exact h
  · rw [if_neg (by omega), if_neg (by omega), if_pos e] at h; rw [(hl w g.1 g.2).2.1]; exact h
  · rw [if_neg (by omega), if_neg (by omega), if_neg (by omega), if_pos e] at h; exact h
  · rw [if_neg (by omega), if_neg (by omega), if_neg (by omega), if_neg (by omega)] at h; exact h
  · rw [if_pos (by omega)] at h; exact h
theorem s_X3_litAt {w k : Int} {f c li wh en : Int → Int} {Q : Int32 → Prop} {E : Nat → Prop} (hA : Ag c f) (hf : OK 6 f) (hl : LC f (f 2) li wh en) (hw : I32 w) (hk : I32 k) (h1 : tL f w k = 0 → Q (iI (litS f w k))) (h2 : tL f w k = 1 → E 3) : P_X3_litAt (iI w) (iI k) (aI c) (aI li) Q E := by
  have n2 := hf.2.2.1
  have hk2 := hk
  unfold I32 at hk2
  unfold P_X3_litAt P_X3_litAt_J28
  simp only [i_m9, i_m1, i_0, i_1, i_2, i_3, i_4, i_5, i_6, i_7, i_8, i_9, i_10, i_11, i_12, i_13, i_14, i_15, i_16, i_17, i_18, i_19, i_20, i_21, i_22, i_23, i_24, i_25, i_26, i_27, i_28, i_29, i_30, i_31, i_32, i_33, i_34, i_35, i_36, i_37, i_38, i_39, i_40, i_41, i_42, i_43, i_44, i_45, i_46, i_47, i_48, i_49, i_50, i_51, i_52, i_53, i_54, i_55, i_56, i_57, i_58, i_59, i_60, i_61, i_62, i_63, i_64, i_65, i_66, i_67, i_68, i_69, i_70, i_72, i_77, i_78, i_80, i_81, i_82, i_83, i_84, i_87, i_88, i_96, i_98, i_100, i_101, i_103, i_118, i_119, i_126, i_133, i_137, i_144, i_154, i_158, i_160, i_190, i_199, i_200, i_207, i_209, i_213, i_229, i_252, i_254, i_255, i_260, i_282, i_303, i_304, i_321, i_348, i_435, i_492, i_522, i_1000, i_1023, i_1600, i_2903, iI_neg]
  refine s_X0_hasWord hA hw n2 (fun g => ⟨fun _ => h2 (by unfold tL; rw [if_neg (by omega)]), fun hx => absurd rfl hx⟩) (fun g => ⟨fun hx => absurd hx (by decide), fun _ => ?_⟩)
  have hO := (hf.2.2.2.2.1 w g.1 g.2).1
  rw [iI_lt hk2.1 hk2.2 (by omega) (by omega)]
  refine ⟨fun e => h2 (by unfold tL; rw [if_neg (by omega)]), fun e => s_X0_ofWord hA n2.2 g.1 g.2 (by omega) (by omega) ?_⟩
  rw [iI_lt hk2.1 hk2.2 (by omega) (by omega)]
  refine ⟨fun e2 => litBeat_at g.1 (by omega) (by omega) (by omega) ?_, fun e2 => h2 (by unfold tL; rw [if_neg (by omega)])⟩
  rw [(hl w g.1 g.2).1 k (by omega) e2]
  exact h1 (by unfold tL; rw [if_pos (by omega)])
theorem s_X0_coveredBy {b t : Int} {c f : Int → Int} {Q : Int64 → Prop} (hA : Ag c f) (hf : OK 6 f) (b0 : 0 ≤ b) (b1 : b < f 3) (t0 : 0 ≤ t) (t1 : t ≤ 199) (h : ∀ x : Int64, (x = 0 ↔ cos f b t = false) → Q x) : P_X0_coveredBy (iI b) (iI t) (aI c) Q := by
  have n3 := hf.2.2.2.1
  obtain ⟨q0, q1, q2, q3, q4⟩ := hf.2.2.2.2.2 b b0 b1
  unfold P_X0_coveredBy
  simp only [i_m9, i_m1, i_0, i_1, i_2, i_3, i_4, i_5, i_6, i_7, i_8, i_9, i_10, i_11, i_12, i_13, i_14, i_15, i_16, i_17, i_18, i_19, i_20, i_21, i_22, i_23, i_24, i_25, i_26, i_27, i_28, i_29, i_30, i_31, i_32, i_33, i_34, i_35, i_36, i_37, i_38, i_39, i_40, i_41, i_42, i_43, i_44, i_45, i_46, i_47, i_48, i_49, i_50, i_51, i_52, i_53, i_54, i_55, i_56, i_57, i_58, i_59, i_60, i_61, i_62, i_63, i_64, i_65, i_66, i_67, i_68, i_69, i_70, i_72, i_77, i_78, i_80, i_81, i_82, i_83, i_84, i_87, i_88, i_96, i_98, i_100, i_101, i_103, i_118, i_119, i_126, i_133, i_137, i_144, i_154, i_158, i_160, i_190, i_199, i_200, i_207, i_209, i_213, i_229, i_252, i_254, i_255, i_260, i_282, i_303, i_304, i_321, i_348, i_435, i_492, i_522, i_1000, i_1023, i_1600, i_2903, iI_neg]
  refine s_X0_ofBeam hA n3.2 b0 b1 (by omega) (by omega) ?_
  refine s_X0_ofBeam hA n3.2 b0 b1 (by omega) (by omega) ?_
  refine s_X0_ofBeam hA n3.2 b0 b1 (by omega) (by omega) ?_
  simp (disch := omega) only [iI_sub, iI_le]
  refine ⟨fun e => s_X0_ofBeam hA n3.2 b0 b1 (by omega) (by omega) ?_, fun e => h 0 ⟨fun _ => ?_, fun _ => rfl⟩⟩
  · have hr := fst_rng (f := f) (b := b) (t := t) ⟨q0, q1, q2, q3, q4⟩ (by omega) t1
    unfold fst at hr
    simp only [iI_mul, iI_add]
    refine s_X0_columnBits (by omega) (by omega) q3.1 q3.2 (fun x hx _ => h x ?_)
    rw [hx]
    unfold cos fst
    rw [decide_eq_true (p := f (52 + 5 * b + 0) ≤ t) (by omega), Bool.true_and, ← Bool.not_eq_true, Bool.and_eq_true, decide_eq_true_iff, decide_eq_true_iff]
  · unfold cos
    rw [decide_eq_false (by omega), Bool.false_and]
theorem s_X3_coveringBeats {b : Int} {c f : Int → Int} {Q : Int32 → Prop} (hA : Ag c f) (hf : OK 6 f) (b0 : 0 ≤ b) (b1 : b < f 3) (h : Q (iI (cvS f b))) : P_X3_coveringBeats (iI b) (aI c) Q := by
  have lp : ∀ (m t : Nat), t + m = 200 → P_X3_coveringBeats_L4 (iI b) (aI c) Q (m + 1) (iI (sm (fun t => bi (cos f b t)) t)) (iI t) := by
    intro m
    induction m with
    | zero =>
      intro t ht
      rw [P_X3_coveringBeats_L4_s]
      unfold B_X3_coveringBeats_L4
      simp (disch := omega) only [iI_le, i_m9, i_m1, i_0, i_1, i_2, i_3, i_4, i_5, i_6, i_7, i_8, i_9, i_10, i_11, i_12, i_13, i_14, i_15, i_16, i_17, i_18, i_19, i_20, i_21, i_22, i_23, i_24, i_25, i_26, i_27, i_28, i_29, i_30, i_31, i_32, i_33, i_34, i_35, i_36, i_37, i_38, i_39, i_40, i_41, i_42, i_43, i_44, i_45, i_46, i_47, i_48, i_49, i_50, i_51, i_52, i_53, i_54, i_55, i_56, i_57, i_58, i_59, i_60, i_61, i_62, i_63, i_64, i_65, i_66, i_67, i_68, i_69, i_70, i_72, i_77, i_78, i_80, i_81, i_82, i_83, i_84, i_87, i_88, i_96, i_98, i_100, i_101, i_103, i_118, i_119, i_126, i_133, i_137, i_144, i_154, i_158, i_160, i_190, i_199, i_200, i_207, i_209, i_213, i_229, i_252, i_254, i_255, i_260, i_282, i_303, i_304, i_321, i_348, i_435, i_492, i_522, i_1000, i_1023, i_1600, i_2903, iI_neg]
      refine ⟨fun _ => ?_, fun hx => absurd (by omega) hx⟩
      unfold cvS at h
      rw [show 200 = t by omega] at h
      exact h
    | succ m ih =>
      intro t ht
      have ih1 := ih (t + 1) (by omega)
      simp only [nsucc, sm_s] at ih1
      rw [P_X3_coveringBeats_L4_s]
      unfold B_X3_coveringBeats_L4 P_X3_coveringBeats_J28
      simp (disch := omega) only [iI_le, iI_add, i_m9, i_m1, i_0, i_1, i_2, i_3, i_4, i_5, i_6, i_7, i_8, i_9, i_10, i_11, i_12, i_13, i_14, i_15, i_16, i_17, i_18, i_19, i_20, i_21, i_22, i_23, i_24, i_25, i_26, i_27, i_28, i_29, i_30, i_31, i_32, i_33, i_34, i_35, i_36, i_37, i_38, i_39, i_40, i_41, i_42, i_43, i_44, i_45, i_46, i_47, i_48, i_49, i_50, i_51, i_52, i_53, i_54, i_55, i_56, i_57, i_58, i_59, i_60, i_61, i_62, i_63, i_64, i_65, i_66, i_67, i_68, i_69, i_70, i_72, i_77, i_78, i_80, i_81, i_82, i_83, i_84, i_87, i_88, i_96, i_98, i_100, i_101, i_103, i_118, i_119, i_126, i_133, i_137, i_144, i_154, i_158, i_160, i_190, i_199, i_200, i_207, i_209, i_213, i_229, i_252, i_254, i_255, i_260, i_282, i_303, i_304, i_321, i_348, i_435, i_492, i_522, i_1000, i_1023, i_1600, i_2903, iI_neg]
      refine ⟨fun hx => absurd hx (by omega), fun _ => s_X0_coveredBy hA hf b0 b1 (by omega) (by omega) (fun x hx => ?_)⟩
      rw [lgz, hx]
      refine ⟨fun e => ?_, fun e => ?_⟩
      · rw [e, bi_false, Int.add_zero] at ih1; exact ih1
      · rw [Bool.not_eq_false] at e
        rw [e, bi_true] at ih1; exact ih1
  unfold P_X3_coveringBeats
  rw [i_0]
  exact ⟨_, lp 200 0 rfl⟩
theorem s_X3_coveringBeams {t : Int} {c f : Int → Int} {Q : Int32 → Prop} (hA : Ag c f) (hf : OK 6 f) (t0 : 0 ≤ t) (t1 : t ≤ 199) (h : Q (iI (in4 f t))) : P_X3_coveringBeams (iI t) (aI c) Q := by
  have n3 := hf.2.2.2.1
  have lp : ∀ (m b : Nat), (b : Int) + m = f 3 → P_X3_coveringBeams_L4 (iI t) (aI c) Q (m + 1) (iI (sm (fun b => bi (cos f b t)) b)) (iI b) := by
    intro m
    induction m with
    | zero =>
      intro b hb
      rw [P_X3_coveringBeams_L4_s]
      unfold B_X3_coveringBeams_L4
      refine s_X0_beams hA ?_
      simp (disch := omega) only [iI_le, i_m9, i_m1, i_0, i_1, i_2, i_3, i_4, i_5, i_6, i_7, i_8, i_9, i_10, i_11, i_12, i_13, i_14, i_15, i_16, i_17, i_18, i_19, i_20, i_21, i_22, i_23, i_24, i_25, i_26, i_27, i_28, i_29, i_30, i_31, i_32, i_33, i_34, i_35, i_36, i_37, i_38, i_39, i_40, i_41, i_42, i_43, i_44, i_45, i_46, i_47, i_48, i_49, i_50, i_51, i_52, i_53, i_54, i_55, i_56, i_57, i_58, i_59, i_60, i_61, i_62, i_63, i_64, i_65, i_66, i_67, i_68, i_69, i_70, i_72, i_77, i_78, i_80, i_81, i_82, i_83, i_84, i_87, i_88, i_96, i_98, i_100, i_101, i_103, i_118, i_119, i_126, i_133, i_137, i_144, i_154, i_158, i_160, i_190, i_199, i_200, i_207, i_209, i_213, i_229, i_252, i_254, i_255, i_260, i_282, i_303, i_304, i_321, i_348, i_435, i_492, i_522, i_1000, i_1023, i_1600, i_2903, iI_neg]
      refine ⟨fun _ => ?_, fun hx => absurd (by omega) hx⟩
      unfold in4 at h
      rw [show (f 3).toNat = b by omega] at h
      exact h
    | succ m ih =>
      intro b hb
      have ih1 := ih (b + 1) (by omega)
      simp only [nsucc, sm_s] at ih1
      rw [P_X3_coveringBeams_L4_s]
      unfold B_X3_coveringBeams_L4 P_X3_coveringBeams_J32
      refine s_X0_beams hA ?_
      simp (disch := omega) only [iI_le, iI_add, i_m9, i_m1, i_0, i_1, i_2, i_3, i_4, i_5, i_6, i_7, i_8, i_9, i_10, i_11, i_12, i_13, i_14, i_15, i_16, i_17, i_18, i_19, i_20, i_21, i_22, i_23, i_24, i_25, i_26, i_27, i_28, i_29, i_30, i_31, i_32, i_33, i_34, i_35, i_36, i_37, i_38, i_39, i_40, i_41, i_42, i_43, i_44, i_45, i_46, i_47, i_48, i_49, i_50, i_51, i_52, i_53, i_54, i_55, i_56, i_57, i_58, i_59, i_60, i_61, i_62, i_63, i_64, i_65, i_66, i_67, i_68, i_69, i_70, i_72, i_77, i_78, i_80, i_81, i_82, i_83, i_84, i_87, i_88, i_96, i_98, i_100, i_101, i_103, i_118, i_119, i_126, i_133, i_137, i_144, i_154, i_158, i_160, i_190, i_199, i_200, i_207, i_209, i_213, i_229, i_252, i_254, i_255, i_260, i_282, i_303, i_304, i_321, i_348, i_435, i_492, i_522, i_1000, i_1023, i_1600, i_2903, iI_neg]
      refine ⟨fun hx => absurd hx (by omega), fun _ => s_X0_coveredBy hA hf (by omega) (by omega) t0 t1 (fun x hx => ?_)⟩
      rw [lgz, hx]
      refine ⟨fun e => ?_, fun e => ?_⟩
      · rw [e, bi_false, Int.add_zero] at ih1; exact ih1
      · rw [Bool.not_eq_false] at e
        rw [e, bi_true] at ih1; exact ih1
  unfold P_X3_coveringBeams
  rw [i_0]
  exact ⟨_, lp (f 3).toNat 0 (by omega)⟩
theorem s_X3_beat {t i : Int} {f c li wh en cs : Int → Int} {L : Nat → Int64} {Q : Int32 → Prop} {E : Nat → Prop} (hv : CV f c L li wh en cs) (hf : OK 6 f) (ht : I32 t) (hi : I32 i) (h1 : tT t i 4 = 0 → Q (iI (inS f t i))) (h2 : tT t i 4 = 1 → E 1) : P_X3_beat (iI t) (iI i) (aI c) (aI li) (aI wh) (aI en) (aI cs) Q E := by
  obtain ⟨hA, hL, hl, hcs⟩ := hv
  unfold P_X3_beat P_X3_beat_J16
  simp only [i_m9, i_m1, i_0, i_1, i_2, i_3, i_4, i_5, i_6, i_7, i_8, i_9, i_10, i_11, i_12, i_13, i_14, i_15, i_16, i_17, i_18, i_19, i_20, i_21, i_22, i_23, i_24, i_25, i_26, i_27, i_28, i_29, i_30, i_31, i_32, i_33, i_34, i_35, i_36, i_37, i_38, i_39, i_40, i_41, i_42, i_43, i_44, i_45, i_46, i_47, i_48, i_49, i_50, i_51, i_52, i_53, i_54, i_55, i_56, i_57, i_58, i_59, i_60, i_61, i_62, i_63, i_64, i_65, i_66, i_67, i_68, i_69, i_70, i_72, i_77, i_78, i_80, i_81, i_82, i_83, i_84, i_87, i_88, i_96, i_98, i_100, i_101, i_103, i_118, i_119, i_126, i_133, i_137, i_144, i_154, i_158, i_160, i_190, i_199, i_200, i_207, i_209, i_213, i_229, i_252, i_254, i_255, i_260, i_282, i_303, i_304, i_321, i_348, i_435, i_492, i_522, i_1000, i_1023, i_1600, i_2903, iI_neg]
  refine s_X3_isBeat ht (br_b (fun g => ?_) (fun g => ?_))
  · rw [inn_f] at g; exact h2 (by unfold tT; rw [if_neg (by omega)])
  rw [inn_iff] at g
  refine s_X3_within hi lit32 lit32 (br_b' (fun g1 => ?_) (fun g1 => ?_))
  · rw [inn_f] at g1; exact h2 (by unfold tT; rw [if_neg (by omega)])
  rw [inn_iff] at g1
  have h := h1 (by unfold tT; rw [if_pos (by omega)])
  simp (disch := omega) only [iI_eq]
  refine ⟨fun e => s_X2_seenLetters (Ag_AW hA) hf hl g.1 g.2 ?_, fun e => s_X2_seenWords (Ag_AW hA) hf hl g.1 g.2 ?_, fun e => s_X2_standingWords (Ag_AW hA) hf hl g.1 g.2 ?_, fun e => clashesIn_at g.1 (by omega) ?_, fun e0 e1 e2 e3 => s_X3_coveringBeams hA hf g.1 g.2 ?_⟩
  · subst e; rw [inS_0] at h; exact h
  · subst e; rw [inS_1] at h; exact h
  · subst e; rw [inS_2] at h; exact h
  · subst e; rw [inS_3] at h; rw [hcs t g.1 (by omega)]; exact h
  · have e4 : i = 4 := by omega
    subst e4; rw [inS_4] at h; exact h
theorem s_X3_count {i k : Int} {f c li wh en cs : Int → Int} {L : Nat → Int64} {Q : Int32 → Prop} {E : Nat → Prop} (hv : CV f c L li wh en cs) (hf : OK 6 f) (hi : I32 i) (h1 : tN i 9 = 0 → Q (iI (coS f k i))) (h2 : tN i 9 = 1 → E 1) : P_X3_count (iI i) (aI c) (aI li) (aI wh) (aI en) (aI cs) (iI (paS f)) (iI k) Q E := by
  obtain ⟨hA, hL, hl, hcs⟩ := hv
  have hW := Ag_AW hA
  unfold P_X3_count
  simp only [i_m9, i_m1, i_0, i_1, i_2, i_3, i_4, i_5, i_6, i_7, i_8, i_9, i_10, i_11, i_12, i_13, i_14, i_15, i_16, i_17, i_18, i_19, i_20, i_21, i_22, i_23, i_24, i_25, i_26, i_27, i_28, i_29, i_30, i_31, i_32, i_33, i_34, i_35, i_36, i_37, i_38, i_39, i_40, i_41, i_42, i_43, i_44, i_45, i_46, i_47, i_48, i_49, i_50, i_51, i_52, i_53, i_54, i_55, i_56, i_57, i_58, i_59, i_60, i_61, i_62, i_63, i_64, i_65, i_66, i_67, i_68, i_69, i_70, i_72, i_77, i_78, i_80, i_81, i_82, i_83, i_84, i_87, i_88, i_96, i_98, i_100, i_101, i_103, i_118, i_119, i_126, i_133, i_137, i_144, i_154, i_158, i_160, i_190, i_199, i_200, i_207, i_209, i_213, i_229, i_252, i_254, i_255, i_260, i_282, i_303, i_304, i_321, i_348, i_435, i_492, i_522, i_1000, i_1023, i_1600, i_2903, iI_neg]
  refine s_X3_within hi lit32 lit32 (br_b' (fun g => ?_) (fun g => ?_))
  · rw [inn_f] at g; exact h2 (by unfold tN; rw [if_neg (by omega)])
  rw [inn_iff] at g
  have h := h1 (by unfold tN; rw [if_pos g])
  unfold coS at h
  simp (disch := omega) only [iI_eq]
  refine ⟨fun e => s_X0_words hA ?_, fun e => s_X0_beams hA ?_, fun e => s_X0_letters hA hf ?_, fun e => s_X2_litLetters hW hf hl ?_, fun e => s_X2_wholeWords hW hf hl ?_, fun e => s_X2_lastWhole hW hf hl ?_, fun e => s_X2_emptyBeats hW hf hl ?_, fun e => s_X2_clashBeats hf hcs ?_, fun e => ?_, fun e0 e1 e2 e3 e4 e5 e6 e7 e8 => ?_⟩
  · subst e; exact h
  · subst e; exact h
  · subst e; exact h
  · subst e; exact h
  · subst e; exact h
  · subst e; exact h
  · subst e; exact h
  · subst e; exact h
  · subst e; exact h
  · rw [if_neg e0, if_neg e1, if_neg e2, if_neg e3, if_neg e4, if_neg e5, if_neg e6, if_neg e7, if_neg e8] at h; exact h
theorem s_X3_seen {t r o : Int} {f c li wh en : Int → Int} {Q : Int32 → Prop} {E : Nat → Prop} (hA : Ag c f) (hf : OK 6 f) (hl : LC f (f 2) li wh en) (ht : I32 t) (hr : I32 r) (ho : I32 o) (h1 : tSn t r o = 0 → Q (iI (stS f t r o))) (h2 : tSn t r o = 1 → E 1) : P_X3_seen (iI t) (iI r) (iI o) (aI c) (aI li) (aI en) Q E := by
  have n2 := hf.2.2.1
  unfold P_X3_seen P_X3_seen_J27
  simp only [i_m9, i_m1, i_0, i_1, i_2, i_3, i_4, i_5, i_6, i_7, i_8, i_9, i_10, i_11, i_12, i_13, i_14, i_15, i_16, i_17, i_18, i_19, i_20, i_21, i_22, i_23, i_24, i_25, i_26, i_27, i_28, i_29, i_30, i_31, i_32, i_33, i_34, i_35, i_36, i_37, i_38, i_39, i_40, i_41, i_42, i_43, i_44, i_45, i_46, i_47, i_48, i_49, i_50, i_51, i_52, i_53, i_54, i_55, i_56, i_57, i_58, i_59, i_60, i_61, i_62, i_63, i_64, i_65, i_66, i_67, i_68, i_69, i_70, i_72, i_77, i_78, i_80, i_81, i_82, i_83, i_84, i_87, i_88, i_96, i_98, i_100, i_101, i_103, i_118, i_119, i_126, i_133, i_137, i_144, i_154, i_158, i_160, i_190, i_199, i_200, i_207, i_209, i_213, i_229, i_252, i_254, i_255, i_260, i_282, i_303, i_304, i_321, i_348, i_435, i_492, i_522, i_1000, i_1023, i_1600, i_2903, iI_neg]
  refine s_X3_isBeat ht (br_b (fun g => ?_) (fun g => ?_))
  · rw [inn_f] at g; exact h2 (by unfold tSn; rw [if_neg (by omega)])
  rw [inn_iff] at g
  refine s_X3_within hr lit32 lit32 (br_b (fun g1 => ?_) (fun g1 => ?_))
  · rw [inn_f] at g1; exact h2 (by unfold tSn; rw [if_neg (by omega)])
  rw [inn_iff] at g1
  refine s_X3_within ho lit32 lit32 (br_b' (fun g2 => ?_) (fun g2 => ?_))
  · rw [inn_f] at g2; exact h2 (by unfold tSn; rw [if_neg (by omega)])
  rw [inn_iff] at g2
  have h := h1 (by unfold tSn; rw [if_pos (by omega)])
  unfold stS at h
  have lp : ∀ (m b : Nat), (b : Int) + m = f 2 → Q (iI (frs (stB f t r o) m b)) → P_X3_seen_L40 (iI t) (iI r) (iI o) (aI c) (aI li) (aI en) Q (m + 1) (iI b) := by
    intro m
    induction m with
    | zero =>
      intro b hb hq
      rw [P_X3_seen_L40_s]
      unfold B_X3_seen_L40
      refine s_X0_words hA ?_
      simp (disch := omega) only [iI_le, i_m9, i_m1, i_0, i_1, i_2, i_3, i_4, i_5, i_6, i_7, i_8, i_9, i_10, i_11, i_12, i_13, i_14, i_15, i_16, i_17, i_18, i_19, i_20, i_21, i_22, i_23, i_24, i_25, i_26, i_27, i_28, i_29, i_30, i_31, i_32, i_33, i_34, i_35, i_36, i_37, i_38, i_39, i_40, i_41, i_42, i_43, i_44, i_45, i_46, i_47, i_48, i_49, i_50, i_51, i_52, i_53, i_54, i_55, i_56, i_57, i_58, i_59, i_60, i_61, i_62, i_63, i_64, i_65, i_66, i_67, i_68, i_69, i_70, i_72, i_77, i_78, i_80, i_81, i_82, i_83, i_84, i_87, i_88, i_96, i_98, i_100, i_101, i_103, i_118, i_119, i_126, i_133, i_137, i_144, i_154, i_158, i_160, i_190, i_199, i_200, i_207, i_209, i_213, i_229, i_252, i_254, i_255, i_260, i_282, i_303, i_304, i_321, i_348, i_435, i_492, i_522, i_1000, i_1023, i_1600, i_2903, iI_neg]
      exact ⟨fun _ => hq, fun hx => absurd (by omega) hx⟩
    | succ m ih =>
      intro b hb hq
      have ih1 := ih (b + 1) (by omega)
      rw [nsucc] at ih1
      rw [frs_s] at hq
      obtain ⟨⟨l0, l1⟩, ⟨r0, r1⟩, ⟨c0, c1⟩, -⟩ := hf.2.2.2.2.1 b (by omega) (by omega)
      rw [P_X3_seen_L40_s]
      unfold B_X3_seen_L40 P_X3_seen_J98
      refine s_X0_words hA ?_
      simp (disch := omega) only [iI_le, iI_add, i_m9, i_m1, i_0, i_1, i_2, i_3, i_4, i_5, i_6, i_7, i_8, i_9, i_10, i_11, i_12, i_13, i_14, i_15, i_16, i_17, i_18, i_19, i_20, i_21, i_22, i_23, i_24, i_25, i_26, i_27, i_28, i_29, i_30, i_31, i_32, i_33, i_34, i_35, i_36, i_37, i_38, i_39, i_40, i_41, i_42, i_43, i_44, i_45, i_46, i_47, i_48, i_49, i_50, i_51, i_52, i_53, i_54, i_55, i_56, i_57, i_58, i_59, i_60, i_61, i_62, i_63, i_64, i_65, i_66, i_67, i_68, i_69, i_70, i_72, i_77, i_78, i_80, i_81, i_82, i_83, i_84, i_87, i_88, i_96, i_98, i_100, i_101, i_103, i_118, i_119, i_126, i_133, i_137, i_144, i_154, i_158, i_160, i_190, i_199, i_200, i_207, i_209, i_213, i_229, i_252, i_254, i_255, i_260, i_282, i_303, i_304, i_321, i_348, i_435, i_492, i_522, i_1000, i_1023, i_1600, i_2903, iI_neg]
      refine ⟨fun hx => absurd hx (by omega), fun _ => s_X0_ofWord hA (by omega) (by omega) (by omega) (by omega) (by omega) (s_X0_ofWord hA (by omega) (by omega) (by omega) (by omega) (by omega) ?_)⟩
      simp (disch := omega) only [iI_eq, iI_sub]
      have hst : stB f t r o b = true ↔ f (4 + 6 * (b : Int) + 1) = r ∧ (decide (0 ≤ o - f (4 + 6 * (b : Int) + 2) ∧ o - f (4 + 6 * (b : Int) + 2) < f (4 + 6 * (b : Int) + 0)) && snS f b (o - f (4 + 6 * (b : Int) + 2)) t) = true := by
        unfold stB lta
        rw [Bool.and_eq_true, Bool.and_eq_true, Bool.and_eq_true, decide_eq_true_iff, decide_eq_true_iff, decide_eq_true_iff]
        by_cases e : inn (o - f (4 + 6 * (b : Int) + 2)) 0 (f (4 + 6 * (b : Int) + 0) - 1) = true
        · rw [if_pos e]
          rw [inn_iff] at e
          constructor
          · rintro ⟨a1, a2, a3⟩; exact ⟨a1, by omega, a3⟩
          · rintro ⟨a1, a2, a3⟩; exact ⟨a1, by omega, a3⟩
        · rw [if_neg e]
          rw [inn_iff] at e
          constructor
          · rintro ⟨a1, a2, a3⟩; exact absurd rfl a2
          · rintro ⟨a1, a2, a3⟩; exact absurd (by omega) e
      have no : ¬ stB f t r o b = true → P_X3_seen_L40 (iI t) (iI r) (iI o) (aI c) (aI li) (aI en) Q (m + 1) (iI ((b : Int) + 1)) := fun hx => by
        rw [if_neg hx] at hq
        exact ih1 hq
      refine ⟨fun e => no (fun hx => e (hst.mp hx).1), fun e => s_X2_isSeen (Ag_AW hA) hf hl (by omega) (by omega) (by omega) (by omega) g.1 g.2 (br_b (fun e2 => no (fun hx => ?_)) (fun e2 => ?_))⟩
      · rw [(hst.mp hx).2] at e2
        exact absurd e2 (by decide)
      · rw [if_pos (hst.mpr ⟨e, e2⟩)] at hq
        exact hq
  refine ⟨_, lp (f 2).toNat 0 (by omega) h⟩
theorem frs_le {p : Int → Bool} : ∀ (m : Nat) (t x : Int), t ≤ x → x < t + m → p x = true → frs p m t ≠ -1 ∨ x = -1 ∨ t ≤ -1
  | 0, t, x, h1, h2, _ => absurd h1 (by omega)
  | m + 1, t, x, h1, h2, h3 => by
    rw [frs_s]
    by_cases e : p t = true
    · rw [if_pos e]; omega
    · rw [if_neg e]
      have : x ≠ t := fun hx => e (by rw [← hx]; exact h3)
      rcases frs_le m (t + 1) x (by omega) (by omega) h3 with h | h | h
      · exact Or.inl h
      · exact Or.inr (Or.inl h)
      · by_cases e2 : t ≤ -1
        · exact Or.inr (Or.inr e2)
        · omega
theorem frs_first {p : Int → Bool} : ∀ (m : Nat) (t x : Int), t ≤ x → x < t + m → p x = true → frs p m t ≤ x
  | 0, t, x, h1, h2, _ => absurd h1 (by omega)
  | m + 1, t, x, h1, h2, h3 => by
    rw [frs_s]
    by_cases e : p t = true
    · rw [if_pos e]; exact h1
    · rw [if_neg e]
      have : x ≠ t := fun hx => e (by rw [← hx]; exact h3)
      exact frs_first m (t + 1) x (by omega) (by omega) h3
/-- more light lights more -/
theorem lt1_mono {mb mc w : Int} {f g : Int → Int} (hf : OK mb f) (hg : OK mc g) (w0 : 0 ≤ w) (w1 : w < f 2) (w2 : w < g 2) (hq : g (4 + 6 * w + 3) = f (4 + 6 * w + 3)) (hc : ∀ k t : Int, can g w k t = true → can f w k t = true) : ∀ k : Nat, lt1 g w k ≠ -1 → lt1 f w k ≠ -1 ∧ lt1 f w k ≤ lt1 g w k
  | 0, h => by
    obtain ⟨-, -, -, ⟨q0, q1⟩, -⟩ := hf.2.2.2.2.1 w w0 w1
    have h2 : fl g w 0 (g (4 + 6 * w + 3)) ≠ -1 := h
    show fl f w 0 (f (4 + 6 * w + 3)) ≠ -1 ∧ fl f w 0 (f (4 + 6 * w + 3)) ≤ fl g w 0 (g (4 + 6 * w + 3))
    rw [hq] at h2 ⊢
    unfold fl at h2 ⊢
    rcases frs_rng (can g w 0) (200 - f (4 + 6 * w + 3)).toNat (f (4 + 6 * w + 3)) with a | ⟨a1, a2, a3⟩
    · exact absurd a h2
    · have b1 := frs_le (p := can f w 0) _ _ _ a1 a2 (hc _ _ a3)
      have b2 := frs_first (p := can f w 0) _ _ _ a1 a2 (hc _ _ a3)
      exact ⟨by omega, b2⟩
  | k + 1, h => by
    have hL : lt1 g w (k + 1) = if lt1 g w k = -1 then -1 else fl g w ((k : Int) + 1) (lt1 g w k) := rfl
    have hM : lt1 f w (k + 1) = if lt1 f w k = -1 then -1 else fl f w ((k : Int) + 1) (lt1 f w k) := rfl
    obtain ⟨-, -, -, ⟨q0, q1⟩, -⟩ := hf.2.2.2.2.1 w w0 w1
    by_cases e : lt1 g w k = -1
    · rw [hL, if_pos e] at h; exact absurd rfl h
    · obtain ⟨c1, c2⟩ := lt1_mono hf hg w0 w1 w2 hq hc k e
      rw [hL, if_neg e] at h ⊢
      rw [hM, if_neg c1]
      have rg := lt1_rng hg w0 w2 k
      have rf := lt1_rng hf w0 w1 k
      unfold fl at h ⊢
      rcases frs_rng (can g w ((k : Int) + 1)) (200 - lt1 g w k).toNat (lt1 g w k) with a | ⟨a1, a2, a3⟩
      · exact absurd a h
      · have b1 := frs_le (p := can f w ((k : Int) + 1)) (200 - lt1 f w k).toNat (lt1 f w k) _ (by omega) (by omega) (hc _ _ a3)
        have b2 := frs_first (p := can f w ((k : Int) + 1)) (200 - lt1 f w k).toNat (lt1 f w k) _ (by omega) (by omega) (hc _ _ a3)
        exact ⟨by omega, b2⟩
theorem latN_mono {w k : Int} {f g : Int → Int} (hc : ∀ k t : Int, can g w k t = true → can f w k t = true) : ∀ n : Nat, latN g w k n ≤ latN f w k n
  | 0 => Int.le_refl _
  | n + 1 => by
    have ih := latN_mono (k := k) hc n
    have r := latN_rng g w k n
    rw [latN_s, latN_s]
    by_cases e : can g w k n = true
    · rw [if_pos e, if_pos (hc _ _ e)]; omega
    · rw [if_neg e]
      split
      · omega
      · exact ih
theorem alN_mono {w : Int} {t : Nat} {f g : Int → Int} (h1 : g 1 = f 1) (hc : ∀ k t : Int, can g w k t = true → can f w k t = true) : ∀ n : Nat, alN g w t n = true → alN f w t n = true
  | 0, _ => rfl
  | n + 1, h => by
    have h2 : (alN g w t n && (decide (latN g w n (t + 1) ≠ -1) && decide ((t : Int) - g 1 ≤ latN g w n (t + 1)))) = true := h
    show (alN f w t n && (decide (latN f w n (t + 1) ≠ -1) && decide ((t : Int) - f 1 ≤ latN f w n (t + 1)))) = true
    rw [Bool.and_eq_true, Bool.and_eq_true, decide_eq_true_iff, decide_eq_true_iff] at h2 ⊢
    have m := latN_mono (w := w) (k := n) hc (t + 1)
    have r := latN_rng g w n (t + 1)
    exact ⟨alN_mono h1 hc n h2.1, by omega, by omega⟩
theorem lit_mono {mb mc w : Int} {f g : Int → Int} (hf : OK mb f) (hg : OK mc g) (w0 : 0 ≤ w) (w1 : w < f 2) (w2 : w < g 2) (h1 : g 1 = f 1) (hw : ∀ i : Int, 0 ≤ i → i < 6 → g (4 + 6 * w + i) = f (4 + 6 * w + i)) (hc : ∀ k t : Int, can g w k t = true → can f w k t = true) {k : Int} (h : litS g w k ≠ -1) : litS f w k ≠ -1 := by
  obtain ⟨⟨l0, l1⟩, -, -, ⟨q0, q1⟩, -⟩ := hf.2.2.2.2.1 w w0 w1
  unfold litS at h ⊢
  rw [hw 4 (by omega) (by omega)] at h
  by_cases e : f (4 + 6 * w + 4) = 2
  · rw [if_pos e] at h ⊢
    unfold tog at h ⊢
    rw [hw 3 (by omega) (by omega), hw 0 (by omega) (by omega)] at h
    rcases frs_rng (fun t => alN g w t.toNat (f (4 + 6 * w + 0)).toNat) (200 - f (4 + 6 * w + 3)).toNat (f (4 + 6 * w + 3)) with a | ⟨a1, a2, a3⟩
    · exact absurd a h
    · have b1 := frs_le (p := fun t => alN f w t.toNat (f (4 + 6 * w + 0)).toNat) _ _ _ a1 a2 (alN_mono h1 hc _ a3)
      omega
  · rw [if_neg e] at h ⊢
    by_cases e2 : f (4 + 6 * w + 4) = 1
    · rw [if_pos e2] at h ⊢
      exact (lt1_mono hf hg w0 w1 w2 (hw 3 (by omega) (by omega)) hc _ h).1
    · rw [if_neg e2] at h ⊢
      rw [hw 3 (by omega) (by omega)] at h
      unfold fl at h ⊢
      rcases frs_rng (can g w k) (200 - f (4 + 6 * w + 3)).toNat (f (4 + 6 * w + 3)) with a | ⟨a1, a2, a3⟩
      · exact absurd a h
      · have b1 := frs_le (p := can f w k) _ _ _ a1 a2 (hc _ _ a3)
        omega
theorem ul_word {f : Int → Int} {b w i : Int} (n2 : f 2 ≤ 8) (b0 : 0 ≤ b) (w0 : 0 ≤ w) (w1 : w < f 2) (i0 : 0 ≤ i) (i1 : i < 6) : ulF f b (4 + 6 * w + i) = f (4 + 6 * w + i) := by
  unfold ulF; rw [if_neg (by omega), if_neg (by omega)]
theorem ul_low {f : Int → Int} {b j : Int} (b0 : 0 ≤ b) (j3 : j ≠ 3) (j1 : j < 52) : ulF f b j = f j := by
  unfold ulF; rw [if_neg j3, if_neg (by omega)]
theorem ul_can {f : Int → Int} {b w k t : Int} (n2 : f 2 ≤ 8) (b0 : 0 ≤ b) (b1 : b < f 3) (w0 : 0 ≤ w) (w1 : w < f 2) (h : can (ulF f b) w k t = true) : can f w k t = true := by
  unfold can canN at h ⊢
  rw [Bool.and_eq_true] at h ⊢
  rw [ul_word n2 b0 w0 w1 (by omega) (by omega), ul_word n2 b0 w0 w1 (by omega) (by omega), ul_word n2 b0 w0 w1 (by omega) (by omega), ← lbs_ul _ _ _ b0 b1] at h
  refine ⟨h.1, ?_⟩
  rw [← lbs_all, lbs_iff]
  obtain ⟨i, i0, i1, -, i3, i4⟩ := (lbs_iff _ _ _ _ _ _).mp h.2
  exact ⟨i, i0, i1, by omega, i3, i4⟩
theorem s_X3_lettersLost {mb : Int} {c f g li wh en l2 wh2 en2 : Int → Int} {Q : Int32 → Prop} (hA : AW c f) (hf : OK mb f) (hl : LC f (f 2) li wh en) (hl2 : LC g (g 2) l2 wh2 en2) (hg2 : g 2 = f 2) (hgw : ∀ w : Int, 0 ≤ w → w < f 2 → g (4 + 6 * w + 0) = f (4 + 6 * w + 0)) (hm : ∀ w k : Int, 0 ≤ w → w < f 2 → litS g w k ≠ -1 → litS f w k ≠ -1) (hr2 : ∀ w k : Int, 0 ≤ w → w < f 2 → -1 ≤ litS g w k ∧ litS g w k < 200) (h : Q (iI (alS f - alS g))) : P_X3_lettersLost (aI c) (aI li) (aI l2) Q := by
  have n2 := hf.2.2.1
  have lp : ∀ (m b : Nat), (b : Int) + m = f 2 → P_X3_lettersLost_L4 (aI c) (aI li) (aI l2) Q (m + 1) (iI (sm (loS f) b - sm (loS g) b)) (iI b) := by
    intro m
    induction m with
    | zero =>
      intro b hb
      rw [P_X3_lettersLost_L4_s]
      unfold B_X3_lettersLost_L4
      refine s_AW_words hA ?_
      simp (disch := omega) only [iI_le]
      refine ⟨fun _ => ?_, fun hx => absurd (by omega) hx⟩
      unfold alS at h
      rw [hg2, show (f 2).toNat = b by omega] at h
      exact h
    | succ m ih =>
      intro b hb
      have ih1 := ih (b + 1) (by omega)
      rw [nsucc, sm_s, sm_s] at ih1
      obtain ⟨⟨q0, q1⟩, -, -, ⟨p0, p1⟩, -⟩ := hf.2.2.2.2.1 b (by omega) (by omega)
      have lq : ∀ (j k : Nat), (k : Int) + j = f (4 + 6 * (b : Int) + 0) → P_X3_lettersLost_L17 (iI b) (aI c) (aI li) (aI l2) (fun (x1_5 : Int32) => P_X3_lettersLost_L4 (aI c) (aI li) (aI l2) Q (m + 1) x1_5 (iI ((b : Int) + 1))) (j + 1) (iI (sm (loS f) b - sm (loS g) b + (sm (fun k => bi (decide (litS f b k ≠ -1))) k - sm (fun k => bi (decide (litS g b k ≠ -1))) k))) (iI k) := by
        intro j
        induction j with
        | zero =>
          intro k hk
          rw [P_X3_lettersLost_L17_s]
          unfold B_X3_lettersLost_L17
          simp only [i_m9, i_m1, i_0, i_1, i_2, i_3, i_4, i_5, i_6, i_7, i_8, i_9, i_10, i_11, i_12, i_13, i_14, i_15, i_16, i_17, i_18, i_19, i_20, i_21, i_22, i_23, i_24, i_25, i_26, i_27, i_28, i_29, i_30, i_31, i_32, i_33, i_34, i_35, i_36, i_37, i_38, i_39, i_40, i_41, i_42, i_43, i_44, i_45, i_46, i_47, i_48, i_49, i_50, i_51, i_52, i_53, i_54, i_55, i_56, i_57, i_58, i_59, i_60, i_61, i_62, i_63, i_64, i_65, i_66, i_67, i_68, i_69, i_70, i_72, i_77, i_78, i_80, i_81, i_82, i_83, i_84, i_87, i_88, i_96, i_98, i_100, i_101, i_103, i_118, i_119, i_126, i_133, i_137, i_144, i_154, i_158, i_160, i_190, i_199, i_200, i_207, i_209, i_213, i_229, i_252, i_254, i_255, i_260, i_282, i_303, i_304, i_321, i_348, i_435, i_492, i_522, i_1000, i_1023, i_1600, i_2903, iI_neg]
          refine s_AW_ofWord hA (by omega) (by omega) (by omega) (by omega) (by omega) (by omega) ?_
          simp (disch := omega) only [iI_le]
          refine ⟨fun _ => ?_, fun hx => absurd (by omega) hx⟩
          have e1 : loS f b = sm (fun k => bi (decide (litS f b k ≠ -1))) k := by unfold loS; rw [show (f (4 + 6 * (b : Int) + 0)).toNat = k by omega]
          have e2 : loS g b = sm (fun k => bi (decide (litS g b k ≠ -1))) k := by unfold loS; rw [hgw b (by omega) (by omega), show (f (4 + 6 * (b : Int) + 0)).toNat = k by omega]
          rw [e1, e2] at ih1
          have e3 : ∀ x y u v : Int, x - y + (u - v) = x + u - (y + v) := fun x y u v => by omega
          rw [e3]
          exact ih1
        | succ j ihj =>
          intro k hk
          have ihj1 := ihj (k + 1) (by omega)
          simp only [nsucc, sm_s] at ihj1
          have rf := litS_rng hf (w := b) (by omega) (by omega) k
          have rg := hr2 b k (by omega) (by omega)
          rw [P_X3_lettersLost_L17_s]
          unfold B_X3_lettersLost_L17 P_X3_lettersLost_J59
          simp only [i_m9, i_m1, i_0, i_1, i_2, i_3, i_4, i_5, i_6, i_7, i_8, i_9, i_10, i_11, i_12, i_13, i_14, i_15, i_16, i_17, i_18, i_19, i_20, i_21, i_22, i_23, i_24, i_25, i_26, i_27, i_28, i_29, i_30, i_31, i_32, i_33, i_34, i_35, i_36, i_37, i_38, i_39, i_40, i_41, i_42, i_43, i_44, i_45, i_46, i_47, i_48, i_49, i_50, i_51, i_52, i_53, i_54, i_55, i_56, i_57, i_58, i_59, i_60, i_61, i_62, i_63, i_64, i_65, i_66, i_67, i_68, i_69, i_70, i_72, i_77, i_78, i_80, i_81, i_82, i_83, i_84, i_87, i_88, i_96, i_98, i_100, i_101, i_103, i_118, i_119, i_126, i_133, i_137, i_144, i_154, i_158, i_160, i_190, i_199, i_200, i_207, i_209, i_213, i_229, i_252, i_254, i_255, i_260, i_282, i_303, i_304, i_321, i_348, i_435, i_492, i_522, i_1000, i_1023, i_1600, i_2903, iI_neg]
          refine s_AW_ofWord hA (by omega) (by omega) (by omega) (by omega) (by omega) (by omega) ?_
          simp (disch := omega) only [iI_le, iI_add]
          refine ⟨fun hx => absurd hx (by omega), fun _ => litBeat_at (by omega) (by omega) (by omega) (by omega) ?_⟩
          rw [(hl b (by omega) (by omega)).1 k (by omega) (by omega), iI_eq (by omega) (by omega) (by omega) (by omega)]
          refine ⟨fun e => ?_, fun e => litBeat_at (by omega) (by omega) (by omega) (by omega) ?_⟩
          · have e2 : ¬ litS g b k ≠ -1 := fun hx => hm b k (by omega) (by omega) hx e
            rw [decide_eq_false (fun hx => hx e), decide_eq_false e2, bi_false, Int.add_zero, Int.add_zero] at ihj1
            exact ihj1
          · rw [(hl2 b (by omega) (by omega)).1 k (by omega) (by rw [hgw b (by omega) (by omega)]; omega), iI_eq (by omega) (by omega) (by omega) (by omega)]
            refine ⟨fun e2 => ?_, fun e2 => ?_⟩
            · rw [decide_eq_true e, decide_eq_true e2, bi_true] at ihj1
              have e3 : ∀ x u v : Int, x + (u + 1 - (v + 1)) = x + (u - v) := fun x u v => by omega
              rw [e3] at ihj1
              exact ihj1
            · rw [decide_eq_true e, decide_eq_false (fun hx => hx e2), bi_true, bi_false, Int.add_zero] at ihj1
              have e3 : ∀ x u v : Int, x + (u + 1 - v) = x + (u - v) + 1 := fun x u v => by omega
              rw [e3] at ihj1
              exact ihj1
      rw [P_X3_lettersLost_L4_s]
      unfold B_X3_lettersLost_L4
      refine s_AW_words hA ?_
      simp (disch := omega) only [iI_le, iI_add, i_m9, i_m1, i_0, i_1, i_2, i_3, i_4, i_5, i_6, i_7, i_8, i_9, i_10, i_11, i_12, i_13, i_14, i_15, i_16, i_17, i_18, i_19, i_20, i_21, i_22, i_23, i_24, i_25, i_26, i_27, i_28, i_29, i_30, i_31, i_32, i_33, i_34, i_35, i_36, i_37, i_38, i_39, i_40, i_41, i_42, i_43, i_44, i_45, i_46, i_47, i_48, i_49, i_50, i_51, i_52, i_53, i_54, i_55, i_56, i_57, i_58, i_59, i_60, i_61, i_62, i_63, i_64, i_65, i_66, i_67, i_68, i_69, i_70, i_72, i_77, i_78, i_80, i_81, i_82, i_83, i_84, i_87, i_88, i_96, i_98, i_100, i_101, i_103, i_118, i_119, i_126, i_133, i_137, i_144, i_154, i_158, i_160, i_190, i_199, i_200, i_207, i_209, i_213, i_229, i_252, i_254, i_255, i_260, i_282, i_303, i_304, i_321, i_348, i_435, i_492, i_522, i_1000, i_1023, i_1600, i_2903, iI_neg]
      refine ⟨fun hx => absurd hx (by omega), fun _ => ⟨(f (4 + 6 * (b : Int) + 0)).toNat + 1, ?_⟩⟩
      have := lq (f (4 + 6 * (b : Int) + 0)).toNat 0 (by omega)
      rw [show ∀ x : Int, x + (sm (fun k => bi (decide (litS f b k ≠ -1))) 0 - sm (fun k => bi (decide (litS g b k ≠ -1))) 0) = x from fun x => by show x + ((0 : Int) - 0) = x; omega] at this
      exact this
  unfold P_X3_lettersLost
  rw [i_0]
  exact ⟨_, lp (f 2).toNat 0 (by omega)⟩
theorem s_X3_beamOf {b i : Int} {f c li wh en : Int → Int} {L0 : Nat → Int64} {l0 w0 e0 re0 la0 : Nat → Int32} {Q : Int32 → (Nat → Int64) → (Nat → Int32) → (Nat → Int32) → (Nat → Int32) → (Nat → Int32) → (Nat → Int32) → Prop} {E : Nat → Prop} (hA : Ag c f) (hf : OK 6 f) (hl : LC f (f 2) li wh en) (hb : I32 b) (hi : I32 i) (h1 : tX (f 3) b i 6 = 0 → ∀ tl a1 a2 a3 a4 a5, Q (iI (boS f b i)) tl a1 a2 a3 a4 a5) (h2 : tX (f 3) b i 6 = 1 → E 3) (h3 : tX (f 3) b i 6 = 2 → E 1) : P_X3_beamOf (iI b) (iI i) (aI c) (aI li) L0 l0 w0 e0 re0 la0 Q E := by
  have n2 := hf.2.2.1
  have n3 := hf.2.2.2.1
  unfold P_X3_beamOf
  simp only [i_m9, i_m1, i_0, i_1, i_2, i_3, i_4, i_5, i_6, i_7, i_8, i_9, i_10, i_11, i_12, i_13, i_14, i_15, i_16, i_17, i_18, i_19, i_20, i_21, i_22, i_23, i_24, i_25, i_26, i_27, i_28, i_29, i_30, i_31, i_32, i_33, i_34, i_35, i_36, i_37, i_38, i_39, i_40, i_41, i_42, i_43, i_44, i_45, i_46, i_47, i_48, i_49, i_50, i_51, i_52, i_53, i_54, i_55, i_56, i_57, i_58, i_59, i_60, i_61, i_62, i_63, i_64, i_65, i_66, i_67, i_68, i_69, i_70, i_72, i_77, i_78, i_80, i_81, i_82, i_83, i_84, i_87, i_88, i_96, i_98, i_100, i_101, i_103, i_118, i_119, i_126, i_133, i_137, i_144, i_154, i_158, i_160, i_190, i_199, i_200, i_207, i_209, i_213, i_229, i_252, i_254, i_255, i_260, i_282, i_303, i_304, i_321, i_348, i_435, i_492, i_522, i_1000, i_1023, i_1600, i_2903, iI_neg]
  refine s_X0_hasBeam hA hb n3 (fun g => ⟨fun hx => absurd rfl hx, fun _ => h2 (by unfold tX; rw [if_neg g])⟩) (fun g => ⟨fun _ => ?_, fun hx => absurd hx (by decide)⟩)
  refine s_X3_within hi lit32 lit32 (br_b' (fun g1 => ?_) (fun g1 => ?_))
  · rw [inn_f] at g1
    exact h3 (by unfold tX; rw [if_pos g, if_neg (by omega)])
  rw [inn_iff] at g1
  have h := h1 (by unfold tX; rw [if_pos g, if_pos g1])
  unfold boS at h
  simp (disch := omega) only [iI_eq]
  refine ⟨fun e => s_X0_ofBeam hA n3.2 g.1 g.2 (by omega) (by omega) ?_, fun e => s_X3_coveringBeats hA hf g.1 g.2 ?_, fun e => ?_, fun e2 e5 e6 => s_X0_ofBeam hA n3.2 g.1 g.2 g1.1 (by omega) ?_⟩
  · rw [if_pos (by omega), if_pos e] at h
    rw [iI_add]; subst e; exact h _ _ _ _ _ _
  · rw [if_neg (by omega), if_pos e] at h; exact h _ _ _ _ _ _
  · rw [if_neg (by omega), if_neg (by omega)] at h
    refine s_X2_shineAllBut hA hf (by omega) (fun L hL => ?_)
    have hg := ulF_OK hf (b := b) (by omega) g.1 g.2
    have e2 : ulF f b 2 = f 2 := ul_low g.1 (by omega) (by omega)
    have hAW : AW c (ulF f b) := by
      have hA2 := Ag_AW hA
      refine ⟨⟨?_, ?_, ?_⟩, fun w j w0 w1 j0 j1 j3 => ?_⟩
      · rw [ul_low g.1 (by omega) (by omega)]; exact hA2.1.1
      · rw [ul_low g.1 (by omega) (by omega)]; exact hA2.1.2.1
      · rw [e2]; exact hA2.1.2.2
      · rw [e2] at w1
        rw [ul_word n2.2 g.1 w0 w1 j0 j1]; exact hA2.2 w j w0 w1 j0 j1 j3
    have hLS : LTS (ulF f b) L := fun r t o q1 q2 q3 => (hL r t o q1 q2 q3).trans (lbs_ul _ _ _ g.1 g.2)
    refine s_X2_settleAll hAW hg (fun w w0 w1 => ?_) hLS (fun l2 wh2 en2 re la hl2 => ?_)
    · rw [e2] at w1
      rw [ul_word n2.2 g.1 w0 w1 (by omega) (by omega)]; exact Ag_cue hA w w0 w1
    refine s_X3_lettersLost (Ag_AW hA) hf hl hl2 e2 (fun w w0 w1 => ul_word n2.2 g.1 w0 w1 (by omega) (by omega)) (fun w k w0 w1 hx => lit_mono hf hg w0 w1 (by omega) (ul_low g.1 (by omega) (by omega)) (fun i i0 i1 => ul_word n2.2 g.1 w0 w1 i0 i1) (fun k t ht => ul_can n2.2 g.1 g.2 w0 w1 ht) hx) (fun w k w0 w1 => ?_) (h _ _ _ _ _ _)
    have r := litS_rng hg w0 (by omega) k
    obtain ⟨-, -, -, ⟨p0, p1⟩, -⟩ := hg.2.2.2.2.1 w w0 (by omega)
    omega
  · rw [if_pos (by omega), if_neg e2, Int.add_zero] at h; exact h _ _ _ _ _ _
