/-! the law's words, a word and all of them -/
theorem wh_nn {w : Int} {f : Int → Int} (hf : OK 6 f) (w0 : 0 ≤ w) (w1 : w < f 2) (h : loS f w = f (4 + 6 * w + 0)) : 0 ≤ moN f w (f (4 + 6 * w + 0)).toNat ∧ wlS f w = moN f w (f (4 + 6 * w + 0)).toNat := by
  obtain ⟨⟨l0, l1⟩, -, -, ⟨q0, q1⟩, -⟩ := hf.2.2.2.2.1 w w0 w1
  have e := wl_at hf w0 w1
  rw [if_pos h] at e
  have h2 := (lo_ev f w (f (4 + 6 * w + 0)).toNat).mp (by rw [show (((f (4 + 6 * w + 0)).toNat : Nat) : Int) = f (4 + 6 * w + 0) by omega]; exact h)
  have e2 : wlS f w = lsN f w (f (4 + 6 * w + 0)).toNat := if_pos h2
  have hl := lsN_rng hf w0 w1 (f (4 + 6 * w + 0)).toNat
  exact ⟨by omega, e⟩
theorem w_458 {f : Int → Int} {rec28 : Int32 → Int32 → Int32 → Int32 → Int32 → Int32 → Prop} (hf : OK 6 f) (b : Nat) (b1 : (b : Int) < f 2) {fl : Int} (hfl : fl = if loS f b = f (4 + 6 * (b : Int) + 0) then 1 else 0)
    (h : rec28 (iI (sm (loS f) (b + 1))) (iI (sm (fun w => f (4 + 6 * w + 0)) (b + 1))) (iI (sm (fun w => bi (decide (wlS f w ≠ -1))) (b + 1))) (iI (lwN f (b + 1))) (iI 1) (iI ((b : Int) + 1))) : P_L_words_J458 rec28 (iI (sm (loS f) b)) (iI (sm (fun w => f (4 + 6 * w + 0)) b)) (iI (sm (fun w => bi (decide (wlS f w ≠ -1))) b)) (iI (lwN f b)) (iI b) (iI (f (4 + 6 * (b : Int) + 0))) (iI (moN f b (f (4 + 6 * (b : Int) + 0)).toNat)) (iI (loS f b)) (iI fl) (iI 1) := by
  have n2 := hf.2.2.1
  have hwn := wh_nn hf (w := b) (by omega) b1
  have hwl := wl_at hf (w := b) (by omega) b1
  have hmo := moN_rng hf (w := b) (by omega) b1 (f (4 + 6 * (b : Int) + 0)).toNat
  have hlw := lwN_rng hf b (by omega)
  have hbs := bsm_rng (fun w => decide (wlS f w ≠ -1)) b
  have leaf : ∀ C D : Int, C = sm (fun w => bi (decide (wlS f w ≠ -1))) (b + 1) → D = lwN f (b + 1) → rec28 (iI (sm (loS f) b + loS f b)) (iI (sm (fun w => f (4 + 6 * w + 0)) b + f (4 + 6 * (b : Int) + 0))) (iI C) (iI D) (iI 1) (iI ((b : Int) + 1)) := by
    rintro _ _ rfl rfl
    exact h
  have sme : sm (fun w => bi (decide (wlS f w ≠ -1))) (b + 1) = sm (fun w => bi (decide (wlS f w ≠ -1))) b + fl := by
    rw [sm_s]
    show _ + bi (decide (wlS f b ≠ -1)) = _
    by_cases e : loS f b = f (4 + 6 * (b : Int) + 0)
    · rw [if_pos e] at hfl
      rw [decide_eq_true (show wlS f b ≠ -1 by have := hwn e; omega), hfl]; rfl
    · rw [if_neg e] at hfl hwl
      rw [decide_eq_false (show ¬ wlS f b ≠ -1 by omega), hfl]; rfl
  unfold P_L_words_J458 P_L_words_J481 P_L_words_J500 P_L_words_J502
  by_cases e : loS f b = f (4 + 6 * (b : Int) + 0)
  · rw [if_pos e] at hfl hwl
    have hw2 := hwn e
    subst hfl
    simp (disch := omega) only [iI_eq, iI_le, iI_add, i_m9, i_m1, i_0, i_1, i_2, i_3, i_4, i_5, i_6, i_7, i_8, i_9, i_10, i_11, i_12, i_13, i_14, i_15, i_16, i_17, i_18, i_19, i_20, i_21, i_22, i_23, i_24, i_25, i_26, i_27, i_28, i_29, i_30, i_31, i_32, i_33, i_34, i_35, i_36, i_37, i_38, i_39, i_40, i_41, i_42, i_43, i_44, i_45, i_46, i_47, i_48, i_49, i_50, i_51, i_52, i_53, i_54, i_55, i_56, i_57, i_58, i_59, i_60, i_61, i_62, i_63, i_64, i_65, i_66, i_67, i_68, i_69, i_70, i_72, i_77, i_78, i_80, i_81, i_82, i_83, i_84, i_87, i_88, i_96, i_98, i_100, i_101, i_103, i_118, i_119, i_126, i_133, i_137, i_144, i_154, i_158, i_160, i_190, i_199, i_200, i_207, i_209, i_213, i_229, i_252, i_254, i_255, i_260, i_282, i_303, i_304, i_321, i_348, i_435, i_492, i_522, i_1000, i_1023, i_1600, i_2903, iI_neg]
    refine ⟨fun hx => absurd hx (by omega), fun _ => ⟨fun hx => absurd hx (by omega), fun _ => ⟨fun e2 => ?_, fun e2 => ?_⟩⟩⟩
    · exact leaf _ _ (by rw [sme]) (by rw [lwN_s, hwl, if_pos e2])
    · exact leaf _ _ (by rw [sme]) (by rw [lwN_s, hwl, if_neg e2])
  · rw [if_neg e] at hfl hwl
    subst hfl
    simp (disch := omega) only [iI_eq, iI_le, iI_add, i_m9, i_m1, i_0, i_1, i_2, i_3, i_4, i_5, i_6, i_7, i_8, i_9, i_10, i_11, i_12, i_13, i_14, i_15, i_16, i_17, i_18, i_19, i_20, i_21, i_22, i_23, i_24, i_25, i_26, i_27, i_28, i_29, i_30, i_31, i_32, i_33, i_34, i_35, i_36, i_37, i_38, i_39, i_40, i_41, i_42, i_43, i_44, i_45, i_46, i_47, i_48, i_49, i_50, i_51, i_52, i_53, i_54, i_55, i_56, i_57, i_58, i_59, i_60, i_61, i_62, i_63, i_64, i_65, i_66, i_67, i_68, i_69, i_70, i_72, i_77, i_78, i_80, i_81, i_82, i_83, i_84, i_87, i_88, i_96, i_98, i_100, i_101, i_103, i_118, i_119, i_126, i_133, i_137, i_144, i_154, i_158, i_160, i_190, i_199, i_200, i_207, i_209, i_213, i_229, i_252, i_254, i_255, i_260, i_282, i_303, i_304, i_321, i_348, i_435, i_492, i_522, i_1000, i_1023, i_1600, i_2903, iI_neg]
    refine ⟨fun _ => ⟨fun _ => ?_, fun hx => (hx (by first | rfl | trivial)).elim⟩, fun hx => (hx (by first | rfl | trivial)).elim⟩
    exact leaf _ _ (by rw [sme]) (by rw [lwN_s, hwl, if_pos hlw.1])
theorem w_403 {f c li wh en cs : Int → Int} {L : Nat → Int64} {rec28 : Int32 → Int32 → Int32 → Int32 → Int32 → Int32 → Prop} {x1 x2 x3 x4 x8 x13 : Int32} (hv : CV f c L li wh en cs) (hf : OK 6 f) (b : Int) (b0 : 0 ≤ b) (b1 : b < f 2) {fl : Int} (hfl : fl = if loS f b = f (4 + 6 * b + 0) then 1 else 0)
    (h : P_L_words_J453 rec28 x1 x2 x3 x4 (iI b) x8 (iI (moN f b (f (4 + 6 * b + 0)).toNat)) x13 (iI fl)) : P_L_words_J403 (aI c) (aI li) (aI wh) (aI en) (aI cs) rec28 x1 x2 x3 x4 (iI b) x8 (iI (moN f b (f (4 + 6 * b + 0)).toNat)) x13 (iI fl) := by
  have n2 := hf.2.2.1
  have hmo := moN_rng hf b0 b1 (f (4 + 6 * b + 0)).toNat
  have hO := hf.2.2.2.2.1 b b0 b1
  unfold OKw at hO
  have hfr : 0 ≤ fl ∧ fl ≤ 1 := by rw [hfl]; split <;> omega
  unfold P_L_words_J403 P_L_words_J408
  simp (disch := omega) only [iI_eq, i_m9, i_m1, i_0, i_1, i_2, i_3, i_4, i_5, i_6, i_7, i_8, i_9, i_10, i_11, i_12, i_13, i_14, i_15, i_16, i_17, i_18, i_19, i_20, i_21, i_22, i_23, i_24, i_25, i_26, i_27, i_28, i_29, i_30, i_31, i_32, i_33, i_34, i_35, i_36, i_37, i_38, i_39, i_40, i_41, i_42, i_43, i_44, i_45, i_46, i_47, i_48, i_49, i_50, i_51, i_52, i_53, i_54, i_55, i_56, i_57, i_58, i_59, i_60, i_61, i_62, i_63, i_64, i_65, i_66, i_67, i_68, i_69, i_70, i_72, i_77, i_78, i_80, i_81, i_82, i_83, i_84, i_87, i_88, i_96, i_98, i_100, i_101, i_103, i_118, i_119, i_126, i_133, i_137, i_144, i_154, i_158, i_160, i_190, i_199, i_200, i_207, i_209, i_213, i_229, i_252, i_254, i_255, i_260, i_282, i_303, i_304, i_321, i_348, i_435, i_492, i_522, i_1000, i_1023, i_1600, i_2903, iI_neg]
  refine ⟨fun hx => absurd hx (by omega), fun _ => ⟨fun _ => h, fun e => ?_⟩⟩
  have e1 : loS f b = f (4 + 6 * b + 0) := by
    by_cases e2 : loS f b = f (4 + 6 * b + 0)
    · exact e2
    · rw [if_neg e2] at hfl; exact absurd hfl e
  have hw := wh_nn hf b0 b1 e1
  have hs := wh_seen hf b0 b1 (by omega)
  rw [hw.2] at hs
  have hi2 : in2 f (moN f b (f (4 + 6 * b + 0)).toNat) ≤ 8 := by
    have := in21 f (moN f b (f (4 + 6 * b + 0)).toNat)
    have := in1_rng hf (moN f b (f (4 + 6 * b + 0)).toNat)
    omega
  refine be_at hv hf (by omega) (by omega) (by omega) (by omega) ?_
  rw [inS_2]
  simp (disch := omega) only [iI_le]
  refine ⟨fun hx => absurd hx (by omega), fun _ => wo_at hv hf b0 b1 (by omega) (by omega) (wo_at hv hf b0 b1 (by omega) (by omega) ?_)⟩
  rw [wo_1, wo_2]
  refine se_at hv hf (by omega) (by omega) (by omega) (by omega) ?_
  have hr := frs_rng (stB f (moN f b (f (4 + 6 * b + 0)).toNat) (f (4 + 6 * b + 1)) (f (4 + 6 * b + 2))) (f 2).toNat 0
  have hst : stS f (moN f b (f (4 + 6 * b + 0)).toNat) (f (4 + 6 * b + 1)) (f (4 + 6 * b + 2)) = frs (stB f (moN f b (f (4 + 6 * b + 0)).toNat) (f (4 + 6 * b + 1)) (f (4 + 6 * b + 2))) (f 2).toNat 0 := rfl
  simp (disch := omega) only [iI_lt]
  exact ⟨fun hx => absurd hx (by omega), fun _ => h⟩
theorem w_274 {f c li wh en cs : Int → Int} {L : Nat → Int64} {rec28 : Int32 → Int32 → Int32 → Int32 → Int32 → Int32 → Prop} {x1 x2 x3 x4 x8 : Int32} (hv : CV f c L li wh en cs) (hf : OK 6 f) (b : Int) (b0 : 0 ≤ b) (b1 : b < f 2) {fl : Int} (hfl : fl = if loS f b = f (4 + 6 * b + 0) then 1 else 0)
    (h : P_L_words_J453 rec28 x1 x2 x3 x4 (iI b) x8 (iI (moN f b (f (4 + 6 * b + 0)).toNat)) (iI (loS f b)) (iI fl)) : P_L_words_J274 (iI (f 0)) (aI c) (aI li) (aI wh) (aI en) (aI cs) rec28 x1 x2 x3 x4 (iI 1) (iI b) x8 (iI (fiN f b (f (4 + 6 * b + 0)).toNat)) (iI (moN f b (f (4 + 6 * b + 0)).toNat)) (iI (loS f b)) (iI (goS f b)) (iI fl) := by
  have n2 := hf.2.2.1
  have g0 := hf.1
  have hmo := moN_rng hf b0 b1 (f (4 + 6 * b + 0)).toNat
  have hO := hf.2.2.2.2.1 b b0 b1
  unfold OKw at hO
  have hgr := go_rng hf b0 b1
  have hwl := wl_at hf b0 b1
  have hwr := wl_rng hf b0 b1
  have hfr : 0 ≤ fl ∧ fl ≤ 1 := by rw [hfl]; split <;> omega
  have h403 := w_403 hv hf b b0 b1 hfl h
  have hlo := lo_rng hf b0 b1
  -- behind the beats: the number of letters, when it goes
  have h313 : ∀ v : Int, v = wlS f b → P_L_words_J313 (iI (f 0)) (aI c) (aI li) (aI wh) (aI en) (aI cs) rec28 x1 x2 x3 x4 (iI b) x8 (iI (moN f b (f (4 + 6 * b + 0)).toNat)) (iI (loS f b)) (iI (goS f b)) (iI fl) (iI v) (iI (wlS f b)) := by
    intro v hv2
    subst hv2
    unfold P_L_words_J313
    simp only [i_m9, i_m1, i_0, i_1, i_2, i_3, i_4, i_5, i_6, i_7, i_8, i_9, i_10, i_11, i_12, i_13, i_14, i_15, i_16, i_17, i_18, i_19, i_20, i_21, i_22, i_23, i_24, i_25, i_26, i_27, i_28, i_29, i_30, i_31, i_32, i_33, i_34, i_35, i_36, i_37, i_38, i_39, i_40, i_41, i_42, i_43, i_44, i_45, i_46, i_47, i_48, i_49, i_50, i_51, i_52, i_53, i_54, i_55, i_56, i_57, i_58, i_59, i_60, i_61, i_62, i_63, i_64, i_65, i_66, i_67, i_68, i_69, i_70, i_72, i_77, i_78, i_80, i_81, i_82, i_83, i_84, i_87, i_88, i_96, i_98, i_100, i_101, i_103, i_118, i_119, i_126, i_133, i_137, i_144, i_154, i_158, i_160, i_190, i_199, i_200, i_207, i_209, i_213, i_229, i_252, i_254, i_255, i_260, i_282, i_303, i_304, i_321, i_348, i_435, i_492, i_522, i_1000, i_1023, i_1600, i_2903, iI_neg]
    refine ⟨fun hx => (hx (by first | rfl | trivial)).elim, fun _ => wo_at hv hf b0 b1 (by omega) (by omega) ?_⟩
    rw [wo_9]
    refine ⟨fun hx => (hx (by first | rfl | trivial)).elim, fun _ => ?_⟩
    rw [iI_eq (by omega) (by omega) (by omega) (by omega)]
    refine ⟨fun _ => h403, fun e => ?_⟩
    obtain ⟨⟨c1, c2, c3⟩, c4, c5⟩ := go_chk hf b0 b1 e
    have e1 : loS f b = f (4 + 6 * b + 0) := by
      by_cases e2 : loS f b = f (4 + 6 * b + 0)
      · exact e2
      · rw [if_neg e2] at hwl; exact absurd hwl c1
    have hw := wh_nn hf b0 b1 e1
    rw [if_pos e1] at hfl
    rw [hw.2] at c2 c3 c5
    have hd0 : 0 ≤ goS f b / f 0 ∧ goS f b / f 0 * f 0 ≤ goS f b := by
      have := divb (x := goS f b) (s := f 0) (by omega) g0.1
      exact ⟨this.1, this.2.1⟩
    have hdq : 0 ≤ goS f b / f 0 * f 0 := Int.mul_nonneg hd0.1 (by omega)
    rw [iI_eq (a := fl) (by omega) (by omega) (by omega) (by omega)]
    refine ⟨fun hx => absurd hx (by omega), fun _ => ?_⟩
    rw [iI_le (by omega) (by omega) (by omega) (by omega)]
    refine ⟨fun hx => absurd hx (by omega), fun _ => wo_at hv hf b0 b1 (by omega) (by omega) ?_⟩
    rw [wo_5, iI_add, iI_lt (by omega) (by omega) (by omega) (by omega)]
    refine ⟨fun hx => absurd hx (by omega), fun _ => ⟨?_, ?_⟩⟩
    · rw [iI_eq (by omega) (by omega) (by omega) (by omega)]; omega
    have er : iI (goS f b) - iI (goS f b) / iI (f 0) * iI (f 0) = iI 0 := by
      rw [iI_div (by omega) (by omega) (by omega) (by omega), iI_mul, iI_sub, c4]
    rw [er]
    refine ⟨fun hx => (hx (by first | rfl | trivial)).elim, fun _ => wo_at hv hf b0 b1 (by omega) (by omega) ?_⟩
    rw [wo_5, iI_sub, iI_le (by omega) (by omega) (by omega) (by omega)]
    have h399 : ∀ d : Int, 0 ≤ d → d ≤ 50 → (goS f b - f 0 < moN f b (f (4 + 6 * b + 0)).toNat + d) → P_L_words_J399 (aI c) (aI li) (aI wh) (aI en) (aI cs) rec28 x1 x2 x3 x4 (iI b) x8 (iI (moN f b (f (4 + 6 * b + 0)).toNat)) (iI (loS f b)) (iI fl) (iI d) (iI (moN f b (f (4 + 6 * b + 0)).toNat)) (iI (goS f b - f 0)) := by
      intro d d0 d1 hd
      unfold P_L_words_J399
      rw [iI_add, iI_le (by omega) (by omega) (by omega) (by omega)]
      exact ⟨fun hx => absurd hx (by omega), fun _ => h403⟩
    refine ⟨fun e3 => ?_, fun e3 => wo_at hv hf b0 b1 (by omega) (by omega) ?_⟩
    · rw [if_neg (by omega)] at c5
      exact h399 1 (by omega) (by omega) c5
    · rw [if_pos (by omega)] at c5
      rw [wo_5]
      exact h399 _ (by omega) (by omega) c5
  unfold P_L_words_J274
  simp (disch := omega) only [iI_eq, i_m9, i_m1, i_0, i_1, i_2, i_3, i_4, i_5, i_6, i_7, i_8, i_9, i_10, i_11, i_12, i_13, i_14, i_15, i_16, i_17, i_18, i_19, i_20, i_21, i_22, i_23, i_24, i_25, i_26, i_27, i_28, i_29, i_30, i_31, i_32, i_33, i_34, i_35, i_36, i_37, i_38, i_39, i_40, i_41, i_42, i_43, i_44, i_45, i_46, i_47, i_48, i_49, i_50, i_51, i_52, i_53, i_54, i_55, i_56, i_57, i_58, i_59, i_60, i_61, i_62, i_63, i_64, i_65, i_66, i_67, i_68, i_69, i_70, i_72, i_77, i_78, i_80, i_81, i_82, i_83, i_84, i_87, i_88, i_96, i_98, i_100, i_101, i_103, i_118, i_119, i_126, i_133, i_137, i_144, i_154, i_158, i_160, i_190, i_199, i_200, i_207, i_209, i_213, i_229, i_252, i_254, i_255, i_260, i_282, i_303, i_304, i_321, i_348, i_435, i_492, i_522, i_1000, i_1023, i_1600, i_2903, iI_neg]
  refine ⟨fun hx => absurd hx (by omega), fun _ => wo_at hv hf b0 b1 (by omega) (by omega) ?_⟩
  rw [wo_6]
  refine ⟨fun hx => (hx (by first | rfl | trivial)).elim, fun _ => wo_at hv hf b0 b1 (by omega) (by omega) ?_⟩
  rw [wo_7]
  refine ⟨fun e => h313 _ ?_, fun e => h313 _ ?_⟩
  · rw [hwl, if_neg (fun hx => by rw [if_pos hx] at hfl; omega)]
  · rw [hwl, if_pos]
    by_cases e2 : loS f b = f (4 + 6 * b + 0)
    · exact e2
    · rw [if_neg e2] at hfl; exact absurd hfl e
theorem s_wl28 {k : Int} {f c li wh en cs : Int → Int} {L : Nat → Int64} {K : Int32 → Int32 → Int32 → Int32 → Int32 → Prop} (hv : CV f c L li wh en cs) (hf : OK 6 f) (hK : K (iI (alS f)) (iI (letS f)) (iI (whS f)) (iI (lwN f (f 2).toNat)) (iI 1)) : ∃ n, P_L_words_L28 (iI (f 0)) (aI c) (aI li) (aI wh) (aI en) (aI cs) (iI (paS f)) (iI k) K n (iI 0) (iI 0) (iI 0) (iI (-1)) (iI 1) (iI 0) := by
  have n2 := hf.2.2.1
  have lp : ∀ (m b : Nat), (b : Int) + m = f 2 → P_L_words_L28 (iI (f 0)) (aI c) (aI li) (aI wh) (aI en) (aI cs) (iI (paS f)) (iI k) K (m + 1) (iI (sm (loS f) b)) (iI (sm (fun w => f (4 + 6 * w + 0)) b)) (iI (sm (fun w => bi (decide (wlS f w ≠ -1))) b)) (iI (lwN f b)) (iI 1) (iI b) := by
    intro m
    induction m with
    | zero =>
      intro b hb
      rw [P_L_words_L28_s]
      unfold B_L_words_L28
      simp only [i_m9, i_m1, i_0, i_1, i_2, i_3, i_4, i_5, i_6, i_7, i_8, i_9, i_10, i_11, i_12, i_13, i_14, i_15, i_16, i_17, i_18, i_19, i_20, i_21, i_22, i_23, i_24, i_25, i_26, i_27, i_28, i_29, i_30, i_31, i_32, i_33, i_34, i_35, i_36, i_37, i_38, i_39, i_40, i_41, i_42, i_43, i_44, i_45, i_46, i_47, i_48, i_49, i_50, i_51, i_52, i_53, i_54, i_55, i_56, i_57, i_58, i_59, i_60, i_61, i_62, i_63, i_64, i_65, i_66, i_67, i_68, i_69, i_70, i_72, i_77, i_78, i_80, i_81, i_82, i_83, i_84, i_87, i_88, i_96, i_98, i_100, i_101, i_103, i_118, i_119, i_126, i_133, i_137, i_144, i_154, i_158, i_160, i_190, i_199, i_200, i_207, i_209, i_213, i_229, i_252, i_254, i_255, i_260, i_282, i_303, i_304, i_321, i_348, i_435, i_492, i_522, i_1000, i_1023, i_1600, i_2903, iI_neg]
      refine ct_at hv hf (by omega) (by omega) ?_
      rw [ctv_0, iI_le (by omega) (by omega) (by omega) (by omega)]
      refine ⟨fun _ => ?_, fun hx => absurd (by omega) hx⟩
      unfold alS letS whS at hK
      rw [show (f 2).toNat = b by omega] at hK
      exact hK
    | succ m ih =>
      intro b hb
      have ih1 := ih (b + 1) (by omega)
      rw [nsucc] at ih1
      have b0 : (0 : Int) ≤ b := by omega
      have b1 : (b : Int) < f 2 := by omega
      have hlo := lo_rng hf b0 b1
      have hO := hf.2.2.2.2.1 b b0 b1
      unfold OKw at hO
      rw [P_L_words_L28_s]
      unfold B_L_words_L28
      simp only [i_m9, i_m1, i_0, i_1, i_2, i_3, i_4, i_5, i_6, i_7, i_8, i_9, i_10, i_11, i_12, i_13, i_14, i_15, i_16, i_17, i_18, i_19, i_20, i_21, i_22, i_23, i_24, i_25, i_26, i_27, i_28, i_29, i_30, i_31, i_32, i_33, i_34, i_35, i_36, i_37, i_38, i_39, i_40, i_41, i_42, i_43, i_44, i_45, i_46, i_47, i_48, i_49, i_50, i_51, i_52, i_53, i_54, i_55, i_56, i_57, i_58, i_59, i_60, i_61, i_62, i_63, i_64, i_65, i_66, i_67, i_68, i_69, i_70, i_72, i_77, i_78, i_80, i_81, i_82, i_83, i_84, i_87, i_88, i_96, i_98, i_100, i_101, i_103, i_118, i_119, i_126, i_133, i_137, i_144, i_154, i_158, i_160, i_190, i_199, i_200, i_207, i_209, i_213, i_229, i_252, i_254, i_255, i_260, i_282, i_303, i_304, i_321, i_348, i_435, i_492, i_522, i_1000, i_1023, i_1600, i_2903, iI_neg]
      refine ct_at hv hf (by omega) (by omega) ?_
      rw [ctv_0, iI_le (by omega) (by omega) (by omega) (by omega), iI_eq (by omega) (by omega) (by omega) (by omega)]
      refine ⟨fun hx => absurd hx (by omega), fun _ => ⟨fun hx => absurd hx (by omega), fun _ => wo_at hv hf b0 b1 (by omega) (by omega) (wo_at hv hf b0 b1 (by omega) (by omega) (wo_at hv hf b0 b1 (by omega) (by omega) ?_))⟩⟩
      rw [wo_0, wo_4, wo_3]
      refine s_wl86 hv hf b0 b1 (wo_at hv hf b0 b1 (by omega) (by omega) ?_)
      rw [wo_8, iI_eq (by omega) (by omega) (by omega) (by omega)]
      refine ⟨fun e => ?_, fun e => ?_⟩
      · refine w_274 hv hf b b0 b1 (by rw [if_neg e]) ?_
        unfold P_L_words_J453
        rw [i_1]
        exact w_458 hf b b1 (by rw [if_neg e]) ih1
      · refine w_274 hv hf b b0 b1 (by rw [if_pos e]) ?_
        unfold P_L_words_J453
        rw [i_1]
        exact w_458 hf b b1 (by rw [if_pos e]) ih1
  exact ⟨_, lp (f 2).toNat 0 (by omega)⟩
