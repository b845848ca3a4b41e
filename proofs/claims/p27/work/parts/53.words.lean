/-! the law's words -/
theorem narI1 : narrow .boolean (.int (iI 1)) = .int (iI 1) := narZ (Or.inr rfl)
theorem tX_0 {n w i m : Int} (w0 : 0 ≤ w) (w1 : w < n) (i0 : 0 ≤ i) (i1 : i ≤ m) : tX n w i m = 0 := by
  unfold tX
  rw [if_pos ⟨w0, w1⟩, if_pos ⟨i0, i1⟩]
theorem wo_at {w i : Int} {f c li wh en cs : Int → Int} {L : Nat → Int64} {Q : Int32 → Prop} (hv : CV f c L li wh en cs) (hf : OK 6 f) (w0 : 0 ≤ w) (w1 : w < f 2) (i0 : 0 ≤ i) (i1 : i ≤ 9) (h : Q (iI (woS f w i))) : P_X3_wordOf (iI w) (iI i) (aI c) (aI li) (aI wh) (aI en) Q (fun _ => False) := by
  have n2 := hf.2.2.1
  have e := tX_0 w0 w1 i0 i1
  exact s_X3_wordOf hv.1 hf hv.2.2.1 lit32 lit32 (fun _ => h) (fun hx => by omega) (fun hx => by omega)
theorem la_at {w k : Int} {f c li wh en cs : Int → Int} {L : Nat → Int64} {Q : Int32 → Prop} (hv : CV f c L li wh en cs) (hf : OK 6 f) (w0 : 0 ≤ w) (w1 : w < f 2) (k0 : 0 ≤ k) (k1 : k < f (4 + 6 * w + 0)) (h : Q (iI (litS f w k))) : P_X3_litAt (iI w) (iI k) (aI c) (aI li) Q (fun _ => False) := by
  have n2 := hf.2.2.1
  obtain ⟨⟨l0, l1⟩, -⟩ := hf.2.2.2.2.1 w w0 w1
  have e : tL f w k = 0 := by unfold tL; rw [if_pos ⟨w0, w1, k0, k1⟩]
  exact s_X3_litAt hv.1 hf hv.2.2.1 lit32 lit32 (fun _ => h) (fun hx => by omega)
theorem be_at {t i : Int} {f c li wh en cs : Int → Int} {L : Nat → Int64} {Q : Int32 → Prop} (hv : CV f c L li wh en cs) (hf : OK 6 f) (t0 : 0 ≤ t) (t1 : t < 200) (i0 : 0 ≤ i) (i1 : i ≤ 4) (h : Q (iI (inS f t i))) : P_X3_beat (iI t) (iI i) (aI c) (aI li) (aI wh) (aI en) (aI cs) Q (fun _ => False) := by
  have e : tT t i 4 = 0 := by unfold tT; rw [if_pos ⟨t0, by omega, i0, i1⟩]
  exact s_X3_beat hv hf lit32 lit32 (fun _ => h) (fun hx => by omega)
theorem se_at {t r o : Int} {f c li wh en cs : Int → Int} {L : Nat → Int64} {Q : Int32 → Prop} (hv : CV f c L li wh en cs) (hf : OK 6 f) (t0 : 0 ≤ t) (t1 : t < 200) (r0 : 0 ≤ r ∧ r ≤ 7) (o0 : 0 ≤ o ∧ o ≤ 59) (h : Q (iI (stS f t r o))) : P_X3_seen (iI t) (iI r) (iI o) (aI c) (aI li) (aI en) Q (fun _ => False) := by
  have e : tSn t r o = 0 := by unfold tSn; rw [if_pos ⟨t0, by omega, r0.1, r0.2, o0.1, o0.2⟩]
  exact s_X3_seen hv.1 hf hv.2.2.1 lit32 lit32 lit32 (fun _ => h) (fun hx => by omega)
theorem ct_at {i k : Int} {f c li wh en cs : Int → Int} {L : Nat → Int64} {Q : Int32 → Prop} (hv : CV f c L li wh en cs) (hf : OK 6 f) (i0 : 0 ≤ i) (i1 : i ≤ 9) (h : Q (iI (coS f k i))) : P_X3_count (iI i) (aI c) (aI li) (aI wh) (aI en) (aI cs) (iI (paS f)) (iI k) Q (fun _ => False) := by
  have e : tN i 9 = 0 := by unfold tN; rw [if_pos ⟨i0, i1⟩]
  exact s_X3_count hv hf lit32 (fun _ => h) (fun hx => by omega)
theorem ctv_0 (f : Int → Int) (k : Int) : coS f k 0 = f 2 := rfl
theorem ctv_1 (f : Int → Int) (k : Int) : coS f k 1 = f 3 := rfl
theorem ctv_2 (f : Int → Int) (k : Int) : coS f k 2 = letS f := rfl
theorem ctv_3 (f : Int → Int) (k : Int) : coS f k 3 = alS f := rfl
theorem ctv_4 (f : Int → Int) (k : Int) : coS f k 4 = whS f := rfl
theorem ctv_5 (f : Int → Int) (k : Int) : coS f k 5 = lwN f (f 2).toNat := rfl
theorem ctv_6 (f : Int → Int) (k : Int) : coS f k 6 = dkS f := rfl
theorem ctv_7 (f : Int → Int) (k : Int) : coS f k 7 = cgS f := rfl
theorem ctv_8 (f : Int → Int) (k : Int) : coS f k 8 = paS f := rfl
theorem ctv_9 (f : Int → Int) (k : Int) : coS f k 9 = k := rfl
theorem wo_0 (f : Int → Int) (w : Int) : woS f w 0 = f (4 + 6 * w + 0) := rfl
theorem wo_1 (f : Int → Int) (w : Int) : woS f w 1 = f (4 + 6 * w + 1) := rfl
theorem wo_2 (f : Int → Int) (w : Int) : woS f w 2 = f (4 + 6 * w + 2) := rfl
theorem wo_3 (f : Int → Int) (w : Int) : woS f w 3 = f (4 + 6 * w + 3) := rfl
theorem wo_4 (f : Int → Int) (w : Int) : woS f w 4 = f (4 + 6 * w + 4) := rfl
theorem wo_5 (f : Int → Int) (w : Int) : woS f w 5 = f (4 + 6 * w + 5) := rfl
theorem wo_6 (f : Int → Int) (w : Int) : woS f w 6 = fiN f w (f (4 + 6 * w + 0)).toNat := rfl
theorem wo_7 (f : Int → Int) (w : Int) : woS f w 7 = wlS f w := rfl
theorem wo_8 (f : Int → Int) (w : Int) : woS f w 8 = goS f w := rfl
theorem wo_9 (f : Int → Int) (w : Int) : woS f w 9 = loS f w := rfl
theorem w_182 {w : Int} {f : Int → Int} {rec86 : Int32 → Int32 → Int32 → Int32 → Int32 → Int32 → Prop} (hf : OK 6 f) (w0 : 0 ≤ w) (w1 : w < f 2) (b : Nat) (hb : b ≤ 60) (h : rec86 (iI 1) (iI (fiN f w (b + 1))) (iI (moN f w (b + 1))) (iI (sm (fun k => bi (decide (litS f w k ≠ -1))) (b + 1))) (iI (litS f w b)) (iI ((b : Int) + 1))) : P_L_words_J182 rec86 (iI (fiN f w b)) (iI (moN f w b)) (iI (sm (fun k => bi (decide (litS f w k ≠ -1))) b)) (iI b) (iI (litS f w b)) (iI 1) := by
  have hr := litS_rng hf w0 w1 b
  have hq := (hf.2.2.2.2.1 w w0 w1).2.2.2.1
  have hfi := fiN_rng hf w0 w1 b
  have hmo := moN_rng hf w0 w1 b
  have hs := bsm_rng (fun k => decide (litS f w k ≠ -1)) b
  have hbi : bi (decide (litS f w b ≠ -1)) = if litS f w b < 0 then 0 else 1 := by
    by_cases e : litS f w b ≠ -1
    · rw [decide_eq_true e, if_neg (by omega)]; rfl
    · rw [decide_eq_false e, if_pos (by omega)]; rfl
  have leaf : ∀ A B C : Int, A = fiN f w (b + 1) → B = moN f w (b + 1) → C = sm (fun k => bi (decide (litS f w k ≠ -1))) (b + 1) → rec86 (iI 1) (iI A) (iI B) (iI C) (iI (litS f w b)) (iI ((b : Int) + 1)) := by
    rintro _ _ _ rfl rfl rfl
    exact h
  have sme : sm (fun k => bi (decide (litS f w k ≠ -1))) (b + 1) = sm (fun k => bi (decide (litS f w k ≠ -1))) b + (if litS f w b < 0 then 0 else 1) := by
    rw [← hbi]; rfl
  unfold P_L_words_J182 P_L_words_J200 P_L_words_J226 P_L_words_J221 P_L_words_J228 P_L_words_J244
  simp (disch := omega) only [iI_lt, iI_eq, iI_le, iI_add, i_m9, i_m1, i_0, i_1, i_2, i_3, i_4, i_5, i_6, i_7, i_8, i_9, i_10, i_11, i_12, i_13, i_14, i_15, i_16, i_17, i_18, i_19, i_20, i_21, i_22, i_23, i_24, i_25, i_26, i_27, i_28, i_29, i_30, i_31, i_32, i_33, i_34, i_35, i_36, i_37, i_38, i_39, i_40, i_41, i_42, i_43, i_44, i_45, i_46, i_47, i_48, i_49, i_50, i_51, i_52, i_53, i_54, i_55, i_56, i_57, i_58, i_59, i_60, i_61, i_62, i_63, i_64, i_65, i_66, i_67, i_68, i_69, i_70, i_72, i_77, i_78, i_80, i_81, i_82, i_83, i_84, i_87, i_88, i_96, i_98, i_100, i_101, i_103, i_118, i_119, i_126, i_133, i_137, i_144, i_154, i_158, i_160, i_190, i_199, i_200, i_207, i_209, i_213, i_229, i_252, i_254, i_255, i_260, i_282, i_303, i_304, i_321, i_348, i_435, i_492, i_522, i_1000, i_1023, i_1600, i_2903, iI_neg]
  repeat' (first | (intro _) | (refine And.intro ?_ ?_))
  all_goals exact leaf _ _ _ (by rw [fiN_s]; split <;> omega) (by rw [moN_s]; split <;> omega) (by rw [sme]; split <;> omega)
theorem w_135 {w r lf v : Int} {x11 x12 x13 x15 : Int32} {f c li wh en cs : Int → Int} {L : Nat → Int64} {rec86 : Int32 → Int32 → Int32 → Int32 → Int32 → Int32 → Prop} (hv : CV f c L li wh en cs) (hf : OK 6 f) (w0 : 0 ≤ w) (w1 : w < f 2) (hr : 0 ≤ r ∧ r ≤ 2) (hlf : -1 ≤ lf ∧ lf < 200) (hx : -1 ≤ v ∧ v < 200) (h1 : r = 1 → v ≠ -1 → 0 ≤ lf ∧ lf ≤ v) (h2 : r = 2 → v = litS f w 0) (hg : P_L_words_J177 rec86 x11 x12 x13 x15 (iI v)) : P_L_words_J135 (iI w) (iI r) (aI c) (aI li) rec86 x11 x12 x13 (iI lf) x15 (iI v) := by
  obtain ⟨⟨l0, l1⟩, -⟩ := hf.2.2.2.2.1 w w0 w1
  have h159 : P_L_words_J159 (iI w) (iI r) (aI c) (aI li) rec86 x11 x12 x13 x15 (iI v) := by
    unfold P_L_words_J159
    simp (disch := omega) only [iI_eq, i_m9, i_m1, i_0, i_1, i_2, i_3, i_4, i_5, i_6, i_7, i_8, i_9, i_10, i_11, i_12, i_13, i_14, i_15, i_16, i_17, i_18, i_19, i_20, i_21, i_22, i_23, i_24, i_25, i_26, i_27, i_28, i_29, i_30, i_31, i_32, i_33, i_34, i_35, i_36, i_37, i_38, i_39, i_40, i_41, i_42, i_43, i_44, i_45, i_46, i_47, i_48, i_49, i_50, i_51, i_52, i_53, i_54, i_55, i_56, i_57, i_58, i_59, i_60, i_61, i_62, i_63, i_64, i_65, i_66, i_67, i_68, i_69, i_70, i_72, i_77, i_78, i_80, i_81, i_82, i_83, i_84, i_87, i_88, i_96, i_98, i_100, i_101, i_103, i_118, i_119, i_126, i_133, i_137, i_144, i_154, i_158, i_160, i_190, i_199, i_200, i_207, i_209, i_213, i_229, i_252, i_254, i_255, i_260, i_282, i_303, i_304, i_321, i_348, i_435, i_492, i_522, i_1000, i_1023, i_1600, i_2903, iI_neg]
    refine ⟨fun _ => hg, fun e => la_at hv hf w0 w1 (by omega) (by omega) ?_⟩
    rw [← h2 e]
    exact ⟨fun hx => (hx (by first | rfl | trivial)).elim, fun _ => hg⟩
  unfold P_L_words_J135
  simp (disch := omega) only [iI_eq, iI_lt, i_m9, i_m1, i_0, i_1, i_2, i_3, i_4, i_5, i_6, i_7, i_8, i_9, i_10, i_11, i_12, i_13, i_14, i_15, i_16, i_17, i_18, i_19, i_20, i_21, i_22, i_23, i_24, i_25, i_26, i_27, i_28, i_29, i_30, i_31, i_32, i_33, i_34, i_35, i_36, i_37, i_38, i_39, i_40, i_41, i_42, i_43, i_44, i_45, i_46, i_47, i_48, i_49, i_50, i_51, i_52, i_53, i_54, i_55, i_56, i_57, i_58, i_59, i_60, i_61, i_62, i_63, i_64, i_65, i_66, i_67, i_68, i_69, i_70, i_72, i_77, i_78, i_80, i_81, i_82, i_83, i_84, i_87, i_88, i_96, i_98, i_100, i_101, i_103, i_118, i_119, i_126, i_133, i_137, i_144, i_154, i_158, i_160, i_190, i_199, i_200, i_207, i_209, i_213, i_229, i_252, i_254, i_255, i_260, i_282, i_303, i_304, i_321, i_348, i_435, i_492, i_522, i_1000, i_1023, i_1600, i_2903, iI_neg]
  exact ⟨fun _ => h159, fun e => ⟨fun _ => h159, fun e2 => ⟨fun hx => absurd hx (by have := h1 e e2; omega), fun _ => ⟨fun hx => absurd hx (by have := h1 e e2; omega), fun _ => h159⟩⟩⟩⟩
theorem s_wl86 {w : Int} {f c li wh en cs : Int → Int} {L : Nat → Int64} {K : Int32 → Int32 → Int32 → Int32 → Prop} (hv : CV f c L li wh en cs) (hf : OK 6 f) (w0 : 0 ≤ w) (w1 : w < f 2) (hK : K (iI 1) (iI (fiN f w (f (4 + 6 * w + 0)).toNat)) (iI (moN f w (f (4 + 6 * w + 0)).toNat)) (iI (loS f w))) : ∃ n, P_L_words_L86 (iI w) (iI (f (4 + 6 * w + 0))) (iI (f (4 + 6 * w + 4))) (iI (f (4 + 6 * w + 3))) (aI c) (aI li) K n (iI 1) (iI (-1)) (iI (-1)) (iI 0) (iI (f (4 + 6 * w + 3))) (iI 0) := by
  obtain ⟨⟨l0, l1⟩, -, -, ⟨q0, q1⟩, ⟨r0, r1⟩, -⟩ := hf.2.2.2.2.1 w w0 w1
  have lp : ∀ (m b : Nat), (b : Int) + m = f (4 + 6 * w + 0) → ∀ lf : Int, (lf = if b = 0 then f (4 + 6 * w + 3) else litS f w ((b : Int) - 1)) → P_L_words_L86 (iI w) (iI (f (4 + 6 * w + 0))) (iI (f (4 + 6 * w + 4))) (iI (f (4 + 6 * w + 3))) (aI c) (aI li) K (m + 1) (iI 1) (iI (fiN f w b)) (iI (moN f w b)) (iI (sm (fun k => bi (decide (litS f w k ≠ -1))) b)) (iI lf) (iI b) := by
    intro m
    induction m with
    | zero =>
      intro b hb lf _
      rw [P_L_words_L86_s]
      unfold B_L_words_L86
      simp (disch := omega) only [iI_le, i_m9, i_m1, i_0, i_1, i_2, i_3, i_4, i_5, i_6, i_7, i_8, i_9, i_10, i_11, i_12, i_13, i_14, i_15, i_16, i_17, i_18, i_19, i_20, i_21, i_22, i_23, i_24, i_25, i_26, i_27, i_28, i_29, i_30, i_31, i_32, i_33, i_34, i_35, i_36, i_37, i_38, i_39, i_40, i_41, i_42, i_43, i_44, i_45, i_46, i_47, i_48, i_49, i_50, i_51, i_52, i_53, i_54, i_55, i_56, i_57, i_58, i_59, i_60, i_61, i_62, i_63, i_64, i_65, i_66, i_67, i_68, i_69, i_70, i_72, i_77, i_78, i_80, i_81, i_82, i_83, i_84, i_87, i_88, i_96, i_98, i_100, i_101, i_103, i_118, i_119, i_126, i_133, i_137, i_144, i_154, i_158, i_160, i_190, i_199, i_200, i_207, i_209, i_213, i_229, i_252, i_254, i_255, i_260, i_282, i_303, i_304, i_321, i_348, i_435, i_492, i_522, i_1000, i_1023, i_1600, i_2903, iI_neg]
      refine ⟨fun _ => ?_, fun hx => absurd (by omega) hx⟩
      unfold loS at hK
      rw [show (f (4 + 6 * w + 0)).toNat = b by omega] at hK
      exact hK
    | succ m ih =>
      intro b hb lf hlf
      have ih1 := ih (b + 1) (by omega) (litS f w b) (by rw [if_neg (by omega), show (((b + 1 : Nat) : Int) - 1) = b by omega])
      rw [nsucc] at ih1
      have hr := litS_rng hf w0 w1 b
      have hr1 := litS_rng hf w0 w1 ((b : Int) - 1)
      have hlr : -1 ≤ lf ∧ lf < 200 := by rw [hlf]; split <;> omega
      rw [P_L_words_L86_s]
      unfold B_L_words_L86
      simp (disch := omega) only [iI_le, iI_eq, i_m9, i_m1, i_0, i_1, i_2, i_3, i_4, i_5, i_6, i_7, i_8, i_9, i_10, i_11, i_12, i_13, i_14, i_15, i_16, i_17, i_18, i_19, i_20, i_21, i_22, i_23, i_24, i_25, i_26, i_27, i_28, i_29, i_30, i_31, i_32, i_33, i_34, i_35, i_36, i_37, i_38, i_39, i_40, i_41, i_42, i_43, i_44, i_45, i_46, i_47, i_48, i_49, i_50, i_51, i_52, i_53, i_54, i_55, i_56, i_57, i_58, i_59, i_60, i_61, i_62, i_63, i_64, i_65, i_66, i_67, i_68, i_69, i_70, i_72, i_77, i_78, i_80, i_81, i_82, i_83, i_84, i_87, i_88, i_96, i_98, i_100, i_101, i_103, i_118, i_119, i_126, i_133, i_137, i_144, i_154, i_158, i_160, i_190, i_199, i_200, i_207, i_209, i_213, i_229, i_252, i_254, i_255, i_260, i_282, i_303, i_304, i_321, i_348, i_435, i_492, i_522, i_1000, i_1023, i_1600, i_2903, iI_neg]
      refine ⟨fun hx => absurd hx (by omega), fun _ => ⟨fun hx => absurd hx (by omega), fun _ => la_at hv hf w0 w1 (by omega) (by omega) ?_⟩⟩
      have hg := w_182 hf w0 w1 b (by omega) ih1
      have h135 : P_L_words_J135 (iI w) (iI (f (4 + 6 * w + 4))) (aI c) (aI li) (P_L_words_L86 (iI w) (iI (f (4 + 6 * w + 0))) (iI (f (4 + 6 * w + 4))) (iI (f (4 + 6 * w + 3))) (aI c) (aI li) K (m + 1)) (iI (fiN f w b)) (iI (moN f w b)) (iI (sm (fun k => bi (decide (litS f w k ≠ -1))) b)) (iI lf) (iI b) (iI (litS f w b)) := by
        refine w_135 hv hf w0 w1 ⟨r0, r1⟩ hlr (by omega) (fun e1 e2 => ?_) (fun e1 => lit_r2 e1 _ _) ?_
        · by_cases e : b = 0
          · rw [hlf, if_pos e]; omega
          · have := lit_r1 hf w0 w1 e1 (b - 1) (by rw [show (((b - 1 : Nat) : Int) + 1) = b by omega]; exact e2)
            rw [show (((b - 1 : Nat) : Int) + 1) = b by omega, show (((b - 1 : Nat) : Int)) = (b : Int) - 1 by omega] at this
            rw [hlf, if_neg e]; omega
        · unfold P_L_words_J177
          rw [i_1]
          exact hg
      simp (disch := omega) only [iI_lt, iI_le, iI_eq]
      exact ⟨fun hx => absurd hx (by omega), fun _ => ⟨fun hx => absurd hx (by omega), fun _ => ⟨fun _ => h135, fun e => ⟨fun hx => absurd hx (by omega), fun _ => h135⟩⟩⟩⟩
  exact ⟨_, lp (f (4 + 6 * w + 0)).toNat 0 (by omega) (f (4 + 6 * w + 3)) (by rw [if_pos rfl])⟩
