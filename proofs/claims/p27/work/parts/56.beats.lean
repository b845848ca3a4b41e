/-! the law's beats -/
theorem bo_at {b i : Int} {f c li wh en cs : Int → Int} {L : Nat → Int64} {L0 : Nat → Int64} {l0 w0 e0 re0 la0 : Nat → Int32} {Q : Int32 → (Nat → Int64) → (Nat → Int32) → (Nat → Int32) → (Nat → Int32) → (Nat → Int32) → (Nat → Int32) → Prop} (hv : CV f c L li wh en cs) (hf : OK 6 f) (b0 : 0 ≤ b) (b1 : b < f 3) (i0 : 0 ≤ i) (i1 : i ≤ 6) (h : ∀ tl a1 a2 a3 a4 a5, Q (iI (boS f b i)) tl a1 a2 a3 a4 a5) : P_X3_beamOf (iI b) (iI i) (aI c) (aI li) L0 l0 w0 e0 re0 la0 Q (fun _ => False) := by
  have n3 := hf.2.2.2.1
  have e := tX_0 b0 b1 i0 i1
  exact s_X3_beamOf hv.1 hf hv.2.2.1 lit32 lit32 (fun _ => h) (fun hx => by omega) (fun hx => by omega)
theorem bo_0 (f : Int → Int) (b : Int) : boS f b 0 = f (52 + 5 * b + 0) + 0 := rfl
theorem bo_5 (f : Int → Int) (b : Int) : boS f b 5 = cvS f b := rfl
theorem bo_6 (f : Int → Int) (b : Int) : boS f b 6 = alS f - alS (ulF f b) := rfl
theorem cls_b {f : Int → Int} (h2 : 0 ≤ f 2 ∧ f 2 ≤ 8) (t : Int) : 0 ≤ cls f t ∧ cls f t ≤ 64 := by
  have := cls_rng h2 t (f 2).toNat (by omega)
  have e : cls f t = sm (fun w => clsO f t w w.toNat) (f 2).toNat := rfl
  omega
theorem pa_b {f : Int → Int} (h2 : 0 ≤ f 2 ∧ f 2 ≤ 8) : 0 ≤ paS f ∧ paS f ≤ 64 := by
  have h := sm_rng (g := fun w => paO f w w.toNat) (c := 8) (by omega) (n := (f 2).toNat) (fun w w0 w1 => by
    have := bsm_rng (fun o => ecN f w o 200) w.toNat
    have e : paO f w w.toNat = sm (fun o => bi (ecN f w o 200)) w.toNat := rfl
    show 0 ≤ paO f w w.toNat ∧ paO f w w.toNat ≤ 8
    omega)
  have e : paS f = sm (fun w => paO f w w.toNat) (f 2).toNat := rfl
  omega
theorem b_58 {k : Int} {f c li wh en cs : Int → Int} {L : Nat → Int64} {K : Int32 → Prop} (hv : CV f c L li wh en cs) (hf : OK 6 f) (hK : K (iI 1)) : ∀ (m : Nat) (t : Int), 0 ≤ t → t < 300 → 200 ≤ t + 23 * m → P_L_beats_L58 (aI c) (aI li) (aI wh) (aI en) (aI cs) (iI (paS f)) (iI k) K (m + 1) (iI 1) (iI t) := by
  have n2 := hf.2.2.1
  have n3 := hf.2.2.2.1
  intro m
  induction m with
  | zero =>
    intro t t0 t1 ht
    rw [P_L_beats_L58_s]
    unfold B_L_beats_L58
    simp (disch := omega) only [iI_le, i_m9, i_m1, i_0, i_1, i_2, i_3, i_4, i_5, i_6, i_7, i_8, i_9, i_10, i_11, i_12, i_13, i_14, i_15, i_16, i_17, i_18, i_19, i_20, i_21, i_22, i_23, i_24, i_25, i_26, i_27, i_28, i_29, i_30, i_31, i_32, i_33, i_34, i_35, i_36, i_37, i_38, i_39, i_40, i_41, i_42, i_43, i_44, i_45, i_46, i_47, i_48, i_49, i_50, i_51, i_52, i_53, i_54, i_55, i_56, i_57, i_58, i_59, i_60, i_61, i_62, i_63, i_64, i_65, i_66, i_67, i_68, i_69, i_70, i_72, i_77, i_78, i_80, i_81, i_82, i_83, i_84, i_87, i_88, i_96, i_98, i_100, i_101, i_103, i_118, i_119, i_126, i_133, i_137, i_144, i_154, i_158, i_160, i_190, i_199, i_200, i_207, i_209, i_213, i_229, i_252, i_254, i_255, i_260, i_282, i_303, i_304, i_321, i_348, i_435, i_492, i_522, i_1000, i_1023, i_1600, i_2903, iI_neg]
    exact ⟨fun _ => hK, fun hx => absurd (by omega) hx⟩
  | succ m ih =>
    intro t t0 t1 ht
    rw [P_L_beats_L58_s]
    unfold B_L_beats_L58 P_L_beats_J146 P_L_beats_J147
    simp (disch := omega) only [iI_le, iI_eq, i_m9, i_m1, i_0, i_1, i_2, i_3, i_4, i_5, i_6, i_7, i_8, i_9, i_10, i_11, i_12, i_13, i_14, i_15, i_16, i_17, i_18, i_19, i_20, i_21, i_22, i_23, i_24, i_25, i_26, i_27, i_28, i_29, i_30, i_31, i_32, i_33, i_34, i_35, i_36, i_37, i_38, i_39, i_40, i_41, i_42, i_43, i_44, i_45, i_46, i_47, i_48, i_49, i_50, i_51, i_52, i_53, i_54, i_55, i_56, i_57, i_58, i_59, i_60, i_61, i_62, i_63, i_64, i_65, i_66, i_67, i_68, i_69, i_70, i_72, i_77, i_78, i_80, i_81, i_82, i_83, i_84, i_87, i_88, i_96, i_98, i_100, i_101, i_103, i_118, i_119, i_126, i_133, i_137, i_144, i_154, i_158, i_160, i_190, i_199, i_200, i_207, i_209, i_213, i_229, i_252, i_254, i_255, i_260, i_282, i_303, i_304, i_321, i_348, i_435, i_492, i_522, i_1000, i_1023, i_1600, i_2903, iI_neg]
    refine ⟨fun _ => hK, fun e => ⟨fun hx => absurd hx (by omega), fun _ => be_at hv hf t0 (by omega) (by omega) (by omega) (be_at hv hf t0 (by omega) (by omega) (by omega) ?_)⟩⟩
    have r21 := in21 f t
    have r10 := in10 hf t
    have r0a := in0_al f t
    have r43 := in4_3 n3.1 t
    have rcp := cls_pa f t0 (show t < 200 by omega)
    have ra := alS_rng hf
    have r4 := (bsm_rng (fun b => cos f b t) (f 3).toNat).1
    have e4 : in4 f t = sm (fun b => bi (cos f b t)) (f 3).toNat := rfl
    have r2 := (bsm_rng (fun w => decide (wlS f w ≠ -1) && (decide (wlS f w ≤ t) && decide (0 < soS f w t))) (f 2).toNat).1
    have e2 : in2 f t = sm (fun w => bi (decide (wlS f w ≠ -1) && (decide (wlS f w ≤ t) && decide (0 < soS f w t)))) (f 2).toNat := rfl
    have rc := cls_b n2 t
    have rp := pa_b n2
    rw [inS_2, inS_1, iI_lt (by omega) (by omega) (by omega) (by omega)]
    refine ⟨fun hx => absurd hx (by omega), fun _ => be_at hv hf t0 (by omega) (by omega) (by omega) (be_at hv hf t0 (by omega) (by omega) (by omega) ?_)⟩
    rw [inS_1, inS_0, iI_lt (by omega) (by omega) (by omega) (by omega)]
    refine ⟨fun hx => absurd hx (by omega), fun _ => be_at hv hf t0 (by omega) (by omega) (by omega) (ct_at hv hf (by omega) (by omega) ?_)⟩
    rw [inS_0, ctv_3, iI_lt (by omega) (by omega) (by omega) (by omega)]
    refine ⟨fun hx => absurd hx (by omega), fun _ => be_at hv hf t0 (by omega) (by omega) (by omega) (ct_at hv hf (by omega) (by omega) ?_)⟩
    rw [inS_4, ctv_1, iI_lt (by omega) (by omega) (by omega) (by omega)]
    refine ⟨fun hx => absurd hx (by omega), fun _ => be_at hv hf t0 (by omega) (by omega) (by omega) (ct_at hv hf (by omega) (by omega) ?_)⟩
    rw [inS_3, ctv_8, iI_lt (by omega) (by omega) (by omega) (by omega)]
    refine ⟨fun hx => absurd hx (by omega), fun _ => ?_⟩
    rw [iI_add]
    exact ih (t + 23) (by omega) (by omega) (by omega)
theorem b_156 {k : Int} {f c li wh en cs : Int → Int} {L : Nat → Int64} {Q : Int32 → (Nat → Int64) → (Nat → Int32) → (Nat → Int32) → (Nat → Int32) → (Nat → Int32) → (Nat → Int32) → Prop} (hv : CV f c L li wh en cs) (hf : OK 6 f) (hQ : ∀ tl a1 a2 a3 a4 a5, Q (iI 1) tl a1 a2 a3 a4 a5) : ∀ (m : Nat) (b : Int), 0 ≤ b → b + m = f 3 → ∀ tl a1 a2 a3 a4 a5, P_L_beats_L156 (aI c) (aI li) (aI wh) (aI en) (aI cs) (iI (paS f)) (iI k) Q (m + 1) (iI 1) (iI b) tl a1 a2 a3 a4 a5 := by
  have n2 := hf.2.2.1
  have n3 := hf.2.2.2.1
  intro m
  induction m with
  | zero =>
    intro b b0 hb tl a1 a2 a3 a4 a5
    rw [P_L_beats_L156_s]
    unfold B_L_beats_L156
    simp only [i_m9, i_m1, i_0, i_1, i_2, i_3, i_4, i_5, i_6, i_7, i_8, i_9, i_10, i_11, i_12, i_13, i_14, i_15, i_16, i_17, i_18, i_19, i_20, i_21, i_22, i_23, i_24, i_25, i_26, i_27, i_28, i_29, i_30, i_31, i_32, i_33, i_34, i_35, i_36, i_37, i_38, i_39, i_40, i_41, i_42, i_43, i_44, i_45, i_46, i_47, i_48, i_49, i_50, i_51, i_52, i_53, i_54, i_55, i_56, i_57, i_58, i_59, i_60, i_61, i_62, i_63, i_64, i_65, i_66, i_67, i_68, i_69, i_70, i_72, i_77, i_78, i_80, i_81, i_82, i_83, i_84, i_87, i_88, i_96, i_98, i_100, i_101, i_103, i_118, i_119, i_126, i_133, i_137, i_144, i_154, i_158, i_160, i_190, i_199, i_200, i_207, i_209, i_213, i_229, i_252, i_254, i_255, i_260, i_282, i_303, i_304, i_321, i_348, i_435, i_492, i_522, i_1000, i_1023, i_1600, i_2903, iI_neg]
    refine ct_at hv hf (by omega) (by omega) ?_
    rw [ctv_1, iI_le (by omega) (by omega) (by omega) (by omega)]
    exact ⟨fun _ => ⟨narI1, hQ _ _ _ _ _ _⟩, fun hx => absurd (by omega) hx⟩
  | succ m ih =>
    intro b b0 hb tl a1 a2 a3 a4 a5
    have b1 : b < f 3 := by omega
    have hO := hf.2.2.2.2.2 b b0 b1
    have hc := cv_chk hO
    have hu := ul_al hf b0 b1
    have ra := alS_rng hf
    unfold OKb at hO
    rw [P_L_beats_L156_s]
    unfold B_L_beats_L156 P_L_beats_J226 P_L_beats_J227
    simp only [i_m9, i_m1, i_0, i_1, i_2, i_3, i_4, i_5, i_6, i_7, i_8, i_9, i_10, i_11, i_12, i_13, i_14, i_15, i_16, i_17, i_18, i_19, i_20, i_21, i_22, i_23, i_24, i_25, i_26, i_27, i_28, i_29, i_30, i_31, i_32, i_33, i_34, i_35, i_36, i_37, i_38, i_39, i_40, i_41, i_42, i_43, i_44, i_45, i_46, i_47, i_48, i_49, i_50, i_51, i_52, i_53, i_54, i_55, i_56, i_57, i_58, i_59, i_60, i_61, i_62, i_63, i_64, i_65, i_66, i_67, i_68, i_69, i_70, i_72, i_77, i_78, i_80, i_81, i_82, i_83, i_84, i_87, i_88, i_96, i_98, i_100, i_101, i_103, i_118, i_119, i_126, i_133, i_137, i_144, i_154, i_158, i_160, i_190, i_199, i_200, i_207, i_209, i_213, i_229, i_252, i_254, i_255, i_260, i_282, i_303, i_304, i_321, i_348, i_435, i_492, i_522, i_1000, i_1023, i_1600, i_2903, iI_neg]
    refine ct_at hv hf (by omega) (by omega) ?_
    rw [ctv_1, iI_le (by omega) (by omega) (by omega) (by omega), iI_eq (by omega) (by omega) (by omega) (by omega)]
    refine ⟨fun hx => absurd hx (by omega), fun _ => ⟨fun hx => absurd hx (by omega), fun _ => bo_at hv hf b0 b1 (by omega) (by omega) (fun _ _ _ _ _ _ => bo_at hv hf b0 b1 (by omega) (by omega) (fun _ _ _ _ _ _ => ?_))⟩⟩
    rw [bo_5, bo_0, iI_sub, iI_lt (by omega) (by omega) (by omega) (by omega)]
    refine ⟨fun hx => absurd hx (by omega), fun _ => bo_at hv hf b0 b1 (by omega) (by omega) (fun _ _ _ _ _ _ => ?_)⟩
    rw [bo_5, iI_le (by omega) (by omega) (by omega) (by omega)]
    refine ⟨fun hx => absurd hx (by omega), fun _ => bo_at hv hf b0 b1 (by omega) (by omega) (fun _ _ _ _ _ _ => ?_)⟩
    rw [bo_6, iI_lt (by omega) (by omega) (by omega) (by omega)]
    refine ⟨fun hx => absurd hx (by omega), fun _ => bo_at hv hf b0 b1 (by omega) (by omega) (fun _ _ _ _ _ _ => ct_at hv hf (by omega) (by omega) ?_)⟩
    rw [bo_6, ctv_3, iI_lt (by omega) (by omega) (by omega) (by omega)]
    refine ⟨fun hx => absurd hx (by omega), fun _ => ?_⟩
    rw [iI_add]
    exact ih (b + 1) (by omega) (by omega) _ _ _ _ _ _
theorem s_L_beats {k t : Int} {f c li wh en cs : Int → Int} {L : Nat → Int64} {tl : Nat → Int64} {a1 a2 a3 a4 a5 : Nat → Int32} {Q : Int32 → (Nat → Int64) → (Nat → Int32) → (Nat → Int32) → (Nat → Int32) → (Nat → Int32) → (Nat → Int32) → Prop} (hv : CV f c L li wh en cs) (hf : OK 6 f) (t0 : 0 ≤ t) (t1 : t < 23) (h : ∀ tl a1 a2 a3 a4 a5, Q (iI 1) tl a1 a2 a3 a4 a5) : P_L_beats (iI t) (aI c) (aI li) (aI wh) (aI en) (aI cs) (iI (paS f)) tl a1 a2 a3 a4 a5 (iI k) Q := by
  have n2 := hf.2.2.1
  have n3 := hf.2.2.2.1
  have hpc := pa_cg n2.1
  have hd := dk_cg hf
  have rp := pa_b n2
  have rc := bsm_rng (fun t => decide (0 < cls f t)) 200
  have ec : cgS f = sm (fun t => bi (decide (0 < cls f t))) 200 := rfl
  have rd := bsm_rng (fun t => decide (in1 f t = 0)) 200
  have ed : dkS f = sm (fun t => bi (decide (in1 f t = 0))) 200 := rfl
  have h55 : P_L_beats_J55 (aI c) (aI li) (aI wh) (aI en) (aI cs) (iI (paS f)) tl a1 a2 a3 a4 a5 (iI k) Q (iI t) (iI 1) := by
    unfold P_L_beats_J55
    rw [i_0]
    exact ⟨_, b_58 hv hf (K := fun x => ∃ n : Nat, P_L_beats_L156 (aI c) (aI li) (aI wh) (aI en) (aI cs) (iI (paS f)) (iI k) Q n x (iI 0) tl a1 a2 a3 a4 a5) ⟨_, b_156 hv hf h (f 3).toNat 0 (by omega) (by omega) _ _ _ _ _ _⟩ 9 t t0 (by omega) (by omega)⟩
  have h28 : ∀ x : Int, 0 ≤ x → x ≤ 1 → P_L_beats_J28 (aI c) (aI li) (aI wh) (aI en) (aI cs) (iI (paS f)) tl a1 a2 a3 a4 a5 (iI k) Q (iI t) (iI x) (iI x) := by
    intro x x0 x1
    unfold P_L_beats_J28
    simp only [i_m9, i_m1, i_0, i_1, i_2, i_3, i_4, i_5, i_6, i_7, i_8, i_9, i_10, i_11, i_12, i_13, i_14, i_15, i_16, i_17, i_18, i_19, i_20, i_21, i_22, i_23, i_24, i_25, i_26, i_27, i_28, i_29, i_30, i_31, i_32, i_33, i_34, i_35, i_36, i_37, i_38, i_39, i_40, i_41, i_42, i_43, i_44, i_45, i_46, i_47, i_48, i_49, i_50, i_51, i_52, i_53, i_54, i_55, i_56, i_57, i_58, i_59, i_60, i_61, i_62, i_63, i_64, i_65, i_66, i_67, i_68, i_69, i_70, i_72, i_77, i_78, i_80, i_81, i_82, i_83, i_84, i_87, i_88, i_96, i_98, i_100, i_101, i_103, i_118, i_119, i_126, i_133, i_137, i_144, i_154, i_158, i_160, i_190, i_199, i_200, i_207, i_209, i_213, i_229, i_252, i_254, i_255, i_260, i_282, i_303, i_304, i_321, i_348, i_435, i_492, i_522, i_1000, i_1023, i_1600, i_2903, iI_neg]
    refine ⟨fun hx => (hx (by first | rfl | trivial)).elim, fun _ => ct_at hv hf (by omega) (by omega) (ct_at hv hf (by omega) (by omega) ?_)⟩
    rw [ctv_6, ctv_7, iI_add, iI_lt (by omega) (by omega) (by omega) (by omega)]
    exact ⟨fun hx => absurd hx (by omega), fun _ => h55⟩
  unfold P_L_beats P_L_beats_J14
  simp only [i_m9, i_m1, i_0, i_1, i_2, i_3, i_4, i_5, i_6, i_7, i_8, i_9, i_10, i_11, i_12, i_13, i_14, i_15, i_16, i_17, i_18, i_19, i_20, i_21, i_22, i_23, i_24, i_25, i_26, i_27, i_28, i_29, i_30, i_31, i_32, i_33, i_34, i_35, i_36, i_37, i_38, i_39, i_40, i_41, i_42, i_43, i_44, i_45, i_46, i_47, i_48, i_49, i_50, i_51, i_52, i_53, i_54, i_55, i_56, i_57, i_58, i_59, i_60, i_61, i_62, i_63, i_64, i_65, i_66, i_67, i_68, i_69, i_70, i_72, i_77, i_78, i_80, i_81, i_82, i_83, i_84, i_87, i_88, i_96, i_98, i_100, i_101, i_103, i_118, i_119, i_126, i_133, i_137, i_144, i_154, i_158, i_160, i_190, i_199, i_200, i_207, i_209, i_213, i_229, i_252, i_254, i_255, i_260, i_282, i_303, i_304, i_321, i_348, i_435, i_492, i_522, i_1000, i_1023, i_1600, i_2903, iI_neg]
  refine ct_at hv hf (by omega) (by omega) ?_
  rw [ctv_8, iI_eq (by omega) (by omega) (by omega) (by omega)]
  refine ⟨fun e => ct_at hv hf (by omega) (by omega) ?_, fun e => ct_at hv hf (by omega) (by omega) ?_⟩
  · rw [ctv_7, iI_eq (by omega) (by omega) (by omega) (by omega)]
    exact ⟨fun _ => h28 0 (by omega) (by omega), fun hx => absurd (hpc.mpr hx) e⟩
  · rw [ctv_7, iI_eq (by omega) (by omega) (by omega) (by omega)]
    exact ⟨fun hx => absurd (hpc.mp e) hx, fun _ => h28 1 (by omega) (by omega)⟩
