theorem nsucc (k : Nat) : (((k + 1 : Nat) : Int)) = (k : Int) + 1 := by omega
def letS (f : Int → Int) : Int := sm (fun w => f (4 + 6 * w + 0)) (f 2).toNat
def loS (f : Int → Int) (w : Int) : Int := sm (fun k => bi (decide (litS f w k ≠ -1))) (f (4 + 6 * w + 0)).toNat
def alS (f : Int → Int) : Int := sm (loS f) (f 2).toNat
def whS (f : Int → Int) : Int := sm (fun w => bi (decide (wlS f w ≠ -1))) (f 2).toNat
def cgS (f : Int → Int) : Int := sm (fun t => bi (decide (0 < cls f t))) 200
theorem lo_rng {mb w : Int} {f : Int → Int} (hf : OK mb f) (w0 : 0 ≤ w) (w1 : w < f 2) : 0 ≤ loS f w ∧ loS f w ≤ 12 := by
  have hw := (hf.2.2.2.2.1 w w0 w1).1
  have := sm_rng (g := fun k => bi (decide (litS f w k ≠ -1))) (c := 1) (by omega) (n := (f (4 + 6 * w + 0)).toNat) (fun k _ _ => bi_rng _)
  unfold loS; omega
theorem alN_rng {mb : Int} {f : Int → Int} (hf : OK mb f) (n : Nat) (hn : (n : Int) ≤ f 2) : 0 ≤ sm (loS f) n ∧ sm (loS f) n ≤ 12 * n :=
  sm_rng (c := 12) (by omega) (fun k k0 k1 => lo_rng hf k0 (by omega))
theorem bsm_rng (b : Int → Bool) (n : Nat) : 0 ≤ sm (fun k => bi (b k)) n ∧ sm (fun k => bi (b k)) n ≤ n := by
  have := sm_rng (g := fun k => bi (b k)) (c := 1) (by omega) (n := n) (fun k _ _ => bi_rng _)
  omega
theorem s_X4_letters {mb : Int} {f : Int → Int} {Q : Int32 → Prop} (hf : OK mb f) (h : Q (iI (letS f))) : P_X4_letters (aI f) Q := by
  have h8 := hf.2.2.1
  have lp : ∀ (m w : Nat), (w : Int) + m = f 2 → P_X4_letters_L4 (aI f) Q (m + 1) (iI (sm (fun w => f (4 + 6 * w + 0)) w)) (iI w) := by
    intro m
    induction m with
    | zero =>
      intro w hw
      rw [P_X4_letters_L4_s]
      unfold B_X4_letters_L4
      simp (disch := omega) only [iI_add, iI_sub, iI_mul, iI_neg, iI_lt, iI_le, iI_eq, iI_cl, aI_at, aI_up, aI_l0, aI_l1, aI_l2, aI_l3]
      refine ⟨fun _ => ?_, fun hx => absurd (by omega) hx⟩
      unfold letS at h
      rwa [show (f 2).toNat = w by omega] at h
    | succ m ih =>
      intro w hw
      have ih1 := ih (w + 1) (by omega)
      rw [nsucc, sm_s] at ih1
      rw [P_X4_letters_L4_s]
      unfold B_X4_letters_L4
      simp (disch := omega) only [iI_add, iI_sub, iI_mul, iI_neg, iI_lt, iI_le, iI_eq, iI_cl, aI_at, aI_up, aI_l0, aI_l1, aI_l2, aI_l3, i_m9, i_m1, i_0, i_1, i_2, i_3, i_4, i_5, i_6, i_7, i_8, i_9, i_10, i_11, i_12, i_13, i_14, i_15, i_16, i_17, i_18, i_19, i_20, i_21, i_22, i_23, i_24, i_25, i_26, i_27, i_28, i_29, i_30, i_31, i_32, i_33, i_34, i_35, i_36, i_37, i_38, i_39, i_40, i_41, i_42, i_43, i_44, i_45, i_46, i_47, i_48, i_49, i_50, i_51, i_52, i_53, i_54, i_55, i_56, i_57, i_58, i_59, i_60, i_61, i_62, i_63, i_64, i_65, i_66, i_67, i_68, i_69, i_70, i_72, i_77, i_78, i_80, i_81, i_82, i_83, i_84, i_87, i_88, i_96, i_98, i_100, i_101, i_103, i_118, i_119, i_126, i_133, i_137, i_144, i_154, i_158, i_160, i_190, i_199, i_200, i_207, i_209, i_213, i_229, i_252, i_254, i_255, i_260, i_282, i_303, i_304, i_321, i_348, i_435, i_492, i_522, i_1000, i_1023, i_1600, i_2903, iI_neg]
      refine ⟨fun hx => absurd hx (by omega), fun _ => s_X4_of (by omega) (by omega) ?_⟩
      simp only [iI_add]
      exact ih1
  unfold P_X4_letters
  exact ⟨_, lp (f 2).toNat 0 (by omega)⟩
theorem s_X4_litOf {mb w : Int} {f li wh go : Int → Int} {Q : Int32 → Prop} (hf : OK mb f) (hl : Ld f (f 2) li wh go) (w0 : 0 ≤ w) (w1 : w < f 2) (h : Q (iI (loS f w))) : P_X4_litOf (iI w) (aI li) (aI f) Q := by
  have h8 := hf.2.2.1
  obtain ⟨l0, l1⟩ := (hf.2.2.2.2.1 w w0 w1).1
  have lw := ld_rng hf (Int.le_refl _) hl w0 w1
  have lp : ∀ (m k : Nat), (k : Int) + m = f (4 + 6 * w + 0) → P_X4_litOf_L5 (iI w) (aI li) (aI f) Q (m + 1) (iI (sm (fun k => bi (decide (litS f w k ≠ -1))) k)) (iI k) := by
    intro m
    induction m with
    | zero =>
      intro k hk
      rw [P_X4_litOf_L5_s]
      unfold B_X4_litOf_L5
      simp only [i_m9, i_m1, i_0, i_1, i_2, i_3, i_4, i_5, i_6, i_7, i_8, i_9, i_10, i_11, i_12, i_13, i_14, i_15, i_16, i_17, i_18, i_19, i_20, i_21, i_22, i_23, i_24, i_25, i_26, i_27, i_28, i_29, i_30, i_31, i_32, i_33, i_34, i_35, i_36, i_37, i_38, i_39, i_40, i_41, i_42, i_43, i_44, i_45, i_46, i_47, i_48, i_49, i_50, i_51, i_52, i_53, i_54, i_55, i_56, i_57, i_58, i_59, i_60, i_61, i_62, i_63, i_64, i_65, i_66, i_67, i_68, i_69, i_70, i_72, i_77, i_78, i_80, i_81, i_82, i_83, i_84, i_87, i_88, i_96, i_98, i_100, i_101, i_103, i_118, i_119, i_126, i_133, i_137, i_144, i_154, i_158, i_160, i_190, i_199, i_200, i_207, i_209, i_213, i_229, i_252, i_254, i_255, i_260, i_282, i_303, i_304, i_321, i_348, i_435, i_492, i_522, i_1000, i_1023, i_1600, i_2903, iI_neg]
      refine s_X4_of (by omega) (by omega) ?_
      simp (disch := omega) only [iI_add, iI_sub, iI_mul, iI_neg, iI_lt, iI_le, iI_eq, iI_cl, aI_at, aI_up, aI_l0, aI_l1, aI_l2, aI_l3]
      refine ⟨fun _ => ?_, fun hx => absurd (by omega) hx⟩
      unfold loS at h
      rwa [show (f (4 + 6 * w + 0)).toNat = k by omega] at h
    | succ m ih =>
      intro k hk
      have ih1 := ih (k + 1) (by omega)
      rw [nsucc, sm_s, ← (hl w w0 w1).1 k (by omega) (by omega)] at ih1
      have hlr := lw.1 k (by omega) (by omega)
      rw [P_X4_litOf_L5_s]
      unfold B_X4_litOf_L5 P_X4_litOf_J38
      simp only [i_m9, i_m1, i_0, i_1, i_2, i_3, i_4, i_5, i_6, i_7, i_8, i_9, i_10, i_11, i_12, i_13, i_14, i_15, i_16, i_17, i_18, i_19, i_20, i_21, i_22, i_23, i_24, i_25, i_26, i_27, i_28, i_29, i_30, i_31, i_32, i_33, i_34, i_35, i_36, i_37, i_38, i_39, i_40, i_41, i_42, i_43, i_44, i_45, i_46, i_47, i_48, i_49, i_50, i_51, i_52, i_53, i_54, i_55, i_56, i_57, i_58, i_59, i_60, i_61, i_62, i_63, i_64, i_65, i_66, i_67, i_68, i_69, i_70, i_72, i_77, i_78, i_80, i_81, i_82, i_83, i_84, i_87, i_88, i_96, i_98, i_100, i_101, i_103, i_118, i_119, i_126, i_133, i_137, i_144, i_154, i_158, i_160, i_190, i_199, i_200, i_207, i_209, i_213, i_229, i_252, i_254, i_255, i_260, i_282, i_303, i_304, i_321, i_348, i_435, i_492, i_522, i_1000, i_1023, i_1600, i_2903, iI_neg]
      refine s_X4_of (by omega) (by omega) ?_
      simp (disch := omega) only [iI_add, iI_sub, iI_mul, iI_neg, iI_lt, iI_le, iI_eq, iI_cl, aI_at, aI_up, aI_l0, aI_l1, aI_l2, aI_l3]
      refine ⟨fun hx => absurd hx (by omega), fun _ => ⟨iI_in (by omega) (by omega) (by omega), fun h3 => ?_, fun h3 => ?_⟩⟩
      · rwa [bi_t (decide_eq_true h3)] at ih1
      · rwa [bi_f (decide_eq_false (fun q => q h3))] at ih1
  unfold P_X4_litOf
  exact ⟨_, lp (f (4 + 6 * w + 0)).toNat 0 (by omega)⟩
theorem s_X4_allLit {mb : Int} {f li wh go : Int → Int} {Q : Int32 → Prop} (hf : OK mb f) (hl : Ld f (f 2) li wh go) (h : Q (iI (alS f))) : P_X4_allLit (aI li) (aI f) Q := by
  have h8 := hf.2.2.1
  have lp : ∀ (m w : Nat), (w : Int) + m = f 2 → P_X4_allLit_L4 (aI li) (aI f) Q (m + 1) (iI (sm (loS f) w)) (iI w) := by
    intro m
    induction m with
    | zero =>
      intro w hw
      rw [P_X4_allLit_L4_s]
      unfold B_X4_allLit_L4
      simp (disch := omega) only [iI_add, iI_sub, iI_mul, iI_neg, iI_lt, iI_le, iI_eq, iI_cl, aI_at, aI_up, aI_l0, aI_l1, aI_l2, aI_l3]
      refine ⟨fun _ => ?_, fun hx => absurd (by omega) hx⟩
      unfold alS at h
      rwa [show (f 2).toNat = w by omega] at h
    | succ m ih =>
      intro w hw
      have ih1 := ih (w + 1) (by omega)
      rw [nsucc, sm_s] at ih1
      rw [P_X4_allLit_L4_s]
      unfold B_X4_allLit_L4
      simp (disch := omega) only [iI_add, iI_sub, iI_mul, iI_neg, iI_lt, iI_le, iI_eq, iI_cl, aI_at, aI_up, aI_l0, aI_l1, aI_l2, aI_l3, i_m9, i_m1, i_0, i_1, i_2, i_3, i_4, i_5, i_6, i_7, i_8, i_9, i_10, i_11, i_12, i_13, i_14, i_15, i_16, i_17, i_18, i_19, i_20, i_21, i_22, i_23, i_24, i_25, i_26, i_27, i_28, i_29, i_30, i_31, i_32, i_33, i_34, i_35, i_36, i_37, i_38, i_39, i_40, i_41, i_42, i_43, i_44, i_45, i_46, i_47, i_48, i_49, i_50, i_51, i_52, i_53, i_54, i_55, i_56, i_57, i_58, i_59, i_60, i_61, i_62, i_63, i_64, i_65, i_66, i_67, i_68, i_69, i_70, i_72, i_77, i_78, i_80, i_81, i_82, i_83, i_84, i_87, i_88, i_96, i_98, i_100, i_101, i_103, i_118, i_119, i_126, i_133, i_137, i_144, i_154, i_158, i_160, i_190, i_199, i_200, i_207, i_209, i_213, i_229, i_252, i_254, i_255, i_260, i_282, i_303, i_304, i_321, i_348, i_435, i_492, i_522, i_1000, i_1023, i_1600, i_2903, iI_neg]
      refine ⟨fun hx => absurd hx (by omega), fun _ => s_X4_litOf hf hl (by omega) (by omega) ?_⟩
      simp only [iI_add]
      exact ih1
  unfold P_X4_allLit
  exact ⟨_, lp (f 2).toNat 0 (by omega)⟩
theorem s_X4_wholes {mb : Int} {f li wh go : Int → Int} {Q : Int32 → Prop} (hf : OK mb f) (hl : Ld f (f 2) li wh go) (h : Q (iI (whS f))) : P_X4_wholes (aI wh) (aI f) Q := by
  have h8 := hf.2.2.1
  have lp : ∀ (m w : Nat), (w : Int) + m = f 2 → P_X4_wholes_L4 (aI wh) (aI f) Q (m + 1) (iI (sm (fun w => bi (decide (wlS f w ≠ -1))) w)) (iI w) := by
    intro m
    induction m with
    | zero =>
      intro w hw
      rw [P_X4_wholes_L4_s]
      unfold B_X4_wholes_L4
      simp (disch := omega) only [iI_add, iI_sub, iI_mul, iI_neg, iI_lt, iI_le, iI_eq, iI_cl, aI_at, aI_up, aI_l0, aI_l1, aI_l2, aI_l3]
      refine ⟨fun _ => ?_, fun hx => absurd (by omega) hx⟩
      unfold whS at h
      rwa [show (f 2).toNat = w by omega] at h
    | succ m ih =>
      intro w hw
      have ih1 := ih (w + 1) (by omega)
      rw [nsucc, sm_s, ← (hl w (by omega) (by omega)).2.1] at ih1
      have hlr := (ld_rng hf (Int.le_refl _) hl (w := w) (by omega) (by omega)).2.2
      rw [P_X4_wholes_L4_s]
      unfold B_X4_wholes_L4 P_X4_wholes_J27
      simp (disch := omega) only [iI_add, iI_sub, iI_mul, iI_neg, iI_lt, iI_le, iI_eq, iI_cl, aI_at, aI_up, aI_l0, aI_l1, aI_l2, aI_l3, i_m9, i_m1, i_0, i_1, i_2, i_3, i_4, i_5, i_6, i_7, i_8, i_9, i_10, i_11, i_12, i_13, i_14, i_15, i_16, i_17, i_18, i_19, i_20, i_21, i_22, i_23, i_24, i_25, i_26, i_27, i_28, i_29, i_30, i_31, i_32, i_33, i_34, i_35, i_36, i_37, i_38, i_39, i_40, i_41, i_42, i_43, i_44, i_45, i_46, i_47, i_48, i_49, i_50, i_51, i_52, i_53, i_54, i_55, i_56, i_57, i_58, i_59, i_60, i_61, i_62, i_63, i_64, i_65, i_66, i_67, i_68, i_69, i_70, i_72, i_77, i_78, i_80, i_81, i_82, i_83, i_84, i_87, i_88, i_96, i_98, i_100, i_101, i_103, i_118, i_119, i_126, i_133, i_137, i_144, i_154, i_158, i_160, i_190, i_199, i_200, i_207, i_209, i_213, i_229, i_252, i_254, i_255, i_260, i_282, i_303, i_304, i_321, i_348, i_435, i_492, i_522, i_1000, i_1023, i_1600, i_2903, iI_neg]
      refine ⟨fun hx => absurd hx (by omega), fun _ => ⟨iI_in (by omega) (by omega) (by omega), fun h3 => ?_, fun h3 => ?_⟩⟩
      · rwa [bi_t (decide_eq_true h3)] at ih1
      · rwa [bi_f (decide_eq_false (fun q => q h3))] at ih1
  unfold P_X4_wholes
  exact ⟨_, lp (f 2).toNat 0 (by omega)⟩
theorem s_X4_clashing {mb : Int} {f li wh go : Int → Int} {Q : Int32 → Prop} (hf : OK mb f) (hl : Ld f (f 2) li wh go) (h : Q (iI (cgS f))) : P_X4_clashing (aI li) (aI go) (aI f) Q := by
  have h8 := hf.2.2.1
  have lp : ∀ (m t : Nat), t + m = 200 → P_X4_clashing_L4 (aI li) (aI go) (aI f) Q (m + 1) (iI (sm (fun t => bi (decide (0 < cls f t))) t)) (iI t) := by
    intro m
    induction m with
    | zero =>
      intro t ht
      rw [P_X4_clashing_L4_s]
      unfold B_X4_clashing_L4
      simp (disch := omega) only [iI_add, iI_sub, iI_mul, iI_neg, iI_lt, iI_le, iI_eq, iI_cl, aI_at, aI_up, aI_l0, aI_l1, aI_l2, aI_l3, i_m9, i_m1, i_0, i_1, i_2, i_3, i_4, i_5, i_6, i_7, i_8, i_9, i_10, i_11, i_12, i_13, i_14, i_15, i_16, i_17, i_18, i_19, i_20, i_21, i_22, i_23, i_24, i_25, i_26, i_27, i_28, i_29, i_30, i_31, i_32, i_33, i_34, i_35, i_36, i_37, i_38, i_39, i_40, i_41, i_42, i_43, i_44, i_45, i_46, i_47, i_48, i_49, i_50, i_51, i_52, i_53, i_54, i_55, i_56, i_57, i_58, i_59, i_60, i_61, i_62, i_63, i_64, i_65, i_66, i_67, i_68, i_69, i_70, i_72, i_77, i_78, i_80, i_81, i_82, i_83, i_84, i_87, i_88, i_96, i_98, i_100, i_101, i_103, i_118, i_119, i_126, i_133, i_137, i_144, i_154, i_158, i_160, i_190, i_199, i_200, i_207, i_209, i_213, i_229, i_252, i_254, i_255, i_260, i_282, i_303, i_304, i_321, i_348, i_435, i_492, i_522, i_1000, i_1023, i_1600, i_2903, iI_neg]
      refine ⟨fun _ => ?_, fun hx => absurd (by omega) hx⟩
      unfold cgS at h
      rwa [show 200 = t by omega] at h
    | succ m ih =>
      intro t ht
      have ih1 := ih (t + 1) (by omega)
      rw [nsucc, sm_s] at ih1
      have hr := cls_rng h8 t (f 2).toNat (by omega)
      have hr2 : 0 ≤ cls f t ∧ cls f t ≤ 8 * (f 2).toNat := hr
      rw [P_X4_clashing_L4_s]
      unfold B_X4_clashing_L4 P_X4_clashing_J26
      simp (disch := omega) only [iI_add, iI_sub, iI_mul, iI_neg, iI_lt, iI_le, iI_eq, iI_cl, aI_at, aI_up, aI_l0, aI_l1, aI_l2, aI_l3, i_m9, i_m1, i_0, i_1, i_2, i_3, i_4, i_5, i_6, i_7, i_8, i_9, i_10, i_11, i_12, i_13, i_14, i_15, i_16, i_17, i_18, i_19, i_20, i_21, i_22, i_23, i_24, i_25, i_26, i_27, i_28, i_29, i_30, i_31, i_32, i_33, i_34, i_35, i_36, i_37, i_38, i_39, i_40, i_41, i_42, i_43, i_44, i_45, i_46, i_47, i_48, i_49, i_50, i_51, i_52, i_53, i_54, i_55, i_56, i_57, i_58, i_59, i_60, i_61, i_62, i_63, i_64, i_65, i_66, i_67, i_68, i_69, i_70, i_72, i_77, i_78, i_80, i_81, i_82, i_83, i_84, i_87, i_88, i_96, i_98, i_100, i_101, i_103, i_118, i_119, i_126, i_133, i_137, i_144, i_154, i_158, i_160, i_190, i_199, i_200, i_207, i_209, i_213, i_229, i_252, i_254, i_255, i_260, i_282, i_303, i_304, i_321, i_348, i_435, i_492, i_522, i_1000, i_1023, i_1600, i_2903, iI_neg]
      refine ⟨fun hx => absurd hx (by omega), fun _ => s_X4_clashes hf hl (by omega) (by omega) ?_⟩
      simp (disch := omega) only [iI_add, iI_sub, iI_mul, iI_neg, iI_lt, iI_le, iI_eq, iI_cl, aI_at, aI_up, aI_l0, aI_l1, aI_l2, aI_l3]
      refine ⟨fun h3 => ?_, fun h3 => ?_⟩
      · rwa [bi_f (decide_eq_false (by omega))] at ih1
      · rwa [bi_t (decide_eq_true (by omega))] at ih1
  unfold P_X4_clashing
  exact ⟨_, lp 200 0 (by omega)⟩
/-- the first beat in which one of the first k letters is lit; -1 -/
def fiN (f : Int → Int) (w : Int) : Nat → Int
  | 0 => -1
  | k + 1 => if litS f w k ≠ -1 ∧ (fiN f w k = -1 ∨ litS f w k < fiN f w k) then litS f w k else fiN f w k
theorem fiN_rng {mb w : Int} {f : Int → Int} (hf : OK mb f) (w0 : 0 ≤ w) (w1 : w < f 2) : ∀ k : Nat, -1 ≤ fiN f w k ∧ fiN f w k < 200
  | 0 => by unfold fiN; omega
  | k + 1 => by
    have h1 := fiN_rng hf w0 w1 k
    have h2 := litS_rng hf w0 w1 k
    have h3 := (hf.2.2.2.2.1 w w0 w1).2.2.2.1
    unfold fiN
    split <;> omega
theorem s_X4_firstLit {mb w : Int} {f li wh go : Int → Int} {Q : Int32 → Prop} (hf : OK mb f) (hl : Ld f (f 2) li wh go) (w0 : 0 ≤ w) (w1 : w < f 2) (h : Q (iI (fiN f w (f (4 + 6 * w + 0)).toNat))) : P_X4_firstLit (iI w) (aI f) (aI li) Q := by
  have h8 := hf.2.2.1
  obtain ⟨l0, l1⟩ := (hf.2.2.2.2.1 w w0 w1).1
  have lw := ld_rng hf (Int.le_refl _) hl w0 w1
  have lp : ∀ (m k : Nat), (k : Int) + m = f (4 + 6 * w + 0) → P_X4_firstLit_L4 (iI w) (aI f) (aI li) Q (m + 1) (iI (fiN f w k)) (iI k) := by
    intro m
    induction m with
    | zero =>
      intro k hk
      rw [P_X4_firstLit_L4_s]
      unfold B_X4_firstLit_L4
      simp only [i_m9, i_m1, i_0, i_1, i_2, i_3, i_4, i_5, i_6, i_7, i_8, i_9, i_10, i_11, i_12, i_13, i_14, i_15, i_16, i_17, i_18, i_19, i_20, i_21, i_22, i_23, i_24, i_25, i_26, i_27, i_28, i_29, i_30, i_31, i_32, i_33, i_34, i_35, i_36, i_37, i_38, i_39, i_40, i_41, i_42, i_43, i_44, i_45, i_46, i_47, i_48, i_49, i_50, i_51, i_52, i_53, i_54, i_55, i_56, i_57, i_58, i_59, i_60, i_61, i_62, i_63, i_64, i_65, i_66, i_67, i_68, i_69, i_70, i_72, i_77, i_78, i_80, i_81, i_82, i_83, i_84, i_87, i_88, i_96, i_98, i_100, i_101, i_103, i_118, i_119, i_126, i_133, i_137, i_144, i_154, i_158, i_160, i_190, i_199, i_200, i_207, i_209, i_213, i_229, i_252, i_254, i_255, i_260, i_282, i_303, i_304, i_321, i_348, i_435, i_492, i_522, i_1000, i_1023, i_1600, i_2903, iI_neg]
      refine s_X4_of (by omega) (by omega) ?_
      simp (disch := omega) only [iI_add, iI_sub, iI_mul, iI_neg, iI_lt, iI_le, iI_eq, iI_cl, aI_at, aI_up, aI_l0, aI_l1, aI_l2, aI_l3]
      refine ⟨fun _ => ?_, fun hx => absurd (by omega) hx⟩
      rwa [show (f (4 + 6 * w + 0)).toNat = k by omega] at h
    | succ m ih =>
      intro k hk
      have ih1 := ih (k + 1) (by omega)
      rw [nsucc, show fiN f w (k + 1) = (if litS f w k ≠ -1 ∧ (fiN f w k = -1 ∨ litS f w k < fiN f w k) then litS f w k else fiN f w k) from rfl, ← (hl w w0 w1).1 k (by omega) (by omega)] at ih1
      have hlr := lw.1 k (by omega) (by omega)
      have hfr := fiN_rng hf w0 w1 k
      rw [P_X4_firstLit_L4_s]
      unfold B_X4_firstLit_L4 P_X4_firstLit_J52 P_X4_firstLit_J47 P_X4_firstLit_J53
      simp only [i_m9, i_m1, i_0, i_1, i_2, i_3, i_4, i_5, i_6, i_7, i_8, i_9, i_10, i_11, i_12, i_13, i_14, i_15, i_16, i_17, i_18, i_19, i_20, i_21, i_22, i_23, i_24, i_25, i_26, i_27, i_28, i_29, i_30, i_31, i_32, i_33, i_34, i_35, i_36, i_37, i_38, i_39, i_40, i_41, i_42, i_43, i_44, i_45, i_46, i_47, i_48, i_49, i_50, i_51, i_52, i_53, i_54, i_55, i_56, i_57, i_58, i_59, i_60, i_61, i_62, i_63, i_64, i_65, i_66, i_67, i_68, i_69, i_70, i_72, i_77, i_78, i_80, i_81, i_82, i_83, i_84, i_87, i_88, i_96, i_98, i_100, i_101, i_103, i_118, i_119, i_126, i_133, i_137, i_144, i_154, i_158, i_160, i_190, i_199, i_200, i_207, i_209, i_213, i_229, i_252, i_254, i_255, i_260, i_282, i_303, i_304, i_321, i_348, i_435, i_492, i_522, i_1000, i_1023, i_1600, i_2903, iI_neg]
      refine s_X4_of (by omega) (by omega) ?_
      simp (disch := omega) only [iI_add, iI_sub, iI_mul, iI_neg, iI_lt, iI_le, iI_eq, iI_cl, aI_at, aI_up, aI_l0, aI_l1, aI_l2, aI_l3]
      refine ⟨fun hx => absurd hx (by omega), fun _ => ⟨iI_in (by omega) (by omega) (by omega), fun h3 => ?_, fun h3 => ⟨fun h4 => ?_, fun h4 => ⟨fun h5 => ?_, fun h5 => ?_⟩⟩⟩⟩
      · rwa [if_neg (by omega)] at ih1
      · rwa [if_pos (by omega)] at ih1
      · rwa [if_neg (by omega)] at ih1
      · rwa [if_pos (by omega)] at ih1
  unfold P_X4_firstLit
  exact ⟨_, lp (f (4 + 6 * w + 0)).toNat 0 (by omega)⟩
/-- a word's properties -/
def woS (f : Int → Int) (w i : Int) : Int := if i < 6 then f (4 + 6 * w + i) else if i = 6 then fiN f w (f (4 + 6 * w + 0)).toNat else if i = 7 then wlS f w else if i = 8 then goS f w else loS f w
theorem s_X4_ofWord {mb w i : Int} {f li wh go : Int → Int} {Q : Int32 → Prop} (hf : OK mb f) (hl : Ld f (f 2) li wh go) (w0 : 0 ≤ w) (w1 : w < f 2) (i0 : 0 ≤ i) (i1 : i ≤ 9) (h : Q (iI (woS f w i))) : P_X4_ofWord (iI w) (iI i) (aI f) (aI li) (aI wh) (aI go) Q := by
  have h8 := hf.2.2.1
  obtain ⟨-, e1, e2⟩ := hl w w0 w1
  unfold woS at h
  unfold P_X4_ofWord
  simp (disch := omega) only [iI_add, iI_sub, iI_mul, iI_neg, iI_lt, iI_le, iI_eq, iI_cl, aI_at, aI_up, aI_l0, aI_l1, aI_l2, aI_l3, i_m9, i_m1, i_0, i_1, i_2, i_3, i_4, i_5, i_6, i_7, i_8, i_9, i_10, i_11, i_12, i_13, i_14, i_15, i_16, i_17, i_18, i_19, i_20, i_21, i_22, i_23, i_24, i_25, i_26, i_27, i_28, i_29, i_30, i_31, i_32, i_33, i_34, i_35, i_36, i_37, i_38, i_39, i_40, i_41, i_42, i_43, i_44, i_45, i_46, i_47, i_48, i_49, i_50, i_51, i_52, i_53, i_54, i_55, i_56, i_57, i_58, i_59, i_60, i_61, i_62, i_63, i_64, i_65, i_66, i_67, i_68, i_69, i_70, i_72, i_77, i_78, i_80, i_81, i_82, i_83, i_84, i_87, i_88, i_96, i_98, i_100, i_101, i_103, i_118, i_119, i_126, i_133, i_137, i_144, i_154, i_158, i_160, i_190, i_199, i_200, i_207, i_209, i_213, i_229, i_252, i_254, i_255, i_260, i_282, i_303, i_304, i_321, i_348, i_435, i_492, i_522, i_1000, i_1023, i_1600, i_2903, iI_neg]
  refine ⟨fun h1 => ⟨fun h2 => ⟨fun h3 => ⟨fun h4 => ?_, fun h4 => ⟨iI_in w0 (by omega) (by omega), ?_⟩⟩, fun h3 => ⟨iI_in w0 (by omega) (by omega), ?_⟩⟩, fun h2 => ?_⟩, fun h1 => ?_⟩
  · rw [if_neg (by omega), if_neg h2, if_neg h3, if_neg h4] at h
    exact s_X4_litOf hf hl w0 w1 h
  · rwa [if_neg (by omega), if_neg h2, if_neg h3, if_pos h4, ← e2] at h
  · rwa [if_neg (by omega), if_neg h2, if_pos h3, ← e1] at h
  · rw [if_neg (by omega), if_pos h2] at h
    exact s_X4_firstLit hf hl w0 w1 h
  · rw [if_pos (by omega)] at h
    exact s_X4_of (by omega) (by omega) h
def soS (f : Int → Int) (w t : Int) : Int := sm (fun k => bi (snS f w k t)) (f (4 + 6 * w + 0)).toNat
theorem so_rng {mb w : Int} {f : Int → Int} (hf : OK mb f) (w0 : 0 ≤ w) (w1 : w < f 2) (t : Int) : 0 ≤ soS f w t ∧ soS f w t ≤ 12 := by
  have hw := (hf.2.2.2.2.1 w w0 w1).1
  have := bsm_rng (fun k => snS f w k t) (f (4 + 6 * w + 0)).toNat
  unfold soS; omega
theorem s_X4_seenOf {mb w t : Int} {f li wh go : Int → Int} {Q : Int32 → Prop} (hf : OK mb f) (hl : Ld f (f 2) li wh go) (w0 : 0 ≤ w) (w1 : w < f 2) (t0 : 0 ≤ t) (t1 : t ≤ 199) (h : Q (iI (soS f w t))) : P_X4_seenOf (iI w) (iI t) (aI f) (aI li) (aI go) Q := by
  have h8 := hf.2.2.1
  obtain ⟨l0, l1⟩ := (hf.2.2.2.2.1 w w0 w1).1
  have lw := ld_rng hf (Int.le_refl _) hl w0 w1
  have lp : ∀ (m k : Nat), (k : Int) + m = f (4 + 6 * w + 0) → P_X4_seenOf_L5 (iI w) (iI t) (aI f) (aI li) (aI go) Q (m + 1) (iI (sm (fun k => bi (snS f w k t)) k)) (iI k) := by
    intro m
    induction m with
    | zero =>
      intro k hk
      rw [P_X4_seenOf_L5_s]
      unfold B_X4_seenOf_L5
      simp only [i_m9, i_m1, i_0, i_1, i_2, i_3, i_4, i_5, i_6, i_7, i_8, i_9, i_10, i_11, i_12, i_13, i_14, i_15, i_16, i_17, i_18, i_19, i_20, i_21, i_22, i_23, i_24, i_25, i_26, i_27, i_28, i_29, i_30, i_31, i_32, i_33, i_34, i_35, i_36, i_37, i_38, i_39, i_40, i_41, i_42, i_43, i_44, i_45, i_46, i_47, i_48, i_49, i_50, i_51, i_52, i_53, i_54, i_55, i_56, i_57, i_58, i_59, i_60, i_61, i_62, i_63, i_64, i_65, i_66, i_67, i_68, i_69, i_70, i_72, i_77, i_78, i_80, i_81, i_82, i_83, i_84, i_87, i_88, i_96, i_98, i_100, i_101, i_103, i_118, i_119, i_126, i_133, i_137, i_144, i_154, i_158, i_160, i_190, i_199, i_200, i_207, i_209, i_213, i_229, i_252, i_254, i_255, i_260, i_282, i_303, i_304, i_321, i_348, i_435, i_492, i_522, i_1000, i_1023, i_1600, i_2903, iI_neg]
      refine s_X4_of (by omega) (by omega) ?_
      simp (disch := omega) only [iI_add, iI_sub, iI_mul, iI_neg, iI_lt, iI_le, iI_eq, iI_cl, aI_at, aI_up, aI_l0, aI_l1, aI_l2, aI_l3]
      refine ⟨fun _ => ?_, fun hx => absurd (by omega) hx⟩
      unfold soS at h
      rwa [show (f (4 + 6 * w + 0)).toNat = k by omega] at h
    | succ m ih =>
      intro k hk
      have ih1 := ih (k + 1) (by omega)
      rw [nsucc, sm_s] at ih1
      rw [P_X4_seenOf_L5_s]
      unfold B_X4_seenOf_L5 P_X4_seenOf_J36
      simp only [i_m9, i_m1, i_0, i_1, i_2, i_3, i_4, i_5, i_6, i_7, i_8, i_9, i_10, i_11, i_12, i_13, i_14, i_15, i_16, i_17, i_18, i_19, i_20, i_21, i_22, i_23, i_24, i_25, i_26, i_27, i_28, i_29, i_30, i_31, i_32, i_33, i_34, i_35, i_36, i_37, i_38, i_39, i_40, i_41, i_42, i_43, i_44, i_45, i_46, i_47, i_48, i_49, i_50, i_51, i_52, i_53, i_54, i_55, i_56, i_57, i_58, i_59, i_60, i_61, i_62, i_63, i_64, i_65, i_66, i_67, i_68, i_69, i_70, i_72, i_77, i_78, i_80, i_81, i_82, i_83, i_84, i_87, i_88, i_96, i_98, i_100, i_101, i_103, i_118, i_119, i_126, i_133, i_137, i_144, i_154, i_158, i_160, i_190, i_199, i_200, i_207, i_209, i_213, i_229, i_252, i_254, i_255, i_260, i_282, i_303, i_304, i_321, i_348, i_435, i_492, i_522, i_1000, i_1023, i_1600, i_2903, iI_neg]
      refine s_X4_of (by omega) (by omega) ?_
      simp (disch := omega) only [iI_add, iI_sub, iI_mul, iI_neg, iI_lt, iI_le, iI_eq, iI_cl, aI_at, aI_up, aI_l0, aI_l1, aI_l2, aI_l3]
      refine ⟨fun hx => absurd hx (by omega), fun _ => s_X4_isSeen w0 (by omega) (by omega) (by omega) t0 t1 (lw.1 k (by omega) (by omega)) lw.2.1 ?_⟩
      rw [sn_S hl w0 w1 (by omega) (by omega)]
      refine br_b (fun h3 => ?_) (fun h3 => ?_)
      · rwa [bi_f h3] at ih1
      · rwa [bi_t h3] at ih1
  unfold P_X4_seenOf
  exact ⟨_, lp (f (4 + 6 * w + 0)).toNat 0 (by omega)⟩
