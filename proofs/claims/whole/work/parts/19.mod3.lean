/-- the latest of the first n beats in which a letter could be lit; -1 -/
def latN (f : Int → Int) (w k : Int) : Nat → Int
  | 0 => -1
  | n + 1 => if can f w k (n : Int) = true then (n : Int) else latN f w k n
theorem latN_rng (f : Int → Int) (w k : Int) : ∀ n : Nat, -1 ≤ latN f w k n ∧ latN f w k n < n
  | 0 => by unfold latN; omega
  | n + 1 => by
    have := latN_rng f w k n
    unfold latN
    split <;> omega
theorem latN_early {f : Int → Int} {w k : Int} : ∀ {n : Nat}, (n : Int) ≤ f (4 + 6 * w + 3) → latN f w k n = -1
  | 0, _ => rfl
  | n + 1, h => by
    unfold latN
    rw [if_neg (by unfold can; rw [canN_early (by omega)]; decide)]
    exact latN_early (by omega)
/-- whether in beat t each of the first k letters can be lit, or could be in one of the beats remembered -/
def alN (f : Int → Int) (w : Int) (t : Nat) : Nat → Bool
  | 0 => true
  | k + 1 => alN f w t k && (decide (latN f w k (t + 1) ≠ -1) && decide ((t : Int) - f 1 ≤ latN f w k (t + 1)))
def tog (f : Int → Int) (w : Int) : Int := frs (fun t => alN f w t.toNat (f (4 + 6 * w + 0)).toNat) (200 - f (4 + 6 * w + 3)).toNat (f (4 + 6 * w + 3))
theorem s_X4_together_L2 {mb w : Int} {f : Int → Int} {K : (Nat → Int32) → Prop} (hf : OK mb f) (w0 : 0 ≤ w) (w1 : w < f 2) (hK : ∀ la : Int → Int, (∀ j, 0 ≤ j → j < f (4 + 6 * w + 0) → la j = -1) → K (aI la)) :
    ∀ (m : Nat) (k : Int) (la : Int → Int), 0 ≤ k → k + m = f (4 + 6 * w + 0) → (∀ j, 0 ≤ j → j < k → la j = -1) → P_X4_together_L2 (iI w) (aI f) K (m + 1) (iI k) (aI la) := by
  have hw := hf.2.2.2.2.1 w w0 w1
  have h8 := hf.2.2.1
  obtain ⟨⟨l0, l1⟩, -⟩ := id hw
  intro m
  induction m with
  | zero =>
    intro k la k0 hk hl
    rw [P_X4_together_L2_s]
    unfold B_X4_together_L2
    simp only [i_m9, i_m1, i_0, i_1, i_2, i_3, i_4, i_5, i_6, i_7, i_8, i_9, i_10, i_11, i_12, i_13, i_14, i_15, i_16, i_17, i_18, i_19, i_20, i_21, i_22, i_23, i_24, i_25, i_26, i_27, i_28, i_29, i_30, i_31, i_32, i_33, i_34, i_35, i_36, i_37, i_38, i_39, i_40, i_41, i_42, i_43, i_44, i_45, i_46, i_47, i_48, i_49, i_50, i_51, i_52, i_53, i_54, i_55, i_56, i_57, i_58, i_59, i_60, i_61, i_62, i_63, i_64, i_65, i_66, i_67, i_68, i_69, i_70, i_72, i_77, i_78, i_80, i_81, i_82, i_83, i_84, i_87, i_88, i_96, i_98, i_100, i_101, i_103, i_118, i_119, i_126, i_133, i_137, i_144, i_154, i_158, i_160, i_190, i_199, i_200, i_207, i_209, i_213, i_229, i_252, i_254, i_255, i_260, i_282, i_303, i_304, i_321, i_348, i_435, i_492, i_522, i_1000, i_1023, i_1600, i_2903, iI_neg]
    refine s_X4_of (by omega) (by omega) ?_
    simp (disch := omega) only [iI_add, iI_sub, iI_mul, iI_neg, iI_lt, iI_le, iI_eq, iI_cl, aI_at, aI_up, aI_l0, aI_l1, aI_l2, aI_l3]
    exact ⟨fun _ => hK la (fun j h1 h2 => hl j h1 (by omega)), fun hx => absurd (by omega) hx⟩
  | succ m ih =>
    intro k la k0 hk hl
    rw [P_X4_together_L2_s]
    unfold B_X4_together_L2
    simp only [i_m9, i_m1, i_0, i_1, i_2, i_3, i_4, i_5, i_6, i_7, i_8, i_9, i_10, i_11, i_12, i_13, i_14, i_15, i_16, i_17, i_18, i_19, i_20, i_21, i_22, i_23, i_24, i_25, i_26, i_27, i_28, i_29, i_30, i_31, i_32, i_33, i_34, i_35, i_36, i_37, i_38, i_39, i_40, i_41, i_42, i_43, i_44, i_45, i_46, i_47, i_48, i_49, i_50, i_51, i_52, i_53, i_54, i_55, i_56, i_57, i_58, i_59, i_60, i_61, i_62, i_63, i_64, i_65, i_66, i_67, i_68, i_69, i_70, i_72, i_77, i_78, i_80, i_81, i_82, i_83, i_84, i_87, i_88, i_96, i_98, i_100, i_101, i_103, i_118, i_119, i_126, i_133, i_137, i_144, i_154, i_158, i_160, i_190, i_199, i_200, i_207, i_209, i_213, i_229, i_252, i_254, i_255, i_260, i_282, i_303, i_304, i_321, i_348, i_435, i_492, i_522, i_1000, i_1023, i_1600, i_2903, iI_neg]
    refine s_X4_of (by omega) (by omega) ?_
    simp (disch := omega) only [iI_add, iI_sub, iI_mul, iI_neg, iI_lt, iI_le, iI_eq, iI_cl, aI_at, aI_up, aI_l0, aI_l1, aI_l2, aI_l3]
    refine ⟨fun hx => absurd hx (by omega), fun _ => ⟨iI_in k0 (by omega) (by omega), ?_⟩⟩
    refine ih (k + 1) _ (by omega) (by omega) (fun j h1 h2 => ?_)
    by_cases e : j = k
    · rw [e, up_eq]
    · rw [up_ne e]; exact hl j h1 (by omega)
theorem s_X4_together_L45 {mb w : Int} {t : Nat} {f : Int → Int} {K : Int32 → (Nat → Int32) → Prop} (hf : OK mb f) (hmb : mb ≤ 7) (w0 : 0 ≤ w) (w1 : w < f 2) (t1 : (t : Int) ≤ 199)
    (hK : ∀ la : Int → Int, (∀ j : Nat, (j : Int) < f (4 + 6 * w + 0) → la j = latN f w j (t + 1)) → K (iI (bi (alN f w t (f (4 + 6 * w + 0)).toNat))) (aI la)) :
    ∀ (m k : Nat) (la : Int → Int), (k : Int) + m = f (4 + 6 * w + 0) → (∀ j : Nat, j < k → la j = latN f w j (t + 1)) → (∀ j : Nat, k ≤ j → (j : Int) < f (4 + 6 * w + 0) → la j = latN f w j t) →
      P_X4_together_L45 (iI w) (iI t) (aI f) K (m + 1) (iI (bi (alN f w t k))) (iI k) (aI la) := by
  have hw := hf.2.2.2.2.1 w w0 w1
  have h8 := hf.2.2.1
  have hs1 := hf.2.1
  obtain ⟨⟨l0, l1⟩, -⟩ := id hw
  intro m
  induction m with
  | zero =>
    intro k la hk h1 h2
    rw [P_X4_together_L45_s]
    unfold B_X4_together_L45
    simp only [i_m9, i_m1, i_0, i_1, i_2, i_3, i_4, i_5, i_6, i_7, i_8, i_9, i_10, i_11, i_12, i_13, i_14, i_15, i_16, i_17, i_18, i_19, i_20, i_21, i_22, i_23, i_24, i_25, i_26, i_27, i_28, i_29, i_30, i_31, i_32, i_33, i_34, i_35, i_36, i_37, i_38, i_39, i_40, i_41, i_42, i_43, i_44, i_45, i_46, i_47, i_48, i_49, i_50, i_51, i_52, i_53, i_54, i_55, i_56, i_57, i_58, i_59, i_60, i_61, i_62, i_63, i_64, i_65, i_66, i_67, i_68, i_69, i_70, i_72, i_77, i_78, i_80, i_81, i_82, i_83, i_84, i_87, i_88, i_96, i_98, i_100, i_101, i_103, i_118, i_119, i_126, i_133, i_137, i_144, i_154, i_158, i_160, i_190, i_199, i_200, i_207, i_209, i_213, i_229, i_252, i_254, i_255, i_260, i_282, i_303, i_304, i_321, i_348, i_435, i_492, i_522, i_1000, i_1023, i_1600, i_2903, iI_neg]
    refine s_X4_of (by omega) (by omega) ?_
    simp (disch := omega) only [iI_add, iI_sub, iI_mul, iI_neg, iI_lt, iI_le, iI_eq, iI_cl, aI_at, aI_up, aI_l0, aI_l1, aI_l2, aI_l3]
    refine ⟨fun _ => ?_, fun hx => absurd (by omega) hx⟩
    have := hK la (fun j hj => h1 j (by omega))
    rwa [show (f (4 + 6 * w + 0)).toNat = k by omega] at this
  | succ m ih =>
    intro k la hk h1 h2
    have hr := latN_rng f w k (t + 1)
    -- behind the write
    have core : ∀ la2 : Int → Int, la2 = up la k (latN f w k (t + 1)) → P_X4_together_J84 (iI t) (aI f) (P_X4_together_L45 (iI w) (iI t) (aI f) K (m + 1)) (iI (bi (alN f w t k))) (iI k) (iI (latN f w k (t + 1))) (iI k) (aI la) := by
      intro la2 hla2
      have ih1 := ih (k + 1) la2 (by omega) (fun j hj => by
        by_cases e : (j : Int) = k
        · rw [hla2, e, up_eq]
        · rw [hla2, up_ne e]; exact h1 j (by omega)) (fun j hj1 hj2 => by
        rw [hla2, up_ne (by omega)]; exact h2 j (by omega) hj2)
      have e1 : (((k + 1 : Nat) : Int)) = (k : Int) + 1 := by omega
      have e3 : alN f w t (k + 1) = (alN f w t k && (decide (latN f w k (t + 1) ≠ -1) && decide ((t : Int) - f 1 ≤ latN f w k (t + 1)))) := rfl
      rw [e1, e3] at ih1
      unfold P_X4_together_J84
      simp (disch := omega) only [iI_add, iI_sub, iI_mul, iI_neg, iI_lt, iI_le, iI_eq, iI_cl, aI_at, aI_up, aI_l0, aI_l1, aI_l2, aI_l3, i_m9, i_m1, i_0, i_1, i_2, i_3, i_4, i_5, i_6, i_7, i_8, i_9, i_10, i_11, i_12, i_13, i_14, i_15, i_16, i_17, i_18, i_19, i_20, i_21, i_22, i_23, i_24, i_25, i_26, i_27, i_28, i_29, i_30, i_31, i_32, i_33, i_34, i_35, i_36, i_37, i_38, i_39, i_40, i_41, i_42, i_43, i_44, i_45, i_46, i_47, i_48, i_49, i_50, i_51, i_52, i_53, i_54, i_55, i_56, i_57, i_58, i_59, i_60, i_61, i_62, i_63, i_64, i_65, i_66, i_67, i_68, i_69, i_70, i_72, i_77, i_78, i_80, i_81, i_82, i_83, i_84, i_87, i_88, i_96, i_98, i_100, i_101, i_103, i_118, i_119, i_126, i_133, i_137, i_144, i_154, i_158, i_160, i_190, i_199, i_200, i_207, i_209, i_213, i_229, i_252, i_254, i_255, i_260, i_282, i_303, i_304, i_321, i_348, i_435, i_492, i_522, i_1000, i_1023, i_1600, i_2903, iI_neg]
      rw [← hla2]
      have e4 : la2 k = latN f w k (t + 1) := by rw [hla2, up_eq]
      simp (disch := omega) only [iI_add, iI_sub, iI_mul, iI_neg, iI_lt, iI_le, iI_eq, iI_cl, aI_at, aI_up, aI_l0, aI_l1, aI_l2, aI_l3, e4]
      refine ⟨iI_in (by omega) (by omega) (by omega), br_b (fun h3 => ?_) (fun h3 => ?_)⟩
      · rw [h3, Bool.false_and] at ih1
        unfold P_X4_together_J120 P_X4_together_J121
        simp only [iI_add, i_m9, i_m1, i_0, i_1, i_2, i_3, i_4, i_5, i_6, i_7, i_8, i_9, i_10, i_11, i_12, i_13, i_14, i_15, i_16, i_17, i_18, i_19, i_20, i_21, i_22, i_23, i_24, i_25, i_26, i_27, i_28, i_29, i_30, i_31, i_32, i_33, i_34, i_35, i_36, i_37, i_38, i_39, i_40, i_41, i_42, i_43, i_44, i_45, i_46, i_47, i_48, i_49, i_50, i_51, i_52, i_53, i_54, i_55, i_56, i_57, i_58, i_59, i_60, i_61, i_62, i_63, i_64, i_65, i_66, i_67, i_68, i_69, i_70, i_72, i_77, i_78, i_80, i_81, i_82, i_83, i_84, i_87, i_88, i_96, i_98, i_100, i_101, i_103, i_118, i_119, i_126, i_133, i_137, i_144, i_154, i_158, i_160, i_190, i_199, i_200, i_207, i_209, i_213, i_229, i_252, i_254, i_255, i_260, i_282, i_303, i_304, i_321, i_348, i_435, i_492, i_522, i_1000, i_1023, i_1600, i_2903, iI_neg]
        exact ih1
      · rw [h3, Bool.true_and] at ih1
        refine ⟨iI_in (by omega) (by omega) (by omega), fun h4 => ?_, fun h4 => ⟨iI_in (by omega) (by omega) (by omega), fun h5 => ?_, fun h5 => ?_⟩⟩
        · rw [decide_eq_false (p := latN f w k (t + 1) ≠ -1) (by omega)] at ih1
          unfold P_X4_together_J120 P_X4_together_J121
          simp only [iI_add, i_m9, i_m1, i_0, i_1, i_2, i_3, i_4, i_5, i_6, i_7, i_8, i_9, i_10, i_11, i_12, i_13, i_14, i_15, i_16, i_17, i_18, i_19, i_20, i_21, i_22, i_23, i_24, i_25, i_26, i_27, i_28, i_29, i_30, i_31, i_32, i_33, i_34, i_35, i_36, i_37, i_38, i_39, i_40, i_41, i_42, i_43, i_44, i_45, i_46, i_47, i_48, i_49, i_50, i_51, i_52, i_53, i_54, i_55, i_56, i_57, i_58, i_59, i_60, i_61, i_62, i_63, i_64, i_65, i_66, i_67, i_68, i_69, i_70, i_72, i_77, i_78, i_80, i_81, i_82, i_83, i_84, i_87, i_88, i_96, i_98, i_100, i_101, i_103, i_118, i_119, i_126, i_133, i_137, i_144, i_154, i_158, i_160, i_190, i_199, i_200, i_207, i_209, i_213, i_229, i_252, i_254, i_255, i_260, i_282, i_303, i_304, i_321, i_348, i_435, i_492, i_522, i_1000, i_1023, i_1600, i_2903, iI_neg]
          exact ih1
        · rw [decide_eq_false (p := (t : Int) - f 1 ≤ latN f w k (t + 1)) (by omega), Bool.and_false] at ih1
          unfold P_X4_together_J120 P_X4_together_J121
          simp only [iI_add, i_m9, i_m1, i_0, i_1, i_2, i_3, i_4, i_5, i_6, i_7, i_8, i_9, i_10, i_11, i_12, i_13, i_14, i_15, i_16, i_17, i_18, i_19, i_20, i_21, i_22, i_23, i_24, i_25, i_26, i_27, i_28, i_29, i_30, i_31, i_32, i_33, i_34, i_35, i_36, i_37, i_38, i_39, i_40, i_41, i_42, i_43, i_44, i_45, i_46, i_47, i_48, i_49, i_50, i_51, i_52, i_53, i_54, i_55, i_56, i_57, i_58, i_59, i_60, i_61, i_62, i_63, i_64, i_65, i_66, i_67, i_68, i_69, i_70, i_72, i_77, i_78, i_80, i_81, i_82, i_83, i_84, i_87, i_88, i_96, i_98, i_100, i_101, i_103, i_118, i_119, i_126, i_133, i_137, i_144, i_154, i_158, i_160, i_190, i_199, i_200, i_207, i_209, i_213, i_229, i_252, i_254, i_255, i_260, i_282, i_303, i_304, i_321, i_348, i_435, i_492, i_522, i_1000, i_1023, i_1600, i_2903, iI_neg]
          exact ih1
        · rw [decide_eq_true (p := latN f w k (t + 1) ≠ -1) (by omega), decide_eq_true (p := (t : Int) - f 1 ≤ latN f w k (t + 1)) (by omega)] at ih1
          unfold P_X4_together_J121
          simp only [iI_add, i_m9, i_m1, i_0, i_1, i_2, i_3, i_4, i_5, i_6, i_7, i_8, i_9, i_10, i_11, i_12, i_13, i_14, i_15, i_16, i_17, i_18, i_19, i_20, i_21, i_22, i_23, i_24, i_25, i_26, i_27, i_28, i_29, i_30, i_31, i_32, i_33, i_34, i_35, i_36, i_37, i_38, i_39, i_40, i_41, i_42, i_43, i_44, i_45, i_46, i_47, i_48, i_49, i_50, i_51, i_52, i_53, i_54, i_55, i_56, i_57, i_58, i_59, i_60, i_61, i_62, i_63, i_64, i_65, i_66, i_67, i_68, i_69, i_70, i_72, i_77, i_78, i_80, i_81, i_82, i_83, i_84, i_87, i_88, i_96, i_98, i_100, i_101, i_103, i_118, i_119, i_126, i_133, i_137, i_144, i_154, i_158, i_160, i_190, i_199, i_200, i_207, i_209, i_213, i_229, i_252, i_254, i_255, i_260, i_282, i_303, i_304, i_321, i_348, i_435, i_492, i_522, i_1000, i_1023, i_1600, i_2903, iI_neg]
          exact ih1
    rw [P_X4_together_L45_s]
    unfold B_X4_together_L45
    simp only [i_m9, i_m1, i_0, i_1, i_2, i_3, i_4, i_5, i_6, i_7, i_8, i_9, i_10, i_11, i_12, i_13, i_14, i_15, i_16, i_17, i_18, i_19, i_20, i_21, i_22, i_23, i_24, i_25, i_26, i_27, i_28, i_29, i_30, i_31, i_32, i_33, i_34, i_35, i_36, i_37, i_38, i_39, i_40, i_41, i_42, i_43, i_44, i_45, i_46, i_47, i_48, i_49, i_50, i_51, i_52, i_53, i_54, i_55, i_56, i_57, i_58, i_59, i_60, i_61, i_62, i_63, i_64, i_65, i_66, i_67, i_68, i_69, i_70, i_72, i_77, i_78, i_80, i_81, i_82, i_83, i_84, i_87, i_88, i_96, i_98, i_100, i_101, i_103, i_118, i_119, i_126, i_133, i_137, i_144, i_154, i_158, i_160, i_190, i_199, i_200, i_207, i_209, i_213, i_229, i_252, i_254, i_255, i_260, i_282, i_303, i_304, i_321, i_348, i_435, i_492, i_522, i_1000, i_1023, i_1600, i_2903, iI_neg]
    refine s_X4_of (by omega) (by omega) ?_
    simp (disch := omega) only [iI_add, iI_sub, iI_mul, iI_neg, iI_lt, iI_le, iI_eq, iI_cl, aI_at, aI_up, aI_l0, aI_l1, aI_l2, aI_l3]
    refine ⟨fun hx => absurd hx (by omega), fun _ => ?_⟩
    refine s_X4_canBe hf hmb w0 w1 (by omega) (by omega) (by omega) t1 ?_
    refine br_b (fun h3 => ⟨iI_in (by omega) (by omega) (by omega), ?_⟩) (fun h3 => ?_)
    · have e : la k = latN f w k (t + 1) := by
        rw [h2 k (Nat.le_refl _) (by omega)]
        show _ = (if can f w k (t : Int) = true then (t : Int) else latN f w k t)
        rw [if_neg (by rw [h3]; decide)]
      rw [e]
      exact core _ rfl
    · have e : latN f w k (t + 1) = (t : Int) := by
        show (if can f w k (t : Int) = true then (t : Int) else latN f w k t) = _
        rw [if_pos h3]
      have := core _ rfl
      rw [e] at this
      exact this
theorem s_X4_together_L32 {mb w : Int} {f : Int → Int} {Q : Int32 → (Nat → Int32) → Prop} (hf : OK mb f) (hmb : mb ≤ 7) (w0 : 0 ≤ w) (w1 : w < f 2) :
    ∀ (m t : Nat) (la : Int → Int), t + m = 200 → (∀ j : Nat, (j : Int) < f (4 + 6 * w + 0) → la j = latN f w j t) → (∀ la : Int → Int, Q (iI (frs (fun t => alN f w t.toNat (f (4 + 6 * w + 0)).toNat) m t)) (aI la)) → P_X4_together_L32 (iI w) (aI f) Q (m + 1) (iI t) (aI la) := by
  have hw := hf.2.2.2.2.1 w w0 w1
  have h8 := hf.2.2.1
  obtain ⟨⟨l0, l1⟩, -⟩ := id hw
  intro m
  induction m with
  | zero =>
    intro t la ht hla h
    rw [P_X4_together_L32_s]
    unfold B_X4_together_L32
    simp (disch := omega) only [iI_add, iI_sub, iI_mul, iI_neg, iI_lt, iI_le, iI_eq, iI_cl, aI_at, aI_up, aI_l0, aI_l1, aI_l2, aI_l3, i_m9, i_m1, i_0, i_1, i_2, i_3, i_4, i_5, i_6, i_7, i_8, i_9, i_10, i_11, i_12, i_13, i_14, i_15, i_16, i_17, i_18, i_19, i_20, i_21, i_22, i_23, i_24, i_25, i_26, i_27, i_28, i_29, i_30, i_31, i_32, i_33, i_34, i_35, i_36, i_37, i_38, i_39, i_40, i_41, i_42, i_43, i_44, i_45, i_46, i_47, i_48, i_49, i_50, i_51, i_52, i_53, i_54, i_55, i_56, i_57, i_58, i_59, i_60, i_61, i_62, i_63, i_64, i_65, i_66, i_67, i_68, i_69, i_70, i_72, i_77, i_78, i_80, i_81, i_82, i_83, i_84, i_87, i_88, i_96, i_98, i_100, i_101, i_103, i_118, i_119, i_126, i_133, i_137, i_144, i_154, i_158, i_160, i_190, i_199, i_200, i_207, i_209, i_213, i_229, i_252, i_254, i_255, i_260, i_282, i_303, i_304, i_321, i_348, i_435, i_492, i_522, i_1000, i_1023, i_1600, i_2903, iI_neg]
    exact ⟨fun _ => h la, fun hx => absurd (by omega) hx⟩
  | succ m ih =>
    intro t la ht hla h
    rw [P_X4_together_L32_s]
    unfold B_X4_together_L32
    simp (disch := omega) only [iI_add, iI_sub, iI_mul, iI_neg, iI_lt, iI_le, iI_eq, iI_cl, aI_at, aI_up, aI_l0, aI_l1, aI_l2, aI_l3, i_m9, i_m1, i_0, i_1, i_2, i_3, i_4, i_5, i_6, i_7, i_8, i_9, i_10, i_11, i_12, i_13, i_14, i_15, i_16, i_17, i_18, i_19, i_20, i_21, i_22, i_23, i_24, i_25, i_26, i_27, i_28, i_29, i_30, i_31, i_32, i_33, i_34, i_35, i_36, i_37, i_38, i_39, i_40, i_41, i_42, i_43, i_44, i_45, i_46, i_47, i_48, i_49, i_50, i_51, i_52, i_53, i_54, i_55, i_56, i_57, i_58, i_59, i_60, i_61, i_62, i_63, i_64, i_65, i_66, i_67, i_68, i_69, i_70, i_72, i_77, i_78, i_80, i_81, i_82, i_83, i_84, i_87, i_88, i_96, i_98, i_100, i_101, i_103, i_118, i_119, i_126, i_133, i_137, i_144, i_154, i_158, i_160, i_190, i_199, i_200, i_207, i_209, i_213, i_229, i_252, i_254, i_255, i_260, i_282, i_303, i_304, i_321, i_348, i_435, i_492, i_522, i_1000, i_1023, i_1600, i_2903, iI_neg]
    refine ⟨fun hx => absurd hx (by omega), fun _ => ?_⟩
    refine ⟨(f (4 + 6 * w + 0)).toNat + 1, ?_⟩
    have := s_X4_together_L45 (K := fun x4 la => (x4 = iI 0 → P_X4_together_L32 (iI w) (aI f) Q (m + 1) (iI (t + 1)) la) ∧ (¬ x4 = iI 0 → Q (iI t) la)) hf hmb w0 w1 (t := t) (by omega) (fun la2 hla2 => by
      have e : ((t : Int)).toNat = t := by omega
      have h2 := h la2
      unfold frs at h2
      simp only [e] at h2
      refine br_b (fun h3 => ?_) (fun h3 => ?_)
      · have h4 := ih (t + 1) la2 (by omega) hla2 (fun la3 => by
          have h5 := h la3
          unfold frs at h5
          simp only [e] at h5
          rw [if_neg (by rw [h3]; decide)] at h5
          have e9 : ((t + 1 : Nat) : Int) = (t : Int) + 1 := by omega
          rw [e9]; exact h5)
        have e9 : ((t + 1 : Nat) : Int) = (t : Int) + 1 := by omega
        rw [e9] at h4
        exact h4
      · rw [if_pos h3] at h2
        exact h2) (f (4 + 6 * w + 0)).toNat 0 la (by omega) (fun j hj => absurd hj (by omega)) (fun j _ hj => hla j hj)
    exact this
theorem s_X4_together {mb w : Int} {f la : Int → Int} {Q : Int32 → (Nat → Int32) → Prop} (hf : OK mb f) (hmb : mb ≤ 7) (w0 : 0 ≤ w) (w1 : w < f 2) (h : ∀ la : Int → Int, Q (iI (tog f w)) (aI la)) : P_X4_together (iI w) (aI la) (aI f) Q := by
  have hw := hf.2.2.2.2.1 w w0 w1
  have h8 := hf.2.2.1
  obtain ⟨⟨l0, l1⟩, -, -, ⟨q0, q1⟩, -⟩ := id hw
  unfold P_X4_together
  simp only [i_m9, i_m1, i_0, i_1, i_2, i_3, i_4, i_5, i_6, i_7, i_8, i_9, i_10, i_11, i_12, i_13, i_14, i_15, i_16, i_17, i_18, i_19, i_20, i_21, i_22, i_23, i_24, i_25, i_26, i_27, i_28, i_29, i_30, i_31, i_32, i_33, i_34, i_35, i_36, i_37, i_38, i_39, i_40, i_41, i_42, i_43, i_44, i_45, i_46, i_47, i_48, i_49, i_50, i_51, i_52, i_53, i_54, i_55, i_56, i_57, i_58, i_59, i_60, i_61, i_62, i_63, i_64, i_65, i_66, i_67, i_68, i_69, i_70, i_72, i_77, i_78, i_80, i_81, i_82, i_83, i_84, i_87, i_88, i_96, i_98, i_100, i_101, i_103, i_118, i_119, i_126, i_133, i_137, i_144, i_154, i_158, i_160, i_190, i_199, i_200, i_207, i_209, i_213, i_229, i_252, i_254, i_255, i_260, i_282, i_303, i_304, i_321, i_348, i_435, i_492, i_522, i_1000, i_1023, i_1600, i_2903, iI_neg]
  refine ⟨(f (4 + 6 * w + 0)).toNat + 1, s_X4_together_L2 hf w0 w1 (fun la2 hla2 => ?_) _ 0 la (by omega) (by omega) (fun j h1 h2 => absurd h2 (by omega))⟩
  refine s_X4_of (by omega) (by omega) ?_
  have e : ((f (4 + 6 * w + 3)).toNat : Int) = f (4 + 6 * w + 3) := by omega
  have := s_X4_together_L32 (Q := Q) hf hmb w0 w1 (200 - f (4 + 6 * w + 3)).toNat (f (4 + 6 * w + 3)).toNat la2 (by omega) (fun j hj => by rw [hla2 j (by omega) hj, latN_early (by omega)]) (fun la3 => by rw [e]; exact h la3)
  rw [e] at this
  exact ⟨_, this⟩
