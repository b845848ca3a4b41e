/-- bit k of a mask -/
def bt (r k : Int) : Bool := decide ((iI r >>> (iI k &&& iI 31)) &&& iI 1 = iI 1)
theorem bt_255 {k : Int} (h1 : 0 ≤ k) (h2 : k ≤ 7) : bt 255 k = true := by
  rcases (show k = 0 ∨ k = 1 ∨ k = 2 ∨ k = 3 ∨ k = 4 ∨ k = 5 ∨ k = 6 ∨ k = 7 by omega) with rfl | rfl | rfl | rfl | rfl | rfl | rfl | rfl <;> decide +kernel
/-- whether one of the first n beams lights a place of a row in a beat -/
def lts (f : Int → Int) (r t c : Int) : Nat → Bool
  | 0 => false
  | n + 1 => lts f r t c n || (bt (f (52 + 5 * (n : Int) + 4)) r && cov f n t c)
/-- whether a letter of a word can be lit in a beat, by the first n beams -/
def canN (f : Int → Int) (w k t : Int) (n : Nat) : Bool := decide (f (4 + 6 * w + 3) ≤ t) && lts f (f (4 + 6 * w + 1)) t (f (4 + 6 * w + 2) + k) n
def can (f : Int → Int) (w k t : Int) : Bool := canN f w k t (f 3).toNat
theorem canN_s (f : Int → Int) (w k t : Int) (n : Nat) : canN f w k t (n + 1) = (canN f w k t n || (decide (f (4 + 6 * w + 3) ≤ t) && (bt (f (52 + 5 * (n : Int) + 4)) (f (4 + 6 * w + 1)) && cov f n t (f (4 + 6 * w + 2) + k)))) := by
  unfold canN
  rw [lts, Bool.and_or_distrib_left]
theorem canN_0 (f : Int → Int) (w k t : Int) : canN f w k t 0 = false := by unfold canN; rw [lts, Bool.and_false]
theorem canN_early {f : Int → Int} {w k t : Int} {n : Nat} (h : t < f (4 + 6 * w + 3)) : canN f w k t n = false := by
  unfold canN; rw [decide_eq_false (by omega)]; rfl
theorem s_X4_canBe_L {mb w k t : Int} {f : Int → Int} {Q : Int32 → Prop} (hf : OK mb f) (hmb : mb ≤ 7) (w0 : 0 ≤ w) (w1 : w < 8) (hw : OKw f w) (k0 : 0 ≤ k) (k1 : k ≤ 12) (t0 : 0 ≤ t) (t1 : t ≤ 199) (h : Q (iI (bi (can f w k t)))) :
    ∀ (m b : Nat), (b : Int) + m = f 3 → P_X4_canBe_L6 (iI w) (iI k) (iI t) (aI f) Q (m + 1) (iI (bi (canN f w k t b))) (iI b) := by
  obtain ⟨-, -, -, ⟨n0, n1⟩, -, hB⟩ := id hf
  obtain ⟨⟨l0, l1⟩, ⟨r0, r1⟩, ⟨c0, c1⟩, ⟨q0, q1⟩, -, -⟩ := id hw
  intro m
  induction m with
  | zero =>
    intro b hb
    rw [P_X4_canBe_L6_s]
    unfold B_X4_canBe_L6
    simp (disch := omega) only [iI_add, iI_sub, iI_mul, iI_neg, iI_lt, iI_le, iI_eq, iI_cl, aI_at, aI_up, aI_l0, aI_l1, aI_l2, aI_l3, i_m9, i_m1, i_0, i_1, i_2, i_3, i_4, i_5, i_6, i_7, i_8, i_9, i_10, i_11, i_12, i_13, i_14, i_15, i_16, i_17, i_18, i_19, i_20, i_21, i_22, i_23, i_24, i_25, i_26, i_27, i_28, i_29, i_30, i_31, i_32, i_33, i_34, i_35, i_36, i_37, i_38, i_39, i_40, i_41, i_42, i_43, i_44, i_45, i_46, i_47, i_48, i_49, i_50, i_51, i_52, i_53, i_54, i_55, i_56, i_57, i_58, i_59, i_60, i_61, i_62, i_63, i_64, i_65, i_66, i_67, i_68, i_69, i_70, i_72, i_77, i_78, i_80, i_81, i_82, i_83, i_84, i_87, i_88, i_96, i_98, i_100, i_101, i_103, i_118, i_119, i_126, i_133, i_137, i_144, i_154, i_158, i_160, i_190, i_199, i_200, i_207, i_209, i_213, i_229, i_252, i_254, i_255, i_260, i_282, i_303, i_304, i_321, i_348, i_435, i_492, i_522, i_1000, i_1023, i_1600, i_2903, iI_neg]
    refine ⟨fun _ => ⟨bi_nar _, ?_⟩, fun hx => absurd (by omega) hx⟩
    have e : (f 3).toNat = b := by omega
    unfold can at h
    rwa [e] at h
  | succ m ih =>
    intro b hb
    have hOb := hB b (by omega) (by omega)
    rw [P_X4_canBe_L6_s]
    unfold B_X4_canBe_L6
    simp (disch := omega) only [iI_add, iI_sub, iI_mul, iI_neg, iI_lt, iI_le, iI_eq, iI_cl, aI_at, aI_up, aI_l0, aI_l1, aI_l2, aI_l3, i_m9, i_m1, i_0, i_1, i_2, i_3, i_4, i_5, i_6, i_7, i_8, i_9, i_10, i_11, i_12, i_13, i_14, i_15, i_16, i_17, i_18, i_19, i_20, i_21, i_22, i_23, i_24, i_25, i_26, i_27, i_28, i_29, i_30, i_31, i_32, i_33, i_34, i_35, i_36, i_37, i_38, i_39, i_40, i_41, i_42, i_43, i_44, i_45, i_46, i_47, i_48, i_49, i_50, i_51, i_52, i_53, i_54, i_55, i_56, i_57, i_58, i_59, i_60, i_61, i_62, i_63, i_64, i_65, i_66, i_67, i_68, i_69, i_70, i_72, i_77, i_78, i_80, i_81, i_82, i_83, i_84, i_87, i_88, i_96, i_98, i_100, i_101, i_103, i_118, i_119, i_126, i_133, i_137, i_144, i_154, i_158, i_160, i_190, i_199, i_200, i_207, i_209, i_213, i_229, i_252, i_254, i_255, i_260, i_282, i_303, i_304, i_321, i_348, i_435, i_492, i_522, i_1000, i_1023, i_1600, i_2903, iI_neg]
    refine ⟨fun hx => absurd hx (by omega), fun _ => ?_⟩
    refine s_X4_of (by omega) (by omega) ?_
    simp (disch := omega) only [iI_add, iI_sub, iI_mul, iI_neg, iI_lt, iI_le, iI_eq, iI_cl, aI_at, aI_up, aI_l0, aI_l1, aI_l2, aI_l3]
    refine ⟨fun hx => ⟨bi_nar _, ?_⟩, fun hx => ?_⟩
    · unfold can at h
      rw [canN_early hx] at h ⊢
      exact h
    · have ih1 := ih (b + 1) (by omega)
      have e1 : (((b + 1 : Nat) : Int)) = (b : Int) + 1 := by omega
      rw [e1, canN_s, decide_eq_true (by omega), Bool.true_and] at ih1
      refine br_b' (fun h2 => ?_) (fun h2 => ?_)
      · refine s_X4_by (by omega) (by omega) ?_
        refine s_X4_of (by omega) (by omega) ?_
        rw [h2, Bool.false_or] at ih1
        refine ⟨fun h3 => ?_, fun h3 => ?_⟩
        · have e2 : bt (f (52 + 5 * (b : Int) + 4)) (f (4 + 6 * w + 1)) = false := decide_eq_false h3
          rw [e2, Bool.false_and] at ih1
          unfold P_X4_canBe_J71 P_X4_canBe_J72
          simp only [iI_add, i_m9, i_m1, i_0, i_1, i_2, i_3, i_4, i_5, i_6, i_7, i_8, i_9, i_10, i_11, i_12, i_13, i_14, i_15, i_16, i_17, i_18, i_19, i_20, i_21, i_22, i_23, i_24, i_25, i_26, i_27, i_28, i_29, i_30, i_31, i_32, i_33, i_34, i_35, i_36, i_37, i_38, i_39, i_40, i_41, i_42, i_43, i_44, i_45, i_46, i_47, i_48, i_49, i_50, i_51, i_52, i_53, i_54, i_55, i_56, i_57, i_58, i_59, i_60, i_61, i_62, i_63, i_64, i_65, i_66, i_67, i_68, i_69, i_70, i_72, i_77, i_78, i_80, i_81, i_82, i_83, i_84, i_87, i_88, i_96, i_98, i_100, i_101, i_103, i_118, i_119, i_126, i_133, i_137, i_144, i_154, i_158, i_160, i_190, i_199, i_200, i_207, i_209, i_213, i_229, i_252, i_254, i_255, i_260, i_282, i_303, i_304, i_321, i_348, i_435, i_492, i_522, i_1000, i_1023, i_1600, i_2903, iI_neg]
          exact ih1
        · have e2 : bt (f (52 + 5 * (b : Int) + 4)) (f (4 + 6 * w + 1)) = true := decide_eq_true h3
          rw [e2, Bool.true_and] at ih1
          refine s_X4_of (by omega) (by omega) ?_
          simp only [iI_add]
          refine s_X4_covers (by omega) (by omega) hOb t0 t1 (by omega) (by omega) ?_
          refine br_b (fun h4 => ?_) (fun h4 => ?_)
          · rw [h4] at ih1
            unfold P_X4_canBe_J71 P_X4_canBe_J72
            simp only [iI_add, i_m9, i_m1, i_0, i_1, i_2, i_3, i_4, i_5, i_6, i_7, i_8, i_9, i_10, i_11, i_12, i_13, i_14, i_15, i_16, i_17, i_18, i_19, i_20, i_21, i_22, i_23, i_24, i_25, i_26, i_27, i_28, i_29, i_30, i_31, i_32, i_33, i_34, i_35, i_36, i_37, i_38, i_39, i_40, i_41, i_42, i_43, i_44, i_45, i_46, i_47, i_48, i_49, i_50, i_51, i_52, i_53, i_54, i_55, i_56, i_57, i_58, i_59, i_60, i_61, i_62, i_63, i_64, i_65, i_66, i_67, i_68, i_69, i_70, i_72, i_77, i_78, i_80, i_81, i_82, i_83, i_84, i_87, i_88, i_96, i_98, i_100, i_101, i_103, i_118, i_119, i_126, i_133, i_137, i_144, i_154, i_158, i_160, i_190, i_199, i_200, i_207, i_209, i_213, i_229, i_252, i_254, i_255, i_260, i_282, i_303, i_304, i_321, i_348, i_435, i_492, i_522, i_1000, i_1023, i_1600, i_2903, iI_neg]
            exact ih1
          · rw [h4] at ih1
            unfold P_X4_canBe_J67 P_X4_canBe_J72
            simp only [iI_add, i_m9, i_m1, i_0, i_1, i_2, i_3, i_4, i_5, i_6, i_7, i_8, i_9, i_10, i_11, i_12, i_13, i_14, i_15, i_16, i_17, i_18, i_19, i_20, i_21, i_22, i_23, i_24, i_25, i_26, i_27, i_28, i_29, i_30, i_31, i_32, i_33, i_34, i_35, i_36, i_37, i_38, i_39, i_40, i_41, i_42, i_43, i_44, i_45, i_46, i_47, i_48, i_49, i_50, i_51, i_52, i_53, i_54, i_55, i_56, i_57, i_58, i_59, i_60, i_61, i_62, i_63, i_64, i_65, i_66, i_67, i_68, i_69, i_70, i_72, i_77, i_78, i_80, i_81, i_82, i_83, i_84, i_87, i_88, i_96, i_98, i_100, i_101, i_103, i_118, i_119, i_126, i_133, i_137, i_144, i_154, i_158, i_160, i_190, i_199, i_200, i_207, i_209, i_213, i_229, i_252, i_254, i_255, i_260, i_282, i_303, i_304, i_321, i_348, i_435, i_492, i_522, i_1000, i_1023, i_1600, i_2903, iI_neg]
            exact ih1
      · rw [h2, Bool.true_or] at ih1
        unfold P_X4_canBe_J67 P_X4_canBe_J72
        simp only [iI_add, i_m9, i_m1, i_0, i_1, i_2, i_3, i_4, i_5, i_6, i_7, i_8, i_9, i_10, i_11, i_12, i_13, i_14, i_15, i_16, i_17, i_18, i_19, i_20, i_21, i_22, i_23, i_24, i_25, i_26, i_27, i_28, i_29, i_30, i_31, i_32, i_33, i_34, i_35, i_36, i_37, i_38, i_39, i_40, i_41, i_42, i_43, i_44, i_45, i_46, i_47, i_48, i_49, i_50, i_51, i_52, i_53, i_54, i_55, i_56, i_57, i_58, i_59, i_60, i_61, i_62, i_63, i_64, i_65, i_66, i_67, i_68, i_69, i_70, i_72, i_77, i_78, i_80, i_81, i_82, i_83, i_84, i_87, i_88, i_96, i_98, i_100, i_101, i_103, i_118, i_119, i_126, i_133, i_137, i_144, i_154, i_158, i_160, i_190, i_199, i_200, i_207, i_209, i_213, i_229, i_252, i_254, i_255, i_260, i_282, i_303, i_304, i_321, i_348, i_435, i_492, i_522, i_1000, i_1023, i_1600, i_2903, iI_neg]
        exact ih1
theorem s_X4_canBe {mb w k t : Int} {f : Int → Int} {Q : Int32 → Prop} (hf : OK mb f) (hmb : mb ≤ 7) (w0 : 0 ≤ w) (w1 : w < f 2) (k0 : 0 ≤ k) (k1 : k ≤ 12) (t0 : 0 ≤ t) (t1 : t ≤ 199) (h : Q (iI (bi (can f w k t)))) : P_X4_canBe (iI w) (iI k) (iI t) (aI f) Q := by
  have hw := hf.2.2.2.2.1 w w0 w1
  have h8 := hf.2.2.1
  have h3 := hf.2.2.2.1
  unfold P_X4_canBe
  refine ⟨(f 3).toNat + 1, ?_⟩
  have := s_X4_canBe_L hf hmb w0 (by omega) hw k0 k1 t0 t1 h (f 3).toNat 0 (by omega)
  rw [canN_0] at this
  exact this
/-- the first beat from t on, of the next m, in which p holds; -1 -/
def frs (p : Int → Bool) : Nat → Int → Int
  | 0, _ => -1
  | m + 1, t => if p t = true then t else frs p m (t + 1)
theorem frs_rng (p : Int → Bool) : ∀ (m : Nat) (t : Int), frs p m t = -1 ∨ (t ≤ frs p m t ∧ frs p m t < t + m ∧ p (frs p m t) = true)
  | 0, _ => Or.inl rfl
  | m + 1, t => by
    unfold frs
    split
    · rename_i h; exact Or.inr ⟨by omega, by omega, h⟩
    · rcases frs_rng p m (t + 1) with h | ⟨h1, h2, h3⟩
      · exact Or.inl h
      · exact Or.inr ⟨by omega, by omega, h3⟩
/-- the first beat from t on in which a letter can be lit; -1 -/
def fl (f : Int → Int) (w k t : Int) : Int := frs (can f w k) (200 - t).toNat t
theorem fl_rng (f : Int → Int) (w k : Int) {t : Int} (h0 : 0 ≤ t) (h : t ≤ 200) : fl f w k t = -1 ∨ (t ≤ fl f w k t ∧ fl f w k t < 200) := by
  unfold fl
  rcases frs_rng (can f w k) (200 - t).toNat t with h1 | ⟨h1, h2, -⟩
  · exact Or.inl h1
  · exact Or.inr ⟨h1, by omega⟩
theorem s_X4_firstLight_L {mb w k : Int} {f : Int → Int} {Q : Int32 → Prop} (hf : OK mb f) (hmb : mb ≤ 7) (w0 : 0 ≤ w) (w1 : w < f 2) (k0 : 0 ≤ k) (k1 : k ≤ 12) :
    ∀ (m : Nat) (t : Int), 0 ≤ t → t + m = 200 → Q (iI (frs (can f w k) m t)) → P_X4_firstLight_L3 (iI w) (iI k) (aI f) Q (m + 1) (iI t) := by
  intro m
  induction m with
  | zero =>
    intro t h0 h1 h
    rw [P_X4_firstLight_L3_s]
    unfold B_X4_firstLight_L3
    simp (disch := omega) only [iI_add, iI_sub, iI_mul, iI_neg, iI_lt, iI_le, iI_eq, iI_cl, aI_at, aI_up, aI_l0, aI_l1, aI_l2, aI_l3, i_m9, i_m1, i_0, i_1, i_2, i_3, i_4, i_5, i_6, i_7, i_8, i_9, i_10, i_11, i_12, i_13, i_14, i_15, i_16, i_17, i_18, i_19, i_20, i_21, i_22, i_23, i_24, i_25, i_26, i_27, i_28, i_29, i_30, i_31, i_32, i_33, i_34, i_35, i_36, i_37, i_38, i_39, i_40, i_41, i_42, i_43, i_44, i_45, i_46, i_47, i_48, i_49, i_50, i_51, i_52, i_53, i_54, i_55, i_56, i_57, i_58, i_59, i_60, i_61, i_62, i_63, i_64, i_65, i_66, i_67, i_68, i_69, i_70, i_72, i_77, i_78, i_80, i_81, i_82, i_83, i_84, i_87, i_88, i_96, i_98, i_100, i_101, i_103, i_118, i_119, i_126, i_133, i_137, i_144, i_154, i_158, i_160, i_190, i_199, i_200, i_207, i_209, i_213, i_229, i_252, i_254, i_255, i_260, i_282, i_303, i_304, i_321, i_348, i_435, i_492, i_522, i_1000, i_1023, i_1600, i_2903, iI_neg]
    exact ⟨fun _ => h, fun hx => absurd (by omega) hx⟩
  | succ m ih =>
    intro t h0 h1 h
    rw [P_X4_firstLight_L3_s]
    unfold B_X4_firstLight_L3
    simp (disch := omega) only [iI_add, iI_sub, iI_mul, iI_neg, iI_lt, iI_le, iI_eq, iI_cl, aI_at, aI_up, aI_l0, aI_l1, aI_l2, aI_l3, i_m9, i_m1, i_0, i_1, i_2, i_3, i_4, i_5, i_6, i_7, i_8, i_9, i_10, i_11, i_12, i_13, i_14, i_15, i_16, i_17, i_18, i_19, i_20, i_21, i_22, i_23, i_24, i_25, i_26, i_27, i_28, i_29, i_30, i_31, i_32, i_33, i_34, i_35, i_36, i_37, i_38, i_39, i_40, i_41, i_42, i_43, i_44, i_45, i_46, i_47, i_48, i_49, i_50, i_51, i_52, i_53, i_54, i_55, i_56, i_57, i_58, i_59, i_60, i_61, i_62, i_63, i_64, i_65, i_66, i_67, i_68, i_69, i_70, i_72, i_77, i_78, i_80, i_81, i_82, i_83, i_84, i_87, i_88, i_96, i_98, i_100, i_101, i_103, i_118, i_119, i_126, i_133, i_137, i_144, i_154, i_158, i_160, i_190, i_199, i_200, i_207, i_209, i_213, i_229, i_252, i_254, i_255, i_260, i_282, i_303, i_304, i_321, i_348, i_435, i_492, i_522, i_1000, i_1023, i_1600, i_2903, iI_neg]
    refine ⟨fun hx => absurd hx (by omega), fun _ => ?_⟩
    refine s_X4_canBe hf hmb w0 w1 k0 k1 h0 (by omega) ?_
    unfold frs at h
    refine br_b (fun h2 => ?_) (fun h2 => ?_)
    · rw [if_neg (by rw [h2]; decide)] at h
      exact ih (t + 1) (by omega) (by omega) h
    · rwa [if_pos h2] at h
theorem s_X4_firstLight {mb w k t : Int} {f : Int → Int} {Q : Int32 → Prop} (hf : OK mb f) (hmb : mb ≤ 7) (w0 : 0 ≤ w) (w1 : w < f 2) (k0 : 0 ≤ k) (k1 : k ≤ 12) (t0 : 0 ≤ t) (t1 : t ≤ 200) (h : Q (iI (fl f w k t))) : P_X4_firstLight (iI w) (iI k) (iI t) (aI f) Q := by
  unfold P_X4_firstLight
  exact ⟨(200 - t).toNat + 1, s_X4_firstLight_L hf hmb w0 w1 k0 k1 _ t t0 (by omega) h⟩
