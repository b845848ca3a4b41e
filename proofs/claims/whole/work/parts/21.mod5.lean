theorem s_X4_laysWord {mb w : Int} {f li wh go la : Int → Int} {Q : (Nat → Int32) → (Nat → Int32) → (Nat → Int32) → (Nat → Int32) → Prop} (hf : OK mb f) (hmb : mb ≤ 7) (w0 : 0 ≤ w) (w1 : w < f 2)
    (h : ∀ li' la' : Int → Int, (∀ j : Int, 0 ≤ j → j < f (4 + 6 * w + 0) → li' (12 * w + j) = litS f w j) → (∀ j : Int, (j < 12 * w ∨ 12 * w + 12 ≤ j) → li' j = li j) → Q (aI li') (aI (up wh w (wlS f w))) (aI (up go w (goS f w))) (aI la')) :
    P_X4_laysWord (iI w) (aI li) (aI wh) (aI go) (aI la) (aI f) Q := by
  have hw := hf.2.2.2.2.1 w w0 w1
  have h8 := hf.2.2.1
  have hs0 := hf.1
  obtain ⟨⟨l0, l1⟩, -, -, ⟨q0, q1⟩, ⟨u0, u1⟩, ⟨o0, o1⟩⟩ := id hw
  have hls := lsN_rng hf w0 w1 (f (4 + 6 * w + 0)).toNat
  -- behind the loop
  have tail : ∀ (x5 : Int) (la' : Int → Int), (f (4 + 6 * w + 4) = 2 → x5 = tog f w) → P_X4_laysWord_J31 (aI li) (aI wh) (aI go) (aI f) Q (iI w) (iI (f (4 + 6 * w + 0))) (iI (f (4 + 6 * w + 4))) (iI x5) (aI la') := by
    intro x5 la' h5
    unfold P_X4_laysWord_J31
    simp only [i_m9, i_m1, i_0, i_1, i_2, i_3, i_4, i_5, i_6, i_7, i_8, i_9, i_10, i_11, i_12, i_13, i_14, i_15, i_16, i_17, i_18, i_19, i_20, i_21, i_22, i_23, i_24, i_25, i_26, i_27, i_28, i_29, i_30, i_31, i_32, i_33, i_34, i_35, i_36, i_37, i_38, i_39, i_40, i_41, i_42, i_43, i_44, i_45, i_46, i_47, i_48, i_49, i_50, i_51, i_52, i_53, i_54, i_55, i_56, i_57, i_58, i_59, i_60, i_61, i_62, i_63, i_64, i_65, i_66, i_67, i_68, i_69, i_70, i_72, i_77, i_78, i_80, i_81, i_82, i_83, i_84, i_87, i_88, i_96, i_98, i_100, i_101, i_103, i_118, i_119, i_126, i_133, i_137, i_144, i_154, i_158, i_160, i_190, i_199, i_200, i_207, i_209, i_213, i_229, i_252, i_254, i_255, i_260, i_282, i_303, i_304, i_321, i_348, i_435, i_492, i_522, i_1000, i_1023, i_1600, i_2903, iI_neg]
    refine s_X4_of (by omega) (by omega) ?_
    have lp := s_X4_laysWord_L (K := fun x6 x7 li2 => (x7 = iI 0 → P_X4_laysWord_J229 (aI wh) (aI go) (aI f) Q (iI w) x6 x7 (iI (-1)) (iI w) li2 (aI la')) ∧ (¬ x7 = iI 0 → P_X4_laysWord_J229 (aI wh) (aI go) (aI f) Q (iI w) x6 x7 x6 (iI w) li2 (aI la'))) hf hmb w0 w1 li x5 h5 (fun li2 g1 g2 => by
      have hq := h li2 la' g1 g2
      -- the beat at which it goes
      have j260 : ∀ wh2 : Int → Int, wh2 = up wh w (wlS f w) → ∀ x : Int, x = (if lsN f w (f (4 + 6 * w + 0)).toNat + f (4 + 6 * w + 5) ≤ lsN f w (f (4 + 6 * w + 0)).toNat then lsN f w (f (4 + 6 * w + 0)).toNat + 1 else lsN f w (f (4 + 6 * w + 0)).toNat + f (4 + 6 * w + 5)) →
          P_X4_laysWord_J260 (aI go) (aI f) Q (iI w) (iI (bi (evN f w (f (4 + 6 * w + 0)).toNat))) (iI x) (aI li2) (aI wh2) (aI la') := by
        intro wh2 hwh2 x hx
        have hxr : 0 ≤ x ∧ x < 260 := by rw [hx]; split <;> omega
        have hb : (x + f 0 - 1) / f 0 * f 0 = barS f w := by unfold barS; rw [← hx]
        have hd := divb (x := x + f 0 - 1) (s := f 0) (by omega) (by omega)
        unfold P_X4_laysWord_J260 P_X4_laysWord_J303 P_X4_laysWord_J304
        simp (disch := omega) only [iI_add, iI_sub, iI_mul, iI_neg, iI_lt, iI_le, iI_eq, iI_cl, aI_at, aI_up, aI_l0, aI_l1, aI_l2, aI_l3, i_m9, i_m1, i_0, i_1, i_2, i_3, i_4, i_5, i_6, i_7, i_8, i_9, i_10, i_11, i_12, i_13, i_14, i_15, i_16, i_17, i_18, i_19, i_20, i_21, i_22, i_23, i_24, i_25, i_26, i_27, i_28, i_29, i_30, i_31, i_32, i_33, i_34, i_35, i_36, i_37, i_38, i_39, i_40, i_41, i_42, i_43, i_44, i_45, i_46, i_47, i_48, i_49, i_50, i_51, i_52, i_53, i_54, i_55, i_56, i_57, i_58, i_59, i_60, i_61, i_62, i_63, i_64, i_65, i_66, i_67, i_68, i_69, i_70, i_72, i_77, i_78, i_80, i_81, i_82, i_83, i_84, i_87, i_88, i_96, i_98, i_100, i_101, i_103, i_118, i_119, i_126, i_133, i_137, i_144, i_154, i_158, i_160, i_190, i_199, i_200, i_207, i_209, i_213, i_229, i_252, i_254, i_255, i_260, i_282, i_303, i_304, i_321, i_348, i_435, i_492, i_522, i_1000, i_1023, i_1600, i_2903, iI_neg, iI_div]
        rw [hb]
        rw [hb] at hd
        subst hwh2
        refine ⟨fun q => by omega, br_b (fun h3 => ⟨iI_in w0 (by omega) (by omega), ?_⟩) (fun h3 => ⟨fun h4 => ⟨iI_in w0 (by omega) (by omega), ?_⟩, fun h4 => ⟨iI_in w0 (by omega) (by omega), ?_⟩⟩)⟩
        · have e : goS f w = -1 := by unfold goS; rw [if_neg (by rw [h3]; decide)]
          rwa [e] at hq
        · have e : goS f w = -1 := by unfold goS; rw [if_pos h3, if_neg (by omega)]
          rwa [e] at hq
        · have e : goS f w = barS f w := by unfold goS; rw [if_pos h3, if_pos (by omega)]
          rwa [e] at hq
      have j229 : ∀ x : Int, x = wlS f w → P_X4_laysWord_J229 (aI wh) (aI go) (aI f) Q (iI w) (iI (lsN f w (f (4 + 6 * w + 0)).toNat)) (iI (bi (evN f w (f (4 + 6 * w + 0)).toNat))) (iI x) (iI w) (aI li2) (aI la') := by
        intro x hx
        unfold P_X4_laysWord_J229
        simp only [i_m9, i_m1, i_0, i_1, i_2, i_3, i_4, i_5, i_6, i_7, i_8, i_9, i_10, i_11, i_12, i_13, i_14, i_15, i_16, i_17, i_18, i_19, i_20, i_21, i_22, i_23, i_24, i_25, i_26, i_27, i_28, i_29, i_30, i_31, i_32, i_33, i_34, i_35, i_36, i_37, i_38, i_39, i_40, i_41, i_42, i_43, i_44, i_45, i_46, i_47, i_48, i_49, i_50, i_51, i_52, i_53, i_54, i_55, i_56, i_57, i_58, i_59, i_60, i_61, i_62, i_63, i_64, i_65, i_66, i_67, i_68, i_69, i_70, i_72, i_77, i_78, i_80, i_81, i_82, i_83, i_84, i_87, i_88, i_96, i_98, i_100, i_101, i_103, i_118, i_119, i_126, i_133, i_137, i_144, i_154, i_158, i_160, i_190, i_199, i_200, i_207, i_209, i_213, i_229, i_252, i_254, i_255, i_260, i_282, i_303, i_304, i_321, i_348, i_435, i_492, i_522, i_1000, i_1023, i_1600, i_2903, iI_neg]
        refine ⟨iI_in w0 (by omega) (by omega), s_X4_of (by omega) (by omega) ?_⟩
        simp (disch := omega) only [iI_add, iI_sub, iI_mul, iI_neg, iI_lt, iI_le, iI_eq, iI_cl, aI_at, aI_up, aI_l0, aI_l1, aI_l2, aI_l3, i_m9, i_m1, i_0, i_1, i_2, i_3, i_4, i_5, i_6, i_7, i_8, i_9, i_10, i_11, i_12, i_13, i_14, i_15, i_16, i_17, i_18, i_19, i_20, i_21, i_22, i_23, i_24, i_25, i_26, i_27, i_28, i_29, i_30, i_31, i_32, i_33, i_34, i_35, i_36, i_37, i_38, i_39, i_40, i_41, i_42, i_43, i_44, i_45, i_46, i_47, i_48, i_49, i_50, i_51, i_52, i_53, i_54, i_55, i_56, i_57, i_58, i_59, i_60, i_61, i_62, i_63, i_64, i_65, i_66, i_67, i_68, i_69, i_70, i_72, i_77, i_78, i_80, i_81, i_82, i_83, i_84, i_87, i_88, i_96, i_98, i_100, i_101, i_103, i_118, i_119, i_126, i_133, i_137, i_144, i_154, i_158, i_160, i_190, i_199, i_200, i_207, i_209, i_213, i_229, i_252, i_254, i_255, i_260, i_282, i_303, i_304, i_321, i_348, i_435, i_492, i_522, i_1000, i_1023, i_1600, i_2903, iI_neg]
        refine ⟨fun h3 => ?_, fun h3 => s_X4_of (by omega) (by omega) ?_⟩
        · exact j260 _ (by rw [hx]) _ (by rw [if_pos h3])
        · simp (disch := omega) only [iI_add, iI_sub, iI_mul, iI_neg, iI_lt, iI_le, iI_eq, iI_cl, aI_at, aI_up, aI_l0, aI_l1, aI_l2, aI_l3]
          exact j260 _ (by rw [hx]) _ (by rw [if_neg h3])
      refine br_b (fun h3 => ?_) (fun h3 => ?_)
      · exact j229 _ (by unfold wlS; rw [if_neg (by rw [h3]; decide)])
      · exact j229 _ (by unfold wlS; rw [if_pos h3])) (f (4 + 6 * w + 0)).toNat 0 li (by omega) (fun j j0 j1 => absurd j1 (by omega)) (fun j hj => rfl)
    exact ⟨_, lp⟩
  unfold P_X4_laysWord
  simp only [i_m9, i_m1, i_0, i_1, i_2, i_3, i_4, i_5, i_6, i_7, i_8, i_9, i_10, i_11, i_12, i_13, i_14, i_15, i_16, i_17, i_18, i_19, i_20, i_21, i_22, i_23, i_24, i_25, i_26, i_27, i_28, i_29, i_30, i_31, i_32, i_33, i_34, i_35, i_36, i_37, i_38, i_39, i_40, i_41, i_42, i_43, i_44, i_45, i_46, i_47, i_48, i_49, i_50, i_51, i_52, i_53, i_54, i_55, i_56, i_57, i_58, i_59, i_60, i_61, i_62, i_63, i_64, i_65, i_66, i_67, i_68, i_69, i_70, i_72, i_77, i_78, i_80, i_81, i_82, i_83, i_84, i_87, i_88, i_96, i_98, i_100, i_101, i_103, i_118, i_119, i_126, i_133, i_137, i_144, i_154, i_158, i_160, i_190, i_199, i_200, i_207, i_209, i_213, i_229, i_252, i_254, i_255, i_260, i_282, i_303, i_304, i_321, i_348, i_435, i_492, i_522, i_1000, i_1023, i_1600, i_2903, iI_neg]
  refine s_X4_of (by omega) (by omega) (s_X4_of (by omega) (by omega) ?_)
  simp (disch := omega) only [iI_add, iI_sub, iI_mul, iI_neg, iI_lt, iI_le, iI_eq, iI_cl, aI_at, aI_up, aI_l0, aI_l1, aI_l2, aI_l3]
  refine ⟨fun h3 => ?_, fun h3 => ?_⟩
  · exact tail 0 la (fun q => absurd q h3)
  · exact s_X4_together hf hmb w0 w1 (fun la' => tail _ la' (fun _ => rfl))
/-- the rows hold what is shown of the first n words -/
def Ld (f : Int → Int) (n : Int) (li wh go : Int → Int) : Prop := ∀ w : Int, 0 ≤ w → w < n → (∀ j : Int, 0 ≤ j → j < f (4 + 6 * w + 0) → li (12 * w + j) = litS f w j) ∧ wh w = wlS f w ∧ go w = goS f w
theorem s_X4_lays_L {mb : Int} {f : Int → Int} {Q : (Nat → Int32) → (Nat → Int32) → (Nat → Int32) → (Nat → Int32) → Prop} (hf : OK mb f) (hmb : mb ≤ 7) (h : ∀ li wh go la : Int → Int, Ld f (f 2) li wh go → Q (aI li) (aI wh) (aI go) (aI la)) :
    ∀ (m : Nat) (w : Int) (li wh go la : Int → Int), 0 ≤ w → w + m = f 2 → Ld f w li wh go → P_X4_lays_L2 (aI f) Q (m + 1) (iI w) (aI li) (aI wh) (aI go) (aI la) := by
  have h8 := hf.2.2.1
  intro m
  induction m with
  | zero =>
    intro w li wh go la w0 hm hl
    rw [P_X4_lays_L2_s]
    unfold B_X4_lays_L2
    simp (disch := omega) only [iI_add, iI_sub, iI_mul, iI_neg, iI_lt, iI_le, iI_eq, iI_cl, aI_at, aI_up, aI_l0, aI_l1, aI_l2, aI_l3, i_m9, i_m1, i_0, i_1, i_2, i_3, i_4, i_5, i_6, i_7, i_8, i_9, i_10, i_11, i_12, i_13, i_14, i_15, i_16, i_17, i_18, i_19, i_20, i_21, i_22, i_23, i_24, i_25, i_26, i_27, i_28, i_29, i_30, i_31, i_32, i_33, i_34, i_35, i_36, i_37, i_38, i_39, i_40, i_41, i_42, i_43, i_44, i_45, i_46, i_47, i_48, i_49, i_50, i_51, i_52, i_53, i_54, i_55, i_56, i_57, i_58, i_59, i_60, i_61, i_62, i_63, i_64, i_65, i_66, i_67, i_68, i_69, i_70, i_72, i_77, i_78, i_80, i_81, i_82, i_83, i_84, i_87, i_88, i_96, i_98, i_100, i_101, i_103, i_118, i_119, i_126, i_133, i_137, i_144, i_154, i_158, i_160, i_190, i_199, i_200, i_207, i_209, i_213, i_229, i_252, i_254, i_255, i_260, i_282, i_303, i_304, i_321, i_348, i_435, i_492, i_522, i_1000, i_1023, i_1600, i_2903, iI_neg]
    exact ⟨fun _ => h li wh go la (by rwa [show w = f 2 by omega] at hl), fun hx => absurd (by omega) hx⟩
  | succ m ih =>
    intro w li wh go la w0 hm hl
    rw [P_X4_lays_L2_s]
    unfold B_X4_lays_L2
    simp (disch := omega) only [iI_add, iI_sub, iI_mul, iI_neg, iI_lt, iI_le, iI_eq, iI_cl, aI_at, aI_up, aI_l0, aI_l1, aI_l2, aI_l3, i_m9, i_m1, i_0, i_1, i_2, i_3, i_4, i_5, i_6, i_7, i_8, i_9, i_10, i_11, i_12, i_13, i_14, i_15, i_16, i_17, i_18, i_19, i_20, i_21, i_22, i_23, i_24, i_25, i_26, i_27, i_28, i_29, i_30, i_31, i_32, i_33, i_34, i_35, i_36, i_37, i_38, i_39, i_40, i_41, i_42, i_43, i_44, i_45, i_46, i_47, i_48, i_49, i_50, i_51, i_52, i_53, i_54, i_55, i_56, i_57, i_58, i_59, i_60, i_61, i_62, i_63, i_64, i_65, i_66, i_67, i_68, i_69, i_70, i_72, i_77, i_78, i_80, i_81, i_82, i_83, i_84, i_87, i_88, i_96, i_98, i_100, i_101, i_103, i_118, i_119, i_126, i_133, i_137, i_144, i_154, i_158, i_160, i_190, i_199, i_200, i_207, i_209, i_213, i_229, i_252, i_254, i_255, i_260, i_282, i_303, i_304, i_321, i_348, i_435, i_492, i_522, i_1000, i_1023, i_1600, i_2903, iI_neg]
    refine ⟨fun hx => absurd hx (by omega), fun _ => s_X4_laysWord hf hmb w0 (by omega) (fun li' la' g1 g2 => ?_)⟩
    refine ih (w + 1) li' _ _ la' (by omega) (by omega) (fun v v0 v1 => ?_)
    by_cases e : v = w
    · rw [e, up_eq, up_eq]; exact ⟨g1, rfl, rfl⟩
    · obtain ⟨k1, k2, k3⟩ := hl v v0 (by omega)
      rw [up_ne e, up_ne e]
      have hv := (hf.2.2.2.2.1 v v0 (by omega)).1
      exact ⟨fun j j0 j1 => by rw [g2 _ (by omega)]; exact k1 j j0 j1, k2, k3⟩
theorem s_X4_lays {mb : Int} {f li wh go la : Int → Int} {Q : (Nat → Int32) → (Nat → Int32) → (Nat → Int32) → (Nat → Int32) → Prop} (hf : OK mb f) (hmb : mb ≤ 7) (h : ∀ li wh go la : Int → Int, Ld f (f 2) li wh go → Q (aI li) (aI wh) (aI go) (aI la)) :
    P_X4_lays (aI li) (aI wh) (aI go) (aI la) (aI f) Q := by
  have h8 := hf.2.2.1
  unfold P_X4_lays
  simp only [i_m9, i_m1, i_0, i_1, i_2, i_3, i_4, i_5, i_6, i_7, i_8, i_9, i_10, i_11, i_12, i_13, i_14, i_15, i_16, i_17, i_18, i_19, i_20, i_21, i_22, i_23, i_24, i_25, i_26, i_27, i_28, i_29, i_30, i_31, i_32, i_33, i_34, i_35, i_36, i_37, i_38, i_39, i_40, i_41, i_42, i_43, i_44, i_45, i_46, i_47, i_48, i_49, i_50, i_51, i_52, i_53, i_54, i_55, i_56, i_57, i_58, i_59, i_60, i_61, i_62, i_63, i_64, i_65, i_66, i_67, i_68, i_69, i_70, i_72, i_77, i_78, i_80, i_81, i_82, i_83, i_84, i_87, i_88, i_96, i_98, i_100, i_101, i_103, i_118, i_119, i_126, i_133, i_137, i_144, i_154, i_158, i_160, i_190, i_199, i_200, i_207, i_209, i_213, i_229, i_252, i_254, i_255, i_260, i_282, i_303, i_304, i_321, i_348, i_435, i_492, i_522, i_1000, i_1023, i_1600, i_2903, iI_neg]
  exact ⟨(f 2).toNat + 1, s_X4_lays_L hf hmb h _ 0 li wh go la (by omega) (by omega) (fun v v0 v1 => absurd v1 (by omega))⟩
theorem s_X4_laysNow {mb il : Int} {f li wh go la : Int → Int} {Q : (Nat → Int32) → (Nat → Int32) → (Nat → Int32) → Int32 → (Nat → Int32) → Prop} (hf : OK mb f) (hmb : mb ≤ 7) (hi : il = 0 ∨ (il = 1 ∧ Ld f (f 2) li wh go))
    (h : ∀ li wh go la : Int → Int, Ld f (f 2) li wh go → Q (aI li) (aI wh) (aI go) (iI 1) (aI la)) : P_X4_laysNow (aI f) (aI li) (aI wh) (aI go) (iI il) (aI la) Q := by
  unfold P_X4_laysNow
  simp only [i_m9, i_m1, i_0, i_1, i_2, i_3, i_4, i_5, i_6, i_7, i_8, i_9, i_10, i_11, i_12, i_13, i_14, i_15, i_16, i_17, i_18, i_19, i_20, i_21, i_22, i_23, i_24, i_25, i_26, i_27, i_28, i_29, i_30, i_31, i_32, i_33, i_34, i_35, i_36, i_37, i_38, i_39, i_40, i_41, i_42, i_43, i_44, i_45, i_46, i_47, i_48, i_49, i_50, i_51, i_52, i_53, i_54, i_55, i_56, i_57, i_58, i_59, i_60, i_61, i_62, i_63, i_64, i_65, i_66, i_67, i_68, i_69, i_70, i_72, i_77, i_78, i_80, i_81, i_82, i_83, i_84, i_87, i_88, i_96, i_98, i_100, i_101, i_103, i_118, i_119, i_126, i_133, i_137, i_144, i_154, i_158, i_160, i_190, i_199, i_200, i_207, i_209, i_213, i_229, i_252, i_254, i_255, i_260, i_282, i_303, i_304, i_321, i_348, i_435, i_492, i_522, i_1000, i_1023, i_1600, i_2903, iI_neg]
  rcases hi with rfl | ⟨rfl, hl⟩
  · refine ⟨fun h3 => absurd rfl h3, fun _ => s_X4_lays hf hmb (fun li wh go la hl => h li wh go la hl)⟩
  · refine ⟨fun _ => h li wh go la hl, fun h3 => absurd h3 (by decide)⟩
