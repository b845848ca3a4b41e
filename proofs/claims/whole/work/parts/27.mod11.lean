theorem i32_r {x lo hi : Int} (h1 : lo ≤ x) (h2 : x ≤ hi) (h3 : -2147483648 ≤ lo := by omega) (h4 : hi < 2147483648 := by omega) : I32 x := ⟨by omega, by omega⟩
theorem s_X4_fails {v t : Int} {Q : Int32 → Int32 → Prop} (h : Q (iI 0) (iI v)) : P_X4_fails (iI v) (iI t) Q := by
  unfold P_X4_fails
  simp only [i_m9, i_m1, i_0, i_1, i_2, i_3, i_4, i_5, i_6, i_7, i_8, i_9, i_10, i_11, i_12, i_13, i_14, i_15, i_16, i_17, i_18, i_19, i_20, i_21, i_22, i_23, i_24, i_25, i_26, i_27, i_28, i_29, i_30, i_31, i_32, i_33, i_34, i_35, i_36, i_37, i_38, i_39, i_40, i_41, i_42, i_43, i_44, i_45, i_46, i_47, i_48, i_49, i_50, i_51, i_52, i_53, i_54, i_55, i_56, i_57, i_58, i_59, i_60, i_61, i_62, i_63, i_64, i_65, i_66, i_67, i_68, i_69, i_70, i_72, i_77, i_78, i_80, i_81, i_82, i_83, i_84, i_87, i_88, i_96, i_98, i_100, i_101, i_103, i_118, i_119, i_126, i_133, i_137, i_144, i_154, i_158, i_160, i_190, i_199, i_200, i_207, i_209, i_213, i_229, i_252, i_254, i_255, i_260, i_282, i_303, i_304, i_321, i_348, i_435, i_492, i_522, i_1000, i_1023, i_1600, i_2903, iI_neg]
  exact h
theorem s_X4_word {l r c q k il th : Int} {f P : Int → Int} {Q : Int32 → (Nat → Int32) → (Nat → Int32) → Int32 → Int32 → Int32 → Prop} (hf : OK 6 f) (hl : I32 l) (hr : I32 r) (hc : I32 c) (hq : I32 q) (k0 : 0 ≤ k) (k1 : k ≤ 6)
    (h1 : tW f l r c q = 0 → Q (iI (f 2)) (aI (wdF f l r c q)) (aI (svP f P k)) (iI (svK k)) (iI 0) (iI 0)) (h2 : tW f l r c q ≠ 0 → Q (iI 0) (aI f) (aI P) (iI k) (iI (tW f l r c q)) (iI il)) :
    P_X4_word (iI l) (iI r) (iI c) (iI q) (aI f) (aI P) (iI k) (iI th) (iI il) Q := by
  have h8 := hf.2.2.1
  have ht : 0 ≤ tW f l r c q ∧ tW f l r c q ≤ 2 := by unfold tW; split <;> (try split) <;> omega
  unfold P_X4_word
  refine s_X4_mayWord hl hr hc hq h8 ?_
  simp (disch := omega) only [iI_add, iI_sub, iI_mul, iI_neg, iI_lt, iI_le, iI_eq, iI_cl, aI_at, aI_up, aI_l0, aI_l1, aI_l2, aI_l3, i_m9, i_m1, i_0, i_1, i_2, i_3, i_4, i_5, i_6, i_7, i_8, i_9, i_10, i_11, i_12, i_13, i_14, i_15, i_16, i_17, i_18, i_19, i_20, i_21, i_22, i_23, i_24, i_25, i_26, i_27, i_28, i_29, i_30, i_31, i_32, i_33, i_34, i_35, i_36, i_37, i_38, i_39, i_40, i_41, i_42, i_43, i_44, i_45, i_46, i_47, i_48, i_49, i_50, i_51, i_52, i_53, i_54, i_55, i_56, i_57, i_58, i_59, i_60, i_61, i_62, i_63, i_64, i_65, i_66, i_67, i_68, i_69, i_70, i_72, i_77, i_78, i_80, i_81, i_82, i_83, i_84, i_87, i_88, i_96, i_98, i_100, i_101, i_103, i_118, i_119, i_126, i_133, i_137, i_144, i_154, i_158, i_160, i_190, i_199, i_200, i_207, i_209, i_213, i_229, i_252, i_254, i_255, i_260, i_282, i_303, i_304, i_321, i_348, i_435, i_492, i_522, i_1000, i_1023, i_1600, i_2903, iI_neg]
  refine ⟨fun e => s_X4_saves k0 k1 (s_X4_words (by omega) (by have := tW_0 e; omega) ?_), fun e => h2 e⟩
  rw [e]
  exact h1 e
def tR (f : Int → Int) (w r h : Int) : Int := if 0 ≤ w ∧ w < f 2 then (if 0 ≤ r ∧ r ≤ 2 ∧ 0 ≤ h ∧ h ≤ 50 then 0 else 2) else 1
theorem s_X4_rule {w r hd k il th : Int} {f P : Int → Int} {Q : Int32 → (Nat → Int32) → (Nat → Int32) → Int32 → Int32 → Int32 → Prop} (hf : OK 6 f) (hw : I32 w) (hr : I32 r) (hh : I32 hd) (k0 : 0 ≤ k) (k1 : k ≤ 6)
    (h1 : tR f w r hd = 0 → Q (iI (f (4 + 6 * w + 4))) (aI (up (up f (4 + 6 * w + 5) hd) (4 + 6 * w + 4) r)) (aI (svP f P k)) (iI (svK k)) (iI 0) (iI 0)) (h2 : tR f w r hd ≠ 0 → Q (iI 0) (aI f) (aI P) (iI k) (iI (tR f w r hd)) (iI il)) :
    P_X4_rule (iI w) (iI r) (iI hd) (aI f) (aI P) (iI k) (iI th) (iI il) Q := by
  have h8 := hf.2.2.1
  unfold P_X4_rule P_X4_rule_J38
  simp only [i_m9, i_m1, i_0, i_1, i_2, i_3, i_4, i_5, i_6, i_7, i_8, i_9, i_10, i_11, i_12, i_13, i_14, i_15, i_16, i_17, i_18, i_19, i_20, i_21, i_22, i_23, i_24, i_25, i_26, i_27, i_28, i_29, i_30, i_31, i_32, i_33, i_34, i_35, i_36, i_37, i_38, i_39, i_40, i_41, i_42, i_43, i_44, i_45, i_46, i_47, i_48, i_49, i_50, i_51, i_52, i_53, i_54, i_55, i_56, i_57, i_58, i_59, i_60, i_61, i_62, i_63, i_64, i_65, i_66, i_67, i_68, i_69, i_70, i_72, i_77, i_78, i_80, i_81, i_82, i_83, i_84, i_87, i_88, i_96, i_98, i_100, i_101, i_103, i_118, i_119, i_126, i_133, i_137, i_144, i_154, i_158, i_160, i_190, i_199, i_200, i_207, i_209, i_213, i_229, i_252, i_254, i_255, i_260, i_282, i_303, i_304, i_321, i_348, i_435, i_492, i_522, i_1000, i_1023, i_1600, i_2903, iI_neg]
  unfold tR at h1 h2
  refine s_X4_isWord hw.1 hw.2 h8 (br_b' (fun g => ?_) (fun g1 => ?_))
  · rw [inn_f] at g
    rw [if_neg (by omega)] at h2
    exact s_X4_fails (h2 (by omega))
  rw [inn_iff] at g1
  rw [if_pos (by omega)] at h1 h2
  refine s_X4_in hr.1 hr.2 (by omega) (by omega) (by omega) (by omega) (br_b (fun g => ?_) (fun g2 => ?_))
  · rw [inn_f] at g
    rw [if_neg (by omega)] at h2
    exact s_X4_fails (h2 (by omega))
  rw [inn_iff] at g2
  refine s_X4_in hh.1 hh.2 (by omega) (by omega) (by omega) (by omega) (br_b' (fun g => ?_) (fun g3 => ?_))
  · rw [inn_f] at g
    rw [if_neg (by omega)] at h2
    exact s_X4_fails (h2 (by omega))
  rw [inn_iff] at g3
  rw [if_pos (by omega)] at h1
  refine s_X4_saves k0 k1 ?_
  simp only [iI_add, iI_mul]
  refine s_X4_changes (by omega) (by omega) (s_X4_changes (by omega) (by omega) ?_)
  rw [up_ne (by omega)]
  exact h1 rfl
def tC (f : Int → Int) (w q : Int) : Int := if 0 ≤ w ∧ w < f 2 then (if 0 ≤ q ∧ q ≤ 199 then 0 else 2) else 1
theorem s_X4_cue {w q k il th : Int} {f P : Int → Int} {Q : Int32 → (Nat → Int32) → (Nat → Int32) → Int32 → Int32 → Int32 → Prop} (hf : OK 6 f) (hw : I32 w) (hq : I32 q) (k0 : 0 ≤ k) (k1 : k ≤ 6)
    (h1 : tC f w q = 0 → Q (iI (f (4 + 6 * w + 3))) (aI (up f (4 + 6 * w + 3) q)) (aI (svP f P k)) (iI (svK k)) (iI 0) (iI 0)) (h2 : tC f w q ≠ 0 → Q (iI 0) (aI f) (aI P) (iI k) (iI (tC f w q)) (iI il)) :
    P_X4_cue (iI w) (iI q) (aI f) (aI P) (iI k) (iI th) (iI il) Q := by
  have h8 := hf.2.2.1
  unfold P_X4_cue
  simp only [i_m9, i_m1, i_0, i_1, i_2, i_3, i_4, i_5, i_6, i_7, i_8, i_9, i_10, i_11, i_12, i_13, i_14, i_15, i_16, i_17, i_18, i_19, i_20, i_21, i_22, i_23, i_24, i_25, i_26, i_27, i_28, i_29, i_30, i_31, i_32, i_33, i_34, i_35, i_36, i_37, i_38, i_39, i_40, i_41, i_42, i_43, i_44, i_45, i_46, i_47, i_48, i_49, i_50, i_51, i_52, i_53, i_54, i_55, i_56, i_57, i_58, i_59, i_60, i_61, i_62, i_63, i_64, i_65, i_66, i_67, i_68, i_69, i_70, i_72, i_77, i_78, i_80, i_81, i_82, i_83, i_84, i_87, i_88, i_96, i_98, i_100, i_101, i_103, i_118, i_119, i_126, i_133, i_137, i_144, i_154, i_158, i_160, i_190, i_199, i_200, i_207, i_209, i_213, i_229, i_252, i_254, i_255, i_260, i_282, i_303, i_304, i_321, i_348, i_435, i_492, i_522, i_1000, i_1023, i_1600, i_2903, iI_neg]
  unfold tC at h1 h2
  refine s_X4_isWord hw.1 hw.2 h8 (br_b' (fun g => ?_) (fun g1 => ?_))
  · rw [inn_f] at g
    rw [if_neg (by omega)] at h2
    exact s_X4_fails (h2 (by omega))
  rw [inn_iff] at g1
  rw [if_pos (by omega)] at h1 h2
  refine s_X4_isBeat hq.1 hq.2 (br_b' (fun g => ?_) (fun g2 => ?_))
  · rw [inn_f] at g
    rw [if_neg (by omega)] at h2
    exact s_X4_fails (h2 (by omega))
  rw [inn_iff] at g2
  rw [if_pos (by omega)] at h1
  refine s_X4_saves k0 k1 ?_
  simp only [iI_add, iI_mul]
  exact s_X4_changes (by omega) (by omega) (h1 rfl)
def t1 (n w : Int) : Int := if 0 ≤ w ∧ w < n then 0 else 1
theorem s_X4_removeWord {w k il th : Int} {f P : Int → Int} {Q : Int32 → (Nat → Int32) → (Nat → Int32) → Int32 → Int32 → Int32 → Prop} (hf : OK 6 f) (hw : I32 w) (k0 : 0 ≤ k) (k1 : k ≤ 6)
    (h1 : t1 (f 2) w = 0 → Q (iI (f 2 - 1)) (aI (rwF f w)) (aI (svP f P k)) (iI (svK k)) (iI 0) (iI 0)) (h2 : t1 (f 2) w ≠ 0 → Q (iI 0) (aI f) (aI P) (iI k) (iI (t1 (f 2) w)) (iI il)) :
    P_X4_removeWord (iI w) (aI f) (aI P) (iI k) (iI th) (iI il) Q := by
  have h8 := hf.2.2.1
  unfold P_X4_removeWord
  simp only [i_m9, i_m1, i_0, i_1, i_2, i_3, i_4, i_5, i_6, i_7, i_8, i_9, i_10, i_11, i_12, i_13, i_14, i_15, i_16, i_17, i_18, i_19, i_20, i_21, i_22, i_23, i_24, i_25, i_26, i_27, i_28, i_29, i_30, i_31, i_32, i_33, i_34, i_35, i_36, i_37, i_38, i_39, i_40, i_41, i_42, i_43, i_44, i_45, i_46, i_47, i_48, i_49, i_50, i_51, i_52, i_53, i_54, i_55, i_56, i_57, i_58, i_59, i_60, i_61, i_62, i_63, i_64, i_65, i_66, i_67, i_68, i_69, i_70, i_72, i_77, i_78, i_80, i_81, i_82, i_83, i_84, i_87, i_88, i_96, i_98, i_100, i_101, i_103, i_118, i_119, i_126, i_133, i_137, i_144, i_154, i_158, i_160, i_190, i_199, i_200, i_207, i_209, i_213, i_229, i_252, i_254, i_255, i_260, i_282, i_303, i_304, i_321, i_348, i_435, i_492, i_522, i_1000, i_1023, i_1600, i_2903, iI_neg]
  unfold t1 at h1 h2
  refine s_X4_isWord hw.1 hw.2 h8 (br_b' (fun g => ?_) (fun g1 => ?_))
  · rw [inn_f] at g
    rw [if_neg (by omega)] at h2
    exact s_X4_fails (h2 (by omega))
  rw [inn_iff] at g1
  rw [if_pos (by omega)] at h1
  refine s_X4_saves k0 k1 ?_
  have lp : ∀ (m : Nat) (j : Int) (f2 : Int → Int), 4 + 6 * w ≤ j → j + m = 4 + 6 * (f 2 - 1) → (∀ i : Int, f2 i = if i = 2 then f 2 - 1 else if 4 + 6 * w ≤ i ∧ i < j then f (i + 6) else f i) → P_X4_removeWord_L40 (aI (svP f P k)) (iI (svK k)) (iI 0) (iI 0) Q (m + 1) (iI j) (aI f2) := by
    intro m
    induction m with
    | zero =>
      intro j f2 j0 hj hh
      have e3 : f2 2 = f 2 - 1 := by rw [hh, if_pos rfl]
      rw [P_X4_removeWord_L40_s]
      unfold B_X4_removeWord_L40
      simp (disch := omega) only [iI_add, iI_sub, iI_mul, iI_neg, iI_lt, iI_le, iI_eq, iI_cl, aI_at, aI_up, aI_l0, aI_l1, aI_l2, aI_l3, i_m9, i_m1, i_0, i_1, i_2, i_3, i_4, i_5, i_6, i_7, i_8, i_9, i_10, i_11, i_12, i_13, i_14, i_15, i_16, i_17, i_18, i_19, i_20, i_21, i_22, i_23, i_24, i_25, i_26, i_27, i_28, i_29, i_30, i_31, i_32, i_33, i_34, i_35, i_36, i_37, i_38, i_39, i_40, i_41, i_42, i_43, i_44, i_45, i_46, i_47, i_48, i_49, i_50, i_51, i_52, i_53, i_54, i_55, i_56, i_57, i_58, i_59, i_60, i_61, i_62, i_63, i_64, i_65, i_66, i_67, i_68, i_69, i_70, i_72, i_77, i_78, i_80, i_81, i_82, i_83, i_84, i_87, i_88, i_96, i_98, i_100, i_101, i_103, i_118, i_119, i_126, i_133, i_137, i_144, i_154, i_158, i_160, i_190, i_199, i_200, i_207, i_209, i_213, i_229, i_252, i_254, i_255, i_260, i_282, i_303, i_304, i_321, i_348, i_435, i_492, i_522, i_1000, i_1023, i_1600, i_2903, iI_neg, e3]
      refine ⟨fun _ => ?_, fun hx => absurd (by omega) hx⟩
      have e : f2 = rwF f w := by
        funext i
        rw [hh i, show j = 4 + 6 * (f 2 - 1) by omega]
        rfl
      rw [e]
      exact h1 rfl
    | succ m ih =>
      intro j f2 j0 hj hh
      have e3 : f2 2 = f 2 - 1 := by rw [hh, if_pos rfl]
      have e9 : f2 (j + 6) = f (j + 6) := by rw [hh, if_neg (by omega), if_neg (by omega)]
      have ih1 := ih (j + 1) (up f2 j (f (j + 6))) (by omega) (by omega) (fun i => by
        by_cases e : i = j
        · rw [e, up_eq, if_neg (by omega), if_pos (by omega)]
        · rw [up_ne e, hh i]
          by_cases e2 : i = 2
          · rw [if_pos e2, if_pos e2]
          · rw [if_neg e2, if_neg e2]
            by_cases e4 : 4 + 6 * w ≤ i ∧ i < j
            · rw [if_pos e4, if_pos (by omega)]
            · rw [if_neg e4, if_neg (by omega)])
      rw [P_X4_removeWord_L40_s]
      unfold B_X4_removeWord_L40
      simp (disch := omega) only [iI_add, iI_sub, iI_mul, iI_neg, iI_lt, iI_le, iI_eq, iI_cl, aI_at, aI_up, aI_l0, aI_l1, aI_l2, aI_l3, i_m9, i_m1, i_0, i_1, i_2, i_3, i_4, i_5, i_6, i_7, i_8, i_9, i_10, i_11, i_12, i_13, i_14, i_15, i_16, i_17, i_18, i_19, i_20, i_21, i_22, i_23, i_24, i_25, i_26, i_27, i_28, i_29, i_30, i_31, i_32, i_33, i_34, i_35, i_36, i_37, i_38, i_39, i_40, i_41, i_42, i_43, i_44, i_45, i_46, i_47, i_48, i_49, i_50, i_51, i_52, i_53, i_54, i_55, i_56, i_57, i_58, i_59, i_60, i_61, i_62, i_63, i_64, i_65, i_66, i_67, i_68, i_69, i_70, i_72, i_77, i_78, i_80, i_81, i_82, i_83, i_84, i_87, i_88, i_96, i_98, i_100, i_101, i_103, i_118, i_119, i_126, i_133, i_137, i_144, i_154, i_158, i_160, i_190, i_199, i_200, i_207, i_209, i_213, i_229, i_252, i_254, i_255, i_260, i_282, i_303, i_304, i_321, i_348, i_435, i_492, i_522, i_1000, i_1023, i_1600, i_2903, iI_neg, e3, e9]
      exact ⟨fun hx => absurd hx (by omega), fun _ => ⟨iI_in (by omega) (by omega) (by omega), iI_in (by omega) (by omega) (by omega), ih1⟩⟩
  simp (disch := omega) only [iI_add, iI_sub, iI_mul, iI_neg, iI_lt, iI_le, iI_eq, iI_cl, aI_at, aI_up, aI_l0, aI_l1, aI_l2, aI_l3, i_m9, i_m1, i_0, i_1, i_2, i_3, i_4, i_5, i_6, i_7, i_8, i_9, i_10, i_11, i_12, i_13, i_14, i_15, i_16, i_17, i_18, i_19, i_20, i_21, i_22, i_23, i_24, i_25, i_26, i_27, i_28, i_29, i_30, i_31, i_32, i_33, i_34, i_35, i_36, i_37, i_38, i_39, i_40, i_41, i_42, i_43, i_44, i_45, i_46, i_47, i_48, i_49, i_50, i_51, i_52, i_53, i_54, i_55, i_56, i_57, i_58, i_59, i_60, i_61, i_62, i_63, i_64, i_65, i_66, i_67, i_68, i_69, i_70, i_72, i_77, i_78, i_80, i_81, i_82, i_83, i_84, i_87, i_88, i_96, i_98, i_100, i_101, i_103, i_118, i_119, i_126, i_133, i_137, i_144, i_154, i_158, i_160, i_190, i_199, i_200, i_207, i_209, i_213, i_229, i_252, i_254, i_255, i_260, i_282, i_303, i_304, i_321, i_348, i_435, i_492, i_522, i_1000, i_1023, i_1600, i_2903, iI_neg, aI_u2]
  refine ⟨_, lp (4 + 6 * (f 2 - 1) - (4 + 6 * w)).toNat (4 + 6 * w) _ (by omega) (by omega) (fun i => ?_)⟩
  by_cases e : i = 2
  · rw [e, up_eq, if_pos rfl]
  · rw [up_ne e, if_neg e, if_neg (by omega)]
theorem s_X4_beam {t c s w r k il th : Int} {f P : Int → Int} {Q : Int32 → (Nat → Int32) → (Nat → Int32) → Int32 → Int32 → Int32 → Prop} (hf : OK 6 f) (ht : I32 t) (hc : I32 c) (hs : I32 s) (hw : I32 w) (hr : I32 r) (k0 : 0 ≤ k) (k1 : k ≤ 6)
    (h1 : tB f t c s w r = 0 → Q (iI (f 3)) (aI (bmF f t c s w r)) (aI (svP f P k)) (iI (svK k)) (iI 0) (iI 0)) (h2 : tB f t c s w r ≠ 0 → Q (iI 0) (aI f) (aI P) (iI k) (iI (tB f t c s w r)) (iI il)) :
    P_X4_beam (iI t) (iI c) (iI s) (iI w) (iI r) (aI f) (aI P) (iI k) (iI th) (iI il) Q := by
  have h8 := hf.2.2.2.1
  have hb : 0 ≤ tB f t c s w r ∧ tB f t c s w r ≤ 2 := by unfold tB; split <;> (try split) <;> omega
  unfold P_X4_beam
  refine s_X4_mayBeam ht hc hs hw hr ⟨h8.1, by omega⟩ ?_
  simp (disch := omega) only [iI_add, iI_sub, iI_mul, iI_neg, iI_lt, iI_le, iI_eq, iI_cl, aI_at, aI_up, aI_l0, aI_l1, aI_l2, aI_l3, i_m9, i_m1, i_0, i_1, i_2, i_3, i_4, i_5, i_6, i_7, i_8, i_9, i_10, i_11, i_12, i_13, i_14, i_15, i_16, i_17, i_18, i_19, i_20, i_21, i_22, i_23, i_24, i_25, i_26, i_27, i_28, i_29, i_30, i_31, i_32, i_33, i_34, i_35, i_36, i_37, i_38, i_39, i_40, i_41, i_42, i_43, i_44, i_45, i_46, i_47, i_48, i_49, i_50, i_51, i_52, i_53, i_54, i_55, i_56, i_57, i_58, i_59, i_60, i_61, i_62, i_63, i_64, i_65, i_66, i_67, i_68, i_69, i_70, i_72, i_77, i_78, i_80, i_81, i_82, i_83, i_84, i_87, i_88, i_96, i_98, i_100, i_101, i_103, i_118, i_119, i_126, i_133, i_137, i_144, i_154, i_158, i_160, i_190, i_199, i_200, i_207, i_209, i_213, i_229, i_252, i_254, i_255, i_260, i_282, i_303, i_304, i_321, i_348, i_435, i_492, i_522, i_1000, i_1023, i_1600, i_2903, iI_neg]
  refine ⟨fun e => s_X4_saves k0 k1 (s_X4_beams (by omega) (by have := tB_0 e; omega) ?_), fun e => h2 e⟩
  have e3 := (bmF_at (f := f) (t := t) (c := c) (s := s) (w := w) (r := r) h8.1 (by omega)).2.1
  simp only [aI_l3, e3, iI_sub]
  rw [e, show f 3 + 1 - 1 = f 3 by omega]
  exact h1 e
def tnF (f : Int → Int) (b : Int) : Int → Int := up f (52 + 5 * b + 2) (-f (52 + 5 * b + 2))
theorem tnF_OK {f : Int → Int} {b mb : Int} (hf : OK mb f) (b0 : 0 ≤ b) (b1 : b < f 3) : OK mb (tnF f b) :=
  upb_OK hf b0 b1 (by have := (hf.2.2.2.2.2 b b0 b1).2.2.1; omega)
theorem s_X4_turn {b k il th : Int} {f P li wh go la : Int → Int} {Q : Int32 → (Nat → Int32) → (Nat → Int32) → Int32 → Int32 → (Nat → Int32) → (Nat → Int32) → (Nat → Int32) → Int32 → (Nat → Int32) → Prop} (hf : OK 6 f) (hb : I32 b) (k0 : 0 ≤ k) (k1 : k ≤ 6)
    (h1 : t1 (f 3) b = 0 → ∀ li wh go la : Int → Int, Ld (tnF f b) (tnF f b 2) li wh go → Q (iI (alS (tnF f b))) (aI (tnF f b)) (aI (svP f P k)) (iI (svK k)) (iI 0) (aI li) (aI wh) (aI go) (iI 1) (aI la)) (h2 : t1 (f 3) b ≠ 0 → Q (iI 0) (aI f) (aI P) (iI k) (iI (t1 (f 3) b)) (aI li) (aI wh) (aI go) (iI il) (aI la)) :
    P_X4_turn (iI b) (aI f) (aI P) (iI k) (iI th) (aI li) (aI wh) (aI go) (iI il) (aI la) Q := by
  have h8 := hf.2.2.2.1
  unfold P_X4_turn
  simp only [i_m9, i_m1, i_0, i_1, i_2, i_3, i_4, i_5, i_6, i_7, i_8, i_9, i_10, i_11, i_12, i_13, i_14, i_15, i_16, i_17, i_18, i_19, i_20, i_21, i_22, i_23, i_24, i_25, i_26, i_27, i_28, i_29, i_30, i_31, i_32, i_33, i_34, i_35, i_36, i_37, i_38, i_39, i_40, i_41, i_42, i_43, i_44, i_45, i_46, i_47, i_48, i_49, i_50, i_51, i_52, i_53, i_54, i_55, i_56, i_57, i_58, i_59, i_60, i_61, i_62, i_63, i_64, i_65, i_66, i_67, i_68, i_69, i_70, i_72, i_77, i_78, i_80, i_81, i_82, i_83, i_84, i_87, i_88, i_96, i_98, i_100, i_101, i_103, i_118, i_119, i_126, i_133, i_137, i_144, i_154, i_158, i_160, i_190, i_199, i_200, i_207, i_209, i_213, i_229, i_252, i_254, i_255, i_260, i_282, i_303, i_304, i_321, i_348, i_435, i_492, i_522, i_1000, i_1023, i_1600, i_2903, iI_neg]
  unfold t1 at h1 h2
  refine s_X4_isBeam hb.1 hb.2 ⟨h8.1, by omega⟩ (br_b' (fun g => ?_) (fun g1 => ?_))
  · rw [inn_f] at g
    rw [if_neg (by omega)] at h2
    exact s_X4_fails (h2 (by omega))
  rw [inn_iff] at g1
  rw [if_pos (by omega)] at h1
  refine s_X4_saves k0 k1 (s_X4_by (by omega) (by omega) ?_)
  have e : upd (aI f) ((52 + 5 * b + 2).toNat) (iI (-f (52 + 5 * b + 2))) = aI (tnF f b) := aI_up (by omega)
  simp (disch := omega) only [iI_add, iI_mul, iI_cl, iI_neg, e]
  have hO := tnF_OK hf (b := b) (by omega) (by omega)
  refine ⟨iI_in (by omega) (by omega) (by omega), s_X4_laysNow hO (by omega) (Or.inl rfl) (fun li' wh' go' la' hl => s_X4_allLit hO hl (h1 rfl li' wh' go' la' hl))⟩
theorem s_X4_removeBeam {b k il th : Int} {f P : Int → Int} {Q : Int32 → (Nat → Int32) → (Nat → Int32) → Int32 → Int32 → Int32 → Prop} (hf : OK 6 f) (hb : I32 b) (k0 : 0 ≤ k) (k1 : k ≤ 6)
    (h1 : t1 (f 3) b = 0 → Q (iI (f 3 - 1)) (aI (ulF f b)) (aI (svP f P k)) (iI (svK k)) (iI 0) (iI 0)) (h2 : t1 (f 3) b ≠ 0 → Q (iI 0) (aI f) (aI P) (iI k) (iI (t1 (f 3) b)) (iI il)) :
    P_X4_removeBeam (iI b) (aI f) (aI P) (iI k) (iI th) (iI il) Q := by
  have h8 := hf.2.2.2.1
  unfold P_X4_removeBeam
  simp only [i_m9, i_m1, i_0, i_1, i_2, i_3, i_4, i_5, i_6, i_7, i_8, i_9, i_10, i_11, i_12, i_13, i_14, i_15, i_16, i_17, i_18, i_19, i_20, i_21, i_22, i_23, i_24, i_25, i_26, i_27, i_28, i_29, i_30, i_31, i_32, i_33, i_34, i_35, i_36, i_37, i_38, i_39, i_40, i_41, i_42, i_43, i_44, i_45, i_46, i_47, i_48, i_49, i_50, i_51, i_52, i_53, i_54, i_55, i_56, i_57, i_58, i_59, i_60, i_61, i_62, i_63, i_64, i_65, i_66, i_67, i_68, i_69, i_70, i_72, i_77, i_78, i_80, i_81, i_82, i_83, i_84, i_87, i_88, i_96, i_98, i_100, i_101, i_103, i_118, i_119, i_126, i_133, i_137, i_144, i_154, i_158, i_160, i_190, i_199, i_200, i_207, i_209, i_213, i_229, i_252, i_254, i_255, i_260, i_282, i_303, i_304, i_321, i_348, i_435, i_492, i_522, i_1000, i_1023, i_1600, i_2903, iI_neg]
  unfold t1 at h1 h2
  refine s_X4_isBeam hb.1 hb.2 ⟨h8.1, by omega⟩ (br_b' (fun g => ?_) (fun g1 => ?_))
  · rw [inn_f] at g
    rw [if_neg (by omega)] at h2
    exact s_X4_fails (h2 (by omega))
  rw [inn_iff] at g1
  rw [if_pos (by omega)] at h1
  refine s_X4_saves k0 k1 (s_X4_unlights (by omega) (by omega) (by omega) ?_)
  rw [aI_l3, show ulF f b 3 = f 3 - 1 by unfold ulF; rw [if_pos rfl]]
  exact h1 rfl
def tS (s v : Int) : Int := if 0 ≤ s ∧ s ≤ 1 then (if (s = 0 ∧ 1 ≤ v ∧ v ≤ 16) ∨ (s = 1 ∧ 0 ≤ v ∧ v ≤ 20) then 0 else 2) else 1
theorem s_X4_set {x v k il th : Int} {f P : Int → Int} {Q : Int32 → (Nat → Int32) → (Nat → Int32) → Int32 → Int32 → Int32 → Prop} (hf : OK 6 f) (hx : I32 x) (hv : I32 v) (k0 : 0 ≤ k) (k1 : k ≤ 6)
    (h1 : tS x v = 0 → Q (iI (f x)) (aI (up f x v)) (aI (svP f P k)) (iI (svK k)) (iI 0) (iI 0)) (h2 : tS x v ≠ 0 → Q (iI 0) (aI f) (aI P) (iI k) (iI (tS x v)) (iI il)) :
    P_X4_set (iI x) (iI v) (aI f) (aI P) (iI k) (iI th) (iI il) Q := by
  unfold P_X4_set P_X4_set_J53 P_X4_set_J47
  simp only [i_m9, i_m1, i_0, i_1, i_2, i_3, i_4, i_5, i_6, i_7, i_8, i_9, i_10, i_11, i_12, i_13, i_14, i_15, i_16, i_17, i_18, i_19, i_20, i_21, i_22, i_23, i_24, i_25, i_26, i_27, i_28, i_29, i_30, i_31, i_32, i_33, i_34, i_35, i_36, i_37, i_38, i_39, i_40, i_41, i_42, i_43, i_44, i_45, i_46, i_47, i_48, i_49, i_50, i_51, i_52, i_53, i_54, i_55, i_56, i_57, i_58, i_59, i_60, i_61, i_62, i_63, i_64, i_65, i_66, i_67, i_68, i_69, i_70, i_72, i_77, i_78, i_80, i_81, i_82, i_83, i_84, i_87, i_88, i_96, i_98, i_100, i_101, i_103, i_118, i_119, i_126, i_133, i_137, i_144, i_154, i_158, i_160, i_190, i_199, i_200, i_207, i_209, i_213, i_229, i_252, i_254, i_255, i_260, i_282, i_303, i_304, i_321, i_348, i_435, i_492, i_522, i_1000, i_1023, i_1600, i_2903, iI_neg]
  unfold tS at h1 h2
  refine s_X4_in hx.1 hx.2 (by omega) (by omega) (by omega) (by omega) (br_b' (fun g => ?_) (fun g1 => ?_))
  · rw [inn_f] at g
    rw [if_neg (by omega)] at h2
    exact s_X4_fails (h2 (by omega))
  rw [inn_iff] at g1
  rw [if_pos (by omega)] at h1 h2
  simp (disch := omega) only [iI_eq]
  refine ⟨fun e => s_X4_in hv.1 hv.2 (by omega) (by omega) (by omega) (by omega) (br_b' (fun g => ?_) (fun g2 => ?_)), fun e => s_X4_in hv.1 hv.2 (by omega) (by omega) (by omega) (by omega) (br_b (fun g => ?_) (fun g2 => ?_))⟩
  · rw [inn_f] at g
    rw [if_neg (by omega)] at h2
    exact s_X4_fails (h2 (by omega))
  · rw [inn_iff] at g2
    rw [if_pos (by omega)] at h1
    exact s_X4_saves k0 k1 (s_X4_changes (by omega) (by omega) (h1 rfl))
  · rw [inn_f] at g
    rw [if_neg (by omega)] at h2
    exact s_X4_fails (h2 (by omega))
  · rw [inn_iff] at g2
    rw [if_pos (by omega)] at h1
    exact s_X4_saves k0 k1 (s_X4_changes (by omega) (by omega) (h1 rfl))
theorem s_X4_undo {k il th : Int} {f P : Int → Int} {Q : Int32 → (Nat → Int32) → Int32 → Int32 → Int32 → Prop} (k0 : 0 ≤ k) (k1 : k ≤ 6)
    (h1 : k ≠ 0 → Q (iI (k - 1)) (aI (cpF P (87 * (k - 1)) f 0)) (iI (k - 1)) (iI 0) (iI 0)) (h2 : k = 0 → Q (iI 0) (aI f) (iI k) (iI 1) (iI il)) :
    P_X4_undo (aI f) (aI P) (iI k) (iI th) (iI il) Q := by
  unfold P_X4_undo
  simp (disch := omega) only [iI_add, iI_sub, iI_mul, iI_neg, iI_lt, iI_le, iI_eq, iI_cl, aI_at, aI_up, aI_l0, aI_l1, aI_l2, aI_l3, i_m9, i_m1, i_0, i_1, i_2, i_3, i_4, i_5, i_6, i_7, i_8, i_9, i_10, i_11, i_12, i_13, i_14, i_15, i_16, i_17, i_18, i_19, i_20, i_21, i_22, i_23, i_24, i_25, i_26, i_27, i_28, i_29, i_30, i_31, i_32, i_33, i_34, i_35, i_36, i_37, i_38, i_39, i_40, i_41, i_42, i_43, i_44, i_45, i_46, i_47, i_48, i_49, i_50, i_51, i_52, i_53, i_54, i_55, i_56, i_57, i_58, i_59, i_60, i_61, i_62, i_63, i_64, i_65, i_66, i_67, i_68, i_69, i_70, i_72, i_77, i_78, i_80, i_81, i_82, i_83, i_84, i_87, i_88, i_96, i_98, i_100, i_101, i_103, i_118, i_119, i_126, i_133, i_137, i_144, i_154, i_158, i_160, i_190, i_199, i_200, i_207, i_209, i_213, i_229, i_252, i_254, i_255, i_260, i_282, i_303, i_304, i_321, i_348, i_435, i_492, i_522, i_1000, i_1023, i_1600, i_2903, iI_neg]
  exact ⟨fun e => s_X4_copies (by omega) (by omega) (by omega) (by omega) (by omega) (by omega) (h1 e), fun e => s_X4_fails (h2 e)⟩
def tA (n c : Int) : Int := if 33 ≤ c ∧ c ≤ 126 then (if n = 60 then 2 else 0) else 1
theorem s_X4_append {c n th : Int} {T : Int → Int} {Q : Int32 → (Nat → Int32) → Int32 → Int32 → Prop} (hc : I32 c) (n0 : 0 ≤ n) (n1 : n ≤ 60)
    (h1 : tA n c = 0 → Q (iI (n + 1)) (aI (up T n c)) (iI (n + 1)) (iI 0)) (h2 : tA n c ≠ 0 → Q (iI 0) (aI T) (iI n) (iI (tA n c))) :
    P_X4_append (iI c) (aI T) (iI n) (iI th) Q := by
  unfold P_X4_append
  simp only [i_m9, i_m1, i_0, i_1, i_2, i_3, i_4, i_5, i_6, i_7, i_8, i_9, i_10, i_11, i_12, i_13, i_14, i_15, i_16, i_17, i_18, i_19, i_20, i_21, i_22, i_23, i_24, i_25, i_26, i_27, i_28, i_29, i_30, i_31, i_32, i_33, i_34, i_35, i_36, i_37, i_38, i_39, i_40, i_41, i_42, i_43, i_44, i_45, i_46, i_47, i_48, i_49, i_50, i_51, i_52, i_53, i_54, i_55, i_56, i_57, i_58, i_59, i_60, i_61, i_62, i_63, i_64, i_65, i_66, i_67, i_68, i_69, i_70, i_72, i_77, i_78, i_80, i_81, i_82, i_83, i_84, i_87, i_88, i_96, i_98, i_100, i_101, i_103, i_118, i_119, i_126, i_133, i_137, i_144, i_154, i_158, i_160, i_190, i_199, i_200, i_207, i_209, i_213, i_229, i_252, i_254, i_255, i_260, i_282, i_303, i_304, i_321, i_348, i_435, i_492, i_522, i_1000, i_1023, i_1600, i_2903, iI_neg]
  unfold tA at h1 h2
  refine s_X4_in hc.1 hc.2 (by omega) (by omega) (by omega) (by omega) (br_b' (fun g => ?_) (fun g1 => ?_))
  · rw [inn_f] at g
    rw [if_neg (by omega)] at h2
    exact s_X4_fails (h2 (by omega))
  rw [inn_iff] at g1
  rw [if_pos (by omega)] at h1 h2
  simp (disch := omega) only [iI_add, iI_sub, iI_mul, iI_neg, iI_lt, iI_le, iI_eq, iI_cl, aI_at, aI_up, aI_l0, aI_l1, aI_l2, aI_l3]
  refine ⟨fun e => ⟨iI_in n0 (by omega) (by omega), ?_⟩, fun e => ?_⟩
  · rw [if_neg e] at h1; exact h1 rfl
  · rw [if_pos e] at h2; exact s_X4_fails (h2 (by omega))
