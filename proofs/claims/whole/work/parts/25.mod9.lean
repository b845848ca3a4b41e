theorem aI_u2 {f : Int → Int} {v : Int} : upd (aI f) 2 (iI v) = aI (up f 2 v) := aI_upN (n := 2)
theorem aI_u3 {f : Int → Int} {v : Int} : upd (aI f) 3 (iI v) = aI (up f 3 v) := aI_upN (n := 3)
/-- 87 places of g, from p on, laid into h from q on -/
def cpF (g : Int → Int) (p : Int) (h : Int → Int) (q : Int) : Int → Int := fun j => if q ≤ j ∧ j < q + 87 then g (p + (j - q)) else h j
theorem s_X4_copies {n0 n2 : Nat} {p q : Int} {g h : Int → Int} {Q : (Nat → Int32) → Prop} (p0 : 0 ≤ p) (p1 : p + 87 ≤ n0) (q0 : 0 ≤ q) (q1 : q + 87 ≤ n2) (m0 : n0 ≤ 1000) (m2 : n2 ≤ 1000) (hq : Q (aI (cpF g p h q))) : P_X4_copies n0 n2 (iI p) (iI q) (aI g) (aI h) Q := by
  have lp : ∀ (m k : Nat) (h2 : Int → Int), k + m = 87 → (∀ j : Int, h2 j = if q ≤ j ∧ j < q + k then g (p + (j - q)) else h j) → P_X4_copies_L3 n0 n2 (iI p) (iI q) (aI g) Q (m + 1) (iI k) (aI h2) := by
    intro m
    induction m with
    | zero =>
      intro k h2 hk hh
      rw [P_X4_copies_L3_s]
      unfold B_X4_copies_L3
      simp (disch := omega) only [iI_add, iI_sub, iI_mul, iI_neg, iI_lt, iI_le, iI_eq, iI_cl, aI_at, aI_up, aI_l0, aI_l1, aI_l2, aI_l3, i_m9, i_m1, i_0, i_1, i_2, i_3, i_4, i_5, i_6, i_7, i_8, i_9, i_10, i_11, i_12, i_13, i_14, i_15, i_16, i_17, i_18, i_19, i_20, i_21, i_22, i_23, i_24, i_25, i_26, i_27, i_28, i_29, i_30, i_31, i_32, i_33, i_34, i_35, i_36, i_37, i_38, i_39, i_40, i_41, i_42, i_43, i_44, i_45, i_46, i_47, i_48, i_49, i_50, i_51, i_52, i_53, i_54, i_55, i_56, i_57, i_58, i_59, i_60, i_61, i_62, i_63, i_64, i_65, i_66, i_67, i_68, i_69, i_70, i_72, i_77, i_78, i_80, i_81, i_82, i_83, i_84, i_87, i_88, i_96, i_98, i_100, i_101, i_103, i_118, i_119, i_126, i_133, i_137, i_144, i_154, i_158, i_160, i_190, i_199, i_200, i_207, i_209, i_213, i_229, i_252, i_254, i_255, i_260, i_282, i_303, i_304, i_321, i_348, i_435, i_492, i_522, i_1000, i_1023, i_1600, i_2903, iI_neg]
      refine ⟨fun _ => ?_, fun hx => absurd (by omega) hx⟩
      have e : h2 = cpF g p h q := by
        funext j
        rw [hh j, show (k : Int) = 87 by omega]
        rfl
      rwa [e]
    | succ m ih =>
      intro k h2 hk hh
      have ih1 := ih (k + 1) (up h2 (q + k) (g (p + k))) (by omega) (fun j => by
        by_cases e : j = q + k
        · rw [e, up_eq, if_pos (by omega)]
          exact congrArg g (by omega)
        · rw [up_ne e, hh j]
          by_cases e2 : q ≤ j ∧ j < q + k
          · rw [if_pos e2, if_pos (by omega)]
          · rw [if_neg e2, if_neg (by omega)])
      rw [nsucc] at ih1
      rw [P_X4_copies_L3_s]
      unfold B_X4_copies_L3
      simp (disch := omega) only [iI_add, iI_sub, iI_mul, iI_neg, iI_lt, iI_le, iI_eq, iI_cl, aI_at, aI_up, aI_l0, aI_l1, aI_l2, aI_l3, i_m9, i_m1, i_0, i_1, i_2, i_3, i_4, i_5, i_6, i_7, i_8, i_9, i_10, i_11, i_12, i_13, i_14, i_15, i_16, i_17, i_18, i_19, i_20, i_21, i_22, i_23, i_24, i_25, i_26, i_27, i_28, i_29, i_30, i_31, i_32, i_33, i_34, i_35, i_36, i_37, i_38, i_39, i_40, i_41, i_42, i_43, i_44, i_45, i_46, i_47, i_48, i_49, i_50, i_51, i_52, i_53, i_54, i_55, i_56, i_57, i_58, i_59, i_60, i_61, i_62, i_63, i_64, i_65, i_66, i_67, i_68, i_69, i_70, i_72, i_77, i_78, i_80, i_81, i_82, i_83, i_84, i_87, i_88, i_96, i_98, i_100, i_101, i_103, i_118, i_119, i_126, i_133, i_137, i_144, i_154, i_158, i_160, i_190, i_199, i_200, i_207, i_209, i_213, i_229, i_252, i_254, i_255, i_260, i_282, i_303, i_304, i_321, i_348, i_435, i_492, i_522, i_1000, i_1023, i_1600, i_2903, iI_neg]
      exact ⟨fun hx => absurd hx (by omega), fun _ => ⟨iI_in (by omega) (by omega) (by omega), iI_in (by omega) (by omega) (by omega), ih1⟩⟩
  unfold P_X4_copies
  exact ⟨_, lp 87 0 h (by omega) (fun j => by rw [if_neg (by omega)])⟩
def shF (P : Int → Int) : Int → Int := fun j => if 0 ≤ j ∧ j < 435 then P (j + 87) else P j
/-- the saved states, with this one behind them -/
def svP (f P : Int → Int) (k : Int) : Int → Int := if k = 6 then cpF f 0 (shF P) 435 else cpF f 0 P (87 * k)
def svK (k : Int) : Int := if k = 6 then 6 else k + 1
theorem s_X4_saves {k il : Int} {f P : Int → Int} {Q : (Nat → Int32) → Int32 → Int32 → Prop} (k0 : 0 ≤ k) (k1 : k ≤ 6) (h : Q (aI (svP f P k)) (iI (svK k)) (iI 0)) : P_X4_saves (aI f) (aI P) (iI k) (iI il) Q := by
  have lp : ∀ (K : (Nat → Int32) → Prop), K (aI (shF P)) → ∀ (m j : Nat) (P2 : Int → Int), j + m = 435 → (∀ i : Int, P2 i = if 0 ≤ i ∧ i < j then P (i + 87) else P i) → P_X4_saves_L16 K (m + 1) (iI j) (aI P2) := by
    intro K hK m
    induction m with
    | zero =>
      intro j P2 hj hh
      rw [P_X4_saves_L16_s]
      unfold B_X4_saves_L16
      simp (disch := omega) only [iI_add, iI_sub, iI_mul, iI_neg, iI_lt, iI_le, iI_eq, iI_cl, aI_at, aI_up, aI_l0, aI_l1, aI_l2, aI_l3, i_m9, i_m1, i_0, i_1, i_2, i_3, i_4, i_5, i_6, i_7, i_8, i_9, i_10, i_11, i_12, i_13, i_14, i_15, i_16, i_17, i_18, i_19, i_20, i_21, i_22, i_23, i_24, i_25, i_26, i_27, i_28, i_29, i_30, i_31, i_32, i_33, i_34, i_35, i_36, i_37, i_38, i_39, i_40, i_41, i_42, i_43, i_44, i_45, i_46, i_47, i_48, i_49, i_50, i_51, i_52, i_53, i_54, i_55, i_56, i_57, i_58, i_59, i_60, i_61, i_62, i_63, i_64, i_65, i_66, i_67, i_68, i_69, i_70, i_72, i_77, i_78, i_80, i_81, i_82, i_83, i_84, i_87, i_88, i_96, i_98, i_100, i_101, i_103, i_118, i_119, i_126, i_133, i_137, i_144, i_154, i_158, i_160, i_190, i_199, i_200, i_207, i_209, i_213, i_229, i_252, i_254, i_255, i_260, i_282, i_303, i_304, i_321, i_348, i_435, i_492, i_522, i_1000, i_1023, i_1600, i_2903, iI_neg]
      refine ⟨fun _ => ?_, fun hx => absurd (by omega) hx⟩
      have e : P2 = shF P := by
        funext i
        rw [hh i, show (j : Int) = 435 by omega]
        rfl
      rwa [e]
    | succ m ih =>
      intro j P2 hj hh
      have e9 : P2 ((j : Int) + 87) = P ((j : Int) + 87) := by rw [hh, if_neg (by omega)]
      have ih1 := ih (j + 1) (up P2 j (P ((j : Int) + 87))) (by omega) (fun i => by
        by_cases e : i = j
        · rw [e, up_eq, if_pos (by omega)]
        · rw [up_ne e, hh i]
          by_cases e2 : 0 ≤ i ∧ i < j
          · rw [if_pos e2, if_pos (by omega)]
          · rw [if_neg e2, if_neg (by omega)])
      rw [nsucc] at ih1
      rw [P_X4_saves_L16_s]
      unfold B_X4_saves_L16
      simp (disch := omega) only [iI_add, iI_sub, iI_mul, iI_neg, iI_lt, iI_le, iI_eq, iI_cl, aI_at, aI_up, aI_l0, aI_l1, aI_l2, aI_l3, i_m9, i_m1, i_0, i_1, i_2, i_3, i_4, i_5, i_6, i_7, i_8, i_9, i_10, i_11, i_12, i_13, i_14, i_15, i_16, i_17, i_18, i_19, i_20, i_21, i_22, i_23, i_24, i_25, i_26, i_27, i_28, i_29, i_30, i_31, i_32, i_33, i_34, i_35, i_36, i_37, i_38, i_39, i_40, i_41, i_42, i_43, i_44, i_45, i_46, i_47, i_48, i_49, i_50, i_51, i_52, i_53, i_54, i_55, i_56, i_57, i_58, i_59, i_60, i_61, i_62, i_63, i_64, i_65, i_66, i_67, i_68, i_69, i_70, i_72, i_77, i_78, i_80, i_81, i_82, i_83, i_84, i_87, i_88, i_96, i_98, i_100, i_101, i_103, i_118, i_119, i_126, i_133, i_137, i_144, i_154, i_158, i_160, i_190, i_199, i_200, i_207, i_209, i_213, i_229, i_252, i_254, i_255, i_260, i_282, i_303, i_304, i_321, i_348, i_435, i_492, i_522, i_1000, i_1023, i_1600, i_2903, iI_neg, e9]
      exact ⟨fun hx => absurd hx (by omega), fun _ => ⟨iI_in (by omega) (by omega) (by omega), iI_in (by omega) (by omega) (by omega), ih1⟩⟩
  unfold P_X4_saves P_X4_saves_J54
  simp (disch := omega) only [iI_add, iI_sub, iI_mul, iI_neg, iI_lt, iI_le, iI_eq, iI_cl, aI_at, aI_up, aI_l0, aI_l1, aI_l2, aI_l3, i_m9, i_m1, i_0, i_1, i_2, i_3, i_4, i_5, i_6, i_7, i_8, i_9, i_10, i_11, i_12, i_13, i_14, i_15, i_16, i_17, i_18, i_19, i_20, i_21, i_22, i_23, i_24, i_25, i_26, i_27, i_28, i_29, i_30, i_31, i_32, i_33, i_34, i_35, i_36, i_37, i_38, i_39, i_40, i_41, i_42, i_43, i_44, i_45, i_46, i_47, i_48, i_49, i_50, i_51, i_52, i_53, i_54, i_55, i_56, i_57, i_58, i_59, i_60, i_61, i_62, i_63, i_64, i_65, i_66, i_67, i_68, i_69, i_70, i_72, i_77, i_78, i_80, i_81, i_82, i_83, i_84, i_87, i_88, i_96, i_98, i_100, i_101, i_103, i_118, i_119, i_126, i_133, i_137, i_144, i_154, i_158, i_160, i_190, i_199, i_200, i_207, i_209, i_213, i_229, i_252, i_254, i_255, i_260, i_282, i_303, i_304, i_321, i_348, i_435, i_492, i_522, i_1000, i_1023, i_1600, i_2903, iI_neg]
  unfold svP svK at h
  refine ⟨fun h3 => ?_, fun h3 => ⟨_, lp (fun past => P_X4_copies 87 522 (iI 0) (iI (87 * (k - 1))) (aI f) past (fun (s_past_3 : Nat → Int32) => Q s_past_3 (iI (k - 1 + 1)) (iI 0))) ?_ 435 0 P (by omega) (fun i => by rw [if_neg (by omega)])⟩⟩
  · rw [if_neg h3, if_neg h3] at h
    exact s_X4_copies (by omega) (by omega) (by omega) (by omega) (by omega) (by omega) h
  · rw [if_pos h3, if_pos h3] at h
    subst h3
    exact s_X4_copies (by omega) (by omega) (by omega) (by omega) (by omega) (by omega) h
theorem s_X4_changes {a v : Int} {f : Int → Int} {Q : Int32 → (Nat → Int32) → Prop} (a0 : 0 ≤ a) (a1 : a < 87) (h : Q (iI (f a)) (aI (up f a v))) : P_X4_changes (iI a) (iI v) (aI f) Q := by
  unfold P_X4_changes
  simp (disch := omega) only [iI_add, iI_sub, iI_mul, iI_neg, iI_lt, iI_le, iI_eq, iI_cl, aI_at, aI_up, aI_l0, aI_l1, aI_l2, aI_l3, i_m9, i_m1, i_0, i_1, i_2, i_3, i_4, i_5, i_6, i_7, i_8, i_9, i_10, i_11, i_12, i_13, i_14, i_15, i_16, i_17, i_18, i_19, i_20, i_21, i_22, i_23, i_24, i_25, i_26, i_27, i_28, i_29, i_30, i_31, i_32, i_33, i_34, i_35, i_36, i_37, i_38, i_39, i_40, i_41, i_42, i_43, i_44, i_45, i_46, i_47, i_48, i_49, i_50, i_51, i_52, i_53, i_54, i_55, i_56, i_57, i_58, i_59, i_60, i_61, i_62, i_63, i_64, i_65, i_66, i_67, i_68, i_69, i_70, i_72, i_77, i_78, i_80, i_81, i_82, i_83, i_84, i_87, i_88, i_96, i_98, i_100, i_101, i_103, i_118, i_119, i_126, i_133, i_137, i_144, i_154, i_158, i_160, i_190, i_199, i_200, i_207, i_209, i_213, i_229, i_252, i_254, i_255, i_260, i_282, i_303, i_304, i_321, i_348, i_435, i_492, i_522, i_1000, i_1023, i_1600, i_2903, iI_neg]
  exact ⟨iI_in a0 (by omega) (by omega), iI_in a0 (by omega) (by omega), h⟩
/-- a state with one more word, one more beam -/
def wdF (f : Int → Int) (l r c q : Int) : Int → Int := up (up (up (up (up (up (up f (4 + 6 * f 2) l) (4 + 6 * f 2 + 1) r) (4 + 6 * f 2 + 2) c) (4 + 6 * f 2 + 3) q) (4 + 6 * f 2 + 4) 0) (4 + 6 * f 2 + 5) 4) 2 (f 2 + 1)
def bmF (f : Int → Int) (t c s w r : Int) : Int → Int := up (up (up (up (up (up f (52 + 5 * f 3) t) (52 + 5 * f 3 + 1) c) (52 + 5 * f 3 + 2) s) (52 + 5 * f 3 + 3) w) (52 + 5 * f 3 + 4) r) 3 (f 3 + 1)
theorem s_X4_words {l r c q : Int} {f : Int → Int} {Q : Int32 → (Nat → Int32) → Prop} (n0 : 0 ≤ f 2) (n1 : f 2 < 8) (h : Q (iI (f 2)) (aI (wdF f l r c q))) : P_X4_words (iI l) (iI r) (iI c) (iI q) (aI f) Q := by
  unfold P_X4_words
  simp (disch := omega) only [iI_add, iI_sub, iI_mul, iI_neg, iI_lt, iI_le, iI_eq, iI_cl, aI_at, aI_up, aI_l0, aI_l1, aI_l2, aI_l3, i_m9, i_m1, i_0, i_1, i_2, i_3, i_4, i_5, i_6, i_7, i_8, i_9, i_10, i_11, i_12, i_13, i_14, i_15, i_16, i_17, i_18, i_19, i_20, i_21, i_22, i_23, i_24, i_25, i_26, i_27, i_28, i_29, i_30, i_31, i_32, i_33, i_34, i_35, i_36, i_37, i_38, i_39, i_40, i_41, i_42, i_43, i_44, i_45, i_46, i_47, i_48, i_49, i_50, i_51, i_52, i_53, i_54, i_55, i_56, i_57, i_58, i_59, i_60, i_61, i_62, i_63, i_64, i_65, i_66, i_67, i_68, i_69, i_70, i_72, i_77, i_78, i_80, i_81, i_82, i_83, i_84, i_87, i_88, i_96, i_98, i_100, i_101, i_103, i_118, i_119, i_126, i_133, i_137, i_144, i_154, i_158, i_160, i_190, i_199, i_200, i_207, i_209, i_213, i_229, i_252, i_254, i_255, i_260, i_282, i_303, i_304, i_321, i_348, i_435, i_492, i_522, i_1000, i_1023, i_1600, i_2903, iI_neg, aI_u2, up_ne, up_eq]
  rw [show f 2 + 1 - 1 = f 2 by omega]
  exact ⟨iI_in (by omega) (by omega) (by omega), iI_in (by omega) (by omega) (by omega), iI_in (by omega) (by omega) (by omega), iI_in (by omega) (by omega) (by omega), iI_in (by omega) (by omega) (by omega), iI_in (by omega) (by omega) (by omega), h⟩
theorem s_X4_beams {t c s w r : Int} {f : Int → Int} {Q : (Nat → Int32) → Prop} (n0 : 0 ≤ f 3) (n1 : f 3 < 7) (h : Q (aI (bmF f t c s w r))) : P_X4_beams (iI t) (iI c) (iI s) (iI w) (iI r) (aI f) Q := by
  unfold P_X4_beams
  simp (disch := omega) only [iI_add, iI_sub, iI_mul, iI_neg, iI_lt, iI_le, iI_eq, iI_cl, aI_at, aI_up, aI_l0, aI_l1, aI_l2, aI_l3, i_m9, i_m1, i_0, i_1, i_2, i_3, i_4, i_5, i_6, i_7, i_8, i_9, i_10, i_11, i_12, i_13, i_14, i_15, i_16, i_17, i_18, i_19, i_20, i_21, i_22, i_23, i_24, i_25, i_26, i_27, i_28, i_29, i_30, i_31, i_32, i_33, i_34, i_35, i_36, i_37, i_38, i_39, i_40, i_41, i_42, i_43, i_44, i_45, i_46, i_47, i_48, i_49, i_50, i_51, i_52, i_53, i_54, i_55, i_56, i_57, i_58, i_59, i_60, i_61, i_62, i_63, i_64, i_65, i_66, i_67, i_68, i_69, i_70, i_72, i_77, i_78, i_80, i_81, i_82, i_83, i_84, i_87, i_88, i_96, i_98, i_100, i_101, i_103, i_118, i_119, i_126, i_133, i_137, i_144, i_154, i_158, i_160, i_190, i_199, i_200, i_207, i_209, i_213, i_229, i_252, i_254, i_255, i_260, i_282, i_303, i_304, i_321, i_348, i_435, i_492, i_522, i_1000, i_1023, i_1600, i_2903, iI_neg, aI_u3, up_ne, up_eq]
  exact ⟨iI_in (by omega) (by omega) (by omega), iI_in (by omega) (by omega) (by omega), iI_in (by omega) (by omega) (by omega), iI_in (by omega) (by omega) (by omega), iI_in (by omega) (by omega) (by omega), h⟩
/-- why a word can't be added: 1, 2; 0: it can -/
def tW (f : Int → Int) (l r c q : Int) : Int := if 1 ≤ l ∧ l ≤ 12 ∧ 0 ≤ r ∧ r ≤ 7 ∧ 0 ≤ c ∧ c ≤ 59 ∧ 0 ≤ q ∧ q ≤ 199 ∧ c + l ≤ 60 then (if f 2 = 8 then 2 else 0) else 1
def tB (f : Int → Int) (t c s w r : Int) : Int := if 0 ≤ t ∧ t ≤ 199 ∧ 0 ≤ c ∧ c ≤ 59 ∧ -9 ≤ s ∧ s ≤ 9 ∧ 1 ≤ w ∧ w ≤ 9 ∧ 1 ≤ r ∧ r ≤ 255 then (if f 3 = 6 then 2 else 0) else 1
def I32 (x : Int) : Prop := -2147483648 ≤ x ∧ x < 2147483648
theorem s_X4_mayWord {l r c q : Int} {f : Int → Int} {Q : Int32 → Prop} (hl : I32 l) (hr : I32 r) (hc : I32 c) (hq : I32 q) (n0 : 0 ≤ f 2 ∧ f 2 ≤ 8) (h : Q (iI (tW f l r c q))) : P_X4_mayWord (iI l) (iI r) (iI c) (iI q) (aI f) Q := by
  obtain ⟨l0, l1⟩ := hl
  obtain ⟨r0, r1⟩ := hr
  obtain ⟨c0, c1⟩ := hc
  obtain ⟨q0, q1⟩ := hq
  unfold P_X4_mayWord
  simp only [i_m9, i_m1, i_0, i_1, i_2, i_3, i_4, i_5, i_6, i_7, i_8, i_9, i_10, i_11, i_12, i_13, i_14, i_15, i_16, i_17, i_18, i_19, i_20, i_21, i_22, i_23, i_24, i_25, i_26, i_27, i_28, i_29, i_30, i_31, i_32, i_33, i_34, i_35, i_36, i_37, i_38, i_39, i_40, i_41, i_42, i_43, i_44, i_45, i_46, i_47, i_48, i_49, i_50, i_51, i_52, i_53, i_54, i_55, i_56, i_57, i_58, i_59, i_60, i_61, i_62, i_63, i_64, i_65, i_66, i_67, i_68, i_69, i_70, i_72, i_77, i_78, i_80, i_81, i_82, i_83, i_84, i_87, i_88, i_96, i_98, i_100, i_101, i_103, i_118, i_119, i_126, i_133, i_137, i_144, i_154, i_158, i_160, i_190, i_199, i_200, i_207, i_209, i_213, i_229, i_252, i_254, i_255, i_260, i_282, i_303, i_304, i_321, i_348, i_435, i_492, i_522, i_1000, i_1023, i_1600, i_2903, iI_neg]
  unfold tW at h
  refine s_X4_in l0 l1 (by omega) (by omega) (by omega) (by omega) (br_b (fun g => ?_) (fun g1 => ?_))
  · rw [inn_f] at g; rwa [if_neg (by omega)] at h
  rw [inn_iff] at g1
  refine s_X4_in r0 r1 (by omega) (by omega) (by omega) (by omega) (br_b (fun g => ?_) (fun g2 => ?_))
  · rw [inn_f] at g; rwa [if_neg (by omega)] at h
  rw [inn_iff] at g2
  refine s_X4_isColumn c0 c1 (br_b (fun g => ?_) (fun g3 => ?_))
  · rw [inn_f] at g; rwa [if_neg (by omega)] at h
  rw [inn_iff] at g3
  refine s_X4_isBeat q0 q1 (br_b (fun g => ?_) (fun g4 => ?_))
  · rw [inn_f] at g; rwa [if_neg (by omega)] at h
  rw [inn_iff] at g4
  simp (disch := omega) only [iI_add, iI_sub, iI_mul, iI_neg, iI_lt, iI_le, iI_eq, iI_cl, aI_at, aI_up, aI_l0, aI_l1, aI_l2, aI_l3]
  refine ⟨fun g5 => ?_, fun g5 => ?_⟩
  · rw [if_pos (by omega)] at h
    refine ⟨fun g6 => ?_, fun g6 => ?_⟩
    · rwa [if_neg g6] at h
    · rwa [if_pos g6] at h
  · rwa [if_neg (by omega)] at h
theorem s_X4_mayBeam {t c s w r : Int} {f : Int → Int} {Q : Int32 → Prop} (ht : I32 t) (hc : I32 c) (hs : I32 s) (hw : I32 w) (hr : I32 r) (n0 : 0 ≤ f 3 ∧ f 3 ≤ 7) (h : Q (iI (tB f t c s w r))) : P_X4_mayBeam (iI t) (iI c) (iI s) (iI w) (iI r) (aI f) Q := by
  obtain ⟨t0, t1⟩ := ht
  obtain ⟨c0, c1⟩ := hc
  obtain ⟨s0, s1⟩ := hs
  obtain ⟨w0, w1⟩ := hw
  obtain ⟨r0, r1⟩ := hr
  unfold P_X4_mayBeam
  simp only [i_m9, i_m1, i_0, i_1, i_2, i_3, i_4, i_5, i_6, i_7, i_8, i_9, i_10, i_11, i_12, i_13, i_14, i_15, i_16, i_17, i_18, i_19, i_20, i_21, i_22, i_23, i_24, i_25, i_26, i_27, i_28, i_29, i_30, i_31, i_32, i_33, i_34, i_35, i_36, i_37, i_38, i_39, i_40, i_41, i_42, i_43, i_44, i_45, i_46, i_47, i_48, i_49, i_50, i_51, i_52, i_53, i_54, i_55, i_56, i_57, i_58, i_59, i_60, i_61, i_62, i_63, i_64, i_65, i_66, i_67, i_68, i_69, i_70, i_72, i_77, i_78, i_80, i_81, i_82, i_83, i_84, i_87, i_88, i_96, i_98, i_100, i_101, i_103, i_118, i_119, i_126, i_133, i_137, i_144, i_154, i_158, i_160, i_190, i_199, i_200, i_207, i_209, i_213, i_229, i_252, i_254, i_255, i_260, i_282, i_303, i_304, i_321, i_348, i_435, i_492, i_522, i_1000, i_1023, i_1600, i_2903, iI_neg]
  unfold tB at h
  refine s_X4_isBeat t0 t1 (br_b (fun g => ?_) (fun g1 => ?_))
  · rw [inn_f] at g; rwa [if_neg (by omega)] at h
  rw [inn_iff] at g1
  refine s_X4_isColumn c0 c1 (br_b (fun g => ?_) (fun g2 => ?_))
  · rw [inn_f] at g; rwa [if_neg (by omega)] at h
  rw [inn_iff] at g2
  refine s_X4_in s0 s1 (by omega) (by omega) (by omega) (by omega) (br_b (fun g => ?_) (fun g3 => ?_))
  · rw [inn_f] at g; rwa [if_neg (by omega)] at h
  rw [inn_iff] at g3
  refine s_X4_in w0 w1 (by omega) (by omega) (by omega) (by omega) (br_b (fun g => ?_) (fun g4 => ?_))
  · rw [inn_f] at g; rwa [if_neg (by omega)] at h
  rw [inn_iff] at g4
  refine s_X4_in r0 r1 (by omega) (by omega) (by omega) (by omega) (br_b' (fun g => ?_) (fun g5 => ?_))
  · rw [inn_f] at g; rwa [if_neg (by omega)] at h
  · rw [inn_iff] at g5
    simp (disch := omega) only [iI_add, iI_sub, iI_mul, iI_neg, iI_lt, iI_le, iI_eq, iI_cl, aI_at, aI_up, aI_l0, aI_l1, aI_l2, aI_l3]
    rw [if_pos (by omega)] at h
    refine ⟨fun g6 => ?_, fun g6 => ?_⟩
    · rwa [if_neg g6] at h
    · rwa [if_pos g6] at h
/-- a beam taken out -/
def ulF (f : Int → Int) (b : Int) : Int → Int := fun j => if j = 3 then f 3 - 1 else if 52 + 5 * b ≤ j ∧ j < 52 + 5 * (f 3 - 1) then f (j + 5) else f j
theorem s_X4_unlights {b : Int} {f : Int → Int} {Q : (Nat → Int32) → Prop} (b0 : 0 ≤ b) (b1 : b < f 3) (n1 : f 3 ≤ 7) (h : Q (aI (ulF f b))) : P_X4_unlights (iI b) (aI f) Q := by
  have lp : ∀ (m : Nat) (k : Int) (f2 : Int → Int), 52 + 5 * b ≤ k → k + m = 52 + 5 * (f 3 - 1) → (∀ j : Int, f2 j = if j = 3 then f 3 - 1 else if 52 + 5 * b ≤ j ∧ j < k then f (j + 5) else f j) → P_X4_unlights_L14 Q (m + 1) (iI k) (aI f2) := by
    intro m
    induction m with
    | zero =>
      intro k f2 k0 hk hh
      have e3 : f2 3 = f 3 - 1 := by rw [hh, if_pos rfl]
      rw [P_X4_unlights_L14_s]
      unfold B_X4_unlights_L14
      simp (disch := omega) only [iI_add, iI_sub, iI_mul, iI_neg, iI_lt, iI_le, iI_eq, iI_cl, aI_at, aI_up, aI_l0, aI_l1, aI_l2, aI_l3, i_m9, i_m1, i_0, i_1, i_2, i_3, i_4, i_5, i_6, i_7, i_8, i_9, i_10, i_11, i_12, i_13, i_14, i_15, i_16, i_17, i_18, i_19, i_20, i_21, i_22, i_23, i_24, i_25, i_26, i_27, i_28, i_29, i_30, i_31, i_32, i_33, i_34, i_35, i_36, i_37, i_38, i_39, i_40, i_41, i_42, i_43, i_44, i_45, i_46, i_47, i_48, i_49, i_50, i_51, i_52, i_53, i_54, i_55, i_56, i_57, i_58, i_59, i_60, i_61, i_62, i_63, i_64, i_65, i_66, i_67, i_68, i_69, i_70, i_72, i_77, i_78, i_80, i_81, i_82, i_83, i_84, i_87, i_88, i_96, i_98, i_100, i_101, i_103, i_118, i_119, i_126, i_133, i_137, i_144, i_154, i_158, i_160, i_190, i_199, i_200, i_207, i_209, i_213, i_229, i_252, i_254, i_255, i_260, i_282, i_303, i_304, i_321, i_348, i_435, i_492, i_522, i_1000, i_1023, i_1600, i_2903, iI_neg, e3]
      refine ⟨fun _ => ?_, fun hx => absurd (by omega) hx⟩
      have e : f2 = ulF f b := by
        funext j
        rw [hh j, show k = 52 + 5 * (f 3 - 1) by omega]
        rfl
      rwa [e]
    | succ m ih =>
      intro k f2 k0 hk hh
      have e3 : f2 3 = f 3 - 1 := by rw [hh, if_pos rfl]
      have e9 : f2 (k + 5) = f (k + 5) := by rw [hh, if_neg (by omega), if_neg (by omega)]
      have ih1 := ih (k + 1) (up f2 k (f (k + 5))) (by omega) (by omega) (fun j => by
        by_cases e : j = k
        · rw [e, up_eq, if_neg (by omega), if_pos (by omega)]
        · rw [up_ne e, hh j]
          by_cases e2 : j = 3
          · rw [if_pos e2, if_pos e2]
          · rw [if_neg e2, if_neg e2]
            by_cases e4 : 52 + 5 * b ≤ j ∧ j < k
            · rw [if_pos e4, if_pos (by omega)]
            · rw [if_neg e4, if_neg (by omega)])
      rw [P_X4_unlights_L14_s]
      unfold B_X4_unlights_L14
      simp (disch := omega) only [iI_add, iI_sub, iI_mul, iI_neg, iI_lt, iI_le, iI_eq, iI_cl, aI_at, aI_up, aI_l0, aI_l1, aI_l2, aI_l3, i_m9, i_m1, i_0, i_1, i_2, i_3, i_4, i_5, i_6, i_7, i_8, i_9, i_10, i_11, i_12, i_13, i_14, i_15, i_16, i_17, i_18, i_19, i_20, i_21, i_22, i_23, i_24, i_25, i_26, i_27, i_28, i_29, i_30, i_31, i_32, i_33, i_34, i_35, i_36, i_37, i_38, i_39, i_40, i_41, i_42, i_43, i_44, i_45, i_46, i_47, i_48, i_49, i_50, i_51, i_52, i_53, i_54, i_55, i_56, i_57, i_58, i_59, i_60, i_61, i_62, i_63, i_64, i_65, i_66, i_67, i_68, i_69, i_70, i_72, i_77, i_78, i_80, i_81, i_82, i_83, i_84, i_87, i_88, i_96, i_98, i_100, i_101, i_103, i_118, i_119, i_126, i_133, i_137, i_144, i_154, i_158, i_160, i_190, i_199, i_200, i_207, i_209, i_213, i_229, i_252, i_254, i_255, i_260, i_282, i_303, i_304, i_321, i_348, i_435, i_492, i_522, i_1000, i_1023, i_1600, i_2903, iI_neg, e3, e9]
      exact ⟨fun hx => absurd hx (by omega), fun _ => ⟨iI_in (by omega) (by omega) (by omega), iI_in (by omega) (by omega) (by omega), ih1⟩⟩
  unfold P_X4_unlights
  simp (disch := omega) only [iI_add, iI_sub, iI_mul, iI_neg, iI_lt, iI_le, iI_eq, iI_cl, aI_at, aI_up, aI_l0, aI_l1, aI_l2, aI_l3, i_m9, i_m1, i_0, i_1, i_2, i_3, i_4, i_5, i_6, i_7, i_8, i_9, i_10, i_11, i_12, i_13, i_14, i_15, i_16, i_17, i_18, i_19, i_20, i_21, i_22, i_23, i_24, i_25, i_26, i_27, i_28, i_29, i_30, i_31, i_32, i_33, i_34, i_35, i_36, i_37, i_38, i_39, i_40, i_41, i_42, i_43, i_44, i_45, i_46, i_47, i_48, i_49, i_50, i_51, i_52, i_53, i_54, i_55, i_56, i_57, i_58, i_59, i_60, i_61, i_62, i_63, i_64, i_65, i_66, i_67, i_68, i_69, i_70, i_72, i_77, i_78, i_80, i_81, i_82, i_83, i_84, i_87, i_88, i_96, i_98, i_100, i_101, i_103, i_118, i_119, i_126, i_133, i_137, i_144, i_154, i_158, i_160, i_190, i_199, i_200, i_207, i_209, i_213, i_229, i_252, i_254, i_255, i_260, i_282, i_303, i_304, i_321, i_348, i_435, i_492, i_522, i_1000, i_1023, i_1600, i_2903, iI_neg, aI_u3]
  refine ⟨_, lp (52 + 5 * (f 3 - 1) - (52 + 5 * b)).toNat (52 + 5 * b) _ (by omega) (by omega) (fun j => ?_)⟩
  by_cases e : j = 3
  · rw [e, up_eq, if_pos rfl]
  · rw [up_ne e, if_neg e, if_neg (by omega)]
