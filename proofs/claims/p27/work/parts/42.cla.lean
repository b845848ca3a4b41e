theorem clN_iff (g : Int → Int) (w o t : Int) : ∀ n : Nat, clN g w o t n = true ↔ ∃ k : Int, 0 ≤ k ∧ k < n ∧ lta g o (g (4 + 6 * w + 2) + k) ≠ -1 ∧ snS g w k t = true ∧ snS g o (lta g o (g (4 + 6 * w + 2) + k)) t = true
  | 0 => ⟨fun h => absurd h (by unfold clN; decide), fun ⟨k, h0, h1, _⟩ => absurd h0 (by omega)⟩
  | n + 1 => by
    rw [clN_s, Bool.or_eq_true, clN_iff g w o t n, Bool.and_eq_true, Bool.and_eq_true, decide_eq_true_iff]
    constructor
    · rintro (⟨k, h0, h1, h2⟩ | h)
      · exact ⟨k, h0, by omega, h2⟩
      · exact ⟨n, by omega, by omega, h⟩
    · rintro ⟨k, h0, h1, h2⟩
      by_cases e : k = n
      · rw [e] at h2; exact Or.inr h2
      · exact Or.inl ⟨k, h0, by omega, h2⟩
theorem cl_iff (g : Int → Int) (w o t : Int) : cl g w o t = true ↔ g (4 + 6 * w + 1) = g (4 + 6 * o + 1) ∧ ∃ k j : Int, 0 ≤ k ∧ k < g (4 + 6 * w + 0) ∧ 0 ≤ j ∧ j < g (4 + 6 * o + 0) ∧ g (4 + 6 * w + 2) + k = g (4 + 6 * o + 2) + j ∧ snS g w k t = true ∧ snS g o j t = true := by
  unfold cl
  rw [Bool.and_eq_true, decide_eq_true_iff, clN_iff]
  have hl : ∀ k : Int, (lta g o (g (4 + 6 * w + 2) + k) = -1 ∧ ¬ (0 ≤ g (4 + 6 * w + 2) + k - g (4 + 6 * o + 2) ∧ g (4 + 6 * w + 2) + k - g (4 + 6 * o + 2) < g (4 + 6 * o + 0))) ∨ (lta g o (g (4 + 6 * w + 2) + k) = g (4 + 6 * w + 2) + k - g (4 + 6 * o + 2) ∧ (0 ≤ g (4 + 6 * w + 2) + k - g (4 + 6 * o + 2) ∧ g (4 + 6 * w + 2) + k - g (4 + 6 * o + 2) < g (4 + 6 * o + 0))) := by
    intro k
    unfold lta
    split
    · rename_i h; rw [inn_iff] at h; right; exact ⟨rfl, by omega⟩
    · rename_i h; rw [inn_iff] at h; left; exact ⟨rfl, by omega⟩
  constructor
  · rintro ⟨hr, k, k0, k1, h1, h2, h3⟩
    refine ⟨hr, k, lta g o (g (4 + 6 * w + 2) + k), k0, by omega, ?_⟩
    rcases hl k with ⟨a, b⟩ | ⟨a, b⟩
    · exact absurd a h1
    · exact ⟨by omega, by omega, by omega, h2, h3⟩
  · rintro ⟨hr, k, j, k0, k1, j0, j1, he, h2, h3⟩
    refine ⟨hr, k, k0, by omega, ?_⟩
    rcases hl k with ⟨a, b⟩ | ⟨a, b⟩
    · exact absurd (by omega) b
    · rw [a, show g (4 + 6 * w + 2) + k - g (4 + 6 * o + 2) = j by omega]
      exact ⟨by omega, h2, h3⟩
theorem cl_comm (g : Int → Int) (w o t : Int) : cl g w o t = cl g o w t := by
  rw [Bool.eq_iff_iff, cl_iff, cl_iff]
  constructor
  · rintro ⟨hr, k, j, k0, k1, j0, j1, he, h2, h3⟩
    exact ⟨hr.symm, j, k, j0, j1, k0, k1, he.symm, h3, h2⟩
  · rintro ⟨hr, k, j, k0, k1, j0, j1, he, h2, h3⟩
    exact ⟨hr.symm, j, k, j0, j1, k0, k1, he.symm, h3, h2⟩
theorem ec_comm (g : Int → Int) (w o : Int) (n : Nat) : ecN g w o n = ecN g o w n := by
  rw [Bool.eq_iff_iff, ecN_iff, ecN_iff]
  constructor
  · rintro ⟨t, h0, h1, h2⟩; exact ⟨t, h0, h1, by rw [cl_comm]; exact h2⟩
  · rintro ⟨t, h0, h1, h2⟩; exact ⟨t, h0, h1, by rw [cl_comm]; exact h2⟩
theorem s_X2_firstClash {mb w o : Int} {c g li wh en : Int → Int} {Q : Int32 → Prop} (hA : AW c g) (hg : OK mb g) (hl : LC g (g 2) li wh en) (w0 : 0 ≤ w) (w1 : w < g 2) (o0 : 0 ≤ o) (o1 : o < g 2)
    (h : ∀ x : Int, (x = -1 ∨ (0 ≤ x ∧ x < enS g w ∧ x < enS g o)) → (∀ t : Int, 0 ≤ t → t ≤ 199 → (cl g w o t = true ↔ (x ≠ -1 ∧ x ≤ t ∧ t < enS g w ∧ t < enS g o))) → Q (iI x)) : P_X2_firstClash (iI w) (iI o) (aI c) (aI li) (aI en) Q := by
  have n2 := hg.2.2.1
  obtain ⟨⟨l0, l1⟩, ⟨r0, r1⟩, ⟨c0, c1⟩, ⟨q0, q1⟩, -⟩ := hg.2.2.2.2.1 w w0 w1
  obtain ⟨⟨m0, m1⟩, ⟨s0, s1⟩, ⟨d0, d1⟩, ⟨p0, p1⟩, -⟩ := hg.2.2.2.2.1 o o0 o1
  have he := en_rng hg w0 w1
  have hf := en_rng hg o0 o1
  have sw := fun k t (t1 : t ≤ 199) => snS_iff (k := k) (t := t) hg w0 w1 t1
  have so := fun k t (t1 : t ≤ 199) => snS_iff (k := k) (t := t) hg o0 o1 t1
  unfold P_X2_firstClash
  simp only [i_m9, i_m1, i_0, i_1, i_2, i_3, i_4, i_5, i_6, i_7, i_8, i_9, i_10, i_11, i_12, i_13, i_14, i_15, i_16, i_17, i_18, i_19, i_20, i_21, i_22, i_23, i_24, i_25, i_26, i_27, i_28, i_29, i_30, i_31, i_32, i_33, i_34, i_35, i_36, i_37, i_38, i_39, i_40, i_41, i_42, i_43, i_44, i_45, i_46, i_47, i_48, i_49, i_50, i_51, i_52, i_53, i_54, i_55, i_56, i_57, i_58, i_59, i_60, i_61, i_62, i_63, i_64, i_65, i_66, i_67, i_68, i_69, i_70, i_72, i_77, i_78, i_80, i_81, i_82, i_83, i_84, i_87, i_88, i_96, i_98, i_100, i_101, i_103, i_118, i_119, i_126, i_133, i_137, i_144, i_154, i_158, i_160, i_190, i_199, i_200, i_207, i_209, i_213, i_229, i_252, i_254, i_255, i_260, i_282, i_303, i_304, i_321, i_348, i_435, i_492, i_522, i_1000, i_1023, i_1600, i_2903, iI_neg]
  refine s_AW_ofWord hA (by omega) w0 w1 (by omega) (by omega) (by omega) ?_
  refine s_AW_ofWord hA (by omega) o0 o1 (by omega) (by omega) (by omega) ?_
  rw [iI_eq (by omega) (by omega) (by omega) (by omega)]
  refine ⟨fun er => ?_, fun er => h (-1) (Or.inl rfl) (fun t t0 t1 => ?_)⟩
  rotate_left
  · rw [cl_iff]
    exact ⟨fun hx => absurd hx.1 er, fun hx => absurd rfl hx.1⟩
  refine s_AW_ofWord hA (by omega) w0 w1 (by omega) (by omega) (by omega) ?_
  refine s_AW_ofWord hA (by omega) o0 o1 (by omega) (by omega) (by omega) ?_
  refine endOf_at w0 (by omega) (endOf_at o0 (by omega) ?_)
  rw [(hl w w0 w1).2.2, (hl o o0 o1).2.2]
  simp (disch := omega) only [iI_sub, iI_lt, iI_if]
  have hE : ∃ E : Int, E = (if enS g o < enS g w then enS g o else enS g w) ∧ 0 ≤ E ∧ E ≤ 200 ∧ E ≤ enS g w ∧ E ≤ enS g o ∧ (E = enS g w ∨ E = enS g o) := by
    by_cases e : enS g o < enS g w
    · exact ⟨_, rfl, by rw [if_pos e]; omega⟩
    · exact ⟨_, rfl, by rw [if_neg e]; omega⟩
  obtain ⟨E, hE0, hE1⟩ := hE
  rw [← hE0]
  have lp : ∀ (m b : Nat), (b : Int) + m = g (4 + 6 * w + 0) → ∀ x : Int, 0 ≤ x → x ≤ E → (∀ T : Int, T < E → (x ≤ T ↔ ∃ k : Int, 0 ≤ k ∧ k < b ∧ 0 ≤ k + (g (4 + 6 * w + 2) - g (4 + 6 * o + 2)) ∧ k + (g (4 + 6 * w + 2) - g (4 + 6 * o + 2)) < g (4 + 6 * o + 0) ∧ litS g w k ≠ -1 ∧ litS g o (k + (g (4 + 6 * w + 2) - g (4 + 6 * o + 2))) ≠ -1 ∧ litS g w k ≤ T ∧ litS g o (k + (g (4 + 6 * w + 2) - g (4 + 6 * o + 2))) ≤ T)) →
      P_X2_firstClash_L65 (iI w) (iI o) (iI (g (4 + 6 * w + 2) - g (4 + 6 * o + 2))) (aI c) (aI li) (fun (x5_11 : Int32) => (iI E ≤ x5_11 → Q (iI (-1))) ∧ (¬ iI E ≤ x5_11 → Q x5_11)) (m + 1) (iI x) (iI b) := by
    intro m
    induction m with
    | zero =>
      intro b hb x x0 x1 hx
      rw [P_X2_firstClash_L65_s]
      unfold B_X2_firstClash_L65
      simp only [i_m9, i_m1, i_0, i_1, i_2, i_3, i_4, i_5, i_6, i_7, i_8, i_9, i_10, i_11, i_12, i_13, i_14, i_15, i_16, i_17, i_18, i_19, i_20, i_21, i_22, i_23, i_24, i_25, i_26, i_27, i_28, i_29, i_30, i_31, i_32, i_33, i_34, i_35, i_36, i_37, i_38, i_39, i_40, i_41, i_42, i_43, i_44, i_45, i_46, i_47, i_48, i_49, i_50, i_51, i_52, i_53, i_54, i_55, i_56, i_57, i_58, i_59, i_60, i_61, i_62, i_63, i_64, i_65, i_66, i_67, i_68, i_69, i_70, i_72, i_77, i_78, i_80, i_81, i_82, i_83, i_84, i_87, i_88, i_96, i_98, i_100, i_101, i_103, i_118, i_119, i_126, i_133, i_137, i_144, i_154, i_158, i_160, i_190, i_199, i_200, i_207, i_209, i_213, i_229, i_252, i_254, i_255, i_260, i_282, i_303, i_304, i_321, i_348, i_435, i_492, i_522, i_1000, i_1023, i_1600, i_2903, iI_neg]
      refine s_AW_ofWord hA (by omega) w0 w1 (by omega) (by omega) (by omega) ?_
      simp (disch := omega) only [iI_le]
      refine ⟨fun _ => ⟨fun e => h (-1) (Or.inl rfl) (fun t t0 t1 => ?_), fun e => h x (Or.inr (by omega)) (fun t t0 t1 => ?_)⟩, fun hx => absurd (by omega) hx⟩
      · rw [cl_iff]
        constructor
        · rintro ⟨-, k, j, k0, k1, j0, j1, ee, h2, h3⟩
          rw [sw k t t1] at h2
          rw [so j t t1] at h3
          have ej : j = k + (g (4 + 6 * w + 2) - g (4 + 6 * o + 2)) := by omega
          rw [ej] at h3
          have := (hx t (by omega)).mpr ⟨k, k0, by omega, by omega, by omega, h2.1, h3.1, h2.2.1, h3.2.1⟩
          omega
        · intro hh; exact absurd rfl hh.1
      · rw [cl_iff]
        constructor
        · rintro ⟨-, k, j, k0, k1, j0, j1, ee, h2, h3⟩
          rw [sw k t t1] at h2
          rw [so j t t1] at h3
          have ej : j = k + (g (4 + 6 * w + 2) - g (4 + 6 * o + 2)) := by omega
          rw [ej] at h3
          have := (hx t (by omega)).mpr ⟨k, k0, by omega, by omega, by omega, h2.1, h3.1, h2.2.1, h3.2.1⟩
          omega
        · rintro ⟨h1, h2, h3, h4⟩
          obtain ⟨k, k0, k1, k2, k3, k4, k5, k6, k7⟩ := (hx t (by omega)).mp h2
          exact ⟨er, k, k + (g (4 + 6 * w + 2) - g (4 + 6 * o + 2)), k0, by omega, k2, k3, by omega, (sw _ t t1).mpr ⟨k4, k6, h3⟩, (so _ t t1).mpr ⟨k5, k7, h4⟩⟩
    | succ m ih =>
      intro b hb x x0 x1 hx
      have ih1 := ih (b + 1) (by omega)
      rw [nsucc] at ih1
      have hr := litS_rng hg w0 w1 b
      have hs := litS_rng hg o0 o1 ((b : Int) + (g (4 + 6 * w + 2) - g (4 + 6 * o + 2)))
      rw [P_X2_firstClash_L65_s]
      unfold B_X2_firstClash_L65 P_X2_firstClash_J148
      simp only [i_m9, i_m1, i_0, i_1, i_2, i_3, i_4, i_5, i_6, i_7, i_8, i_9, i_10, i_11, i_12, i_13, i_14, i_15, i_16, i_17, i_18, i_19, i_20, i_21, i_22, i_23, i_24, i_25, i_26, i_27, i_28, i_29, i_30, i_31, i_32, i_33, i_34, i_35, i_36, i_37, i_38, i_39, i_40, i_41, i_42, i_43, i_44, i_45, i_46, i_47, i_48, i_49, i_50, i_51, i_52, i_53, i_54, i_55, i_56, i_57, i_58, i_59, i_60, i_61, i_62, i_63, i_64, i_65, i_66, i_67, i_68, i_69, i_70, i_72, i_77, i_78, i_80, i_81, i_82, i_83, i_84, i_87, i_88, i_96, i_98, i_100, i_101, i_103, i_118, i_119, i_126, i_133, i_137, i_144, i_154, i_158, i_160, i_190, i_199, i_200, i_207, i_209, i_213, i_229, i_252, i_254, i_255, i_260, i_282, i_303, i_304, i_321, i_348, i_435, i_492, i_522, i_1000, i_1023, i_1600, i_2903, iI_neg]
      have same : ¬ (0 ≤ (b : Int) + (g (4 + 6 * w + 2) - g (4 + 6 * o + 2)) ∧ (b : Int) + (g (4 + 6 * w + 2) - g (4 + 6 * o + 2)) < g (4 + 6 * o + 0) ∧ litS g w b ≠ -1 ∧ litS g o ((b : Int) + (g (4 + 6 * w + 2) - g (4 + 6 * o + 2))) ≠ -1) → P_X2_firstClash_L65 (iI w) (iI o) (iI (g (4 + 6 * w + 2) - g (4 + 6 * o + 2))) (aI c) (aI li) (fun (x5_11 : Int32) => (iI E ≤ x5_11 → Q (iI (-1))) ∧ (¬ iI E ≤ x5_11 → Q x5_11)) (m + 1) (iI x) (iI ((b : Int) + 1)) := by
        intro hno
        refine ih1 x x0 x1 (fun T hT => ?_)
        rw [hx T hT]
        constructor
        · rintro ⟨k, k0, k1, k2⟩; exact ⟨k, k0, by omega, k2⟩
        · rintro ⟨k, k0, k1, k2, k3, k4, k5, k6⟩
          by_cases e : k = b
          · subst e; exact absurd ⟨k2, k3, k4, k5⟩ hno
          · exact ⟨k, k0, by omega, k2, k3, k4, k5, k6⟩
      refine s_AW_ofWord hA (by omega) w0 w1 (by omega) (by omega) (by omega) ?_
      simp (disch := omega) only [iI_le, iI_lt, iI_add]
      refine ⟨fun hx => absurd hx (by omega), fun _ => ⟨fun e => same (by omega), fun e => s_AW_ofWord hA (by omega) o0 o1 (by omega) (by omega) (by omega) ?_⟩⟩
      simp (disch := omega) only [iI_le]
      refine ⟨fun e2 => same (by omega), fun e2 => litBeat_at w0 (by omega) (by omega) (by omega) (litBeat_at o0 (by omega) (by omega) (by omega) ?_)⟩
      rw [(hl w w0 w1).1 b (by omega) (by omega), (hl o o0 o1).1 _ (by omega) (by omega)]
      simp (disch := omega) only [iI_eq, iI_lt, iI_if]
      refine ⟨fun e3 => same (by omega), fun e3 => ⟨fun e4 => same (by omega), fun e4 => ?_⟩⟩
      have hM : ∃ M : Int, M = (if litS g w b < litS g o ((b : Int) + (g (4 + 6 * w + 2) - g (4 + 6 * o + 2))) then litS g o ((b : Int) + (g (4 + 6 * w + 2) - g (4 + 6 * o + 2))) else litS g w b) ∧ 0 ≤ M ∧ M < 200 ∧ (∀ T : Int, M ≤ T ↔ litS g w b ≤ T ∧ litS g o ((b : Int) + (g (4 + 6 * w + 2) - g (4 + 6 * o + 2))) ≤ T) := by
        by_cases e : litS g w b < litS g o ((b : Int) + (g (4 + 6 * w + 2) - g (4 + 6 * o + 2)))
        · exact ⟨_, rfl, by rw [if_pos e]; omega, by rw [if_pos e]; omega, fun T => by rw [if_pos e]; omega⟩
        · exact ⟨_, rfl, by rw [if_neg e]; omega, by rw [if_neg e]; omega, fun T => by rw [if_neg e]; omega⟩
      obtain ⟨M, hM0, hM1, hM2, hM3⟩ := hM
      rw [← hM0]
      have hN : ∃ N : Int, N = (if M < x then M else x) ∧ 0 ≤ N ∧ N ≤ E ∧ (∀ T : Int, N ≤ T ↔ M ≤ T ∨ x ≤ T) := by
        by_cases e : M < x
        · exact ⟨_, rfl, by rw [if_pos e]; omega, by rw [if_pos e]; omega, fun T => by rw [if_pos e]; omega⟩
        · exact ⟨_, rfl, by rw [if_neg e]; omega, by rw [if_neg e]; omega, fun T => by rw [if_neg e]; omega⟩
      obtain ⟨N, hN0, hN1, hN2, hN3⟩ := hN
      rw [← hN0]
      refine ih1 N hN1 hN2 (fun T hT => ?_)
      rw [hN3 T, hM3 T, hx T hT]
      constructor
      · rintro (⟨a1, a2⟩ | ⟨k, k0, k1, k2⟩)
        · exact ⟨b, by omega, by omega, by omega, by omega, e3, e4, a1, a2⟩
        · exact ⟨k, k0, by omega, k2⟩
      · rintro ⟨k, k0, k1, k2, k3, k4, k5, k6, k7⟩
        by_cases e5 : k = b
        · subst e5; exact Or.inl ⟨k6, k7⟩
        · exact Or.inr ⟨k, k0, by omega, k2, k3, k4, k5, k6, k7⟩
  exact ⟨_, lp (g (4 + 6 * w + 0)).toNat 0 (by omega) E (by omega) (Int.le_refl _) (fun T hT => ⟨fun hh => absurd hh (by omega), fun ⟨k, k0, k1, _⟩ => absurd k0 (by omega)⟩)⟩
theorem s_X2_noteClash {mb w o cp : Int} {c g li wh en cs : Int → Int} {Q : (Nat → Int32) → Int32 → Prop} (hA : AW c g) (hg : OK mb g) (hl : LC g (g 2) li wh en) (w0 : 0 ≤ w) (w1 : w < g 2) (o0 : 0 ≤ o) (o1 : o < g 2)
    (h : ∀ cs2 : Int → Int, (∀ t : Int, 0 ≤ t → t < 200 → cs2 t = cs t + bi (cl g w o t)) → Q (aI cs2) (iI (cp + bi (ecN g w o 200)))) : P_X2_noteClash (iI w) (iI o) (aI c) (aI li) (aI en) (aI cs) (iI cp) Q := by
  have n2 := hg.2.2.1
  have he := en_rng hg w0 w1
  have hf := en_rng hg o0 o1
  unfold P_X2_noteClash
  simp only [i_m9, i_m1, i_0, i_1, i_2, i_3, i_4, i_5, i_6, i_7, i_8, i_9, i_10, i_11, i_12, i_13, i_14, i_15, i_16, i_17, i_18, i_19, i_20, i_21, i_22, i_23, i_24, i_25, i_26, i_27, i_28, i_29, i_30, i_31, i_32, i_33, i_34, i_35, i_36, i_37, i_38, i_39, i_40, i_41, i_42, i_43, i_44, i_45, i_46, i_47, i_48, i_49, i_50, i_51, i_52, i_53, i_54, i_55, i_56, i_57, i_58, i_59, i_60, i_61, i_62, i_63, i_64, i_65, i_66, i_67, i_68, i_69, i_70, i_72, i_77, i_78, i_80, i_81, i_82, i_83, i_84, i_87, i_88, i_96, i_98, i_100, i_101, i_103, i_118, i_119, i_126, i_133, i_137, i_144, i_154, i_158, i_160, i_190, i_199, i_200, i_207, i_209, i_213, i_229, i_252, i_254, i_255, i_260, i_282, i_303, i_304, i_321, i_348, i_435, i_492, i_522, i_1000, i_1023, i_1600, i_2903, iI_neg]
  refine s_X2_firstClash hA hg hl w0 w1 o0 o1 (fun x hx0 hx => ?_)
  rw [iI_eq (by omega) (by omega) (by omega) (by omega)]
  refine ⟨fun e => ?_, fun e => ?_⟩
  · have hec : ecN g w o 200 = true := by
      rw [ecN_iff]
      exact ⟨x, by omega, by omega, (hx x (by omega) (by omega)).mpr (by omega)⟩
    rw [hec, bi_true] at h
    refine endOf_at w0 (by omega) (endOf_at o0 (by omega) ?_)
    rw [(hl w w0 w1).2.2, (hl o o0 o1).2.2]
    simp (disch := omega) only [iI_lt, iI_if, iI_add]
    rw [if_neg (show ¬ x < 0 by omega)]
    have hE : ∃ E : Int, E = (if enS g o < enS g w then enS g o else enS g w) ∧ 0 ≤ E ∧ E ≤ 200 ∧ E ≤ enS g w ∧ E ≤ enS g o ∧ (E = enS g w ∨ E = enS g o) := by
      by_cases e : enS g o < enS g w
      · exact ⟨_, rfl, by rw [if_pos e]; omega⟩
      · exact ⟨_, rfl, by rw [if_neg e]; omega⟩
    obtain ⟨E, hE0, hE1⟩ := hE
    rw [← hE0]
    have lp : ∀ (m : Nat) (b : Int), b + m = E → x ≤ b → ∀ cs2 : Int → Int, (∀ t : Int, 0 ≤ t → t < 200 → cs2 t = cs t + (if x ≤ t ∧ t < b then 1 else 0)) → P_X2_noteClash_L45 (iI E) (iI (cp + 1)) Q (m + 1) (iI b) (aI cs2) := by
      intro m
      induction m with
      | zero =>
        intro b hb xb cs2 hcs
        rw [P_X2_noteClash_L45_s]
        unfold B_X2_noteClash_L45
        simp (disch := omega) only [iI_le]
        refine ⟨fun _ => h cs2 (fun t t0 t1 => ?_), fun hx => absurd (by omega) hx⟩
        rw [hcs t t0 t1]
        by_cases e2 : cl g w o t = true
        · rw [if_pos (by have := (hx t t0 (by omega)).mp e2; omega), e2, bi_true]
        · rw [if_neg (fun hh => e2 ((hx t t0 (by omega)).mpr (by omega)))]
          rw [Bool.not_eq_true] at e2
          rw [e2, bi_false]
      | succ m ih =>
        intro b hb xb cs2 hcs
        rw [P_X2_noteClash_L45_s]
        unfold B_X2_noteClash_L45
        simp (disch := omega) only [iI_le, iI_add, iI_cl, aI_at, aI_up, i_m9, i_m1, i_0, i_1, i_2, i_3, i_4, i_5, i_6, i_7, i_8, i_9, i_10, i_11, i_12, i_13, i_14, i_15, i_16, i_17, i_18, i_19, i_20, i_21, i_22, i_23, i_24, i_25, i_26, i_27, i_28, i_29, i_30, i_31, i_32, i_33, i_34, i_35, i_36, i_37, i_38, i_39, i_40, i_41, i_42, i_43, i_44, i_45, i_46, i_47, i_48, i_49, i_50, i_51, i_52, i_53, i_54, i_55, i_56, i_57, i_58, i_59, i_60, i_61, i_62, i_63, i_64, i_65, i_66, i_67, i_68, i_69, i_70, i_72, i_77, i_78, i_80, i_81, i_82, i_83, i_84, i_87, i_88, i_96, i_98, i_100, i_101, i_103, i_118, i_119, i_126, i_133, i_137, i_144, i_154, i_158, i_160, i_190, i_199, i_200, i_207, i_209, i_213, i_229, i_252, i_254, i_255, i_260, i_282, i_303, i_304, i_321, i_348, i_435, i_492, i_522, i_1000, i_1023, i_1600, i_2903, iI_neg]
        refine ⟨fun hx => absurd hx (by omega), fun _ => ⟨fun hx => absurd hx (by omega), fun _ => ⟨iI_in (by omega) (by omega) (by omega), iI_in (by omega) (by omega) (by omega), ih (b + 1) (by omega) (by omega) _ (fun t t0 t1 => ?_)⟩⟩⟩
        by_cases e2 : t = b
        · rw [e2, up_eq, hcs b (by omega) (by omega), if_neg (by omega), if_pos (by omega)]
          omega
        · rw [up_ne e2, hcs t t0 t1]
          by_cases e3 : x ≤ t ∧ t < b
          · rw [if_pos e3, if_pos (by omega)]
          · rw [if_neg e3, if_neg (by omega)]
    exact ⟨_, lp (E - x).toNat x (by omega) (Int.le_refl _) cs (fun t t0 t1 => by rw [if_neg (by omega)]; omega)⟩
  · have hec : ecN g w o 200 = false := by
      rw [← Bool.not_eq_true, ecN_iff]
      rintro ⟨t, t0, t1, t2⟩
      exact ((hx t t0 (by omega)).mp t2).1 e
    rw [hec, bi_false, Int.add_zero] at h
    refine h cs (fun t t0 t1 => ?_)
    have : cl g w o t = false := by
      rw [← Bool.not_eq_true]
      exact fun t2 => ((hx t t0 (by omega)).mp t2).1 e
    rw [this, bi_false]; omega
theorem sm_0 {G : Int → Int} : ∀ {n : Nat}, (∀ k : Int, 0 ≤ k → k < n → G k = 0) → sm G n = 0
  | 0, _ => rfl
  | n + 1, h => by
    rw [sm_s, sm_0 (fun k k0 k1 => h k k0 (by omega)), h n (by omega) (by omega)]; rfl
theorem sm_add {G H : Int → Int} : ∀ n : Nat, sm (fun k => G k + H k) n = sm G n + sm H n
  | 0 => rfl
  | n + 1 => by
    rw [sm_s, sm_s, sm_s, sm_add n]
    show sm G n + sm H n + (G n + H n) = _
    omega
/-- pairs counted from above and from below -/
theorem sm_pairs {G : Int → Int → Int} (hG : ∀ a b : Int, G a b = G b a) : ∀ n : Nat, sm (fun w => sm (fun o => if w < o then G w o else 0) n) n = sm (fun w => sm (fun o => G w o) w.toNat) n
  | 0 => rfl
  | n + 1 => by
    have ih := sm_pairs hG n
    rw [sm_s (fun w => sm (fun o => if w < o then G w o else 0) (n + 1)) n, sm_s (fun w => sm (fun o => G w o) w.toNat) n, ← ih]
    have e1 : sm (fun w => sm (fun o => if w < o then G w o else 0) (n + 1)) n = sm (fun w => sm (fun o => if w < o then G w o else 0) n) n + sm (fun w => G w n) n := by
      rw [← sm_add]
      refine sm_cong (fun w w0 w1 => ?_)
      rw [sm_s]
      show _ + (if w < (n : Int) then G w n else 0) = _
      rw [if_pos w1]
    have e2 : sm (fun o => if (n : Int) < o then G n o else 0) (n + 1) = 0 := sm_0 (fun k k0 k1 => if_neg (by omega))
    have e3 : sm (fun o => G n o) ((n : Int)).toNat = sm (fun w => G w n) n := by
      rw [Int.toNat_natCast]
      exact sm_cong (fun k k0 k1 => hG n k)
    rw [e1, e2, e3]; omega
theorem s_X2_findClashes {mb : Int} {c g li wh en : Int → Int} {cs : Nat → Int32} {cp : Int32} {Q : (Nat → Int32) → Int32 → Prop} (hA : AW c g) (hg : OK mb g) (hl : LC g (g 2) li wh en)
    (h : ∀ cs : Int → Int, (∀ t : Int, 0 ≤ t → t < 200 → cs t = cls g t) → Q (aI cs) (iI (paS g))) : P_X2_findClashes (aI c) (aI li) (aI en) cs cp Q := by
  have n2 := hg.2.2.1
  have lp : ∀ (m b : Nat), (b : Int) + m = g 2 → ∀ cs : Int → Int, (∀ t : Int, 0 ≤ t → t < 200 → cs t = sm (fun w => sm (fun o => if w < o then bi (cl g w o t) else 0) (g 2).toNat) b) →
      P_X2_findClashes_L15 (aI c) (aI li) (aI en) Q (m + 1) (iI b) (aI cs) (iI (sm (fun w => sm (fun o => if w < o then bi (ecN g w o 200) else 0) (g 2).toNat) b)) := by
    intro m
    induction m with
    | zero =>
      intro b hb cs hcs
      rw [P_X2_findClashes_L15_s]
      unfold B_X2_findClashes_L15
      refine s_AW_words hA ?_
      simp (disch := omega) only [iI_le]
      refine ⟨fun _ => ?_, fun hx => absurd (by omega) hx⟩
      rw [show b = (g 2).toNat by omega] at hcs ⊢
      rw [sm_pairs (fun a b => by rw [ec_comm])]
      refine h cs (fun t t0 t1 => ?_)
      rw [hcs t t0 t1, sm_pairs (fun a b => by rw [cl_comm])]
      rfl
    | succ m ih =>
      intro b hb cs hcs
      have ih1 := ih (b + 1) (by omega)
      simp only [nsucc, sm_s] at ih1
      rw [P_X2_findClashes_L15_s]
      unfold B_X2_findClashes_L15
      refine s_AW_words hA ?_
      simp (disch := omega) only [iI_le, iI_add, i_m9, i_m1, i_0, i_1, i_2, i_3, i_4, i_5, i_6, i_7, i_8, i_9, i_10, i_11, i_12, i_13, i_14, i_15, i_16, i_17, i_18, i_19, i_20, i_21, i_22, i_23, i_24, i_25, i_26, i_27, i_28, i_29, i_30, i_31, i_32, i_33, i_34, i_35, i_36, i_37, i_38, i_39, i_40, i_41, i_42, i_43, i_44, i_45, i_46, i_47, i_48, i_49, i_50, i_51, i_52, i_53, i_54, i_55, i_56, i_57, i_58, i_59, i_60, i_61, i_62, i_63, i_64, i_65, i_66, i_67, i_68, i_69, i_70, i_72, i_77, i_78, i_80, i_81, i_82, i_83, i_84, i_87, i_88, i_96, i_98, i_100, i_101, i_103, i_118, i_119, i_126, i_133, i_137, i_144, i_154, i_158, i_160, i_190, i_199, i_200, i_207, i_209, i_213, i_229, i_252, i_254, i_255, i_260, i_282, i_303, i_304, i_321, i_348, i_435, i_492, i_522, i_1000, i_1023, i_1600, i_2903, iI_neg]
      refine ⟨fun hx => absurd hx (by omega), fun _ => ?_⟩
      have lq : ∀ (j k : Nat), (k : Int) + j = g 2 → b < k → ∀ cs2 : Int → Int, (∀ t : Int, 0 ≤ t → t < 200 → cs2 t = sm (fun w => sm (fun o => if w < o then bi (cl g w o t) else 0) (g 2).toNat) b + sm (fun o => if (b : Int) < o then bi (cl g b o t) else 0) k) →
          P_X2_findClashes_L30 (iI b) (aI c) (aI li) (aI en) (fun (s_clashes_5 : Nat → Int32) (s_clashPairs_6 : Int32) => P_X2_findClashes_L15 (aI c) (aI li) (aI en) Q (m + 1) (iI ((b : Int) + 1)) s_clashes_5 s_clashPairs_6) (j + 1) (iI k) (aI cs2) (iI (sm (fun w => sm (fun o => if w < o then bi (ecN g w o 200) else 0) (g 2).toNat) b + sm (fun o => if (b : Int) < o then bi (ecN g b o 200) else 0) k)) := by
        intro j
        induction j with
        | zero =>
          intro k hk bk cs2 hcs2
          rw [P_X2_findClashes_L30_s]
          unfold B_X2_findClashes_L30
          refine s_AW_words hA ?_
          simp (disch := omega) only [iI_le]
          refine ⟨fun _ => ?_, fun hx => absurd (by omega) hx⟩
          rw [show k = (g 2).toNat by omega] at hcs2 ⊢
          exact ih1 cs2 hcs2
        | succ j ihj =>
          intro k hk bk cs2 hcs2
          have ihj1 := ihj (k + 1) (by omega) (by omega)
          simp only [nsucc, sm_s] at ihj1
          rw [if_pos (by omega)] at ihj1
          rw [P_X2_findClashes_L30_s]
          unfold B_X2_findClashes_L30
          refine s_AW_words hA ?_
          simp (disch := omega) only [iI_le, iI_add, i_m9, i_m1, i_0, i_1, i_2, i_3, i_4, i_5, i_6, i_7, i_8, i_9, i_10, i_11, i_12, i_13, i_14, i_15, i_16, i_17, i_18, i_19, i_20, i_21, i_22, i_23, i_24, i_25, i_26, i_27, i_28, i_29, i_30, i_31, i_32, i_33, i_34, i_35, i_36, i_37, i_38, i_39, i_40, i_41, i_42, i_43, i_44, i_45, i_46, i_47, i_48, i_49, i_50, i_51, i_52, i_53, i_54, i_55, i_56, i_57, i_58, i_59, i_60, i_61, i_62, i_63, i_64, i_65, i_66, i_67, i_68, i_69, i_70, i_72, i_77, i_78, i_80, i_81, i_82, i_83, i_84, i_87, i_88, i_96, i_98, i_100, i_101, i_103, i_118, i_119, i_126, i_133, i_137, i_144, i_154, i_158, i_160, i_190, i_199, i_200, i_207, i_209, i_213, i_229, i_252, i_254, i_255, i_260, i_282, i_303, i_304, i_321, i_348, i_435, i_492, i_522, i_1000, i_1023, i_1600, i_2903, iI_neg]
          refine ⟨fun hx => absurd hx (by omega), fun _ => s_X2_noteClash hA hg hl (by omega) (by omega) (by omega) (by omega) (fun cs3 h3 => ?_)⟩
          rw [Int.add_assoc]
          refine ihj1 cs3 (fun t t0 t1 => ?_)
          rw [h3 t t0 t1, hcs2 t t0 t1, if_pos (by omega), Int.add_assoc]
      have e0 : ∀ G : Int → Int, sm (fun o => if (b : Int) < o then G o else 0) (b + 1) = 0 := fun G => sm_0 (fun k k0 k1 => if_neg (by omega))
      have := lq m (b + 1) (by omega) (by omega) cs (fun t t0 t1 => by rw [hcs t t0 t1, e0, Int.add_zero])
      rw [e0, Int.add_zero, nsucc] at this
      exact ⟨_, this⟩
  unfold P_X2_findClashes
  simp only [i_m9, i_m1, i_0, i_1, i_2, i_3, i_4, i_5, i_6, i_7, i_8, i_9, i_10, i_11, i_12, i_13, i_14, i_15, i_16, i_17, i_18, i_19, i_20, i_21, i_22, i_23, i_24, i_25, i_26, i_27, i_28, i_29, i_30, i_31, i_32, i_33, i_34, i_35, i_36, i_37, i_38, i_39, i_40, i_41, i_42, i_43, i_44, i_45, i_46, i_47, i_48, i_49, i_50, i_51, i_52, i_53, i_54, i_55, i_56, i_57, i_58, i_59, i_60, i_61, i_62, i_63, i_64, i_65, i_66, i_67, i_68, i_69, i_70, i_72, i_77, i_78, i_80, i_81, i_82, i_83, i_84, i_87, i_88, i_96, i_98, i_100, i_101, i_103, i_118, i_119, i_126, i_133, i_137, i_144, i_154, i_158, i_160, i_190, i_199, i_200, i_207, i_209, i_213, i_229, i_252, i_254, i_255, i_260, i_282, i_303, i_304, i_321, i_348, i_435, i_492, i_522, i_1000, i_1023, i_1600, i_2903, iI_neg]
  refine s_fillI (by omega) (fun cs2 h2 => ⟨_, lp (g 2).toNat 0 (by omega) cs2 (fun t t0 t1 => ?_)⟩)
  rw [h2 t t0 (by omega)]; rfl
theorem clashesIn_at {t : Int} {cs : Int → Int} {Q : Int32 → Prop} (t0 : 0 ≤ t) (t1 : t < 200) (h : Q (iI (cs t))) : P_X2_clashesIn (iI t) (aI cs) Q := by
  unfold P_X2_clashesIn
  simp (disch := omega) only [iI_add, iI_sub, iI_mul, iI_neg, iI_lt, iI_le, iI_eq, iI_cl, aI_at, aI_up, aI_l0, aI_l1, aI_l2, aI_l3, i_m9, i_m1, i_0, i_1, i_2, i_3, i_4, i_5, i_6, i_7, i_8, i_9, i_10, i_11, i_12, i_13, i_14, i_15, i_16, i_17, i_18, i_19, i_20, i_21, i_22, i_23, i_24, i_25, i_26, i_27, i_28, i_29, i_30, i_31, i_32, i_33, i_34, i_35, i_36, i_37, i_38, i_39, i_40, i_41, i_42, i_43, i_44, i_45, i_46, i_47, i_48, i_49, i_50, i_51, i_52, i_53, i_54, i_55, i_56, i_57, i_58, i_59, i_60, i_61, i_62, i_63, i_64, i_65, i_66, i_67, i_68, i_69, i_70, i_72, i_77, i_78, i_80, i_81, i_82, i_83, i_84, i_87, i_88, i_96, i_98, i_100, i_101, i_103, i_118, i_119, i_126, i_133, i_137, i_144, i_154, i_158, i_160, i_190, i_199, i_200, i_207, i_209, i_213, i_229, i_252, i_254, i_255, i_260, i_282, i_303, i_304, i_321, i_348, i_435, i_492, i_522, i_1000, i_1023, i_1600, i_2903, iI_neg]
  exact ⟨fun hx => absurd hx (by omega), fun _ => ⟨fun hx => absurd hx (by omega), fun _ => ⟨iI_in (by omega) (by omega) (by omega), h⟩⟩⟩
theorem s_X2_clashBeats {mb : Int} {g cs : Int → Int} {Q : Int32 → Prop} (hg : OK mb g) (hcs : ∀ t : Int, 0 ≤ t → t < 200 → cs t = cls g t) (h : Q (iI (cgS g))) : P_X2_clashBeats (aI cs) Q := by
  have n2 := hg.2.2.1
  have lp : ∀ (m b : Nat), b + m = 200 → P_X2_clashBeats_L4 (aI cs) Q (m + 1) (iI (sm (fun t => bi (decide (0 < cls g t))) b)) (iI b) := by
    intro m
    induction m with
    | zero =>
      intro b hb
      rw [P_X2_clashBeats_L4_s]
      unfold B_X2_clashBeats_L4
      simp (disch := omega) only [iI_le, i_m9, i_m1, i_0, i_1, i_2, i_3, i_4, i_5, i_6, i_7, i_8, i_9, i_10, i_11, i_12, i_13, i_14, i_15, i_16, i_17, i_18, i_19, i_20, i_21, i_22, i_23, i_24, i_25, i_26, i_27, i_28, i_29, i_30, i_31, i_32, i_33, i_34, i_35, i_36, i_37, i_38, i_39, i_40, i_41, i_42, i_43, i_44, i_45, i_46, i_47, i_48, i_49, i_50, i_51, i_52, i_53, i_54, i_55, i_56, i_57, i_58, i_59, i_60, i_61, i_62, i_63, i_64, i_65, i_66, i_67, i_68, i_69, i_70, i_72, i_77, i_78, i_80, i_81, i_82, i_83, i_84, i_87, i_88, i_96, i_98, i_100, i_101, i_103, i_118, i_119, i_126, i_133, i_137, i_144, i_154, i_158, i_160, i_190, i_199, i_200, i_207, i_209, i_213, i_229, i_252, i_254, i_255, i_260, i_282, i_303, i_304, i_321, i_348, i_435, i_492, i_522, i_1000, i_1023, i_1600, i_2903, iI_neg]
      refine ⟨fun _ => ?_, fun hx => absurd (by omega) hx⟩
      unfold cgS at h
      rw [show 200 = b by omega] at h
      exact h
    | succ m ih =>
      intro b hb
      have ih1 := ih (b + 1) (by omega)
      simp only [nsucc, sm_s] at ih1
      have hr := cls_rng n2 b (g 2).toNat (by omega)
      rw [P_X2_clashBeats_L4_s]
      unfold B_X2_clashBeats_L4 P_X2_clashBeats_J22
      simp (disch := omega) only [iI_le, iI_add, i_m9, i_m1, i_0, i_1, i_2, i_3, i_4, i_5, i_6, i_7, i_8, i_9, i_10, i_11, i_12, i_13, i_14, i_15, i_16, i_17, i_18, i_19, i_20, i_21, i_22, i_23, i_24, i_25, i_26, i_27, i_28, i_29, i_30, i_31, i_32, i_33, i_34, i_35, i_36, i_37, i_38, i_39, i_40, i_41, i_42, i_43, i_44, i_45, i_46, i_47, i_48, i_49, i_50, i_51, i_52, i_53, i_54, i_55, i_56, i_57, i_58, i_59, i_60, i_61, i_62, i_63, i_64, i_65, i_66, i_67, i_68, i_69, i_70, i_72, i_77, i_78, i_80, i_81, i_82, i_83, i_84, i_87, i_88, i_96, i_98, i_100, i_101, i_103, i_118, i_119, i_126, i_133, i_137, i_144, i_154, i_158, i_160, i_190, i_199, i_200, i_207, i_209, i_213, i_229, i_252, i_254, i_255, i_260, i_282, i_303, i_304, i_321, i_348, i_435, i_492, i_522, i_1000, i_1023, i_1600, i_2903, iI_neg]
      refine ⟨fun hx => absurd hx (by omega), fun _ => clashesIn_at (by omega) (by omega) ?_⟩
      rw [hcs b (by omega) (by omega)]
      have hr2 : 0 ≤ cls g b ∧ cls g b ≤ 64 := ⟨hr.1, by have := hr.2; unfold cls; omega⟩
      simp (disch := omega) only [iI_le]
      refine ⟨fun e => ?_, fun e => ?_⟩
      · rw [decide_eq_false (by omega), bi_false, Int.add_zero] at ih1
        exact ih1
      · rw [decide_eq_true (by omega), bi_true] at ih1
        exact ih1
  unfold P_X2_clashBeats
  rw [i_0]
  exact ⟨_, lp 200 0 rfl⟩
