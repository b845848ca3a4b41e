/-- sums -/
def sm (g : Int → Int) : Nat → Int
  | 0 => 0
  | n + 1 => sm g n + g (n : Int)
theorem sm_s (g : Int → Int) (n : Nat) : sm g (n + 1) = sm g n + g (n : Int) := rfl
theorem sm_rng {g : Int → Int} {c : Int} (hc : 0 ≤ c) : ∀ {n : Nat}, (∀ k : Int, 0 ≤ k → k < n → 0 ≤ g k ∧ g k ≤ c) → 0 ≤ sm g n ∧ sm g n ≤ c * n
  | 0, _ => by unfold sm; omega
  | n + 1, h => by
    have h1 := sm_rng hc (n := n) (fun k k0 k1 => h k k0 (by omega))
    have h2 := h n (by omega) (by omega)
    rw [sm_s]
    have e : c * ((n + 1 : Nat) : Int) = c * n + c := by rw [show ((n + 1 : Nat) : Int) = (n : Int) + 1 by omega, Int.mul_add, Int.mul_one]
    omega
theorem sm_cong {g g2 : Int → Int} : ∀ {n : Nat}, (∀ k : Int, 0 ≤ k → k < n → g k = g2 k) → sm g n = sm g2 n
  | 0, _ => rfl
  | n + 1, h => by rw [sm_s, sm_s, sm_cong (fun k k0 k1 => h k k0 (by omega)), h n (by omega) (by omega)]
/-- a letter is seen -/
def sn (li go : Int → Int) (w k t : Int) : Bool := decide (li (12 * w + k) ≠ -1) && (decide (li (12 * w + k) ≤ t) && (decide (go w = -1) || decide (t < go w)))
def snS (f : Int → Int) (w k t : Int) : Bool := decide (litS f w k ≠ -1) && (decide (litS f w k ≤ t) && (decide (goS f w = -1) || decide (t < goS f w)))
theorem sn_S {f li wh go : Int → Int} {n w k t : Int} (hl : Ld f n li wh go) (w0 : 0 ≤ w) (w1 : w < n) (k0 : 0 ≤ k) (k1 : k < f (4 + 6 * w + 0)) : sn li go w k t = snS f w k t := by
  obtain ⟨h1, h2, h3⟩ := hl w w0 w1
  unfold sn snS
  rw [h1 k k0 k1, h3]
theorem s_X4_isSeen {li go : Int → Int} {w k t : Int} {Q : Int32 → Prop} (w0 : 0 ≤ w) (w1 : w < 8) (k0 : 0 ≤ k) (k1 : k < 12) (t0 : 0 ≤ t) (t1 : t ≤ 199) (hl : -1 ≤ li (12 * w + k) ∧ li (12 * w + k) < 200) (hg : -1 ≤ go w ∧ go w < 200) (h : Q (iI (bi (sn li go w k t)))) : P_X4_isSeen (iI w) (iI k) (iI t) (aI li) (aI go) Q := by
  unfold P_X4_isSeen
  simp (disch := omega) only [iI_add, iI_sub, iI_mul, iI_neg, iI_lt, iI_le, iI_eq, iI_cl, aI_at, aI_up, aI_l0, aI_l1, aI_l2, aI_l3, i_m9, i_m1, i_0, i_1, i_2, i_3, i_4, i_5, i_6, i_7, i_8, i_9, i_10, i_11, i_12, i_13, i_14, i_15, i_16, i_17, i_18, i_19, i_20, i_21, i_22, i_23, i_24, i_25, i_26, i_27, i_28, i_29, i_30, i_31, i_32, i_33, i_34, i_35, i_36, i_37, i_38, i_39, i_40, i_41, i_42, i_43, i_44, i_45, i_46, i_47, i_48, i_49, i_50, i_51, i_52, i_53, i_54, i_55, i_56, i_57, i_58, i_59, i_60, i_61, i_62, i_63, i_64, i_65, i_66, i_67, i_68, i_69, i_70, i_72, i_77, i_78, i_80, i_81, i_82, i_83, i_84, i_87, i_88, i_96, i_98, i_100, i_101, i_103, i_118, i_119, i_126, i_133, i_137, i_144, i_154, i_158, i_160, i_190, i_199, i_200, i_207, i_209, i_213, i_229, i_252, i_254, i_255, i_260, i_282, i_303, i_304, i_321, i_348, i_435, i_492, i_522, i_1000, i_1023, i_1600, i_2903, iI_neg]
  refine ⟨iI_in (by omega) (by omega) (by omega), fun h1 => ?_, fun h1 => ⟨fun h2 => ?_, fun h2 => ⟨iI_in w0 (by omega) (by omega), fun h3 => ?_, fun h3 => ⟨iI_in w0 (by omega) (by omega), fun h4 => ?_, fun h4 => ?_⟩⟩⟩⟩
  · rwa [bi_f (by unfold sn; rw [decide_eq_false (p := li (12 * w + k) ≠ -1) (by omega)]; rfl)] at h
  · rwa [bi_f (by unfold sn; rw [decide_eq_false (p := li (12 * w + k) ≤ t) (by omega)]; simp)] at h
  · rwa [bi_t (by unfold sn; rw [decide_eq_true (p := li (12 * w + k) ≠ -1) (by omega), decide_eq_true (p := li (12 * w + k) ≤ t) (by omega), decide_eq_true (p := go w = -1) (by omega)]; rfl)] at h
  · rwa [bi_f (by unfold sn; rw [decide_eq_false (p := go w = -1) (by omega), decide_eq_false (p := t < go w) (by omega)]; simp)] at h
  · rwa [bi_t (by unfold sn; rw [decide_eq_true (p := li (12 * w + k) ≠ -1) (by omega), decide_eq_true (p := li (12 * w + k) ≤ t) (by omega), decide_eq_true (p := t < go w) (by omega)]; simp)] at h
/-- the letter of a word that is in a column; -1 -/
def lta (f : Int → Int) (w c : Int) : Int := if inn (c - f (4 + 6 * w + 2)) 0 (f (4 + 6 * w + 0) - 1) = true then c - f (4 + 6 * w + 2) else -1
theorem lta_rng {f : Int → Int} {w c : Int} : lta f w c = -1 ∨ (0 ≤ lta f w c ∧ lta f w c < f (4 + 6 * w + 0)) := by
  unfold lta
  split
  · rename_i h; rw [inn_iff] at h; exact Or.inr ⟨by omega, by omega⟩
  · exact Or.inl rfl
theorem s_X4_letterAt {mb w c : Int} {f : Int → Int} {Q : Int32 → Prop} (hf : OK mb f) (w0 : 0 ≤ w) (w1 : w < f 2) (c0 : -1000 ≤ c) (c1 : c ≤ 1000) (h : Q (iI (lta f w c))) : P_X4_letterAt (iI w) (iI c) (aI f) Q := by
  have hw := hf.2.2.2.2.1 w w0 w1
  have h8 := hf.2.2.1
  obtain ⟨⟨l0, l1⟩, -, ⟨p0, p1⟩, -⟩ := id hw
  unfold P_X4_letterAt
  simp only [i_m9, i_m1, i_0, i_1, i_2, i_3, i_4, i_5, i_6, i_7, i_8, i_9, i_10, i_11, i_12, i_13, i_14, i_15, i_16, i_17, i_18, i_19, i_20, i_21, i_22, i_23, i_24, i_25, i_26, i_27, i_28, i_29, i_30, i_31, i_32, i_33, i_34, i_35, i_36, i_37, i_38, i_39, i_40, i_41, i_42, i_43, i_44, i_45, i_46, i_47, i_48, i_49, i_50, i_51, i_52, i_53, i_54, i_55, i_56, i_57, i_58, i_59, i_60, i_61, i_62, i_63, i_64, i_65, i_66, i_67, i_68, i_69, i_70, i_72, i_77, i_78, i_80, i_81, i_82, i_83, i_84, i_87, i_88, i_96, i_98, i_100, i_101, i_103, i_118, i_119, i_126, i_133, i_137, i_144, i_154, i_158, i_160, i_190, i_199, i_200, i_207, i_209, i_213, i_229, i_252, i_254, i_255, i_260, i_282, i_303, i_304, i_321, i_348, i_435, i_492, i_522, i_1000, i_1023, i_1600, i_2903, iI_neg]
  refine s_X4_of (by omega) (by omega) (s_X4_of (by omega) (by omega) ?_)
  simp only [iI_sub]
  refine s_X4_in (by omega) (by omega) (by omega) (by omega) (by omega) (by omega) (br_b (fun h3 => ?_) (fun h3 => ?_))
  · have e : lta f w c = -1 := by unfold lta; rw [if_neg (by rw [h3]; decide)]
    rwa [e] at h
  · have e : lta f w c = c - f (4 + 6 * w + 2) := by unfold lta; rw [if_pos h3]
    rwa [e] at h
/-- two words clash in a beat, by the first n letters of the one -/
def clN (f : Int → Int) (w o t : Int) : Nat → Bool
  | 0 => false
  | k + 1 => clN f w o t k || (decide (lta f o (f (4 + 6 * w + 2) + k) ≠ -1) && (snS f w k t && snS f o (lta f o (f (4 + 6 * w + 2) + k)) t))
def cl (f : Int → Int) (w o t : Int) : Bool := decide (f (4 + 6 * w + 1) = f (4 + 6 * o + 1)) && clN f w o t (f (4 + 6 * w + 0)).toNat
theorem clN_s (f : Int → Int) (w o t : Int) (k : Nat) : clN f w o t (k + 1) = (clN f w o t k || (decide (lta f o (f (4 + 6 * w + 2) + k) ≠ -1) && (snS f w k t && snS f o (lta f o (f (4 + 6 * w + 2) + k)) t))) := rfl
theorem ld_rng {mb : Int} {f li wh go : Int → Int} {n w : Int} (hf : OK mb f) (hn : n ≤ f 2) (hl : Ld f n li wh go) (w0 : 0 ≤ w) (w1 : w < n) : (∀ k : Int, 0 ≤ k → k < f (4 + 6 * w + 0) → -1 ≤ li (12 * w + k) ∧ li (12 * w + k) < 200) ∧ (-1 ≤ go w ∧ go w < 200) ∧ (-1 ≤ wh w ∧ wh w < 200) := by
  obtain ⟨h1, h2, h3⟩ := hl w w0 w1
  obtain ⟨-, -, -, ⟨q0, q1⟩, -⟩ := hf.2.2.2.2.1 w w0 (by omega)
  have hls := lsN_rng hf w0 (by omega) (f (4 + 6 * w + 0)).toNat
  refine ⟨fun k k0 k1 => ?_, ?_, ?_⟩
  · rw [h1 k k0 k1]
    have := litS_rng hf w0 (by omega) k
    omega
  · rw [h3]
    unfold goS
    split
    · split
      · have : 0 ≤ barS f w := by
          unfold barS
          have hs := hf.1
          have ho := (hf.2.2.2.2.1 w w0 (by omega)).2.2.2.2.2
          have := divb (x := (if lsN f w (f (4 + 6 * w + 0)).toNat + f (4 + 6 * w + 5) ≤ lsN f w (f (4 + 6 * w + 0)).toNat then lsN f w (f (4 + 6 * w + 0)).toNat + 1 else lsN f w (f (4 + 6 * w + 0)).toNat + f (4 + 6 * w + 5)) + f 0 - 1) (s := f 0) (by split <;> omega) (by omega)
          exact Int.mul_nonneg this.1 (by omega)
        omega
      · omega
    · omega
  · rw [h2]
    unfold wlS
    split <;> omega
theorem s_X4_clash_L {mb w o t : Int} {f li wh go : Int → Int} {Q : Int32 → Prop} (hf : OK mb f) (hl : Ld f (f 2) li wh go) (w0 : 0 ≤ w) (w1 : w < f 2) (o0 : 0 ≤ o) (o1 : o < f 2) (t0 : 0 ≤ t) (t1 : t ≤ 199) (h : Q (iI (bi (cl f w o t)))) :
    ∀ (m k : Nat), (k : Int) + m = f (4 + 6 * w + 0) → P_X4_clash_L6 (iI w) (iI o) (iI t) (aI li) (aI go) (aI f) Q (m + 1) (iI (bi (decide (f (4 + 6 * w + 1) = f (4 + 6 * o + 1)) && clN f w o t k))) (iI k) := by
  have hw := hf.2.2.2.2.1 w w0 w1
  have hO := hf.2.2.2.2.1 o o0 o1
  have h8 := hf.2.2.1
  obtain ⟨⟨l0, l1⟩, ⟨r0, r1⟩, ⟨p0, p1⟩, -⟩ := id hw
  obtain ⟨⟨l2, l3⟩, ⟨r2, r3⟩, ⟨p2, p3⟩, -⟩ := id hO
  have lw := ld_rng hf (Int.le_refl _) hl w0 w1
  have lo := ld_rng hf (Int.le_refl _) hl o0 o1
  intro m
  induction m with
  | zero =>
    intro k hk
    rw [P_X4_clash_L6_s]
    unfold B_X4_clash_L6
    simp only [i_m9, i_m1, i_0, i_1, i_2, i_3, i_4, i_5, i_6, i_7, i_8, i_9, i_10, i_11, i_12, i_13, i_14, i_15, i_16, i_17, i_18, i_19, i_20, i_21, i_22, i_23, i_24, i_25, i_26, i_27, i_28, i_29, i_30, i_31, i_32, i_33, i_34, i_35, i_36, i_37, i_38, i_39, i_40, i_41, i_42, i_43, i_44, i_45, i_46, i_47, i_48, i_49, i_50, i_51, i_52, i_53, i_54, i_55, i_56, i_57, i_58, i_59, i_60, i_61, i_62, i_63, i_64, i_65, i_66, i_67, i_68, i_69, i_70, i_72, i_77, i_78, i_80, i_81, i_82, i_83, i_84, i_87, i_88, i_96, i_98, i_100, i_101, i_103, i_118, i_119, i_126, i_133, i_137, i_144, i_154, i_158, i_160, i_190, i_199, i_200, i_207, i_209, i_213, i_229, i_252, i_254, i_255, i_260, i_282, i_303, i_304, i_321, i_348, i_435, i_492, i_522, i_1000, i_1023, i_1600, i_2903, iI_neg]
    refine s_X4_of (by omega) (by omega) ?_
    simp (disch := omega) only [iI_add, iI_sub, iI_mul, iI_neg, iI_lt, iI_le, iI_eq, iI_cl, aI_at, aI_up, aI_l0, aI_l1, aI_l2, aI_l3]
    refine ⟨fun _ => ⟨bi_nar _, ?_⟩, fun hx => absurd (by omega) hx⟩
    unfold cl at h
    rwa [show (f (4 + 6 * w + 0)).toNat = k by omega] at h
  | succ m ih =>
    intro k hk
    have ih1 := ih (k + 1) (by omega)
    rw [show (((k + 1 : Nat) : Int)) = (k : Int) + 1 by omega, clN_s] at ih1
    rw [P_X4_clash_L6_s]
    unfold B_X4_clash_L6
    simp only [i_m9, i_m1, i_0, i_1, i_2, i_3, i_4, i_5, i_6, i_7, i_8, i_9, i_10, i_11, i_12, i_13, i_14, i_15, i_16, i_17, i_18, i_19, i_20, i_21, i_22, i_23, i_24, i_25, i_26, i_27, i_28, i_29, i_30, i_31, i_32, i_33, i_34, i_35, i_36, i_37, i_38, i_39, i_40, i_41, i_42, i_43, i_44, i_45, i_46, i_47, i_48, i_49, i_50, i_51, i_52, i_53, i_54, i_55, i_56, i_57, i_58, i_59, i_60, i_61, i_62, i_63, i_64, i_65, i_66, i_67, i_68, i_69, i_70, i_72, i_77, i_78, i_80, i_81, i_82, i_83, i_84, i_87, i_88, i_96, i_98, i_100, i_101, i_103, i_118, i_119, i_126, i_133, i_137, i_144, i_154, i_158, i_160, i_190, i_199, i_200, i_207, i_209, i_213, i_229, i_252, i_254, i_255, i_260, i_282, i_303, i_304, i_321, i_348, i_435, i_492, i_522, i_1000, i_1023, i_1600, i_2903, iI_neg]
    refine s_X4_of (by omega) (by omega) ?_
    simp (disch := omega) only [iI_add, iI_sub, iI_mul, iI_neg, iI_lt, iI_le, iI_eq, iI_cl, aI_at, aI_up, aI_l0, aI_l1, aI_l2, aI_l3]
    refine ⟨fun hx => absurd hx (by omega), fun _ => s_X4_of (by omega) (by omega) (s_X4_of (by omega) (by omega) ?_)⟩
    simp (disch := omega) only [iI_add, iI_sub, iI_mul, iI_neg, iI_lt, iI_le, iI_eq, iI_cl, aI_at, aI_up, aI_l0, aI_l1, aI_l2, aI_l3]
    refine ⟨fun h3 => ⟨bi_nar _, ?_⟩, fun h3 => ?_⟩
    · unfold cl at h
      rw [decide_eq_false h3] at h ⊢
      exact h
    · rw [decide_eq_true h3, Bool.true_and] at ih1
      rw [decide_eq_true h3, Bool.true_and]
      refine s_X4_of (by omega) (by omega) ?_
      simp only [iI_add]
      refine s_X4_letterAt hf o0 o1 (by omega) (by omega) ?_
      have hr := lta_rng (f := f) (w := o) (c := f (4 + 6 * w + 2) + k)
      have j88 : ∀ v : Bool, (clN f w o t k || (decide (lta f o (f (4 + 6 * w + 2) + k) ≠ -1) && (snS f w k t && snS f o (lta f o (f (4 + 6 * w + 2) + k)) t))) = v → P_X4_clash_J88 (P_X4_clash_L6 (iI w) (iI o) (iI t) (aI li) (aI go) (aI f) Q (m + 1)) (iI k) (iI (bi v)) := by
        intro v hv
        rw [hv] at ih1
        unfold P_X4_clash_J88
        simp only [iI_add, i_m9, i_m1, i_0, i_1, i_2, i_3, i_4, i_5, i_6, i_7, i_8, i_9, i_10, i_11, i_12, i_13, i_14, i_15, i_16, i_17, i_18, i_19, i_20, i_21, i_22, i_23, i_24, i_25, i_26, i_27, i_28, i_29, i_30, i_31, i_32, i_33, i_34, i_35, i_36, i_37, i_38, i_39, i_40, i_41, i_42, i_43, i_44, i_45, i_46, i_47, i_48, i_49, i_50, i_51, i_52, i_53, i_54, i_55, i_56, i_57, i_58, i_59, i_60, i_61, i_62, i_63, i_64, i_65, i_66, i_67, i_68, i_69, i_70, i_72, i_77, i_78, i_80, i_81, i_82, i_83, i_84, i_87, i_88, i_96, i_98, i_100, i_101, i_103, i_118, i_119, i_126, i_133, i_137, i_144, i_154, i_158, i_160, i_190, i_199, i_200, i_207, i_209, i_213, i_229, i_252, i_254, i_255, i_260, i_282, i_303, i_304, i_321, i_348, i_435, i_492, i_522, i_1000, i_1023, i_1600, i_2903, iI_neg]
        exact ih1
      have j83 := fun hv => j88 true hv
      have j87 := fun hv => j88 false hv
      unfold P_X4_clash_J83 P_X4_clash_J87
      simp (disch := omega) only [iI_add, iI_sub, iI_mul, iI_neg, iI_lt, iI_le, iI_eq, iI_cl, aI_at, aI_up, aI_l0, aI_l1, aI_l2, aI_l3, i_m9, i_m1, i_0, i_1, i_2, i_3, i_4, i_5, i_6, i_7, i_8, i_9, i_10, i_11, i_12, i_13, i_14, i_15, i_16, i_17, i_18, i_19, i_20, i_21, i_22, i_23, i_24, i_25, i_26, i_27, i_28, i_29, i_30, i_31, i_32, i_33, i_34, i_35, i_36, i_37, i_38, i_39, i_40, i_41, i_42, i_43, i_44, i_45, i_46, i_47, i_48, i_49, i_50, i_51, i_52, i_53, i_54, i_55, i_56, i_57, i_58, i_59, i_60, i_61, i_62, i_63, i_64, i_65, i_66, i_67, i_68, i_69, i_70, i_72, i_77, i_78, i_80, i_81, i_82, i_83, i_84, i_87, i_88, i_96, i_98, i_100, i_101, i_103, i_118, i_119, i_126, i_133, i_137, i_144, i_154, i_158, i_160, i_190, i_199, i_200, i_207, i_209, i_213, i_229, i_252, i_254, i_255, i_260, i_282, i_303, i_304, i_321, i_348, i_435, i_492, i_522, i_1000, i_1023, i_1600, i_2903, iI_neg]
      refine br_b' (fun h4 => ⟨fun h5 => ?_, fun h5 => ?_⟩) (fun h4 => ?_)
      · exact j87 (by rw [h4, decide_eq_false (p := lta f o (f (4 + 6 * w + 2) + k) ≠ -1) (by omega)]; rfl)
      · refine s_X4_isSeen w0 (by omega) (by omega) (by omega) t0 t1 (lw.1 k (by omega) (by omega)) lw.2.1 ?_
        rw [sn_S hl w0 w1 (by omega) (by omega)]
        refine br_b (fun h6 => ?_) (fun h6 => ?_)
        · exact j87 (by rw [h4, h6]; simp)
        · refine s_X4_isSeen o0 (by omega) (by omega) (by omega) t0 t1 (lo.1 _ (by omega) (by omega)) lo.2.1 ?_
          rw [sn_S hl o0 o1 (by omega) (by omega)]
          refine br_b (fun h7 => ?_) (fun h7 => ?_)
          · exact j87 (by rw [h4, h7]; simp)
          · exact j83 (by rw [h6, h7, decide_eq_true (p := lta f o (f (4 + 6 * w + 2) + k) ≠ -1) (by omega)]; simp)
      · exact j83 (by rw [h4]; rfl)
theorem s_X4_clash {mb w o t : Int} {f li wh go : Int → Int} {Q : Int32 → Prop} (hf : OK mb f) (hl : Ld f (f 2) li wh go) (w0 : 0 ≤ w) (w1 : w < f 2) (o0 : 0 ≤ o) (o1 : o < f 2) (t0 : 0 ≤ t) (t1 : t ≤ 199) (h : Q (iI (bi (cl f w o t)))) : P_X4_clash (iI w) (iI o) (iI t) (aI li) (aI go) (aI f) Q := by
  have hw := (hf.2.2.2.2.1 w w0 w1).1
  unfold P_X4_clash
  have := s_X4_clash_L hf hl w0 w1 o0 o1 t0 t1 h (f (4 + 6 * w + 0)).toNat 0 (by omega)
  rw [show clN f w o t 0 = false from rfl, Bool.and_false] at this
  exact ⟨_, this⟩
/-- pairs of words that clash in a beat -/
def clsO (f : Int → Int) (t w : Int) (n : Nat) : Int := sm (fun o => bi (cl f w o t)) n
def cls (f : Int → Int) (t : Int) : Int := sm (fun w => clsO f t w w.toNat) (f 2).toNat
theorem clsO_rng (f : Int → Int) (t w : Int) (n : Nat) : 0 ≤ clsO f t w n ∧ clsO f t w n ≤ n := by
  have := sm_rng (g := fun o => bi (cl f w o t)) (c := 1) (by omega) (n := n) (fun k _ _ => bi_rng _)
  unfold clsO
  omega
theorem cls_rng {f : Int → Int} (h2 : 0 ≤ f 2 ∧ f 2 ≤ 8) (t : Int) : ∀ n : Nat, (n : Int) ≤ f 2 → 0 ≤ sm (fun w => clsO f t w w.toNat) n ∧ sm (fun w => clsO f t w w.toNat) n ≤ 8 * n := by
  intro n hn
  exact sm_rng (c := 8) (by omega) (fun k k0 k1 => by
    have := clsO_rng f t k k.toNat
    show 0 ≤ clsO f t k k.toNat ∧ clsO f t k k.toNat ≤ 8
    omega)
theorem s_X4_clashes_L16 {mb w t : Int} {f li wh go : Int → Int} {K : Int32 → Prop} (hf : OK mb f) (hl : Ld f (f 2) li wh go) (w0 : 0 ≤ w) (w1 : w < f 2) (t0 : 0 ≤ t) (t1 : t ≤ 199) (a : Int) (h : K (iI (a + clsO f t w w.toNat))) :
    ∀ (m o : Nat), (o : Int) + m = w → P_X4_clashes_L16 (iI t) (iI w) (aI li) (aI go) (aI f) K (m + 1) (iI (a + clsO f t w o)) (iI o) := by
  have h8 := hf.2.2.1
  intro m
  induction m with
  | zero =>
    intro o ho
    rw [P_X4_clashes_L16_s]
    unfold B_X4_clashes_L16
    simp (disch := omega) only [iI_add, iI_sub, iI_mul, iI_neg, iI_lt, iI_le, iI_eq, iI_cl, aI_at, aI_up, aI_l0, aI_l1, aI_l2, aI_l3]
    refine ⟨fun _ => ?_, fun hx => absurd (by omega) hx⟩
    rwa [show w.toNat = o by omega] at h
  | succ m ih =>
    intro o ho
    have ih1 := ih (o + 1) (by omega)
    rw [show (((o + 1 : Nat) : Int)) = (o : Int) + 1 by omega, show clsO f t w (o + 1) = clsO f t w o + bi (cl f w o t) from rfl] at ih1
    rw [P_X4_clashes_L16_s]
    unfold B_X4_clashes_L16 P_X4_clashes_J42
    simp (disch := omega) only [iI_add, iI_sub, iI_mul, iI_neg, iI_lt, iI_le, iI_eq, iI_cl, aI_at, aI_up, aI_l0, aI_l1, aI_l2, aI_l3, i_m9, i_m1, i_0, i_1, i_2, i_3, i_4, i_5, i_6, i_7, i_8, i_9, i_10, i_11, i_12, i_13, i_14, i_15, i_16, i_17, i_18, i_19, i_20, i_21, i_22, i_23, i_24, i_25, i_26, i_27, i_28, i_29, i_30, i_31, i_32, i_33, i_34, i_35, i_36, i_37, i_38, i_39, i_40, i_41, i_42, i_43, i_44, i_45, i_46, i_47, i_48, i_49, i_50, i_51, i_52, i_53, i_54, i_55, i_56, i_57, i_58, i_59, i_60, i_61, i_62, i_63, i_64, i_65, i_66, i_67, i_68, i_69, i_70, i_72, i_77, i_78, i_80, i_81, i_82, i_83, i_84, i_87, i_88, i_96, i_98, i_100, i_101, i_103, i_118, i_119, i_126, i_133, i_137, i_144, i_154, i_158, i_160, i_190, i_199, i_200, i_207, i_209, i_213, i_229, i_252, i_254, i_255, i_260, i_282, i_303, i_304, i_321, i_348, i_435, i_492, i_522, i_1000, i_1023, i_1600, i_2903, iI_neg]
    refine ⟨fun hx => absurd hx (by omega), fun _ => s_X4_clash hf hl w0 w1 (by omega) (by omega) t0 t1 (br_b (fun h3 => ?_) (fun h3 => ?_))⟩
    · rw [bi_f h3] at ih1
      rwa [Int.add_assoc]
    · rw [bi_t h3] at ih1
      rwa [Int.add_assoc]
theorem s_X4_clashes_L5 {mb t : Int} {f li wh go : Int → Int} {Q : Int32 → Prop} (hf : OK mb f) (hl : Ld f (f 2) li wh go) (t0 : 0 ≤ t) (t1 : t ≤ 199) (h : Q (iI (cls f t))) :
    ∀ (m w : Nat), (w : Int) + m = f 2 → P_X4_clashes_L5 (iI t) (aI li) (aI go) (aI f) Q (m + 1) (iI (sm (fun w => clsO f t w w.toNat) w)) (iI w) := by
  have h8 := hf.2.2.1
  intro m
  induction m with
  | zero =>
    intro w hw
    rw [P_X4_clashes_L5_s]
    unfold B_X4_clashes_L5
    simp (disch := omega) only [iI_add, iI_sub, iI_mul, iI_neg, iI_lt, iI_le, iI_eq, iI_cl, aI_at, aI_up, aI_l0, aI_l1, aI_l2, aI_l3]
    refine ⟨fun _ => ?_, fun hx => absurd (by omega) hx⟩
    unfold cls at h
    rwa [show (f 2).toNat = w by omega] at h
  | succ m ih =>
    intro w hw
    have ih1 := ih (w + 1) (by omega)
    rw [show (((w + 1 : Nat) : Int)) = (w : Int) + 1 by omega, sm_s] at ih1
    rw [P_X4_clashes_L5_s]
    unfold B_X4_clashes_L5
    simp (disch := omega) only [iI_add, iI_sub, iI_mul, iI_neg, iI_lt, iI_le, iI_eq, iI_cl, aI_at, aI_up, aI_l0, aI_l1, aI_l2, aI_l3, i_m9, i_m1, i_0, i_1, i_2, i_3, i_4, i_5, i_6, i_7, i_8, i_9, i_10, i_11, i_12, i_13, i_14, i_15, i_16, i_17, i_18, i_19, i_20, i_21, i_22, i_23, i_24, i_25, i_26, i_27, i_28, i_29, i_30, i_31, i_32, i_33, i_34, i_35, i_36, i_37, i_38, i_39, i_40, i_41, i_42, i_43, i_44, i_45, i_46, i_47, i_48, i_49, i_50, i_51, i_52, i_53, i_54, i_55, i_56, i_57, i_58, i_59, i_60, i_61, i_62, i_63, i_64, i_65, i_66, i_67, i_68, i_69, i_70, i_72, i_77, i_78, i_80, i_81, i_82, i_83, i_84, i_87, i_88, i_96, i_98, i_100, i_101, i_103, i_118, i_119, i_126, i_133, i_137, i_144, i_154, i_158, i_160, i_190, i_199, i_200, i_207, i_209, i_213, i_229, i_252, i_254, i_255, i_260, i_282, i_303, i_304, i_321, i_348, i_435, i_492, i_522, i_1000, i_1023, i_1600, i_2903, iI_neg]
    refine ⟨fun hx => absurd hx (by omega), fun _ => ⟨w + 1, ?_⟩⟩
    have := s_X4_clashes_L16 (K := fun x => P_X4_clashes_L5 (iI t) (aI li) (aI go) (aI f) Q (m + 1) x (iI ((w : Int) + 1))) hf hl (w := w) (by omega) (by omega) t0 t1 _ (by rw [show ((w : Int)).toNat = w by omega] at ih1 ⊢; exact ih1) w 0 (by omega)
    rw [show clsO f t (w : Int) 0 = 0 from rfl, Int.add_zero] at this
    exact this
theorem s_X4_clashes {mb t : Int} {f li wh go : Int → Int} {Q : Int32 → Prop} (hf : OK mb f) (hl : Ld f (f 2) li wh go) (t0 : 0 ≤ t) (t1 : t ≤ 199) (h : Q (iI (cls f t))) : P_X4_clashes (iI t) (aI li) (aI go) (aI f) Q := by
  have h8 := hf.2.2.1
  unfold P_X4_clashes
  exact ⟨_, s_X4_clashes_L5 hf hl t0 t1 h (f 2).toNat 0 (by omega)⟩
