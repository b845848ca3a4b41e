/-- rule 1: the beats in which letters are lit, from the left -/
def lt1 (f : Int → Int) (w : Int) : Nat → Int
  | 0 => fl f w 0 (f (4 + 6 * w + 3))
  | k + 1 => if lt1 f w k = -1 then -1 else fl f w ((k : Int) + 1) (lt1 f w k)
/-- the beat in which a letter is lit; -1 -/
def litS (f : Int → Int) (w k : Int) : Int := if f (4 + 6 * w + 4) = 2 then tog f w else if f (4 + 6 * w + 4) = 1 then lt1 f w k.toNat else fl f w k (f (4 + 6 * w + 3))
theorem lt1_rng {mb w : Int} {f : Int → Int} (hf : OK mb f) (w0 : 0 ≤ w) (w1 : w < f 2) : ∀ k : Nat, lt1 f w k = -1 ∨ (f (4 + 6 * w + 3) ≤ lt1 f w k ∧ lt1 f w k < 200)
  | 0 => by
    obtain ⟨-, -, -, ⟨q0, q1⟩, -⟩ := hf.2.2.2.2.1 w w0 w1
    exact fl_rng f w 0 q0 (by omega)
  | k + 1 => by
    obtain ⟨-, -, -, ⟨q0, q1⟩, -⟩ := hf.2.2.2.2.1 w w0 w1
    unfold lt1
    split
    · exact Or.inl rfl
    · rcases lt1_rng hf w0 w1 k with h | ⟨h1, h2⟩
      · rename_i h9; exact absurd h h9
      · rcases fl_rng f w ((k : Int) + 1) (t := lt1 f w k) (by omega) (by omega) with h | ⟨h3, h4⟩
        · exact Or.inl h
        · exact Or.inr ⟨by omega, h4⟩
theorem litS_rng {mb w : Int} {f : Int → Int} (hf : OK mb f) (w0 : 0 ≤ w) (w1 : w < f 2) (k : Int) : litS f w k = -1 ∨ (f (4 + 6 * w + 3) ≤ litS f w k ∧ litS f w k < 200) := by
  obtain ⟨-, -, -, ⟨q0, q1⟩, -⟩ := hf.2.2.2.2.1 w w0 w1
  unfold litS
  split
  · rcases frs_rng (fun t => alN f w t.toNat (f (4 + 6 * w + 0)).toNat) (200 - f (4 + 6 * w + 3)).toNat (f (4 + 6 * w + 3)) with h | ⟨h1, h2, -⟩
    · exact Or.inl h
    · exact Or.inr ⟨h1, by unfold tog; omega⟩
  · split
    · exact lt1_rng hf w0 w1 _
    · exact fl_rng f w k q0 (by omega)
/-- whether the first k letters are lit, and the last beat (or the cue) in which one of them is -/
def evN (f : Int → Int) (w : Int) : Nat → Bool
  | 0 => true
  | k + 1 => evN f w k && decide (litS f w k ≠ -1)
def lsN (f : Int → Int) (w : Int) : Nat → Int
  | 0 => f (4 + 6 * w + 3)
  | k + 1 => if litS f w k ≤ lsN f w k then lsN f w k else litS f w k
theorem lsN_rng {mb w : Int} {f : Int → Int} (hf : OK mb f) (w0 : 0 ≤ w) (w1 : w < f 2) : ∀ k : Nat, f (4 + 6 * w + 3) ≤ lsN f w k ∧ lsN f w k < 200
  | 0 => by
    obtain ⟨-, -, -, ⟨q0, q1⟩, -⟩ := hf.2.2.2.2.1 w w0 w1
    unfold lsN; omega
  | k + 1 => by
    have := lsN_rng hf w0 w1 k
    unfold lsN
    split
    · exact this
    · rcases litS_rng hf w0 w1 (k : Int) with h | h
      · omega
      · exact h
def wlS (f : Int → Int) (w : Int) : Int := if evN f w (f (4 + 6 * w + 0)).toNat = true then lsN f w (f (4 + 6 * w + 0)).toNat else -1
/-- the first beginning of a bar that is late enough -/
def barS (f : Int → Int) (w : Int) : Int :=
  ((if lsN f w (f (4 + 6 * w + 0)).toNat + f (4 + 6 * w + 5) ≤ lsN f w (f (4 + 6 * w + 0)).toNat then lsN f w (f (4 + 6 * w + 0)).toNat + 1 else lsN f w (f (4 + 6 * w + 0)).toNat + f (4 + 6 * w + 5)) + f 0 - 1) / f 0 * f 0
def goS (f : Int → Int) (w : Int) : Int := if evN f w (f (4 + 6 * w + 0)).toNat = true then (if barS f w < 200 then barS f w else -1) else -1
theorem iI_nat {n : Nat} (h : n < 2147483648) : iI (n : Int) = nI n := by
  apply Int32.toInt_inj.mp
  rw [iI_t (by omega) (by omega), nI_toInt (by omega)]
theorem iI_div {a b : Int} (h1 : 0 ≤ a) (h2 : a < 2147483648) (h3 : 0 < b) (h4 : b < 2147483648) : iI a / iI b = iI (a / b) := by
  have e1 : a = ((a.toNat : Nat) : Int) := by omega
  have e2 : b = ((b.toNat : Nat) : Int) := by omega
  rw [e1, e2, iI_nat (by omega), iI_nat (by omega), pk_div (by omega) (by omega) (by omega), ← iI_nat (by have := Nat.div_le_self a.toNat b.toNat; omega)]
  rw [Int.natCast_ediv]
theorem divb {x s : Int} (h1 : 0 ≤ x) (h2 : 1 ≤ s) : 0 ≤ x / s ∧ x / s * s ≤ x ∧ x < x / s * s + s := by
  have e1 := Int.emod_add_mul_ediv x s
  have e2 := Int.emod_nonneg x (show s ≠ 0 by omega)
  have e3 := Int.emod_lt_of_pos x (show 0 < s by omega)
  have e4 : s * (x / s) = x / s * s := Int.mul_comm _ _
  refine ⟨Int.ediv_nonneg h1 (by omega), ?_, ?_⟩ <;> omega
/-- the loop over a word's letters: what stands in the row of beats -/
theorem s_X4_laysWord_L {mb w : Int} {f : Int → Int} {K : Int32 → Int32 → (Nat → Int32) → Prop} (hf : OK mb f) (hmb : mb ≤ 7) (w0 : 0 ≤ w) (w1 : w < f 2) (li0 : Int → Int)
    (x5 : Int) (h5 : f (4 + 6 * w + 4) = 2 → x5 = tog f w)
    (hK : ∀ li : Int → Int, (∀ j, 0 ≤ j → j < f (4 + 6 * w + 0) → li (12 * w + j) = litS f w j) → (∀ j, (j < 12 * w ∨ 12 * w + 12 ≤ j) → li j = li0 j) → K (iI (lsN f w (f (4 + 6 * w + 0)).toNat)) (iI (bi (evN f w (f (4 + 6 * w + 0)).toNat))) (aI li)) :
    ∀ (m k : Nat) (li : Int → Int), (k : Int) + m = f (4 + 6 * w + 0) → (∀ j : Int, 0 ≤ j → j < k → li (12 * w + j) = litS f w j) → (∀ j : Int, (j < 12 * w ∨ 12 * w + 12 ≤ j) → li j = li0 j) →
      P_X4_laysWord_L47 (iI w) (iI (f (4 + 6 * w + 0))) (iI (f (4 + 6 * w + 4))) (iI x5) (aI f) K (m + 1) (iI (lsN f w k)) (iI (bi (evN f w k))) (iI k) (aI li) := by
  have hw := hf.2.2.2.2.1 w w0 w1
  have h8 := hf.2.2.1
  obtain ⟨⟨l0, l1⟩, -, -, ⟨q0, q1⟩, ⟨u0, u1⟩, -⟩ := id hw
  intro m
  induction m with
  | zero =>
    intro k li hk h1 h2
    rw [P_X4_laysWord_L47_s]
    unfold B_X4_laysWord_L47
    simp (disch := omega) only [iI_add, iI_sub, iI_mul, iI_neg, iI_lt, iI_le, iI_eq, iI_cl, aI_at, aI_up, aI_l0, aI_l1, aI_l2, aI_l3]
    refine ⟨fun _ => ?_, fun hx => absurd (by omega) hx⟩
    have := hK li (fun j j0 j1 => h1 j j0 (by omega)) h2
    rwa [show (f (4 + 6 * w + 0)).toNat = k by omega] at this
  | succ m ih =>
    intro k li hk h1 h2
    have hr := litS_rng hf w0 w1 (k : Int)
    have hls := lsN_rng hf w0 w1 k
    -- behind the letter's beat: it is written, and counted
    have core : P_X4_laysWord_J142 (iI w) (P_X4_laysWord_L47 (iI w) (iI (f (4 + 6 * w + 0))) (iI (f (4 + 6 * w + 4))) (iI x5) (aI f) K (m + 1)) (iI (lsN f w k)) (iI (bi (evN f w k))) (iI k) (iI (litS f w k)) (iI (12 * w + k)) (aI li) := by
      obtain ⟨li2, hli2⟩ : ∃ li2, li2 = up li (12 * w + k) (litS f w k) := ⟨_, rfl⟩
      have e4 : li2 (12 * w + k) = litS f w k := by rw [hli2, up_eq]
      have ih1 := ih (k + 1) li2 (by omega) (fun j j0 j1 => by
        by_cases e : j = k
        · rw [e, e4]
        · rw [hli2, up_ne (by omega)]; exact h1 j j0 (by omega)) (fun j hj => by rw [hli2, up_ne (by omega)]; exact h2 j hj)
      have e1 : (((k + 1 : Nat) : Int)) = (k : Int) + 1 := by omega
      have e3 : evN f w (k + 1) = (evN f w k && decide (litS f w k ≠ -1)) := rfl
      have e5 : lsN f w (k + 1) = (if litS f w k ≤ lsN f w k then lsN f w k else litS f w k) := rfl
      rw [e1, e3, e5] at ih1
      -- the last beat
      have core2 : ∀ v : Bool, (evN f w k && decide (litS f w k ≠ -1)) = v → P_X4_laysWord_J169 (iI w) (P_X4_laysWord_L47 (iI w) (iI (f (4 + 6 * w + 0))) (iI (f (4 + 6 * w + 4))) (iI x5) (aI f) K (m + 1)) (iI (lsN f w k)) (iI k) (iI (bi v)) (aI li2) := by
        intro v hv
        rw [hv] at ih1
        unfold P_X4_laysWord_J169 P_X4_laysWord_J205
        simp (disch := omega) only [iI_add, iI_sub, iI_mul, iI_neg, iI_lt, iI_le, iI_eq, iI_cl, aI_at, aI_up, aI_l0, aI_l1, aI_l2, aI_l3, i_m9, i_m1, i_0, i_1, i_2, i_3, i_4, i_5, i_6, i_7, i_8, i_9, i_10, i_11, i_12, i_13, i_14, i_15, i_16, i_17, i_18, i_19, i_20, i_21, i_22, i_23, i_24, i_25, i_26, i_27, i_28, i_29, i_30, i_31, i_32, i_33, i_34, i_35, i_36, i_37, i_38, i_39, i_40, i_41, i_42, i_43, i_44, i_45, i_46, i_47, i_48, i_49, i_50, i_51, i_52, i_53, i_54, i_55, i_56, i_57, i_58, i_59, i_60, i_61, i_62, i_63, i_64, i_65, i_66, i_67, i_68, i_69, i_70, i_72, i_77, i_78, i_80, i_81, i_82, i_83, i_84, i_87, i_88, i_96, i_98, i_100, i_101, i_103, i_118, i_119, i_126, i_133, i_137, i_144, i_154, i_158, i_160, i_190, i_199, i_200, i_207, i_209, i_213, i_229, i_252, i_254, i_255, i_260, i_282, i_303, i_304, i_321, i_348, i_435, i_492, i_522, i_1000, i_1023, i_1600, i_2903, iI_neg, e4]
        refine ⟨iI_in (by omega) (by omega) (by omega), fun h6 => ?_, fun h6 => ⟨iI_in (by omega) (by omega) (by omega), ?_⟩⟩
        · rwa [if_pos h6] at ih1
        · rwa [if_neg h6] at ih1
      unfold P_X4_laysWord_J142
      simp (disch := omega) only [iI_add, iI_sub, iI_mul, iI_neg, iI_lt, iI_le, iI_eq, iI_cl, aI_at, aI_up, aI_l0, aI_l1, aI_l2, aI_l3, i_m9, i_m1, i_0, i_1, i_2, i_3, i_4, i_5, i_6, i_7, i_8, i_9, i_10, i_11, i_12, i_13, i_14, i_15, i_16, i_17, i_18, i_19, i_20, i_21, i_22, i_23, i_24, i_25, i_26, i_27, i_28, i_29, i_30, i_31, i_32, i_33, i_34, i_35, i_36, i_37, i_38, i_39, i_40, i_41, i_42, i_43, i_44, i_45, i_46, i_47, i_48, i_49, i_50, i_51, i_52, i_53, i_54, i_55, i_56, i_57, i_58, i_59, i_60, i_61, i_62, i_63, i_64, i_65, i_66, i_67, i_68, i_69, i_70, i_72, i_77, i_78, i_80, i_81, i_82, i_83, i_84, i_87, i_88, i_96, i_98, i_100, i_101, i_103, i_118, i_119, i_126, i_133, i_137, i_144, i_154, i_158, i_160, i_190, i_199, i_200, i_207, i_209, i_213, i_229, i_252, i_254, i_255, i_260, i_282, i_303, i_304, i_321, i_348, i_435, i_492, i_522, i_1000, i_1023, i_1600, i_2903, iI_neg]
      rw [← hli2]
      simp (disch := omega) only [iI_add, iI_sub, iI_mul, iI_neg, iI_lt, iI_le, iI_eq, iI_cl, aI_at, aI_up, aI_l0, aI_l1, aI_l2, aI_l3, e4]
      refine ⟨iI_in (by omega) (by omega) (by omega), br_b (fun h3 => ?_) (fun h3 => ⟨iI_in (by omega) (by omega) (by omega), fun h6 => ?_, fun h6 => ?_⟩)⟩
      · have := core2 false (by rw [h3]; rfl)
        unfold P_X4_laysWord_J168
        simp only [i_m9, i_m1, i_0, i_1, i_2, i_3, i_4, i_5, i_6, i_7, i_8, i_9, i_10, i_11, i_12, i_13, i_14, i_15, i_16, i_17, i_18, i_19, i_20, i_21, i_22, i_23, i_24, i_25, i_26, i_27, i_28, i_29, i_30, i_31, i_32, i_33, i_34, i_35, i_36, i_37, i_38, i_39, i_40, i_41, i_42, i_43, i_44, i_45, i_46, i_47, i_48, i_49, i_50, i_51, i_52, i_53, i_54, i_55, i_56, i_57, i_58, i_59, i_60, i_61, i_62, i_63, i_64, i_65, i_66, i_67, i_68, i_69, i_70, i_72, i_77, i_78, i_80, i_81, i_82, i_83, i_84, i_87, i_88, i_96, i_98, i_100, i_101, i_103, i_118, i_119, i_126, i_133, i_137, i_144, i_154, i_158, i_160, i_190, i_199, i_200, i_207, i_209, i_213, i_229, i_252, i_254, i_255, i_260, i_282, i_303, i_304, i_321, i_348, i_435, i_492, i_522, i_1000, i_1023, i_1600, i_2903, iI_neg]
        exact this
      · have := core2 false (by rw [h3, decide_eq_false (by omega)]; rfl)
        unfold P_X4_laysWord_J168
        simp only [i_m9, i_m1, i_0, i_1, i_2, i_3, i_4, i_5, i_6, i_7, i_8, i_9, i_10, i_11, i_12, i_13, i_14, i_15, i_16, i_17, i_18, i_19, i_20, i_21, i_22, i_23, i_24, i_25, i_26, i_27, i_28, i_29, i_30, i_31, i_32, i_33, i_34, i_35, i_36, i_37, i_38, i_39, i_40, i_41, i_42, i_43, i_44, i_45, i_46, i_47, i_48, i_49, i_50, i_51, i_52, i_53, i_54, i_55, i_56, i_57, i_58, i_59, i_60, i_61, i_62, i_63, i_64, i_65, i_66, i_67, i_68, i_69, i_70, i_72, i_77, i_78, i_80, i_81, i_82, i_83, i_84, i_87, i_88, i_96, i_98, i_100, i_101, i_103, i_118, i_119, i_126, i_133, i_137, i_144, i_154, i_158, i_160, i_190, i_199, i_200, i_207, i_209, i_213, i_229, i_252, i_254, i_255, i_260, i_282, i_303, i_304, i_321, i_348, i_435, i_492, i_522, i_1000, i_1023, i_1600, i_2903, iI_neg]
        exact this
      · exact core2 true (by rw [h3, decide_eq_true h6]; rfl)
    -- the letter's beat
    have c99 : ∀ x : Int, ((f (4 + 6 * w + 4) = 1 → 0 < k → x = li (12 * w + k - 1)) ∧ (¬ (f (4 + 6 * w + 4) = 1 ∧ 0 < k) → x = f (4 + 6 * w + 3))) → P_X4_laysWord_J99 (iI w) (iI (f (4 + 6 * w + 4))) (iI x5) (aI f) (P_X4_laysWord_L47 (iI w) (iI (f (4 + 6 * w + 0))) (iI (f (4 + 6 * w + 4))) (iI x5) (aI f) K (m + 1)) (iI (lsN f w k)) (iI (bi (evN f w k))) (iI k) (iI x) (aI li) := by
      intro x hx
      have hxr : x = -1 ∨ (0 ≤ x ∧ x < 200) := by
        by_cases e : f (4 + 6 * w + 4) = 1 ∧ 0 < k
        · rw [hx.1 e.1 e.2]
          have := h1 ((k : Int) - 1) (by omega) (by omega)
          rw [show 12 * w + ((k : Int) - 1) = 12 * w + k - 1 by omega] at this
          rw [this]
          rcases litS_rng hf w0 w1 ((k : Int) - 1) with h | h
          · exact Or.inl h
          · exact Or.inr ⟨by omega, h.2⟩
        · rw [hx.2 e]; exact Or.inr ⟨by omega, by omega⟩
      -- the letter before, by rule 1
      have h1' : f (4 + 6 * w + 4) = 1 → 0 < k → x = lt1 f w (k - 1) ∧ litS f w k = lt1 f w (k - 1 + 1) := by
        intro e1 e2
        have := h1 ((k : Int) - 1) (by omega) (by omega)
        rw [show 12 * w + ((k : Int) - 1) = 12 * w + k - 1 by omega] at this
        rw [hx.1 e1 e2, this]
        unfold litS
        rw [if_neg (by omega), if_pos e1, if_neg (by omega), if_pos e1]
        exact ⟨congrArg _ (by omega), congrArg _ (by omega)⟩
      have e0 : f (4 + 6 * w + 4) = 1 → k = 0 → litS f w k = fl f w k (f (4 + 6 * w + 3)) := by
        intro e1 e2
        unfold litS
        rw [if_neg (by omega), if_pos e1, e2]
        rfl
      unfold P_X4_laysWord_J99
      simp (disch := omega) only [iI_add, iI_sub, iI_mul, iI_neg, iI_lt, iI_le, iI_eq, iI_cl, aI_at, aI_up, aI_l0, aI_l1, aI_l2, aI_l3, i_m9, i_m1, i_0, i_1, i_2, i_3, i_4, i_5, i_6, i_7, i_8, i_9, i_10, i_11, i_12, i_13, i_14, i_15, i_16, i_17, i_18, i_19, i_20, i_21, i_22, i_23, i_24, i_25, i_26, i_27, i_28, i_29, i_30, i_31, i_32, i_33, i_34, i_35, i_36, i_37, i_38, i_39, i_40, i_41, i_42, i_43, i_44, i_45, i_46, i_47, i_48, i_49, i_50, i_51, i_52, i_53, i_54, i_55, i_56, i_57, i_58, i_59, i_60, i_61, i_62, i_63, i_64, i_65, i_66, i_67, i_68, i_69, i_70, i_72, i_77, i_78, i_80, i_81, i_82, i_83, i_84, i_87, i_88, i_96, i_98, i_100, i_101, i_103, i_118, i_119, i_126, i_133, i_137, i_144, i_154, i_158, i_160, i_190, i_199, i_200, i_207, i_209, i_213, i_229, i_252, i_254, i_255, i_260, i_282, i_303, i_304, i_321, i_348, i_435, i_492, i_522, i_1000, i_1023, i_1600, i_2903, iI_neg]
      refine ⟨fun h3 => ⟨fun h4 => ?_, fun h4 => ?_⟩, fun h3 => ?_⟩
      · refine s_X4_firstLight hf hmb w0 w1 (by omega) (by omega) (by omega) (by omega) ?_
        have e : fl f w k x = litS f w k := by
          by_cases e1 : f (4 + 6 * w + 4) = 1
          · by_cases e2 : 0 < k
            · obtain ⟨g1, g2⟩ := h1' e1 e2
              rw [g2]
              unfold lt1
              rw [if_neg (by rw [← g1]; exact h4), ← g1]
              exact congrArg (fun z => fl f w z x) (by omega)
            · rw [e0 e1 (by omega), hx.2 (fun q => e2 q.2)]
          · unfold litS
            rw [if_neg h3, if_neg e1, hx.2 (fun q => e1 q.1)]
        rw [e]
        exact core
      · have e : litS f w k = -1 := by
          by_cases e1 : f (4 + 6 * w + 4) = 1
          · by_cases e2 : 0 < k
            · obtain ⟨g1, g2⟩ := h1' e1 e2
              rw [g2]
              unfold lt1
              rw [if_pos (by rw [← g1]; exact h4)]
            · have := hx.2 (fun q => e2 q.2); omega
          · have := hx.2 (fun q => e1 q.1); omega
        rw [e] at core
        exact core
      · have e : x5 = litS f w k := by rw [h5 h3]; unfold litS; rw [if_pos h3]
        exact (congrArg (fun v => P_X4_laysWord_J142 (iI w) _ _ _ _ (iI v) _ _) e).mpr core
    rw [P_X4_laysWord_L47_s]
    unfold B_X4_laysWord_L47
    simp (disch := omega) only [iI_add, iI_sub, iI_mul, iI_neg, iI_lt, iI_le, iI_eq, iI_cl, aI_at, aI_up, aI_l0, aI_l1, aI_l2, aI_l3, i_m9, i_m1, i_0, i_1, i_2, i_3, i_4, i_5, i_6, i_7, i_8, i_9, i_10, i_11, i_12, i_13, i_14, i_15, i_16, i_17, i_18, i_19, i_20, i_21, i_22, i_23, i_24, i_25, i_26, i_27, i_28, i_29, i_30, i_31, i_32, i_33, i_34, i_35, i_36, i_37, i_38, i_39, i_40, i_41, i_42, i_43, i_44, i_45, i_46, i_47, i_48, i_49, i_50, i_51, i_52, i_53, i_54, i_55, i_56, i_57, i_58, i_59, i_60, i_61, i_62, i_63, i_64, i_65, i_66, i_67, i_68, i_69, i_70, i_72, i_77, i_78, i_80, i_81, i_82, i_83, i_84, i_87, i_88, i_96, i_98, i_100, i_101, i_103, i_118, i_119, i_126, i_133, i_137, i_144, i_154, i_158, i_160, i_190, i_199, i_200, i_207, i_209, i_213, i_229, i_252, i_254, i_255, i_260, i_282, i_303, i_304, i_321, i_348, i_435, i_492, i_522, i_1000, i_1023, i_1600, i_2903, iI_neg]
    refine ⟨fun hx => absurd hx (by omega), fun _ => ⟨fun h3 => ?_, fun h3 => ⟨fun h4 => ?_, fun h4 => ?_⟩⟩⟩
    · unfold P_X4_laysWord_J68 P_X4_laysWord_J69
      simp only [i_m9, i_m1, i_0, i_1, i_2, i_3, i_4, i_5, i_6, i_7, i_8, i_9, i_10, i_11, i_12, i_13, i_14, i_15, i_16, i_17, i_18, i_19, i_20, i_21, i_22, i_23, i_24, i_25, i_26, i_27, i_28, i_29, i_30, i_31, i_32, i_33, i_34, i_35, i_36, i_37, i_38, i_39, i_40, i_41, i_42, i_43, i_44, i_45, i_46, i_47, i_48, i_49, i_50, i_51, i_52, i_53, i_54, i_55, i_56, i_57, i_58, i_59, i_60, i_61, i_62, i_63, i_64, i_65, i_66, i_67, i_68, i_69, i_70, i_72, i_77, i_78, i_80, i_81, i_82, i_83, i_84, i_87, i_88, i_96, i_98, i_100, i_101, i_103, i_118, i_119, i_126, i_133, i_137, i_144, i_154, i_158, i_160, i_190, i_199, i_200, i_207, i_209, i_213, i_229, i_252, i_254, i_255, i_260, i_282, i_303, i_304, i_321, i_348, i_435, i_492, i_522, i_1000, i_1023, i_1600, i_2903, iI_neg]
      refine ⟨fun _ => s_X4_of (by omega) (by omega) (c99 _ ⟨fun q => absurd q h3, fun _ => rfl⟩), fun h => by simp at h⟩
    · unfold P_X4_laysWord_J68 P_X4_laysWord_J69
      simp only [i_m9, i_m1, i_0, i_1, i_2, i_3, i_4, i_5, i_6, i_7, i_8, i_9, i_10, i_11, i_12, i_13, i_14, i_15, i_16, i_17, i_18, i_19, i_20, i_21, i_22, i_23, i_24, i_25, i_26, i_27, i_28, i_29, i_30, i_31, i_32, i_33, i_34, i_35, i_36, i_37, i_38, i_39, i_40, i_41, i_42, i_43, i_44, i_45, i_46, i_47, i_48, i_49, i_50, i_51, i_52, i_53, i_54, i_55, i_56, i_57, i_58, i_59, i_60, i_61, i_62, i_63, i_64, i_65, i_66, i_67, i_68, i_69, i_70, i_72, i_77, i_78, i_80, i_81, i_82, i_83, i_84, i_87, i_88, i_96, i_98, i_100, i_101, i_103, i_118, i_119, i_126, i_133, i_137, i_144, i_154, i_158, i_160, i_190, i_199, i_200, i_207, i_209, i_213, i_229, i_252, i_254, i_255, i_260, i_282, i_303, i_304, i_321, i_348, i_435, i_492, i_522, i_1000, i_1023, i_1600, i_2903, iI_neg]
      refine ⟨fun _ => s_X4_of (by omega) (by omega) (c99 _ ⟨fun _ q => absurd q (by omega), fun _ => rfl⟩), fun h => by simp at h⟩
    · unfold P_X4_laysWord_J69
      simp (disch := omega) only [iI_add, iI_sub, iI_mul, iI_neg, iI_lt, iI_le, iI_eq, iI_cl, aI_at, aI_up, aI_l0, aI_l1, aI_l2, aI_l3, i_m9, i_m1, i_0, i_1, i_2, i_3, i_4, i_5, i_6, i_7, i_8, i_9, i_10, i_11, i_12, i_13, i_14, i_15, i_16, i_17, i_18, i_19, i_20, i_21, i_22, i_23, i_24, i_25, i_26, i_27, i_28, i_29, i_30, i_31, i_32, i_33, i_34, i_35, i_36, i_37, i_38, i_39, i_40, i_41, i_42, i_43, i_44, i_45, i_46, i_47, i_48, i_49, i_50, i_51, i_52, i_53, i_54, i_55, i_56, i_57, i_58, i_59, i_60, i_61, i_62, i_63, i_64, i_65, i_66, i_67, i_68, i_69, i_70, i_72, i_77, i_78, i_80, i_81, i_82, i_83, i_84, i_87, i_88, i_96, i_98, i_100, i_101, i_103, i_118, i_119, i_126, i_133, i_137, i_144, i_154, i_158, i_160, i_190, i_199, i_200, i_207, i_209, i_213, i_229, i_252, i_254, i_255, i_260, i_282, i_303, i_304, i_321, i_348, i_435, i_492, i_522, i_1000, i_1023, i_1600, i_2903, iI_neg]
      refine ⟨fun h => by simp at h, fun _ => ⟨iI_in (by omega) (by omega) (by omega), c99 _ ⟨fun _ _ => rfl, fun q => absurd ⟨h3, by omega⟩ q⟩⟩⟩
