theorem iI_rem {a b : Int} (h1 : 0 ≤ a) (h2 : a < 2147483648) (h3 : 0 < b) (h4 : b < 2147483648) : iI a - iI a / iI b * iI b = iI (a - a / b * b) := by
  rw [iI_div h1 h2 h3 h4, iI_mul, iI_sub]
theorem mult_le {x q s : Int} (h1 : 1 ≤ s) (h : q * s < x + s) (hx : x / s * s = x) : q * s ≤ x := by
  have h2 : q * s < (x / s + 1) * s := by
    rw [Int.add_mul, hx]; omega
  have h3 := Int.lt_of_mul_lt_mul_right h2 (by omega)
  have h4 : q * s ≤ x / s * s := Int.mul_le_mul_of_nonneg_right (by omega) (by omega)
  omega
theorem s_X2_nextBar {v s : Int} {Q : Int32 → Prop} (v0 : 0 ≤ v) (v1 : v ≤ 1000) (s0 : 1 ≤ s) (s1 : s ≤ 16) (h : Q (iI (if (v + s - 1) / s * s < 200 then (v + s - 1) / s * s else 200))) : P_X2_nextBar (iI v) (iI s) Q := by
  obtain ⟨d0, d1, d2⟩ := divb (x := v + s - 1) (s := s) (by omega) s0
  have dm : (v + s - 1) / s * s / s * s = (v + s - 1) / s * s := by rw [Int.mul_ediv_cancel _ (by omega)]
  have lp : ∀ (m : Nat) (x : Int), v ≤ x → 200 ≤ x + m → x ≤ 2000 → (∀ y : Int, v ≤ y → y < x → y / s * s ≠ y) → P_X2_nextBar_L2 (iI s) Q (m + 1) (iI x) := by
    intro m
    induction m with
    | zero =>
      intro x vx hx x2 hy
      rw [P_X2_nextBar_L2_s]
      unfold B_X2_nextBar_L2
      simp (disch := omega) only [iI_le, i_m9, i_m1, i_0, i_1, i_2, i_3, i_4, i_5, i_6, i_7, i_8, i_9, i_10, i_11, i_12, i_13, i_14, i_15, i_16, i_17, i_18, i_19, i_20, i_21, i_22, i_23, i_24, i_25, i_26, i_27, i_28, i_29, i_30, i_31, i_32, i_33, i_34, i_35, i_36, i_37, i_38, i_39, i_40, i_41, i_42, i_43, i_44, i_45, i_46, i_47, i_48, i_49, i_50, i_51, i_52, i_53, i_54, i_55, i_56, i_57, i_58, i_59, i_60, i_61, i_62, i_63, i_64, i_65, i_66, i_67, i_68, i_69, i_70, i_72, i_77, i_78, i_80, i_81, i_82, i_83, i_84, i_87, i_88, i_96, i_98, i_100, i_101, i_103, i_118, i_119, i_126, i_133, i_137, i_144, i_154, i_158, i_160, i_190, i_199, i_200, i_207, i_209, i_213, i_229, i_252, i_254, i_255, i_260, i_282, i_303, i_304, i_321, i_348, i_435, i_492, i_522, i_1000, i_1023, i_1600, i_2903, iI_neg]
      refine ⟨fun _ => ?_, fun hx => absurd (by omega) hx⟩
      rw [if_neg (fun hb => hy _ (by omega) (by omega) dm)] at h
      exact h
    | succ m ih =>
      intro x vx hx x2 hy
      rw [P_X2_nextBar_L2_s]
      unfold B_X2_nextBar_L2 P_X2_nextBar_J21
      have hr := divb (x := x) (s := s) (by omega) s0
      simp (disch := omega) only [iI_le, iI_eq, iI_rem, iI_add, i_m9, i_m1, i_0, i_1, i_2, i_3, i_4, i_5, i_6, i_7, i_8, i_9, i_10, i_11, i_12, i_13, i_14, i_15, i_16, i_17, i_18, i_19, i_20, i_21, i_22, i_23, i_24, i_25, i_26, i_27, i_28, i_29, i_30, i_31, i_32, i_33, i_34, i_35, i_36, i_37, i_38, i_39, i_40, i_41, i_42, i_43, i_44, i_45, i_46, i_47, i_48, i_49, i_50, i_51, i_52, i_53, i_54, i_55, i_56, i_57, i_58, i_59, i_60, i_61, i_62, i_63, i_64, i_65, i_66, i_67, i_68, i_69, i_70, i_72, i_77, i_78, i_80, i_81, i_82, i_83, i_84, i_87, i_88, i_96, i_98, i_100, i_101, i_103, i_118, i_119, i_126, i_133, i_137, i_144, i_154, i_158, i_160, i_190, i_199, i_200, i_207, i_209, i_213, i_229, i_252, i_254, i_255, i_260, i_282, i_303, i_304, i_321, i_348, i_435, i_492, i_522, i_1000, i_1023, i_1600, i_2903, iI_neg]
      refine ⟨fun g => ?_, fun g => ⟨fun hx => absurd hx (by omega), fun _ => ⟨by omega, fun e => ih (x + 1) (by omega) (by omega) (by omega) (fun y y0 y1 => ?_), fun e => ?_⟩⟩⟩
      · rw [if_neg (fun hb => hy _ (by omega) (by omega) dm)] at h
        exact h
      · by_cases ey : y = x
        · rw [ey]; omega
        · exact hy y y0 (by omega)
      · have e1 := mult_le (x := x) (q := (v + s - 1) / s) s0 (by omega) (by omega)
        have e2 : (v + s - 1) / s * s = x := by
          by_cases e3 : (v + s - 1) / s * s < x
          · exact absurd dm (hy _ (by omega) e3)
          · omega
        rw [e2, if_pos (by omega)] at h
        exact h
  unfold P_X2_nextBar
  exact ⟨_, lp 200 v (by omega) (by omega) (by omega) (fun y y0 y1 => absurd y1 (by omega))⟩
/-- the beat before which a word can be seen -/
def enS (g : Int → Int) (w : Int) : Int := if goS g w = -1 then 200 else goS g w
theorem litBeat_at {w k : Int} {li : Int → Int} {Q : Int32 → Prop} (w0 : 0 ≤ w) (w1 : w < 8) (k0 : 0 ≤ k) (k1 : k < 12) (h : Q (iI (li (w * 12 + k)))) : P_X2_litBeat (iI w) (iI k) (aI li) Q := by
  unfold P_X2_litBeat
  simp (disch := omega) only [iI_add, iI_sub, iI_mul, iI_neg, iI_lt, iI_le, iI_eq, iI_cl, aI_at, aI_up, aI_l0, aI_l1, aI_l2, aI_l3, i_m9, i_m1, i_0, i_1, i_2, i_3, i_4, i_5, i_6, i_7, i_8, i_9, i_10, i_11, i_12, i_13, i_14, i_15, i_16, i_17, i_18, i_19, i_20, i_21, i_22, i_23, i_24, i_25, i_26, i_27, i_28, i_29, i_30, i_31, i_32, i_33, i_34, i_35, i_36, i_37, i_38, i_39, i_40, i_41, i_42, i_43, i_44, i_45, i_46, i_47, i_48, i_49, i_50, i_51, i_52, i_53, i_54, i_55, i_56, i_57, i_58, i_59, i_60, i_61, i_62, i_63, i_64, i_65, i_66, i_67, i_68, i_69, i_70, i_72, i_77, i_78, i_80, i_81, i_82, i_83, i_84, i_87, i_88, i_96, i_98, i_100, i_101, i_103, i_118, i_119, i_126, i_133, i_137, i_144, i_154, i_158, i_160, i_190, i_199, i_200, i_207, i_209, i_213, i_229, i_252, i_254, i_255, i_260, i_282, i_303, i_304, i_321, i_348, i_435, i_492, i_522, i_1000, i_1023, i_1600, i_2903, iI_neg]
  exact ⟨fun hx => absurd hx (by omega), fun _ => ⟨fun hx => absurd hx (by omega), fun _ => ⟨iI_in (by omega) (by omega) (by omega), h⟩⟩⟩
theorem evN_s (g : Int → Int) (w : Int) (k : Nat) : evN g w (k + 1) = (evN g w k && decide (litS g w k ≠ -1)) := rfl
theorem lsN_s (g : Int → Int) (w : Int) (k : Nat) : lsN g w (k + 1) = if litS g w k ≤ lsN g w k then lsN g w k else litS g w k := rfl
theorem s_X2_finish {mb w n : Int} {c g li wh en : Int → Int} {Q : (Nat → Int32) → (Nat → Int32) → Prop} (hA : AW c g) (hg : OK mb g) (w0 : 0 ≤ w) (w1 : w < g 2) (hn : n = g (4 + 6 * w + 0)) (hli : ∀ k : Int, 0 ≤ k → k < n → li (w * 12 + k) = litS g w k)
    (h : Q (aI (up wh w (wlS g w))) (aI (up en w (enS g w)))) : P_X2_finish (iI w) (iI n) (aI c) (aI li) (aI wh) (aI en) Q := by
  have n2 := hg.2.2.1
  have g0 := hg.1
  obtain ⟨⟨l0, l1⟩, ⟨r0, r1⟩, ⟨c0, c1⟩, ⟨q0, q1⟩, -, ⟨h0, h1⟩⟩ := hg.2.2.2.2.1 w w0 w1
  have hrg := litS_rng hg w0 w1
  have hls := lsN_rng hg w0 w1
  unfold P_X2_finish
  simp (disch := omega) only [iI_lt, iI_le, i_m9, i_m1, i_0, i_1, i_2, i_3, i_4, i_5, i_6, i_7, i_8, i_9, i_10, i_11, i_12, i_13, i_14, i_15, i_16, i_17, i_18, i_19, i_20, i_21, i_22, i_23, i_24, i_25, i_26, i_27, i_28, i_29, i_30, i_31, i_32, i_33, i_34, i_35, i_36, i_37, i_38, i_39, i_40, i_41, i_42, i_43, i_44, i_45, i_46, i_47, i_48, i_49, i_50, i_51, i_52, i_53, i_54, i_55, i_56, i_57, i_58, i_59, i_60, i_61, i_62, i_63, i_64, i_65, i_66, i_67, i_68, i_69, i_70, i_72, i_77, i_78, i_80, i_81, i_82, i_83, i_84, i_87, i_88, i_96, i_98, i_100, i_101, i_103, i_118, i_119, i_126, i_133, i_137, i_144, i_154, i_158, i_160, i_190, i_199, i_200, i_207, i_209, i_213, i_229, i_252, i_254, i_255, i_260, i_282, i_303, i_304, i_321, i_348, i_435, i_492, i_522, i_1000, i_1023, i_1600, i_2903, iI_neg]
  refine ⟨fun hx => absurd hx (by omega), fun _ => ⟨fun hx => absurd hx (by omega), fun _ => ⟨fun _ => ?_, fun hx => absurd (by omega) hx⟩⟩⟩
  have lp : ∀ (K : Int32 → Prop), (∀ la : Int, (evN g w n.toNat = true ∧ la = lsN g w n.toNat) ∨ (evN g w n.toNat = false ∧ la = 200) → K (iI la)) →
      ∀ (m k : Nat), (k : Int) + m = n → ∀ la : Int, ((evN g w k = true ∧ ((k = 0 ∧ la = 0) ∨ (0 < k ∧ la = lsN g w k))) ∨ (evN g w k = false ∧ la = 200)) → P_X2_finish_L28 (iI w) (iI n) (aI li) K (m + 1) (iI la) (iI k) := by
    intro K hK m
    induction m with
    | zero =>
      intro k hk la hla
      have := hls k
      rw [P_X2_finish_L28_s]
      unfold B_X2_finish_L28
      simp (disch := omega) only [iI_le]
      refine ⟨fun _ => hK la ?_, fun hx => absurd (by omega) hx⟩
      rw [show n.toNat = k by omega]
      rcases hla with ⟨a, (b | b)⟩ | a
      · exact absurd b.1 (by omega)
      · exact Or.inl ⟨a, b.2⟩
      · exact Or.inr a
    | succ m ih =>
      intro k hk la hla
      have h9 := hls k
      have hr := hrg k
      have ih1 := ih (k + 1) (by omega)
      rw [nsucc] at ih1
      rw [P_X2_finish_L28_s]
      unfold B_X2_finish_L28 P_X2_finish_J61
      simp (disch := omega) only [iI_le, iI_add, i_m9, i_m1, i_0, i_1, i_2, i_3, i_4, i_5, i_6, i_7, i_8, i_9, i_10, i_11, i_12, i_13, i_14, i_15, i_16, i_17, i_18, i_19, i_20, i_21, i_22, i_23, i_24, i_25, i_26, i_27, i_28, i_29, i_30, i_31, i_32, i_33, i_34, i_35, i_36, i_37, i_38, i_39, i_40, i_41, i_42, i_43, i_44, i_45, i_46, i_47, i_48, i_49, i_50, i_51, i_52, i_53, i_54, i_55, i_56, i_57, i_58, i_59, i_60, i_61, i_62, i_63, i_64, i_65, i_66, i_67, i_68, i_69, i_70, i_72, i_77, i_78, i_80, i_81, i_82, i_83, i_84, i_87, i_88, i_96, i_98, i_100, i_101, i_103, i_118, i_119, i_126, i_133, i_137, i_144, i_154, i_158, i_160, i_190, i_199, i_200, i_207, i_209, i_213, i_229, i_252, i_254, i_255, i_260, i_282, i_303, i_304, i_321, i_348, i_435, i_492, i_522, i_1000, i_1023, i_1600, i_2903, iI_neg]
      refine ⟨fun hx => absurd hx (by omega), fun _ => litBeat_at w0 (by omega) (by omega) (by omega) ?_⟩
      rw [hli k (by omega) (by omega)]
      have la0 : 0 ≤ la ∧ la ≤ 200 := by omega
      simp (disch := omega) only [iI_eq, iI_lt, iI_if]
      refine ⟨fun e => ih1 _ ?_, fun e => ih1 _ ?_⟩
      · rw [evN_s, lsN_s, decide_eq_true e, Bool.and_true]
        rcases hla with ⟨a, b⟩ | ⟨a, b⟩
        · left
          refine ⟨a, Or.inr ⟨by omega, ?_⟩⟩
          rcases b with ⟨b1, b2⟩ | ⟨b1, b2⟩
          · have : lsN g w k = g (4 + 6 * w + 3) := by rw [b1]; rfl
            rw [this, b2]
            split <;> split <;> omega
          · rw [b2]
            split <;> split <;> omega
        · right
          refine ⟨a, ?_⟩
          rw [b, if_neg (by omega)]
      · rw [evN_s, decide_eq_false (by omega), Bool.and_false]
        exact Or.inr ⟨rfl, rfl⟩
  refine ⟨_, lp _ (fun la hla => ?_) n.toNat 0 (by omega) 0 (Or.inl ⟨rfl, Or.inl ⟨rfl, rfl⟩⟩)⟩
  refine s_AW_ofWord hA (by omega) w0 w1 (by omega) (by omega) (by omega) ?_
  have h9 := hls n.toNat
  have fin : ∀ z : Int, z = wlS g w → P_X2_finish_J100 (aI c) (aI wh) (aI en) Q (iI w) (iI la) (iI (if g (4 + 6 * w + 5) < 1 then 1 else g (4 + 6 * w + 5))) (iI z) (iI w) := by
    intro z hz
    unfold P_X2_finish_J100
    simp only [i_m9, i_m1, i_0, i_1, i_2, i_3, i_4, i_5, i_6, i_7, i_8, i_9, i_10, i_11, i_12, i_13, i_14, i_15, i_16, i_17, i_18, i_19, i_20, i_21, i_22, i_23, i_24, i_25, i_26, i_27, i_28, i_29, i_30, i_31, i_32, i_33, i_34, i_35, i_36, i_37, i_38, i_39, i_40, i_41, i_42, i_43, i_44, i_45, i_46, i_47, i_48, i_49, i_50, i_51, i_52, i_53, i_54, i_55, i_56, i_57, i_58, i_59, i_60, i_61, i_62, i_63, i_64, i_65, i_66, i_67, i_68, i_69, i_70, i_72, i_77, i_78, i_80, i_81, i_82, i_83, i_84, i_87, i_88, i_96, i_98, i_100, i_101, i_103, i_118, i_119, i_126, i_133, i_137, i_144, i_154, i_158, i_160, i_190, i_199, i_200, i_207, i_209, i_213, i_229, i_252, i_254, i_255, i_260, i_282, i_303, i_304, i_321, i_348, i_435, i_492, i_522, i_1000, i_1023, i_1600, i_2903, iI_neg]
    refine ⟨iI_in (by omega) (by omega) (by omega), s_AW_setting hA (Or.inl rfl) ?_⟩
    simp only [iI_add]
    have st : 1 ≤ (if g (4 + 6 * w + 5) < 1 then 1 else g (4 + 6 * w + 5)) ∧ (if g (4 + 6 * w + 5) < 1 then 1 else g (4 + 6 * w + 5)) ≤ 50 := by split <;> omega
    refine s_X2_nextBar (by omega) (by omega) g0.1 g0.2 ⟨iI_in (by omega) (by omega) (by omega), ?_⟩
    simp (disch := omega) only [iI_cl, aI_up]
    have ee : (if (la + (if g (4 + 6 * w + 5) < 1 then 1 else g (4 + 6 * w + 5)) + g 0 - 1) / g 0 * g 0 < 200 then (la + (if g (4 + 6 * w + 5) < 1 then 1 else g (4 + 6 * w + 5)) + g 0 - 1) / g 0 * g 0 else 200) = enS g w := by
      unfold enS goS
      rw [← hn]
      rcases hla with ⟨a, b⟩ | ⟨a, b⟩
      · rw [if_pos a]
        have eb : barS g w = (la + (if g (4 + 6 * w + 5) < 1 then 1 else g (4 + 6 * w + 5)) + g 0 - 1) / g 0 * g 0 := by
          unfold barS
          rw [← hn, ← b]
          by_cases e : g (4 + 6 * w + 5) < 1
          · rw [if_pos e, if_pos (by omega)]
          · rw [if_neg e, if_neg (by omega)]
        rw [← eb]
        have bb : 0 ≤ barS g w := by
          rw [eb]
          exact Int.mul_nonneg (divb (x := la + (if g (4 + 6 * w + 5) < 1 then 1 else g (4 + 6 * w + 5)) + g 0 - 1) (s := g 0) (by omega) g0.1).1 (by omega)
        by_cases e : barS g w < 200
        · rw [if_pos e, if_pos e, if_neg (by omega)]
        · rw [if_neg e, if_neg e, if_pos rfl]
      · have := divb (x := la + (if g (4 + 6 * w + 5) < 1 then 1 else g (4 + 6 * w + 5)) + g 0 - 1) (s := g 0) (by omega) g0.1
        rw [a, if_neg (by omega)]
        simp
    rw [ee, hz]
    exact h
  simp (disch := omega) only [iI_le, iI_lt, iI_if, i_m9, i_m1, i_0, i_1, i_2, i_3, i_4, i_5, i_6, i_7, i_8, i_9, i_10, i_11, i_12, i_13, i_14, i_15, i_16, i_17, i_18, i_19, i_20, i_21, i_22, i_23, i_24, i_25, i_26, i_27, i_28, i_29, i_30, i_31, i_32, i_33, i_34, i_35, i_36, i_37, i_38, i_39, i_40, i_41, i_42, i_43, i_44, i_45, i_46, i_47, i_48, i_49, i_50, i_51, i_52, i_53, i_54, i_55, i_56, i_57, i_58, i_59, i_60, i_61, i_62, i_63, i_64, i_65, i_66, i_67, i_68, i_69, i_70, i_72, i_77, i_78, i_80, i_81, i_82, i_83, i_84, i_87, i_88, i_96, i_98, i_100, i_101, i_103, i_118, i_119, i_126, i_133, i_137, i_144, i_154, i_158, i_160, i_190, i_199, i_200, i_207, i_209, i_213, i_229, i_252, i_254, i_255, i_260, i_282, i_303, i_304, i_321, i_348, i_435, i_492, i_522, i_1000, i_1023, i_1600, i_2903, iI_neg]
  refine ⟨fun e => fin (-1) ?_, fun e => fin la ?_⟩
  · unfold wlS
    rw [← hn]
    rcases hla with ⟨a, b⟩ | ⟨a, b⟩
    · omega
    · rw [a, if_neg (by decide)]
  · unfold wlS
    rw [← hn]
    rcases hla with ⟨a, b⟩ | ⟨a, b⟩
    · rw [a, if_pos rfl, b]
    · omega
def LTS (g : Int → Int) (L : Nat → Int64) : Prop := LTp (fun r t c => lts g r t c (g 3).toNat) L
theorem s_X2_settle {mb w q : Int} {c g li wh en : Int → Int} {L : Nat → Int64} {R la : Nat → Int32} {Q : (Nat → Int32) → (Nat → Int32) → (Nat → Int32) → (Nat → Int32) → (Nat → Int32) → Prop} (hA : AW c g) (hg : OK mb g) (w0 : 0 ≤ w) (w1 : w < g 2) (hq : q = g (4 + 6 * w + 3)) (hL : LTS g L)
    (h : ∀ (l2 : Int → Int) (R2 la2 : Nat → Int32), (∀ j : Int, (j < w * 12 ∨ w * 12 + 12 ≤ j) → l2 j = li j) → (∀ k : Int, 0 ≤ k → k < g (4 + 6 * w + 0) → l2 (w * 12 + k) = litS g w k) → Q (aI l2) (aI (up wh w (wlS g w))) (aI (up en w (enS g w))) R2 la2) :
    P_X2_settle (iI w) (iI q) (aI c) L (aI li) (aI wh) (aI en) R la Q := by
  have n2 := hg.2.2.1
  have hw := hg.2.2.2.2.1 w w0 w1
  obtain ⟨⟨l0, l1⟩, ⟨r0, r1⟩, ⟨c0, c1⟩, ⟨q0, q1⟩, ⟨u0, u1⟩, -⟩ := id hw
  unfold P_X2_settle P_X2_settle_J88
  simp only [i_m9, i_m1, i_0, i_1, i_2, i_3, i_4, i_5, i_6, i_7, i_8, i_9, i_10, i_11, i_12, i_13, i_14, i_15, i_16, i_17, i_18, i_19, i_20, i_21, i_22, i_23, i_24, i_25, i_26, i_27, i_28, i_29, i_30, i_31, i_32, i_33, i_34, i_35, i_36, i_37, i_38, i_39, i_40, i_41, i_42, i_43, i_44, i_45, i_46, i_47, i_48, i_49, i_50, i_51, i_52, i_53, i_54, i_55, i_56, i_57, i_58, i_59, i_60, i_61, i_62, i_63, i_64, i_65, i_66, i_67, i_68, i_69, i_70, i_72, i_77, i_78, i_80, i_81, i_82, i_83, i_84, i_87, i_88, i_96, i_98, i_100, i_101, i_103, i_118, i_119, i_126, i_133, i_137, i_144, i_154, i_158, i_160, i_190, i_199, i_200, i_207, i_209, i_213, i_229, i_252, i_254, i_255, i_260, i_282, i_303, i_304, i_321, i_348, i_435, i_492, i_522, i_1000, i_1023, i_1600, i_2903, iI_neg]
  refine s_AW_ofWord hA (by omega) w0 w1 (by omega) (by omega) (by omega) ?_
  refine s_X2_findReach hA (by omega) w0 w1 hw rfl (by omega) hL (fun R2 hR => ?_)
  have hR2 : RH (can g w) (g (4 + 6 * w + 0)) R2 := by
    intro t k ht hk
    rw [hR t k ht hk, hq]
    rfl
  refine s_X2_allOf (s_X2_putLit w0 (by omega) (fun l2 h1 h2 => ?_))
  have hl2 : ∀ k : Int, 0 ≤ k → k < g (4 + 6 * w + 0) → l2 (w * 12 + k) = -1 := fun k k0 k1 => by
    have := h2 k.toNat (by omega)
    rw [alM_bit (by omega) (by omega) (by omega), decide_eq_true (by omega), if_pos rfl, show ((k.toNat : Nat) : Int) = k by omega] at this
    exact this
  refine s_AW_ofWord hA (by omega) w0 w1 (by omega) (by omega) (by omega) ?_
  have fin : ∀ (l3 : Int → Int) (la2 : Nat → Int32), (∀ j : Int, (j < w * 12 ∨ w * 12 + 12 ≤ j) → l3 j = l2 j) → (∀ k : Int, 0 ≤ k → k < g (4 + 6 * w + 0) → l3 (w * 12 + k) = litS g w k) →
      P_X2_finish (iI w) (iI (g (4 + 6 * w + 0))) (aI c) (aI l3) (aI wh) (aI en) (fun (s_whole_1 : Nat → Int32) (s_ends_2 : Nat → Int32) => Q (aI l3) s_whole_1 s_ends_2 R2 la2) := by
    intro l3 la2 g1 g2
    exact s_X2_finish hA hg w0 w1 rfl g2 (h l3 R2 la2 (fun j hj => (g1 j hj).trans (h1 j hj)) g2)
  simp (disch := omega) only [iI_eq]
  refine ⟨fun e => s_X2_lightInTurn w0 (by omega) ⟨q0, q1⟩ (by omega) (by omega) hR2 hl2 (fun l3 g1 g2 => fin l3 la g1 (fun k k0 k1 => ?_)), fun e => s_X2_lightTogether hA hg.2.1 w0 (by omega) ⟨q0, q1⟩ rfl (by omega) (by omega) hR2 hl2 (fun l3 la2 g1 g2 => fin l3 la2 g1 (fun k k0 k1 => ?_)), fun e e2 => s_X2_lightEach w0 (by omega) (by omega) (by omega) hR2 hl2 (fun l3 g1 g2 => fin l3 la g1 (fun k k0 k1 => ?_))⟩
  · have := g2 k.toNat (by omega)
    rw [show ((k.toNat : Nat) : Int) = k by omega] at this
    unfold litS
    rw [this, if_neg (by omega), if_pos e]
  · unfold litS
    rw [g2 k k0 k1, if_pos e]
  · unfold litS
    rw [g2 k k0 k1, if_neg e2, if_neg e, fl_0 q0 q1]
/-- what the class shows of the first n words -/
def LC (g : Int → Int) (n : Int) (li wh en : Int → Int) : Prop := ∀ w : Int, 0 ≤ w → w < n → (∀ k : Int, 0 ≤ k → k < g (4 + 6 * w + 0) → li (w * 12 + k) = litS g w k) ∧ wh w = wlS g w ∧ en w = enS g w
theorem s_X2_settleAll {mb : Int} {c g : Int → Int} {li wh en : Nat → Int32} {L : Nat → Int64} {R la : Nat → Int32} {Q : (Nat → Int32) → (Nat → Int32) → (Nat → Int32) → (Nat → Int32) → (Nat → Int32) → Prop} (hA : AW c g) (hg : OK mb g) (hq : ∀ w : Int, 0 ≤ w → w < g 2 → c (w * 6 + 3) = g (4 + 6 * w + 3)) (hL : LTS g L)
    (h : ∀ (li wh en : Int → Int) (R2 la2 : Nat → Int32), LC g (g 2) li wh en → Q (aI li) (aI wh) (aI en) R2 la2) :
    P_X2_settleAll (aI c) L li wh en R la Q := by
  have n2 := hg.2.2.1
  have hW := hg.2.2.2.2.1
  have lp : ∀ (m b : Nat), (b : Int) + m = g 2 → ∀ (li wh en : Int → Int) (R la : Nat → Int32), LC g b li wh en → P_X2_settleAll_L2 (aI c) L Q (m + 1) (iI b) (aI li) (aI wh) (aI en) R la := by
    intro m
    induction m with
    | zero =>
      intro b hb li wh en R la hl
      rw [P_X2_settleAll_L2_s]
      unfold B_X2_settleAll_L2
      refine s_AW_words hA ?_
      simp (disch := omega) only [iI_le]
      rw [show (b : Int) = g 2 by omega] at hl
      exact ⟨fun _ => h li wh en R la hl, fun hx => absurd (by omega) hx⟩
    | succ m ih =>
      intro b hb li wh en R la hl
      have ih1 := ih (b + 1) (by omega)
      rw [nsucc] at ih1
      rw [P_X2_settleAll_L2_s]
      unfold B_X2_settleAll_L2
      refine s_AW_words hA ?_
      simp (disch := omega) only [iI_le, iI_add, i_m9, i_m1, i_0, i_1, i_2, i_3, i_4, i_5, i_6, i_7, i_8, i_9, i_10, i_11, i_12, i_13, i_14, i_15, i_16, i_17, i_18, i_19, i_20, i_21, i_22, i_23, i_24, i_25, i_26, i_27, i_28, i_29, i_30, i_31, i_32, i_33, i_34, i_35, i_36, i_37, i_38, i_39, i_40, i_41, i_42, i_43, i_44, i_45, i_46, i_47, i_48, i_49, i_50, i_51, i_52, i_53, i_54, i_55, i_56, i_57, i_58, i_59, i_60, i_61, i_62, i_63, i_64, i_65, i_66, i_67, i_68, i_69, i_70, i_72, i_77, i_78, i_80, i_81, i_82, i_83, i_84, i_87, i_88, i_96, i_98, i_100, i_101, i_103, i_118, i_119, i_126, i_133, i_137, i_144, i_154, i_158, i_160, i_190, i_199, i_200, i_207, i_209, i_213, i_229, i_252, i_254, i_255, i_260, i_282, i_303, i_304, i_321, i_348, i_435, i_492, i_522, i_1000, i_1023, i_1600, i_2903, iI_neg]
      refine ⟨fun hx => absurd hx (by omega), fun _ => s_cell_ofWord (hq b (by omega) (by omega)) (by omega) (by omega) (by omega) (by omega) ?_⟩
      refine s_X2_settle hA hg (by omega) (by omega) rfl hL (fun l2 R2 la2 h1 h2 => ih1 l2 _ _ R2 la2 (fun w w0 w1 => ?_))
      by_cases e : w = b
      · subst e
        exact ⟨h2, up_eq _ _ _, up_eq _ _ _⟩
      · obtain ⟨p1, p2, p3⟩ := hl w w0 (by omega)
        have hk := hW w w0 (by omega)
        unfold OKw at hk
        exact ⟨fun k k0 k1 => (h1 _ (by omega)).trans (p1 k k0 k1), (up_ne e).trans p2, (up_ne e).trans p3⟩
  unfold P_X2_settleAll
  rw [i_0, aI_of li, aI_of wh, aI_of en]
  exact ⟨_, lp (g 2).toNat 0 (by omega) _ _ _ R la (fun w w0 w1 => absurd w1 (by omega))⟩
