def in0 (f : Int → Int) (t : Int) : Int := sm (fun w => soS f w t) (f 2).toNat
def in1 (f : Int → Int) (t : Int) : Int := sm (fun w => bi (decide (0 < soS f w t))) (f 2).toNat
def in2 (f : Int → Int) (t : Int) : Int := sm (fun w => bi (decide (wlS f w ≠ -1) && (decide (wlS f w ≤ t) && decide (0 < soS f w t)))) (f 2).toNat
def in4 (f : Int → Int) (t : Int) : Int := sm (fun b => bi (cos f b t)) (f 3).toNat
def inG (f : Int → Int) (t i w : Int) : Int := if i = 0 then soS f w t else if i = 1 then bi (decide (0 < soS f w t)) else bi (decide (wlS f w ≠ -1) && (decide (wlS f w ≤ t) && decide (0 < soS f w t)))
def inS (f : Int → Int) (t i : Int) : Int := if i < 3 then sm (inG f t i) (f 2).toNat else if i = 3 then cls f t else in4 f t
theorem inS_0 (f : Int → Int) (t : Int) : inS f t 0 = in0 f t := rfl
theorem inS_1 (f : Int → Int) (t : Int) : inS f t 1 = in1 f t := rfl
theorem inS_2 (f : Int → Int) (t : Int) : inS f t 2 = in2 f t := rfl
theorem inS_3 (f : Int → Int) (t : Int) : inS f t 3 = cls f t := rfl
theorem inS_4 (f : Int → Int) (t : Int) : inS f t 4 = in4 f t := rfl
theorem inG_rng {mb w : Int} {f : Int → Int} (hf : OK mb f) (t i : Int) (w0 : 0 ≤ w) (w1 : w < f 2) : 0 ≤ inG f t i w ∧ inG f t i w ≤ 12 := by
  have h1 := so_rng hf w0 w1 t
  have h2 := bi_rng (decide (0 < soS f w t))
  have h3 := bi_rng (decide (wlS f w ≠ -1) && (decide (wlS f w ≤ t) && decide (0 < soS f w t)))
  unfold inG
  split
  · exact h1
  · split <;> omega
theorem inGs_rng {mb : Int} {f : Int → Int} (hf : OK mb f) (t i : Int) (n : Nat) (hn : (n : Int) ≤ f 2) : 0 ≤ sm (inG f t i) n ∧ sm (inG f t i) n ≤ 12 * n :=
  sm_rng (c := 12) (by omega) (fun k k0 k1 => inG_rng hf t i k0 (by omega))
theorem in1_rng {mb : Int} {f : Int → Int} (hf : OK mb f) (t : Int) : 0 ≤ in1 f t ∧ in1 f t ≤ 8 := by
  have h8 := hf.2.2.1
  have := bsm_rng (fun w => decide (0 < soS f w t)) (f 2).toNat
  unfold in1; omega
theorem s_X4_inBeat {mb t i : Int} {f li wh go : Int → Int} {Q : Int32 → Prop} (hf : OK mb f) (hmb : mb ≤ 7) (hl : Ld f (f 2) li wh go) (t0 : 0 ≤ t) (t1 : t ≤ 199) (i0 : 0 ≤ i) (i1 : i ≤ 4) (h : Q (iI (inS f t i))) : P_X4_inBeat (iI t) (iI i) (aI f) (aI li) (aI wh) (aI go) Q := by
  have h8 := hf.2.2.1
  have h3 := hf.2.2.2.1
  -- the beams
  have lb : ∀ (K : Int32 → Prop) (a : Int), K (iI (if i = 4 then a + in4 f t else a)) → ∀ (m b : Nat), (b : Int) + m = f 3 → P_X4_inBeat_L101 (iI t) (iI i) (aI f) K (m + 1) (iI (if i = 4 then a + sm (fun b => bi (cos f b t)) b else a)) (iI b) := by
    intro K a hK m
    induction m with
    | zero =>
      intro b hb
      rw [P_X4_inBeat_L101_s]
      unfold B_X4_inBeat_L101
      simp (disch := omega) only [iI_add, iI_sub, iI_mul, iI_neg, iI_lt, iI_le, iI_eq, iI_cl, aI_at, aI_up, aI_l0, aI_l1, aI_l2, aI_l3]
      refine ⟨fun _ => ?_, fun hx => absurd (by omega) hx⟩
      unfold in4 at hK
      rwa [show (f 3).toNat = b by omega] at hK
    | succ m ih =>
      intro b hb
      have ih1 := ih (b + 1) (by omega)
      rw [nsucc, sm_s] at ih1
      rw [P_X4_inBeat_L101_s]
      unfold B_X4_inBeat_L101 P_X4_inBeat_J136
      simp (disch := omega) only [iI_add, iI_sub, iI_mul, iI_neg, iI_lt, iI_le, iI_eq, iI_cl, aI_at, aI_up, aI_l0, aI_l1, aI_l2, aI_l3, i_m9, i_m1, i_0, i_1, i_2, i_3, i_4, i_5, i_6, i_7, i_8, i_9, i_10, i_11, i_12, i_13, i_14, i_15, i_16, i_17, i_18, i_19, i_20, i_21, i_22, i_23, i_24, i_25, i_26, i_27, i_28, i_29, i_30, i_31, i_32, i_33, i_34, i_35, i_36, i_37, i_38, i_39, i_40, i_41, i_42, i_43, i_44, i_45, i_46, i_47, i_48, i_49, i_50, i_51, i_52, i_53, i_54, i_55, i_56, i_57, i_58, i_59, i_60, i_61, i_62, i_63, i_64, i_65, i_66, i_67, i_68, i_69, i_70, i_72, i_77, i_78, i_80, i_81, i_82, i_83, i_84, i_87, i_88, i_96, i_98, i_100, i_101, i_103, i_118, i_119, i_126, i_133, i_137, i_144, i_154, i_158, i_160, i_190, i_199, i_200, i_207, i_209, i_213, i_229, i_252, i_254, i_255, i_260, i_282, i_303, i_304, i_321, i_348, i_435, i_492, i_522, i_1000, i_1023, i_1600, i_2903, iI_neg]
      refine ⟨fun hx => absurd hx (by omega), fun _ => ⟨fun h4 => ?_, fun h4 => ?_⟩⟩
      · rw [if_neg h4] at hK ⊢
        exact hK
      · rw [if_pos h4] at ih1 ⊢
        refine s_X4_coversSome (by omega) (by omega) (hf.2.2.2.2.2 b (by omega) (by omega)) t0 t1 (br_b (fun h5 => ?_) (fun h5 => ?_))
        · rw [bi_f h5] at ih1
          rw [Int.add_zero] at ih1 ⊢
          exact ih1
        · rw [bi_t h5] at ih1
          rwa [Int.add_assoc]
  -- the words
  have lw : ∀ (K : Int32 → Prop), (K (iI (if i < 3 then sm (inG f t i) (f 2).toNat else 0))) → ∀ (m w : Nat), (w : Int) + m = f 2 → P_X4_inBeat_L5 (iI t) (iI i) (aI f) (aI li) (aI wh) (aI go) K (m + 1) (iI (if i < 3 then sm (inG f t i) w else 0)) (iI w) := by
    intro K hK m
    induction m with
    | zero =>
      intro w hw
      rw [P_X4_inBeat_L5_s]
      unfold B_X4_inBeat_L5
      simp (disch := omega) only [iI_add, iI_sub, iI_mul, iI_neg, iI_lt, iI_le, iI_eq, iI_cl, aI_at, aI_up, aI_l0, aI_l1, aI_l2, aI_l3]
      refine ⟨fun _ => ?_, fun hx => absurd (by omega) hx⟩
      rwa [show (f 2).toNat = w by omega] at hK
    | succ m ih =>
      intro w hw
      have ih1 := ih (w + 1) (by omega)
      rw [nsucc, sm_s] at ih1
      have hsr := so_rng hf (w := w) (by omega) (by omega) t
      have hwr := (ld_rng hf (Int.le_refl _) hl (w := w) (by omega) (by omega)).2.2
      have ew := (hl w (by omega) (by omega)).2.1
      rw [P_X4_inBeat_L5_s]
      unfold B_X4_inBeat_L5 P_X4_inBeat_J89 P_X4_inBeat_J90
      simp (disch := omega) only [iI_add, iI_sub, iI_mul, iI_neg, iI_lt, iI_le, iI_eq, iI_cl, aI_at, aI_up, aI_l0, aI_l1, aI_l2, aI_l3, i_m9, i_m1, i_0, i_1, i_2, i_3, i_4, i_5, i_6, i_7, i_8, i_9, i_10, i_11, i_12, i_13, i_14, i_15, i_16, i_17, i_18, i_19, i_20, i_21, i_22, i_23, i_24, i_25, i_26, i_27, i_28, i_29, i_30, i_31, i_32, i_33, i_34, i_35, i_36, i_37, i_38, i_39, i_40, i_41, i_42, i_43, i_44, i_45, i_46, i_47, i_48, i_49, i_50, i_51, i_52, i_53, i_54, i_55, i_56, i_57, i_58, i_59, i_60, i_61, i_62, i_63, i_64, i_65, i_66, i_67, i_68, i_69, i_70, i_72, i_77, i_78, i_80, i_81, i_82, i_83, i_84, i_87, i_88, i_96, i_98, i_100, i_101, i_103, i_118, i_119, i_126, i_133, i_137, i_144, i_154, i_158, i_160, i_190, i_199, i_200, i_207, i_209, i_213, i_229, i_252, i_254, i_255, i_260, i_282, i_303, i_304, i_321, i_348, i_435, i_492, i_522, i_1000, i_1023, i_1600, i_2903, iI_neg]
      refine ⟨fun hx => absurd hx (by omega), fun _ => ⟨fun h4 => ?_, fun h4 => ?_⟩⟩
      · rw [if_neg (by omega)] at hK ⊢
        exact hK
      · rw [if_pos (by omega)] at ih1 ⊢
        have ihG : ∀ v : Int, inG f t i w = v → P_X4_inBeat_L5 (iI t) (iI i) (aI f) (aI li) (aI wh) (aI go) K (m + 1) (iI (sm (inG f t i) w + v)) (iI ((w : Int) + 1)) := by
          intro v hv
          rw [← hv]; exact ih1
        refine s_X4_seenOf hf hl (by omega) (by omega) t0 t1 ?_
        simp (disch := omega) only [iI_add, iI_sub, iI_mul, iI_neg, iI_lt, iI_le, iI_eq, iI_cl, aI_at, aI_up, aI_l0, aI_l1, aI_l2, aI_l3]
        refine ⟨fun h5 => ⟨fun h6 => ⟨iI_in (by omega) (by omega) (by omega), fun h7 => ?_, fun h7 => ⟨iI_in (by omega) (by omega) (by omega), fun h9 => ?_, fun h9 => ⟨fun h10 => ?_, fun h10 => ?_⟩⟩⟩, fun h6 => ⟨fun h7 => ?_, fun h7 => ?_⟩⟩, fun h5 => ?_⟩
        · exact ihG 0 (by unfold inG; rw [if_neg h5, if_neg h6, ← ew, decide_eq_false (p := wh w ≠ -1) (by omega)]; rfl)
        · exact ihG 0 (by unfold inG; rw [if_neg h5, if_neg h6, ← ew, decide_eq_false (p := wh w ≤ t) (by omega)]; simp [bi])
        · exact ihG 0 (by unfold inG; rw [if_neg h5, if_neg h6, ← ew, decide_eq_false (p := 0 < soS f w t) (by omega)]; simp [bi])
        · exact ihG 1 (by unfold inG; rw [if_neg h5, if_neg h6, ← ew, decide_eq_true (p := wh w ≠ -1) (by omega), decide_eq_true (p := wh w ≤ t) (by omega), decide_eq_true (p := 0 < soS f w t) (by omega)]; rfl)
        · exact ihG 0 (by unfold inG; rw [if_neg h5, if_pos h6, decide_eq_false (by omega)]; rfl)
        · exact ihG 1 (by unfold inG; rw [if_neg h5, if_pos h6, decide_eq_true (by omega)]; rfl)
        · exact ihG _ (by unfold inG; rw [if_pos h5])
  unfold P_X4_inBeat
  refine ⟨(f 2).toNat + 1, ?_⟩
  have := lw (fun x3 => ∃ n : Nat, P_X4_inBeat_L101 (iI t) (iI i) (aI f) (fun (x3_6 : Int32) => ((¬ iI i = 3 → Q x3_6) ∧ (iI i = 3 → P_X4_clashes (iI t) (aI li) (aI go) (aI f) (fun (r_7 : Int32) => Q r_7)))) n x3 0) ⟨(f 3).toNat + 1, by
    have := lb (fun (x3_6 : Int32) => ((¬ iI i = 3 → Q x3_6) ∧ (iI i = 3 → P_X4_clashes (iI t) (aI li) (aI go) (aI f) (fun (r_7 : Int32) => Q r_7)))) (if i < 3 then sm (inG f t i) (f 2).toNat else 0) (by
      simp (disch := omega) only [iI_add, iI_sub, iI_mul, iI_neg, iI_lt, iI_le, iI_eq, iI_cl, aI_at, aI_up, aI_l0, aI_l1, aI_l2, aI_l3, i_m9, i_m1, i_0, i_1, i_2, i_3, i_4, i_5, i_6, i_7, i_8, i_9, i_10, i_11, i_12, i_13, i_14, i_15, i_16, i_17, i_18, i_19, i_20, i_21, i_22, i_23, i_24, i_25, i_26, i_27, i_28, i_29, i_30, i_31, i_32, i_33, i_34, i_35, i_36, i_37, i_38, i_39, i_40, i_41, i_42, i_43, i_44, i_45, i_46, i_47, i_48, i_49, i_50, i_51, i_52, i_53, i_54, i_55, i_56, i_57, i_58, i_59, i_60, i_61, i_62, i_63, i_64, i_65, i_66, i_67, i_68, i_69, i_70, i_72, i_77, i_78, i_80, i_81, i_82, i_83, i_84, i_87, i_88, i_96, i_98, i_100, i_101, i_103, i_118, i_119, i_126, i_133, i_137, i_144, i_154, i_158, i_160, i_190, i_199, i_200, i_207, i_209, i_213, i_229, i_252, i_254, i_255, i_260, i_282, i_303, i_304, i_321, i_348, i_435, i_492, i_522, i_1000, i_1023, i_1600, i_2903, iI_neg]
      unfold inS at h
      refine ⟨fun h4 => ?_, fun h4 => ?_⟩
      · by_cases h5 : i < 3
        · rw [if_pos h5] at h
          rwa [if_neg (by omega), if_pos h5]
        · rw [if_neg h5, if_neg h4] at h
          rw [if_pos (by omega), if_neg h5, Int.zero_add]
          exact h
      · rw [if_neg (by omega), if_pos h4] at h
        exact s_X4_clashes hf hl t0 t1 h) (f 3).toNat 0 (by omega)
    rw [show sm (fun b => bi (cos f b t)) 0 = 0 from rfl, Int.add_zero] at this
    rw [ite_self] at this
    exact this⟩ (f 2).toNat 0 (by omega)
  rw [show sm (inG f t i) 0 = 0 from rfl, ite_self] at this
  exact this
/-- whether a letter of a word is seen in a place -/
def stB (f : Int → Int) (t r c w : Int) : Bool := decide (f (4 + 6 * w + 1) = r) && (decide (lta f w c ≠ -1) && snS f w (lta f w c) t)
def stS (f : Int → Int) (t r c : Int) : Int := frs (stB f t r c) (f 2).toNat 0
theorem s_X4_seenAt {mb t r c : Int} {f li wh go : Int → Int} {Q : Int32 → Prop} (hf : OK mb f) (hl : Ld f (f 2) li wh go) (t0 : 0 ≤ t) (t1 : t ≤ 199) (r0 : 0 ≤ r) (r1 : r ≤ 7) (c0 : 0 ≤ c) (c1 : c ≤ 59) (h : Q (iI (stS f t r c))) : P_X4_seenAt (iI t) (iI r) (iI c) (aI f) (aI li) (aI go) Q := by
  have h8 := hf.2.2.1
  have lp : ∀ (n m : Nat), (n : Int) + m = f 2 → P_X4_seenAt_L13 (iI t) (iI r) (iI c) (aI f) (aI li) (aI go) Q (n + 1) (iI (frs (stB f t r c) m n)) (iI ((n : Int) - 1)) := by
    intro n
    induction n with
    | zero =>
      intro m hm
      rw [P_X4_seenAt_L13_s]
      unfold B_X4_seenAt_L13
      simp (disch := omega) only [iI_add, iI_sub, iI_mul, iI_neg, iI_lt, iI_le, iI_eq, iI_cl, aI_at, aI_up, aI_l0, aI_l1, aI_l2, aI_l3, i_m9, i_m1, i_0, i_1, i_2, i_3, i_4, i_5, i_6, i_7, i_8, i_9, i_10, i_11, i_12, i_13, i_14, i_15, i_16, i_17, i_18, i_19, i_20, i_21, i_22, i_23, i_24, i_25, i_26, i_27, i_28, i_29, i_30, i_31, i_32, i_33, i_34, i_35, i_36, i_37, i_38, i_39, i_40, i_41, i_42, i_43, i_44, i_45, i_46, i_47, i_48, i_49, i_50, i_51, i_52, i_53, i_54, i_55, i_56, i_57, i_58, i_59, i_60, i_61, i_62, i_63, i_64, i_65, i_66, i_67, i_68, i_69, i_70, i_72, i_77, i_78, i_80, i_81, i_82, i_83, i_84, i_87, i_88, i_96, i_98, i_100, i_101, i_103, i_118, i_119, i_126, i_133, i_137, i_144, i_154, i_158, i_160, i_190, i_199, i_200, i_207, i_209, i_213, i_229, i_252, i_254, i_255, i_260, i_282, i_303, i_304, i_321, i_348, i_435, i_492, i_522, i_1000, i_1023, i_1600, i_2903, iI_neg]
      refine ⟨fun _ => ?_, fun hx => absurd (by omega) hx⟩
      unfold stS at h
      rwa [show (f 2).toNat = m by omega] at h
    | succ n ih =>
      intro m hm
      have ih1 := ih (m + 1) (by omega)
      rw [show frs (stB f t r c) (m + 1) (n : Int) = (if stB f t r c n = true then (n : Int) else frs (stB f t r c) m ((n : Int) + 1)) from rfl] at ih1
      have hw := hf.2.2.2.2.1 n (by omega) (by omega)
      obtain ⟨⟨l0, l1⟩, ⟨q0, q1⟩, -⟩ := id hw
      have lw := ld_rng hf (Int.le_refl _) hl (w := n) (by omega) (by omega)
      have hfr := frs_rng (stB f t r c) m ((n : Int) + 1)
      rw [P_X4_seenAt_L13_s]
      unfold B_X4_seenAt_L13
      rw [show (((n + 1 : Nat) : Int)) - 1 = (n : Int) by omega, show (((n + 1 : Nat) : Int)) = (n : Int) + 1 by omega]
      simp (disch := omega) only [iI_add, iI_sub, iI_mul, iI_neg, iI_lt, iI_le, iI_eq, iI_cl, aI_at, aI_up, aI_l0, aI_l1, aI_l2, aI_l3, i_m9, i_m1, i_0, i_1, i_2, i_3, i_4, i_5, i_6, i_7, i_8, i_9, i_10, i_11, i_12, i_13, i_14, i_15, i_16, i_17, i_18, i_19, i_20, i_21, i_22, i_23, i_24, i_25, i_26, i_27, i_28, i_29, i_30, i_31, i_32, i_33, i_34, i_35, i_36, i_37, i_38, i_39, i_40, i_41, i_42, i_43, i_44, i_45, i_46, i_47, i_48, i_49, i_50, i_51, i_52, i_53, i_54, i_55, i_56, i_57, i_58, i_59, i_60, i_61, i_62, i_63, i_64, i_65, i_66, i_67, i_68, i_69, i_70, i_72, i_77, i_78, i_80, i_81, i_82, i_83, i_84, i_87, i_88, i_96, i_98, i_100, i_101, i_103, i_118, i_119, i_126, i_133, i_137, i_144, i_154, i_158, i_160, i_190, i_199, i_200, i_207, i_209, i_213, i_229, i_252, i_254, i_255, i_260, i_282, i_303, i_304, i_321, i_348, i_435, i_492, i_522, i_1000, i_1023, i_1600, i_2903, iI_neg]
      refine ⟨fun hx => absurd hx (by omega), fun _ => s_X4_of (by omega) (by omega) ?_⟩
      simp (disch := omega) only [iI_add, iI_sub, iI_mul, iI_neg, iI_lt, iI_le, iI_eq, iI_cl, aI_at, aI_up, aI_l0, aI_l1, aI_l2, aI_l3]
      have tail : ∀ x : Int, (x = -1 ∨ (0 ≤ x ∧ x < f (4 + 6 * n + 0))) → stB f t r c n = (decide (x ≠ -1) && snS f n x t) → P_X4_seenAt_J46 (iI t) (aI li) (aI go) (P_X4_seenAt_L13 (iI t) (iI r) (iI c) (aI f) (aI li) (aI go) Q (n + 1)) (iI (frs (stB f t r c) m ((n : Int) + 1))) (iI n) (iI x) := by
        intro x hx he
        rw [he] at ih1
        unfold P_X4_seenAt_J46 P_X4_seenAt_J71 P_X4_seenAt_J73
        simp (disch := omega) only [iI_add, iI_sub, iI_mul, iI_neg, iI_lt, iI_le, iI_eq, iI_cl, aI_at, aI_up, aI_l0, aI_l1, aI_l2, aI_l3, i_m9, i_m1, i_0, i_1, i_2, i_3, i_4, i_5, i_6, i_7, i_8, i_9, i_10, i_11, i_12, i_13, i_14, i_15, i_16, i_17, i_18, i_19, i_20, i_21, i_22, i_23, i_24, i_25, i_26, i_27, i_28, i_29, i_30, i_31, i_32, i_33, i_34, i_35, i_36, i_37, i_38, i_39, i_40, i_41, i_42, i_43, i_44, i_45, i_46, i_47, i_48, i_49, i_50, i_51, i_52, i_53, i_54, i_55, i_56, i_57, i_58, i_59, i_60, i_61, i_62, i_63, i_64, i_65, i_66, i_67, i_68, i_69, i_70, i_72, i_77, i_78, i_80, i_81, i_82, i_83, i_84, i_87, i_88, i_96, i_98, i_100, i_101, i_103, i_118, i_119, i_126, i_133, i_137, i_144, i_154, i_158, i_160, i_190, i_199, i_200, i_207, i_209, i_213, i_229, i_252, i_254, i_255, i_260, i_282, i_303, i_304, i_321, i_348, i_435, i_492, i_522, i_1000, i_1023, i_1600, i_2903, iI_neg]
        rw [show (n : Int) + -1 = (n : Int) - 1 by omega]
        refine ⟨fun h3 => ?_, fun h3 => s_X4_isSeen (by omega) (by omega) (by omega) (by omega) t0 t1 (lw.1 x (by omega) (by omega)) lw.2.1 ?_⟩
        · rwa [decide_eq_false (p := x ≠ -1) (by omega), Bool.false_and, if_neg (by decide)] at ih1
        · rw [sn_S hl (by omega) (by omega) (by omega) (by omega)]
          rw [decide_eq_true (p := x ≠ -1) h3, Bool.true_and] at ih1
          refine br_b (fun h4 => ?_) (fun h4 => ?_)
          · rwa [if_neg (by rw [h4]; decide)] at ih1
          · rwa [if_pos h4] at ih1
      refine ⟨fun h3 => tail (-1) (Or.inl rfl) ?_, fun h3 => s_X4_letterAt hf (by omega) (by omega) (by omega) (by omega) (tail _ lta_rng ?_)⟩
      · unfold stB; rw [decide_eq_false h3]; rfl
      · unfold stB; rw [decide_eq_true h3]; rfl
  unfold P_X4_seenAt
  have := lp (f 2).toNat 0 (by omega)
  rw [show frs (stB f t r c) 0 ((f 2).toNat : Int) = -1 from rfl, show ((f 2).toNat : Int) - 1 = f 2 - 1 by omega] at this
  simp only [iI_add, iI_sub, iI_mul, iI_neg, iI_lt, iI_le, iI_eq, iI_cl, aI_at, aI_up, aI_l0, aI_l1, aI_l2, aI_l3, i_m9, i_m1, i_0, i_1, i_2, i_3, i_4, i_5, i_6, i_7, i_8, i_9, i_10, i_11, i_12, i_13, i_14, i_15, i_16, i_17, i_18, i_19, i_20, i_21, i_22, i_23, i_24, i_25, i_26, i_27, i_28, i_29, i_30, i_31, i_32, i_33, i_34, i_35, i_36, i_37, i_38, i_39, i_40, i_41, i_42, i_43, i_44, i_45, i_46, i_47, i_48, i_49, i_50, i_51, i_52, i_53, i_54, i_55, i_56, i_57, i_58, i_59, i_60, i_61, i_62, i_63, i_64, i_65, i_66, i_67, i_68, i_69, i_70, i_72, i_77, i_78, i_80, i_81, i_82, i_83, i_84, i_87, i_88, i_96, i_98, i_100, i_101, i_103, i_118, i_119, i_126, i_133, i_137, i_144, i_154, i_158, i_160, i_190, i_199, i_200, i_207, i_209, i_213, i_229, i_252, i_254, i_255, i_260, i_282, i_303, i_304, i_321, i_348, i_435, i_492, i_522, i_1000, i_1023, i_1600, i_2903, iI_neg]
  exact ⟨_, this⟩
/-- two words clash in one of the first n beats -/
def ecN (f : Int → Int) (w o : Int) : Nat → Bool
  | 0 => false
  | t + 1 => ecN f w o t || cl f w o t
theorem ecN_iff (f : Int → Int) (w o : Int) : ∀ n : Nat, ecN f w o n = true ↔ ∃ t : Int, 0 ≤ t ∧ t < n ∧ cl f w o t = true
  | 0 => by
    unfold ecN
    constructor
    · intro h; exact absurd h (by decide)
    · rintro ⟨t, h1, h2, -⟩; omega
  | n + 1 => by
    unfold ecN
    rw [Bool.or_eq_true, ecN_iff f w o n]
    constructor
    · rintro (⟨t, h1, h2, h3⟩ | h)
      · exact ⟨t, h1, by omega, h3⟩
      · exact ⟨n, by omega, by omega, h⟩
    · rintro ⟨t, h1, h2, h3⟩
      by_cases e : t = n
      · exact Or.inr (by rw [← e]; exact h3)
      · exact Or.inl ⟨t, h1, by omega, h3⟩
theorem ecN_stay {f : Int → Int} {w o : Int} {t n : Nat} (h : ecN f w o t = true) (hn : t ≤ n) : ecN f w o n = true := by
  rw [ecN_iff] at h ⊢
  obtain ⟨x, h1, h2, h3⟩ := h
  exact ⟨x, h1, by omega, h3⟩
theorem s_X4_everClash {mb w o : Int} {f li wh go : Int → Int} {Q : Int32 → Prop} (hf : OK mb f) (hl : Ld f (f 2) li wh go) (w0 : 0 ≤ w) (w1 : w < f 2) (o0 : 0 ≤ o) (o1 : o < f 2) (h : Q (iI (bi (ecN f w o 200)))) : P_X4_everClash (iI w) (iI o) (aI li) (aI go) (aI f) Q := by
  have lp : ∀ (m t : Nat), t + m = 200 → P_X4_everClash_L6 (iI w) (iI o) (aI li) (aI go) (aI f) Q (m + 1) (iI (bi (ecN f w o t))) (iI t) := by
    intro m
    induction m with
    | zero =>
      intro t ht
      rw [P_X4_everClash_L6_s]
      unfold B_X4_everClash_L6
      simp (disch := omega) only [iI_add, iI_sub, iI_mul, iI_neg, iI_lt, iI_le, iI_eq, iI_cl, aI_at, aI_up, aI_l0, aI_l1, aI_l2, aI_l3, i_m9, i_m1, i_0, i_1, i_2, i_3, i_4, i_5, i_6, i_7, i_8, i_9, i_10, i_11, i_12, i_13, i_14, i_15, i_16, i_17, i_18, i_19, i_20, i_21, i_22, i_23, i_24, i_25, i_26, i_27, i_28, i_29, i_30, i_31, i_32, i_33, i_34, i_35, i_36, i_37, i_38, i_39, i_40, i_41, i_42, i_43, i_44, i_45, i_46, i_47, i_48, i_49, i_50, i_51, i_52, i_53, i_54, i_55, i_56, i_57, i_58, i_59, i_60, i_61, i_62, i_63, i_64, i_65, i_66, i_67, i_68, i_69, i_70, i_72, i_77, i_78, i_80, i_81, i_82, i_83, i_84, i_87, i_88, i_96, i_98, i_100, i_101, i_103, i_118, i_119, i_126, i_133, i_137, i_144, i_154, i_158, i_160, i_190, i_199, i_200, i_207, i_209, i_213, i_229, i_252, i_254, i_255, i_260, i_282, i_303, i_304, i_321, i_348, i_435, i_492, i_522, i_1000, i_1023, i_1600, i_2903, iI_neg]
      refine ⟨fun _ => ⟨bi_nar _, ?_⟩, fun hx => absurd (by omega) hx⟩
      rwa [show 200 = t by omega] at h
    | succ m ih =>
      intro t ht
      have ih1 := ih (t + 1) (by omega)
      rw [nsucc, show ecN f w o (t + 1) = (ecN f w o t || cl f w o t) from rfl] at ih1
      rw [P_X4_everClash_L6_s]
      unfold B_X4_everClash_L6
      simp (disch := omega) only [iI_add, iI_sub, iI_mul, iI_neg, iI_lt, iI_le, iI_eq, iI_cl, aI_at, aI_up, aI_l0, aI_l1, aI_l2, aI_l3, i_m9, i_m1, i_0, i_1, i_2, i_3, i_4, i_5, i_6, i_7, i_8, i_9, i_10, i_11, i_12, i_13, i_14, i_15, i_16, i_17, i_18, i_19, i_20, i_21, i_22, i_23, i_24, i_25, i_26, i_27, i_28, i_29, i_30, i_31, i_32, i_33, i_34, i_35, i_36, i_37, i_38, i_39, i_40, i_41, i_42, i_43, i_44, i_45, i_46, i_47, i_48, i_49, i_50, i_51, i_52, i_53, i_54, i_55, i_56, i_57, i_58, i_59, i_60, i_61, i_62, i_63, i_64, i_65, i_66, i_67, i_68, i_69, i_70, i_72, i_77, i_78, i_80, i_81, i_82, i_83, i_84, i_87, i_88, i_96, i_98, i_100, i_101, i_103, i_118, i_119, i_126, i_133, i_137, i_144, i_154, i_158, i_160, i_190, i_199, i_200, i_207, i_209, i_213, i_229, i_252, i_254, i_255, i_260, i_282, i_303, i_304, i_321, i_348, i_435, i_492, i_522, i_1000, i_1023, i_1600, i_2903, iI_neg]
      refine ⟨fun hx => absurd hx (by omega), fun _ => br_b' (fun h3 => ?_) (fun h3 => ⟨bi_nar _, ?_⟩)⟩
      · refine s_X4_clash hf hl w0 w1 o0 o1 (by omega) (by omega) ?_
        rw [h3, Bool.false_or] at ih1
        exact ih1
      · rw [h3]
        rwa [ecN_stay h3 (by omega)] at h
  unfold P_X4_everClash
  exact ⟨_, lp 200 0 (by omega)⟩
def paO (f : Int → Int) (w : Int) (n : Nat) : Int := sm (fun o => bi (ecN f w o 200)) n
def paS (f : Int → Int) : Int := sm (fun w => paO f w w.toNat) (f 2).toNat
theorem s_X4_pairs {mb : Int} {f li wh go : Int → Int} {Q : Int32 → Prop} (hf : OK mb f) (hl : Ld f (f 2) li wh go) (h : Q (iI (paS f))) : P_X4_pairs (aI f) (aI li) (aI go) Q := by
  have h8 := hf.2.2.1
  have li_ : ∀ (w : Nat) (K : Int32 → Prop) (a : Int), (w : Int) < f 2 → K (iI (a + paO f w w)) → ∀ (m o : Nat), o + m = w → P_X4_pairs_L16 (iI w) (aI f) (aI li) (aI go) K (m + 1) (iI (a + paO f w o)) (iI o) := by
    intro w K a hw hK m
    induction m with
    | zero =>
      intro o ho
      rw [P_X4_pairs_L16_s]
      unfold B_X4_pairs_L16
      simp (disch := omega) only [iI_add, iI_sub, iI_mul, iI_neg, iI_lt, iI_le, iI_eq, iI_cl, aI_at, aI_up, aI_l0, aI_l1, aI_l2, aI_l3]
      refine ⟨fun _ => ?_, fun hx => absurd (by omega) hx⟩
      rwa [show o = w by omega]
    | succ m ih =>
      intro o ho
      have ih1 := ih (o + 1) (by omega)
      rw [nsucc, show paO f w (o + 1) = paO f w o + bi (ecN f w o 200) from rfl] at ih1
      rw [P_X4_pairs_L16_s]
      unfold B_X4_pairs_L16 P_X4_pairs_J40
      simp (disch := omega) only [iI_add, iI_sub, iI_mul, iI_neg, iI_lt, iI_le, iI_eq, iI_cl, aI_at, aI_up, aI_l0, aI_l1, aI_l2, aI_l3, i_m9, i_m1, i_0, i_1, i_2, i_3, i_4, i_5, i_6, i_7, i_8, i_9, i_10, i_11, i_12, i_13, i_14, i_15, i_16, i_17, i_18, i_19, i_20, i_21, i_22, i_23, i_24, i_25, i_26, i_27, i_28, i_29, i_30, i_31, i_32, i_33, i_34, i_35, i_36, i_37, i_38, i_39, i_40, i_41, i_42, i_43, i_44, i_45, i_46, i_47, i_48, i_49, i_50, i_51, i_52, i_53, i_54, i_55, i_56, i_57, i_58, i_59, i_60, i_61, i_62, i_63, i_64, i_65, i_66, i_67, i_68, i_69, i_70, i_72, i_77, i_78, i_80, i_81, i_82, i_83, i_84, i_87, i_88, i_96, i_98, i_100, i_101, i_103, i_118, i_119, i_126, i_133, i_137, i_144, i_154, i_158, i_160, i_190, i_199, i_200, i_207, i_209, i_213, i_229, i_252, i_254, i_255, i_260, i_282, i_303, i_304, i_321, i_348, i_435, i_492, i_522, i_1000, i_1023, i_1600, i_2903, iI_neg]
      refine ⟨fun hx => absurd hx (by omega), fun _ => s_X4_everClash hf hl (by omega) hw (by omega) (by omega) (br_b (fun h3 => ?_) (fun h3 => ?_))⟩
      · rw [bi_f h3] at ih1
        rwa [Int.add_assoc]
      · rw [bi_t h3] at ih1
        rwa [Int.add_assoc]
  have lp : ∀ (m w : Nat), (w : Int) + m = f 2 → P_X4_pairs_L4 (aI f) (aI li) (aI go) Q (m + 1) (iI (sm (fun w => paO f w w.toNat) w)) (iI w) := by
    intro m
    induction m with
    | zero =>
      intro w hw
      rw [P_X4_pairs_L4_s]
      unfold B_X4_pairs_L4
      simp (disch := omega) only [iI_add, iI_sub, iI_mul, iI_neg, iI_lt, iI_le, iI_eq, iI_cl, aI_at, aI_up, aI_l0, aI_l1, aI_l2, aI_l3]
      refine ⟨fun _ => ?_, fun hx => absurd (by omega) hx⟩
      unfold paS at h
      rwa [show (f 2).toNat = w by omega] at h
    | succ m ih =>
      intro w hw
      have ih1 := ih (w + 1) (by omega)
      rw [nsucc, sm_s] at ih1
      rw [P_X4_pairs_L4_s]
      unfold B_X4_pairs_L4
      simp (disch := omega) only [iI_add, iI_sub, iI_mul, iI_neg, iI_lt, iI_le, iI_eq, iI_cl, aI_at, aI_up, aI_l0, aI_l1, aI_l2, aI_l3, i_m9, i_m1, i_0, i_1, i_2, i_3, i_4, i_5, i_6, i_7, i_8, i_9, i_10, i_11, i_12, i_13, i_14, i_15, i_16, i_17, i_18, i_19, i_20, i_21, i_22, i_23, i_24, i_25, i_26, i_27, i_28, i_29, i_30, i_31, i_32, i_33, i_34, i_35, i_36, i_37, i_38, i_39, i_40, i_41, i_42, i_43, i_44, i_45, i_46, i_47, i_48, i_49, i_50, i_51, i_52, i_53, i_54, i_55, i_56, i_57, i_58, i_59, i_60, i_61, i_62, i_63, i_64, i_65, i_66, i_67, i_68, i_69, i_70, i_72, i_77, i_78, i_80, i_81, i_82, i_83, i_84, i_87, i_88, i_96, i_98, i_100, i_101, i_103, i_118, i_119, i_126, i_133, i_137, i_144, i_154, i_158, i_160, i_190, i_199, i_200, i_207, i_209, i_213, i_229, i_252, i_254, i_255, i_260, i_282, i_303, i_304, i_321, i_348, i_435, i_492, i_522, i_1000, i_1023, i_1600, i_2903, iI_neg]
      refine ⟨fun hx => absurd hx (by omega), fun _ => ⟨w + 1, ?_⟩⟩
      have := li_ w (fun x => P_X4_pairs_L4 (aI f) (aI li) (aI go) Q (m + 1) x (iI ((w : Int) + 1))) (sm (fun w => paO f w w.toNat) w) (by omega) (by rw [show ((w : Int)).toNat = w by omega] at ih1; exact ih1) w 0 (by omega)
      rw [show paO f (w : Int) 0 = 0 from rfl, Int.add_zero] at this
      exact this
  unfold P_X4_pairs
  exact ⟨_, lp (f 2).toNat 0 (by omega)⟩
def lwN (f : Int → Int) : Nat → Int
  | 0 => -1
  | w + 1 => if wlS f w ≤ lwN f w then lwN f w else wlS f w
theorem wl_rng {mb w : Int} {f : Int → Int} (hf : OK mb f) (w0 : 0 ≤ w) (w1 : w < f 2) : -1 ≤ wlS f w ∧ wlS f w < 200 := by
  have h := lsN_rng hf w0 w1 (f (4 + 6 * w + 0)).toNat
  have h3 := (hf.2.2.2.2.1 w w0 w1).2.2.2.1
  unfold wlS
  split <;> omega
theorem lwN_rng {mb : Int} {f : Int → Int} (hf : OK mb f) : ∀ n : Nat, (n : Int) ≤ f 2 → -1 ≤ lwN f n ∧ lwN f n < 200
  | 0, _ => by unfold lwN; omega
  | n + 1, hn => by
    have h1 := lwN_rng hf n (by omega)
    have h2 := wl_rng hf (w := n) (by omega) (by omega)
    unfold lwN
    split <;> omega
theorem s_X4_lastWhole {mb : Int} {f li wh go : Int → Int} {Q : Int32 → Prop} (hf : OK mb f) (hl : Ld f (f 2) li wh go) (h : Q (iI (lwN f (f 2).toNat))) : P_X4_lastWhole (aI f) (aI wh) Q := by
  have h8 := hf.2.2.1
  have lp : ∀ (m w : Nat), (w : Int) + m = f 2 → P_X4_lastWhole_L4 (aI f) (aI wh) Q (m + 1) (iI (lwN f w)) (iI w) := by
    intro m
    induction m with
    | zero =>
      intro w hw
      rw [P_X4_lastWhole_L4_s]
      unfold B_X4_lastWhole_L4
      simp (disch := omega) only [iI_add, iI_sub, iI_mul, iI_neg, iI_lt, iI_le, iI_eq, iI_cl, aI_at, aI_up, aI_l0, aI_l1, aI_l2, aI_l3]
      refine ⟨fun _ => ?_, fun hx => absurd (by omega) hx⟩
      rwa [show (f 2).toNat = w by omega] at h
    | succ m ih =>
      intro w hw
      have ih1 := ih (w + 1) (by omega)
      have e := (hl w (by omega) (by omega)).2.1
      have hr := wl_rng hf (w := w) (by omega) (by omega)
      have hr2 := lwN_rng hf w (by omega)
      rw [nsucc, show lwN f (w + 1) = (if wlS f w ≤ lwN f w then lwN f w else wlS f w) from rfl, ← e] at ih1
      rw [← e] at hr
      rw [P_X4_lastWhole_L4_s]
      unfold B_X4_lastWhole_L4 P_X4_lastWhole_J34
      simp (disch := omega) only [iI_add, iI_sub, iI_mul, iI_neg, iI_lt, iI_le, iI_eq, iI_cl, aI_at, aI_up, aI_l0, aI_l1, aI_l2, aI_l3, i_m9, i_m1, i_0, i_1, i_2, i_3, i_4, i_5, i_6, i_7, i_8, i_9, i_10, i_11, i_12, i_13, i_14, i_15, i_16, i_17, i_18, i_19, i_20, i_21, i_22, i_23, i_24, i_25, i_26, i_27, i_28, i_29, i_30, i_31, i_32, i_33, i_34, i_35, i_36, i_37, i_38, i_39, i_40, i_41, i_42, i_43, i_44, i_45, i_46, i_47, i_48, i_49, i_50, i_51, i_52, i_53, i_54, i_55, i_56, i_57, i_58, i_59, i_60, i_61, i_62, i_63, i_64, i_65, i_66, i_67, i_68, i_69, i_70, i_72, i_77, i_78, i_80, i_81, i_82, i_83, i_84, i_87, i_88, i_96, i_98, i_100, i_101, i_103, i_118, i_119, i_126, i_133, i_137, i_144, i_154, i_158, i_160, i_190, i_199, i_200, i_207, i_209, i_213, i_229, i_252, i_254, i_255, i_260, i_282, i_303, i_304, i_321, i_348, i_435, i_492, i_522, i_1000, i_1023, i_1600, i_2903, iI_neg]
      refine ⟨fun hx => absurd hx (by omega), fun _ => ⟨iI_in (by omega) (by omega) (by omega), fun h3 => ?_, fun h3 => ⟨iI_in (by omega) (by omega) (by omega), ?_⟩⟩⟩
      · rwa [if_pos h3] at ih1
      · rwa [if_neg h3] at ih1
  unfold P_X4_lastWhole
  exact ⟨_, lp (f 2).toNat 0 (by omega)⟩
def dkS (f : Int → Int) : Int := sm (fun t => bi (decide (in1 f t = 0))) 200
theorem s_X4_dark {mb : Int} {f li wh go : Int → Int} {Q : Int32 → Prop} (hf : OK mb f) (hmb : mb ≤ 7) (hl : Ld f (f 2) li wh go) (h : Q (iI (dkS f))) : P_X4_dark (aI f) (aI li) (aI wh) (aI go) Q := by
  have lp : ∀ (m t : Nat), t + m = 200 → P_X4_dark_L4 (aI f) (aI li) (aI wh) (aI go) Q (m + 1) (iI (sm (fun t => bi (decide (in1 f t = 0))) t)) (iI t) := by
    intro m
    induction m with
    | zero =>
      intro t ht
      rw [P_X4_dark_L4_s]
      unfold B_X4_dark_L4
      simp (disch := omega) only [iI_add, iI_sub, iI_mul, iI_neg, iI_lt, iI_le, iI_eq, iI_cl, aI_at, aI_up, aI_l0, aI_l1, aI_l2, aI_l3, i_m9, i_m1, i_0, i_1, i_2, i_3, i_4, i_5, i_6, i_7, i_8, i_9, i_10, i_11, i_12, i_13, i_14, i_15, i_16, i_17, i_18, i_19, i_20, i_21, i_22, i_23, i_24, i_25, i_26, i_27, i_28, i_29, i_30, i_31, i_32, i_33, i_34, i_35, i_36, i_37, i_38, i_39, i_40, i_41, i_42, i_43, i_44, i_45, i_46, i_47, i_48, i_49, i_50, i_51, i_52, i_53, i_54, i_55, i_56, i_57, i_58, i_59, i_60, i_61, i_62, i_63, i_64, i_65, i_66, i_67, i_68, i_69, i_70, i_72, i_77, i_78, i_80, i_81, i_82, i_83, i_84, i_87, i_88, i_96, i_98, i_100, i_101, i_103, i_118, i_119, i_126, i_133, i_137, i_144, i_154, i_158, i_160, i_190, i_199, i_200, i_207, i_209, i_213, i_229, i_252, i_254, i_255, i_260, i_282, i_303, i_304, i_321, i_348, i_435, i_492, i_522, i_1000, i_1023, i_1600, i_2903, iI_neg]
      refine ⟨fun _ => ?_, fun hx => absurd (by omega) hx⟩
      unfold dkS at h
      rwa [show 200 = t by omega] at h
    | succ m ih =>
      intro t ht
      have ih1 := ih (t + 1) (by omega)
      rw [nsucc, sm_s] at ih1
      have hr := in1_rng hf (t : Int)
      rw [P_X4_dark_L4_s]
      unfold B_X4_dark_L4 P_X4_dark_J26
      simp (disch := omega) only [iI_add, iI_sub, iI_mul, iI_neg, iI_lt, iI_le, iI_eq, iI_cl, aI_at, aI_up, aI_l0, aI_l1, aI_l2, aI_l3, i_m9, i_m1, i_0, i_1, i_2, i_3, i_4, i_5, i_6, i_7, i_8, i_9, i_10, i_11, i_12, i_13, i_14, i_15, i_16, i_17, i_18, i_19, i_20, i_21, i_22, i_23, i_24, i_25, i_26, i_27, i_28, i_29, i_30, i_31, i_32, i_33, i_34, i_35, i_36, i_37, i_38, i_39, i_40, i_41, i_42, i_43, i_44, i_45, i_46, i_47, i_48, i_49, i_50, i_51, i_52, i_53, i_54, i_55, i_56, i_57, i_58, i_59, i_60, i_61, i_62, i_63, i_64, i_65, i_66, i_67, i_68, i_69, i_70, i_72, i_77, i_78, i_80, i_81, i_82, i_83, i_84, i_87, i_88, i_96, i_98, i_100, i_101, i_103, i_118, i_119, i_126, i_133, i_137, i_144, i_154, i_158, i_160, i_190, i_199, i_200, i_207, i_209, i_213, i_229, i_252, i_254, i_255, i_260, i_282, i_303, i_304, i_321, i_348, i_435, i_492, i_522, i_1000, i_1023, i_1600, i_2903, iI_neg]
      refine ⟨fun hx => absurd hx (by omega), fun _ => s_X4_inBeat hf hmb hl (by omega) (by omega) (by omega) (by omega) ?_⟩
      rw [inS_1]
      simp (disch := omega) only [iI_add, iI_sub, iI_mul, iI_neg, iI_lt, iI_le, iI_eq, iI_cl, aI_at, aI_up, aI_l0, aI_l1, aI_l2, aI_l3]
      refine ⟨fun h3 => ?_, fun h3 => ?_⟩
      · rwa [bi_f (decide_eq_false h3)] at ih1
      · rwa [bi_t (decide_eq_true h3)] at ih1
  unfold P_X4_dark
  exact ⟨_, lp 200 0 (by omega)⟩
/-- a number of the state; kp: the saved states -/
def coS (f : Int → Int) (kp i : Int) : Int := if i = 0 then f 2 else if i = 1 then f 3 else if i = 2 then letS f else if i = 3 then alS f else if i = 4 then whS f else if i = 5 then lwN f (f 2).toNat else if i = 6 then dkS f else if i = 7 then cgS f else if i = 8 then paS f else kp
theorem s_X4_counted {mb i kp : Int} {f li wh go : Int → Int} {Q : Int32 → Prop} (hf : OK mb f) (hmb : mb ≤ 7) (hl : Ld f (f 2) li wh go) (i0 : 0 ≤ i) (i1 : i ≤ 9) (h : Q (iI (coS f kp i))) : P_X4_counted (iI i) (aI f) (iI kp) (aI li) (aI wh) (aI go) Q := by
  unfold coS at h
  unfold P_X4_counted
  simp (disch := omega) only [iI_add, iI_sub, iI_mul, iI_neg, iI_lt, iI_le, iI_eq, iI_cl, aI_at, aI_up, aI_l0, aI_l1, aI_l2, aI_l3, i_m9, i_m1, i_0, i_1, i_2, i_3, i_4, i_5, i_6, i_7, i_8, i_9, i_10, i_11, i_12, i_13, i_14, i_15, i_16, i_17, i_18, i_19, i_20, i_21, i_22, i_23, i_24, i_25, i_26, i_27, i_28, i_29, i_30, i_31, i_32, i_33, i_34, i_35, i_36, i_37, i_38, i_39, i_40, i_41, i_42, i_43, i_44, i_45, i_46, i_47, i_48, i_49, i_50, i_51, i_52, i_53, i_54, i_55, i_56, i_57, i_58, i_59, i_60, i_61, i_62, i_63, i_64, i_65, i_66, i_67, i_68, i_69, i_70, i_72, i_77, i_78, i_80, i_81, i_82, i_83, i_84, i_87, i_88, i_96, i_98, i_100, i_101, i_103, i_118, i_119, i_126, i_133, i_137, i_144, i_154, i_158, i_160, i_190, i_199, i_200, i_207, i_209, i_213, i_229, i_252, i_254, i_255, i_260, i_282, i_303, i_304, i_321, i_348, i_435, i_492, i_522, i_1000, i_1023, i_1600, i_2903, iI_neg]
  refine ⟨fun e => ⟨iI_in (by omega) (by omega) (by omega), ?_⟩, fun e => ⟨iI_in (by omega) (by omega) (by omega), ?_⟩, fun e => ?_, fun e => ?_, fun e => ?_, fun e => ?_, fun e => ?_, fun e => ?_, fun e => ?_, fun e0 e1 e2 e3 e4 e5 e6 e7 e8 => ?_⟩
  · subst e; exact h
  · subst e; exact h
  · subst e; exact s_X4_letters hf h
  · subst e; exact s_X4_allLit hf hl h
  · subst e; exact s_X4_wholes hf hl h
  · subst e; exact s_X4_lastWhole hf hl h
  · subst e; exact s_X4_dark hf hmb hl h
  · subst e; exact s_X4_clashing hf hl h
  · subst e; exact s_X4_pairs hf hl h
  · rwa [if_neg e0, if_neg e1, if_neg e2, if_neg e3, if_neg e4, if_neg e5, if_neg e6, if_neg e7, if_neg e8] at h
