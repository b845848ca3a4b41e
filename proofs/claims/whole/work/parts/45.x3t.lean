/-- one walk for all readers that stand alike -/
def SimR (s z : Rd) : Prop := (rO s = 0 ∧ rO z = 0) ∨ (rO s = 1 ∧ rO z = 1 ∧ rK z = rK s ∧ rP z = rP s ∧ rV z = rV s ∧ rM z = rM s ∧ KP (rK s) (rP s) ∧ ∀ i : Int, 0 ≤ i → i < rP s → rN z i = rN s i)
theorem fd_sim {c : Int} {s z : Rd} (h : SimR s z) : (fd c z).1 = (fd c s).1 ∧ ((fd c s).1 ≠ 0 → SimR (fd c s).2 (fd c z).2) ∧ ((fd c s).1 = 2 → od (fd c z).2 = od (fd c s).2) := by
  obtain ⟨k, o, p, v, m, N⟩ := s
  obtain ⟨k2, o2, p2, v2, m2, N2⟩ := z
  have h' : (o = 0 ∧ o2 = 0) ∨ (o = 1 ∧ o2 = 1 ∧ k2 = k ∧ p2 = p ∧ v2 = v ∧ m2 = m ∧ KP k p ∧ ∀ i : Int, 0 ≤ i → i < p → N2 i = N i) := h
  rw [fd_x, fd_x]
  unfold fdX
  rcases h' with ⟨rfl, rfl⟩ | ⟨rfl, rfl, rfl, rfl, rfl, rfl, hk, hN⟩
  · rw [if_pos rfl, if_pos rfl]
    by_cases e : c = 119 ∨ c = 98
    · rw [if_pos e, if_pos e]
      refine ⟨rfl, fun _ => Or.inr ⟨rfl, rfl, rfl, rfl, rfl, rfl, ?_, fun i i0 i1 => ?_⟩, fun hx => absurd hx (by show ¬ (1 : Int) = 2; omega)⟩
      · show KP c 0; unfold KP; omega
      · have : i < 0 := i1
        omega
    · rw [if_neg e, if_neg e]
      exact ⟨rfl, fun hx => absurd rfl hx, fun hx => absurd hx (by show ¬ (0 : Int) = 2; omega)⟩
  · rw [if_neg (show ¬ (1 : Int) = 0 by omega), if_neg (show ¬ (1 : Int) = 0 by omega)]
    by_cases e : 48 ≤ c ∧ c ≤ 57
    · rw [if_pos e, if_pos e]
      by_cases e2 : v2 ≠ 0 ∧ leR k2 p2 ≤ diR c v2 ∧ diR c v2 ≤ moR k2 p2
      · rw [if_pos e2, if_pos e2]
        exact ⟨rfl, fun _ => Or.inr ⟨rfl, rfl, rfl, rfl, rfl, rfl, hk, hN⟩, fun hx => absurd hx (by show ¬ (1 : Int) = 2; omega)⟩
      · rw [if_neg e2, if_neg e2]
        exact ⟨rfl, fun hx => absurd rfl hx, fun hx => absurd hx (by show ¬ (0 : Int) = 2; omega)⟩
    · rw [if_neg e, if_neg e]
      by_cases e3 : c = 45
      · rw [if_pos e3, if_pos e3]
        by_cases e4 : k2 = 98 ∧ p2 = 2 ∧ m2 = 0 ∧ v2 = -1
        · rw [if_pos e4, if_pos e4]
          exact ⟨rfl, fun _ => Or.inr ⟨rfl, rfl, rfl, rfl, rfl, rfl, hk, hN⟩, fun hx => absurd hx (by show ¬ (1 : Int) = 2; omega)⟩
        · rw [if_neg e4, if_neg e4]
          exact ⟨rfl, fun hx => absurd rfl hx, fun hx => absurd hx (by show ¬ (0 : Int) = 2; omega)⟩
      · rw [if_neg e3, if_neg e3]
        by_cases e4 : v2 ≠ -1 ∧ c = enR k2 p2
        · rw [if_pos e4, if_pos e4]
          by_cases e5 : enR k2 p2 = 59
          · rw [if_pos e5, if_pos e5]
            refine ⟨rfl, fun _ => Or.inl ⟨rfl, rfl⟩, fun _ => ?_⟩
            have hl := enR_last hk e5
            have q : ∀ i : Int, 0 ≤ i → i ≤ p2 → up N2 p2 (if m2 = 0 then v2 else -v2) i = up N p2 (if m2 = 0 then v2 else -v2) i := fun i i0 i1 => by
              by_cases ei : i = p2
              · rw [ei, up_eq, up_eq]
              · rw [up_ne ei, up_ne ei]; exact hN i i0 (by omega)
            show (k2, up N2 p2 _ 0, up N2 p2 _ 1, up N2 p2 _ 2, if k2 = 119 then up N2 p2 _ 3 else 0) = (k2, up N p2 _ 0, up N p2 _ 1, up N p2 _ 2, if k2 = 119 then up N p2 _ 3 else 0)
            rw [q 0 (by omega) (by omega), q 1 (by omega) (by omega), q 2 (by omega) (by omega)]
            by_cases e6 : k2 = 119
            · rw [if_pos e6, if_pos e6, q 3 (by omega) (by omega)]
            · rw [if_neg e6, if_neg e6]
          · rw [if_neg e5, if_neg e5]
            refine ⟨rfl, fun _ => Or.inr ⟨rfl, rfl, rfl, rfl, rfl, rfl, enR_more hk e5, fun i i0 i1 => ?_⟩, fun hx => absurd hx (by show ¬ (1 : Int) = 2; omega)⟩
            have i2 : i < p2 + 1 := i1
            show up N2 p2 _ i = up N p2 _ i
            by_cases ei : i = p2
            · rw [ei, up_eq, up_eq]
            · rw [up_ne ei, up_ne ei]; exact hN i i0 (by omega)
        · rw [if_neg e4, if_neg e4]
          exact ⟨rfl, fun hx => absurd rfl hx, fun hx => absurd hx (by show ¬ (0 : Int) = 2; omega)⟩
theorem wk_sim (C : Int → Int) : ∀ (m : Nat) (a : Int) (s z : Rd), SimR s z → wk C m a z = wk C m a s
  | 0, _, _, _, _ => rfl
  | m + 1, a, s, z, h => by
    obtain ⟨h1, h2, h3⟩ := fd_sim (c := C a) h
    unfold wk
    rw [h1]
    by_cases e : (fd (C a) s).1 = 0
    · rw [if_pos e, if_pos e]
    · rw [if_neg e, if_neg e, wk_sim C m (a + 1) _ _ (h2 e)]
      by_cases e2 : (fd (C a) s).1 = 2
      · rw [if_pos e2, if_pos e2, h3 e2]
      · rw [if_neg e2, if_neg e2]
theorem WK_0 {T : Int → Int} {n : Int} {s z : Rd} (h1 : rO s = 0) (h2 : rO z = 0) : WK T n 0 z = WK T n 0 s := wk_sim _ _ _ _ _ (Or.inl ⟨h1, h2⟩)
/-- the reader, with its numbers within bounds -/
def RB (s : Rd) : Prop := RV s ∧ ∀ i : Int, I32 (rN s i)
theorem fd_RB {c : Int} {s : Rd} (h : RB s) (c0 : 33 ≤ c) (c1 : c ≤ 126) : RB (fd c s).2 := by
  refine ⟨fd_RV h.1 c0 c1, ?_⟩
  obtain ⟨k, o, p, v, m, N⟩ := s
  have hN : ∀ i : Int, I32 (N i) := h.2
  have hr : o = 0 ∨ (o = 1 ∧ KP k p ∧ (-1 ≤ v ∧ v ≤ 199) ∧ (m = 0 ∨ m = 1)) := h.1
  rw [fd_x]
  unfold fdX
  rcases hr with rfl | ⟨rfl, hk, hv, hm⟩
  · rw [if_pos rfl]
    split <;> exact hN
  · have hu : ∀ w : Int, -200 ≤ w → w ≤ 200 → ∀ i : Int, I32 (up N p w i) := fun w w0 w1 i => by
      unfold up
      split
      · unfold I32; omega
      · exact hN i
    rw [if_neg (by decide)]
    repeat' split
    all_goals first | exact hN | exact hu _ (by omega) (by omega)
theorem fd_k2 {c : Int} {s : Rd} (h : RV s) (e : (fd c s).1 = 2) : rK (fd c s).2 = 119 ∨ rK (fd c s).2 = 98 := by
  obtain ⟨k, o, p, v, m, N⟩ := s
  have hr : o = 0 ∨ (o = 1 ∧ KP k p ∧ (-1 ≤ v ∧ v ≤ 199) ∧ (m = 0 ∨ m = 1)) := h
  rw [fd_x] at e ⊢
  unfold fdX at e ⊢
  rcases hr with rfl | ⟨rfl, hk, hv, hm⟩
  · rw [if_pos rfl] at e
    split at e
    · exact absurd e (by show ¬ (1 : Int) = 2; omega)
    · exact absurd e (by show ¬ (0 : Int) = 2; omega)
  · have hk2 : k = 119 ∨ k = 98 := by unfold KP at hk; omega
    rw [if_neg (by decide)]
    repeat' split
    all_goals exact hk2
theorem s_X3_codeAt {T : Int → Int} {n i : Int} {Q : Int32 → Prop} (ht : TX T n) (i0 : 0 ≤ i) (i1 : i ≤ 60) (h : Q (iI (ch T n i))) : P_X3_codeAt (iI i) (aI T) (iI n) Q := by
  have hn := ht.1
  unfold P_X3_codeAt
  simp (disch := omega) only [iI_add, iI_sub, iI_mul, iI_neg, iI_lt, iI_le, iI_eq, iI_cl, aI_at, aI_up, aI_l0, aI_l1, aI_l2, aI_l3, i_m9, i_m1, i_0, i_1, i_2, i_3, i_4, i_5, i_6, i_7, i_8, i_9, i_10, i_11, i_12, i_13, i_14, i_15, i_16, i_17, i_18, i_19, i_20, i_21, i_22, i_23, i_24, i_25, i_26, i_27, i_28, i_29, i_30, i_31, i_32, i_33, i_34, i_35, i_36, i_37, i_38, i_39, i_40, i_41, i_42, i_43, i_44, i_45, i_46, i_47, i_48, i_49, i_50, i_51, i_52, i_53, i_54, i_55, i_56, i_57, i_58, i_59, i_60, i_61, i_62, i_63, i_64, i_65, i_66, i_67, i_68, i_69, i_70, i_72, i_77, i_78, i_80, i_81, i_82, i_83, i_84, i_87, i_88, i_96, i_98, i_100, i_101, i_103, i_118, i_119, i_126, i_133, i_137, i_144, i_154, i_158, i_160, i_190, i_199, i_200, i_207, i_209, i_213, i_229, i_252, i_254, i_255, i_260, i_282, i_303, i_304, i_321, i_348, i_435, i_492, i_522, i_1000, i_1023, i_1600, i_2903, iI_neg]
  refine ⟨fun hx => absurd hx (by omega), fun _ => ⟨fun e => ?_, fun e => ⟨fun e2 => absurd e2 (by omega), fun _ => ⟨iI_in (by omega) (by omega) (by omega), ?_⟩⟩⟩⟩
  · rw [ch_end e] at h; exact h
  · rw [ch_in (by omega)] at h; exact h
def st0 (s : Rd) : Rd := (rK s, 0, rP s, rV s, rM s, rN s)
theorem st0_RB {s : Rd} (h : RB s) : RB (st0 s) := ⟨Or.inl rfl, h.2⟩
theorem s_X3_firstError {T : Int → Int} {n : Int} {s : Rd} {Q : Int32 → (Nat → Int32) → Int32 → Int32 → Int32 → Int32 → Int32 → Prop} (ht : TX T n) (hs : RB s)
    (h : ∀ z : Rd, RB z → (fe T n (st0 s) = n → (WK T n 0 (st0 s)).1 = (WK T n n z).1) → Q (iI (fe T n (st0 s))) (aI (rN z)) (iI (rK z)) (iI (rO z)) (iI (rP z)) (iI (rV z)) (iI (rM z))) :
    P_X3_firstError (aI (rN s)) (iI (rK s)) (iI (rO s)) (iI (rP s)) (iI (rV s)) (iI (rM s)) (aI T) (iI n) Q := by
  have hn := ht.1
  have lp : ∀ (m b : Nat), (b : Int) + m = n → ∀ z : Rd, RB z → (WK T n 0 (st0 s)).1 = (WK T n b z).1 → P_X3_firstError_L9 (aI T) (iI n) Q (m + 1) (iI b) (aI (rN z)) (iI (rK z)) (iI (rO z)) (iI (rP z)) (iI (rV z)) (iI (rM z)) := by
    intro m
    induction m with
    | zero =>
      intro b hb z hz hw
      rw [P_X3_firstError_L9_s]
      unfold B_X3_firstError_L9
      simp (disch := omega) only [iI_le]
      refine ⟨fun _ => ?_, fun hx => absurd (by omega) hx⟩
      rw [show (b : Int) = n by omega] at hw
      have hr := WK_rng (T := T) (n := n) 1 n z (by omega)
      have hf : fe T n (st0 s) = n := by
        unfold fe
        split <;> omega
      have := h z hz (fun _ => hw)
      rw [hf] at this
      exact this
    | succ m ih =>
      intro b hb z hz hw
      have ih1 := ih (b + 1) (by omega)
      rw [nsucc] at ih1
      have hc := ch_rng (i := b) ht (by omega)
      have h01 := fd_012 (ch T n b) z
      rw [P_X3_firstError_L9_s]
      unfold B_X3_firstError_L9
      simp (disch := omega) only [iI_le, iI_add, i_m9, i_m1, i_0, i_1, i_2, i_3, i_4, i_5, i_6, i_7, i_8, i_9, i_10, i_11, i_12, i_13, i_14, i_15, i_16, i_17, i_18, i_19, i_20, i_21, i_22, i_23, i_24, i_25, i_26, i_27, i_28, i_29, i_30, i_31, i_32, i_33, i_34, i_35, i_36, i_37, i_38, i_39, i_40, i_41, i_42, i_43, i_44, i_45, i_46, i_47, i_48, i_49, i_50, i_51, i_52, i_53, i_54, i_55, i_56, i_57, i_58, i_59, i_60, i_61, i_62, i_63, i_64, i_65, i_66, i_67, i_68, i_69, i_70, i_72, i_77, i_78, i_80, i_81, i_82, i_83, i_84, i_87, i_88, i_96, i_98, i_100, i_101, i_103, i_118, i_119, i_126, i_133, i_137, i_144, i_154, i_158, i_160, i_190, i_199, i_200, i_207, i_209, i_213, i_229, i_252, i_254, i_255, i_260, i_282, i_303, i_304, i_321, i_348, i_435, i_492, i_522, i_1000, i_1023, i_1600, i_2903, iI_neg]
      refine ⟨fun hx => absurd hx (by omega), fun _ => s_X3_codeAt ht (by omega) (by omega) (s_X1_feed hz.1 hc.1 hc.2 ?_)⟩
      rw [iI_eq (by omega) (by omega) (by omega) (by omega)]
      refine ⟨fun e => ih1 _ (fd_RB hz hc.1 hc.2) ?_, fun e => ?_⟩
      · rw [hw, WK_s (by omega), if_neg e]
        split <;> rfl
      · rw [WK_err (by omega) e] at hw
        have hw2 : (WK T n 0 (st0 s)).1 = b := hw
        have hf : fe T n (st0 s) = b := by
          unfold fe
          rw [if_pos (by omega), hw2]
        have := h _ (fd_RB hz hc.1 hc.2) (fun hx => absurd hx (by omega))
        rw [hf] at this
        exact this
  unfold P_X3_firstError P_X1_start
  simp only [i_m9, i_m1, i_0, i_1, i_2, i_3, i_4, i_5, i_6, i_7, i_8, i_9, i_10, i_11, i_12, i_13, i_14, i_15, i_16, i_17, i_18, i_19, i_20, i_21, i_22, i_23, i_24, i_25, i_26, i_27, i_28, i_29, i_30, i_31, i_32, i_33, i_34, i_35, i_36, i_37, i_38, i_39, i_40, i_41, i_42, i_43, i_44, i_45, i_46, i_47, i_48, i_49, i_50, i_51, i_52, i_53, i_54, i_55, i_56, i_57, i_58, i_59, i_60, i_61, i_62, i_63, i_64, i_65, i_66, i_67, i_68, i_69, i_70, i_72, i_77, i_78, i_80, i_81, i_82, i_83, i_84, i_87, i_88, i_96, i_98, i_100, i_101, i_103, i_118, i_119, i_126, i_133, i_137, i_144, i_154, i_158, i_160, i_190, i_199, i_200, i_207, i_209, i_213, i_229, i_252, i_254, i_255, i_260, i_282, i_303, i_304, i_321, i_348, i_435, i_492, i_522, i_1000, i_1023, i_1600, i_2903, iI_neg]
  exact ⟨_, lp n.toNat 0 (by omega) (st0 s) (st0_RB hs) rfl⟩
theorem s_X3_tellsCredits {T : Int → Int} {n : Int} {s : Rd} {Q : Int32 → (Nat → Int32) → Int32 → Int32 → Int32 → Int32 → Int32 → Prop} (ht : TX T n) (hs : RB s)
    (h1 : (WK T n 0 (st0 s)).1 = n + 1 → ∀ z : Rd, RB z → Q (iI 1) (aI (rN z)) (iI (rK z)) (iI (rO z)) (iI (rP z)) (iI (rV z)) (iI (rM z)))
    (h0 : (WK T n 0 (st0 s)).1 ≤ n → ∀ z : Rd, RB z → Q (iI 0) (aI (rN z)) (iI (rK z)) (iI (rO z)) (iI (rP z)) (iI (rV z)) (iI (rM z))) :
    P_X3_tellsCredits (aI (rN s)) (iI (rK s)) (iI (rO s)) (iI (rP s)) (iI (rV s)) (iI (rM s)) (aI T) (iI n) Q := by
  have hn := ht.1
  have hr := WK_rng (T := T) (n := n) (n + 1).toNat 0 (st0 s) (by omega)
  unfold P_X3_tellsCredits
  simp only [i_m9, i_m1, i_0, i_1, i_2, i_3, i_4, i_5, i_6, i_7, i_8, i_9, i_10, i_11, i_12, i_13, i_14, i_15, i_16, i_17, i_18, i_19, i_20, i_21, i_22, i_23, i_24, i_25, i_26, i_27, i_28, i_29, i_30, i_31, i_32, i_33, i_34, i_35, i_36, i_37, i_38, i_39, i_40, i_41, i_42, i_43, i_44, i_45, i_46, i_47, i_48, i_49, i_50, i_51, i_52, i_53, i_54, i_55, i_56, i_57, i_58, i_59, i_60, i_61, i_62, i_63, i_64, i_65, i_66, i_67, i_68, i_69, i_70, i_72, i_77, i_78, i_80, i_81, i_82, i_83, i_84, i_87, i_88, i_96, i_98, i_100, i_101, i_103, i_118, i_119, i_126, i_133, i_137, i_144, i_154, i_158, i_160, i_190, i_199, i_200, i_207, i_209, i_213, i_229, i_252, i_254, i_255, i_260, i_282, i_303, i_304, i_321, i_348, i_435, i_492, i_522, i_1000, i_1023, i_1600, i_2903, iI_neg]
  refine s_X3_firstError ht hs (fun z hz hw => ?_)
  have hf : 0 ≤ fe T n (st0 s) ∧ fe T n (st0 s) ≤ n := by unfold fe; split <;> omega
  rw [iI_eq (by omega) (by omega) (by omega) (by omega)]
  refine ⟨fun e => h0 ?_ z hz, fun e => s_X1_feed hz.1 (by omega) (by omega) ?_⟩
  · unfold fe at e
    split at e <;> omega
  · have hw2 := hw e
    have h59 := fd_59 z
    have e0 : ch T n n = 59 := ch_end (by omega)
    rw [WK_s (a := n) (s := z) (by omega), e0] at hw2
    rw [iI_eq (by omega) (by omega) (by omega) (by omega)]
    refine ⟨fun e2 => h0 ?_ _ (fd_RB hz (by omega) (by omega)), fun e2 => h1 ?_ _ (fd_RB hz (by omega) (by omega))⟩
    · rw [if_pos (by omega)] at hw2
      have : (WK T n 0 (st0 s)).1 = n := hw2
      omega
    · rw [if_neg (by omega), if_pos e2] at hw2
      have : (WK T n 0 (st0 s)).1 = (WK T n (n + 1) (fd 59 z).2).1 := hw2
      rw [this, WK_end]
theorem s_X1_number {N : Int → Int} {i : Int} {Q : Int32 → Prop} (i0 : 0 ≤ i) (i1 : i ≤ 3) (h : Q (iI (N i))) : P_X1_number (iI i) (aI N) Q := by
  unfold P_X1_number
  simp (disch := omega) only [iI_add, iI_sub, iI_mul, iI_neg, iI_lt, iI_le, iI_eq, iI_cl, aI_at, aI_up, aI_l0, aI_l1, aI_l2, aI_l3, i_m9, i_m1, i_0, i_1, i_2, i_3, i_4, i_5, i_6, i_7, i_8, i_9, i_10, i_11, i_12, i_13, i_14, i_15, i_16, i_17, i_18, i_19, i_20, i_21, i_22, i_23, i_24, i_25, i_26, i_27, i_28, i_29, i_30, i_31, i_32, i_33, i_34, i_35, i_36, i_37, i_38, i_39, i_40, i_41, i_42, i_43, i_44, i_45, i_46, i_47, i_48, i_49, i_50, i_51, i_52, i_53, i_54, i_55, i_56, i_57, i_58, i_59, i_60, i_61, i_62, i_63, i_64, i_65, i_66, i_67, i_68, i_69, i_70, i_72, i_77, i_78, i_80, i_81, i_82, i_83, i_84, i_87, i_88, i_96, i_98, i_100, i_101, i_103, i_118, i_119, i_126, i_133, i_137, i_144, i_154, i_158, i_160, i_190, i_199, i_200, i_207, i_209, i_213, i_229, i_252, i_254, i_255, i_260, i_282, i_303, i_304, i_321, i_348, i_435, i_492, i_522, i_1000, i_1023, i_1600, i_2903, iI_neg]
  exact ⟨fun hx => absurd hx (by omega), fun _ => ⟨fun hx => absurd hx (by omega), fun _ => ⟨iI_in (by omega) (by omega) (by omega), h⟩⟩⟩
theorem s_X3_doOrder {c f : Int → Int} {s : Rd} {Q : Int32 → (Nat → Int32) → Prop} (hA : Ag c f) (hf : OK 6 f) (hs : RB s) (hk : rK s = 119 ∨ rK s = 98)
    (h1 : oT f (od s) = 0 → ∀ c2, Ag c2 (oF f (od s)) → Q (iI 1) (aI c2)) (h0 : oT f (od s) ≠ 0 → Q (iI 0) (aI c)) : P_X3_doOrder (aI c) (aI (rN s)) (iI (rK s)) Q := by
  have n2 := hf.2.2.1
  have n3 := hf.2.2.2.1
  have hN := hs.2
  unfold P_X3_doOrder
  simp only [i_m9, i_m1, i_0, i_1, i_2, i_3, i_4, i_5, i_6, i_7, i_8, i_9, i_10, i_11, i_12, i_13, i_14, i_15, i_16, i_17, i_18, i_19, i_20, i_21, i_22, i_23, i_24, i_25, i_26, i_27, i_28, i_29, i_30, i_31, i_32, i_33, i_34, i_35, i_36, i_37, i_38, i_39, i_40, i_41, i_42, i_43, i_44, i_45, i_46, i_47, i_48, i_49, i_50, i_51, i_52, i_53, i_54, i_55, i_56, i_57, i_58, i_59, i_60, i_61, i_62, i_63, i_64, i_65, i_66, i_67, i_68, i_69, i_70, i_72, i_77, i_78, i_80, i_81, i_82, i_83, i_84, i_87, i_88, i_96, i_98, i_100, i_101, i_103, i_118, i_119, i_126, i_133, i_137, i_144, i_154, i_158, i_160, i_190, i_199, i_200, i_207, i_209, i_213, i_229, i_252, i_254, i_255, i_260, i_282, i_303, i_304, i_321, i_348, i_435, i_492, i_522, i_1000, i_1023, i_1600, i_2903, iI_neg]
  refine s_X1_number (by omega) (by omega) (s_X1_number (by omega) (by omega) (s_X1_number (by omega) (by omega) (s_X1_number (by omega) (by omega) ?_)))
  unfold P_X1_tellsWord
  rw [i_119, iI_eq (by omega) (by omega) (by omega) (by omega)]
  simp only [i_m9, i_m1, i_0, i_1, i_2, i_3, i_4, i_5, i_6, i_7, i_8, i_9, i_10, i_11, i_12, i_13, i_14, i_15, i_16, i_17, i_18, i_19, i_20, i_21, i_22, i_23, i_24, i_25, i_26, i_27, i_28, i_29, i_30, i_31, i_32, i_33, i_34, i_35, i_36, i_37, i_38, i_39, i_40, i_41, i_42, i_43, i_44, i_45, i_46, i_47, i_48, i_49, i_50, i_51, i_52, i_53, i_54, i_55, i_56, i_57, i_58, i_59, i_60, i_61, i_62, i_63, i_64, i_65, i_66, i_67, i_68, i_69, i_70, i_72, i_77, i_78, i_80, i_81, i_82, i_83, i_84, i_87, i_88, i_96, i_98, i_100, i_101, i_103, i_118, i_119, i_126, i_133, i_137, i_144, i_154, i_158, i_160, i_190, i_199, i_200, i_207, i_209, i_213, i_229, i_252, i_254, i_255, i_260, i_282, i_303, i_304, i_321, i_348, i_435, i_492, i_522, i_1000, i_1023, i_1600, i_2903, iI_neg]
  refine ⟨fun e => ⟨fun _ => ?_, fun hx => (hx (by trivial)).elim⟩, fun e => ⟨fun hx => absurd hx (by decide), fun _ => ?_⟩⟩
  · have e1 : oT f (od s) = tB f (rN s 0) (rN s 1) (rN s 2) 2 255 := if_neg e
    have e2 : oF f (od s) = bmF f (rN s 0) (rN s 1) (rN s 2) 2 255 := if_neg e
    rw [e1] at h1 h0
    rw [e2] at h1
    refine s_X3_isBeam (hN 0) (hN 1) (hN 2) lit32 (fun g => ⟨fun hx => absurd hx (by decide), fun _ => s_X0_beams hA ?_⟩) (fun g => ⟨fun _ => h0 ?_, fun hx => absurd rfl hx⟩)
    · simp (disch := omega) only [iI_lt]
      refine ⟨fun g2 => s_X0_addBeam hA n2 (by omega) (fun c2 hc2 => h1 ?_ c2 hc2), fun g2 => h0 ?_⟩
      · unfold tB; rw [if_pos (by omega), if_neg (by omega)]
      · unfold tB; rw [if_pos (by omega), if_pos (by omega)]; omega
    · unfold tB; rw [if_neg (by omega)]; omega
  · have e1 : oT f (od s) = tW f (rN s 0) (rN s 1) (rN s 2) (rN s 3) := by
      unfold oT od; rw [if_pos e]; show tW f _ _ _ (if rK s = 119 then _ else 0) = _; rw [if_pos e]
    have e2 : oF f (od s) = wdF f (rN s 0) (rN s 1) (rN s 2) (rN s 3) := by
      unfold oF od; rw [if_pos e]; show wdF f _ _ _ (if rK s = 119 then _ else 0) = _; rw [if_pos e]
    rw [e1] at h1 h0
    rw [e2] at h1
    refine s_X3_isWord (hN 0) (hN 1) (hN 2) (hN 3) (fun g => ⟨fun hx => absurd hx (by decide), fun _ => s_X0_words hA ?_⟩) (fun g => ⟨fun _ => h0 ?_, fun hx => absurd rfl hx⟩)
    · simp (disch := omega) only [iI_lt]
      refine ⟨fun g2 => s_X0_addWord hA (by omega) n3 (fun c2 hc2 => h1 ?_ c2 hc2), fun g2 => h0 ?_⟩
      · unfold tW; rw [if_pos g, if_neg (by omega)]
      · unfold tW; rw [if_pos g, if_pos (by omega)]; omega
    · unfold tW; rw [if_neg g]; omega
theorem dl_c (o : Od) (L : List Od) (f : Int → Int) : dl (o :: L) f = if oT f o = 0 then ((dl L (oF f o)).1 + 1, (dl L (oF f o)).2) else (0, f) := rfl
theorem s_X3_doOrders {T c f0 : Int → Int} {n : Int} {s : Rd} {Q : Int32 → (Nat → Int32) → (Nat → Int32) → Int32 → Int32 → Int32 → Int32 → Int32 → Prop} (ht : TX T n) (hs : RB s) (hA : Ag c f0) (hf : OK 6 f0) (zf : Z f0) (hW : (WK T n 0 (st0 s)).1 = n + 1)
    (h : ∀ (c2 : Int → Int) (z : Rd), RB z → Ag c2 (dl (WK T n 0 (st0 s)).2 f0).2 → Q (iI (dl (WK T n 0 (st0 s)).2 f0).1) (aI c2) (aI (rN z)) (iI (rK z)) (iI (rO z)) (iI (rP z)) (iI (rV z)) (iI (rM z))) :
    P_X3_doOrders (aI c) (aI (rN s)) (iI (rK s)) (iI (rO s)) (iI (rP s)) (iI (rV s)) (iI (rM s)) (aI T) (iI n) Q := by
  have hn := ht.1
  have lp : ∀ (m b : Nat), (b : Int) + m = n + 1 → ∀ (x : Int) (c f : Int → Int) (z : Rd), RB z → Ag c f → OK 6 f → Z f → (WK T n b z).1 = n + 1 → dl (WK T n 0 (st0 s)).2 f0 = ((dl (WK T n b z).2 f).1 + x, (dl (WK T n b z).2 f).2) →
      P_X3_doOrders_L11 (aI T) (iI n) Q (m + 1) (iI x) (iI b) (aI c) (aI (rN z)) (iI (rK z)) (iI (rO z)) (iI (rP z)) (iI (rV z)) (iI (rM z)) := by
    intro m
    induction m with
    | zero =>
      intro b hb x c f z hz hA hf zf hw hd
      rw [P_X3_doOrders_L11_s]
      unfold B_X3_doOrders_L11
      simp (disch := omega) only [iI_lt]
      refine ⟨fun _ => ?_, fun hx => absurd (by omega) hx⟩
      rw [show (b : Int) = n + 1 by omega, WK_end] at hd
      have e1 : (dl ((n + 1, ([] : List Od)) : Int × List Od).2 f) = (0, f) := rfl
      rw [e1] at hd
      have := h c z hz (by rw [hd]; exact hA)
      rw [hd] at this
      rw [show ((0 : Int), f).1 + x = x by show (0 : Int) + x = x; omega] at this
      exact this
    | succ m ih =>
      intro b hb x c f z hz hA hf zf hw hd
      have ih1 := ih (b + 1) (by omega)
      rw [nsucc] at ih1
      have hc := ch_rng (i := b) ht (by omega)
      have h01 := fd_012 (ch T n b) z
      have hne : (fd (ch T n b) z).1 ≠ 0 := fun e => by
        rw [WK_err (by omega) e] at hw
        have : (b : Int) = n + 1 := hw
        omega
      rw [WK_s (a := b) (s := z) (by omega), if_neg hne] at hw hd
      rw [P_X3_doOrders_L11_s]
      unfold B_X3_doOrders_L11 P_X3_doOrders_J47
      simp (disch := omega) only [iI_lt, iI_add, i_m9, i_m1, i_0, i_1, i_2, i_3, i_4, i_5, i_6, i_7, i_8, i_9, i_10, i_11, i_12, i_13, i_14, i_15, i_16, i_17, i_18, i_19, i_20, i_21, i_22, i_23, i_24, i_25, i_26, i_27, i_28, i_29, i_30, i_31, i_32, i_33, i_34, i_35, i_36, i_37, i_38, i_39, i_40, i_41, i_42, i_43, i_44, i_45, i_46, i_47, i_48, i_49, i_50, i_51, i_52, i_53, i_54, i_55, i_56, i_57, i_58, i_59, i_60, i_61, i_62, i_63, i_64, i_65, i_66, i_67, i_68, i_69, i_70, i_72, i_77, i_78, i_80, i_81, i_82, i_83, i_84, i_87, i_88, i_96, i_98, i_100, i_101, i_103, i_118, i_119, i_126, i_133, i_137, i_144, i_154, i_158, i_160, i_190, i_199, i_200, i_207, i_209, i_213, i_229, i_252, i_254, i_255, i_260, i_282, i_303, i_304, i_321, i_348, i_435, i_492, i_522, i_1000, i_1023, i_1600, i_2903, iI_neg]
      refine ⟨fun hx => absurd hx (by omega), fun _ => s_X3_codeAt ht (by omega) (by omega) (s_X1_feed hz.1 hc.1 hc.2 ?_)⟩
      rw [iI_eq (by omega) (by omega) (by omega) (by omega)]
      refine ⟨fun e => ?_, fun e => ?_⟩
      · rw [if_neg e] at hw hd
        exact ih1 x c f _ (fd_RB hz hc.1 hc.2) hA hf zf hw hd
      · rw [if_pos e] at hw hd
        have hd2 : dl (WK T n 0 (st0 s)).2 f0 = ((dl (od (fd (ch T n b) z).2 :: (WK T n (b + 1) (fd (ch T n b) z).2).2) f).1 + x, (dl (od (fd (ch T n b) z).2 :: (WK T n (b + 1) (fd (ch T n b) z).2).2) f).2) := hd
        refine s_X3_doOrder hA hf (fd_RB hz hc.1 hc.2) (fd_k2 hz.1 e) (fun g c2 hc2 => ⟨fun _ => ?_, fun hx => absurd hx (by decide)⟩) (fun g => ⟨fun hx => absurd rfl hx, fun _ => ?_⟩)
        · have o := oF_OK hf zf g
          refine ih1 (x + 1) c2 _ _ (fd_RB hz hc.1 hc.2) hc2 o.1 o.2 hw ?_
          rw [hd2, dl_c, if_pos g]
          have ey : ∀ y : Int, y + 1 + x = y + (x + 1) := fun y => by omega
          show ((dl (WK T n (b + 1) (fd (ch T n b) z).2).2 (oF f (od (fd (ch T n b) z).2))).1 + 1 + x, _) = _
          rw [ey]
        · rw [dl_c, if_neg g] at hd2
          have hd3 : dl (WK T n 0 (st0 s)).2 f0 = (x, f) := by
            rw [hd2]
            show ((0 : Int) + x, f) = (x, f)
            rw [Int.zero_add]
          have := h c _ (fd_RB hz hc.1 hc.2) (by rw [hd3]; exact hA)
          rw [hd3] at this
          exact this
  unfold P_X3_doOrders P_X1_start
  simp only [i_m9, i_m1, i_0, i_1, i_2, i_3, i_4, i_5, i_6, i_7, i_8, i_9, i_10, i_11, i_12, i_13, i_14, i_15, i_16, i_17, i_18, i_19, i_20, i_21, i_22, i_23, i_24, i_25, i_26, i_27, i_28, i_29, i_30, i_31, i_32, i_33, i_34, i_35, i_36, i_37, i_38, i_39, i_40, i_41, i_42, i_43, i_44, i_45, i_46, i_47, i_48, i_49, i_50, i_51, i_52, i_53, i_54, i_55, i_56, i_57, i_58, i_59, i_60, i_61, i_62, i_63, i_64, i_65, i_66, i_67, i_68, i_69, i_70, i_72, i_77, i_78, i_80, i_81, i_82, i_83, i_84, i_87, i_88, i_96, i_98, i_100, i_101, i_103, i_118, i_119, i_126, i_133, i_137, i_144, i_154, i_158, i_160, i_190, i_199, i_200, i_207, i_209, i_213, i_229, i_252, i_254, i_255, i_260, i_282, i_303, i_304, i_321, i_348, i_435, i_492, i_522, i_1000, i_1023, i_1600, i_2903, iI_neg]
  refine ⟨_, lp (n + 1).toNat 0 (by omega) 0 c f0 (st0 s) (st0_RB hs) hA hf zf hW ?_⟩
  show _ = ((dl (WK T n 0 (st0 s)).2 f0).1 + 0, (dl (WK T n 0 (st0 s)).2 f0).2)
  rw [Int.add_zero]
theorem s_X3_read {T c f S P : Int → Int} {n k : Int} {s : Rd} {L0 : Nat → Int64} {l0 w0 e0 cs0 re0 la0 : Nat → Int32} {cp0 : Int32} {Q : Int32 → (Nat → Int32) → (Nat → Int64) → (Nat → Int32) → (Nat → Int32) → (Nat → Int32) → (Nat → Int32) → Int32 → (Nat → Int32) → (Nat → Int32) → (Nat → Int32) → Int32 → Int32 → Int32 → Int32 → Int32 → (Nat → Int32) → Int32 → Int32 → Prop} {E : Nat → (Nat → Int32) → Int32 → Int32 → Int32 → Int32 → Int32 → Prop} (ht : TX T n) (hs : RB s) (hA : Ag c f) (hf : OK 6 f) (zf : Z f) (k0 : 0 ≤ k) (k1 : k ≤ 6) (hS : SvR k S P)
    (h1 : (WK T n 0 (st0 s)).1 = n + 1 → ∀ (c2 : Int → Int) (L : Nat → Int64) (li wh en cs : Int → Int) (re la : Nat → Int32) (S2 : Int → Int) (z : Rd), RB z → CV (dl (WK T n 0 (st0 s)).2 f).2 c2 L li wh en cs → SvR (svK k) S2 (svP f P k) →
      Q (iI (dl (WK T n 0 (st0 s)).2 f).1) (aI c2) L (aI li) (aI wh) (aI en) (aI cs) (iI (paS (dl (WK T n 0 (st0 s)).2 f).2)) re la (aI (rN z)) (iI (rK z)) (iI (rO z)) (iI (rP z)) (iI (rV z)) (iI (rM z)) (aI S2) (iI (svK k)) (iI 0))
    (h2 : (WK T n 0 (st0 s)).1 ≤ n → ∀ z : Rd, RB z → E 1 (aI (rN z)) (iI (rK z)) (iI (rO z)) (iI (rP z)) (iI (rV z)) (iI (rM z))) :
    P_X3_read (aI c) L0 l0 w0 e0 cs0 cp0 re0 la0 (aI (rN s)) (iI (rK s)) (iI (rO s)) (iI (rP s)) (iI (rV s)) (iI (rM s)) (aI S) (iI k) (aI T) (iI n) Q E := by
  unfold P_X3_read
  simp only [i_m9, i_m1, i_0, i_1, i_2, i_3, i_4, i_5, i_6, i_7, i_8, i_9, i_10, i_11, i_12, i_13, i_14, i_15, i_16, i_17, i_18, i_19, i_20, i_21, i_22, i_23, i_24, i_25, i_26, i_27, i_28, i_29, i_30, i_31, i_32, i_33, i_34, i_35, i_36, i_37, i_38, i_39, i_40, i_41, i_42, i_43, i_44, i_45, i_46, i_47, i_48, i_49, i_50, i_51, i_52, i_53, i_54, i_55, i_56, i_57, i_58, i_59, i_60, i_61, i_62, i_63, i_64, i_65, i_66, i_67, i_68, i_69, i_70, i_72, i_77, i_78, i_80, i_81, i_82, i_83, i_84, i_87, i_88, i_96, i_98, i_100, i_101, i_103, i_118, i_119, i_126, i_133, i_137, i_144, i_154, i_158, i_160, i_190, i_199, i_200, i_207, i_209, i_213, i_229, i_252, i_254, i_255, i_260, i_282, i_303, i_304, i_321, i_348, i_435, i_492, i_522, i_1000, i_1023, i_1600, i_2903, iI_neg]
  refine s_X3_tellsCredits ht hs (fun hw z hz => ⟨fun _ => ?_, fun hx => absurd hx (by decide)⟩) (fun hw z hz => ⟨fun hx => absurd rfl hx, fun _ => h2 hw z hz⟩)
  have ew : WK T n 0 (st0 z) = WK T n 0 (st0 s) := WK_0 rfl rfl
  refine s_X3_saveState hA hf k0 k1 hS (fun S2 hS2 => s_X3_doOrders ht hz hA hf zf (by rw [ew]; exact hw) (fun c2 z2 hz2 hA2 => ?_))
  rw [ew] at hA2 ⊢
  have hO := dl_OK (WK T n 0 (st0 s)).2 hf zf
  exact s_X3_showAnew hA2 hO.1 (fun L li wh en cs re la hv => h1 hw c2 L li wh en cs re la S2 z2 hz2 hv hS2)
