theorem sub_and_b (x y : Int32) (k : Nat) : (x - (y &&& x)).toBitVec.getLsbD k = (x.toBitVec.getLsbD k && !y.toBitVec.getLsbD k) := by
  rcases Nat.lt_or_ge k 32 with hk | hk
  · have e : x.toBitVec = (x.toBitVec &&& ~~~y.toBitVec) + (y.toBitVec &&& x.toBitVec) := by
      rw [BitVec.add_eq_or_of_and_eq_zero]
      · apply BitVec.eq_of_getLsbD_eq
        intro i hi
        rw [BitVec.getLsbD_or, BitVec.getLsbD_and, BitVec.getLsbD_and, BitVec.getLsbD_not]
        cases x.toBitVec.getLsbD i <;> cases y.toBitVec.getLsbD i <;> simp [hi]
      · apply BitVec.eq_of_getLsbD_eq
        intro i hi
        rw [BitVec.getLsbD_and, BitVec.getLsbD_and, BitVec.getLsbD_and, BitVec.getLsbD_not]
        cases x.toBitVec.getLsbD i <;> cases y.toBitVec.getLsbD i <;> simp [hi]
    have e2 : (x - (y &&& x)).toBitVec = x.toBitVec &&& ~~~y.toBitVec := by
      show x.toBitVec - (y.toBitVec &&& x.toBitVec) = _
      have := congrArg (fun z => z - (y.toBitVec &&& x.toBitVec)) e
      simp only [BitVec.add_sub_cancel] at this
      exact this
    rw [e2, BitVec.getLsbD_and, BitVec.getLsbD_not]
    simp [hk]
  · rw [BitVec.getLsbD_of_ge _ _ hk, BitVec.getLsbD_of_ge _ _ hk]
    rfl
theorem frs_s (p : Int → Bool) (m : Nat) (t : Int) : frs p (m + 1) t = if p t = true then t else frs p m (t + 1) := rfl
theorem frs_skip {p : Int → Bool} : ∀ (d m : Nat) (a : Int), (∀ t : Int, a ≤ t → t < a + d → p t = false) → frs p (d + m) a = frs p m (a + d)
  | 0, m, a, _ => by rw [show 0 + m = m by omega, show a + ((0 : Nat) : Int) = a by omega]
  | d + 1, m, a, h => by
    rw [show d + 1 + m = (d + m) + 1 by omega, frs_s, if_neg (by rw [h a (by omega) (by omega)]; decide), frs_skip d m (a + 1) (fun t h1 h2 => h t (by omega) (by omega)), show a + 1 + (d : Int) = a + ((d + 1 : Nat) : Int) by omega]
theorem s_X2_lightEach {cn : Int → Int → Bool} {n w : Int} {R : Nat → Int32} {li : Int → Int} {Q : (Nat → Int32) → Prop} (w0 : 0 ≤ w) (w1 : w < 8) (n0 : 1 ≤ n) (n1 : n ≤ 12) (hR : RH cn n R) (hli : ∀ k : Int, 0 ≤ k → k < n → li (w * 12 + k) = -1)
    (h : ∀ l2 : Int → Int, (∀ j : Int, (j < w * 12 ∨ w * 12 + 12 ≤ j) → l2 j = li j) → (∀ k : Int, 0 ≤ k → k < n → l2 (w * 12 + k) = frs (cn k) 200 0) → Q (aI l2)) : P_X2_lightEach (iI w) (iI n) (aI li) R Q := by
  have lp : ∀ (m b : Nat), b + m = 200 → ∀ (D : Int32) (l2 : Int → Int), (∀ j : Int, (j < w * 12 ∨ w * 12 + 12 ≤ j) → l2 j = li j) →
      (∀ k : Nat, (k : Int) < n → (D.toBitVec.getLsbD k = true ∧ l2 (w * 12 + k) = -1 ∧ frs (cn k) 200 0 = frs (cn k) m b) ∨ (D.toBitVec.getLsbD k = false ∧ l2 (w * 12 + k) = frs (cn k) 200 0)) →
      P_X2_lightEach_L8 (iI w) R Q (m + 1) D (iI b) (aI l2) := by
    intro m
    induction m with
    | zero =>
      intro b hb D l2 ho hk
      rw [P_X2_lightEach_L8_s]
      unfold B_X2_lightEach_L8
      simp (disch := omega) only [iI_le, i_m9, i_m1, i_0, i_1, i_2, i_3, i_4, i_5, i_6, i_7, i_8, i_9, i_10, i_11, i_12, i_13, i_14, i_15, i_16, i_17, i_18, i_19, i_20, i_21, i_22, i_23, i_24, i_25, i_26, i_27, i_28, i_29, i_30, i_31, i_32, i_33, i_34, i_35, i_36, i_37, i_38, i_39, i_40, i_41, i_42, i_43, i_44, i_45, i_46, i_47, i_48, i_49, i_50, i_51, i_52, i_53, i_54, i_55, i_56, i_57, i_58, i_59, i_60, i_61, i_62, i_63, i_64, i_65, i_66, i_67, i_68, i_69, i_70, i_72, i_77, i_78, i_80, i_81, i_82, i_83, i_84, i_87, i_88, i_96, i_98, i_100, i_101, i_103, i_118, i_119, i_126, i_133, i_137, i_144, i_154, i_158, i_160, i_190, i_199, i_200, i_207, i_209, i_213, i_229, i_252, i_254, i_255, i_260, i_282, i_303, i_304, i_321, i_348, i_435, i_492, i_522, i_1000, i_1023, i_1600, i_2903, iI_neg]
      refine ⟨fun _ => h l2 ho (fun k k0 k1 => ?_), fun hx => absurd (by omega) hx⟩
      have := hk k.toNat (by omega)
      rw [show ((k.toNat : Nat) : Int) = k by omega] at this
      rcases this with ⟨-, h2, h3⟩ | ⟨-, h2⟩
      · rw [h2, h3]; rfl
      · exact h2
    | succ m ih =>
      intro b hb D l2 ho hk
      rw [P_X2_lightEach_L8_s]
      unfold B_X2_lightEach_L8
      simp (disch := omega) only [iI_add, iI_sub, iI_mul, iI_neg, iI_lt, iI_le, iI_eq, iI_cl, aI_at, aI_up, aI_l0, aI_l1, aI_l2, aI_l3, i_m9, i_m1, i_0, i_1, i_2, i_3, i_4, i_5, i_6, i_7, i_8, i_9, i_10, i_11, i_12, i_13, i_14, i_15, i_16, i_17, i_18, i_19, i_20, i_21, i_22, i_23, i_24, i_25, i_26, i_27, i_28, i_29, i_30, i_31, i_32, i_33, i_34, i_35, i_36, i_37, i_38, i_39, i_40, i_41, i_42, i_43, i_44, i_45, i_46, i_47, i_48, i_49, i_50, i_51, i_52, i_53, i_54, i_55, i_56, i_57, i_58, i_59, i_60, i_61, i_62, i_63, i_64, i_65, i_66, i_67, i_68, i_69, i_70, i_72, i_77, i_78, i_80, i_81, i_82, i_83, i_84, i_87, i_88, i_96, i_98, i_100, i_101, i_103, i_118, i_119, i_126, i_133, i_137, i_144, i_154, i_158, i_160, i_190, i_199, i_200, i_207, i_209, i_213, i_229, i_252, i_254, i_255, i_260, i_282, i_303, i_304, i_321, i_348, i_435, i_492, i_522, i_1000, i_1023, i_1600, i_2903, iI_neg]
      refine ⟨fun hx => absurd hx (by omega), fun _ => ⟨fun e => h l2 ho (fun k k0 k1 => ?_), fun e => ⟨iI_in (by omega) (by omega) (by omega), s_X2_putLit w0 w1 (fun l3 h1 h2 => ?_)⟩⟩⟩
      · have := hk k.toNat (by omega)
        rw [show ((k.toNat : Nat) : Int) = k by omega] at this
        rcases this with ⟨h1, -, -⟩ | ⟨-, h2⟩
        · rw [e, i0_b] at h1; exact absurd h1 (by decide)
        · exact h2
      · rw [Int.toNat_natCast] at h2 ⊢
        have ih1 := ih (b + 1) (by omega) (D - (R b &&& D)) l3 (fun j hj => (h1 j hj).trans (ho j hj)) (fun k hkn => by
          have hRb := hR b k (by omega) (by omega)
          rw [decide_eq_true hkn, Bool.true_and] at hRb
          have hl := h2 k (by omega)
          rw [Int32.toBitVec_and, BitVec.getLsbD_and, hRb] at hl
          rw [sub_and_b, hRb]
          rcases hk k hkn with ⟨g1, g2, g3⟩ | ⟨g1, g2⟩
          · rw [g1] at hl ⊢
            rw [frs_s _ m b] at g3
            by_cases e2 : cn k b = true
            · right
              rw [e2] at hl ⊢
              rw [if_pos e2] at g3
              rw [if_pos (by decide)] at hl
              exact ⟨by decide, by rw [hl, g3]⟩
            · left
              have e3 : cn k b = false := by cases hc : cn k b; rfl; exact absurd hc e2
              rw [e3] at hl ⊢
              rw [if_neg e2] at g3
              rw [if_neg (by decide)] at hl
              exact ⟨by decide, by rw [hl, g2], by rw [g3, nsucc]⟩
          · right
            rw [g1, Bool.and_false, if_neg (by decide)] at hl
            rw [g1]
            exact ⟨Bool.false_and _, by rw [hl, g2]⟩)
        rw [nsucc] at ih1
        exact ih1
  unfold P_X2_lightEach
  rw [i_0]
  refine s_X2_allOf ⟨_, lp 200 0 (by omega) (alM n) li (fun j _ => rfl) (fun k hk => Or.inl ⟨?_, hli k (by omega) hk, rfl⟩)⟩
  rw [alM_bit (by omega) n1 (by omega), decide_eq_true hk]
theorem lt1_dead {g : Int → Int} {w : Int} {k : Nat} (h : lt1 g w k = -1) : ∀ d : Nat, lt1 g w (k + d) = -1
  | 0 => h
  | d + 1 => by
    show (if lt1 g w (k + d) = -1 then -1 else _) = _
    rw [if_pos (lt1_dead h d)]
theorem can_early {g : Int → Int} {w k t : Int} (h : t < g (4 + 6 * w + 3)) : can g w k t = false := canN_early h
theorem fl_0 {g : Int → Int} {w k : Int} (h0 : 0 ≤ g (4 + 6 * w + 3)) (h1 : g (4 + 6 * w + 3) ≤ 199) : fl g w k (g (4 + 6 * w + 3)) = frs (can g w k) 200 0 := by
  have := frs_skip (p := can g w k) (g (4 + 6 * w + 3)).toNat (200 - g (4 + 6 * w + 3)).toNat 0 (fun t t0 t1 => can_early (by omega))
  rw [show (g (4 + 6 * w + 3)).toNat + (200 - g (4 + 6 * w + 3)).toNat = 200 by omega, show (0 : Int) + ((g (4 + 6 * w + 3)).toNat : Int) = g (4 + 6 * w + 3) by omega] at this
  exact this.symm
theorem s_X2_lightInTurn {g : Int → Int} {n w : Int} {R : Nat → Int32} {li : Int → Int} {Q : (Nat → Int32) → Prop} (w0 : 0 ≤ w) (w1 : w < 8) (hq : 0 ≤ g (4 + 6 * w + 3) ∧ g (4 + 6 * w + 3) ≤ 199) (n0 : 1 ≤ n) (n1 : n ≤ 12) (hR : RH (can g w) n R) (hli : ∀ k : Int, 0 ≤ k → k < n → li (w * 12 + k) = -1)
    (h : ∀ l2 : Int → Int, (∀ j : Int, (j < w * 12 ∨ w * 12 + 12 ≤ j) → l2 j = li j) → (∀ k : Nat, (k : Int) < n → l2 (w * 12 + k) = lt1 g w k) → Q (aI l2)) : P_X2_lightInTurn (iI w) (iI n) (aI li) R Q := by
  have lp : ∀ (m b : Nat), b + m = 200 → ∀ (x : Nat) (l2 : Int → Int), (x : Int) ≤ n → (∀ j : Int, (j < w * 12 ∨ w * 12 + 12 ≤ j) → l2 j = li j) → (∀ k : Nat, k < x → l2 (w * 12 + k) = lt1 g w k) → (∀ k : Nat, x ≤ k → (k : Int) < n → l2 (w * 12 + k) = -1) → ((x : Int) < n → lt1 g w x = frs (can g w x) m b) →
      P_X2_lightInTurn_L5 (iI w) (iI n) R Q (m + 1) (iI x) (iI b) (aI l2) := by
    intro m
    induction m with
    | zero =>
      intro b hb x l2 hx ho hk1 hk2 hk3
      rw [P_X2_lightInTurn_L5_s]
      unfold B_X2_lightInTurn_L5
      simp (disch := omega) only [iI_le, i_m9, i_m1, i_0, i_1, i_2, i_3, i_4, i_5, i_6, i_7, i_8, i_9, i_10, i_11, i_12, i_13, i_14, i_15, i_16, i_17, i_18, i_19, i_20, i_21, i_22, i_23, i_24, i_25, i_26, i_27, i_28, i_29, i_30, i_31, i_32, i_33, i_34, i_35, i_36, i_37, i_38, i_39, i_40, i_41, i_42, i_43, i_44, i_45, i_46, i_47, i_48, i_49, i_50, i_51, i_52, i_53, i_54, i_55, i_56, i_57, i_58, i_59, i_60, i_61, i_62, i_63, i_64, i_65, i_66, i_67, i_68, i_69, i_70, i_72, i_77, i_78, i_80, i_81, i_82, i_83, i_84, i_87, i_88, i_96, i_98, i_100, i_101, i_103, i_118, i_119, i_126, i_133, i_137, i_144, i_154, i_158, i_160, i_190, i_199, i_200, i_207, i_209, i_213, i_229, i_252, i_254, i_255, i_260, i_282, i_303, i_304, i_321, i_348, i_435, i_492, i_522, i_1000, i_1023, i_1600, i_2903, iI_neg]
      refine ⟨fun _ => h l2 ho (fun k hkn => ?_), fun hx => absurd (by omega) hx⟩
      by_cases e : k < x
      · exact hk1 k e
      · rw [hk2 k (by omega) hkn]
        have := lt1_dead (hk3 (by omega)) (k - x)
        rw [show x + (k - x) = k by omega] at this
        exact this.symm
    | succ m ih =>
      intro b hb x l2 hx ho hk1 hk2 hk3
      rw [P_X2_lightInTurn_L5_s]
      unfold B_X2_lightInTurn_L5
      simp (disch := omega) only [iI_le, iI_add, i_m9, i_m1, i_0, i_1, i_2, i_3, i_4, i_5, i_6, i_7, i_8, i_9, i_10, i_11, i_12, i_13, i_14, i_15, i_16, i_17, i_18, i_19, i_20, i_21, i_22, i_23, i_24, i_25, i_26, i_27, i_28, i_29, i_30, i_31, i_32, i_33, i_34, i_35, i_36, i_37, i_38, i_39, i_40, i_41, i_42, i_43, i_44, i_45, i_46, i_47, i_48, i_49, i_50, i_51, i_52, i_53, i_54, i_55, i_56, i_57, i_58, i_59, i_60, i_61, i_62, i_63, i_64, i_65, i_66, i_67, i_68, i_69, i_70, i_72, i_77, i_78, i_80, i_81, i_82, i_83, i_84, i_87, i_88, i_96, i_98, i_100, i_101, i_103, i_118, i_119, i_126, i_133, i_137, i_144, i_154, i_158, i_160, i_190, i_199, i_200, i_207, i_209, i_213, i_229, i_252, i_254, i_255, i_260, i_282, i_303, i_304, i_321, i_348, i_435, i_492, i_522, i_1000, i_1023, i_1600, i_2903, iI_neg]
      refine ⟨fun hx => absurd hx (by omega), fun _ => ⟨fun e => h l2 ho (fun k hkn => hk1 k (by omega)), fun e => ?_⟩⟩
      have ih1 := ih (b + 1) (by omega)
      rw [nsucc] at ih1
      have lq : ∀ (j x : Nat) (l2 : Int → Int), (x : Int) + j = n → (∀ j : Int, (j < w * 12 ∨ w * 12 + 12 ≤ j) → l2 j = li j) → (∀ k : Nat, k < x → l2 (w * 12 + k) = lt1 g w k) → (∀ k : Nat, x ≤ k → (k : Int) < n → l2 (w * 12 + k) = -1) → ((x : Int) < n → lt1 g w x = frs (can g w x) (m + 1) b) →
          P_X2_lightInTurn_L18 (iI w) (iI n) (iI b) R (fun (x3_3 : Int32) (s_lit_4 : Nat → Int32) => P_X2_lightInTurn_L5 (iI w) (iI n) R Q (m + 1) x3_3 (iI ((b : Int) + 1)) s_lit_4) (j + 1) (iI x) (aI l2) := by
        intro j
        induction j with
        | zero =>
          intro x l2 hx ho hk1 hk2 hk3
          rw [P_X2_lightInTurn_L18_s]
          unfold B_X2_lightInTurn_L18
          simp (disch := omega) only [iI_le]
          exact ⟨fun _ => ih1 x l2 (by omega) ho hk1 hk2 (fun hh => absurd hh (by omega)), fun hx => absurd (by omega) hx⟩
        | succ j ihj =>
          intro x l2 hx ho hk1 hk2 hk3
          have ihj1 := ihj (x + 1)
          rw [nsucc] at ihj1
          have hRb := hR b x (by omega) (by omega)
          rw [decide_eq_true (by omega), Bool.true_and] at hRb
          rw [P_X2_lightInTurn_L18_s]
          unfold B_X2_lightInTurn_L18
          simp (disch := omega) only [iI_le, iI_add, iI_cl, tst32, i_m9, i_m1, i_0, i_1, i_2, i_3, i_4, i_5, i_6, i_7, i_8, i_9, i_10, i_11, i_12, i_13, i_14, i_15, i_16, i_17, i_18, i_19, i_20, i_21, i_22, i_23, i_24, i_25, i_26, i_27, i_28, i_29, i_30, i_31, i_32, i_33, i_34, i_35, i_36, i_37, i_38, i_39, i_40, i_41, i_42, i_43, i_44, i_45, i_46, i_47, i_48, i_49, i_50, i_51, i_52, i_53, i_54, i_55, i_56, i_57, i_58, i_59, i_60, i_61, i_62, i_63, i_64, i_65, i_66, i_67, i_68, i_69, i_70, i_72, i_77, i_78, i_80, i_81, i_82, i_83, i_84, i_87, i_88, i_96, i_98, i_100, i_101, i_103, i_118, i_119, i_126, i_133, i_137, i_144, i_154, i_158, i_160, i_190, i_199, i_200, i_207, i_209, i_213, i_229, i_252, i_254, i_255, i_260, i_282, i_303, i_304, i_321, i_348, i_435, i_492, i_522, i_1000, i_1023, i_1600, i_2903, iI_neg]
          rw [Int.toNat_natCast, hRb]
          have h3 := hk3 (by omega)
          rw [frs_s] at h3
          refine ⟨fun hx => absurd hx (by omega), fun _ => ⟨iI_in (by omega) (by omega) (by omega), fun e2 => ?_, fun e2 => s_X2_putLit w0 w1 (fun l3 g1 g2 => ?_)⟩⟩
          · rw [if_neg e2] at h3
            exact ih1 x l2 (by omega) ho hk1 hk2 (fun _ => h3)
          · rw [if_pos e2] at h3
            have ob : ∀ k : Nat, k < 12 → ((iI 1) <<< (iI (x : Int) &&& iI 31)).toBitVec.getLsbD k = decide (k = x) := fun k hk => one_b ⟨x, by omega⟩ ⟨k, by omega⟩
            refine ihj1 l3 (by omega) (fun j hj => (g1 j hj).trans (ho j hj)) (fun k hk => ?_) (fun k hk hkn => ?_) (fun hh => ?_)
            · rw [g2 k (by omega), ob k (by omega)]
              by_cases e3 : k = x
              · rw [decide_eq_true e3, if_pos rfl, e3, h3]
              · rw [decide_eq_false e3, if_neg (by decide)]
                exact hk1 k (by omega)
            · rw [g2 k (by omega), ob k (by omega), decide_eq_false (by omega), if_neg (by decide)]
              exact hk2 k (by omega) hkn
            · show (if lt1 g w x = -1 then -1 else fl g w ((x : Int) + 1) (lt1 g w x)) = _
              rw [h3, if_neg (by omega)]
              unfold fl
              rw [show (200 - (b : Int)).toNat = m + 1 by omega]
      exact ⟨_, lq (n - x).toNat x l2 (by omega) ho hk1 hk2 hk3⟩
  unfold P_X2_lightInTurn
  rw [i_0]
  refine ⟨_, lp 200 0 (by omega) 0 li (by omega) (fun j _ => rfl) (fun k hk => absurd hk (by omega)) (fun k _ hk => hli k (by omega) hk) (fun _ => ?_)⟩
  show fl g w 0 (g (4 + 6 * w + 3)) = _
  rw [fl_0 hq.1 hq.2]
  rfl
theorem latN_s (g : Int → Int) (w k : Int) (n : Nat) : latN g w k (n + 1) = if can g w k (n : Int) = true then (n : Int) else latN g w k n := rfl
theorem s_X2_oldestReach {g : Int → Int} {n w : Int} {b : Nat} {M : Int32} {la : Int → Int} {Q : Int32 → (Nat → Int32) → Prop} (b1 : b < 200) (hg1 : 0 ≤ g 1 ∧ g 1 ≤ 20) (n1 : n ≤ 12) (n0 : 0 ≤ n) (hM : ∀ k : Nat, (k : Int) < n → M.toBitVec.getLsbD k = can g w k b) (hla : ∀ k : Int, 0 ≤ k → k < n → la k = latN g w k b)
    (h : ∀ (ol : Int) (l2 : Int → Int), -1 ≤ ol → ol ≤ b → (∀ k : Int, 0 ≤ k → k < n → l2 k = latN g w k (b + 1)) → ((ol ≠ -1 ∧ (b : Int) - g 1 ≤ ol) ↔ alN g w b n.toNat = true) → Q (iI ol) (aI l2)) : P_X2_oldestReach (iI n) M (iI b) (aI la) Q := by
  have lp : ∀ (m k : Nat), (k : Int) + m = n → ∀ (ol : Int) (l2 : Int → Int), -1 ≤ ol → ol ≤ b → (∀ j : Int, 0 ≤ j → j < k → l2 j = latN g w j (b + 1)) → (∀ j : Int, k ≤ j → j < n → l2 j = latN g w j b) → ((ol ≠ -1 ∧ (b : Int) - g 1 ≤ ol) ↔ alN g w b k = true) →
      P_X2_oldestReach_L6 (iI n) M (iI b) Q (m + 1) (iI ol) (iI k) (aI l2) := by
    intro m
    induction m with
    | zero =>
      intro k hk ol l2 o0 o1 h1 h2 h3
      rw [P_X2_oldestReach_L6_s]
      unfold B_X2_oldestReach_L6
      simp (disch := omega) only [iI_le]
      refine ⟨fun _ => h ol l2 o0 o1 (fun j j0 j1 => h1 j j0 (by omega)) ?_, fun hx => absurd (by omega) hx⟩
      rw [show n.toNat = k by omega]
      exact h3
    | succ m ih =>
      intro k hk ol l2 o0 o1 h1 h2 h3
      have ih1 := ih (k + 1) (by omega)
      rw [nsucc] at ih1
      have hv := latN_rng g w k (b + 1)
      have nx : ∀ l3 : Int → Int, l3 k = latN g w k (b + 1) → (∀ j : Int, j ≠ k → l3 j = l2 j) → P_X2_oldestReach_J40 (P_X2_oldestReach_L6 (iI n) M (iI b) Q (m + 1)) (iI ol) (iI k) (aI l3) := by
        intro l3 g1 g2
        unfold P_X2_oldestReach_J40 P_X2_oldestReach_J64
        simp (disch := omega) only [iI_cl, aI_at, g1, iI_le, iI_add, i_m9, i_m1, i_0, i_1, i_2, i_3, i_4, i_5, i_6, i_7, i_8, i_9, i_10, i_11, i_12, i_13, i_14, i_15, i_16, i_17, i_18, i_19, i_20, i_21, i_22, i_23, i_24, i_25, i_26, i_27, i_28, i_29, i_30, i_31, i_32, i_33, i_34, i_35, i_36, i_37, i_38, i_39, i_40, i_41, i_42, i_43, i_44, i_45, i_46, i_47, i_48, i_49, i_50, i_51, i_52, i_53, i_54, i_55, i_56, i_57, i_58, i_59, i_60, i_61, i_62, i_63, i_64, i_65, i_66, i_67, i_68, i_69, i_70, i_72, i_77, i_78, i_80, i_81, i_82, i_83, i_84, i_87, i_88, i_96, i_98, i_100, i_101, i_103, i_118, i_119, i_126, i_133, i_137, i_144, i_154, i_158, i_160, i_190, i_199, i_200, i_207, i_209, i_213, i_229, i_252, i_254, i_255, i_260, i_282, i_303, i_304, i_321, i_348, i_435, i_492, i_522, i_1000, i_1023, i_1600, i_2903, iI_neg]
        have q1 : ∀ j : Int, 0 ≤ j → j < (k : Int) + 1 → l3 j = latN g w j (b + 1) := fun j j0 j1 => by
          by_cases e : j = k
          · rw [e]; exact g1
          · rw [g2 j e]; exact h1 j j0 (by omega)
        have q2 : ∀ j : Int, (k : Int) + 1 ≤ j → j < n → l3 j = latN g w j b := fun j j0 j1 => by
          rw [g2 j (by omega)]; exact h2 j (by omega) j1
        have qa : alN g w b (k + 1) = true ↔ (alN g w b k = true ∧ latN g w k (b + 1) ≠ -1 ∧ (b : Int) - g 1 ≤ latN g w k (b + 1)) := by
          show (alN g w b k && (decide (latN g w k (b + 1) ≠ -1) && decide ((b : Int) - g 1 ≤ latN g w k (b + 1)))) = true ↔ _
          rw [Bool.and_eq_true, Bool.and_eq_true, decide_eq_true_iff, decide_eq_true_iff]
        refine ⟨iI_in (by omega) (by omega) (by omega), fun e => ih1 ol l3 o0 o1 q1 q2 ?_, fun e => ⟨iI_in (by omega) (by omega) (by omega), ih1 _ l3 (by omega) (by omega) q1 q2 ?_⟩⟩
        · rw [qa, ← h3]; omega
        · rw [qa, ← h3]; omega
      rw [P_X2_oldestReach_L6_s]
      unfold B_X2_oldestReach_L6
      have hMk := hM k (by omega)
      simp (disch := omega) only [iI_le, iI_cl, aI_up, tst32, hMk, i_m9, i_m1, i_0, i_1, i_2, i_3, i_4, i_5, i_6, i_7, i_8, i_9, i_10, i_11, i_12, i_13, i_14, i_15, i_16, i_17, i_18, i_19, i_20, i_21, i_22, i_23, i_24, i_25, i_26, i_27, i_28, i_29, i_30, i_31, i_32, i_33, i_34, i_35, i_36, i_37, i_38, i_39, i_40, i_41, i_42, i_43, i_44, i_45, i_46, i_47, i_48, i_49, i_50, i_51, i_52, i_53, i_54, i_55, i_56, i_57, i_58, i_59, i_60, i_61, i_62, i_63, i_64, i_65, i_66, i_67, i_68, i_69, i_70, i_72, i_77, i_78, i_80, i_81, i_82, i_83, i_84, i_87, i_88, i_96, i_98, i_100, i_101, i_103, i_118, i_119, i_126, i_133, i_137, i_144, i_154, i_158, i_160, i_190, i_199, i_200, i_207, i_209, i_213, i_229, i_252, i_254, i_255, i_260, i_282, i_303, i_304, i_321, i_348, i_435, i_492, i_522, i_1000, i_1023, i_1600, i_2903, iI_neg]
      refine ⟨fun hx => absurd hx (by omega), fun _ => ⟨fun hx => absurd hx (by omega), fun _ => ⟨fun e => nx l2 ?_ (fun j _ => rfl), fun e => ⟨iI_in (by omega) (by omega) (by omega), nx _ ?_ (fun j hj => up_ne hj)⟩⟩⟩⟩
      · rw [h2 k (by omega) (by omega), latN_s, if_neg e]
      · rw [up_eq, latN_s, if_pos e]
  unfold P_X2_oldestReach
  rw [i_0]
  refine ⟨_, lp n.toNat 0 (by omega) b la (by omega) (by omega) (fun j j0 j1 => absurd j1 (by omega)) (fun j j0 j1 => hla j (by omega) j1) ?_⟩
  exact ⟨fun _ => rfl, fun _ => by omega⟩
theorem tog_0 {g : Int → Int} {w : Int} (h0 : 0 ≤ g (4 + 6 * w + 3)) (h1 : g (4 + 6 * w + 3) ≤ 199) (hn : 1 ≤ g (4 + 6 * w + 0)) : tog g w = frs (fun t => alN g w t.toNat (g (4 + 6 * w + 0)).toNat) 200 0 := by
  have := frs_skip (p := fun t => alN g w t.toNat (g (4 + 6 * w + 0)).toNat) (g (4 + 6 * w + 3)).toNat (200 - g (4 + 6 * w + 3)).toNat 0 (fun t t0 t1 => by
    show alN g w t.toNat (g (4 + 6 * w + 0)).toNat = false
    rw [show (g (4 + 6 * w + 0)).toNat = ((g (4 + 6 * w + 0)).toNat - 1) + 1 by omega]
    unfold alN
    rw [latN_early (by omega), decide_eq_false (p := (-1 : Int) ≠ -1) (by omega), Bool.false_and, Bool.and_false])
  rw [show (g (4 + 6 * w + 3)).toNat + (200 - g (4 + 6 * w + 3)).toNat = 200 by omega, show (0 : Int) + ((g (4 + 6 * w + 3)).toNat : Int) = g (4 + 6 * w + 3) by omega] at this
  exact this.symm
theorem s_X2_lightTogether {c g : Int → Int} {n w : Int} {R la : Nat → Int32} {li : Int → Int} {Q : (Nat → Int32) → (Nat → Int32) → Prop} (hA : AW c g) (hg1 : 0 ≤ g 1 ∧ g 1 ≤ 20) (w0 : 0 ≤ w) (w1 : w < 8) (hq : 0 ≤ g (4 + 6 * w + 3) ∧ g (4 + 6 * w + 3) ≤ 199) (hn : n = g (4 + 6 * w + 0)) (n0 : 1 ≤ n) (n1 : n ≤ 12) (hR : RH (can g w) n R) (hli : ∀ k : Int, 0 ≤ k → k < n → li (w * 12 + k) = -1)
    (h : ∀ (l2 : Int → Int) (la2 : Nat → Int32), (∀ j : Int, (j < w * 12 ∨ w * 12 + 12 ≤ j) → l2 j = li j) → (∀ k : Int, 0 ≤ k → k < n → l2 (w * 12 + k) = tog g w) → Q (aI l2) la2) : P_X2_lightTogether (iI w) (iI n) (aI c) (aI li) R la Q := by
  have lp : ∀ (m b : Nat), b + m = 200 → ∀ (la : Int → Int), (∀ k : Int, 0 ≤ k → k < n → la k = latN g w k b) → tog g w = frs (fun t => alN g w t.toNat n.toNat) m b →
      P_X2_lightTogether_L20 (iI n) (iI (g 1)) (aI li) R (fun (x4_6 : Int32) (s_latest_7 : Nat → Int32) => P_X2_allOf (iI n) (fun (r_8 : Int32) => P_X2_putLit (iI w) r_8 x4_6 (aI li) (fun (s_lit_9 : Nat → Int32) => Q s_lit_9 s_latest_7))) Q (m + 1) (iI b) (aI la) := by
    intro m
    induction m with
    | zero =>
      intro b hb la hla ht
      rw [P_X2_lightTogether_L20_s]
      unfold B_X2_lightTogether_L20
      simp (disch := omega) only [iI_le, i_m9, i_m1, i_0, i_1, i_2, i_3, i_4, i_5, i_6, i_7, i_8, i_9, i_10, i_11, i_12, i_13, i_14, i_15, i_16, i_17, i_18, i_19, i_20, i_21, i_22, i_23, i_24, i_25, i_26, i_27, i_28, i_29, i_30, i_31, i_32, i_33, i_34, i_35, i_36, i_37, i_38, i_39, i_40, i_41, i_42, i_43, i_44, i_45, i_46, i_47, i_48, i_49, i_50, i_51, i_52, i_53, i_54, i_55, i_56, i_57, i_58, i_59, i_60, i_61, i_62, i_63, i_64, i_65, i_66, i_67, i_68, i_69, i_70, i_72, i_77, i_78, i_80, i_81, i_82, i_83, i_84, i_87, i_88, i_96, i_98, i_100, i_101, i_103, i_118, i_119, i_126, i_133, i_137, i_144, i_154, i_158, i_160, i_190, i_199, i_200, i_207, i_209, i_213, i_229, i_252, i_254, i_255, i_260, i_282, i_303, i_304, i_321, i_348, i_435, i_492, i_522, i_1000, i_1023, i_1600, i_2903, iI_neg]
      refine ⟨fun _ => h li _ (fun j _ => rfl) (fun k k0 k1 => ?_), fun hx => absurd (by omega) hx⟩
      rw [hli k k0 k1, ht]; rfl
    | succ m ih =>
      intro b hb la hla ht
      have ih1 := ih (b + 1) (by omega)
      rw [nsucc] at ih1
      rw [frs_s] at ht
      rw [P_X2_lightTogether_L20_s]
      unfold B_X2_lightTogether_L20 P_X2_lightTogether_J71
      simp (disch := omega) only [iI_le, iI_cl, iI_sub, iI_add, i_m9, i_m1, i_0, i_1, i_2, i_3, i_4, i_5, i_6, i_7, i_8, i_9, i_10, i_11, i_12, i_13, i_14, i_15, i_16, i_17, i_18, i_19, i_20, i_21, i_22, i_23, i_24, i_25, i_26, i_27, i_28, i_29, i_30, i_31, i_32, i_33, i_34, i_35, i_36, i_37, i_38, i_39, i_40, i_41, i_42, i_43, i_44, i_45, i_46, i_47, i_48, i_49, i_50, i_51, i_52, i_53, i_54, i_55, i_56, i_57, i_58, i_59, i_60, i_61, i_62, i_63, i_64, i_65, i_66, i_67, i_68, i_69, i_70, i_72, i_77, i_78, i_80, i_81, i_82, i_83, i_84, i_87, i_88, i_96, i_98, i_100, i_101, i_103, i_118, i_119, i_126, i_133, i_137, i_144, i_154, i_158, i_160, i_190, i_199, i_200, i_207, i_209, i_213, i_229, i_252, i_254, i_255, i_260, i_282, i_303, i_304, i_321, i_348, i_435, i_492, i_522, i_1000, i_1023, i_1600, i_2903, iI_neg]
      rw [Int.toNat_natCast]
      refine ⟨fun hx => absurd hx (by omega), fun _ => ⟨iI_in (by omega) (by omega) (by omega), s_X2_oldestReach (g := g) (w := w) (by omega) hg1 n1 (by omega) (fun k hk => ?_) hla (fun ol l2 o0 o1 h2 h3 => ?_)⟩⟩
      · rw [hR b k (by omega) (by omega), decide_eq_true hk, Bool.true_and]
      · simp (disch := omega) only [iI_eq, iI_lt]
        have e0 : ((b : Int)).toNat = b := Int.toNat_natCast b
        rw [e0] at ht
        have no : ¬ alN g w b n.toNat = true → P_X2_lightTogether_L20 (iI n) (iI (g 1)) (aI li) R (fun (x4_6 : Int32) (s_latest_7 : Nat → Int32) => P_X2_allOf (iI n) (fun (r_8 : Int32) => P_X2_putLit (iI w) r_8 x4_6 (aI li) (fun (s_lit_9 : Nat → Int32) => Q s_lit_9 s_latest_7))) Q (m + 1) (iI ((b : Int) + 1)) (aI l2) := by
          intro hx
          rw [if_neg hx] at ht
          exact ih1 l2 h2 ht
        refine ⟨fun e => no (fun hx => (h3.mpr hx).1 e), fun e => ⟨fun e2 => no (fun hx => by have := (h3.mpr hx).2; omega), fun e2 => s_X2_allOf (s_X2_putLit w0 w1 (fun l3 g1 g2 => h l3 _ g1 (fun k k0 k1 => ?_)))⟩⟩
        rw [if_pos (h3.mp ⟨e, by omega⟩)] at ht
        have := g2 k.toNat (by omega)
        rw [alM_bit (by omega) n1 (by omega), decide_eq_true (by omega), if_pos rfl, show ((k.toNat : Nat) : Int) = k by omega] at this
        rw [this, ht]
  unfold P_X2_lightTogether
  simp only [i_m9, i_m1, i_0, i_1, i_2, i_3, i_4, i_5, i_6, i_7, i_8, i_9, i_10, i_11, i_12, i_13, i_14, i_15, i_16, i_17, i_18, i_19, i_20, i_21, i_22, i_23, i_24, i_25, i_26, i_27, i_28, i_29, i_30, i_31, i_32, i_33, i_34, i_35, i_36, i_37, i_38, i_39, i_40, i_41, i_42, i_43, i_44, i_45, i_46, i_47, i_48, i_49, i_50, i_51, i_52, i_53, i_54, i_55, i_56, i_57, i_58, i_59, i_60, i_61, i_62, i_63, i_64, i_65, i_66, i_67, i_68, i_69, i_70, i_72, i_77, i_78, i_80, i_81, i_82, i_83, i_84, i_87, i_88, i_96, i_98, i_100, i_101, i_103, i_118, i_119, i_126, i_133, i_137, i_144, i_154, i_158, i_160, i_190, i_199, i_200, i_207, i_209, i_213, i_229, i_252, i_254, i_255, i_260, i_282, i_303, i_304, i_321, i_348, i_435, i_492, i_522, i_1000, i_1023, i_1600, i_2903, iI_neg]
  refine s_AW_setting hA (Or.inr rfl) (s_fillI (by omega) (fun l2 hl2 => ⟨_, lp 200 0 (by omega) l2 (fun k k0 k1 => ?_) ?_⟩))
  · rw [hl2 k k0 (by omega)]; rfl
  · rw [hn]; exact tog_0 hq.1 hq.2 (by omega)
