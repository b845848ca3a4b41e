/-- agreement in words and settings, but for cues -/
def AW (c g : Int → Int) : Prop := (c 78 = g 0 ∧ c 79 = g 1 ∧ c 80 = g 2) ∧ ∀ w i : Int, 0 ≤ w → w < g 2 → 0 ≤ i → i < 6 → i ≠ 3 → c (w * 6 + i) = g (4 + 6 * w + i)
theorem Ag_AW {c f : Int → Int} (h : Ag c f) : AW c f := ⟨⟨h.1.1, h.1.2.1, h.1.2.2.1⟩, fun w i w0 w1 i0 i1 _ => h.2.1 w i w0 w1 i0 i1⟩
theorem s_AW_words {c f : Int → Int} {Q : Int32 → Prop} (hA : AW c f) (h : Q (iI (f 2))) : P_X0_words (aI c) Q := by
  show Q (iI (c 80))
  rw [hA.1.2.2]; exact h
theorem s_cell_ofWord {c : Int → Int} {w i v : Int} {Q : Int32 → Prop} (e : c (w * 6 + i) = v) (w0 : 0 ≤ w) (w1 : w < 8) (i0 : 0 ≤ i) (i1 : i < 6) (h : Q (iI v)) : P_X0_ofWord (iI w) (iI i) (aI c) Q := by
  unfold P_X0_ofWord
  simp (disch := omega) only [iI_add, iI_sub, iI_mul, iI_neg, iI_lt, iI_le, iI_eq, iI_cl, aI_at, aI_up, aI_l0, aI_l1, aI_l2, aI_l3, i_m9, i_m1, i_0, i_1, i_2, i_3, i_4, i_5, i_6, i_7, i_8, i_9, i_10, i_11, i_12, i_13, i_14, i_15, i_16, i_17, i_18, i_19, i_20, i_21, i_22, i_23, i_24, i_25, i_26, i_27, i_28, i_29, i_30, i_31, i_32, i_33, i_34, i_35, i_36, i_37, i_38, i_39, i_40, i_41, i_42, i_43, i_44, i_45, i_46, i_47, i_48, i_49, i_50, i_51, i_52, i_53, i_54, i_55, i_56, i_57, i_58, i_59, i_60, i_61, i_62, i_63, i_64, i_65, i_66, i_67, i_68, i_69, i_70, i_72, i_77, i_78, i_80, i_81, i_82, i_83, i_84, i_87, i_88, i_96, i_98, i_100, i_101, i_103, i_118, i_119, i_126, i_133, i_137, i_144, i_154, i_158, i_160, i_190, i_199, i_200, i_207, i_209, i_213, i_229, i_252, i_254, i_255, i_260, i_282, i_303, i_304, i_321, i_348, i_435, i_492, i_522, i_1000, i_1023, i_1600, i_2903, iI_neg, e]
  exact ⟨fun hx => absurd hx (by omega), fun _ => ⟨fun hx => absurd hx (by omega), fun _ => ⟨iI_in (by omega) (by omega) (by omega), h⟩⟩⟩
theorem s_AW_ofWord {c f : Int → Int} {w i : Int} {Q : Int32 → Prop} (hA : AW c f) (n2 : f 2 ≤ 8) (w0 : 0 ≤ w) (w1 : w < f 2) (i0 : 0 ≤ i) (i1 : i < 6) (i3 : i ≠ 3) (h : Q (iI (f (4 + 6 * w + i)))) : P_X0_ofWord (iI w) (iI i) (aI c) Q :=
  s_cell_ofWord (hA.2 w i w0 w1 i0 i1 i3) w0 (by omega) i0 i1 h
theorem s_AW_setting {c f : Int → Int} {i : Int} {Q : Int32 → Prop} (hA : AW c f) (hi : i = 0 ∨ i = 1) (h : Q (iI (f i))) : P_X0_setting (iI i) (aI c) Q := by
  have e : c (78 + i) = f i := by
    rcases hi with rfl | rfl
    · exact hA.1.1
    · exact hA.1.2.1
  unfold P_X0_setting
  simp (disch := omega) only [iI_add, iI_sub, iI_mul, iI_neg, iI_lt, iI_le, iI_eq, iI_cl, aI_at, aI_up, aI_l0, aI_l1, aI_l2, aI_l3, i_m9, i_m1, i_0, i_1, i_2, i_3, i_4, i_5, i_6, i_7, i_8, i_9, i_10, i_11, i_12, i_13, i_14, i_15, i_16, i_17, i_18, i_19, i_20, i_21, i_22, i_23, i_24, i_25, i_26, i_27, i_28, i_29, i_30, i_31, i_32, i_33, i_34, i_35, i_36, i_37, i_38, i_39, i_40, i_41, i_42, i_43, i_44, i_45, i_46, i_47, i_48, i_49, i_50, i_51, i_52, i_53, i_54, i_55, i_56, i_57, i_58, i_59, i_60, i_61, i_62, i_63, i_64, i_65, i_66, i_67, i_68, i_69, i_70, i_72, i_77, i_78, i_80, i_81, i_82, i_83, i_84, i_87, i_88, i_96, i_98, i_100, i_101, i_103, i_118, i_119, i_126, i_133, i_137, i_144, i_154, i_158, i_160, i_190, i_199, i_200, i_207, i_209, i_213, i_229, i_252, i_254, i_255, i_260, i_282, i_303, i_304, i_321, i_348, i_435, i_492, i_522, i_1000, i_1023, i_1600, i_2903, iI_neg, e]
  exact ⟨fun hx => absurd hx (by omega), fun _ => ⟨fun hx => absurd hx (by omega), fun _ => ⟨iI_in (by omega) (by omega) (by omega), h⟩⟩⟩
/-- the mask of the first n letters -/
def alM (n : Int) : Int32 := ((1 : Int32) <<< (iI n &&& iI 31)) - 1
theorem alM_b : ∀ n : Fin 13, ∀ k : Fin 32, (alM (n.val : Int)).toBitVec.getLsbD k.val = decide (k.val < n.val) := by decide +kernel
theorem alM_bit {n : Int} {k : Nat} (n0 : 0 ≤ n) (n1 : n ≤ 12) (hk : k < 32) : (alM n).toBitVec.getLsbD k = decide ((k : Int) < n) := by
  have := alM_b ⟨n.toNat, by omega⟩ ⟨k, hk⟩
  rw [show (((⟨n.toNat, by omega⟩ : Fin 13).val : Nat) : Int) = n by show ((n.toNat : Nat) : Int) = n; omega] at this
  rw [this]
  by_cases e : (k : Int) < n
  · rw [decide_eq_true e, decide_eq_true (by show k < n.toNat; omega)]
  · rw [decide_eq_false e, decide_eq_false (by show ¬ k < n.toNat; omega)]
theorem s_X2_allOf {n : Int} {Q : Int32 → Prop} (h : Q (alM n)) : P_X2_allOf (iI n) Q := by
  unfold P_X2_allOf
  have e : ((1 : Int32) <<< (iI n &&& 31)) - 1 = alM n := by unfold alM; rw [i_31]
  rw [e]; exact h
theorem one_b : ∀ n : Fin 12, ∀ k : Fin 32, ((iI 1) <<< (iI (n.val : Int) &&& iI 31)).toBitVec.getLsbD k.val = decide (k.val = n.val) := by decide +kernel
theorem i0_b (k : Nat) : (iI 0).toBitVec.getLsbD k = false := BitVec.getLsbD_zero
/-- what can be lit, as masks of beats -/
def RH (q : Int → Int → Bool) (n : Int) (R : Nat → Int32) : Prop := ∀ t k : Nat, t < 200 → k < 32 → (R t).toBitVec.getLsbD k = (decide ((k : Int) < n) && q k t)
theorem col_s : ∀ n : Nat, n < 60 → ((iI (n : Int)).toInt64.toUInt64 &&& Int64.toUInt64 63).toNat = n := by decide +kernel
theorem rch_b (x : Int64) {s : Nat} (hs : s < 60) {k : Nat} (hk : k < 32) : (((x.toUInt64 >>> ((iI (s : Int)).toInt64.toUInt64 &&& Int64.toUInt64 63)).toInt64).toInt32).toBitVec.getLsbD k = x.toBitVec.getLsbD (s + k) := by
  have e : (x.toUInt64 >>> ((iI (s : Int)).toInt64.toUInt64 &&& Int64.toUInt64 63)).toInt64.toBitVec = x.toBitVec >>> s := by
    apply BitVec.eq_of_toNat_eq
    show (x.toUInt64 >>> ((iI (s : Int)).toInt64.toUInt64 &&& Int64.toUInt64 63)).toNat = _
    rw [UInt64.toNat_shiftRight, col_s s hs, Nat.mod_eq_of_lt (by omega), BitVec.toNat_ushiftRight]
    rfl
  show (BitVec.signExtend 32 ((x.toUInt64 >>> ((iI (s : Int)).toInt64.toUInt64 &&& Int64.toUInt64 63)).toInt64).toBitVec).getLsbD k = _
  rw [e, BitVec.getLsbD_signExtend]
  simp [hk, show k < 64 by omega, BitVec.getLsbD_ushiftRight]
theorem s_X2_findReach {c g : Int → Int} {w q n : Int} {p : Int → Int → Int → Bool} {L : Nat → Int64} {R : Nat → Int32} {Q : (Nat → Int32) → Prop} (hA : AW c g) (n2 : g 2 ≤ 8) (w0 : 0 ≤ w) (w1 : w < g 2) (hw : OKw g w) (hn : n = g (4 + 6 * w + 0)) (hq : 0 ≤ q ∧ q ≤ 199) (hL : LTp p L)
    (h : ∀ R2, RH (fun k t => decide (q ≤ t) && p (g (4 + 6 * w + 1)) t (g (4 + 6 * w + 2) + k)) n R2 → Q R2) : P_X2_findReach (iI w) (iI n) (iI q) (aI c) L R Q := by
  obtain ⟨⟨l0, l1⟩, ⟨r0, r1⟩, ⟨c0, c1⟩, -, -, -⟩ := hw
  subst hn
  have lp : ∀ (m b : Nat), b + m = 200 → ∀ R2 : Nat → Int32, (∀ t k : Nat, t < b → k < 32 → (R2 t).toBitVec.getLsbD k = (decide ((k : Int) < g (4 + 6 * w + 0)) && (decide (q ≤ (t : Int)) && p (g (4 + 6 * w + 1)) t (g (4 + 6 * w + 2) + k)))) →
      P_X2_findReach_L35 (iI q) (iI (g (4 + 6 * w + 1) * 200)) (iI (g (4 + 6 * w + 2))) (alM (g (4 + 6 * w + 0))) L Q (m + 1) (iI b) R2 := by
    intro m
    induction m with
    | zero =>
      intro b hb R2 hR
      rw [P_X2_findReach_L35_s]
      unfold B_X2_findReach_L35
      simp (disch := omega) only [iI_add, iI_sub, iI_mul, iI_neg, iI_lt, iI_le, iI_eq, iI_cl, aI_at, aI_up, aI_l0, aI_l1, aI_l2, aI_l3, i_m9, i_m1, i_0, i_1, i_2, i_3, i_4, i_5, i_6, i_7, i_8, i_9, i_10, i_11, i_12, i_13, i_14, i_15, i_16, i_17, i_18, i_19, i_20, i_21, i_22, i_23, i_24, i_25, i_26, i_27, i_28, i_29, i_30, i_31, i_32, i_33, i_34, i_35, i_36, i_37, i_38, i_39, i_40, i_41, i_42, i_43, i_44, i_45, i_46, i_47, i_48, i_49, i_50, i_51, i_52, i_53, i_54, i_55, i_56, i_57, i_58, i_59, i_60, i_61, i_62, i_63, i_64, i_65, i_66, i_67, i_68, i_69, i_70, i_72, i_77, i_78, i_80, i_81, i_82, i_83, i_84, i_87, i_88, i_96, i_98, i_100, i_101, i_103, i_118, i_119, i_126, i_133, i_137, i_144, i_154, i_158, i_160, i_190, i_199, i_200, i_207, i_209, i_213, i_229, i_252, i_254, i_255, i_260, i_282, i_303, i_304, i_321, i_348, i_435, i_492, i_522, i_1000, i_1023, i_1600, i_2903, iI_neg]
      exact ⟨fun _ => h R2 (fun t k ht hk => hR t k (by omega) hk), fun hx => absurd (by omega) hx⟩
    | succ m ih =>
      intro b hb R2 hR
      rw [P_X2_findReach_L35_s]
      unfold B_X2_findReach_L35 P_X2_findReach_J75 P_X2_findReach_J76 P_X2_findReach_J107
      simp (disch := omega) only [iI_add, iI_sub, iI_mul, iI_neg, iI_lt, iI_le, iI_eq, iI_cl, aI_at, aI_up, aI_l0, aI_l1, aI_l2, aI_l3, i_m9, i_m1, i_0, i_1, i_2, i_3, i_4, i_5, i_6, i_7, i_8, i_9, i_10, i_11, i_12, i_13, i_14, i_15, i_16, i_17, i_18, i_19, i_20, i_21, i_22, i_23, i_24, i_25, i_26, i_27, i_28, i_29, i_30, i_31, i_32, i_33, i_34, i_35, i_36, i_37, i_38, i_39, i_40, i_41, i_42, i_43, i_44, i_45, i_46, i_47, i_48, i_49, i_50, i_51, i_52, i_53, i_54, i_55, i_56, i_57, i_58, i_59, i_60, i_61, i_62, i_63, i_64, i_65, i_66, i_67, i_68, i_69, i_70, i_72, i_77, i_78, i_80, i_81, i_82, i_83, i_84, i_87, i_88, i_96, i_98, i_100, i_101, i_103, i_118, i_119, i_126, i_133, i_137, i_144, i_154, i_158, i_160, i_190, i_199, i_200, i_207, i_209, i_213, i_229, i_252, i_254, i_255, i_260, i_282, i_303, i_304, i_321, i_348, i_435, i_492, i_522, i_1000, i_1023, i_1600, i_2903, iI_neg]
      have ih1 := fun R3 h3 => ih (b + 1) (by omega) R3 h3
      rw [nsucc] at ih1
      have nx : ∀ v : Int32, (∀ k : Nat, k < 32 → v.toBitVec.getLsbD k = (decide ((k : Int) < g (4 + 6 * w + 0)) && (decide (q ≤ (b : Int)) && p (g (4 + 6 * w + 1)) b (g (4 + 6 * w + 2) + k)))) → P_X2_findReach_L35 (iI q) (iI (g (4 + 6 * w + 1) * 200)) (iI (g (4 + 6 * w + 2))) (alM (g (4 + 6 * w + 0))) L Q (m + 1) (iI ((b : Int) + 1)) (upd R2 (b : Int).toNat v) := by
        intro v hv
        refine ih1 _ (fun t k ht hk => ?_)
        rw [Int.toNat_natCast]
        by_cases e : t = b
        · rw [e, pk_us]; exact hv k hk
        · rw [pk_un e]; exact hR t k (by omega) hk
      refine ⟨fun hx => absurd hx (by omega), fun _ => ⟨fun e => ?_, fun e => ⟨fun hx => absurd hx (by omega), fun _ => ⟨fun hx => absurd hx (by omega), fun _ => ?_⟩⟩⟩⟩
      · refine ⟨fun _ => ⟨iI_in (by omega) (by omega) (by omega), nx _ (fun k hk => ?_)⟩, fun hx => absurd trivial hx⟩
        rw [decide_eq_false (p := q ≤ (b : Int)) (by omega), Bool.false_and, Bool.and_false]
        exact i0_b k
      · refine ⟨fun hx => absurd hx (by decide), fun _ => ⟨iI_in (by omega) (by omega) (by omega), iI_in (by omega) (by omega) (by omega), nx _ (fun k hk => ?_)⟩⟩
        have ex : (g (4 + 6 * w + 1) * 200 + (b : Int)).toNat = (g (4 + 6 * w + 1)).toNat * 200 + b := by omega
        have ec : g (4 + 6 * w + 2) = (((g (4 + 6 * w + 2)).toNat : Nat) : Int) := by omega
        rw [Int32.toBitVec_and, BitVec.getLsbD_and, alM_bit (by omega) (by omega) hk, decide_eq_true (p := q ≤ (b : Int)) (by omega), Bool.true_and, ex]
        have := rch_b (L ((g (4 + 6 * w + 1)).toNat * 200 + b)) (s := (g (4 + 6 * w + 2)).toNat) (by omega) hk
        rw [← ec] at this
        rw [this, Bool.and_comm]
        by_cases e2 : (k : Int) < g (4 + 6 * w + 0)
        · rw [hL _ b _ (by omega) (by omega) (by omega)]
          rw [show (((g (4 + 6 * w + 1)).toNat : Nat) : Int) = g (4 + 6 * w + 1) by omega, show (((g (4 + 6 * w + 2)).toNat + k : Nat) : Int) = g (4 + 6 * w + 2) + k by omega]
        · rw [decide_eq_false e2, Bool.false_and, Bool.false_and]
  unfold P_X2_findReach
  simp only [i_m9, i_m1, i_0, i_1, i_2, i_3, i_4, i_5, i_6, i_7, i_8, i_9, i_10, i_11, i_12, i_13, i_14, i_15, i_16, i_17, i_18, i_19, i_20, i_21, i_22, i_23, i_24, i_25, i_26, i_27, i_28, i_29, i_30, i_31, i_32, i_33, i_34, i_35, i_36, i_37, i_38, i_39, i_40, i_41, i_42, i_43, i_44, i_45, i_46, i_47, i_48, i_49, i_50, i_51, i_52, i_53, i_54, i_55, i_56, i_57, i_58, i_59, i_60, i_61, i_62, i_63, i_64, i_65, i_66, i_67, i_68, i_69, i_70, i_72, i_77, i_78, i_80, i_81, i_82, i_83, i_84, i_87, i_88, i_96, i_98, i_100, i_101, i_103, i_118, i_119, i_126, i_133, i_137, i_144, i_154, i_158, i_160, i_190, i_199, i_200, i_207, i_209, i_213, i_229, i_252, i_254, i_255, i_260, i_282, i_303, i_304, i_321, i_348, i_435, i_492, i_522, i_1000, i_1023, i_1600, i_2903, iI_neg]
  refine s_AW_ofWord hA n2 w0 w1 (by omega) (by omega) (by omega) ?_
  refine s_AW_ofWord hA n2 w0 w1 (by omega) (by omega) (by omega) ?_
  simp only [iI_mul]
  refine s_X2_allOf ⟨_, lp 200 0 (by omega) R (fun t k ht => absurd ht (by omega))⟩
theorem s_X2_putLit {w t : Int} {M : Int32} {li : Int → Int} {Q : (Nat → Int32) → Prop} (w0 : 0 ≤ w) (w1 : w < 8) (h : ∀ l2 : Int → Int, (∀ j : Int, (j < w * 12 ∨ w * 12 + 12 ≤ j) → l2 j = li j) → (∀ k : Nat, k < 12 → l2 (w * 12 + k) = if M.toBitVec.getLsbD k = true then t else li (w * 12 + k)) → Q (aI l2)) : P_X2_putLit (iI w) M (iI t) (aI li) Q := by
  have lp : ∀ (m b : Nat), b + m = 12 → ∀ l2 : Int → Int, (∀ j : Int, (j < w * 12 ∨ w * 12 + b ≤ j) → l2 j = li j) → (∀ k : Nat, k < b → l2 (w * 12 + k) = if M.toBitVec.getLsbD k = true then t else li (w * 12 + k)) →
      P_X2_putLit_L3 (iI w) M (iI t) Q (m + 1) (iI b) (aI l2) := by
    intro m
    induction m with
    | zero =>
      intro b hb l2 h1 h2
      rw [P_X2_putLit_L3_s]
      unfold B_X2_putLit_L3
      simp (disch := omega) only [iI_le, i_m9, i_m1, i_0, i_1, i_2, i_3, i_4, i_5, i_6, i_7, i_8, i_9, i_10, i_11, i_12, i_13, i_14, i_15, i_16, i_17, i_18, i_19, i_20, i_21, i_22, i_23, i_24, i_25, i_26, i_27, i_28, i_29, i_30, i_31, i_32, i_33, i_34, i_35, i_36, i_37, i_38, i_39, i_40, i_41, i_42, i_43, i_44, i_45, i_46, i_47, i_48, i_49, i_50, i_51, i_52, i_53, i_54, i_55, i_56, i_57, i_58, i_59, i_60, i_61, i_62, i_63, i_64, i_65, i_66, i_67, i_68, i_69, i_70, i_72, i_77, i_78, i_80, i_81, i_82, i_83, i_84, i_87, i_88, i_96, i_98, i_100, i_101, i_103, i_118, i_119, i_126, i_133, i_137, i_144, i_154, i_158, i_160, i_190, i_199, i_200, i_207, i_209, i_213, i_229, i_252, i_254, i_255, i_260, i_282, i_303, i_304, i_321, i_348, i_435, i_492, i_522, i_1000, i_1023, i_1600, i_2903, iI_neg]
      exact ⟨fun _ => h l2 (fun j hj => h1 j (by omega)) (fun k hk => h2 k (by omega)), fun hx => absurd (by omega) hx⟩
    | succ m ih =>
      intro b hb l2 h1 h2
      have ih1 := ih (b + 1) (by omega)
      rw [nsucc] at ih1
      rw [P_X2_putLit_L3_s]
      unfold B_X2_putLit_L3 P_X2_putLit_J56
      simp (disch := omega) only [iI_add, iI_sub, iI_mul, iI_neg, iI_lt, iI_le, iI_eq, iI_cl, aI_at, aI_up, aI_l0, aI_l1, aI_l2, aI_l3, tst32, i_m9, i_m1, i_0, i_1, i_2, i_3, i_4, i_5, i_6, i_7, i_8, i_9, i_10, i_11, i_12, i_13, i_14, i_15, i_16, i_17, i_18, i_19, i_20, i_21, i_22, i_23, i_24, i_25, i_26, i_27, i_28, i_29, i_30, i_31, i_32, i_33, i_34, i_35, i_36, i_37, i_38, i_39, i_40, i_41, i_42, i_43, i_44, i_45, i_46, i_47, i_48, i_49, i_50, i_51, i_52, i_53, i_54, i_55, i_56, i_57, i_58, i_59, i_60, i_61, i_62, i_63, i_64, i_65, i_66, i_67, i_68, i_69, i_70, i_72, i_77, i_78, i_80, i_81, i_82, i_83, i_84, i_87, i_88, i_96, i_98, i_100, i_101, i_103, i_118, i_119, i_126, i_133, i_137, i_144, i_154, i_158, i_160, i_190, i_199, i_200, i_207, i_209, i_213, i_229, i_252, i_254, i_255, i_260, i_282, i_303, i_304, i_321, i_348, i_435, i_492, i_522, i_1000, i_1023, i_1600, i_2903, iI_neg]
      refine ⟨fun hx => absurd hx (by omega), fun _ => ⟨fun e => ?_, fun _ => ⟨fun e => ?_, fun e => ⟨fun hx => absurd hx (by omega), fun _ => ⟨fun hx => absurd hx (by omega), fun _ => ⟨iI_in (by omega) (by omega) (by omega), ?_⟩⟩⟩⟩⟩⟩
      · refine h l2 (fun j hj => ?_) (fun k hk => ?_)
        · by_cases e2 : j < w * 12 ∨ w * 12 + b ≤ j
          · exact h1 j e2
          · exact absurd hj (by omega)
        · by_cases e2 : k < b
          · exact h2 k e2
          · rw [h1 _ (by omega), e, i0_b, if_neg (by decide)]
      · refine ih1 l2 (fun j hj => h1 j (by omega)) (fun k hk => ?_)
        by_cases e2 : k < b
        · exact h2 k e2
        · rw [h1 _ (by omega), show k = b by omega, if_neg e]
      · refine ih1 _ (fun j hj => ?_) (fun k hk => ?_)
        · rw [up_ne (by omega)]; exact h1 j (by omega)
        · by_cases e2 : k < b
          · rw [up_ne (by omega)]; exact h2 k e2
          · rw [show k = b by omega, up_eq, if_pos e]
  unfold P_X2_putLit
  rw [i_0]
  exact ⟨_, lp 12 0 (by omega) li (fun j _ => rfl) (fun k hk => absurd hk (by omega))⟩
