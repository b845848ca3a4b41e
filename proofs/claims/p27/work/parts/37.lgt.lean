/-- bits of masks -/
theorem tst_s : ∀ n : Nat, n < 32 → ((iI (n : Int) &&& iI 31).toBitVec.smod 32).toNat = n := by decide +kernel
theorem tst32 (x : Int32) {k : Nat} (h : k < 32) : ((x >>> (iI (k : Int) &&& iI 31)) &&& iI 1 = iI 1) = (x.toBitVec.getLsbD k = true) := by
  have e : ∀ i, i < 32 → (x >>> (iI (k : Int) &&& iI 31)).toBitVec.getLsbD i = if k + i < 32 then x.toBitVec.getLsbD (k + i) else x.toBitVec.getLsbD 31 := by
    intro i hi
    rw [Int32.toBitVec_shiftRight]
    show (x.toBitVec.sshiftRight ((iI (k : Int) &&& iI 31).toBitVec.smod 32).toNat).getLsbD i = _
    rw [tst_s k h, BitVec.getLsbD_sshiftRight, BitVec.msb_eq_getLsbD_last]
    simp [hi]
  have o : ∀ i, i < 32 → (iI 1).toBitVec.getLsbD i = decide (i = 0) := by decide +kernel
  apply propext
  constructor
  · intro hx
    have h0 := congrArg (fun y => y.toBitVec.getLsbD 0) hx
    simp only [Int32.toBitVec_and, BitVec.getLsbD_and, e 0 (by omega), o 0 (by omega)] at h0
    rw [if_pos (by omega)] at h0
    simpa using h0
  · intro hx
    refine Int32.toBitVec_inj.mp (BitVec.eq_of_getLsbD_eq (fun i hi => ?_))
    rw [Int32.toBitVec_and, BitVec.getLsbD_and, e i hi, o i hi]
    by_cases h0 : i = 0
    · subst h0
      rw [if_pos (by omega)]
      simp [hx]
    · simp [h0]
theorem bt_b {r : Int} {k : Nat} (h : k < 32) : bt r k = (iI r).toBitVec.getLsbD k := by
  unfold bt
  simp only [tst32 (iI r) h]
  cases (iI r).toBitVec.getLsbD k <;> rfl
theorem lgz (x : Int64) : (lg_cmp x 0 = iI 0) = (x = 0) := propext (by rw [← i_0]; exact lg_cmp_eq x 0)
theorem sh_s : ∀ n : Nat, n < 60 → (((iI (n : Int)).toInt64 &&& 63).toBitVec.smod 64).toNat = n := by decide +kernel
theorem i64_shl (x : Int64) {s c : Nat} (hs : s < 60) (hc : c < 60) : (x <<< ((iI (s : Int)).toInt64 &&& 63)).toBitVec.getLsbD c = (decide (s ≤ c) && x.toBitVec.getLsbD (c - s)) := by
  rw [Int64.toBitVec_shiftLeft]
  show (x.toBitVec <<< (((iI (s : Int)).toInt64 &&& 63).toBitVec.smod 64).toNat).getLsbD c = _
  rw [sh_s s hs, BitVec.getLsbD_shiftLeft]
  rcases Nat.lt_or_ge c s with h | h
  · simp [h, Nat.not_le.mpr h]
  · simp [h, Nat.not_lt.mpr h, show c < 64 by omega]
theorem cb1 : ∀ l : Fin 10, ∀ c : Fin 60, (((1 : Int64) <<< ((iI (l.val : Int)).toInt64 &&& 63)) - 1).toBitVec.getLsbD c.val = decide (c.val < l.val) := by decide +kernel
theorem s_X0_columnBits {a w : Int} {Q : Int64 → Prop} (a0 : -2000 ≤ a) (a1 : a ≤ 2000) (w0 : 1 ≤ w) (w1 : w ≤ 9) (h : ∀ x : Int64, (x = 0 ↔ ¬ (a < 60 ∧ 0 < a + w)) → (∀ c : Nat, c < 60 → x.toBitVec.getLsbD c = inn ((c : Int) - a) 0 (w - 1)) → Q x) : P_X0_columnBits (iI a) (iI w) Q := by
  have fin : ∀ s e : Int, ((a < 0 ∧ s = 0) ∨ (0 ≤ a ∧ s = a)) → ((60 < a + w ∧ e = 60) ∨ (a + w ≤ 60 ∧ e = a + w)) → (e ≤ s → Q 0) ∧ (¬ e ≤ s → Q (((1 <<< ((iI (e - s)).toInt64 &&& 63)) - 1) <<< ((iI s).toInt64 &&& 63))) := by
    intro s e hs he
    refine ⟨fun g => h 0 ?_ (fun c hc => ?_), fun g => ?_⟩
    · exact ⟨fun _ => by omega, fun _ => rfl⟩
    · have : inn ((c : Int) - a) 0 (w - 1) = false := by rw [inn_f]; omega
      rw [this]; exact BitVec.getLsbD_zero
    · have e1 : e - s = (((e - s).toNat : Nat) : Int) := by omega
      have e2 : s = ((s.toNat : Nat) : Int) := by omega
      have hb : ∀ c : Nat, c < 60 → ((((1 : Int64) <<< ((iI (e - s)).toInt64 &&& 63)) - 1) <<< ((iI s).toInt64 &&& 63)).toBitVec.getLsbD c = (decide (s.toNat ≤ c) && decide (c - s.toNat < (e - s).toNat)) := by
        intro c hc
        have q : (((1 : Int64) <<< ((iI (((e - s).toNat : Nat) : Int)).toInt64 &&& 63)) - 1).toBitVec.getLsbD (c - s.toNat) = decide (c - s.toNat < (e - s).toNat) := cb1 ⟨(e - s).toNat, by omega⟩ ⟨c - s.toNat, by omega⟩
        have q2 := i64_shl (((1 : Int64) <<< ((iI (e - s)).toInt64 &&& 63)) - 1) (s := s.toNat) (c := c) (by omega) hc
        rw [← e2] at q2
        rw [q2]
        rw [← e1] at q
        rw [q]
      refine h _ ?_ (fun c hc => ?_)
      · constructor
        · intro hz
          have := hb s.toNat (by omega)
          rw [hz] at this
          have z : (0 : Int64).toBitVec.getLsbD s.toNat = false := BitVec.getLsbD_zero
          rw [z] at this
          rw [decide_eq_true (Nat.le_refl _), decide_eq_true (by omega)] at this
          exact absurd this (by decide)
        · intro hz; exact absurd hz (by omega)
      · rw [hb c hc]
        by_cases g1 : s.toNat ≤ c ∧ c - s.toNat < (e - s).toNat
        · rw [decide_eq_true g1.1, decide_eq_true g1.2]
          exact ((inn_iff _ _ _).mpr (by omega)).symm
        · have : inn ((c : Int) - a) 0 (w - 1) = false := by rw [inn_f]; omega
          rw [this]
          by_cases g2 : s.toNat ≤ c
          · rw [decide_eq_false (p := c - s.toNat < (e - s).toNat) (by omega), Bool.and_false]
          · rw [decide_eq_false g2, Bool.false_and]
  unfold P_X0_columnBits
  simp (disch := omega) only [iI_add, iI_lt, i_m9, i_m1, i_0, i_1, i_2, i_3, i_4, i_5, i_6, i_7, i_8, i_9, i_10, i_11, i_12, i_13, i_14, i_15, i_16, i_17, i_18, i_19, i_20, i_21, i_22, i_23, i_24, i_25, i_26, i_27, i_28, i_29, i_30, i_31, i_32, i_33, i_34, i_35, i_36, i_37, i_38, i_39, i_40, i_41, i_42, i_43, i_44, i_45, i_46, i_47, i_48, i_49, i_50, i_51, i_52, i_53, i_54, i_55, i_56, i_57, i_58, i_59, i_60, i_61, i_62, i_63, i_64, i_65, i_66, i_67, i_68, i_69, i_70, i_72, i_77, i_78, i_80, i_81, i_82, i_83, i_84, i_87, i_88, i_96, i_98, i_100, i_101, i_103, i_118, i_119, i_126, i_133, i_137, i_144, i_154, i_158, i_160, i_190, i_199, i_200, i_207, i_209, i_213, i_229, i_252, i_254, i_255, i_260, i_282, i_303, i_304, i_321, i_348, i_435, i_492, i_522, i_1000, i_1023, i_1600, i_2903, iI_neg]
  by_cases g1 : 60 < a + w
  · by_cases g2 : a < 0
    · simp only [g1, g2, ↓reduceIte]
      have := fin 0 60 (Or.inl ⟨g2, rfl⟩) (Or.inl ⟨g1, rfl⟩)
      simp (disch := omega) only [iI_le, iI_sub]
      exact this
    · simp only [g1, g2, ↓reduceIte]
      have := fin a 60 (Or.inr ⟨by omega, rfl⟩) (Or.inl ⟨g1, rfl⟩)
      simp (disch := omega) only [iI_le, iI_sub]
      exact this
  · by_cases g2 : a < 0
    · simp only [g1, g2, ↓reduceIte]
      have := fin 0 (a + w) (Or.inl ⟨g2, rfl⟩) (Or.inr ⟨by omega, rfl⟩)
      simp (disch := omega) only [iI_le, iI_sub]
      exact this
    · simp only [g1, g2, ↓reduceIte]
      have := fin a (a + w) (Or.inr ⟨by omega, rfl⟩) (Or.inr ⟨by omega, rfl⟩)
      simp (disch := omega) only [iI_le, iI_sub]
      exact this
def cvp (t0 c0 s w t c : Int) : Bool := decide (t0 ≤ t) && inn (c - (c0 + s * (t - t0))) 0 (w - 1)
theorem cov_p (f : Int → Int) (b t c : Int) : cov f b t c = cvp (f (52 + 5 * b + 0)) (f (52 + 5 * b + 1)) (f (52 + 5 * b + 2)) (f (52 + 5 * b + 3)) t c := rfl
/-- the light: bit c of row r in beat t -/
def LTp (p : Int → Int → Int → Bool) (L : Nat → Int64) : Prop := ∀ r t c : Nat, r < 8 → t < 200 → c < 60 → (L (r * 200 + t)).toBitVec.getLsbD c = p r t c
theorem s_X2_shine {p : Int → Int → Int → Bool} {t0 c0 s w rows : Int} {L : Nat → Int64} {Q : (Nat → Int64) → Prop} (ht : 0 ≤ t0 ∧ t0 ≤ 199) (hc : 0 ≤ c0 ∧ c0 ≤ 59) (hs : -9 ≤ s ∧ s ≤ 9) (hw : 1 ≤ w ∧ w ≤ 9) (hL : LTp p L)
    (h : ∀ L2, LTp (fun r t c => p r t c || (bt rows r && cvp t0 c0 s w t c)) L2 → Q L2) : P_X2_shine (iI t0) (iI c0) (iI s) (iI w) (iI rows) L Q := by
  have lp : ∀ (m b : Nat), b + m = 200 → t0 ≤ b → ∀ L2 : Nat → Int64, (∀ r t c : Nat, r < 8 → t < 200 → c < 60 → (L2 (r * 200 + t)).toBitVec.getLsbD c = if t < b then p r t c || (bt rows r && cvp t0 c0 s w t c) else p r t c) →
      P_X2_shine_L7 (iI t0) (iI c0) (iI s) (iI w) (iI rows) Q (m + 1) (iI b) L2 := by
    intro m
    induction m with
    | zero =>
      intro b hb htb L2 hL2
      rw [P_X2_shine_L7_s]
      unfold B_X2_shine_L7
      simp (disch := omega) only [iI_add, iI_sub, iI_mul, iI_neg, iI_lt, iI_le, iI_eq, iI_cl, aI_at, aI_up, aI_l0, aI_l1, aI_l2, aI_l3, i_m9, i_m1, i_0, i_1, i_2, i_3, i_4, i_5, i_6, i_7, i_8, i_9, i_10, i_11, i_12, i_13, i_14, i_15, i_16, i_17, i_18, i_19, i_20, i_21, i_22, i_23, i_24, i_25, i_26, i_27, i_28, i_29, i_30, i_31, i_32, i_33, i_34, i_35, i_36, i_37, i_38, i_39, i_40, i_41, i_42, i_43, i_44, i_45, i_46, i_47, i_48, i_49, i_50, i_51, i_52, i_53, i_54, i_55, i_56, i_57, i_58, i_59, i_60, i_61, i_62, i_63, i_64, i_65, i_66, i_67, i_68, i_69, i_70, i_72, i_77, i_78, i_80, i_81, i_82, i_83, i_84, i_87, i_88, i_96, i_98, i_100, i_101, i_103, i_118, i_119, i_126, i_133, i_137, i_144, i_154, i_158, i_160, i_190, i_199, i_200, i_207, i_209, i_213, i_229, i_252, i_254, i_255, i_260, i_282, i_303, i_304, i_321, i_348, i_435, i_492, i_522, i_1000, i_1023, i_1600, i_2903, iI_neg]
      refine ⟨fun _ => h L2 (fun r t c hr ht2 hc2 => ?_), fun hx => absurd (by omega) hx⟩
      rw [hL2 r t c hr ht2 hc2, if_pos (by omega)]
    | succ m ih =>
      intro b hb htb L2 hL2
      have hsb := mulb hs.1 hs.2 (a := (b : Int) - t0) (n := 199) (by omega) (by omega)
      have hcv : ∀ c : Int, cvp t0 c0 s w b c = inn (c - (c0 + s * ((b : Int) - t0))) 0 (w - 1) := fun c => by
        unfold cvp; rw [decide_eq_true (by omega), Bool.true_and]
      rw [P_X2_shine_L7_s]
      unfold B_X2_shine_L7
      simp (disch := omega) only [iI_add, iI_sub, iI_mul, iI_neg, iI_lt, iI_le, iI_eq, iI_cl, aI_at, aI_up, aI_l0, aI_l1, aI_l2, aI_l3, i_m9, i_m1, i_0, i_1, i_2, i_3, i_4, i_5, i_6, i_7, i_8, i_9, i_10, i_11, i_12, i_13, i_14, i_15, i_16, i_17, i_18, i_19, i_20, i_21, i_22, i_23, i_24, i_25, i_26, i_27, i_28, i_29, i_30, i_31, i_32, i_33, i_34, i_35, i_36, i_37, i_38, i_39, i_40, i_41, i_42, i_43, i_44, i_45, i_46, i_47, i_48, i_49, i_50, i_51, i_52, i_53, i_54, i_55, i_56, i_57, i_58, i_59, i_60, i_61, i_62, i_63, i_64, i_65, i_66, i_67, i_68, i_69, i_70, i_72, i_77, i_78, i_80, i_81, i_82, i_83, i_84, i_87, i_88, i_96, i_98, i_100, i_101, i_103, i_118, i_119, i_126, i_133, i_137, i_144, i_154, i_158, i_160, i_190, i_199, i_200, i_207, i_209, i_213, i_229, i_252, i_254, i_255, i_260, i_282, i_303, i_304, i_321, i_348, i_435, i_492, i_522, i_1000, i_1023, i_1600, i_2903, iI_neg]
      refine ⟨fun hx => absurd hx (by omega), fun _ => s_X0_columnBits (by omega) (by omega) hw.1 hw.2 (fun x hx0 hxb => ⟨8 + 1, ?_⟩)⟩
      have li : ∀ (k r : Nat), r + k = 8 → ∀ L3 : Nat → Int64, (∀ r2 t c : Nat, r2 < 8 → t < 200 → c < 60 → (L3 (r2 * 200 + t)).toBitVec.getLsbD c = if t < b ∨ (t = b ∧ r2 < r) then p r2 t c || (bt rows r2 && cvp t0 c0 s w t c) else p r2 t c) →
          P_X2_shine_L33 (iI rows) (iI b) x (fun (s_light_4 : Nat → Int64) => P_X2_shine_L7 (iI t0) (iI c0) (iI s) (iI w) (iI rows) Q (m + 1) (iI ((b : Int) + 1)) s_light_4) (k + 1) (iI r) L3 := by
        intro k
        induction k with
        | zero =>
          intro r hr L3 hL3
          rw [P_X2_shine_L33_s]
          unfold B_X2_shine_L33
          simp (disch := omega) only [iI_le, i_m9, i_m1, i_0, i_1, i_2, i_3, i_4, i_5, i_6, i_7, i_8, i_9, i_10, i_11, i_12, i_13, i_14, i_15, i_16, i_17, i_18, i_19, i_20, i_21, i_22, i_23, i_24, i_25, i_26, i_27, i_28, i_29, i_30, i_31, i_32, i_33, i_34, i_35, i_36, i_37, i_38, i_39, i_40, i_41, i_42, i_43, i_44, i_45, i_46, i_47, i_48, i_49, i_50, i_51, i_52, i_53, i_54, i_55, i_56, i_57, i_58, i_59, i_60, i_61, i_62, i_63, i_64, i_65, i_66, i_67, i_68, i_69, i_70, i_72, i_77, i_78, i_80, i_81, i_82, i_83, i_84, i_87, i_88, i_96, i_98, i_100, i_101, i_103, i_118, i_119, i_126, i_133, i_137, i_144, i_154, i_158, i_160, i_190, i_199, i_200, i_207, i_209, i_213, i_229, i_252, i_254, i_255, i_260, i_282, i_303, i_304, i_321, i_348, i_435, i_492, i_522, i_1000, i_1023, i_1600, i_2903, iI_neg]
          refine ⟨fun _ => ?_, fun hx => absurd (by omega) hx⟩
          have := ih (b + 1) (by omega) (by omega) L3 (fun r2 t c h1 h2 h3 => by
            rw [hL3 r2 t c h1 h2 h3]
            by_cases e : t < b + 1
            · rw [if_pos e, if_pos (by omega)]
            · rw [if_neg e, if_neg (by omega)])
          rw [nsucc] at this
          exact this
        | succ k ihk =>
          intro r hr L3 hL3
          have ihk1 := fun L4 h4 => ihk (r + 1) (by omega) L4 h4
          rw [nsucc] at ihk1
          rw [P_X2_shine_L33_s]
          unfold B_X2_shine_L33 P_X2_shine_J77
          simp (disch := omega) only [iI_le, lgz, i_m9, i_m1, i_0, i_1, i_2, i_3, i_4, i_5, i_6, i_7, i_8, i_9, i_10, i_11, i_12, i_13, i_14, i_15, i_16, i_17, i_18, i_19, i_20, i_21, i_22, i_23, i_24, i_25, i_26, i_27, i_28, i_29, i_30, i_31, i_32, i_33, i_34, i_35, i_36, i_37, i_38, i_39, i_40, i_41, i_42, i_43, i_44, i_45, i_46, i_47, i_48, i_49, i_50, i_51, i_52, i_53, i_54, i_55, i_56, i_57, i_58, i_59, i_60, i_61, i_62, i_63, i_64, i_65, i_66, i_67, i_68, i_69, i_70, i_72, i_77, i_78, i_80, i_81, i_82, i_83, i_84, i_87, i_88, i_96, i_98, i_100, i_101, i_103, i_118, i_119, i_126, i_133, i_137, i_144, i_154, i_158, i_160, i_190, i_199, i_200, i_207, i_209, i_213, i_229, i_252, i_254, i_255, i_260, i_282, i_303, i_304, i_321, i_348, i_435, i_492, i_522, i_1000, i_1023, i_1600, i_2903, iI_neg]
          refine ⟨fun hx => absurd hx (by omega), fun _ => ⟨fun hz => ?_, fun hz => ⟨fun hb1 => ?_, fun hb1 => ?_⟩⟩⟩
          · have hz2 := hx0.mp hz
            have := ih (b + 1) (by omega) (by omega) L3 (fun r2 t c h1 h2 h3 => by
              rw [hL3 r2 t c h1 h2 h3]
              have hf : t = b → (p r2 t c || (bt rows r2 && cvp t0 c0 s w t c)) = p r2 t c := fun e => by
                subst e
                rw [hcv, show inn ((c : Int) - (c0 + s * ((t : Int) - t0))) 0 (w - 1) = false by rw [inn_f]; omega, Bool.and_false, Bool.or_false]
              by_cases e : t < b + 1
              · rw [if_pos e]
                by_cases e2 : t < b ∨ (t = b ∧ r2 < r)
                · rw [if_pos e2]
                · rw [if_neg e2, hf (by omega)]
              · rw [if_neg e, if_neg (by omega)])
            rw [nsucc] at this
            exact this
          · have hbf : bt rows r = false := decide_eq_false hb1
            simp only [iI_add]
            refine ihk1 L3 (fun r2 t c h1 h2 h3 => ?_)
            rw [hL3 r2 t c h1 h2 h3]
            by_cases e : t < b ∨ (t = b ∧ r2 < r)
            · rw [if_pos e, if_pos (by omega)]
            · rw [if_neg e]
              by_cases e2 : t = b ∧ r2 = r
              · rw [if_pos (by omega), e2.2, hbf, Bool.false_and, Bool.or_false]
              · rw [if_neg (by omega)]
          · have hbf : bt rows r = true := decide_eq_true hb1
            simp (disch := omega) only [iI_add, iI_mul, iI_cl]
            refine ⟨iI_in (by omega) (by omega) (by omega), iI_in (by omega) (by omega) (by omega), ihk1 _ (fun r2 t c h1 h2 h3 => ?_)⟩
            have ex : ((r : Int) * 200 + (b : Int)).toNat = r * 200 + b := by omega
            rw [ex]
            by_cases e2 : t = b ∧ r2 = r
            · obtain ⟨rfl, rfl⟩ := e2
              rw [pk_uLs, if_pos (by omega), Int64.toBitVec_or, BitVec.getLsbD_or, hL3 r2 t c h1 h2 h3, if_neg (by omega), hbf, Bool.true_and, hcv, hxb c h3]
            · rw [pk_uLn (by omega), hL3 r2 t c h1 h2 h3]
              by_cases e : t < b ∨ (t = b ∧ r2 < r)
              · rw [if_pos e, if_pos (by omega)]
              · rw [if_neg e, if_neg (by omega)]
      have := li 8 0 rfl L2 (fun r2 t c h1 h2 h3 => by
        rw [hL2 r2 t c h1 h2 h3]
        by_cases e : t < b
        · rw [if_pos e, if_pos (Or.inl e)]
        · rw [if_neg e, if_neg (by omega)])
      exact this
  unfold P_X2_shine
  simp (disch := omega) only [iI_lt, i_m9, i_m1, i_0, i_1, i_2, i_3, i_4, i_5, i_6, i_7, i_8, i_9, i_10, i_11, i_12, i_13, i_14, i_15, i_16, i_17, i_18, i_19, i_20, i_21, i_22, i_23, i_24, i_25, i_26, i_27, i_28, i_29, i_30, i_31, i_32, i_33, i_34, i_35, i_36, i_37, i_38, i_39, i_40, i_41, i_42, i_43, i_44, i_45, i_46, i_47, i_48, i_49, i_50, i_51, i_52, i_53, i_54, i_55, i_56, i_57, i_58, i_59, i_60, i_61, i_62, i_63, i_64, i_65, i_66, i_67, i_68, i_69, i_70, i_72, i_77, i_78, i_80, i_81, i_82, i_83, i_84, i_87, i_88, i_96, i_98, i_100, i_101, i_103, i_118, i_119, i_126, i_133, i_137, i_144, i_154, i_158, i_160, i_190, i_199, i_200, i_207, i_209, i_213, i_229, i_252, i_254, i_255, i_260, i_282, i_303, i_304, i_321, i_348, i_435, i_492, i_522, i_1000, i_1023, i_1600, i_2903, iI_neg]
  rw [if_neg (by omega)]
  have := lp (200 - t0).toNat t0.toNat (by omega) (by omega) L (fun r t c h1 h2 h3 => by
    rw [hL r t c h1 h2 h3]
    by_cases e : t < t0.toNat
    · rw [if_pos e]
      have : cvp t0 c0 s w t c = false := by unfold cvp; rw [decide_eq_false (by omega), Bool.false_and]
      rw [this, Bool.and_false, Bool.or_false]
    · rw [if_neg e])
  rw [show ((t0.toNat : Nat) : Int) = t0 by omega] at this
  exact ⟨_, this⟩
theorem s_fillL {L : Nat → Int64} {n : Nat} {Q : (Nat → Int64) → Prop} (hn : n < 2147483648) (h : ∀ L2, (∀ j, j < n → L2 j = 0) → Q L2) : P_J7_fill_d0a16 n 0 L Q := by
  have lp : ∀ (m k : Nat), k + m = n → ∀ L2 : Nat → Int64, (∀ j, j < k → L2 j = 0) → P_J7_fill_d0a16_L6 n 0 (iI (n : Int)) Q (m + 1) (iI k) L2 := by
    intro m
    induction m with
    | zero =>
      intro k hk L2 hL
      rw [P_J7_fill_d0a16_L6_s]
      unfold B_J7_fill_d0a16_L6
      simp (disch := omega) only [iI_le]
      exact ⟨fun _ => h L2 (fun j hj => hL j (by omega)), fun hx => absurd (by omega) hx⟩
    | succ m ih =>
      intro k hk L2 hL
      rw [P_J7_fill_d0a16_L6_s]
      unfold B_J7_fill_d0a16_L6
      simp (disch := omega) only [iI_le, iI_add, iI_cl, i_m9, i_m1, i_0, i_1, i_2, i_3, i_4, i_5, i_6, i_7, i_8, i_9, i_10, i_11, i_12, i_13, i_14, i_15, i_16, i_17, i_18, i_19, i_20, i_21, i_22, i_23, i_24, i_25, i_26, i_27, i_28, i_29, i_30, i_31, i_32, i_33, i_34, i_35, i_36, i_37, i_38, i_39, i_40, i_41, i_42, i_43, i_44, i_45, i_46, i_47, i_48, i_49, i_50, i_51, i_52, i_53, i_54, i_55, i_56, i_57, i_58, i_59, i_60, i_61, i_62, i_63, i_64, i_65, i_66, i_67, i_68, i_69, i_70, i_72, i_77, i_78, i_80, i_81, i_82, i_83, i_84, i_87, i_88, i_96, i_98, i_100, i_101, i_103, i_118, i_119, i_126, i_133, i_137, i_144, i_154, i_158, i_160, i_190, i_199, i_200, i_207, i_209, i_213, i_229, i_252, i_254, i_255, i_260, i_282, i_303, i_304, i_321, i_348, i_435, i_492, i_522, i_1000, i_1023, i_1600, i_2903, iI_neg]
      refine ⟨fun hx => absurd hx (by omega), fun _ => ⟨iI_in (by omega) (by omega) (by omega), ?_⟩⟩
      have := ih (k + 1) (by omega) (vp_updL L2 k 0) (fun j hj => by
        by_cases e : j = k
        · rw [e, pk_uLs]
        · rw [pk_uLn e]; exact hL j (by omega))
      rw [nsucc] at this
      rw [Int.toNat_natCast]
      exact this
  unfold P_J7_fill_d0a16
  rw [← iI_nat hn, i_0]
  exact ⟨_, lp n 0 (by omega) L (fun j hj => absurd hj (by omega))⟩
theorem s_fillI {L : Nat → Int32} {n : Nat} {v : Int} {Q : (Nat → Int32) → Prop} (hn : n < 2147483648) (h : ∀ g : Int → Int, (∀ j : Int, 0 ≤ j → j < n → g j = v) → Q (aI g)) : P_J7_fill_53178 n (iI v) L Q := by
  have lp : ∀ (m k : Nat), k + m = n → ∀ g : Int → Int, (∀ j : Int, 0 ≤ j → j < k → g j = v) → P_J7_fill_53178_L5 n (iI v) (iI (n : Int)) Q (m + 1) (iI k) (aI g) := by
    intro m
    induction m with
    | zero =>
      intro k hk g hg
      rw [P_J7_fill_53178_L5_s]
      unfold B_J7_fill_53178_L5
      simp (disch := omega) only [iI_le]
      exact ⟨fun _ => h g (fun j h0 hj => hg j h0 (by omega)), fun hx => absurd (by omega) hx⟩
    | succ m ih =>
      intro k hk g hg
      rw [P_J7_fill_53178_L5_s]
      unfold B_J7_fill_53178_L5
      simp (disch := omega) only [iI_le, iI_add, iI_cl, aI_up, i_m9, i_m1, i_0, i_1, i_2, i_3, i_4, i_5, i_6, i_7, i_8, i_9, i_10, i_11, i_12, i_13, i_14, i_15, i_16, i_17, i_18, i_19, i_20, i_21, i_22, i_23, i_24, i_25, i_26, i_27, i_28, i_29, i_30, i_31, i_32, i_33, i_34, i_35, i_36, i_37, i_38, i_39, i_40, i_41, i_42, i_43, i_44, i_45, i_46, i_47, i_48, i_49, i_50, i_51, i_52, i_53, i_54, i_55, i_56, i_57, i_58, i_59, i_60, i_61, i_62, i_63, i_64, i_65, i_66, i_67, i_68, i_69, i_70, i_72, i_77, i_78, i_80, i_81, i_82, i_83, i_84, i_87, i_88, i_96, i_98, i_100, i_101, i_103, i_118, i_119, i_126, i_133, i_137, i_144, i_154, i_158, i_160, i_190, i_199, i_200, i_207, i_209, i_213, i_229, i_252, i_254, i_255, i_260, i_282, i_303, i_304, i_321, i_348, i_435, i_492, i_522, i_1000, i_1023, i_1600, i_2903, iI_neg]
      refine ⟨fun hx => absurd hx (by omega), fun _ => ⟨iI_in (by omega) (by omega) (by omega), ?_⟩⟩
      have := ih (k + 1) (by omega) (up g k v) (fun j h0 hj => by
        by_cases e : j = k
        · rw [e, up_eq]
        · rw [up_ne e]; exact hg j h0 (by omega))
      rw [nsucc] at this
      exact this
  unfold P_J7_fill_53178
  rw [← iI_nat hn, i_0, aI_of L]
  exact ⟨_, lp n 0 (by omega) _ (fun j h0 hj => absurd hj (by omega))⟩
/-- whether one of the first n beams, but one, lights a place -/
def lbs (f : Int → Int) (left r t c : Int) : Nat → Bool
  | 0 => false
  | n + 1 => lbs f left r t c n || (decide ((n : Int) ≠ left) && (bt (f (52 + 5 * (n : Int) + 4)) r && cov f n t c))
theorem lbs_all (f : Int → Int) (r t c : Int) : ∀ n : Nat, lbs f (-1) r t c n = lts f r t c n
  | 0 => rfl
  | n + 1 => by
    unfold lbs lts
    rw [lbs_all f r t c n, decide_eq_true (by omega), Bool.true_and]
theorem lbs_iff (f : Int → Int) (left r t c : Int) : ∀ n : Nat, lbs f left r t c n = true ↔ ∃ i : Int, 0 ≤ i ∧ i < n ∧ i ≠ left ∧ bt (f (52 + 5 * i + 4)) r = true ∧ cov f i t c = true
  | 0 => ⟨fun h => absurd h (by unfold lbs; decide), fun ⟨i, h0, h1, _⟩ => absurd h0 (by omega)⟩
  | n + 1 => by
    have ih := lbs_iff f left r t c n
    unfold lbs
    rw [Bool.or_eq_true, ih, Bool.and_eq_true, Bool.and_eq_true, decide_eq_true_iff]
    constructor
    · rintro (⟨i, h0, h1, h2⟩ | ⟨h1, h2, h3⟩)
      · exact ⟨i, h0, by omega, h2⟩
      · exact ⟨n, by omega, by omega, h1, h2, h3⟩
    · rintro ⟨i, h0, h1, h2, h3, h4⟩
      by_cases e : i = n
      · subst e; exact Or.inr ⟨h2, h3, h4⟩
      · exact Or.inl ⟨i, h0, by omega, h2, h3, h4⟩
theorem ulF_b {f : Int → Int} {b i j : Int} (b0 : 0 ≤ b) (b1 : b < f 3) (i0 : 0 ≤ i) (i1 : i < f 3 - 1) (j0 : 0 ≤ j) (j1 : j < 5) : ulF f b (52 + 5 * i + j) = if i < b then f (52 + 5 * i + j) else f (52 + 5 * (i + 1) + j) := by
  unfold ulF
  rw [if_neg (by omega)]
  by_cases e : i < b
  · rw [if_pos e, if_neg (by omega)]
  · rw [if_neg e, if_pos (by omega)]
    exact congrArg f (by omega)
theorem lbs_ul {f : Int → Int} {b : Int} (r t c : Int) (b0 : 0 ≤ b) (b1 : b < f 3) : lbs f b r t c (f 3).toNat = lts (ulF f b) r t c (ulF f b 3).toNat := by
  have k3 : ulF f b 3 = f 3 - 1 := by unfold ulF; rw [if_pos rfl]
  rw [k3, ← lbs_all, Bool.eq_iff_iff, lbs_iff, lbs_iff]
  have hc : ∀ i : Int, 0 ≤ i → i < f 3 - 1 → bt (ulF f b (52 + 5 * i + 4)) r = bt (f (52 + 5 * (if i < b then i else i + 1) + 4)) r ∧ cov (ulF f b) i t c = cov f (if i < b then i else i + 1) t c := by
    intro i i0 i1
    rw [cov_p, cov_p, ulF_b b0 b1 i0 i1 (by omega) (by omega), ulF_b b0 b1 i0 i1 (by omega) (by omega), ulF_b b0 b1 i0 i1 (by omega) (by omega), ulF_b b0 b1 i0 i1 (by omega) (by omega), ulF_b b0 b1 i0 i1 (by omega) (by omega)]
    by_cases e : i < b
    · simp only [e, ↓reduceIte]; exact ⟨trivial, trivial⟩
    · simp only [e, ↓reduceIte]; exact ⟨trivial, trivial⟩
  constructor
  · rintro ⟨i, h0, h1, h2, h3, h4⟩
    by_cases e : i < b
    · have := hc i h0 (by omega)
      rw [if_pos e] at this
      exact ⟨i, h0, by omega, by omega, this.1.trans h3, this.2.trans h4⟩
    · have := hc (i - 1) (by omega) (by omega)
      rw [if_neg (by omega), show i - 1 + 1 = i by omega] at this
      exact ⟨i - 1, by omega, by omega, by omega, this.1.trans h3, this.2.trans h4⟩
  · rintro ⟨i, h0, h1, h2, h3, h4⟩
    have := hc i h0 (by omega)
    by_cases e : i < b
    · rw [if_pos e] at this
      exact ⟨i, h0, by omega, by omega, this.1.symm.trans h3, this.2.symm.trans h4⟩
    · rw [if_neg e] at this
      exact ⟨i + 1, by omega, by omega, by omega, this.1.symm.trans h3, this.2.symm.trans h4⟩
theorem s_X2_shineAllBut {c f : Int → Int} {left : Int} {L : Nat → Int64} {Q : (Nat → Int64) → Prop} (hA : Ag c f) (hf : OK 6 f) (hl : -1 ≤ left ∧ left < 6) (h : ∀ L2, LTp (fun r t c => lbs f left r t c (f 3).toNat) L2 → Q L2) : P_X2_shineAllBut (iI left) (aI c) L Q := by
  have n3 := hf.2.2.2.1
  have hB := hf.2.2.2.2.2
  have lp : ∀ (m b : Nat), (b : Int) + m = f 3 → ∀ L2 : Nat → Int64, LTp (fun r t c => lbs f left r t c b) L2 → P_X2_shineAllBut_L10 (iI left) (aI c) Q (m + 1) (iI b) L2 := by
    intro m
    induction m with
    | zero =>
      intro b hb L2 hL2
      rw [P_X2_shineAllBut_L10_s]
      unfold B_X2_shineAllBut_L10
      refine s_X0_beams hA ?_
      simp (disch := omega) only [iI_le]
      refine ⟨fun _ => h L2 ?_, fun hx => absurd (by omega) hx⟩
      rw [show (f 3).toNat = b by omega]
      exact hL2
    | succ m ih =>
      intro b hb L2 hL2
      have ih1 := fun L3 h3 => ih (b + 1) (by omega) L3 h3
      rw [nsucc] at ih1
      obtain ⟨q0, q1, q2, q3, q4⟩ := hB b (by omega) (by omega)
      rw [P_X2_shineAllBut_L10_s]
      unfold B_X2_shineAllBut_L10 P_X2_shineAllBut_J75
      refine s_X0_beams hA ?_
      simp (disch := omega) only [iI_le, iI_eq, iI_add, i_m9, i_m1, i_0, i_1, i_2, i_3, i_4, i_5, i_6, i_7, i_8, i_9, i_10, i_11, i_12, i_13, i_14, i_15, i_16, i_17, i_18, i_19, i_20, i_21, i_22, i_23, i_24, i_25, i_26, i_27, i_28, i_29, i_30, i_31, i_32, i_33, i_34, i_35, i_36, i_37, i_38, i_39, i_40, i_41, i_42, i_43, i_44, i_45, i_46, i_47, i_48, i_49, i_50, i_51, i_52, i_53, i_54, i_55, i_56, i_57, i_58, i_59, i_60, i_61, i_62, i_63, i_64, i_65, i_66, i_67, i_68, i_69, i_70, i_72, i_77, i_78, i_80, i_81, i_82, i_83, i_84, i_87, i_88, i_96, i_98, i_100, i_101, i_103, i_118, i_119, i_126, i_133, i_137, i_144, i_154, i_158, i_160, i_190, i_199, i_200, i_207, i_209, i_213, i_229, i_252, i_254, i_255, i_260, i_282, i_303, i_304, i_321, i_348, i_435, i_492, i_522, i_1000, i_1023, i_1600, i_2903, iI_neg]
      refine ⟨fun hx => absurd hx (by omega), fun _ => ⟨fun e => ih1 L2 (fun r t c h1 h2 h3 => ?_), fun e => ?_⟩⟩
      · rw [hL2 r t c h1 h2 h3]
        show _ = (lbs f left r t c b || (decide ((b : Int) ≠ left) && _))
        rw [decide_eq_false (by omega), Bool.false_and, Bool.or_false]
      · refine s_X0_ofBeam hA (by omega) (by omega) (by omega) (by omega) (by omega) ?_
        refine s_X0_ofBeam hA (by omega) (by omega) (by omega) (by omega) (by omega) ?_
        refine s_X0_ofBeam hA (by omega) (by omega) (by omega) (by omega) (by omega) ?_
        refine s_X0_ofBeam hA (by omega) (by omega) (by omega) (by omega) (by omega) ?_
        refine s_X0_ofBeam hA (by omega) (by omega) (by omega) (by omega) (by omega) ?_
        refine s_X2_shine q0 q1 q2 q3 hL2 (fun L3 h3 => ih1 L3 (fun r t c g1 g2 g3 => ?_))
        rw [h3 r t c g1 g2 g3]
        show _ = (lbs f left r t c b || (decide ((b : Int) ≠ left) && (bt (f (52 + 5 * (b : Int) + 4)) r && cov f b t c)))
        rw [decide_eq_true e, Bool.true_and, cov_p]
  unfold P_X2_shineAllBut
  refine s_fillL (by omega) (fun L2 hL2 => ?_)
  rw [i_0]
  refine ⟨_, lp (f 3).toNat 0 (by omega) L2 (fun r t c h1 h2 h3 => ?_)⟩
  rw [hL2 _ (by omega)]
  show (0 : Int64).toBitVec.getLsbD c = false
  exact BitVec.getLsbD_zero
