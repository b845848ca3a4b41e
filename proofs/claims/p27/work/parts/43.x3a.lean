theorem up_comm {f : Int → Int} {a b v u : Int} (h : a ≠ b) : up (up f a v) b u = up (up f b u) a v := by
  funext j
  by_cases e : j = b
  · rw [e, up_eq, up_ne (by omega), up_eq]
  · rw [up_ne e]
    by_cases e2 : j = a
    · rw [e2, up_eq, up_eq]
    · rw [up_ne e2, up_ne e2, up_ne e]
theorem Ag_cong {c f c2 f2 : Int → Int} (hA : Ag c f) (n2 : f 2 ≤ 8) (n3 : f 3 ≤ 6) (hc : ∀ j : Int, 0 ≤ j → j < 82 → c2 j = c j) (hf : ∀ j : Int, 0 ≤ j → j < 87 → f2 j = f j) : Ag c2 f2 := by
  obtain ⟨⟨a0, a1, a2, a3⟩, a4, a5⟩ := hA
  refine ⟨⟨?_, ?_, ?_, ?_⟩, fun w i w0 w1 i0 i1 => ?_, fun b i b0 b1 i0 i1 => ?_⟩
  · rw [hc _ (by omega) (by omega), hf _ (by omega) (by omega)]; exact a0
  · rw [hc _ (by omega) (by omega), hf _ (by omega) (by omega)]; exact a1
  · rw [hc _ (by omega) (by omega), hf _ (by omega) (by omega)]; exact a2
  · rw [hc _ (by omega) (by omega), hf _ (by omega) (by omega)]; exact a3
  · rw [hf 2 (by omega) (by omega)] at w1
    rw [hc _ (by omega) (by omega), hf _ (by omega) (by omega)]; exact a4 w i w0 w1 i0 i1
  · rw [hf 3 (by omega) (by omega)] at b1
    rw [hc _ (by omega) (by omega), hf _ (by omega) (by omega)]; exact a5 b i b0 b1 i0 i1
theorem OK_87 {f f2 : Int → Int} (hf : OK 6 f) (h : ∀ j : Int, 0 ≤ j → j < 87 → f2 j = f j) : OK 6 f2 := by
  have n2 := hf.2.2.1
  have n3 := hf.2.2.2.1
  refine OK_cong ⟨⟨h _ (by omega) (by omega), h _ (by omega) (by omega), h _ (by omega) (by omega), h _ (by omega) (by omega)⟩, fun w w0 w1 i i0 i1 => h _ (by omega) (by omega), fun b b0 b1 i i0 i1 => h _ (by omega) (by omega)⟩ hf
/-- the saved states agree -/
def SvR (k : Int) (S P : Int → Int) : Prop := ∀ i : Int, 0 ≤ i → i < k → Ag (fun j => S (82 * i + j)) (fun j => P (87 * i + j)) ∧ OK 6 (fun j => P (87 * i + j))
theorem s_X0_copyTo {c S : Int → Int} {p : Int} {Q : (Nat → Int32) → Prop} (p0 : 0 ≤ p) (p1 : p + 82 ≤ 492) (h : Q (aI (cpA c 0 S p 82))) : P_X0_copyTo (iI p) (aI c) (aI S) Q := by
  unfold P_X0_copyTo
  simp (disch := omega) only [iI_add, iI_sub, iI_mul, iI_neg, iI_lt, iI_le, iI_eq, iI_cl, aI_at, aI_up, aI_l0, aI_l1, aI_l2, aI_l3, i_m9, i_m1, i_0, i_1, i_2, i_3, i_4, i_5, i_6, i_7, i_8, i_9, i_10, i_11, i_12, i_13, i_14, i_15, i_16, i_17, i_18, i_19, i_20, i_21, i_22, i_23, i_24, i_25, i_26, i_27, i_28, i_29, i_30, i_31, i_32, i_33, i_34, i_35, i_36, i_37, i_38, i_39, i_40, i_41, i_42, i_43, i_44, i_45, i_46, i_47, i_48, i_49, i_50, i_51, i_52, i_53, i_54, i_55, i_56, i_57, i_58, i_59, i_60, i_61, i_62, i_63, i_64, i_65, i_66, i_67, i_68, i_69, i_70, i_72, i_77, i_78, i_80, i_81, i_82, i_83, i_84, i_87, i_88, i_96, i_98, i_100, i_101, i_103, i_118, i_119, i_126, i_133, i_137, i_144, i_154, i_158, i_160, i_190, i_199, i_200, i_207, i_209, i_213, i_229, i_252, i_254, i_255, i_260, i_282, i_303, i_304, i_321, i_348, i_435, i_492, i_522, i_1000, i_1023, i_1600, i_2903, iI_neg]
  refine ⟨fun hx => absurd hx (by omega), fun _ => ⟨fun hx => absurd hx (by omega), fun _ => ⟨⟨by omega, by omega, by omega, by omega, by omega⟩, ?_⟩⟩⟩
  rw [aI_cpy, show ((p.toNat : Nat) : Int) = p by omega]
  exact h
theorem s_X0_copyFrom {c S : Int → Int} {p : Int} {Q : (Nat → Int32) → Prop} (p0 : 0 ≤ p) (p1 : p + 82 ≤ 492) (h : Q (aI (cpA S p c 0 82))) : P_X0_copyFrom (iI p) (aI c) (aI S) Q := by
  unfold P_X0_copyFrom
  simp (disch := omega) only [iI_add, iI_sub, iI_mul, iI_neg, iI_lt, iI_le, iI_eq, iI_cl, aI_at, aI_up, aI_l0, aI_l1, aI_l2, aI_l3, i_m9, i_m1, i_0, i_1, i_2, i_3, i_4, i_5, i_6, i_7, i_8, i_9, i_10, i_11, i_12, i_13, i_14, i_15, i_16, i_17, i_18, i_19, i_20, i_21, i_22, i_23, i_24, i_25, i_26, i_27, i_28, i_29, i_30, i_31, i_32, i_33, i_34, i_35, i_36, i_37, i_38, i_39, i_40, i_41, i_42, i_43, i_44, i_45, i_46, i_47, i_48, i_49, i_50, i_51, i_52, i_53, i_54, i_55, i_56, i_57, i_58, i_59, i_60, i_61, i_62, i_63, i_64, i_65, i_66, i_67, i_68, i_69, i_70, i_72, i_77, i_78, i_80, i_81, i_82, i_83, i_84, i_87, i_88, i_96, i_98, i_100, i_101, i_103, i_118, i_119, i_126, i_133, i_137, i_144, i_154, i_158, i_160, i_190, i_199, i_200, i_207, i_209, i_213, i_229, i_252, i_254, i_255, i_260, i_282, i_303, i_304, i_321, i_348, i_435, i_492, i_522, i_1000, i_1023, i_1600, i_2903, iI_neg]
  refine ⟨fun hx => absurd hx (by omega), fun _ => ⟨fun hx => absurd hx (by omega), fun _ => ⟨⟨by omega, by omega, by omega, by omega, by omega⟩, ?_⟩⟩⟩
  rw [aI_cpy, show ((p.toNat : Nat) : Int) = p by omega]
  exact h
theorem SvR_one {c f S2 P2 : Int → Int} {i : Int} (hA : Ag c f) (hf : OK 6 f) (h1 : ∀ j : Int, 0 ≤ j → j < 82 → S2 (82 * i + j) = c j) (h2 : ∀ j : Int, 0 ≤ j → j < 87 → P2 (87 * i + j) = f j) : Ag (fun j => S2 (82 * i + j)) (fun j => P2 (87 * i + j)) ∧ OK 6 (fun j => P2 (87 * i + j)) :=
  ⟨Ag_cong hA hf.2.2.1.2 hf.2.2.2.1.2 h1 h2, OK_87 hf h2⟩
theorem s_X3_saveState {c f S P : Int → Int} {k : Int} {Q : (Nat → Int32) → Int32 → Prop} (hA : Ag c f) (hf : OK 6 f) (k0 : 0 ≤ k) (k1 : k ≤ 6) (hS : SvR k S P) (h : ∀ S2, SvR (svK k) S2 (svP f P k) → Q (aI S2) (iI (svK k))) : P_X3_saveState (aI c) (aI S) (iI k) Q := by
  unfold P_X3_saveState P_X3_saveState_J35
  simp (disch := omega) only [iI_add, iI_sub, iI_mul, iI_neg, iI_lt, iI_le, iI_eq, iI_cl, aI_at, aI_up, aI_l0, aI_l1, aI_l2, aI_l3, i_m9, i_m1, i_0, i_1, i_2, i_3, i_4, i_5, i_6, i_7, i_8, i_9, i_10, i_11, i_12, i_13, i_14, i_15, i_16, i_17, i_18, i_19, i_20, i_21, i_22, i_23, i_24, i_25, i_26, i_27, i_28, i_29, i_30, i_31, i_32, i_33, i_34, i_35, i_36, i_37, i_38, i_39, i_40, i_41, i_42, i_43, i_44, i_45, i_46, i_47, i_48, i_49, i_50, i_51, i_52, i_53, i_54, i_55, i_56, i_57, i_58, i_59, i_60, i_61, i_62, i_63, i_64, i_65, i_66, i_67, i_68, i_69, i_70, i_72, i_77, i_78, i_80, i_81, i_82, i_83, i_84, i_87, i_88, i_96, i_98, i_100, i_101, i_103, i_118, i_119, i_126, i_133, i_137, i_144, i_154, i_158, i_160, i_190, i_199, i_200, i_207, i_209, i_213, i_229, i_252, i_254, i_255, i_260, i_282, i_303, i_304, i_321, i_348, i_435, i_492, i_522, i_1000, i_1023, i_1600, i_2903, iI_neg]
  refine ⟨fun e => ?_, fun e => ?_⟩
  · refine s_X0_copyTo (by omega) (by omega) ?_
    have e1 : svK k = k + 1 := by unfold svK; rw [if_neg (by omega)]
    have e2 : svP f P k = cpF f 0 P (87 * k) := by unfold svP; rw [if_neg (by omega)]
    rw [e1, e2] at h
    refine h _ (fun i i0 i1 => ?_)
    by_cases e3 : i = k
    · subst e3
      refine SvR_one hA hf (fun j j0 j1 => ?_) (fun j j0 j1 => ?_)
      · unfold cpA; rw [if_pos (by omega)]; exact congrArg c (by omega)
      · unfold cpF; rw [if_pos (by omega)]; exact congrArg f (by omega)
    · obtain ⟨b1, b2⟩ := hS i i0 (by omega)
      refine SvR_one b1 b2 (fun j j0 j1 => ?_) (fun j j0 j1 => ?_)
      · unfold cpA; rw [if_neg (by omega)]
      · unfold cpF; rw [if_neg (by omega)]
  · have ek : k = 6 := by omega
    subst ek
    have e1 : svK 6 = 6 := rfl
    have e2 : svP f P 6 = cpF f 0 (shF P) 435 := rfl
    rw [e1, e2] at h
    refine ⟨⟨by omega, by omega, by omega, by decide, by decide⟩, ?_⟩
    have e9 : ((5 : Int) * 82).toNat = 410 := by decide
    rw [e9, aI_cpy]
    refine s_X0_copyTo (by omega) (by omega) ?_
    refine h _ (fun i i0 i1 => ?_)
    by_cases e3 : i = 5
    · subst e3
      refine SvR_one hA hf (fun j j0 j1 => ?_) (fun j j0 j1 => ?_)
      · unfold cpA; rw [if_pos (by omega)]; exact congrArg c (by omega)
      · unfold cpF; rw [if_pos (by omega)]; exact congrArg f (by omega)
    · obtain ⟨b1, b2⟩ := hS (i + 1) (by omega) (by omega)
      refine SvR_one b1 b2 (fun j j0 j1 => ?_) (fun j j0 j1 => ?_)
      · unfold cpA; rw [if_neg (by omega), if_pos (by omega)]; exact congrArg S (by omega)
      · unfold cpF shF; rw [if_neg (by omega), if_pos (by omega)]; exact congrArg P (by omega)
/-- the class shows the state f -/
def CV (f c : Int → Int) (L : Nat → Int64) (li wh en cs : Int → Int) : Prop := Ag c f ∧ LTS f L ∧ LC f (f 2) li wh en ∧ (∀ t : Int, 0 ≤ t → t < 200 → cs t = cls f t)
theorem LTS_all {f : Int → Int} {L : Nat → Int64} (h : LTp (fun r t c => lbs f (-1) r t c (f 3).toNat) L) : LTS f L := fun r t c h1 h2 h3 => (h r t c h1 h2 h3).trans (lbs_all f r t c _)
theorem Ag_cue {c f : Int → Int} (h : Ag c f) : ∀ w : Int, 0 ≤ w → w < f 2 → c (w * 6 + 3) = f (4 + 6 * w + 3) := fun w w0 w1 => h.2.1 w 3 w0 w1 (by omega) (by omega)
theorem s_X3_showAnew {c f : Int → Int} {L0 : Nat → Int64} {l0 w0 e0 cs0 re0 la0 : Nat → Int32} {cp0 : Int32} {Q : (Nat → Int64) → (Nat → Int32) → (Nat → Int32) → (Nat → Int32) → (Nat → Int32) → Int32 → (Nat → Int32) → (Nat → Int32) → Prop} (hA : Ag c f) (hf : OK 6 f)
    (h : ∀ (L : Nat → Int64) (li wh en cs : Int → Int) (re la : Nat → Int32), CV f c L li wh en cs → Q L (aI li) (aI wh) (aI en) (aI cs) (iI (paS f)) re la) : P_X3_showAnew (aI c) L0 l0 w0 e0 cs0 cp0 re0 la0 Q := by
  unfold P_X3_showAnew
  rw [i_m1]
  refine s_X2_shineAllBut hA hf (by omega) (fun L hL => ?_)
  refine s_X2_settleAll (Ag_AW hA) hf (Ag_cue hA) (LTS_all hL) (fun li wh en re la hl => ?_)
  exact s_X2_findClashes (Ag_AW hA) hf hl (fun cs hcs => h L li wh en cs re la ⟨hA, LTS_all hL, hl, hcs⟩)
theorem s_X3_within {v lo hi : Int} {Q : Int32 → Prop} (a1 : I32 v) (b1 : I32 lo) (c1 : I32 hi) (h : Q (iI (bi (inn v lo hi)))) : P_X3_within (iI v) (iI lo) (iI hi) Q := by
  unfold I32 at a1 b1 c1
  unfold P_X3_within
  simp (disch := omega) only [iI_add, iI_sub, iI_mul, iI_neg, iI_lt, iI_le, iI_eq, iI_cl, aI_at, aI_up, aI_l0, aI_l1, aI_l2, aI_l3, i_m9, i_m1, i_0, i_1, i_2, i_3, i_4, i_5, i_6, i_7, i_8, i_9, i_10, i_11, i_12, i_13, i_14, i_15, i_16, i_17, i_18, i_19, i_20, i_21, i_22, i_23, i_24, i_25, i_26, i_27, i_28, i_29, i_30, i_31, i_32, i_33, i_34, i_35, i_36, i_37, i_38, i_39, i_40, i_41, i_42, i_43, i_44, i_45, i_46, i_47, i_48, i_49, i_50, i_51, i_52, i_53, i_54, i_55, i_56, i_57, i_58, i_59, i_60, i_61, i_62, i_63, i_64, i_65, i_66, i_67, i_68, i_69, i_70, i_72, i_77, i_78, i_80, i_81, i_82, i_83, i_84, i_87, i_88, i_96, i_98, i_100, i_101, i_103, i_118, i_119, i_126, i_133, i_137, i_144, i_154, i_158, i_160, i_190, i_199, i_200, i_207, i_209, i_213, i_229, i_252, i_254, i_255, i_260, i_282, i_303, i_304, i_321, i_348, i_435, i_492, i_522, i_1000, i_1023, i_1600, i_2903, iI_neg]
  refine ⟨fun h1 => ?_, fun h1 => ⟨fun h2 => ?_, fun h2 => ?_⟩⟩
  · rwa [bi_f (inn_f.mpr (by omega))] at h
  · rwa [bi_f (inn_f.mpr (by omega))] at h
  · rwa [bi_t ((inn_iff _ _ _).mpr (by omega))] at h
theorem s_X3_isBeat {v : Int} {Q : Int32 → Prop} (a1 : I32 v) (h : Q (iI (bi (inn v 0 199)))) : P_X3_isBeat (iI v) Q := by
  unfold P_X3_isBeat
  simp only [i_m9, i_m1, i_0, i_1, i_2, i_3, i_4, i_5, i_6, i_7, i_8, i_9, i_10, i_11, i_12, i_13, i_14, i_15, i_16, i_17, i_18, i_19, i_20, i_21, i_22, i_23, i_24, i_25, i_26, i_27, i_28, i_29, i_30, i_31, i_32, i_33, i_34, i_35, i_36, i_37, i_38, i_39, i_40, i_41, i_42, i_43, i_44, i_45, i_46, i_47, i_48, i_49, i_50, i_51, i_52, i_53, i_54, i_55, i_56, i_57, i_58, i_59, i_60, i_61, i_62, i_63, i_64, i_65, i_66, i_67, i_68, i_69, i_70, i_72, i_77, i_78, i_80, i_81, i_82, i_83, i_84, i_87, i_88, i_96, i_98, i_100, i_101, i_103, i_118, i_119, i_126, i_133, i_137, i_144, i_154, i_158, i_160, i_190, i_199, i_200, i_207, i_209, i_213, i_229, i_252, i_254, i_255, i_260, i_282, i_303, i_304, i_321, i_348, i_435, i_492, i_522, i_1000, i_1023, i_1600, i_2903, iI_neg]
  exact s_X3_within a1 ⟨by omega, by omega⟩ ⟨by omega, by omega⟩ ⟨bi_nar _, h⟩
theorem lit32 {v : Int} (h1 : -2147483648 ≤ v := by omega) (h2 : v < 2147483648 := by omega) : I32 v := ⟨h1, h2⟩
theorem s_X3_isWord {l r o q : Int} {Q : Int32 → Prop} (hl : I32 l) (hr : I32 r) (ho : I32 o) (hq : I32 q) (h1 : (1 ≤ l ∧ l ≤ 12 ∧ 0 ≤ r ∧ r ≤ 7 ∧ 0 ≤ o ∧ o ≤ 59 ∧ 0 ≤ q ∧ q ≤ 199 ∧ o + l ≤ 60) → Q (iI 1)) (h0 : ¬ (1 ≤ l ∧ l ≤ 12 ∧ 0 ≤ r ∧ r ≤ 7 ∧ 0 ≤ o ∧ o ≤ 59 ∧ 0 ≤ q ∧ q ≤ 199 ∧ o + l ≤ 60) → Q (iI 0)) : P_X3_isWord (iI l) (iI r) (iI o) (iI q) Q := by
  unfold P_X3_isWord
  simp only [iI_sub, i_m9, i_m1, i_0, i_1, i_2, i_3, i_4, i_5, i_6, i_7, i_8, i_9, i_10, i_11, i_12, i_13, i_14, i_15, i_16, i_17, i_18, i_19, i_20, i_21, i_22, i_23, i_24, i_25, i_26, i_27, i_28, i_29, i_30, i_31, i_32, i_33, i_34, i_35, i_36, i_37, i_38, i_39, i_40, i_41, i_42, i_43, i_44, i_45, i_46, i_47, i_48, i_49, i_50, i_51, i_52, i_53, i_54, i_55, i_56, i_57, i_58, i_59, i_60, i_61, i_62, i_63, i_64, i_65, i_66, i_67, i_68, i_69, i_70, i_72, i_77, i_78, i_80, i_81, i_82, i_83, i_84, i_87, i_88, i_96, i_98, i_100, i_101, i_103, i_118, i_119, i_126, i_133, i_137, i_144, i_154, i_158, i_160, i_190, i_199, i_200, i_207, i_209, i_213, i_229, i_252, i_254, i_255, i_260, i_282, i_303, i_304, i_321, i_348, i_435, i_492, i_522, i_1000, i_1023, i_1600, i_2903, iI_neg]
  refine s_X3_within hl lit32 lit32 (br_b (fun g => ?_) (fun g1 => ?_))
  · rw [inn_f] at g; exact h0 (by omega)
  rw [inn_iff] at g1
  refine s_X3_within hr lit32 lit32 (br_b (fun g => ?_) (fun g2 => ?_))
  · rw [inn_f] at g; exact h0 (by omega)
  rw [inn_iff] at g2
  refine s_X3_within ho lit32 lit32 (br_b (fun g => ?_) (fun g3 => ?_))
  · rw [inn_f] at g; exact h0 (by omega)
  rw [inn_iff] at g3
  refine s_X3_isBeat hq (br_b (fun g => ?_) (fun g4 => ?_))
  · rw [inn_f] at g; exact h0 (by omega)
  rw [inn_iff] at g4
  exact h1 (by omega)
theorem s_X3_isBeam {t o s w : Int} {Q : Int32 → Prop} (ht : I32 t) (ho : I32 o) (hs : I32 s) (hw : I32 w) (h1 : (0 ≤ t ∧ t ≤ 199 ∧ 0 ≤ o ∧ o ≤ 59 ∧ -9 ≤ s ∧ s ≤ 9 ∧ 1 ≤ w ∧ w ≤ 9) → Q (iI 1)) (h0 : ¬ (0 ≤ t ∧ t ≤ 199 ∧ 0 ≤ o ∧ o ≤ 59 ∧ -9 ≤ s ∧ s ≤ 9 ∧ 1 ≤ w ∧ w ≤ 9) → Q (iI 0)) : P_X3_isBeam (iI t) (iI o) (iI s) (iI w) Q := by
  unfold P_X3_isBeam
  simp only [i_m9, i_m1, i_0, i_1, i_2, i_3, i_4, i_5, i_6, i_7, i_8, i_9, i_10, i_11, i_12, i_13, i_14, i_15, i_16, i_17, i_18, i_19, i_20, i_21, i_22, i_23, i_24, i_25, i_26, i_27, i_28, i_29, i_30, i_31, i_32, i_33, i_34, i_35, i_36, i_37, i_38, i_39, i_40, i_41, i_42, i_43, i_44, i_45, i_46, i_47, i_48, i_49, i_50, i_51, i_52, i_53, i_54, i_55, i_56, i_57, i_58, i_59, i_60, i_61, i_62, i_63, i_64, i_65, i_66, i_67, i_68, i_69, i_70, i_72, i_77, i_78, i_80, i_81, i_82, i_83, i_84, i_87, i_88, i_96, i_98, i_100, i_101, i_103, i_118, i_119, i_126, i_133, i_137, i_144, i_154, i_158, i_160, i_190, i_199, i_200, i_207, i_209, i_213, i_229, i_252, i_254, i_255, i_260, i_282, i_303, i_304, i_321, i_348, i_435, i_492, i_522, i_1000, i_1023, i_1600, i_2903, iI_neg]
  refine s_X3_isBeat ht (br_b (fun g => ?_) (fun g1 => ?_))
  · rw [inn_f] at g; exact h0 (by omega)
  rw [inn_iff] at g1
  refine s_X3_within ho lit32 lit32 (br_b (fun g => ?_) (fun g2 => ?_))
  · rw [inn_f] at g; exact h0 (by omega)
  rw [inn_iff] at g2
  refine s_X3_within hs lit32 lit32 (br_b (fun g => ?_) (fun g3 => ?_))
  · rw [inn_f] at g; exact h0 (by omega)
  rw [inn_iff] at g3
  refine s_X3_within hw lit32 lit32 (br_b (fun g => ?_) (fun g4 => ?_))
  · rw [inn_f] at g; exact h0 (by omega)
  rw [inn_iff] at g4
  exact h1 (by omega)
