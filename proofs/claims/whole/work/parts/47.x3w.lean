theorem plus_at {f : Int → Int} {t c s w j : Int} (n3 : 0 ≤ f 3 ∧ f 3 ≤ 6) (j3 : j ≠ 3) (j1 : j < 52 + 5 * f 3) : plus f t c s w j = f j := by
  obtain ⟨k0, -⟩ := bmF_at (f := f) (t := t) (c := c) (s := s) (w := w) (r := 255) n3.1 (by omega)
  exact k0 j j3 (by omega)
theorem plus_3 {f : Int → Int} {t c s w : Int} (n3 : 0 ≤ f 3 ∧ f 3 ≤ 6) : plus f t c s w 3 = f 3 + 1 := by
  obtain ⟨-, k1, -⟩ := bmF_at (f := f) (t := t) (c := c) (s := s) (w := w) (r := 255) n3.1 (by omega)
  exact k1
theorem plus_LTS {f : Int → Int} {t0 c0 s w : Int} {L : Nat → Int64} (n3 : 0 ≤ f 3 ∧ f 3 ≤ 6) (h : LTp (fun r t c => lts f r t c (f 3).toNat || (bt 255 r && cvp t0 c0 s w t c)) L) : LTS (plus f t0 c0 s w) L := by
  obtain ⟨-, k1, k2, k3, k4, k5, k6⟩ := bmF_at (f := f) (t := t0) (c := c0) (s := s) (w := w) (r := 255) n3.1 (by omega)
  intro r t c h1 h2 h3
  rw [h r t c h1 h2 h3]
  have e3 : plus f t0 c0 s w 3 = f 3 + 1 := k1
  have en : (plus f t0 c0 s w 3).toNat = (f 3).toNat + 1 := by rw [e3]; omega
  show _ = lts (plus f t0 c0 s w) r t c (plus f t0 c0 s w 3).toNat
  rw [en]
  show _ = (lts (plus f t0 c0 s w) r t c (f 3).toNat || (bt (plus f t0 c0 s w (52 + 5 * ((f 3).toNat : Int) + 4)) r && cov (plus f t0 c0 s w) ((f 3).toNat : Int) t c))
  rw [show (((f 3).toNat : Nat) : Int) = f 3 by omega, cov_p]
  have q0 : plus f t0 c0 s w (52 + 5 * f 3 + 0) = t0 := k2
  have q1 : plus f t0 c0 s w (52 + 5 * f 3 + 1) = c0 := k3
  have q2 : plus f t0 c0 s w (52 + 5 * f 3 + 2) = s := k4
  have q3 : plus f t0 c0 s w (52 + 5 * f 3 + 3) = w := k5
  have q4 : plus f t0 c0 s w (52 + 5 * f 3 + 4) = 255 := k6
  rw [q0, q1, q2, q3, q4, lts_cong (f := plus f t0 c0 s w) (g := f) (fun b b0 b1 i i0 i1 => plus_at n3 (by omega) (by omega))]
theorem plus_AW {f c : Int → Int} {t0 c0 s w : Int} (n2 : f 2 ≤ 8) (n3 : 0 ≤ f 3 ∧ f 3 ≤ 6) (hA : Ag c f) : AW c (plus f t0 c0 s w) := by
  have h := Ag_AW hA
  refine ⟨⟨?_, ?_, ?_⟩, fun u i u0 u1 i0 i1 i3 => ?_⟩
  · rw [plus_at n3 (by omega) (by omega)]; exact h.1.1
  · rw [plus_at n3 (by omega) (by omega)]; exact h.1.2.1
  · rw [plus_at n3 (by omega) (by omega)]; exact h.1.2.2
  · rw [plus_at n3 (by omega) (by omega)] at u1
    rw [plus_at n3 (by omega) (by omega)]; exact h.2 u i u0 u1 i0 i1 i3
theorem s_X2_takeLight {p : Int → Int → Int → Bool} {L0 L : Nat → Int64} {Q : (Nat → Int64) → Prop} (hL : LTp p L) (h : ∀ L2, LTp p L2 → Q L2) : P_X2_takeLight L0 L Q := by
  unfold P_X2_takeLight
  refine ⟨⟨by decide, by decide, by decide, by decide, by decide⟩, h _ (fun r t c h1 h2 h3 => ?_)⟩
  rw [pk_cpy_in (by omega) (by omega), show 0 + (r * 200 + t - 0) = r * 200 + t by omega]
  exact hL r t c h1 h2 h3
theorem s_X3_tryBeam {t0 c0 s w : Int} {f c : Int → Int} {L L0 : Nat → Int64} {l0 w0 e0 re0 la0 : Nat → Int32} {Q : (Nat → Int64) → (Nat → Int32) → (Nat → Int32) → (Nat → Int32) → (Nat → Int32) → (Nat → Int32) → Prop} (hA : Ag c f) (hf : OK 6 f) (hL : LTS f L) (hb : 0 ≤ t0 ∧ t0 ≤ 199 ∧ 0 ≤ c0 ∧ c0 ≤ 59 ∧ -9 ≤ s ∧ s ≤ 9 ∧ 1 ≤ w ∧ w ≤ 9)
    (h : ∀ (L2 : Nat → Int64) (li wh en : Int → Int) (re la : Nat → Int32), LC (plus f t0 c0 s w) (plus f t0 c0 s w 2) li wh en → Q L2 (aI li) (aI wh) (aI en) re la) :
    P_X3_tryBeam (iI t0) (iI c0) (iI s) (iI w) (aI c) L L0 l0 w0 e0 re0 la0 Q := by
  have n2 := hf.2.2.1
  have n3 := hf.2.2.2.1
  have hO := plus_OK hf hb
  have hW := plus_AW (t0 := t0) (c0 := c0) (s := s) (w := w) n2.2 n3 hA
  unfold P_X3_tryBeam
  simp only [i_m9, i_m1, i_0, i_1, i_2, i_3, i_4, i_5, i_6, i_7, i_8, i_9, i_10, i_11, i_12, i_13, i_14, i_15, i_16, i_17, i_18, i_19, i_20, i_21, i_22, i_23, i_24, i_25, i_26, i_27, i_28, i_29, i_30, i_31, i_32, i_33, i_34, i_35, i_36, i_37, i_38, i_39, i_40, i_41, i_42, i_43, i_44, i_45, i_46, i_47, i_48, i_49, i_50, i_51, i_52, i_53, i_54, i_55, i_56, i_57, i_58, i_59, i_60, i_61, i_62, i_63, i_64, i_65, i_66, i_67, i_68, i_69, i_70, i_72, i_77, i_78, i_80, i_81, i_82, i_83, i_84, i_87, i_88, i_96, i_98, i_100, i_101, i_103, i_118, i_119, i_126, i_133, i_137, i_144, i_154, i_158, i_160, i_190, i_199, i_200, i_207, i_209, i_213, i_229, i_252, i_254, i_255, i_260, i_282, i_303, i_304, i_321, i_348, i_435, i_492, i_522, i_1000, i_1023, i_1600, i_2903, iI_neg]
  refine s_X2_takeLight hL (fun L1 hL1 => s_X2_shine ⟨hb.1, by omega⟩ (by omega) (by omega) (by omega) hL1 (fun L2 hL2 => ?_))
  refine s_X2_settleAll hW hO (fun u u0 u1 => ?_) (plus_LTS n3 hL2) (fun li wh en re la hl => h L2 li wh en re la hl)
  rw [plus_at n3 (by omega) (by omega)] at u1
  rw [plus_at n3 (by omega) (by omega)]
  exact Ag_cue hA u u0 u1
theorem s_X3_ifBeam {t0 c0 s w i : Int} {f c : Int → Int} {L L0 : Nat → Int64} {l0 w0 e0 cs0 re0 la0 : Nat → Int32} {cp0 : Int32} {Q : Int32 → (Nat → Int64) → (Nat → Int32) → (Nat → Int32) → (Nat → Int32) → (Nat → Int32) → Int32 → (Nat → Int32) → (Nat → Int32) → Prop} {E : Nat → Prop} (hA : Ag c f) (hf : OK 6 f) (hL : LTS f L) (ht : I32 t0) (hc : I32 c0) (hs : I32 s) (hw : I32 w) (hi : I32 i)
    (h1 : tI t0 c0 s w i = 0 → ∀ tl a1 a2 a3 a4 cp a5 a6, Q (iI (ibS f t0 c0 s w i)) tl a1 a2 a3 a4 cp a5 a6) (h2 : tI t0 c0 s w i = 1 → E 1) :
    P_X3_ifBeam (iI t0) (iI c0) (iI s) (iI w) (iI i) (aI c) L L0 l0 w0 e0 cs0 cp0 re0 la0 Q E := by
  have n2 := hf.2.2.1
  have n3 := hf.2.2.2.1
  unfold P_X3_ifBeam P_X3_ifBeam_J21
  simp only [i_m9, i_m1, i_0, i_1, i_2, i_3, i_4, i_5, i_6, i_7, i_8, i_9, i_10, i_11, i_12, i_13, i_14, i_15, i_16, i_17, i_18, i_19, i_20, i_21, i_22, i_23, i_24, i_25, i_26, i_27, i_28, i_29, i_30, i_31, i_32, i_33, i_34, i_35, i_36, i_37, i_38, i_39, i_40, i_41, i_42, i_43, i_44, i_45, i_46, i_47, i_48, i_49, i_50, i_51, i_52, i_53, i_54, i_55, i_56, i_57, i_58, i_59, i_60, i_61, i_62, i_63, i_64, i_65, i_66, i_67, i_68, i_69, i_70, i_72, i_77, i_78, i_80, i_81, i_82, i_83, i_84, i_87, i_88, i_96, i_98, i_100, i_101, i_103, i_118, i_119, i_126, i_133, i_137, i_144, i_154, i_158, i_160, i_190, i_199, i_200, i_207, i_209, i_213, i_229, i_252, i_254, i_255, i_260, i_282, i_303, i_304, i_321, i_348, i_435, i_492, i_522, i_1000, i_1023, i_1600, i_2903, iI_neg]
  refine s_X3_isBeam ht hc hs hw (fun g => ⟨fun hx => absurd hx (by decide), fun _ => ?_⟩) (fun g => ⟨fun _ => h2 (by unfold tI; rw [if_neg (by omega)]), fun hx => absurd rfl hx⟩)
  refine s_X3_within hi lit32 lit32 (br_b' (fun g1 => ?_) (fun g1 => ?_))
  · rw [inn_f] at g1; exact h2 (by unfold tI; rw [if_neg (by omega)])
  rw [inn_iff] at g1
  have h := h1 (by unfold tI; rw [if_pos (by omega)])
  unfold ibS at h
  have hO := plus_OK hf g
  have hW := plus_AW (t0 := t0) (c0 := c0) (s := s) (w := w) n2.2 n3 hA
  refine s_X3_tryBeam hA hf hL g (fun L2 li wh en re la hl => ?_)
  simp (disch := omega) only [iI_eq]
  refine ⟨fun e => s_X2_wholeWords hW hO hl ?_, fun e => s_X2_litLetters hW hO hl ?_, fun e0 e1 => s_X2_findClashes hW hO hl (fun cs hcs => s_X2_clashBeats hO hcs ?_)⟩
  · rw [if_pos e] at h; exact h _ _ _ _ _ _ _ _
  · rw [if_neg (by omega), if_pos e] at h; exact h _ _ _ _ _ _ _ _
  · rw [if_neg e0, if_neg e1] at h; exact h _ _ _ _ _ _ _ _
theorem bsM_s (f : Int → Int) (t c : Int) (n : Nat) : bsM f t c (n + 1) = if 100 * alS (plus f t c ((n : Int) - 9) 2) + whS (plus f t c ((n : Int) - 9) 2) ≤ bsM f t c n then bsM f t c n else 100 * alS (plus f t c ((n : Int) - 9) 2) + whS (plus f t c ((n : Int) - 9) 2) := rfl
theorem bsF_s (f : Int → Int) (t c : Int) (n : Nat) : bsF f t c (n + 1) = if 100 * alS (plus f t c ((n : Int) - 9) 2) + whS (plus f t c ((n : Int) - 9) 2) ≤ bsM f t c n then bsF f t c n else (n : Int) - 9 := rfl
theorem s_X3_bestSpeed {t0 c0 : Int} {f c : Int → Int} {L L0 : Nat → Int64} {l0 w0 e0 re0 la0 : Nat → Int32} {Q : Int32 → (Nat → Int64) → (Nat → Int32) → (Nat → Int32) → (Nat → Int32) → (Nat → Int32) → (Nat → Int32) → Prop} {E : Nat → Prop} (hA : Ag c f) (hf : OK 6 f) (hL : LTS f L) (ht : I32 t0) (hc : I32 c0)
    (h1 : tBS t0 c0 = 0 → ∀ tl a1 a2 a3 a4 a5, Q (iI (bsF f t0 c0 19 + 9)) tl a1 a2 a3 a4 a5) (h2 : tBS t0 c0 = 1 → E 1) :
    P_X3_bestSpeed (iI t0) (iI c0) (aI c) L L0 l0 w0 e0 re0 la0 Q E := by
  have n2 := hf.2.2.1
  have n3 := hf.2.2.2.1
  unfold P_X3_bestSpeed P_X3_bestSpeed_J17
  simp only [i_m9, i_m1, i_0, i_1, i_2, i_3, i_4, i_5, i_6, i_7, i_8, i_9, i_10, i_11, i_12, i_13, i_14, i_15, i_16, i_17, i_18, i_19, i_20, i_21, i_22, i_23, i_24, i_25, i_26, i_27, i_28, i_29, i_30, i_31, i_32, i_33, i_34, i_35, i_36, i_37, i_38, i_39, i_40, i_41, i_42, i_43, i_44, i_45, i_46, i_47, i_48, i_49, i_50, i_51, i_52, i_53, i_54, i_55, i_56, i_57, i_58, i_59, i_60, i_61, i_62, i_63, i_64, i_65, i_66, i_67, i_68, i_69, i_70, i_72, i_77, i_78, i_80, i_81, i_82, i_83, i_84, i_87, i_88, i_96, i_98, i_100, i_101, i_103, i_118, i_119, i_126, i_133, i_137, i_144, i_154, i_158, i_160, i_190, i_199, i_200, i_207, i_209, i_213, i_229, i_252, i_254, i_255, i_260, i_282, i_303, i_304, i_321, i_348, i_435, i_492, i_522, i_1000, i_1023, i_1600, i_2903, iI_neg]
  refine s_X3_isBeat ht (br_b (fun g => ?_) (fun g => ?_))
  · rw [inn_f] at g; exact h2 (by unfold tBS; rw [if_neg (by omega)])
  rw [inn_iff] at g
  refine s_X3_within hc lit32 lit32 (br_b' (fun g1 => ?_) (fun g1 => ?_))
  · rw [inn_f] at g1; exact h2 (by unfold tBS; rw [if_neg (by omega)])
  rw [inn_iff] at g1
  have h := h1 (by unfold tBS; rw [if_pos (by omega)])
  have lp : ∀ (m n : Nat), n + m = 19 → ∀ (x a b : Int), ((n = 0 ∧ x = -9 ∧ a = -1 ∧ b = -1) ∨ (0 < n ∧ x = bsF f t0 c0 n ∧ bsM f t0 c0 n = 100 * a + b ∧ 0 ≤ a ∧ a ≤ 96 ∧ 0 ≤ b ∧ b ≤ 8 ∧ -9 ≤ x ∧ x ≤ 9)) → ∀ (L0 : Nat → Int64) (l0 w0 e0 re0 la0 : Nat → Int32),
      P_X3_bestSpeed_L41 (iI t0) (iI c0) (aI c) L Q (m + 1) (iI x) (iI a) (iI b) (iI ((n : Int) - 9)) L0 l0 w0 e0 re0 la0 := by
    intro m
    induction m with
    | zero =>
      intro n hn x a b hx L0 l0 w0 e0 re0 la0
      rw [P_X3_bestSpeed_L41_s]
      unfold B_X3_bestSpeed_L41
      simp (disch := omega) only [iI_lt, iI_add, i_m9, i_m1, i_0, i_1, i_2, i_3, i_4, i_5, i_6, i_7, i_8, i_9, i_10, i_11, i_12, i_13, i_14, i_15, i_16, i_17, i_18, i_19, i_20, i_21, i_22, i_23, i_24, i_25, i_26, i_27, i_28, i_29, i_30, i_31, i_32, i_33, i_34, i_35, i_36, i_37, i_38, i_39, i_40, i_41, i_42, i_43, i_44, i_45, i_46, i_47, i_48, i_49, i_50, i_51, i_52, i_53, i_54, i_55, i_56, i_57, i_58, i_59, i_60, i_61, i_62, i_63, i_64, i_65, i_66, i_67, i_68, i_69, i_70, i_72, i_77, i_78, i_80, i_81, i_82, i_83, i_84, i_87, i_88, i_96, i_98, i_100, i_101, i_103, i_118, i_119, i_126, i_133, i_137, i_144, i_154, i_158, i_160, i_190, i_199, i_200, i_207, i_209, i_213, i_229, i_252, i_254, i_255, i_260, i_282, i_303, i_304, i_321, i_348, i_435, i_492, i_522, i_1000, i_1023, i_1600, i_2903, iI_neg]
      refine ⟨fun _ => ?_, fun hx => absurd (by omega) hx⟩
      have e : n = 19 := by omega
      subst e
      rcases hx with hx | hx
      · omega
      · rw [hx.2.1]; exact h _ _ _ _ _ _
    | succ m ih =>
      intro n hn x a b hx L0 l0 w0 e0 re0 la0
      have ih1 := ih (n + 1) (by omega)
      rw [nsucc, bsF_s, bsM_s, show (n : Int) + 1 - 9 = (n : Int) - 9 + 1 by omega] at ih1
      have hb : 0 ≤ t0 ∧ t0 ≤ 199 ∧ 0 ≤ c0 ∧ c0 ≤ 59 ∧ -9 ≤ (n : Int) - 9 ∧ (n : Int) - 9 ≤ 9 ∧ (1 : Int) ≤ 2 ∧ (2 : Int) ≤ 9 := by omega
      have hO := plus_OK hf hb
      have hW := plus_AW (t0 := t0) (c0 := c0) (s := (n : Int) - 9) (w := 2) n2.2 n3 hA
      have ra := alS_rng hO
      have rw' := whS_rng hO
      rw [P_X3_bestSpeed_L41_s]
      unfold B_X3_bestSpeed_L41 P_X3_bestSpeed_J96 P_X3_bestSpeed_J107
      simp (disch := omega) only [iI_lt, iI_add, i_m9, i_m1, i_0, i_1, i_2, i_3, i_4, i_5, i_6, i_7, i_8, i_9, i_10, i_11, i_12, i_13, i_14, i_15, i_16, i_17, i_18, i_19, i_20, i_21, i_22, i_23, i_24, i_25, i_26, i_27, i_28, i_29, i_30, i_31, i_32, i_33, i_34, i_35, i_36, i_37, i_38, i_39, i_40, i_41, i_42, i_43, i_44, i_45, i_46, i_47, i_48, i_49, i_50, i_51, i_52, i_53, i_54, i_55, i_56, i_57, i_58, i_59, i_60, i_61, i_62, i_63, i_64, i_65, i_66, i_67, i_68, i_69, i_70, i_72, i_77, i_78, i_80, i_81, i_82, i_83, i_84, i_87, i_88, i_96, i_98, i_100, i_101, i_103, i_118, i_119, i_126, i_133, i_137, i_144, i_154, i_158, i_160, i_190, i_199, i_200, i_207, i_209, i_213, i_229, i_252, i_254, i_255, i_260, i_282, i_303, i_304, i_321, i_348, i_435, i_492, i_522, i_1000, i_1023, i_1600, i_2903, iI_neg]
      refine ⟨fun hx => absurd hx (by omega), fun _ => s_X3_tryBeam hA hf hL hb (fun L2 li wh en re la hl => s_X2_litLetters hW hO hl (s_X2_wholeWords hW hO hl ?_))⟩
      have ha : -1 ≤ a ∧ a ≤ 96 ∧ -1 ≤ b ∧ b ≤ 8 := by omega
      simp (disch := omega) only [iI_lt, iI_eq, iI_le]
      have m0 : n = 0 → bsM f t0 c0 n = -1 := fun e => by rw [e]; rfl
      have yes : ¬ 100 * alS (plus f t0 c0 ((n : Int) - 9) 2) + whS (plus f t0 c0 ((n : Int) - 9) 2) ≤ bsM f t0 c0 n → P_X3_bestSpeed_L41 (iI t0) (iI c0) (aI c) L Q (m + 1) (iI ((n : Int) - 9)) (iI (alS (plus f t0 c0 ((n : Int) - 9) 2))) (iI (whS (plus f t0 c0 ((n : Int) - 9) 2))) (iI ((n : Int) - 9 + 1)) L2 (aI li) (aI wh) (aI en) re la := fun e => by
        rw [if_neg e, if_neg e] at ih1
        exact ih1 _ _ _ (Or.inr ⟨by omega, rfl, rfl, by omega, by omega, by omega, by omega, by omega, by omega⟩) _ _ _ _ _ _
      have no : 100 * alS (plus f t0 c0 ((n : Int) - 9) 2) + whS (plus f t0 c0 ((n : Int) - 9) 2) ≤ bsM f t0 c0 n → P_X3_bestSpeed_L41 (iI t0) (iI c0) (aI c) L Q (m + 1) (iI x) (iI a) (iI b) (iI ((n : Int) - 9 + 1)) L2 (aI li) (aI wh) (aI en) re la := fun e => by
        rw [if_pos e, if_pos e] at ih1
        rcases hx with hx | hx
        · have := m0 hx.1; omega
        · exact ih1 _ _ _ (Or.inr ⟨by omega, hx.2⟩) _ _ _ _ _ _
      refine ⟨fun e => yes ?_, fun e => ⟨fun e2 => no ?_, fun e2 => ⟨fun e3 => no ?_, fun e3 => yes ?_⟩⟩⟩
      · rcases hx with hx | hx
        · have := m0 hx.1; omega
        · omega
      · rcases hx with hx | hx
        · omega
        · omega
      · rcases hx with hx | hx
        · omega
        · omega
      · rcases hx with hx | hx
        · have := m0 hx.1; omega
        · omega
  have := lp 19 0 rfl (-9) (-1) (-1) (Or.inl ⟨rfl, rfl, rfl, rfl⟩) L0 l0 w0 e0 re0 la0
  exact ⟨_, this⟩
theorem icN_iff (f : Int → Int) (w : Int) : ∀ n : Nat, icN f w n = true ↔ wlS f w ≠ -1 ∧ ∀ o : Int, 0 ≤ o → o < n → o ≠ w → ecN f w o 200 = false
  | 0 => by
    unfold icN
    rw [decide_eq_true_iff]
    exact ⟨fun h => ⟨h, fun o o0 o1 => absurd o1 (by omega)⟩, fun h => h.1⟩
  | n + 1 => by
    show (icN f w n && (decide ((n : Int) = w) || !(ecN f w n 200))) = true ↔ _
    rw [Bool.and_eq_true, icN_iff f w n, Bool.or_eq_true, decide_eq_true_iff, Bool.not_eq_true']
    constructor
    · rintro ⟨⟨h1, h2⟩, h3⟩
      refine ⟨h1, fun o o0 o1 ow => ?_⟩
      by_cases e : o = n
      · subst e
        rcases h3 with h3 | h3
        · exact absurd h3 ow
        · exact h3
      · exact h2 o o0 (by omega) ow
    · rintro ⟨h1, h2⟩
      refine ⟨⟨h1, fun o o0 o1 ow => h2 o o0 (by omega) ow⟩, ?_⟩
      by_cases e : (n : Int) = w
      · exact Or.inl e
      · exact Or.inr (h2 n (by omega) (by omega) e)
theorem cu_at {f : Int → Int} {w q j : Int} (h : j ≠ 4 + 6 * w + 3) : cuF f w q j = f j := up_ne h
theorem s_X3_clearCue {w : Int} {f c : Int → Int} {L L0 : Nat → Int64} {l0 w0 e0 re0 la0 : Nat → Int32} {Q : Int32 → (Nat → Int64) → (Nat → Int32) → (Nat → Int32) → (Nat → Int32) → (Nat → Int32) → (Nat → Int32) → Prop} {E : Nat → Prop} (hA : Ag c f) (hf : OK 6 f) (hL : LTS f L) (hw : I32 w)
    (h1 : t1 (f 2) w = 0 → ∀ tl a1 a2 a3 a4 a5, Q (iI (ccS f w)) tl a1 a2 a3 a4 a5) (h2 : t1 (f 2) w = 1 → E 3) :
    P_X3_clearCue (iI w) (aI c) L L0 l0 w0 e0 re0 la0 Q E := by
  have n2 := hf.2.2.1
  have n3 := hf.2.2.2.1
  unfold P_X3_clearCue
  simp only [i_m9, i_m1, i_0, i_1, i_2, i_3, i_4, i_5, i_6, i_7, i_8, i_9, i_10, i_11, i_12, i_13, i_14, i_15, i_16, i_17, i_18, i_19, i_20, i_21, i_22, i_23, i_24, i_25, i_26, i_27, i_28, i_29, i_30, i_31, i_32, i_33, i_34, i_35, i_36, i_37, i_38, i_39, i_40, i_41, i_42, i_43, i_44, i_45, i_46, i_47, i_48, i_49, i_50, i_51, i_52, i_53, i_54, i_55, i_56, i_57, i_58, i_59, i_60, i_61, i_62, i_63, i_64, i_65, i_66, i_67, i_68, i_69, i_70, i_72, i_77, i_78, i_80, i_81, i_82, i_83, i_84, i_87, i_88, i_96, i_98, i_100, i_101, i_103, i_118, i_119, i_126, i_133, i_137, i_144, i_154, i_158, i_160, i_190, i_199, i_200, i_207, i_209, i_213, i_229, i_252, i_254, i_255, i_260, i_282, i_303, i_304, i_321, i_348, i_435, i_492, i_522, i_1000, i_1023, i_1600, i_2903, iI_neg]
  refine s_X0_hasWord hA hw n2 (fun g => ⟨fun hx => absurd rfl hx, fun _ => h2 (by unfold t1; rw [if_neg g])⟩) (fun g => ⟨fun _ => ?_, fun hx => absurd hx (by decide)⟩)
  have h := h1 (by unfold t1; rw [if_pos g])
  obtain ⟨⟨z0, z1⟩, -, -, ⟨q0, q1⟩, -⟩ := hf.2.2.2.2.1 w g.1 g.2
  refine s_X2_takeLight hL (fun L1 hL1 => s_X2_settleAll (Ag_AW hA) hf (Ag_cue hA) hL1 (fun li wh en re la hl => s_X0_ofWord hA n2.2 g.1 g.2 (by omega) (by omega) ?_))
  have lp : ∀ (m : Nat) (x : Int), x + m = 200 → f (4 + 6 * w + 3) ≤ x → (∀ tl a1 a2 a3 a4 a5, Q (iI (frs (icB f w) m x)) tl a1 a2 a3 a4 a5) → ∀ (li wh en : Int → Int) (re la : Nat → Int32), (∀ v : Int, 0 ≤ v → v < f 2 → v ≠ w → (∀ k : Int, 0 ≤ k → k < f (4 + 6 * v + 0) → li (v * 12 + k) = litS f v k) ∧ wh v = wlS f v ∧ en v = enS f v) →
      P_X3_clearCue_L49 (iI w) (aI c) L1 Q (m + 1) (iI x) (aI li) (aI wh) (aI en) re la := by
    intro m
    induction m with
    | zero =>
      intro x hx hq hQ li wh en re la hl
      rw [P_X3_clearCue_L49_s]
      unfold B_X3_clearCue_L49
      simp (disch := omega) only [iI_le, i_m9, i_m1, i_0, i_1, i_2, i_3, i_4, i_5, i_6, i_7, i_8, i_9, i_10, i_11, i_12, i_13, i_14, i_15, i_16, i_17, i_18, i_19, i_20, i_21, i_22, i_23, i_24, i_25, i_26, i_27, i_28, i_29, i_30, i_31, i_32, i_33, i_34, i_35, i_36, i_37, i_38, i_39, i_40, i_41, i_42, i_43, i_44, i_45, i_46, i_47, i_48, i_49, i_50, i_51, i_52, i_53, i_54, i_55, i_56, i_57, i_58, i_59, i_60, i_61, i_62, i_63, i_64, i_65, i_66, i_67, i_68, i_69, i_70, i_72, i_77, i_78, i_80, i_81, i_82, i_83, i_84, i_87, i_88, i_96, i_98, i_100, i_101, i_103, i_118, i_119, i_126, i_133, i_137, i_144, i_154, i_158, i_160, i_190, i_199, i_200, i_207, i_209, i_213, i_229, i_252, i_254, i_255, i_260, i_282, i_303, i_304, i_321, i_348, i_435, i_492, i_522, i_1000, i_1023, i_1600, i_2903, iI_neg]
      exact ⟨fun _ => hQ _ _ _ _ _ _, fun hx => absurd (by omega) hx⟩
    | succ m ih =>
      intro x hx hq hQ li wh en re la hl
      have hO : OK 6 (cuF f w x) := cuF_OK hf g.1 g.2 (by omega) (by omega)
      have e2 : cuF f w x 2 = f 2 := cuF_2 g.1
      have hAW : AW c (cuF f w x) := by
        have hA2 := Ag_AW hA
        refine ⟨⟨?_, ?_, ?_⟩, fun u i u0 u1 i0 i1 i3 => ?_⟩
        · rw [cu_at (by omega)]; exact hA2.1.1
        · rw [cu_at (by omega)]; exact hA2.1.2.1
        · rw [e2]; exact hA2.1.2.2
        · rw [e2] at u1
          rw [cu_at (by omega)]; exact hA2.2 u i u0 u1 i0 i1 i3
      have hLS : LTS (cuF f w x) L1 := fun r t o p1 p2 p3 => by
        rw [hL1 r t o p1 p2 p3]
        show lts f r t o (f 3).toNat = lts (cuF f w x) r t o (cuF f w x 3).toNat
        rw [cu_at (by omega)]
        exact (lts_cong (fun b b0 b1 i i0 i1 => cu_at (by omega))).symm
      have hx3 : cuF f w x (4 + 6 * w + 3) = x := up_eq _ _ _
      have hcong : ∀ v : Int, 0 ≤ v → v < f 2 → v ≠ w → WEq (cuF f w x) f v := fun v v0 v1 vw => cuF_W g.1 (by omega) v0 vw
      rw [P_X3_clearCue_L49_s]
      unfold B_X3_clearCue_L49 P_X3_clearCue_J90
      simp (disch := omega) only [iI_le, iI_add, i_m9, i_m1, i_0, i_1, i_2, i_3, i_4, i_5, i_6, i_7, i_8, i_9, i_10, i_11, i_12, i_13, i_14, i_15, i_16, i_17, i_18, i_19, i_20, i_21, i_22, i_23, i_24, i_25, i_26, i_27, i_28, i_29, i_30, i_31, i_32, i_33, i_34, i_35, i_36, i_37, i_38, i_39, i_40, i_41, i_42, i_43, i_44, i_45, i_46, i_47, i_48, i_49, i_50, i_51, i_52, i_53, i_54, i_55, i_56, i_57, i_58, i_59, i_60, i_61, i_62, i_63, i_64, i_65, i_66, i_67, i_68, i_69, i_70, i_72, i_77, i_78, i_80, i_81, i_82, i_83, i_84, i_87, i_88, i_96, i_98, i_100, i_101, i_103, i_118, i_119, i_126, i_133, i_137, i_144, i_154, i_158, i_160, i_190, i_199, i_200, i_207, i_209, i_213, i_229, i_252, i_254, i_255, i_260, i_282, i_303, i_304, i_321, i_348, i_435, i_492, i_522, i_1000, i_1023, i_1600, i_2903, iI_neg]
      refine ⟨fun hx => absurd hx (by omega), fun _ => s_X2_settle hAW hO g.1 (by rw [e2]; exact g.2) hx3.symm hLS (fun l2 R2 la2 g1 g2 => wholeFrom_at g.1 (by omega) ?_)⟩
      rw [up_eq]
      have hl2 : ∀ v : Int, 0 ≤ v → v < f 2 → v ≠ w → (∀ k : Int, 0 ≤ k → k < f (4 + 6 * v + 0) → l2 (v * 12 + k) = litS f v k) ∧ up wh w (wlS (cuF f w x) w) v = wlS f v ∧ up en w (enS (cuF f w x) w) v = enS f v := fun v v0 v1 vw => by
        obtain ⟨p1, p2, p3⟩ := hl v v0 v1 vw
        have hk := (hf.2.2.2.2.1 v v0 v1).1
        refine ⟨fun k k0 k1 => ?_, ?_, ?_⟩
        · rw [g1 _ (by omega)]; exact p1 k k0 k1
        · rw [up_ne vw]; exact p2
        · rw [up_ne vw]; exact p3
      have hlc : LC (cuF f w x) (cuF f w x 2) l2 (up wh w (wlS (cuF f w x) w)) (up en w (enS (cuF f w x) w)) := fun v v0 v1 => by
        rw [e2] at v1
        by_cases e : v = w
        · subst e
          exact ⟨g2, up_eq _ _ _, up_eq _ _ _⟩
        · obtain ⟨p1, p2, p3⟩ := hl2 v v0 v1 e
          have hc := hcong v v0 v1 e
          have ew := hc.2.1 0 (by omega) (by omega)
          refine ⟨fun k k0 k1 => ?_, ?_, ?_⟩
          · rw [ew] at k1
            rw [litS_cong hc]; exact p1 k k0 k1
          · rw [wlS_cong hc]; exact p2
          · unfold enS
            rw [goS_cong hc]; exact p3
      have hwl := wl_rng hO (w := w) g.1 (by rw [e2]; exact g.2)
      rw [iI_eq (by omega) (by omega) (by omega) (by omega)]
      have hib : icB f w x = true ↔ wlS (cuF f w x) w ≠ -1 ∧ ∀ o : Int, 0 ≤ o → o < f 2 → o ≠ w → ecN (cuF f w x) w o 200 = false := by
        unfold icB
        rw [icN_iff, show (((f 2).toNat : Nat) : Int) = f 2 by omega]
      have no : ¬ icB f w x = true → P_X3_clearCue_L49 (iI w) (aI c) L1 Q (m + 1) (iI (x + 1)) (aI l2) (aI (up wh w (wlS (cuF f w x) w))) (aI (up en w (enS (cuF f w x) w))) R2 la2 := fun hn => by
        refine ih (x + 1) (by omega) (by omega) (fun tl a1 a2 a3 a4 a5 => ?_) l2 _ _ R2 la2 hl2
        have := hQ tl a1 a2 a3 a4 a5
        rw [frs_s, if_neg hn] at this
        exact this
      refine ⟨fun e => no (fun hi => (hib.mp hi).1 e), fun e => s_X2_clashesWithAny hAW hO hlc g.1 (by rw [e2]; exact g.2) (fun ho => ⟨fun hx => absurd rfl hx, fun _ => ?_⟩) (fun o o0 o1 ow ho => ⟨fun _ => no (fun hi => ?_), fun hx => absurd hx (by decide)⟩)⟩
      · rw [e2] at ho
        have := hQ L1 (aI l2) (aI (up wh w (wlS (cuF f w x) w))) (aI (up en w (enS (cuF f w x) w))) R2 la2
        rw [frs_s, if_pos (hib.mpr ⟨e, ho⟩)] at this
        exact this
      · rw [e2] at o1
        rw [(hib.mp hi).2 o o0 o1 ow] at ho
        exact absurd ho (by decide)
  refine ⟨_, lp (200 - f (4 + 6 * w + 3)).toNat (f (4 + 6 * w + 3)) (by omega) (Int.le_refl _) h li wh en re la (fun v v0 v1 _ => hl v v0 v1)⟩
theorem s_X3_litShare {c f li wh en : Int → Int} {Q : UInt64 → Prop} (hA : Ag c f) (hf : OK 6 f) (hl : LC f (f 2) li wh en) (h : Q (shV (alS f) (letS f))) : P_X3_litShare (aI c) (aI li) Q := by
  have hs := shS_ok hf
  have ho := shV_ok hs.1 hs.2.1 hs.2.2.1 hs.2.2.2
  unfold P_X3_litShare
  simp only [i_m9, i_m1, i_0, i_1, i_2, i_3, i_4, i_5, i_6, i_7, i_8, i_9, i_10, i_11, i_12, i_13, i_14, i_15, i_16, i_17, i_18, i_19, i_20, i_21, i_22, i_23, i_24, i_25, i_26, i_27, i_28, i_29, i_30, i_31, i_32, i_33, i_34, i_35, i_36, i_37, i_38, i_39, i_40, i_41, i_42, i_43, i_44, i_45, i_46, i_47, i_48, i_49, i_50, i_51, i_52, i_53, i_54, i_55, i_56, i_57, i_58, i_59, i_60, i_61, i_62, i_63, i_64, i_65, i_66, i_67, i_68, i_69, i_70, i_72, i_77, i_78, i_80, i_81, i_82, i_83, i_84, i_87, i_88, i_96, i_98, i_100, i_101, i_103, i_118, i_119, i_126, i_133, i_137, i_144, i_154, i_158, i_160, i_190, i_199, i_200, i_207, i_209, i_213, i_229, i_252, i_254, i_255, i_260, i_282, i_303, i_304, i_321, i_348, i_435, i_492, i_522, i_1000, i_1023, i_1600, i_2903, iI_neg]
  refine s_X0_letters hA hf ?_
  rw [iI_le (by omega) (by omega) (by omega) (by omega)]
  unfold shV at h
  refine ⟨fun e => ?_, fun e => s_X2_litLetters (Ag_AW hA) hf hl ⟨ho.1 (by omega), ?_⟩⟩
  · rw [if_pos (by omega)] at h; exact h
  · rw [if_neg (by omega)] at h; exact h
