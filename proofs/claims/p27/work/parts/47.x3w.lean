theorem plus_at {f : Int → Int} {t c s w j : Int} (n3 : 0 ≤ f 3 ∧ f 3 ≤ 6) (j3 : j ≠ 3) (j1 : j < 52 + 5 * f 3) : plus f t c s w j = f j := by
  obtain ⟨k0, -⟩ := bmF_at (f := f) (t := t) (c := c) (s := s) (w := w) (r := 255) n3.1 (by omega)
  exact k0 j j3 (by omega)
theorem plus_3 {f : Int → Int} {t c s w : Int} (n3 : 0 ≤ f 3 ∧ f 3 ≤ 6) : plus f t c s w 3 = f 3 + 1 := by
  obtain ⟨-, k1, -⟩ := bmF_at (f := f) (t := t) (c := c) (s := s) (w := w) (r := 255) n3.1 (by omega)
  exact k1
theorem plus_LTS {f : Int → Int} {t0 c0 s w : Int} {L : Nat → Int64} (n3 : 0 ≤ f 3 ∧ f 3 ≤ 6) (h : LTp (fun r t c => lts f r t c (f 3).toNat || (bt 255 r && cvp t0 c0 s w t c)) L) : LTS (plus f t0 c0 s w) L := by
  obtain ⟨-, k1, k2, k3, k4, k5, k6⟩ := bmF_at (f := f) (t := t0) (c := c0) (s := s) (w := w) (r := 255) n3.1 (by omega)
  intro r t c h1 h2 h3
  rw [h r t c h1 h2 h3]
  have e3 : plus f t0 c0 s w 3 = f 3 + 1 := k1
  have en : (plus f t0 c0 s w 3).toNat = (f 3).toNat + 1 := by rw [e3]; omega
  show _ = lts (plus f t0 c0 s w) r t c (plus f t0 c0 s w 3).toNat
  rw [en]
  show _ = (lts (plus f t0 c0 s w) r t c (f 3).toNat || (bt (plus f t0 c0 s w (52 + 5 * ((f 3).toNat : Int) + 4)) r && cov (plus f t0 c0 s w) ((f 3).toNat : Int) t c))
  rw [show (((f 3).toNat : Nat) : Int) = f 3 by omega, cov_p]
  have q0 : plus f t0 c0 s w (52 + 5 * f 3 + 0) = t0 := k2
  have q1 : plus f t0 c0 s w (52 + 5 * f 3 + 1) = c0 := k3
  have q2 : plus f t0 c0 s w (52 + 5 * f 3 + 2) = s := k4
  have q3 : plus f t0 c0 s w (52 + 5 * f 3 + 3) = w := k5
  have q4 : plus f t0 c0 s w (52 + 5 * f 3 + 4) = 255 := k6
  rw [q0, q1, q2, q3, q4, lts_cong (f := plus f t0 c0 s w) (g := f) (fun b b0 b1 i i0 i1 => plus_at n3 (by omega) (by omega))]
theorem plus_AW {f c : Int → Int} {t0 c0 s w : Int} (n2 : f 2 ≤ 8) (n3 : 0 ≤ f 3 ∧ f 3 ≤ 6) (hA : Ag c f) : AW c (plus f t0 c0 s w) := by
  have h := Ag_AW hA
  refine ⟨⟨?_, ?_, ?_⟩, fun u i u0 u1 i0 i1 i3 => ?_⟩
  · rw [plus_at n3 (by omega) (by omega)]; exact h.1.1
  · rw [plus_at n3 (by omega) (by omega)]; exact h.1.2.1
  · rw [plus_at n3 (by omega) (by omega)]; exact h.1.2.2
  · rw [plus_at n3 (by omega) (by omega)] at u1
    rw [plus_at n3 (by omega) (by omega)]; exact h.2 u i u0 u1 i0 i1 i3
theorem bsM_s (f : Int → Int) (t c : Int) (n : Nat) : bsM f t c (n + 1) = if 100 * alS (plus f t c ((n : Int) - 9) 2) + whS (plus f t c ((n : Int) - 9) 2) ≤ bsM f t c n then bsM f t c n else 100 * alS (plus f t c ((n : Int) - 9) 2) + whS (plus f t c ((n : Int) - 9) 2) := rfl
theorem bsF_s (f : Int → Int) (t c : Int) (n : Nat) : bsF f t c (n + 1) = if 100 * alS (plus f t c ((n : Int) - 9) 2) + whS (plus f t c ((n : Int) - 9) 2) ≤ bsM f t c n then bsF f t c n else (n : Int) - 9 := rfl
theorem icN_iff (f : Int → Int) (w : Int) : ∀ n : Nat, icN f w n = true ↔ wlS f w ≠ -1 ∧ ∀ o : Int, 0 ≤ o → o < n → o ≠ w → ecN f w o 200 = false
  | 0 => by
    unfold icN
    rw [decide_eq_true_iff]
    exact ⟨fun h => ⟨h, fun o o0 o1 => absurd o1 (by omega)⟩, fun h => h.1⟩
  | n + 1 => by
    show (icN f w n && (decide ((n : Int) = w) || !(ecN f w n 200))) = true ↔ _
    rw [Bool.and_eq_true, icN_iff f w n, Bool.or_eq_true, decide_eq_true_iff, Bool.not_eq_true']
    constructor
    · rintro ⟨⟨h1, h2⟩, h3⟩
      refine ⟨h1, fun o o0 o1 ow => ?_⟩
      by_cases e : o = n
      · subst e
        rcases h3 with h3 | h3
        · exact absurd h3 ow
        · exact h3
      · exact h2 o o0 (by omega) ow
    · rintro ⟨h1, h2⟩
      refine ⟨⟨h1, fun o o0 o1 ow => h2 o o0 (by omega) ow⟩, ?_⟩
      by_cases e : (n : Int) = w
      · exact Or.inl e
      · exact Or.inr (h2 n (by omega) (by omega) e)
theorem cu_at {f : Int → Int} {w q j : Int} (h : j ≠ 4 + 6 * w + 3) : cuF f w q j = f j := up_ne h
theorem s_X3_litShare {c f li wh en : Int → Int} {Q : UInt64 → Prop} (hA : Ag c f) (hf : OK 6 f) (hl : LC f (f 2) li wh en) (h : Q (shV (alS f) (letS f))) : P_X3_litShare (aI c) (aI li) Q := by
  have hs := shS_ok hf
  have ho := shV_ok hs.1 hs.2.1 hs.2.2.1 hs.2.2.2
  unfold P_X3_litShare
  simp only [i_m9, i_m1, i_0, i_1, i_2, i_3, i_4, i_5, i_6, i_7, i_8, i_9, i_10, i_11, i_12, i_13, i_14, i_15, i_16, i_17, i_18, i_19, i_20, i_21, i_22, i_23, i_24, i_25, i_26, i_27, i_28, i_29, i_30, i_31, i_32, i_33, i_34, i_35, i_36, i_37, i_38, i_39, i_40, i_41, i_42, i_43, i_44, i_45, i_46, i_47, i_48, i_49, i_50, i_51, i_52, i_53, i_54, i_55, i_56, i_57, i_58, i_59, i_60, i_61, i_62, i_63, i_64, i_65, i_66, i_67, i_68, i_69, i_70, i_72, i_77, i_78, i_80, i_81, i_82, i_83, i_84, i_87, i_88, i_96, i_98, i_100, i_101, i_103, i_118, i_119, i_126, i_133, i_137, i_144, i_154, i_158, i_160, i_190, i_199, i_200, i_207, i_209, i_213, i_229, i_252, i_254, i_255, i_260, i_282, i_303, i_304, i_321, i_348, i_435, i_492, i_522, i_1000, i_1023, i_1600, i_2903, iI_neg]
  refine s_X0_letters hA hf ?_
  rw [iI_le (by omega) (by omega) (by omega) (by omega)]
  unfold shV at h
  refine ⟨fun e => ?_, fun e => s_X2_litLetters (Ag_AW hA) hf hl ⟨ho.1 (by omega), ?_⟩⟩
  · rw [if_pos (by omega)] at h; exact h
  · rw [if_neg (by omega)] at h; exact h
