/-! a turn of the law, the law -/
/-- what the next turn takes -/
def NX (x : Int) (rec32 : Int32 → Int32 → (Nat → Int32) → (Nat → Int64) → (Nat → Int32) → (Nat → Int32) → (Nat → Int32) → (Nat → Int32) → Int32 → (Nat → Int32) → (Nat → Int32) → (Nat → Int64) → (Nat → Int32) → (Nat → Int32) → (Nat → Int32) → (Nat → Int32) → (Nat → Int32) → (Nat → Int32) → Int32 → Prop) : Prop := ∀ (f c li wh en cs S P : Int → Int) (L0 : Nat → Int64) (re la : Nat → Int32) (k : Int) (tl : Nat → Int64) (a1 a2 a3 a4 a5 : Nat → Int32), IH f c L0 li wh en cs S P k → rec32 (iI 1) (iI x) (aI c) L0 (aI li) (aI wh) (aI en) (aI cs) (iI (paS f)) re la tl a1 a2 a3 a4 a5 (aI S) (iI k)
section
variable {z : Nat → Nat} {x3 x : Int} {rec32 : Int32 → Int32 → (Nat → Int32) → (Nat → Int64) → (Nat → Int32) → (Nat → Int32) → (Nat → Int32) → (Nat → Int32) → Int32 → (Nat → Int32) → (Nat → Int32) → (Nat → Int64) → (Nat → Int32) → (Nat → Int32) → (Nat → Int32) → (Nat → Int32) → (Nat → Int32) → (Nat → Int32) → Int32 → Prop} {f c li wh en cs S P : Int → Int} {L0 : Nat → Int64} {re la : Nat → Int32} {k : Int} {tl : Nat → Int64} {a1 a2 a3 a4 a5 : Nat → Int32}
theorem l_245 (hn : NX (x + 1) rec32) (hI : IH f c L0 li wh en cs S P k) : P_L_law_J245 rec32 (iI x) (aI c) L0 (aI li) (aI wh) (aI en) (aI cs) (iI (paS f)) re la tl a1 a2 a3 a4 a5 (aI S) (iI k) := by
  unfold P_L_law_J245 P_L_law_J250
  simp only [i_m9, i_m1, i_0, i_1, i_2, i_3, i_4, i_5, i_6, i_7, i_8, i_9, i_10, i_11, i_12, i_13, i_14, i_15, i_16, i_17, i_18, i_19, i_20, i_21, i_22, i_23, i_24, i_25, i_26, i_27, i_28, i_29, i_30, i_31, i_32, i_33, i_34, i_35, i_36, i_37, i_38, i_39, i_40, i_41, i_42, i_43, i_44, i_45, i_46, i_47, i_48, i_49, i_50, i_51, i_52, i_53, i_54, i_55, i_56, i_57, i_58, i_59, i_60, i_61, i_62, i_63, i_64, i_65, i_66, i_67, i_68, i_69, i_70, i_72, i_77, i_78, i_80, i_81, i_82, i_83, i_84, i_87, i_88, i_96, i_98, i_100, i_101, i_103, i_118, i_119, i_126, i_133, i_137, i_144, i_154, i_158, i_160, i_190, i_199, i_200, i_207, i_209, i_213, i_229, i_252, i_254, i_255, i_260, i_282, i_303, i_304, i_321, i_348, i_435, i_492, i_522, i_1000, i_1023, i_1600, i_2903, iI_neg]
  rw [iI_add]
  exact hn f c li wh en cs S P L0 re la k tl a1 a2 a3 a4 a5 hI
theorem l_216 (hz : z 1 ≤ 260) (x0 : 0 ≤ x) (x1 : x ≤ 24) (hn : NX (x + 1) rec32) (hI : IH f c L0 li wh en cs S P k) : P_L_law_J216 z rec32 (iI x) (aI c) L0 (aI li) (aI wh) (aI en) (aI cs) (iI (paS f)) re la tl a1 a2 a3 a4 a5 (aI S) (iI k) := by
  unfold P_L_law_J216
  simp only [i_m9, i_m1, i_0, i_1, i_2, i_3, i_4, i_5, i_6, i_7, i_8, i_9, i_10, i_11, i_12, i_13, i_14, i_15, i_16, i_17, i_18, i_19, i_20, i_21, i_22, i_23, i_24, i_25, i_26, i_27, i_28, i_29, i_30, i_31, i_32, i_33, i_34, i_35, i_36, i_37, i_38, i_39, i_40, i_41, i_42, i_43, i_44, i_45, i_46, i_47, i_48, i_49, i_50, i_51, i_52, i_53, i_54, i_55, i_56, i_57, i_58, i_59, i_60, i_61, i_62, i_63, i_64, i_65, i_66, i_67, i_68, i_69, i_70, i_72, i_77, i_78, i_80, i_81, i_82, i_83, i_84, i_87, i_88, i_96, i_98, i_100, i_101, i_103, i_118, i_119, i_126, i_133, i_137, i_144, i_154, i_158, i_160, i_190, i_199, i_200, i_207, i_209, i_213, i_229, i_252, i_254, i_255, i_260, i_282, i_303, i_304, i_321, i_348, i_435, i_492, i_522, i_1000, i_1023, i_1600, i_2903, iI_neg]
  rw [iI_mul, iI_add]
  refine s_L_words hI (fun c2 li2 wh2 en2 cs2 S2 P2 L2 re2 la2 k2 hI2 => ⟨fun hx => absurd hx (by decide), fun _ => s_cell (by omega) (by omega) hz (fun v => s_low (by omega) (by omega) (fun t t0 t1 => s_L_beats hI2.2.2.1 hI2.1 t0 t1 (fun tl2 b1 b2 b3 b4 b5 => ⟨fun hx => absurd hx (by decide), fun _ => l_245 hn hI2⟩)))⟩)
theorem l_200 (hz : z 1 ≤ 260) (x0 : 0 ≤ x) (x1 : x ≤ 24) (hn : NX (x + 1) rec32) (hI : IH f c L0 li wh en cs S P k) : P_L_law_J200 z (iI x3) rec32 (iI x) (aI c) L0 (aI li) (aI wh) (aI en) (aI cs) (iI (paS f)) re la tl a1 a2 a3 a4 a5 (aI S) (iI k) := by
  unfold P_L_law_J200
  exact ⟨by decide, fun _ => l_216 hz x0 x1 hn hI, fun _ => ⟨fun _ => l_245 hn hI, fun _ => l_216 hz x0 x1 hn hI⟩⟩
/-- behind an act: it took and gave light as it should -/
theorem l_128 {g : Int → Int} (hg : OK 6 g) (hr : RE g f) (hz : z 1 ≤ 260) (x0 : 0 ≤ x) (x1 : x ≤ 24) (hn : NX (x + 1) rec32) (hI : IH f c L0 li wh en cs S P k) : P_L_law_J128 z (iI x3) rec32 (iI x) (iI (g 2)) (iI (g 3)) (iI (alS g)) (aI c) L0 (aI li) (aI wh) (aI en) (aI cs) (iI (paS f)) re la tl a1 a2 a3 a4 a5 (aI S) (iI k) := by
  obtain ⟨hf, -, hv, -⟩ := id hI
  have n2 := hf.2.2.1
  have n3 := hf.2.2.2.1
  have ra := alS_rng hf
  have m2 := hg.2.2.1
  have m3 := hg.2.2.2.1
  have rb := alS_rng hg
  have h200 := l_200 (x3 := x3) (tl := tl) (a1 := a1) (a2 := a2) (a3 := a3) (a4 := a4) (a5 := a5) (re := re) (la := la) hz x0 x1 hn hI
  have h168 : P_L_law_J168 z (iI x3) rec32 (iI x) (iI (g 2)) (iI (g 3)) (iI (alS g)) (aI c) L0 (aI li) (aI wh) (aI en) (aI cs) (iI (paS f)) re la tl a1 a2 a3 a4 a5 (aI S) (iI k) := by
    unfold P_L_law_J168
    simp only [i_m9, i_m1, i_0, i_1, i_2, i_3, i_4, i_5, i_6, i_7, i_8, i_9, i_10, i_11, i_12, i_13, i_14, i_15, i_16, i_17, i_18, i_19, i_20, i_21, i_22, i_23, i_24, i_25, i_26, i_27, i_28, i_29, i_30, i_31, i_32, i_33, i_34, i_35, i_36, i_37, i_38, i_39, i_40, i_41, i_42, i_43, i_44, i_45, i_46, i_47, i_48, i_49, i_50, i_51, i_52, i_53, i_54, i_55, i_56, i_57, i_58, i_59, i_60, i_61, i_62, i_63, i_64, i_65, i_66, i_67, i_68, i_69, i_70, i_72, i_77, i_78, i_80, i_81, i_82, i_83, i_84, i_87, i_88, i_96, i_98, i_100, i_101, i_103, i_118, i_119, i_126, i_133, i_137, i_144, i_154, i_158, i_160, i_190, i_199, i_200, i_207, i_209, i_213, i_229, i_252, i_254, i_255, i_260, i_282, i_303, i_304, i_321, i_348, i_435, i_492, i_522, i_1000, i_1023, i_1600, i_2903, iI_neg]
    refine ct_at hv hf (by omega) (by omega) ?_
    rw [ctv_1, iI_sub, iI_eq (by omega) (by omega) (by omega) (by omega)]
    refine ⟨fun _ => h200, fun e1 => ct_at hv hf (by omega) (by omega) ?_⟩
    rw [ctv_0, iI_eq (by omega) (by omega) (by omega) (by omega)]
    refine ⟨fun _ => h200, fun e2 => ct_at hv hf (by omega) (by omega) ?_⟩
    rw [ctv_3, iI_lt (by omega) (by omega) (by omega) (by omega)]
    have h2 := (hr e2.symm).2 (by omega)
    exact ⟨fun hx => absurd hx (by omega), fun _ => h200⟩
  unfold P_L_law_J128 P_L_law_J133
  simp only [i_m9, i_m1, i_0, i_1, i_2, i_3, i_4, i_5, i_6, i_7, i_8, i_9, i_10, i_11, i_12, i_13, i_14, i_15, i_16, i_17, i_18, i_19, i_20, i_21, i_22, i_23, i_24, i_25, i_26, i_27, i_28, i_29, i_30, i_31, i_32, i_33, i_34, i_35, i_36, i_37, i_38, i_39, i_40, i_41, i_42, i_43, i_44, i_45, i_46, i_47, i_48, i_49, i_50, i_51, i_52, i_53, i_54, i_55, i_56, i_57, i_58, i_59, i_60, i_61, i_62, i_63, i_64, i_65, i_66, i_67, i_68, i_69, i_70, i_72, i_77, i_78, i_80, i_81, i_82, i_83, i_84, i_87, i_88, i_96, i_98, i_100, i_101, i_103, i_118, i_119, i_126, i_133, i_137, i_144, i_154, i_158, i_160, i_190, i_199, i_200, i_207, i_209, i_213, i_229, i_252, i_254, i_255, i_260, i_282, i_303, i_304, i_321, i_348, i_435, i_492, i_522, i_1000, i_1023, i_1600, i_2903, iI_neg]
  refine ⟨fun hx => absurd hx (by decide), fun _ => ct_at hv hf (by omega) (by omega) ?_⟩
  rw [ctv_1, iI_le (by omega) (by omega) (by omega) (by omega)]
  refine ⟨fun _ => h168, fun e1 => ct_at hv hf (by omega) (by omega) ?_⟩
  rw [ctv_0, iI_eq (by omega) (by omega) (by omega) (by omega)]
  refine ⟨fun _ => h168, fun e2 => ct_at hv hf (by omega) (by omega) ?_⟩
  rw [ctv_3, iI_lt (by omega) (by omega) (by omega) (by omega)]
  have h2 := (hr e2.symm).1 (by omega)
  exact ⟨fun hx => absurd hx (by omega), fun _ => h168⟩
theorem l_B (hz : z 1 ≤ 260) (x0 : 0 ≤ x) (x1 : x ≤ 24) (y0 : 0 ≤ x3) (y1 : x3 ≤ 24) (hn : x < x3 → NX (x + 1) rec32) (hI : IH f c L0 li wh en cs S P k) : B_law z (iI x3) rec32 (iI 1) (iI x) (aI c) L0 (aI li) (aI wh) (aI en) (aI cs) (iI (paS f)) re la tl a1 a2 a3 a4 a5 (aI S) (iI k) := by
  obtain ⟨hf, zf, hv, hS, hk, hh⟩ := id hI
  have ra := alS_rng hf
  have n2 := hf.2.2.1
  have n3 := hf.2.2.2.1
  unfold B_law
  simp only [i_m9, i_m1, i_0, i_1, i_2, i_3, i_4, i_5, i_6, i_7, i_8, i_9, i_10, i_11, i_12, i_13, i_14, i_15, i_16, i_17, i_18, i_19, i_20, i_21, i_22, i_23, i_24, i_25, i_26, i_27, i_28, i_29, i_30, i_31, i_32, i_33, i_34, i_35, i_36, i_37, i_38, i_39, i_40, i_41, i_42, i_43, i_44, i_45, i_46, i_47, i_48, i_49, i_50, i_51, i_52, i_53, i_54, i_55, i_56, i_57, i_58, i_59, i_60, i_61, i_62, i_63, i_64, i_65, i_66, i_67, i_68, i_69, i_70, i_72, i_77, i_78, i_80, i_81, i_82, i_83, i_84, i_87, i_88, i_96, i_98, i_100, i_101, i_103, i_118, i_119, i_126, i_133, i_137, i_144, i_154, i_158, i_160, i_190, i_199, i_200, i_207, i_209, i_213, i_229, i_252, i_254, i_255, i_260, i_282, i_303, i_304, i_321, i_348, i_435, i_492, i_522, i_1000, i_1023, i_1600, i_2903, iI_neg]
  rw [iI_le (by omega) (by omega) (by omega) (by omega)]
  refine ⟨fun _ => by first | trivial | rfl, fun e => ⟨fun hx => absurd hx (by decide), fun _ => ct_at hv hf (by omega) (by omega) (ct_at hv hf (by omega) (by omega) (ct_at hv hf (by omega) (by omega) (ct_at hv hf (by omega) (by omega) ?_)))⟩⟩
  have hn := hn (by omega)
  rw [ctv_9, ctv_0, ctv_1, ctv_3, iI_mul]
  refine s_act hI (fun r f2 c2 li2 wh2 en2 cs2 S2 P2 L2 re2 la2 k2 hI2 hr32 hs hre => ?_) hz (by omega) (by omega)
  obtain ⟨hf2, zf2, hv2, hS2, hk2, hh2⟩ := id hI2
  have h128 := l_128 (x3 := x3) (tl := tl) (a1 := a1) (a2 := a2) (a3 := a3) (a4 := a4) (a5 := a5) (re := re2) (la := la2) hf hre hz x0 x1 hn hI2
  refine ⟨fun _ => h128, fun e2 => ?_⟩
  have e3 : f2 = f ∧ k2 = k := by
    rcases hs with h | h
    · exact absurd (by rw [iI_le (by omega) (by omega) hr32.1 hr32.2]; exact h) e2
    · exact h
  refine ct_at hv2 hf2 (by omega) (by omega) ?_
  refine ⟨fun hx => absurd (congrArg iI (show coS f2 k2 9 = k from e3.2)) hx, fun _ => ct_at hv2 hf2 (by omega) (by omega) ?_⟩
  refine ⟨fun hx => absurd (congrArg iI (show coS f2 k2 0 = f 2 by rw [e3.1]; rfl)) hx, fun _ => ct_at hv2 hf2 (by omega) (by omega) ?_⟩
  refine ⟨fun hx => absurd (congrArg iI (show coS f2 k2 1 = f 3 by rw [e3.1]; rfl)) hx, fun _ => ct_at hv2 hf2 (by omega) (by omega) ?_⟩
  exact ⟨fun hx => absurd (congrArg iI (show coS f2 k2 3 = alS f by rw [e3.1]; rfl)) hx, fun _ => h128⟩
theorem l_L (hz : z 1 ≤ 260) (y0 : 0 ≤ x3) (y1 : x3 ≤ 24) : ∀ (m : Nat) (x : Int), 0 ≤ x → x ≤ 24 → x3 ≤ x + m → NX x (P_law_L z (iI x3) (m + 1)) := by
  intro m
  induction m with
  | zero =>
    intro x x0 x1 hx f c li wh en cs S P L0 re la k tl a1 a2 a3 a4 a5 hI
    rw [P_law_L_s]
    exact l_B hz x0 x1 y0 y1 (fun hh => absurd hh (by omega)) hI
  | succ m ih =>
    intro x x0 x1 hx f c li wh en cs S P L0 re la k tl a1 a2 a3 a4 a5 hI
    rw [P_law_L_s]
    exact l_B hz x0 x1 y0 y1 (fun hh => ih (x + 1) (by omega) (by omega) (by omega)) hI
end
def f_in : Int → Int := up (up (fun _ => 0) 0 4) 1 4
def c_in : Int → Int := up (up (fun _ => 0) 78 4) 79 4
theorem f_in0 : f_in 0 = 4 := by unfold f_in; rw [up_ne (by omega), up_eq]
theorem f_in1 : f_in 1 = 4 := by unfold f_in; rw [up_eq]
theorem f_in2 {j : Int} (h0 : j ≠ 0) (h1 : j ≠ 1) : f_in j = 0 := by unfold f_in; rw [up_ne h1, up_ne h0]
theorem IH_in : IH f_in c_in (fun _ => 0) (fun _ => 0) (fun _ => 0) (fun _ => 0) (fun _ => 0) (fun _ => 0) (fun _ => 0) 0 := by
  have e2 : f_in 2 = 0 := f_in2 (by omega) (by omega)
  have e3 : f_in 3 = 0 := f_in2 (by omega) (by omega)
  have en : (f_in 2).toNat = 0 := by rw [e2]; rfl
  refine ⟨⟨?_, ?_, ?_, ?_, fun w w0 w1 => absurd w1 (by omega), fun b b0 b1 => absurd b1 (by omega)⟩, fun j hj => f_in2 (by omega) (by omega), ⟨⟨⟨?_, ?_, ?_, ?_⟩, fun w j w0 w1 => absurd w1 (by omega), fun b j b0 b1 => absurd b1 (by omega)⟩, fun r t o h1 h2 h3 => ?_, fun w w0 w1 => absurd w1 (by omega), fun t t0 t1 => ?_⟩, fun i i0 i1 => absurd i1 (by omega), ⟨by omega, by omega⟩, fun h => absurd h (by omega), fun i i0 i1 => absurd i1 (by omega)⟩
  · rw [f_in0]; omega
  · rw [f_in1]; omega
  · rw [e2]; omega
  · rw [e3]; omega
  · rw [f_in0]; unfold c_in; rw [up_ne (by omega), up_eq]
  · rw [f_in1]; unfold c_in; rw [up_eq]
  · rw [e2]; unfold c_in; rw [up_ne (by omega), up_ne (by omega)]
  · rw [e3]; unfold c_in; rw [up_ne (by omega), up_ne (by omega)]
  · show (0 : Int64).toBitVec.getLsbD o = lts f_in r t o (f_in 3).toNat
    rw [e3]; exact BitVec.getLsbD_zero
  · show (0 : Int) = cls f_in t
    unfold cls; rw [en]; rfl
theorem law_all (z : Nat → Nat) (x3 : Int32) (hz : z 1 ≤ 260) (h : (24 < Int32.ofNat (z 1) / 4 ∧ x3 = 24) ∨ (Int32.ofNat (z 1) / 4 ≤ 24 ∧ x3 = Int32.ofNat (z 1) / 4)) : ∃ n, n ≤ 100 ∧ P_law_L z x3 n 1 0 (upd (upd (fun _ => 0) 78 4) 79 4) (fun _ => 0) (fun _ => 0) (fun _ => 0) (fun _ => 0) (fun _ => 0) 0 (fun _ => 0) (fun _ => 0) (fun _ => 0) (fun _ => 0) (fun _ => 0) (fun _ => 0) (fun _ => 0) (fun _ => 0) (fun _ => 0) 0 := by
  have e : Int32.ofNat (z 1) = iI ((z 1 : Nat) : Int) := (iI_nat (by omega)).symm
  have hd := divb (x := ((z 1 : Nat) : Int)) (s := 4) (by omega) (by omega)
  have e3 : ∃ y : Int, x3 = iI y ∧ 0 ≤ y ∧ y ≤ 24 := by
    rcases h with h | h
    · exact ⟨24, h.2.trans (by decide), by omega, by omega⟩
    · rw [e, i_4, iI_div (by omega) (by omega) (by omega) (by omega)] at h
      have h1 := h.1
      rw [show (24 : Int32) = iI 24 by decide, iI_le (by omega) (by omega) (by omega) (by omega)] at h1
      exact ⟨_, h.2, by omega, h1⟩
  obtain ⟨y, rfl, y0, y1⟩ := e3
  refine ⟨24 + 1, by omega, ?_⟩
  have hl := l_L hz y0 y1 24 0 (by omega) (by omega) (by omega) f_in c_in (fun _ => 0) (fun _ => 0) (fun _ => 0) (fun _ => 0) (fun _ => 0) (fun _ => 0) (fun _ => 0) (fun _ => 0) (fun _ => 0) 0 (fun _ => 0) (fun _ => 0) (fun _ => 0) (fun _ => 0) (fun _ => 0) (fun _ => 0) IH_in
  have z0 : (fun _ => 0 : Nat → Int32) = aI (fun _ => 0) := by rw [i_0]; rfl
  have ec : (upd (upd (fun _ => 0) 78 4) 79 4 : Nat → Int32) = aI c_in := by
    unfold c_in
    rw [z0, i_4, aI_upN, aI_upN]; rfl
  have en : (f_in 2).toNat = 0 := by rw [show f_in 2 = 0 from f_in2 (by omega) (by omega)]; rfl
  have hp0 : paS f_in = 0 := by unfold paS; rw [en]; rfl
  have hp : iI (paS f_in) = 0 := by rw [hp0]; exact i_0.symm
  rw [hp, ← ec, ← z0, ← i_0, ← i_1] at hl
  exact hl
