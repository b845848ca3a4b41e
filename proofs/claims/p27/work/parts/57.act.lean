/-! one act of the law -/
theorem s_low {x : Int32} {n : Int} {Q : Int32 → Prop} (n0 : 1 ≤ n) (n1 : n ≤ 1000) (h : ∀ v : Int, 0 ≤ v → v < n → Q (iI v)) : P_L_low x (iI n) Q := by
  have hm : 0 ≤ (x &&& 2147483647).toInt := by
    show 0 ≤ (x &&& 2147483647).toBitVec.toInt
    refine BitVec.toInt_nonneg_of_msb_false ?_
    rw [Int32.toBitVec_and, BitVec.msb_and, show (2147483647 : Int32).toBitVec.msb = false by decide, Bool.and_false]
  obtain ⟨y, e, y0, y1⟩ := iI_ex (x &&& 2147483647)
  rw [e, iI_t y0 y1] at hm
  unfold P_L_low
  rw [e]
  have hd := divb (x := y) (s := n) hm n0
  refine ⟨?_, ?_⟩
  · rw [i_0, iI_eq (by omega) (by omega) (by omega) (by omega)]; omega
  · rw [iI_div hm y1 (by omega) (by omega), iI_mul, iI_sub]
    exact h _ (by omega) (by omega)
theorem s_cell {z : Nat → Nat} {p : Int} {Q : Int32 → Prop} (p0 : 0 ≤ p) (p1 : p ≤ 1000) (hz : z 1 ≤ 260) (h : ∀ v, Q v) : P_L_cell z (iI p) Q := by
  have e : Int32.ofNat (z 1) = iI ((z 1 : Nat) : Int) := (iI_nat (by omega)).symm
  unfold P_L_cell
  rw [e, iI_le (by omega) (by omega) (by omega) (by omega)]
  exact ⟨fun _ => h _, fun hn => ⟨iI_in p0 (by omega) (by omega), h _⟩⟩
theorem Z_st (P : Int → Int) (i : Int) : Z (stP P i) := fun j hj => by
  unfold stP
  rw [if_neg (by omega)]
theorem rl_OK {f : Int → Int} {w r hd : Int} (hf : OK 6 f) (h0 : tR f w r hd = 0) : (0 ≤ w ∧ w < f 2) ∧ OK 6 (up (up f (4 + 6 * w + 5) hd) (4 + 6 * w + 4) r) := by
  have g : 0 ≤ w ∧ w < f 2 := by
    by_cases e : 0 ≤ w ∧ w < f 2
    · exact e
    · unfold tR at h0; rw [if_neg e] at h0; omega
  have g1 : 0 ≤ r ∧ r ≤ 2 ∧ 0 ≤ hd ∧ hd ≤ 50 := by
    unfold tR at h0; rw [if_pos g] at h0
    by_cases e : 0 ≤ r ∧ r ≤ 2 ∧ 0 ≤ hd ∧ hd ≤ 50
    · exact e
    · rw [if_neg e] at h0; omega
  have hw0 := hf.2.2.2.2.1 w g.1 g.2
  have o1 := upw_OK (f := f) (w := w) (i := 5) (v := hd) hf g.1 g.2 (by omega) (by omega) (by
    unfold OKw at hw0 ⊢
    rw [up_ne (by omega), up_ne (by omega), up_ne (by omega), up_ne (by omega), up_ne (by omega), up_eq]
    omega)
  have hw1 := o1.2.2.2.2.1 w g.1 (by rw [up_ne (by omega)]; exact g.2)
  refine ⟨g, upw_OK (w := w) (i := 4) (v := r) o1 g.1 (by rw [up_ne (by omega)]; exact g.2) (by omega) (by omega) ?_⟩
  unfold OKw at hw1 ⊢
  rw [up_ne (a := 4 + 6 * w + 4) (by omega), up_ne (a := 4 + 6 * w + 4) (by omega), up_ne (a := 4 + 6 * w + 4) (by omega), up_ne (a := 4 + 6 * w + 4) (by omega), up_eq, up_ne (a := 4 + 6 * w + 4) (by omega)]
  omega
theorem st_OK {f : Int → Int} {x v : Int} (hf : OK 6 f) (h0 : tS x v = 0) : (x = 0 ∨ x = 1) ∧ OK 6 (up f x v) := by
  have g : (0 ≤ x ∧ x ≤ 1) ∧ ((x = 0 ∧ 1 ≤ v ∧ v ≤ 16) ∨ (x = 1 ∧ 0 ≤ v ∧ v ≤ 20)) := by
    unfold tS at h0
    by_cases e : 0 ≤ x ∧ x ≤ 1
    · rw [if_pos e] at h0
      by_cases e2 : (x = 0 ∧ 1 ≤ v ∧ v ≤ 16) ∨ (x = 1 ∧ 0 ≤ v ∧ v ≤ 20)
      · exact ⟨e, e2⟩
      · rw [if_neg e2] at h0; omega
    · rw [if_neg e] at h0; omega
  obtain ⟨b0, b1, b2, b3, b4, b5⟩ := hf
  refine ⟨by omega, ?_, ?_, ?_, ?_, fun w w0 w1 => ?_, fun b b0 b1 => ?_⟩
  · by_cases e : x = 0
    · rw [e, up_eq]; omega
    · rw [up_ne (by omega)]; exact b0
  · by_cases e : x = 1
    · rw [e, up_eq]; omega
    · rw [up_ne (by omega)]; exact b1
  · rw [up_ne (by omega)]; exact b2
  · rw [up_ne (by omega)]; exact b3
  · rw [up_ne (by omega)] at w1
    exact OKw_cong (fun i i0 i1 => up_ne (by omega)) (b4 w w0 w1)
  · rw [up_ne (by omega)] at b1
    exact OKb_cong (fun i i0 i1 => up_ne (by omega)) (b5 b b0 b1)
section
variable {f c li wh en cs S P : Int → Int} {L0 : Nat → Int64} {re la : Nat → Int32} {k : Int} {Q : Int32 → (Nat → Int32) → (Nat → Int64) → (Nat → Int32) → (Nat → Int32) → (Nat → Int32) → (Nat → Int32) → Int32 → (Nat → Int32) → (Nat → Int32) → (Nat → Int32) → Int32 → Prop}
/-- what one act leads to -/
def AC (f P : Int → Int) (k : Int) (Q : Int32 → (Nat → Int32) → (Nat → Int64) → (Nat → Int32) → (Nat → Int32) → (Nat → Int32) → (Nat → Int32) → Int32 → (Nat → Int32) → (Nat → Int32) → (Nat → Int32) → Int32 → Prop) : Prop := ∀ (r : Int) (f2 c2 li2 wh2 en2 cs2 S2 P2 : Int → Int) (L2 : Nat → Int64) (re2 la2 : Nat → Int32) (k2 : Int), IH f2 c2 L2 li2 wh2 en2 cs2 S2 P2 k2 → I32 r → (0 ≤ r ∨ (f2 = f ∧ k2 = k)) → RE f f2 → Q (iI r) (aI c2) L2 (aI li2) (aI wh2) (aI en2) (aI cs2) (iI (paS f2)) re2 la2 (aI S2) (iI k2)
theorem ac_no (hI : IH f c L0 li wh en cs S P k) (h : AC f P k Q) (r : Int) (hr : I32 r) : Q (iI r) (aI c) L0 (aI li) (aI wh) (aI en) (aI cs) (iI (paS f)) re la (aI S) (iI k) := h r f c li wh en cs S P L0 re la k hI hr (Or.inr ⟨rfl, rfl⟩) (RE_3 rfl)
theorem ac_yes (hI : IH f c L0 li wh en cs S P k) (h : AC f P k Q) {r : Int} {f2 c2 li2 wh2 en2 cs2 S2 : Int → Int} {L2 : Nat → Int64} {re2 la2 : Nat → Int32} (hO : OK 6 f2) (hZ : Z f2) (hv2 : CV f2 c2 L2 li2 wh2 en2 cs2) (hS2 : SvR (svK k) S2 (svP f P k)) (hr : RE f f2) (r0 : 0 ≤ r) (r1 : r ≤ 1000) : Q (iI r) (aI c2) L2 (aI li2) (aI wh2) (aI en2) (aI cs2) (iI (paS f2)) re2 la2 (aI S2) (iI (svK k)) := by
  obtain ⟨hf, zf, hv, hS, hk, hh⟩ := hI
  have hs := svK_rng hk
  exact h r f2 c2 li2 wh2 en2 cs2 S2 (svP f P k) L2 re2 la2 (svK k) ⟨hO, hZ, hv2, hS2, by omega, HI_sv zf hk hh hr⟩ lit32 (Or.inl r0) hr
theorem a_word (hI : IH f c L0 li wh en cs S P k) (h : AC f P k Q) (x3 x4 x5 : Int32) : P_L_act_J124 (aI c) L0 (aI li) (aI wh) (aI en) (aI cs) (iI (paS f)) re la (aI S) (iI k) Q x3 x4 x5 := by
  obtain ⟨hf, zf, hv, hS, hk, hh⟩ := id hI
  have n2 := hf.2.2.1
  have n3 := hf.2.2.2.1
  unfold P_L_act_J124 P_L_word
  simp only [i_m9, i_m1, i_0, i_1, i_2, i_3, i_4, i_5, i_6, i_7, i_8, i_9, i_10, i_11, i_12, i_13, i_14, i_15, i_16, i_17, i_18, i_19, i_20, i_21, i_22, i_23, i_24, i_25, i_26, i_27, i_28, i_29, i_30, i_31, i_32, i_33, i_34, i_35, i_36, i_37, i_38, i_39, i_40, i_41, i_42, i_43, i_44, i_45, i_46, i_47, i_48, i_49, i_50, i_51, i_52, i_53, i_54, i_55, i_56, i_57, i_58, i_59, i_60, i_61, i_62, i_63, i_64, i_65, i_66, i_67, i_68, i_69, i_70, i_72, i_77, i_78, i_80, i_81, i_82, i_83, i_84, i_87, i_88, i_96, i_98, i_100, i_101, i_103, i_118, i_119, i_126, i_133, i_137, i_144, i_154, i_158, i_160, i_190, i_199, i_200, i_207, i_209, i_213, i_229, i_252, i_254, i_255, i_260, i_282, i_303, i_304, i_321, i_348, i_435, i_492, i_522, i_1000, i_1023, i_1600, i_2903, iI_neg]
  refine s_low (by omega) (by omega) (fun v1 a1 b1 => s_low (by omega) (by omega) (fun v2 a2 b2 => s_low (by omega) (by omega) (fun v3 a3 b3 => s_low (by omega) (by omega) (fun v4 a4 b4 => ?_))))
  rw [iI_add]
  refine s_X3_word hv.1 hf hk.1 hk.2 hS lit32 lit32 lit32 lit32 (fun h0 c2 L2 li2 wh2 en2 cs2 re2 la2 S2 hv2 hS2 => ?_) (fun h0 => ⟨fun _ => ac_no hI h _ lit32, fun hx => absurd hx (by decide), Or.inl rfl⟩) (fun h0 => ⟨fun hx => absurd hx (by decide), fun _ => ac_no hI h _ lit32, Or.inr rfl⟩)
  have h8 := (tW_0 h0).2
  have e2 := (wdF_at (f := f) (l := 1 + v1) (r := v2) (c := v3) (q := v4) n2.1 (by omega)).2.1
  exact ac_yes hI h (wdF_OK hf h0) (Z_wd zf n2.1 (by omega)) hv2 hS2 (RE_2 (by omega)) n2.1 (by omega)
theorem a_beam (hI : IH f c L0 li wh en cs S P k) (h : AC f P k Q) {t o s w r : Int} (ht : 0 ≤ t ∧ t ≤ 199) (ho : 0 ≤ o ∧ o ≤ 59) (hs : -9 ≤ s ∧ s ≤ 9) (hw : 1 ≤ w ∧ w ≤ 9) (hr : 1 ≤ r ∧ r ≤ 255) : P_L_act_J218 (aI c) L0 (aI li) (aI wh) (aI en) (aI cs) (iI (paS f)) re la (aI S) (iI k) Q (iI r) (iI w) (iI s) (iI o) (iI t) := by
  obtain ⟨hf, zf, hv, hS, hk, hh⟩ := id hI
  have n3 := hf.2.2.2.1
  have n1 : tB f t o s w r ≠ 1 := by
    unfold tB
    rw [if_pos ⟨ht.1, ht.2, ho.1, ho.2, hs.1, hs.2, hw.1, hw.2, hr.1, hr.2⟩]
    split <;> omega
  unfold P_L_act_J218 P_L_beam
  simp only [i_m9, i_m1, i_0, i_1, i_2, i_3, i_4, i_5, i_6, i_7, i_8, i_9, i_10, i_11, i_12, i_13, i_14, i_15, i_16, i_17, i_18, i_19, i_20, i_21, i_22, i_23, i_24, i_25, i_26, i_27, i_28, i_29, i_30, i_31, i_32, i_33, i_34, i_35, i_36, i_37, i_38, i_39, i_40, i_41, i_42, i_43, i_44, i_45, i_46, i_47, i_48, i_49, i_50, i_51, i_52, i_53, i_54, i_55, i_56, i_57, i_58, i_59, i_60, i_61, i_62, i_63, i_64, i_65, i_66, i_67, i_68, i_69, i_70, i_72, i_77, i_78, i_80, i_81, i_82, i_83, i_84, i_87, i_88, i_96, i_98, i_100, i_101, i_103, i_118, i_119, i_126, i_133, i_137, i_144, i_154, i_158, i_160, i_190, i_199, i_200, i_207, i_209, i_213, i_229, i_252, i_254, i_255, i_260, i_282, i_303, i_304, i_321, i_348, i_435, i_492, i_522, i_1000, i_1023, i_1600, i_2903, iI_neg]
  refine s_X3_beam hv.1 hf hk.1 hk.2 hS lit32 lit32 lit32 lit32 lit32 (fun h0 c2 L2 li2 wh2 en2 cs2 re2 la2 S2 hv2 hS2 => ?_) (fun h0 => absurd h0 n1) (fun h0 => ⟨fun _ => ac_no hI h _ lit32, rfl⟩)
  have h6 := (tB_0 h0).2
  exact ac_yes hI h (OK_mono (by omega) (bmF_OK hf (by omega) (tB_0 h0).1)) (Z_bm zf n3.1 (by omega)) hv2 hS2 (RE_bm hf h0) n3.1 (by omega)
theorem a_beam2 (hI : IH f c L0 li wh en cs S P k) (h : AC f P k Q) (x3 x4 x5 : Int32) : P_L_act_J159 (aI c) L0 (aI li) (aI wh) (aI en) (aI cs) (iI (paS f)) re la (aI S) (iI k) Q x3 x4 x5 := by
  unfold P_L_act_J159
  simp only [i_m9, i_m1, i_0, i_1, i_2, i_3, i_4, i_5, i_6, i_7, i_8, i_9, i_10, i_11, i_12, i_13, i_14, i_15, i_16, i_17, i_18, i_19, i_20, i_21, i_22, i_23, i_24, i_25, i_26, i_27, i_28, i_29, i_30, i_31, i_32, i_33, i_34, i_35, i_36, i_37, i_38, i_39, i_40, i_41, i_42, i_43, i_44, i_45, i_46, i_47, i_48, i_49, i_50, i_51, i_52, i_53, i_54, i_55, i_56, i_57, i_58, i_59, i_60, i_61, i_62, i_63, i_64, i_65, i_66, i_67, i_68, i_69, i_70, i_72, i_77, i_78, i_80, i_81, i_82, i_83, i_84, i_87, i_88, i_96, i_98, i_100, i_101, i_103, i_118, i_119, i_126, i_133, i_137, i_144, i_154, i_158, i_160, i_190, i_199, i_200, i_207, i_209, i_213, i_229, i_252, i_254, i_255, i_260, i_282, i_303, i_304, i_321, i_348, i_435, i_492, i_522, i_1000, i_1023, i_1600, i_2903, iI_neg]
  refine s_low (by omega) (by omega) (fun v1 a1 b1 => s_low (by omega) (by omega) (fun v2 a2 b2 => s_low (by omega) (by omega) (fun v3 a3 b3 => s_low (by omega) (by omega) (fun v4 a4 b4 => s_low (by omega) (by omega) (fun v5 a5 b5 => ?_)))))
  rw [iI_add, iI_sub]
  refine ⟨fun _ => a_beam hI h (by omega) (by omega) (by omega) (by omega) (by omega), fun _ => s_low (by omega) (by omega) (fun v6 a6 b6 => ?_)⟩
  rw [iI_add]
  exact a_beam hI h (by omega) (by omega) (by omega) (by omega) (by omega)
theorem a_rule (hI : IH f c L0 li wh en cs S P k) (h : AC f P k Q) (x3 x4 x5 : Int32) : P_L_act_J222 (aI c) L0 (aI li) (aI wh) (aI en) (aI cs) (iI (paS f)) re la (aI S) (iI k) Q x3 x4 x5 (iI (f 2)) := by
  obtain ⟨hf, zf, hv, hS, hk, hh⟩ := id hI
  have n2 := hf.2.2.1
  unfold P_L_act_J222
  simp only [i_m9, i_m1, i_0, i_1, i_2, i_3, i_4, i_5, i_6, i_7, i_8, i_9, i_10, i_11, i_12, i_13, i_14, i_15, i_16, i_17, i_18, i_19, i_20, i_21, i_22, i_23, i_24, i_25, i_26, i_27, i_28, i_29, i_30, i_31, i_32, i_33, i_34, i_35, i_36, i_37, i_38, i_39, i_40, i_41, i_42, i_43, i_44, i_45, i_46, i_47, i_48, i_49, i_50, i_51, i_52, i_53, i_54, i_55, i_56, i_57, i_58, i_59, i_60, i_61, i_62, i_63, i_64, i_65, i_66, i_67, i_68, i_69, i_70, i_72, i_77, i_78, i_80, i_81, i_82, i_83, i_84, i_87, i_88, i_96, i_98, i_100, i_101, i_103, i_118, i_119, i_126, i_133, i_137, i_144, i_154, i_158, i_160, i_190, i_199, i_200, i_207, i_209, i_213, i_229, i_252, i_254, i_255, i_260, i_282, i_303, i_304, i_321, i_348, i_435, i_492, i_522, i_1000, i_1023, i_1600, i_2903, iI_neg]
  rw [iI_eq (by omega) (by omega) (by omega) (by omega)]
  refine ⟨fun e => s_low (by omega) (by omega) (fun w w0 w1 => s_low (by omega) (by omega) (fun r r0 r1 => s_low (by omega) (by omega) (fun d d0 d1 => ?_))), fun _ => ac_no hI h _ lit32⟩
  have h0 : tR f w r d = 0 := by
    unfold tR
    rw [if_pos ⟨w0, w1⟩, if_pos ⟨r0, by omega, d0, by omega⟩]
  have hO := hf.2.2.2.2.1 w w0 w1
  unfold OKw at hO
  refine s_X3_rule hv.1 hf hk.1 hk.2 hS lit32 lit32 lit32 (fun _ c2 L2 li2 wh2 en2 cs2 re2 la2 S2 hv2 hS2 => ?_) (fun hx => by omega) (fun hx => by omega)
  exact ac_yes hI h (rl_OK hf h0).2 (Z_up (Z_up zf (by omega) (by omega)) (by omega) (by omega)) hv2 hS2 (RE_3 (by rw [up_ne (by omega), up_ne (by omega)])) (by omega) (by omega)
theorem s_act {z : Nat → Nat} {p : Int} (hI : IH f c L0 li wh en cs S P k) (h : AC f P k Q) (hz : z 1 ≤ 260) (p0 : 0 ≤ p) (p1 : p ≤ 96) : P_L_act z (iI p) (aI c) L0 (aI li) (aI wh) (aI en) (aI cs) (iI (paS f)) re la (aI S) (iI k) Q := by
  obtain ⟨hf, zf, hv, hS, hk, hh⟩ := id hI
  have n2 := hf.2.2.1
  have n3 := hf.2.2.2.1
  unfold P_L_act P_L_undo
  simp only [i_m9, i_m1, i_0, i_1, i_2, i_3, i_4, i_5, i_6, i_7, i_8, i_9, i_10, i_11, i_12, i_13, i_14, i_15, i_16, i_17, i_18, i_19, i_20, i_21, i_22, i_23, i_24, i_25, i_26, i_27, i_28, i_29, i_30, i_31, i_32, i_33, i_34, i_35, i_36, i_37, i_38, i_39, i_40, i_41, i_42, i_43, i_44, i_45, i_46, i_47, i_48, i_49, i_50, i_51, i_52, i_53, i_54, i_55, i_56, i_57, i_58, i_59, i_60, i_61, i_62, i_63, i_64, i_65, i_66, i_67, i_68, i_69, i_70, i_72, i_77, i_78, i_80, i_81, i_82, i_83, i_84, i_87, i_88, i_96, i_98, i_100, i_101, i_103, i_118, i_119, i_126, i_133, i_137, i_144, i_154, i_158, i_160, i_190, i_199, i_200, i_207, i_209, i_213, i_229, i_252, i_254, i_255, i_260, i_282, i_303, i_304, i_321, i_348, i_435, i_492, i_522, i_1000, i_1023, i_1600, i_2903, iI_neg]
  rw [iI_add, iI_add, iI_add]
  refine s_cell (by omega) (by omega) hz (fun x3 => s_cell (by omega) (by omega) hz (fun x4 => s_cell (by omega) (by omega) hz (fun x5 => ct_at hv hf (by omega) (by omega) (ct_at hv hf (by omega) (by omega) (s_cell (by omega) (by omega) hz (fun x0 => s_low (by omega) (by omega) (fun v v0 v1 => ?_)))))))
  rw [ctv_0, ctv_1]
  have hno := fun (r : Int) (hr : I32 r) => ac_no (re := re) (la := la) hI h r hr
  refine ⟨fun _ => a_word hI h _ _ _, fun _ => a_word hI h _ _ _, fun _ => a_word hI h _ _ _, fun _ => a_word hI h _ _ _, fun _ => a_beam2 hI h _ _ _, fun _ => a_beam2 hI h _ _ _, fun _ => a_beam2 hI h _ _ _, fun _ => a_beam2 hI h _ _ _, fun _ => a_rule hI h _ _ _, fun _ => a_rule hI h _ _ _, fun _ => ?_, fun _ => ?_, fun _ => ?_, fun _ => ?_, fun _ => ?_, fun _ _ _ _ _ _ _ _ _ _ _ _ _ _ _ => ?_⟩
  · rw [iI_eq (by omega) (by omega) (by omega) (by omega)]
    refine ⟨fun e => s_low (by omega) (by omega) (fun w w0 w1 => s_low (by omega) (by omega) (fun q q0 q1 => ?_)), fun _ => hno _ lit32⟩
    have h0 : tC f w q = 0 := by
      unfold tC
      rw [if_pos ⟨w0, w1⟩, if_pos ⟨q0, by omega⟩]
    have hO := hf.2.2.2.2.1 w w0 w1
    unfold OKw at hO
    refine s_X3_cue hv.1 hf hk.1 hk.2 hS lit32 lit32 (fun _ c2 L2 li2 wh2 en2 cs2 re2 la2 S2 hv2 hS2 => ?_) (fun hx => by omega) (fun hx => by omega)
    exact ac_yes hI h (cuF_OK hf w0 w1 q0 (by omega)) (cuF_Z zf w0 (by omega)) hv2 hS2 (RE_3 (by rw [up_ne (by omega)])) (by omega) (by omega)
  · rw [iI_eq (by omega) (by omega) (by omega) (by omega)]
    refine ⟨fun e => s_low (by omega) (by omega) (fun w w0 w1 => ?_), fun _ => hno _ lit32⟩
    have h0 : t1 (f 2) w = 0 := by unfold t1; rw [if_pos ⟨w0, w1⟩]
    refine s_X3_removeWord hv.1 hf hk.1 hk.2 hS lit32 (fun _ c2 L2 li2 wh2 en2 cs2 re2 la2 S2 hv2 hS2 => ?_) (fun hx => by omega)
    have er := rw_2 (f := f) (b := w)
    exact ac_yes hI h (rwF_OK hf w0 w1) (Z_rw zf w0 n2.2) hv2 hS2 (RE_2 (by omega)) (by omega) (by omega)
  · rw [iI_eq (by omega) (by omega) (by omega) (by omega)]
    refine ⟨fun e => s_low (by omega) (by omega) (fun y y0 y1 => ⟨fun _ => s_low (by omega) (by omega) (fun b b0 b1 => ?_), fun _ => s_low (by omega) (by omega) (fun b b0 b1 => ?_)⟩), fun _ => hno _ lit32⟩
    · have h0 : t1 (f 3) b = 0 := by unfold t1; rw [if_pos ⟨b0, b1⟩]
      refine s_X3_removeBeam hv.1 hf hk.1 hk.2 hS lit32 (fun _ c2 L2 li2 wh2 en2 cs2 re2 la2 S2 hv2 hS2 => ?_) (fun hx => by omega)
      exact ac_yes hI h (ulF_OK hf (by omega) b0 b1) (Z_ul zf b0 (by omega)) hv2 hS2 (RE_ul hf b0 b1) (by omega) (by omega)
    · have h0 : t1 (f 3) b = 0 := by unfold t1; rw [if_pos ⟨b0, b1⟩]
      refine s_X3_turn hv.1 hf hk.1 hk.2 hS lit32 (fun _ c2 L2 li2 wh2 en2 cs2 re2 la2 S2 hv2 hS2 => ?_) (fun hx => by omega)
      have hO := tnF_OK hf b0 b1
      have ra := alS_rng hO
      exact ac_yes hI h hO (Z_up zf (by omega) (by omega)) hv2 hS2 (RE_3 (by unfold tnF; rw [up_ne (by omega)])) ra.1 (by omega)
  · refine s_low (by omega) (by omega) (fun y y0 y1 => ?_)
    rw [iI_add]
    have h0 : tS 0 (1 + y) = 0 := by unfold tS; rw [if_pos (by omega), if_pos (by omega)]
    refine s_X3_set hv.1 hf hk.1 hk.2 hS lit32 lit32 (fun _ c2 L2 li2 wh2 en2 cs2 re2 la2 S2 hv2 hS2 => ?_) (fun hx => by omega) (fun hx => by omega)
    have g0 := hf.1
    exact ac_yes hI h (st_OK hf h0).2 (Z_up zf (by omega) (by omega)) hv2 hS2 (RE_3 (by rw [up_ne (by omega)])) (by omega) (by omega)
  · refine s_low (by omega) (by omega) (fun y y0 y1 => ?_)
    have h0 : tS 1 y = 0 := by unfold tS; rw [if_pos (by omega), if_pos (by omega)]
    refine s_X3_set hv.1 hf hk.1 hk.2 hS lit32 lit32 (fun _ c2 L2 li2 wh2 en2 cs2 re2 la2 S2 hv2 hS2 => ?_) (fun hx => by omega) (fun hx => by omega)
    have g0 := hf.2.1
    exact ac_yes hI h (st_OK hf h0).2 (Z_up zf (by omega) (by omega)) hv2 hS2 (RE_3 (by rw [up_ne (by omega)])) (by omega) (by omega)
  · refine s_X3_undo (f := f) hk.1 hk.2 hS (fun h1 c2 L2 li2 wh2 en2 cs2 re2 la2 hO hv2 => ?_) (fun _ => ⟨fun _ => hno _ lit32, rfl⟩)
    rw [cp_st zf] at hO hv2 ⊢
    exact h (k - 1) (stP P (k - 1)) c2 li2 wh2 en2 cs2 S P L2 re2 la2 (k - 1) ⟨hO, Z_st P (k - 1), hv2, fun x x0 x1 => hS x x0 (by omega), by omega, HI_un (by omega) hh⟩ lit32 (Or.inl (by omega)) (RE_s (hh.1 (by omega)))
end
