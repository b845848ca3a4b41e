theorem s_X3_word {l r o q k : Int} {f c S P : Int → Int} {L0 : Nat → Int64} {l0 w0 e0 cs0 re0 la0 : Nat → Int32} {cp0 : Int32} {E : Nat → Prop} {Q : Int32 → (Nat → Int32) → (Nat → Int64) → (Nat → Int32) → (Nat → Int32) → (Nat → Int32) → (Nat → Int32) → Int32 → (Nat → Int32) → (Nat → Int32) → (Nat → Int32) → Int32 → Prop} (hA : Ag c f) (hf : OK 6 f) (k0 : 0 ≤ k) (k1 : k ≤ 6) (hS : SvR k S P) (hl : I32 l) (hr : I32 r) (ho : I32 o) (hq : I32 q)
    (h1 : tW f l r o q = 0 → ∀ (c2 : Int → Int) (L : Nat → Int64) (li wh en cs : Int → Int) (re la : Nat → Int32) (S2 : Int → Int), CV (wdF f l r o q) c2 L li wh en cs → SvR (svK k) S2 (svP f P k) → Q (iI (f 2)) (aI c2) L (aI li) (aI wh) (aI en) (aI cs) (iI (paS (wdF f l r o q))) re la (aI S2) (iI (svK k))) (h2 : tW f l r o q = 1 → E 1) (h3 : tW f l r o q = 2 → E 2) :
    P_X3_word (iI l) (iI r) (iI o) (iI q) (aI c) L0 l0 w0 e0 cs0 cp0 re0 la0 (aI S) (iI k) Q E := by
  have n2 := hf.2.2.1
  have n3 := hf.2.2.2.1
  unfold P_X3_word
  simp only [i_m9, i_m1, i_0, i_1, i_2, i_3, i_4, i_5, i_6, i_7, i_8, i_9, i_10, i_11, i_12, i_13, i_14, i_15, i_16, i_17, i_18, i_19, i_20, i_21, i_22, i_23, i_24, i_25, i_26, i_27, i_28, i_29, i_30, i_31, i_32, i_33, i_34, i_35, i_36, i_37, i_38, i_39, i_40, i_41, i_42, i_43, i_44, i_45, i_46, i_47, i_48, i_49, i_50, i_51, i_52, i_53, i_54, i_55, i_56, i_57, i_58, i_59, i_60, i_61, i_62, i_63, i_64, i_65, i_66, i_67, i_68, i_69, i_70, i_72, i_77, i_78, i_80, i_81, i_82, i_83, i_84, i_87, i_88, i_96, i_98, i_100, i_101, i_103, i_118, i_119, i_126, i_133, i_137, i_144, i_154, i_158, i_160, i_190, i_199, i_200, i_207, i_209, i_213, i_229, i_252, i_254, i_255, i_260, i_282, i_303, i_304, i_321, i_348, i_435, i_492, i_522, i_1000, i_1023, i_1600, i_2903, iI_neg]
  refine s_X3_isWord hl hr ho hq (fun g => ?_) (fun g => ?_)
  · refine ⟨fun _ => s_X0_words hA ?_, fun hx => absurd hx (by decide)⟩
    simp (disch := omega) only [iI_lt]
    refine ⟨fun e => ?_, fun e => h3 (by unfold tW; rw [if_pos g, if_pos (by omega)])⟩
    have h0 : tW f l r o q = 0 := by unfold tW; rw [if_pos g, if_neg (by omega)]
    refine s_X3_saveState hA hf k0 k1 hS (fun S2 hS2 => s_X0_addWord hA (by omega) (by omega) (fun c2 hc2 => ?_))
    exact s_X3_showAnew hc2 (wdF_OK hf h0) (fun L li wh en cs re la hv => h1 h0 c2 L li wh en cs re la S2 hv hS2)
  · exact ⟨fun hx => absurd rfl hx, fun _ => h2 (by unfold tW; rw [if_neg g])⟩
theorem s_X3_rule {w r hd k : Int} {f c S P : Int → Int} {L0 : Nat → Int64} {l0 w0 e0 cs0 re0 la0 : Nat → Int32} {cp0 : Int32} {E : Nat → Prop} {Q : Int32 → (Nat → Int32) → (Nat → Int64) → (Nat → Int32) → (Nat → Int32) → (Nat → Int32) → (Nat → Int32) → Int32 → (Nat → Int32) → (Nat → Int32) → (Nat → Int32) → Int32 → Prop} (hA : Ag c f) (hf : OK 6 f) (k0 : 0 ≤ k) (k1 : k ≤ 6) (hS : SvR k S P) (hw : I32 w) (hr : I32 r) (hh : I32 hd)
    (h1 : tR f w r hd = 0 → ∀ (c2 : Int → Int) (L : Nat → Int64) (li wh en cs : Int → Int) (re la : Nat → Int32) (S2 : Int → Int), CV (up (up f (4 + 6 * w + 5) hd) (4 + 6 * w + 4) r) c2 L li wh en cs → SvR (svK k) S2 (svP f P k) → Q (iI (f (4 + 6 * w + 4))) (aI c2) L (aI li) (aI wh) (aI en) (aI cs) (iI (paS (up (up f (4 + 6 * w + 5) hd) (4 + 6 * w + 4) r))) re la (aI S2) (iI (svK k))) (h2 : tR f w r hd = 1 → E 3) (h3 : tR f w r hd = 2 → E 1) :
    P_X3_rule (iI w) (iI r) (iI hd) (aI c) L0 l0 w0 e0 cs0 cp0 re0 la0 (aI S) (iI k) Q E := by
  have n2 := hf.2.2.1
  have n3 := hf.2.2.2.1
  unfold P_X3_rule P_X3_rule_J40
  simp only [i_m9, i_m1, i_0, i_1, i_2, i_3, i_4, i_5, i_6, i_7, i_8, i_9, i_10, i_11, i_12, i_13, i_14, i_15, i_16, i_17, i_18, i_19, i_20, i_21, i_22, i_23, i_24, i_25, i_26, i_27, i_28, i_29, i_30, i_31, i_32, i_33, i_34, i_35, i_36, i_37, i_38, i_39, i_40, i_41, i_42, i_43, i_44, i_45, i_46, i_47, i_48, i_49, i_50, i_51, i_52, i_53, i_54, i_55, i_56, i_57, i_58, i_59, i_60, i_61, i_62, i_63, i_64, i_65, i_66, i_67, i_68, i_69, i_70, i_72, i_77, i_78, i_80, i_81, i_82, i_83, i_84, i_87, i_88, i_96, i_98, i_100, i_101, i_103, i_118, i_119, i_126, i_133, i_137, i_144, i_154, i_158, i_160, i_190, i_199, i_200, i_207, i_209, i_213, i_229, i_252, i_254, i_255, i_260, i_282, i_303, i_304, i_321, i_348, i_435, i_492, i_522, i_1000, i_1023, i_1600, i_2903, iI_neg]
  refine s_X0_hasWord hA hw n2 (fun g => ?_) (fun g => ?_)
  · exact ⟨fun hx => absurd rfl hx, fun _ => h2 (by unfold tR; rw [if_neg g])⟩
  refine ⟨fun _ => ?_, fun hx => absurd hx (by decide)⟩
  refine s_X3_within hr lit32 lit32 (br_b (fun g1 => ?_) (fun g1 => ?_))
  · rw [inn_f] at g1
    exact h3 (by unfold tR; rw [if_pos g, if_neg (by omega)])
  rw [inn_iff] at g1
  refine s_X3_within hh lit32 lit32 (br_b' (fun g2 => ?_) (fun g2 => ?_))
  · rw [inn_f] at g2
    exact h3 (by unfold tR; rw [if_pos g, if_neg (by omega)])
  rw [inn_iff] at g2
  have h0 : tR f w r hd = 0 := by unfold tR; rw [if_pos g, if_pos (by omega)]
  refine s_X3_saveState hA hf k0 k1 hS (fun S2 hS2 => s_X0_ofWord hA n2.2 g.1 g.2 (by omega) (by omega) (s_X0_putWord g.1 (by omega) (by omega) (by omega) (s_X0_putWord g.1 (by omega) (by omega) (by omega) ?_)))
  have hA2 := Ag_upw (v := hd) (Ag_upw (v := r) hA n2.2 n3.2 g.1 g.2 (i := 4) (by omega) (by omega)) (by rw [up_ne (by omega)]; exact n2.2) (by rw [up_ne (by omega)]; exact n3.2) g.1 (by rw [up_ne (by omega)]; exact g.2) (i := 5) (by omega) (by omega)
  rw [up_comm (f := f) (by omega)] at hA2
  have hO : OK 6 (up (up f (4 + 6 * w + 5) hd) (4 + 6 * w + 4) r) := by
    have hw0 := hf.2.2.2.2.1 w g.1 g.2
    have o1 := upw_OK (f := f) (w := w) (i := 5) (v := hd) hf g.1 g.2 (by omega) (by omega) (by
      unfold OKw at hw0 ⊢
      rw [up_ne (by omega), up_ne (by omega), up_ne (by omega), up_ne (by omega), up_ne (by omega), up_eq]
      omega)
    have hw1 := o1.2.2.2.2.1 w g.1 (by rw [up_ne (by omega)]; exact g.2)
    refine upw_OK (w := w) (i := 4) (v := r) o1 g.1 (by rw [up_ne (by omega)]; exact g.2) (by omega) (by omega) ?_
    unfold OKw at hw1 ⊢
    rw [up_ne (a := 4 + 6 * w + 4) (by omega), up_ne (a := 4 + 6 * w + 4) (by omega), up_ne (a := 4 + 6 * w + 4) (by omega), up_ne (a := 4 + 6 * w + 4) (by omega), up_eq, up_ne (a := 4 + 6 * w + 4) (by omega)]
    omega
  exact s_X3_showAnew hA2 hO (fun L li wh en cs re la hv => h1 h0 _ L li wh en cs re la S2 hv hS2)
theorem s_X3_cue {w q k : Int} {f c S P : Int → Int} {L0 : Nat → Int64} {l0 w0 e0 cs0 re0 la0 : Nat → Int32} {cp0 : Int32} {E : Nat → Prop} {Q : Int32 → (Nat → Int32) → (Nat → Int64) → (Nat → Int32) → (Nat → Int32) → (Nat → Int32) → (Nat → Int32) → Int32 → (Nat → Int32) → (Nat → Int32) → (Nat → Int32) → Int32 → Prop} (hA : Ag c f) (hf : OK 6 f) (k0 : 0 ≤ k) (k1 : k ≤ 6) (hS : SvR k S P) (hw : I32 w) (hq : I32 q)
    (h1 : tC f w q = 0 → ∀ (c2 : Int → Int) (L : Nat → Int64) (li wh en cs : Int → Int) (re la : Nat → Int32) (S2 : Int → Int), CV (up f (4 + 6 * w + 3) q) c2 L li wh en cs → SvR (svK k) S2 (svP f P k) → Q (iI (f (4 + 6 * w + 3))) (aI c2) L (aI li) (aI wh) (aI en) (aI cs) (iI (paS (up f (4 + 6 * w + 3) q))) re la (aI S2) (iI (svK k))) (h2 : tC f w q = 1 → E 3) (h3 : tC f w q = 2 → E 1) :
    P_X3_cue (iI w) (iI q) (aI c) L0 l0 w0 e0 cs0 cp0 re0 la0 (aI S) (iI k) Q E := by
  have n2 := hf.2.2.1
  have n3 := hf.2.2.2.1
  unfold P_X3_cue
  simp only [i_m9, i_m1, i_0, i_1, i_2, i_3, i_4, i_5, i_6, i_7, i_8, i_9, i_10, i_11, i_12, i_13, i_14, i_15, i_16, i_17, i_18, i_19, i_20, i_21, i_22, i_23, i_24, i_25, i_26, i_27, i_28, i_29, i_30, i_31, i_32, i_33, i_34, i_35, i_36, i_37, i_38, i_39, i_40, i_41, i_42, i_43, i_44, i_45, i_46, i_47, i_48, i_49, i_50, i_51, i_52, i_53, i_54, i_55, i_56, i_57, i_58, i_59, i_60, i_61, i_62, i_63, i_64, i_65, i_66, i_67, i_68, i_69, i_70, i_72, i_77, i_78, i_80, i_81, i_82, i_83, i_84, i_87, i_88, i_96, i_98, i_100, i_101, i_103, i_118, i_119, i_126, i_133, i_137, i_144, i_154, i_158, i_160, i_190, i_199, i_200, i_207, i_209, i_213, i_229, i_252, i_254, i_255, i_260, i_282, i_303, i_304, i_321, i_348, i_435, i_492, i_522, i_1000, i_1023, i_1600, i_2903, iI_neg]
  refine s_X0_hasWord hA hw n2 (fun g => ?_) (fun g => ?_)
  · exact ⟨fun hx => absurd rfl hx, fun _ => h2 (by unfold tC; rw [if_neg g])⟩
  refine ⟨fun _ => ?_, fun hx => absurd hx (by decide)⟩
  refine s_X3_isBeat hq (br_b' (fun g1 => ?_) (fun g1 => ?_))
  · rw [inn_f] at g1
    exact h3 (by unfold tC; rw [if_pos g, if_neg (by omega)])
  rw [inn_iff] at g1
  have h0 : tC f w q = 0 := by unfold tC; rw [if_pos g, if_pos (by omega)]
  refine s_X3_saveState hA hf k0 k1 hS (fun S2 hS2 => s_X0_ofWord hA n2.2 g.1 g.2 (by omega) (by omega) (s_X0_putWord g.1 (by omega) (by omega) (by omega) ?_))
  have hA2 := Ag_upw (v := q) hA n2.2 n3.2 g.1 g.2 (i := 3) (by omega) (by omega)
  exact s_X3_showAnew hA2 (cuF_OK hf g.1 g.2 g1.1 g1.2) (fun L li wh en cs re la hv => h1 h0 _ L li wh en cs re la S2 hv hS2)
theorem s_X3_removeWord {w k : Int} {f c S P : Int → Int} {L0 : Nat → Int64} {l0 w0 e0 cs0 re0 la0 : Nat → Int32} {cp0 : Int32} {E : Nat → Prop} {Q : Int32 → (Nat → Int32) → (Nat → Int64) → (Nat → Int32) → (Nat → Int32) → (Nat → Int32) → (Nat → Int32) → Int32 → (Nat → Int32) → (Nat → Int32) → (Nat → Int32) → Int32 → Prop} (hA : Ag c f) (hf : OK 6 f) (k0 : 0 ≤ k) (k1 : k ≤ 6) (hS : SvR k S P) (hw : I32 w)
    (h1 : t1 (f 2) w = 0 → ∀ (c2 : Int → Int) (L : Nat → Int64) (li wh en cs : Int → Int) (re la : Nat → Int32) (S2 : Int → Int), CV (rwF f w) c2 L li wh en cs → SvR (svK k) S2 (svP f P k) → Q (iI (f 2 - 1)) (aI c2) L (aI li) (aI wh) (aI en) (aI cs) (iI (paS (rwF f w))) re la (aI S2) (iI (svK k))) (h2 : t1 (f 2) w = 1 → E 3) :
    P_X3_removeWord (iI w) (aI c) L0 l0 w0 e0 cs0 cp0 re0 la0 (aI S) (iI k) Q E := by
  have n2 := hf.2.2.1
  have n3 := hf.2.2.2.1
  unfold P_X3_removeWord
  simp only [i_m9, i_m1, i_0, i_1, i_2, i_3, i_4, i_5, i_6, i_7, i_8, i_9, i_10, i_11, i_12, i_13, i_14, i_15, i_16, i_17, i_18, i_19, i_20, i_21, i_22, i_23, i_24, i_25, i_26, i_27, i_28, i_29, i_30, i_31, i_32, i_33, i_34, i_35, i_36, i_37, i_38, i_39, i_40, i_41, i_42, i_43, i_44, i_45, i_46, i_47, i_48, i_49, i_50, i_51, i_52, i_53, i_54, i_55, i_56, i_57, i_58, i_59, i_60, i_61, i_62, i_63, i_64, i_65, i_66, i_67, i_68, i_69, i_70, i_72, i_77, i_78, i_80, i_81, i_82, i_83, i_84, i_87, i_88, i_96, i_98, i_100, i_101, i_103, i_118, i_119, i_126, i_133, i_137, i_144, i_154, i_158, i_160, i_190, i_199, i_200, i_207, i_209, i_213, i_229, i_252, i_254, i_255, i_260, i_282, i_303, i_304, i_321, i_348, i_435, i_492, i_522, i_1000, i_1023, i_1600, i_2903, iI_neg]
  refine s_X0_hasWord hA hw n2 (fun g => ?_) (fun g => ?_)
  · exact ⟨fun hx => absurd rfl hx, fun _ => h2 (by unfold t1; rw [if_neg g])⟩
  refine ⟨fun _ => ?_, fun hx => absurd hx (by decide)⟩
  have h0 : t1 (f 2) w = 0 := by unfold t1; rw [if_pos g]
  refine s_X3_saveState hA hf k0 k1 hS (fun S2 hS2 => s_X0_dropWord hA n2.2 n3.2 g.1 g.2 (fun c2 hc2 => ?_))
  refine s_X3_showAnew hc2 (rwF_OK hf g.1 g.2) (fun L li wh en cs re la hv => s_X0_words hc2 ?_)
  have e : rwF f w 2 = f 2 - 1 := by unfold rwF; rw [if_pos rfl]
  rw [e]
  exact h1 h0 _ L li wh en cs re la S2 hv hS2
theorem s_X3_beam {t o s w r k : Int} {f c S P : Int → Int} {L0 : Nat → Int64} {l0 w0 e0 cs0 re0 la0 : Nat → Int32} {cp0 : Int32} {E : Nat → Prop} {Q : Int32 → (Nat → Int32) → (Nat → Int64) → (Nat → Int32) → (Nat → Int32) → (Nat → Int32) → (Nat → Int32) → Int32 → (Nat → Int32) → (Nat → Int32) → (Nat → Int32) → Int32 → Prop} (hA : Ag c f) (hf : OK 6 f) (k0 : 0 ≤ k) (k1 : k ≤ 6) (hS : SvR k S P) (ht : I32 t) (ho : I32 o) (hs : I32 s) (hw : I32 w) (hr : I32 r)
    (h1 : tB f t o s w r = 0 → ∀ (c2 : Int → Int) (L : Nat → Int64) (li wh en cs : Int → Int) (re la : Nat → Int32) (S2 : Int → Int), CV (bmF f t o s w r) c2 L li wh en cs → SvR (svK k) S2 (svP f P k) → Q (iI (f 3)) (aI c2) L (aI li) (aI wh) (aI en) (aI cs) (iI (paS (bmF f t o s w r))) re la (aI S2) (iI (svK k))) (h2 : tB f t o s w r = 1 → E 1) (h3 : tB f t o s w r = 2 → E 2) :
    P_X3_beam (iI t) (iI o) (iI s) (iI w) (iI r) (aI c) L0 l0 w0 e0 cs0 cp0 re0 la0 (aI S) (iI k) Q E := by
  have n2 := hf.2.2.1
  have n3 := hf.2.2.2.1
  unfold P_X3_beam P_X3_beam_J23
  simp only [i_m9, i_m1, i_0, i_1, i_2, i_3, i_4, i_5, i_6, i_7, i_8, i_9, i_10, i_11, i_12, i_13, i_14, i_15, i_16, i_17, i_18, i_19, i_20, i_21, i_22, i_23, i_24, i_25, i_26, i_27, i_28, i_29, i_30, i_31, i_32, i_33, i_34, i_35, i_36, i_37, i_38, i_39, i_40, i_41, i_42, i_43, i_44, i_45, i_46, i_47, i_48, i_49, i_50, i_51, i_52, i_53, i_54, i_55, i_56, i_57, i_58, i_59, i_60, i_61, i_62, i_63, i_64, i_65, i_66, i_67, i_68, i_69, i_70, i_72, i_77, i_78, i_80, i_81, i_82, i_83, i_84, i_87, i_88, i_96, i_98, i_100, i_101, i_103, i_118, i_119, i_126, i_133, i_137, i_144, i_154, i_158, i_160, i_190, i_199, i_200, i_207, i_209, i_213, i_229, i_252, i_254, i_255, i_260, i_282, i_303, i_304, i_321, i_348, i_435, i_492, i_522, i_1000, i_1023, i_1600, i_2903, iI_neg]
  refine s_X3_isBeam ht ho hs hw (fun g => ?_) (fun g => ?_)
  rotate_left
  · exact ⟨fun _ => h2 (by unfold tB; rw [if_neg (by omega)]), fun hx => absurd rfl hx⟩
  refine ⟨fun hx => absurd hx (by decide), fun _ => ?_⟩
  refine s_X3_within hr lit32 lit32 (br_b' (fun g1 => ?_) (fun g1 => ?_))
  · rw [inn_f] at g1
    exact h2 (by unfold tB; rw [if_neg (by omega)])
  rw [inn_iff] at g1
  refine s_X0_beams hA ?_
  simp (disch := omega) only [iI_lt]
  refine ⟨fun e => ?_, fun e => h3 (by unfold tB; rw [if_pos (by omega), if_pos (by omega)])⟩
  have h0 : tB f t o s w r = 0 := by unfold tB; rw [if_pos (by omega), if_neg (by omega)]
  refine s_X3_saveState hA hf k0 k1 hS (fun S2 hS2 => s_X0_addBeam hA (by omega) (by omega) (fun c2 hc2 => ?_))
  exact s_X3_showAnew hc2 (OK_mono (by omega) (bmF_OK hf (by omega) (tB_0 h0).1)) (fun L li wh en cs re la hv => h1 h0 c2 L li wh en cs re la S2 hv hS2)
theorem s_X3_turn {b k : Int} {f c S P : Int → Int} {L0 : Nat → Int64} {l0 w0 e0 cs0 re0 la0 : Nat → Int32} {cp0 : Int32} {E : Nat → Prop} {Q : Int32 → (Nat → Int32) → (Nat → Int64) → (Nat → Int32) → (Nat → Int32) → (Nat → Int32) → (Nat → Int32) → Int32 → (Nat → Int32) → (Nat → Int32) → (Nat → Int32) → Int32 → Prop} (hA : Ag c f) (hf : OK 6 f) (k0 : 0 ≤ k) (k1 : k ≤ 6) (hS : SvR k S P) (hb : I32 b)
    (h1 : t1 (f 3) b = 0 → ∀ (c2 : Int → Int) (L : Nat → Int64) (li wh en cs : Int → Int) (re la : Nat → Int32) (S2 : Int → Int), CV (tnF f b) c2 L li wh en cs → SvR (svK k) S2 (svP f P k) → Q (iI (alS (tnF f b))) (aI c2) L (aI li) (aI wh) (aI en) (aI cs) (iI (paS (tnF f b))) re la (aI S2) (iI (svK k))) (h2 : t1 (f 3) b = 1 → E 3) :
    P_X3_turn (iI b) (aI c) L0 l0 w0 e0 cs0 cp0 re0 la0 (aI S) (iI k) Q E := by
  have n2 := hf.2.2.1
  have n3 := hf.2.2.2.1
  unfold P_X3_turn
  simp only [i_m9, i_m1, i_0, i_1, i_2, i_3, i_4, i_5, i_6, i_7, i_8, i_9, i_10, i_11, i_12, i_13, i_14, i_15, i_16, i_17, i_18, i_19, i_20, i_21, i_22, i_23, i_24, i_25, i_26, i_27, i_28, i_29, i_30, i_31, i_32, i_33, i_34, i_35, i_36, i_37, i_38, i_39, i_40, i_41, i_42, i_43, i_44, i_45, i_46, i_47, i_48, i_49, i_50, i_51, i_52, i_53, i_54, i_55, i_56, i_57, i_58, i_59, i_60, i_61, i_62, i_63, i_64, i_65, i_66, i_67, i_68, i_69, i_70, i_72, i_77, i_78, i_80, i_81, i_82, i_83, i_84, i_87, i_88, i_96, i_98, i_100, i_101, i_103, i_118, i_119, i_126, i_133, i_137, i_144, i_154, i_158, i_160, i_190, i_199, i_200, i_207, i_209, i_213, i_229, i_252, i_254, i_255, i_260, i_282, i_303, i_304, i_321, i_348, i_435, i_492, i_522, i_1000, i_1023, i_1600, i_2903, iI_neg]
  refine s_X0_hasBeam hA hb n3 (fun g => ?_) (fun g => ?_)
  · exact ⟨fun hx => absurd rfl hx, fun _ => h2 (by unfold t1; rw [if_neg g])⟩
  refine ⟨fun _ => ?_, fun hx => absurd hx (by decide)⟩
  have h0 : t1 (f 3) b = 0 := by unfold t1; rw [if_pos g]
  refine s_X3_saveState hA hf k0 k1 hS (fun S2 hS2 => s_X0_ofBeam hA n3.2 g.1 g.2 (by omega) (by omega) ?_)
  rw [iI_neg]
  refine s_X0_putBeam g.1 (by omega) (by omega) (by omega) ?_
  have hA2 : Ag (up c (48 + b * 5 + 2) (-f (52 + 5 * b + 2))) (tnF f b) := Ag_upb hA n2.2 n3.2 g.1 g.2 (by omega) (by omega)
  have hO := tnF_OK hf g.1 g.2
  refine s_X3_showAnew hA2 hO (fun L li wh en cs re la hv => s_X2_litLetters (Ag_AW hA2) hO hv.2.2.1 ?_)
  exact h1 h0 _ L li wh en cs re la S2 hv hS2
theorem s_X3_removeBeam {b k : Int} {f c S P : Int → Int} {L0 : Nat → Int64} {l0 w0 e0 cs0 re0 la0 : Nat → Int32} {cp0 : Int32} {E : Nat → Prop} {Q : Int32 → (Nat → Int32) → (Nat → Int64) → (Nat → Int32) → (Nat → Int32) → (Nat → Int32) → (Nat → Int32) → Int32 → (Nat → Int32) → (Nat → Int32) → (Nat → Int32) → Int32 → Prop} (hA : Ag c f) (hf : OK 6 f) (k0 : 0 ≤ k) (k1 : k ≤ 6) (hS : SvR k S P) (hb : I32 b)
    (h1 : t1 (f 3) b = 0 → ∀ (c2 : Int → Int) (L : Nat → Int64) (li wh en cs : Int → Int) (re la : Nat → Int32) (S2 : Int → Int), CV (ulF f b) c2 L li wh en cs → SvR (svK k) S2 (svP f P k) → Q (iI (f 3 - 1)) (aI c2) L (aI li) (aI wh) (aI en) (aI cs) (iI (paS (ulF f b))) re la (aI S2) (iI (svK k))) (h2 : t1 (f 3) b = 1 → E 3) :
    P_X3_removeBeam (iI b) (aI c) L0 l0 w0 e0 cs0 cp0 re0 la0 (aI S) (iI k) Q E := by
  have n2 := hf.2.2.1
  have n3 := hf.2.2.2.1
  unfold P_X3_removeBeam
  simp only [i_m9, i_m1, i_0, i_1, i_2, i_3, i_4, i_5, i_6, i_7, i_8, i_9, i_10, i_11, i_12, i_13, i_14, i_15, i_16, i_17, i_18, i_19, i_20, i_21, i_22, i_23, i_24, i_25, i_26, i_27, i_28, i_29, i_30, i_31, i_32, i_33, i_34, i_35, i_36, i_37, i_38, i_39, i_40, i_41, i_42, i_43, i_44, i_45, i_46, i_47, i_48, i_49, i_50, i_51, i_52, i_53, i_54, i_55, i_56, i_57, i_58, i_59, i_60, i_61, i_62, i_63, i_64, i_65, i_66, i_67, i_68, i_69, i_70, i_72, i_77, i_78, i_80, i_81, i_82, i_83, i_84, i_87, i_88, i_96, i_98, i_100, i_101, i_103, i_118, i_119, i_126, i_133, i_137, i_144, i_154, i_158, i_160, i_190, i_199, i_200, i_207, i_209, i_213, i_229, i_252, i_254, i_255, i_260, i_282, i_303, i_304, i_321, i_348, i_435, i_492, i_522, i_1000, i_1023, i_1600, i_2903, iI_neg]
  refine s_X0_hasBeam hA hb n3 (fun g => ?_) (fun g => ?_)
  · exact ⟨fun hx => absurd rfl hx, fun _ => h2 (by unfold t1; rw [if_neg g])⟩
  refine ⟨fun _ => ?_, fun hx => absurd hx (by decide)⟩
  have h0 : t1 (f 3) b = 0 := by unfold t1; rw [if_pos g]
  refine s_X3_saveState hA hf k0 k1 hS (fun S2 hS2 => s_X0_dropBeam hA n2.2 n3.2 g.1 g.2 (fun c2 hc2 => ?_))
  refine s_X3_showAnew hc2 (ulF_OK hf (by omega) g.1 g.2) (fun L li wh en cs re la hv => s_X0_beams hc2 ?_)
  have e : ulF f b 3 = f 3 - 1 := by unfold ulF; rw [if_pos rfl]
  rw [e]
  exact h1 h0 _ L li wh en cs re la S2 hv hS2
theorem s_X3_set {x v k : Int} {f c S P : Int → Int} {L0 : Nat → Int64} {l0 w0 e0 cs0 re0 la0 : Nat → Int32} {cp0 : Int32} {E : Nat → Prop} {Q : Int32 → (Nat → Int32) → (Nat → Int64) → (Nat → Int32) → (Nat → Int32) → (Nat → Int32) → (Nat → Int32) → Int32 → (Nat → Int32) → (Nat → Int32) → (Nat → Int32) → Int32 → Prop} (hA : Ag c f) (hf : OK 6 f) (k0 : 0 ≤ k) (k1 : k ≤ 6) (hS : SvR k S P) (hx : I32 x) (hv : I32 v)
    (h1 : tS x v = 0 → ∀ (c2 : Int → Int) (L : Nat → Int64) (li wh en cs : Int → Int) (re la : Nat → Int32) (S2 : Int → Int), CV (up f x v) c2 L li wh en cs → SvR (svK k) S2 (svP f P k) → Q (iI (f x)) (aI c2) L (aI li) (aI wh) (aI en) (aI cs) (iI (paS (up f x v))) re la (aI S2) (iI (svK k))) (h2 : tS x v = 1 → E 3) (h3 : tS x v = 2 → E 1) :
    P_X3_set (iI x) (iI v) (aI c) L0 l0 w0 e0 cs0 cp0 re0 la0 (aI S) (iI k) Q E := by
  have n2 := hf.2.2.1
  have n3 := hf.2.2.2.1
  have hJ : (x = 0 ∨ x = 1) → tS x v = 0 → OK 6 (up f x v) → P_X3_set_J56 (aI c) L0 l0 w0 e0 cs0 cp0 re0 la0 (aI S) (iI k) Q (iI x) (iI v) := by
    intro g h0 hO
    unfold P_X3_set_J56
    refine s_X3_saveState hA hf k0 k1 hS (fun S2 hS2 => s_X0_setting hA g (s_X0_putSetting g ?_))
    exact s_X3_showAnew (Ag_ups hA n2.2 n3.2 g) hO (fun L li wh en cs re la hv => h1 h0 _ L li wh en cs re la S2 hv hS2)
  have ho : ∀ u, (x = 0 ∨ x = 1) → ((1 ≤ up f x u 0 ∧ up f x u 0 ≤ 16) ∧ (0 ≤ up f x u 1 ∧ up f x u 1 ≤ 20)) → OK 6 (up f x u) := by
    intro u g g2
    obtain ⟨b0, b1, b2, b3, b4, b5⟩ := hf
    refine ⟨g2.1, g2.2, ?_, ?_, fun w w0 w1 => ?_, fun b b0 b1 => ?_⟩
    · rw [up_ne (by omega)]; exact b2
    · rw [up_ne (by omega)]; exact b3
    · rw [up_ne (by omega)] at w1
      exact OKw_cong (fun i i0 i1 => up_ne (by omega)) (b4 w w0 w1)
    · rw [up_ne (by omega)] at b1
      exact OKb_cong (fun i i0 i1 => up_ne (by omega)) (b5 b b0 b1)
  have hg := hf.1
  have hg1 := hf.2.1
  unfold P_X3_set P_X3_set_J19 P_X3_set_J46
  simp only [i_m9, i_m1, i_0, i_1, i_2, i_3, i_4, i_5, i_6, i_7, i_8, i_9, i_10, i_11, i_12, i_13, i_14, i_15, i_16, i_17, i_18, i_19, i_20, i_21, i_22, i_23, i_24, i_25, i_26, i_27, i_28, i_29, i_30, i_31, i_32, i_33, i_34, i_35, i_36, i_37, i_38, i_39, i_40, i_41, i_42, i_43, i_44, i_45, i_46, i_47, i_48, i_49, i_50, i_51, i_52, i_53, i_54, i_55, i_56, i_57, i_58, i_59, i_60, i_61, i_62, i_63, i_64, i_65, i_66, i_67, i_68, i_69, i_70, i_72, i_77, i_78, i_80, i_81, i_82, i_83, i_84, i_87, i_88, i_96, i_98, i_100, i_101, i_103, i_118, i_119, i_126, i_133, i_137, i_144, i_154, i_158, i_160, i_190, i_199, i_200, i_207, i_209, i_213, i_229, i_252, i_254, i_255, i_260, i_282, i_303, i_304, i_321, i_348, i_435, i_492, i_522, i_1000, i_1023, i_1600, i_2903, iI_neg]
  have hx2 := hx
  unfold I32 at hx2
  rw [iI_eq hx2.1 hx2.2 (by omega) (by omega), iI_eq hx2.1 hx2.2 (by omega) (by omega)]
  refine ⟨fun e => ⟨fun e2 => absurd e e2, fun _ => s_X3_within hv lit32 lit32 (br_b' (fun g => ?_) (fun g => ?_))⟩, fun e => ⟨fun e2 => ⟨fun _ => s_X3_within hv lit32 lit32 (br_b' (fun g => ?_) (fun g => ?_)), fun e3 => absurd e3 e⟩, fun e2 => h2 (by unfold tS; rw [if_neg (by omega)])⟩⟩
  · rw [inn_f] at g
    exact h3 (by unfold tS; rw [if_pos (by omega), if_neg (by omega)])
  · rw [inn_iff] at g
    subst e
    refine hJ (Or.inl rfl) (by unfold tS; rw [if_pos (by omega), if_pos (by omega)]) (ho v (Or.inl rfl) ⟨by rw [up_eq]; exact g, by rw [up_ne (by omega)]; exact hg1⟩)
  · rw [inn_f] at g
    exact h3 (by unfold tS; rw [if_pos (by omega), if_neg (by omega)])
  · rw [inn_iff] at g
    subst e2
    refine hJ (Or.inr rfl) (by unfold tS; rw [if_pos (by omega), if_pos (by omega)]) (ho v (Or.inr rfl) ⟨by rw [up_ne (by omega)]; exact hg, by rw [up_eq]; exact g⟩)
theorem s_X3_undo {k : Int} {f c S P : Int → Int} {L0 : Nat → Int64} {l0 w0 e0 cs0 re0 la0 : Nat → Int32} {cp0 : Int32} {E : Nat → Prop} {Q : Int32 → (Nat → Int32) → (Nat → Int64) → (Nat → Int32) → (Nat → Int32) → (Nat → Int32) → (Nat → Int32) → Int32 → (Nat → Int32) → (Nat → Int32) → Int32 → Prop} (k0 : 0 ≤ k) (k1 : k ≤ 6) (hS : SvR k S P)
    (h1 : k ≠ 0 → ∀ (c2 : Int → Int) (L : Nat → Int64) (li wh en cs : Int → Int) (re la : Nat → Int32), OK 6 (cpF P (87 * (k - 1)) f 0) → CV (cpF P (87 * (k - 1)) f 0) c2 L li wh en cs → Q (iI (k - 1)) (aI c2) L (aI li) (aI wh) (aI en) (aI cs) (iI (paS (cpF P (87 * (k - 1)) f 0))) re la (iI (k - 1))) (h2 : k = 0 → E 2) :
    P_X3_undo (aI c) L0 l0 w0 e0 cs0 cp0 re0 la0 (aI S) (iI k) Q E := by
  unfold P_X3_undo
  simp (disch := omega) only [iI_lt, iI_sub, iI_mul, i_m9, i_m1, i_0, i_1, i_2, i_3, i_4, i_5, i_6, i_7, i_8, i_9, i_10, i_11, i_12, i_13, i_14, i_15, i_16, i_17, i_18, i_19, i_20, i_21, i_22, i_23, i_24, i_25, i_26, i_27, i_28, i_29, i_30, i_31, i_32, i_33, i_34, i_35, i_36, i_37, i_38, i_39, i_40, i_41, i_42, i_43, i_44, i_45, i_46, i_47, i_48, i_49, i_50, i_51, i_52, i_53, i_54, i_55, i_56, i_57, i_58, i_59, i_60, i_61, i_62, i_63, i_64, i_65, i_66, i_67, i_68, i_69, i_70, i_72, i_77, i_78, i_80, i_81, i_82, i_83, i_84, i_87, i_88, i_96, i_98, i_100, i_101, i_103, i_118, i_119, i_126, i_133, i_137, i_144, i_154, i_158, i_160, i_190, i_199, i_200, i_207, i_209, i_213, i_229, i_252, i_254, i_255, i_260, i_282, i_303, i_304, i_321, i_348, i_435, i_492, i_522, i_1000, i_1023, i_1600, i_2903, iI_neg]
  refine ⟨fun e => ?_, fun e => h2 (by omega)⟩
  obtain ⟨b1, b2⟩ := hS (k - 1) (by omega) (by omega)
  refine s_X0_copyFrom (by omega) (by omega) ?_
  have q1 : ∀ j : Int, 0 ≤ j → j < 82 → cpA S ((k - 1) * 82) c 0 82 j = S (82 * (k - 1) + j) := fun j j0 j1 => by unfold cpA; rw [if_pos (by omega)]; exact congrArg S (by omega)
  have q2 : ∀ j : Int, 0 ≤ j → j < 87 → cpF P (87 * (k - 1)) f 0 j = P (87 * (k - 1) + j) := fun j j0 j1 => by unfold cpF; rw [if_pos (by omega)]; exact congrArg P (by omega)
  have hA := Ag_cong b1 b2.2.2.1.2 b2.2.2.2.1.2 q1 q2
  have hO := OK_87 b2 q2
  exact s_X3_showAnew hA hO (fun L li wh en cs re la hv => h1 (by omega) _ L li wh en cs re la hO hv)
