/-! what holds between the turns of the law -/
def IH (f c : Int → Int) (L0 : Nat → Int64) (li wh en cs S P : Int → Int) (k : Int) : Prop := OK 6 f ∧ Z f ∧ CV f c L0 li wh en cs ∧ SvR k S P ∧ (0 ≤ k ∧ k ≤ 6) ∧ HI f P k
theorem s_L_words {k : Int} {f c li wh en cs S P : Int → Int} {L0 : Nat → Int64} {re la : Nat → Int32} {Q : Int32 → (Nat → Int32) → (Nat → Int64) → (Nat → Int32) → (Nat → Int32) → (Nat → Int32) → (Nat → Int32) → Int32 → (Nat → Int32) → (Nat → Int32) → (Nat → Int32) → Int32 → Prop} (hI : IH f c L0 li wh en cs S P k)
    (h : ∀ (c2 li2 wh2 en2 cs2 S2 P2 : Int → Int) (L2 : Nat → Int64) (re2 la2 : Nat → Int32) (k2 : Int), IH f c2 L2 li2 wh2 en2 cs2 S2 P2 k2 → Q (iI 1) (aI c2) L2 (aI li2) (aI wh2) (aI en2) (aI cs2) (iI (paS f)) re2 la2 (aI S2) (iI k2)) : P_L_words (aI c) L0 (aI li) (aI wh) (aI en) (aI cs) (iI (paS f)) re la (aI S) (iI k) Q := by
  obtain ⟨hf, zf, hv, hS, hk, hh⟩ := id hI
  have hr := svK_rng hk
  have t0 : tS 0 1 = 0 := by decide
  unfold P_L_words
  simp only [i_m9, i_m1, i_0, i_1, i_2, i_3, i_4, i_5, i_6, i_7, i_8, i_9, i_10, i_11, i_12, i_13, i_14, i_15, i_16, i_17, i_18, i_19, i_20, i_21, i_22, i_23, i_24, i_25, i_26, i_27, i_28, i_29, i_30, i_31, i_32, i_33, i_34, i_35, i_36, i_37, i_38, i_39, i_40, i_41, i_42, i_43, i_44, i_45, i_46, i_47, i_48, i_49, i_50, i_51, i_52, i_53, i_54, i_55, i_56, i_57, i_58, i_59, i_60, i_61, i_62, i_63, i_64, i_65, i_66, i_67, i_68, i_69, i_70, i_72, i_77, i_78, i_80, i_81, i_82, i_83, i_84, i_87, i_88, i_96, i_98, i_100, i_101, i_103, i_118, i_119, i_126, i_133, i_137, i_144, i_154, i_158, i_160, i_190, i_199, i_200, i_207, i_209, i_213, i_229, i_252, i_254, i_255, i_260, i_282, i_303, i_304, i_321, i_348, i_435, i_492, i_522, i_1000, i_1023, i_1600, i_2903, iI_neg]
  refine s_X3_set hv.1 hf hk.1 hk.2 hS lit32 lit32 (fun _ c2 L2 li2 wh2 en2 cs2 re2 la2 S2 hv2 hS2 => ?_) (fun hx => by omega) (fun hx => by omega)
  refine s_X3_undo (f := up f 0 1) (by omega) (by omega) hS2 (fun _ c3 L3 li3 wh3 en3 cs3 re3 la3 hO hv3 => ?_) (fun hx => by omega)
  rw [cp_sv zf (Z_up zf (by omega) (by omega)) hk] at hv3 ⊢
  have hS3 : SvR (svK k - 1) S2 (svP f P k) := fun x x0 x1 => hS2 x x0 (by omega)
  have hI3 : IH f c3 L3 li3 wh3 en3 cs3 S2 (svP f P k) (svK k - 1) := ⟨hf, zf, hv3, hS3, by omega, HI_back zf hk hh⟩
  have hQ := h c3 li3 wh3 en3 cs3 S2 (svP f P k) L3 re3 la3 (svK k - 1) hI3
  have hsh := shS_ok hf
  have hs01 := sh01 hsh.1 hsh.2.1 hsh.2.2.1 hsh.2.2.2
  rw [i_0] at hs01
  refine s_wl28 hv3 hf ⟨fun hx => absurd hx (by decide), fun _ => ct_at hv3 hf (by omega) (by omega) ?_⟩
  rw [ctv_3]
  refine ⟨fun hx => (hx (by first | rfl | trivial)).elim, fun _ => ct_at hv3 hf (by omega) (by omega) ?_⟩
  rw [ctv_2]
  refine ⟨fun hx => (hx (by first | rfl | trivial)).elim, fun _ => ct_at hv3 hf (by omega) (by omega) ?_⟩
  rw [ctv_4]
  refine ⟨fun hx => (hx (by first | rfl | trivial)).elim, fun _ => ct_at hv3 hf (by omega) (by omega) ?_⟩
  rw [ctv_5]
  refine ⟨fun hx => (hx (by first | rfl | trivial)).elim, fun _ => s_X3_litShare hv3.1 hf hv3.2.2.1 ⟨fun hx => absurd hx hs01.1, fun _ => s_X3_litShare hv3.1 hf hv3.2.2.1 ⟨fun hx => absurd hx hs01.2, fun _ => hQ⟩⟩⟩
