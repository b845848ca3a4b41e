/-- nothing stands beyond the 87 places -/
def Z (f : Int → Int) : Prop := ∀ k : Int, (k < 0 ∨ 87 ≤ k) → f k = 0
theorem Z_up {f : Int → Int} {a v : Int} (h : Z f) (a0 : 0 ≤ a) (a1 : a < 87) : Z (up f a v) := fun k hk => by rw [up_ne (by omega)]; exact h k hk
theorem cpF_Z {f g : Int → Int} (hf : Z f) (hg : Z g) : cpF f 0 g 0 = f := by
  funext j
  unfold cpF
  by_cases e : 0 ≤ j ∧ j < 0 + 87
  · rw [if_pos e]; exact congrArg f (by omega)
  · rw [if_neg e, hg j (by omega), hf j (by omega)]
theorem Z_bm {f : Int → Int} {t c s w r : Int} (h : Z f) (n0 : 0 ≤ f 3) (n1 : f 3 < 7) : Z (bmF f t c s w r) := by
  unfold bmF
  exact Z_up (Z_up (Z_up (Z_up (Z_up (Z_up h (by omega) (by omega)) (by omega) (by omega)) (by omega) (by omega)) (by omega) (by omega)) (by omega) (by omega)) (by omega) (by omega)
theorem Z_wd {f : Int → Int} {l r c q : Int} (h : Z f) (n0 : 0 ≤ f 2) (n1 : f 2 < 8) : Z (wdF f l r c q) := by
  unfold wdF
  exact Z_up (Z_up (Z_up (Z_up (Z_up (Z_up (Z_up h (by omega) (by omega)) (by omega) (by omega)) (by omega) (by omega)) (by omega) (by omega)) (by omega) (by omega)) (by omega) (by omega)) (by omega) (by omega)
theorem Z_ul {f : Int → Int} {b : Int} (h : Z f) (b0 : 0 ≤ b) (b1 : f 3 ≤ 7) : Z (ulF f b) := fun k hk => by
  unfold ulF
  rw [if_neg (by omega), if_neg (by omega)]
  exact h k hk
theorem Z_rw {f : Int → Int} {w : Int} (h : Z f) (w0 : 0 ≤ w) (w1 : f 2 ≤ 8) : Z (rwF f w) := fun k hk => by
  unfold rwF
  rw [if_neg (by omega), if_neg (by omega)]
  exact h k hk
/-- the state with one more beam in all rows -/
def plus (f : Int → Int) (t c s w : Int) : Int → Int := bmF f t c s w 255
theorem plus_OK {f : Int → Int} {t c s w : Int} (hf : OK 6 f) (h : 0 ≤ t ∧ t ≤ 199 ∧ 0 ≤ c ∧ c ≤ 59 ∧ -9 ≤ s ∧ s ≤ 9 ∧ 1 ≤ w ∧ w ≤ 9) : OK 7 (plus f t c s w) :=
  OK_mono (by have := hf.2.2.2.1; omega) (bmF_OK hf (by omega) ⟨h.1, h.2.1, h.2.2.1, h.2.2.2.1, h.2.2.2.2.1, h.2.2.2.2.2.1, h.2.2.2.2.2.2.1, h.2.2.2.2.2.2.2, by omega, by omega⟩)
theorem s_X4_tries {t c s w il : Int} {f th li wh go la : Int → Int} {Q : (Nat → Int32) → (Nat → Int32) → (Nat → Int32) → (Nat → Int32) → Int32 → (Nat → Int32) → Prop} (hf : OK 6 f) (zf : Z f) (zt : Z th) (h : 0 ≤ t ∧ t ≤ 199 ∧ 0 ≤ c ∧ c ≤ 59 ∧ -9 ≤ s ∧ s ≤ 9 ∧ 1 ≤ w ∧ w ≤ 9)
    (hq : ∀ li wh go la : Int → Int, Ld (plus f t c s w) (plus f t c s w 2) li wh go → Q (aI (plus f t c s w)) (aI li) (aI wh) (aI go) (iI 0) (aI la)) :
    P_X4_tries (iI t) (iI c) (iI s) (iI w) (aI f) (aI th) (aI li) (aI wh) (aI go) (iI il) (aI la) Q := by
  have h3 := hf.2.2.2.1
  unfold P_X4_tries
  simp only [i_m9, i_m1, i_0, i_1, i_2, i_3, i_4, i_5, i_6, i_7, i_8, i_9, i_10, i_11, i_12, i_13, i_14, i_15, i_16, i_17, i_18, i_19, i_20, i_21, i_22, i_23, i_24, i_25, i_26, i_27, i_28, i_29, i_30, i_31, i_32, i_33, i_34, i_35, i_36, i_37, i_38, i_39, i_40, i_41, i_42, i_43, i_44, i_45, i_46, i_47, i_48, i_49, i_50, i_51, i_52, i_53, i_54, i_55, i_56, i_57, i_58, i_59, i_60, i_61, i_62, i_63, i_64, i_65, i_66, i_67, i_68, i_69, i_70, i_72, i_77, i_78, i_80, i_81, i_82, i_83, i_84, i_87, i_88, i_96, i_98, i_100, i_101, i_103, i_118, i_119, i_126, i_133, i_137, i_144, i_154, i_158, i_160, i_190, i_199, i_200, i_207, i_209, i_213, i_229, i_252, i_254, i_255, i_260, i_282, i_303, i_304, i_321, i_348, i_435, i_492, i_522, i_1000, i_1023, i_1600, i_2903, iI_neg]
  refine s_X4_copies (by omega) (by omega) (by omega) (by omega) (by omega) (by omega) ?_
  rw [cpF_Z zf zt]
  exact s_X4_beams h3.1 (by omega) (s_X4_lays (plus_OK hf h) (by omega) (fun li wh go la hl => hq li wh go la hl))
def ibS (f : Int → Int) (t c s w i : Int) : Int := if i = 0 then whS (plus f t c s w) else if i = 1 then alS (plus f t c s w) else cgS (plus f t c s w)
theorem s_X4_byBeam {t c s w i il : Int} {f th li wh go la : Int → Int} {Q : Int32 → (Nat → Int32) → (Nat → Int32) → (Nat → Int32) → (Nat → Int32) → Int32 → (Nat → Int32) → Prop} (hf : OK 6 f) (zf : Z f) (zt : Z th) (h : 0 ≤ t ∧ t ≤ 199 ∧ 0 ≤ c ∧ c ≤ 59 ∧ -9 ≤ s ∧ s ≤ 9 ∧ 1 ≤ w ∧ w ≤ 9) (i0 : 0 ≤ i) (i1 : i ≤ 2)
    (hq : ∀ th li wh go la : Int → Int, Z th → Ld f (f 2) li wh go → Q (iI (ibS f t c s w i)) (aI th) (aI li) (aI wh) (aI go) (iI 1) (aI la)) :
    P_X4_byBeam (iI t) (iI c) (iI s) (iI w) (iI i) (aI f) (aI th) (aI li) (aI wh) (aI go) (iI il) (aI la) Q := by
  have hz : Z (plus f t c s w) := Z_bm zf hf.2.2.2.1.1 (by have := hf.2.2.2.1; omega)
  have hO := plus_OK hf h
  unfold P_X4_byBeam P_X4_byBeam_J50
  refine s_X4_tries hf zf zt h (fun li wh go la hl => ?_)
  simp (disch := omega) only [iI_add, iI_sub, iI_mul, iI_neg, iI_lt, iI_le, iI_eq, iI_cl, aI_at, aI_up, aI_l0, aI_l1, aI_l2, aI_l3, i_m9, i_m1, i_0, i_1, i_2, i_3, i_4, i_5, i_6, i_7, i_8, i_9, i_10, i_11, i_12, i_13, i_14, i_15, i_16, i_17, i_18, i_19, i_20, i_21, i_22, i_23, i_24, i_25, i_26, i_27, i_28, i_29, i_30, i_31, i_32, i_33, i_34, i_35, i_36, i_37, i_38, i_39, i_40, i_41, i_42, i_43, i_44, i_45, i_46, i_47, i_48, i_49, i_50, i_51, i_52, i_53, i_54, i_55, i_56, i_57, i_58, i_59, i_60, i_61, i_62, i_63, i_64, i_65, i_66, i_67, i_68, i_69, i_70, i_72, i_77, i_78, i_80, i_81, i_82, i_83, i_84, i_87, i_88, i_96, i_98, i_100, i_101, i_103, i_118, i_119, i_126, i_133, i_137, i_144, i_154, i_158, i_160, i_190, i_199, i_200, i_207, i_209, i_213, i_229, i_252, i_254, i_255, i_260, i_282, i_303, i_304, i_321, i_348, i_435, i_492, i_522, i_1000, i_1023, i_1600, i_2903, iI_neg]
  unfold ibS at hq
  have tail : ∀ v : Int, v = (if i = 0 then whS (plus f t c s w) else if i = 1 then alS (plus f t c s w) else cgS (plus f t c s w)) → P_X4_laysNow (aI f) (aI li) (aI wh) (aI go) (iI 0) (aI la) (fun a b c' d e => Q (iI v) (aI (plus f t c s w)) a b c' d e) := by
    intro v hv
    rw [hv]
    exact s_X4_laysNow hf (by omega) (Or.inl rfl) (fun li' wh' go' la' hl' => hq _ li' wh' go' la' hz hl')
  refine ⟨fun e => ⟨fun e2 => ?_, fun e2 => ?_⟩, fun e => ?_⟩
  · exact s_X4_clashing hO hl (tail _ (by rw [if_neg e, if_neg e2]))
  · exact s_X4_allLit hO hl (tail _ (by rw [if_neg e, if_pos e2]))
  · exact s_X4_wholes hO hl (tail _ (by rw [if_pos e]))
/-- laid or not -/
def ML (f : Int → Int) (il : Int) (li wh go : Int → Int) : Prop := il = 0 ∨ (il = 1 ∧ Ld f (f 2) li wh go)
def tI (t c s w i : Int) : Int := if 0 ≤ t ∧ t ≤ 199 ∧ 0 ≤ c ∧ c ≤ 59 ∧ -9 ≤ s ∧ s ≤ 9 ∧ 1 ≤ w ∧ w ≤ 9 ∧ 0 ≤ i ∧ i ≤ 2 then 0 else 1
theorem s_X4_ifBeam {t c s w i il th0 : Int} {f th li wh go la : Int → Int} {Q : Int32 → (Nat → Int32) → Int32 → (Nat → Int32) → (Nat → Int32) → (Nat → Int32) → Int32 → (Nat → Int32) → Prop} (hf : OK 6 f) (zf : Z f) (zt : Z th) (ht : I32 t) (hc : I32 c) (hs : I32 s) (hw : I32 w) (hi : I32 i) (hm : ML f il li wh go)
    (h1 : tI t c s w i = 0 → ∀ (th li wh go la : Int → Int) (il : Int), Z th → ML f il li wh go → Q (iI (ibS f t c s w i)) (aI th) (iI 0) (aI li) (aI wh) (aI go) (iI il) (aI la))
    (h2 : tI t c s w i ≠ 0 → ∀ (th li wh go la : Int → Int) (il : Int), Z th → ML f il li wh go → Q (iI 0) (aI th) (iI (tI t c s w i)) (aI li) (aI wh) (aI go) (iI il) (aI la)) :
    P_X4_ifBeam (iI t) (iI c) (iI s) (iI w) (iI i) (aI f) (aI th) (iI th0) (aI li) (aI wh) (aI go) (iI il) (aI la) Q := by
  unfold P_X4_ifBeam P_X4_ifBeam_J55 P_X4_ifBeam_J56
  simp only [i_m9, i_m1, i_0, i_1, i_2, i_3, i_4, i_5, i_6, i_7, i_8, i_9, i_10, i_11, i_12, i_13, i_14, i_15, i_16, i_17, i_18, i_19, i_20, i_21, i_22, i_23, i_24, i_25, i_26, i_27, i_28, i_29, i_30, i_31, i_32, i_33, i_34, i_35, i_36, i_37, i_38, i_39, i_40, i_41, i_42, i_43, i_44, i_45, i_46, i_47, i_48, i_49, i_50, i_51, i_52, i_53, i_54, i_55, i_56, i_57, i_58, i_59, i_60, i_61, i_62, i_63, i_64, i_65, i_66, i_67, i_68, i_69, i_70, i_72, i_77, i_78, i_80, i_81, i_82, i_83, i_84, i_87, i_88, i_96, i_98, i_100, i_101, i_103, i_118, i_119, i_126, i_133, i_137, i_144, i_154, i_158, i_160, i_190, i_199, i_200, i_207, i_209, i_213, i_229, i_252, i_254, i_255, i_260, i_282, i_303, i_304, i_321, i_348, i_435, i_492, i_522, i_1000, i_1023, i_1600, i_2903, iI_neg]
  unfold tI at h1 h2
  have hno : ¬ (0 ≤ t ∧ t ≤ 199 ∧ 0 ≤ c ∧ c ≤ 59 ∧ -9 ≤ s ∧ s ≤ 9 ∧ 1 ≤ w ∧ w ≤ 9 ∧ 0 ≤ i ∧ i ≤ 2) → P_X4_fails (iI 1) (iI 0) (fun (r_1 : Int32) (s_thrown_2 : Int32) => Q r_1 (aI th) s_thrown_2 (aI li) (aI wh) (aI go) (iI il) (aI la)) := by
    intro hn
    rw [if_neg hn] at h2
    exact s_X4_fails (h2 (by omega) th li wh go la il zt hm)
  refine s_X4_isBeat ht.1 ht.2 (br_b (fun g => ?_) (fun g1 => ?_))
  · rw [inn_f] at g; exact ⟨fun _ => hno (by omega), fun hx => absurd trivial hx⟩
  rw [inn_iff] at g1
  refine s_X4_isColumn hc.1 hc.2 (br_b (fun g => ?_) (fun g2 => ?_))
  · rw [inn_f] at g; exact ⟨fun _ => hno (by omega), fun hx => absurd trivial hx⟩
  rw [inn_iff] at g2
  refine s_X4_in hs.1 hs.2 (by omega) (by omega) (by omega) (by omega) (br_b (fun g => ?_) (fun g3 => ?_))
  · rw [inn_f] at g; exact ⟨fun _ => hno (by omega), fun hx => absurd trivial hx⟩
  rw [inn_iff] at g3
  refine s_X4_in hw.1 hw.2 (by omega) (by omega) (by omega) (by omega) (br_b (fun g => ?_) (fun g4 => ?_))
  · rw [inn_f] at g; exact ⟨fun _ => hno (by omega), fun hx => absurd trivial hx⟩
  rw [inn_iff] at g4
  refine s_X4_in hi.1 hi.2 (by omega) (by omega) (by omega) (by omega) (br_b (fun g => ?_) (fun g5 => ?_))
  · rw [inn_f] at g; exact ⟨fun _ => hno (by omega), fun hx => absurd trivial hx⟩
  rw [inn_iff] at g5
  rw [if_pos (by omega)] at h1
  refine ⟨fun hx => absurd hx (by decide), fun _ => s_X4_byBeam hf zf zt (by omega) (by omega) (by omega) (fun th li wh go la hz hl => h1 rfl th li wh go la 1 hz (Or.inr ⟨rfl, hl⟩))⟩
/-- the best of the first n speeds, and its worth -/
def bsM (f : Int → Int) (t c : Int) : Nat → Int
  | 0 => -1
  | n + 1 => if 100 * alS (plus f t c ((n : Int) - 9) 2) + whS (plus f t c ((n : Int) - 9) 2) ≤ bsM f t c n then bsM f t c n else 100 * alS (plus f t c ((n : Int) - 9) 2) + whS (plus f t c ((n : Int) - 9) 2)
def bsF (f : Int → Int) (t c : Int) : Nat → Int
  | 0 => 0
  | n + 1 => if 100 * alS (plus f t c ((n : Int) - 9) 2) + whS (plus f t c ((n : Int) - 9) 2) ≤ bsM f t c n then bsF f t c n else (n : Int) - 9
theorem alS_rng {mb : Int} {f : Int → Int} (hf : OK mb f) : 0 ≤ alS f ∧ alS f ≤ 96 := by
  have h8 := hf.2.2.1
  have := alN_rng hf (f 2).toNat (by omega)
  unfold alS; omega
theorem whS_rng {mb : Int} {f : Int → Int} (hf : OK mb f) : 0 ≤ whS f ∧ whS f ≤ 8 := by
  have h8 := hf.2.2.1
  have := bsm_rng (fun w => decide (wlS f w ≠ -1)) (f 2).toNat
  unfold whS; omega
theorem bsM_rng {f : Int → Int} {t c : Int} (hf : OK 6 f) (h : 0 ≤ t ∧ t ≤ 199 ∧ 0 ≤ c ∧ c ≤ 59) : ∀ n : Nat, n ≤ 19 → -1 ≤ bsM f t c n ∧ bsM f t c n ≤ 10000
  | 0, _ => by unfold bsM; omega
  | n + 1, hn => by
    have h1 := bsM_rng hf h n (by omega)
    have hO := plus_OK hf (t := t) (c := c) (s := (n : Int) - 9) (w := 2) (by omega)
    have h2 := alS_rng hO
    have h3 := whS_rng hO
    unfold bsM
    split <;> omega
theorem s_X4_best {t c il : Int} {f th li wh go la : Int → Int} {Q : Int32 → (Nat → Int32) → (Nat → Int32) → (Nat → Int32) → (Nat → Int32) → Int32 → (Nat → Int32) → Prop} (hf : OK 6 f) (zf : Z f) (zt : Z th) (h : 0 ≤ t ∧ t ≤ 199 ∧ 0 ≤ c ∧ c ≤ 59)
    (hq : ∀ th li wh go la : Int → Int, Z th → Ld f (f 2) li wh go → Q (iI (bsF f t c 19 + 9)) (aI th) (aI li) (aI wh) (aI go) (iI 1) (aI la)) :
    P_X4_best (iI t) (iI c) (aI f) (aI th) (aI li) (aI wh) (aI go) (iI il) (aI la) Q := by
  have lp : ∀ (K : Int32 → (Nat → Int32) → (Nat → Int32) → (Nat → Int32) → (Nat → Int32) → Int32 → (Nat → Int32) → Prop), (∀ th li wh go la : Int → Int, Z th → K (iI (bsF f t c 19)) (aI th) (aI li) (aI wh) (aI go) (iI 0) (aI la)) →
      ∀ (m n : Nat) (th li wh go la : Int → Int) (il : Int), n + m = 19 → Z th → (n = 0 ∨ il = 0) → P_X4_best_L9 (iI t) (iI c) (aI f) K (m + 1) (iI (bsF f t c n)) (iI (bsM f t c n)) (iI ((n : Int) - 9)) (aI th) (aI li) (aI wh) (aI go) (iI il) (aI la) := by
    intro K hK m
    induction m with
    | zero =>
      intro n th li wh go la il hn zt hi
      rw [P_X4_best_L9_s]
      unfold B_X4_best_L9
      simp (disch := omega) only [iI_add, iI_sub, iI_mul, iI_neg, iI_lt, iI_le, iI_eq, iI_cl, aI_at, aI_up, aI_l0, aI_l1, aI_l2, aI_l3, i_m9, i_m1, i_0, i_1, i_2, i_3, i_4, i_5, i_6, i_7, i_8, i_9, i_10, i_11, i_12, i_13, i_14, i_15, i_16, i_17, i_18, i_19, i_20, i_21, i_22, i_23, i_24, i_25, i_26, i_27, i_28, i_29, i_30, i_31, i_32, i_33, i_34, i_35, i_36, i_37, i_38, i_39, i_40, i_41, i_42, i_43, i_44, i_45, i_46, i_47, i_48, i_49, i_50, i_51, i_52, i_53, i_54, i_55, i_56, i_57, i_58, i_59, i_60, i_61, i_62, i_63, i_64, i_65, i_66, i_67, i_68, i_69, i_70, i_72, i_77, i_78, i_80, i_81, i_82, i_83, i_84, i_87, i_88, i_96, i_98, i_100, i_101, i_103, i_118, i_119, i_126, i_133, i_137, i_144, i_154, i_158, i_160, i_190, i_199, i_200, i_207, i_209, i_213, i_229, i_252, i_254, i_255, i_260, i_282, i_303, i_304, i_321, i_348, i_435, i_492, i_522, i_1000, i_1023, i_1600, i_2903, iI_neg]
      refine ⟨fun _ => ?_, fun hx => absurd (by omega) hx⟩
      rw [show il = 0 by omega, show n = 19 by omega]
      exact hK th li wh go la zt
    | succ m ih =>
      intro n th li wh go la il hn zt hi
      have hO := plus_OK hf (t := t) (c := c) (s := (n : Int) - 9) (w := 2) (by omega)
      have h2 := alS_rng hO
      have h3 := whS_rng hO
      have h4 := bsM_rng hf h n (by omega)
      have hz : Z (plus f t c ((n : Int) - 9) 2) := Z_bm zf hf.2.2.2.1.1 (by have := hf.2.2.2.1; omega)
      rw [P_X4_best_L9_s]
      unfold B_X4_best_L9 P_X4_best_J60 P_X4_best_J75
      simp (disch := omega) only [iI_add, iI_sub, iI_mul, iI_neg, iI_lt, iI_le, iI_eq, iI_cl, aI_at, aI_up, aI_l0, aI_l1, aI_l2, aI_l3, i_m9, i_m1, i_0, i_1, i_2, i_3, i_4, i_5, i_6, i_7, i_8, i_9, i_10, i_11, i_12, i_13, i_14, i_15, i_16, i_17, i_18, i_19, i_20, i_21, i_22, i_23, i_24, i_25, i_26, i_27, i_28, i_29, i_30, i_31, i_32, i_33, i_34, i_35, i_36, i_37, i_38, i_39, i_40, i_41, i_42, i_43, i_44, i_45, i_46, i_47, i_48, i_49, i_50, i_51, i_52, i_53, i_54, i_55, i_56, i_57, i_58, i_59, i_60, i_61, i_62, i_63, i_64, i_65, i_66, i_67, i_68, i_69, i_70, i_72, i_77, i_78, i_80, i_81, i_82, i_83, i_84, i_87, i_88, i_96, i_98, i_100, i_101, i_103, i_118, i_119, i_126, i_133, i_137, i_144, i_154, i_158, i_160, i_190, i_199, i_200, i_207, i_209, i_213, i_229, i_252, i_254, i_255, i_260, i_282, i_303, i_304, i_321, i_348, i_435, i_492, i_522, i_1000, i_1023, i_1600, i_2903, iI_neg]
      refine ⟨fun hx => absurd hx (by omega), fun _ => s_X4_tries hf zf zt (by omega) (fun li wh go la hl => s_X4_allLit hO hl (s_X4_wholes hO hl ?_))⟩
      have ih1 := ih (n + 1) (plus f t c ((n : Int) - 9) 2) li wh go la 0 (by omega) hz (Or.inr rfl)
      rw [nsucc, show bsF f t c (n + 1) = (if 100 * alS (plus f t c ((n : Int) - 9) 2) + whS (plus f t c ((n : Int) - 9) 2) ≤ bsM f t c n then bsF f t c n else (n : Int) - 9) from rfl, show bsM f t c (n + 1) = (if 100 * alS (plus f t c ((n : Int) - 9) 2) + whS (plus f t c ((n : Int) - 9) 2) ≤ bsM f t c n then bsM f t c n else 100 * alS (plus f t c ((n : Int) - 9) 2) + whS (plus f t c ((n : Int) - 9) 2)) from rfl, show (n : Int) + 1 - 9 = (n : Int) - 9 + 1 by omega] at ih1
      simp (disch := omega) only [iI_add, iI_sub, iI_mul, iI_neg, iI_lt, iI_le, iI_eq, iI_cl, aI_at, aI_up, aI_l0, aI_l1, aI_l2, aI_l3]
      refine ⟨fun h5 => ⟨fun _ => ?_, fun hx => absurd h5 hx⟩, fun h5 => ⟨fun hx => absurd hx h5, fun _ => ?_⟩⟩
      · rw [if_pos h5, if_pos h5] at ih1; exact ih1
      · rw [if_neg h5, if_neg h5] at ih1; exact ih1
  unfold P_X4_best
  have := lp (fun x3 th li wh go il la => P_X4_laysNow (aI f) li wh go il la (fun a b c' d e => Q (x3 + iI 9) th a b c' d e)) (fun th li wh go la hz => by
    refine s_X4_laysNow hf (by omega) (Or.inl rfl) (fun li' wh' go' la' hl => ?_)
    rw [iI_add]
    exact hq th li' wh' go' la' hz hl) 19 0 th li wh go la il (by omega) zt (Or.inl rfl)
  simp only [i_m9, i_m1, i_0, i_1, i_2, i_3, i_4, i_5, i_6, i_7, i_8, i_9, i_10, i_11, i_12, i_13, i_14, i_15, i_16, i_17, i_18, i_19, i_20, i_21, i_22, i_23, i_24, i_25, i_26, i_27, i_28, i_29, i_30, i_31, i_32, i_33, i_34, i_35, i_36, i_37, i_38, i_39, i_40, i_41, i_42, i_43, i_44, i_45, i_46, i_47, i_48, i_49, i_50, i_51, i_52, i_53, i_54, i_55, i_56, i_57, i_58, i_59, i_60, i_61, i_62, i_63, i_64, i_65, i_66, i_67, i_68, i_69, i_70, i_72, i_77, i_78, i_80, i_81, i_82, i_83, i_84, i_87, i_88, i_96, i_98, i_100, i_101, i_103, i_118, i_119, i_126, i_133, i_137, i_144, i_154, i_158, i_160, i_190, i_199, i_200, i_207, i_209, i_213, i_229, i_252, i_254, i_255, i_260, i_282, i_303, i_304, i_321, i_348, i_435, i_492, i_522, i_1000, i_1023, i_1600, i_2903, iI_neg]
  exact ⟨_, this⟩
def tBS (t c : Int) : Int := if 0 ≤ t ∧ t ≤ 199 ∧ 0 ≤ c ∧ c ≤ 59 then 0 else 1
theorem s_X4_bestSpeed {t c il th0 : Int} {f th li wh go la : Int → Int} {Q : Int32 → (Nat → Int32) → Int32 → (Nat → Int32) → (Nat → Int32) → (Nat → Int32) → Int32 → (Nat → Int32) → Prop} (hf : OK 6 f) (zf : Z f) (zt : Z th) (ht : I32 t) (hc : I32 c) (hm : ML f il li wh go)
    (h1 : tBS t c = 0 → ∀ (th li wh go la : Int → Int) (il : Int), Z th → ML f il li wh go → Q (iI (bsF f t c 19 + 9)) (aI th) (iI 0) (aI li) (aI wh) (aI go) (iI il) (aI la))
    (h2 : tBS t c ≠ 0 → ∀ (th li wh go la : Int → Int) (il : Int), Z th → ML f il li wh go → Q (iI 0) (aI th) (iI (tBS t c)) (aI li) (aI wh) (aI go) (iI il) (aI la)) :
    P_X4_bestSpeed (iI t) (iI c) (aI f) (aI th) (iI th0) (aI li) (aI wh) (aI go) (iI il) (aI la) Q := by
  unfold P_X4_bestSpeed P_X4_bestSpeed_J28
  simp only [i_m9, i_m1, i_0, i_1, i_2, i_3, i_4, i_5, i_6, i_7, i_8, i_9, i_10, i_11, i_12, i_13, i_14, i_15, i_16, i_17, i_18, i_19, i_20, i_21, i_22, i_23, i_24, i_25, i_26, i_27, i_28, i_29, i_30, i_31, i_32, i_33, i_34, i_35, i_36, i_37, i_38, i_39, i_40, i_41, i_42, i_43, i_44, i_45, i_46, i_47, i_48, i_49, i_50, i_51, i_52, i_53, i_54, i_55, i_56, i_57, i_58, i_59, i_60, i_61, i_62, i_63, i_64, i_65, i_66, i_67, i_68, i_69, i_70, i_72, i_77, i_78, i_80, i_81, i_82, i_83, i_84, i_87, i_88, i_96, i_98, i_100, i_101, i_103, i_118, i_119, i_126, i_133, i_137, i_144, i_154, i_158, i_160, i_190, i_199, i_200, i_207, i_209, i_213, i_229, i_252, i_254, i_255, i_260, i_282, i_303, i_304, i_321, i_348, i_435, i_492, i_522, i_1000, i_1023, i_1600, i_2903, iI_neg]
  unfold tBS at h1 h2
  refine s_X4_isBeat ht.1 ht.2 (br_b (fun g => ?_) (fun g1 => ?_))
  · rw [inn_f] at g
    rw [if_neg (by omega)] at h2
    exact s_X4_fails (h2 (by omega) th li wh go la il zt hm)
  rw [inn_iff] at g1
  refine s_X4_isColumn hc.1 hc.2 (br_b (fun g => ?_) (fun g2 => ?_))
  · rw [inn_f] at g
    rw [if_neg (by omega)] at h2
    exact s_X4_fails (h2 (by omega) th li wh go la il zt hm)
  rw [inn_iff] at g2
  rw [if_pos (by omega)] at h1
  exact s_X4_best hf zf zt (by omega) (fun th li wh go la hz hl => h1 rfl th li wh go la 1 hz (Or.inr ⟨rfl, hl⟩))
/-- in how many beats a beam covers some column -/
def cvS (f : Int → Int) (b : Int) : Int := sm (fun t => bi (cos f b t)) 200
def boS (f : Int → Int) (b i : Int) : Int := if i < 5 then f (52 + 5 * b + i) + (if i = 2 then 9 else 0) else if i = 5 then cvS f b else alS f - alS (ulF f b)
theorem s_X4_ofBeam {b i : Int} {f th li wh go la : Int → Int} {Q : Int32 → (Nat → Int32) → (Nat → Int32) → (Nat → Int32) → (Nat → Int32) → (Nat → Int32) → Prop} (hf : OK 6 f) (zf : Z f) (zt : Z th) (hl : Ld f (f 2) li wh go) (b0 : 0 ≤ b) (b1 : b < f 3) (i0 : 0 ≤ i) (i1 : i ≤ 6)
    (hq : ∀ th li wh go la : Int → Int, Z th → Ld f (f 2) li wh go → Q (iI (boS f b i)) (aI th) (aI li) (aI wh) (aI go) (aI la)) :
    P_X4_ofBeam (iI b) (iI i) (aI f) (aI th) (aI li) (aI wh) (aI go) (aI la) Q := by
  have h3 := hf.2.2.2.1
  have hO := ulF_OK hf (by omega) b0 b1
  unfold boS at hq
  have lp : (∀ th li wh go la : Int → Int, Z th → Ld f (f 2) li wh go → Q (iI (cvS f b)) (aI th) (aI li) (aI wh) (aI go) (aI la)) → ∀ (m t : Nat), t + m = 200 → P_X4_ofBeam_L37 (iI b) (aI f) (aI th) (aI li) (aI wh) (aI go) (aI la) Q (m + 1) (iI (sm (fun t => bi (cos f b t)) t)) (iI t) := by
    intro hq m
    induction m with
    | zero =>
      intro t ht
      rw [P_X4_ofBeam_L37_s]
      unfold B_X4_ofBeam_L37
      simp (disch := omega) only [iI_add, iI_sub, iI_mul, iI_neg, iI_lt, iI_le, iI_eq, iI_cl, aI_at, aI_up, aI_l0, aI_l1, aI_l2, aI_l3, i_m9, i_m1, i_0, i_1, i_2, i_3, i_4, i_5, i_6, i_7, i_8, i_9, i_10, i_11, i_12, i_13, i_14, i_15, i_16, i_17, i_18, i_19, i_20, i_21, i_22, i_23, i_24, i_25, i_26, i_27, i_28, i_29, i_30, i_31, i_32, i_33, i_34, i_35, i_36, i_37, i_38, i_39, i_40, i_41, i_42, i_43, i_44, i_45, i_46, i_47, i_48, i_49, i_50, i_51, i_52, i_53, i_54, i_55, i_56, i_57, i_58, i_59, i_60, i_61, i_62, i_63, i_64, i_65, i_66, i_67, i_68, i_69, i_70, i_72, i_77, i_78, i_80, i_81, i_82, i_83, i_84, i_87, i_88, i_96, i_98, i_100, i_101, i_103, i_118, i_119, i_126, i_133, i_137, i_144, i_154, i_158, i_160, i_190, i_199, i_200, i_207, i_209, i_213, i_229, i_252, i_254, i_255, i_260, i_282, i_303, i_304, i_321, i_348, i_435, i_492, i_522, i_1000, i_1023, i_1600, i_2903, iI_neg]
      refine ⟨fun _ => ?_, fun hx => absurd (by omega) hx⟩
      have := hq th li wh go la zt hl
      unfold cvS at this
      rwa [show 200 = t by omega] at this
    | succ m ih =>
      intro t ht
      have ih1 := ih (t + 1) (by omega)
      rw [nsucc, sm_s] at ih1
      rw [P_X4_ofBeam_L37_s]
      unfold B_X4_ofBeam_L37 P_X4_ofBeam_J64
      simp (disch := omega) only [iI_add, iI_sub, iI_mul, iI_neg, iI_lt, iI_le, iI_eq, iI_cl, aI_at, aI_up, aI_l0, aI_l1, aI_l2, aI_l3, i_m9, i_m1, i_0, i_1, i_2, i_3, i_4, i_5, i_6, i_7, i_8, i_9, i_10, i_11, i_12, i_13, i_14, i_15, i_16, i_17, i_18, i_19, i_20, i_21, i_22, i_23, i_24, i_25, i_26, i_27, i_28, i_29, i_30, i_31, i_32, i_33, i_34, i_35, i_36, i_37, i_38, i_39, i_40, i_41, i_42, i_43, i_44, i_45, i_46, i_47, i_48, i_49, i_50, i_51, i_52, i_53, i_54, i_55, i_56, i_57, i_58, i_59, i_60, i_61, i_62, i_63, i_64, i_65, i_66, i_67, i_68, i_69, i_70, i_72, i_77, i_78, i_80, i_81, i_82, i_83, i_84, i_87, i_88, i_96, i_98, i_100, i_101, i_103, i_118, i_119, i_126, i_133, i_137, i_144, i_154, i_158, i_160, i_190, i_199, i_200, i_207, i_209, i_213, i_229, i_252, i_254, i_255, i_260, i_282, i_303, i_304, i_321, i_348, i_435, i_492, i_522, i_1000, i_1023, i_1600, i_2903, iI_neg]
      refine ⟨fun hx => absurd hx (by omega), fun _ => s_X4_coversSome b0 (by omega) (hf.2.2.2.2.2 b b0 b1) (by omega) (by omega) (br_b (fun g => ?_) (fun g => ?_))⟩
      · rwa [bi_f g] at ih1
      · rwa [bi_t g] at ih1
  unfold P_X4_ofBeam
  simp (disch := omega) only [iI_add, iI_sub, iI_mul, iI_neg, iI_lt, iI_le, iI_eq, iI_cl, aI_at, aI_up, aI_l0, aI_l1, aI_l2, aI_l3, i_m9, i_m1, i_0, i_1, i_2, i_3, i_4, i_5, i_6, i_7, i_8, i_9, i_10, i_11, i_12, i_13, i_14, i_15, i_16, i_17, i_18, i_19, i_20, i_21, i_22, i_23, i_24, i_25, i_26, i_27, i_28, i_29, i_30, i_31, i_32, i_33, i_34, i_35, i_36, i_37, i_38, i_39, i_40, i_41, i_42, i_43, i_44, i_45, i_46, i_47, i_48, i_49, i_50, i_51, i_52, i_53, i_54, i_55, i_56, i_57, i_58, i_59, i_60, i_61, i_62, i_63, i_64, i_65, i_66, i_67, i_68, i_69, i_70, i_72, i_77, i_78, i_80, i_81, i_82, i_83, i_84, i_87, i_88, i_96, i_98, i_100, i_101, i_103, i_118, i_119, i_126, i_133, i_137, i_144, i_154, i_158, i_160, i_190, i_199, i_200, i_207, i_209, i_213, i_229, i_252, i_254, i_255, i_260, i_282, i_303, i_304, i_321, i_348, i_435, i_492, i_522, i_1000, i_1023, i_1600, i_2903, iI_neg]
  refine ⟨fun e => ⟨fun e2 => ?_, fun e2 => ?_⟩, fun e => s_X4_by (by omega) (by omega) ?_⟩
  · rw [if_neg (by omega), if_neg e2] at hq
    refine s_X4_allLit hf hl (s_X4_copies (by omega) (by omega) (by omega) (by omega) (by omega) (by omega) ?_)
    rw [cpF_Z zf zt]
    refine s_X4_unlights b0 b1 (by omega) (s_X4_lays hO (by omega) (fun li' wh' go' la' hl' => s_X4_allLit hO hl' (s_X4_lays hf (by omega) (fun li2 wh2 go2 la2 hl2 => ?_))))
    rw [iI_sub]
    exact hq _ li2 wh2 go2 la2 (Z_ul zf b0 (by omega)) hl2
  · rw [if_neg (by omega), if_pos e2] at hq
    exact ⟨_, lp hq 200 0 (by omega)⟩
  · rw [if_pos (by omega)] at hq
    simp only [iI_add]
    refine ⟨fun e2 => ?_, fun e2 => ?_⟩
    · rw [if_neg e2] at hq; exact hq th li wh go la zt hl
    · rw [if_pos e2] at hq; exact hq th li wh go la zt hl
def tX (n w i m : Int) : Int := if 0 ≤ w ∧ w < n then (if 0 ≤ i ∧ i ≤ m then 0 else 2) else 1
theorem s_X4_beamOf {b i il th0 : Int} {f th li wh go la : Int → Int} {Q : Int32 → (Nat → Int32) → Int32 → (Nat → Int32) → (Nat → Int32) → (Nat → Int32) → Int32 → (Nat → Int32) → Prop} (hf : OK 6 f) (zf : Z f) (zt : Z th) (hb : I32 b) (hi : I32 i) (hm : ML f il li wh go)
    (h1 : tX (f 3) b i 6 = 0 → ∀ (th li wh go la : Int → Int) (il : Int), Z th → ML f il li wh go → Q (iI (boS f b i)) (aI th) (iI 0) (aI li) (aI wh) (aI go) (iI il) (aI la))
    (h2 : tX (f 3) b i 6 ≠ 0 → ∀ (th li wh go la : Int → Int) (il : Int), Z th → ML f il li wh go → Q (iI 0) (aI th) (iI (tX (f 3) b i 6)) (aI li) (aI wh) (aI go) (iI il) (aI la)) :
    P_X4_beamOf (iI b) (iI i) (aI f) (aI th) (iI th0) (aI li) (aI wh) (aI go) (iI il) (aI la) Q := by
  have h3 := hf.2.2.2.1
  unfold P_X4_beamOf
  simp only [i_m9, i_m1, i_0, i_1, i_2, i_3, i_4, i_5, i_6, i_7, i_8, i_9, i_10, i_11, i_12, i_13, i_14, i_15, i_16, i_17, i_18, i_19, i_20, i_21, i_22, i_23, i_24, i_25, i_26, i_27, i_28, i_29, i_30, i_31, i_32, i_33, i_34, i_35, i_36, i_37, i_38, i_39, i_40, i_41, i_42, i_43, i_44, i_45, i_46, i_47, i_48, i_49, i_50, i_51, i_52, i_53, i_54, i_55, i_56, i_57, i_58, i_59, i_60, i_61, i_62, i_63, i_64, i_65, i_66, i_67, i_68, i_69, i_70, i_72, i_77, i_78, i_80, i_81, i_82, i_83, i_84, i_87, i_88, i_96, i_98, i_100, i_101, i_103, i_118, i_119, i_126, i_133, i_137, i_144, i_154, i_158, i_160, i_190, i_199, i_200, i_207, i_209, i_213, i_229, i_252, i_254, i_255, i_260, i_282, i_303, i_304, i_321, i_348, i_435, i_492, i_522, i_1000, i_1023, i_1600, i_2903, iI_neg]
  unfold tX at h1 h2
  refine s_X4_isBeam hb.1 hb.2 ⟨h3.1, by omega⟩ (br_b' (fun g => ?_) (fun g1 => ?_))
  · rw [inn_f] at g
    rw [if_neg (by omega)] at h2
    exact s_X4_fails (h2 (by omega) th li wh go la il zt hm)
  rw [inn_iff] at g1
  rw [if_pos (by omega)] at h1 h2
  refine s_X4_laysNow hf (by omega) hm (fun li wh go la hl => s_X4_in hi.1 hi.2 (by omega) (by omega) (by omega) (by omega) (br_b (fun g => ?_) (fun g2 => ?_)))
  · rw [inn_f] at g
    rw [if_neg (by omega)] at h2
    exact s_X4_fails (h2 (by omega) th li wh go la 1 zt (Or.inr ⟨rfl, hl⟩))
  rw [inn_iff] at g2
  rw [if_pos (by omega)] at h1
  exact s_X4_ofBeam hf zf zt hl (by omega) (by omega) (by omega) (by omega) (fun th li wh go la hz hl => h1 rfl th li wh go la 1 hz (Or.inr ⟨rfl, hl⟩))
theorem s_X4_wordOf {w i il th0 : Int} {f li wh go la : Int → Int} {Q : Int32 → Int32 → (Nat → Int32) → (Nat → Int32) → (Nat → Int32) → Int32 → (Nat → Int32) → Prop} (hf : OK 6 f) (hw : I32 w) (hi : I32 i) (hm : ML f il li wh go)
    (h1 : tX (f 2) w i 9 = 0 → ∀ (li wh go la : Int → Int) (il : Int), ML f il li wh go → Q (iI (woS f w i)) (iI 0) (aI li) (aI wh) (aI go) (iI il) (aI la))
    (h2 : tX (f 2) w i 9 ≠ 0 → ∀ (li wh go la : Int → Int) (il : Int), ML f il li wh go → Q (iI 0) (iI (tX (f 2) w i 9)) (aI li) (aI wh) (aI go) (iI il) (aI la)) :
    P_X4_wordOf (iI w) (iI i) (aI f) (iI th0) (aI li) (aI wh) (aI go) (iI il) (aI la) Q := by
  unfold P_X4_wordOf
  simp only [i_m9, i_m1, i_0, i_1, i_2, i_3, i_4, i_5, i_6, i_7, i_8, i_9, i_10, i_11, i_12, i_13, i_14, i_15, i_16, i_17, i_18, i_19, i_20, i_21, i_22, i_23, i_24, i_25, i_26, i_27, i_28, i_29, i_30, i_31, i_32, i_33, i_34, i_35, i_36, i_37, i_38, i_39, i_40, i_41, i_42, i_43, i_44, i_45, i_46, i_47, i_48, i_49, i_50, i_51, i_52, i_53, i_54, i_55, i_56, i_57, i_58, i_59, i_60, i_61, i_62, i_63, i_64, i_65, i_66, i_67, i_68, i_69, i_70, i_72, i_77, i_78, i_80, i_81, i_82, i_83, i_84, i_87, i_88, i_96, i_98, i_100, i_101, i_103, i_118, i_119, i_126, i_133, i_137, i_144, i_154, i_158, i_160, i_190, i_199, i_200, i_207, i_209, i_213, i_229, i_252, i_254, i_255, i_260, i_282, i_303, i_304, i_321, i_348, i_435, i_492, i_522, i_1000, i_1023, i_1600, i_2903, iI_neg]
  unfold tX at h1 h2
  refine s_X4_isWord hw.1 hw.2 hf.2.2.1 (br_b' (fun g => ?_) (fun g1 => ?_))
  · rw [inn_f] at g
    rw [if_neg (by omega)] at h2
    exact s_X4_fails (h2 (by omega) li wh go la il hm)
  rw [inn_iff] at g1
  rw [if_pos (by omega)] at h1 h2
  refine s_X4_laysNow hf (by omega) hm (fun li wh go la hl => s_X4_in hi.1 hi.2 (by omega) (by omega) (by omega) (by omega) (br_b (fun g => ?_) (fun g2 => ?_)))
  · rw [inn_f] at g
    rw [if_neg (by omega)] at h2
    exact s_X4_fails (h2 (by omega) li wh go la 1 (Or.inr ⟨rfl, hl⟩))
  rw [inn_iff] at g2
  rw [if_pos (by omega)] at h1
  exact s_X4_ofWord hf hl (by omega) (by omega) (by omega) (by omega) (h1 rfl li wh go la 1 (Or.inr ⟨rfl, hl⟩))
def tL (f : Int → Int) (w k : Int) : Int := if 0 ≤ w ∧ w < f 2 ∧ 0 ≤ k ∧ k < f (4 + 6 * w + 0) then 0 else 1
theorem s_X4_litAt {w k il th0 : Int} {f li wh go la : Int → Int} {Q : Int32 → Int32 → (Nat → Int32) → (Nat → Int32) → (Nat → Int32) → Int32 → (Nat → Int32) → Prop} (hf : OK 6 f) (hw : I32 w) (hk : I32 k) (hm : ML f il li wh go)
    (h1 : tL f w k = 0 → ∀ (li wh go la : Int → Int) (il : Int), ML f il li wh go → Q (iI (litS f w k)) (iI 0) (aI li) (aI wh) (aI go) (iI il) (aI la))
    (h2 : tL f w k ≠ 0 → ∀ (li wh go la : Int → Int) (il : Int), ML f il li wh go → Q (iI 0) (iI (tL f w k)) (aI li) (aI wh) (aI go) (iI il) (aI la)) :
    P_X4_litAt (iI w) (iI k) (aI f) (iI th0) (aI li) (aI wh) (aI go) (iI il) (aI la) Q := by
  unfold P_X4_litAt P_X4_litAt_J32
  simp only [i_m9, i_m1, i_0, i_1, i_2, i_3, i_4, i_5, i_6, i_7, i_8, i_9, i_10, i_11, i_12, i_13, i_14, i_15, i_16, i_17, i_18, i_19, i_20, i_21, i_22, i_23, i_24, i_25, i_26, i_27, i_28, i_29, i_30, i_31, i_32, i_33, i_34, i_35, i_36, i_37, i_38, i_39, i_40, i_41, i_42, i_43, i_44, i_45, i_46, i_47, i_48, i_49, i_50, i_51, i_52, i_53, i_54, i_55, i_56, i_57, i_58, i_59, i_60, i_61, i_62, i_63, i_64, i_65, i_66, i_67, i_68, i_69, i_70, i_72, i_77, i_78, i_80, i_81, i_82, i_83, i_84, i_87, i_88, i_96, i_98, i_100, i_101, i_103, i_118, i_119, i_126, i_133, i_137, i_144, i_154, i_158, i_160, i_190, i_199, i_200, i_207, i_209, i_213, i_229, i_252, i_254, i_255, i_260, i_282, i_303, i_304, i_321, i_348, i_435, i_492, i_522, i_1000, i_1023, i_1600, i_2903, iI_neg]
  unfold tL at h1 h2
  have h8 := hf.2.2.1
  refine s_X4_isWord hw.1 hw.2 hf.2.2.1 (br_b (fun g => ?_) (fun g1 => ?_))
  · rw [inn_f] at g
    rw [if_neg (by omega)] at h2
    exact s_X4_fails (h2 (by omega) li wh go la il hm)
  rw [inn_iff] at g1
  obtain ⟨l0, l1⟩ := (hf.2.2.2.2.1 w (by omega) (by omega)).1
  refine s_X4_of (by omega) (by omega) ?_
  simp only [iI_sub]
  refine s_X4_in hk.1 hk.2 (by omega) (by omega) (by omega) (by omega) (br_b' (fun g => ?_) (fun g2 => ?_))
  · rw [inn_f] at g
    rw [if_neg (by omega)] at h2
    exact s_X4_fails (h2 (by omega) li wh go la il hm)
  rw [inn_iff] at g2
  rw [if_pos (by omega)] at h1
  refine s_X4_laysNow hf (by omega) hm (fun li wh go la hl => ?_)
  simp (disch := omega) only [iI_add, iI_mul, iI_cl, aI_at]
  refine ⟨iI_in (by omega) (by omega) (by omega), ?_⟩
  rw [(hl w (by omega) (by omega)).1 k (by omega) (by omega)]
  exact h1 rfl li wh go la 1 (Or.inr ⟨rfl, hl⟩)
def tT (t i m : Int) : Int := if 0 ≤ t ∧ t ≤ 199 ∧ 0 ≤ i ∧ i ≤ m then 0 else 1
theorem s_X4_beat {t i il th0 : Int} {f li wh go la : Int → Int} {Q : Int32 → Int32 → (Nat → Int32) → (Nat → Int32) → (Nat → Int32) → Int32 → (Nat → Int32) → Prop} (hf : OK 6 f) (ht : I32 t) (hi : I32 i) (hm : ML f il li wh go)
    (h1 : tT t i 4 = 0 → ∀ (li wh go la : Int → Int) (il : Int), ML f il li wh go → Q (iI (inS f t i)) (iI 0) (aI li) (aI wh) (aI go) (iI il) (aI la))
    (h2 : tT t i 4 ≠ 0 → ∀ (li wh go la : Int → Int) (il : Int), ML f il li wh go → Q (iI 0) (iI (tT t i 4)) (aI li) (aI wh) (aI go) (iI il) (aI la)) :
    P_X4_beat (iI t) (iI i) (aI f) (iI th0) (aI li) (aI wh) (aI go) (iI il) (aI la) Q := by
  unfold P_X4_beat P_X4_beat_J34
  simp only [i_m9, i_m1, i_0, i_1, i_2, i_3, i_4, i_5, i_6, i_7, i_8, i_9, i_10, i_11, i_12, i_13, i_14, i_15, i_16, i_17, i_18, i_19, i_20, i_21, i_22, i_23, i_24, i_25, i_26, i_27, i_28, i_29, i_30, i_31, i_32, i_33, i_34, i_35, i_36, i_37, i_38, i_39, i_40, i_41, i_42, i_43, i_44, i_45, i_46, i_47, i_48, i_49, i_50, i_51, i_52, i_53, i_54, i_55, i_56, i_57, i_58, i_59, i_60, i_61, i_62, i_63, i_64, i_65, i_66, i_67, i_68, i_69, i_70, i_72, i_77, i_78, i_80, i_81, i_82, i_83, i_84, i_87, i_88, i_96, i_98, i_100, i_101, i_103, i_118, i_119, i_126, i_133, i_137, i_144, i_154, i_158, i_160, i_190, i_199, i_200, i_207, i_209, i_213, i_229, i_252, i_254, i_255, i_260, i_282, i_303, i_304, i_321, i_348, i_435, i_492, i_522, i_1000, i_1023, i_1600, i_2903, iI_neg]
  unfold tT at h1 h2
  refine s_X4_laysNow hf (by omega) hm (fun li wh go la hl => s_X4_isBeat ht.1 ht.2 (br_b (fun g => ?_) (fun g1 => ?_)))
  · rw [inn_f] at g
    rw [if_neg (by omega)] at h2
    exact s_X4_fails (h2 (by omega) li wh go la 1 (Or.inr ⟨rfl, hl⟩))
  rw [inn_iff] at g1
  refine s_X4_in hi.1 hi.2 (by omega) (by omega) (by omega) (by omega) (br_b (fun g => ?_) (fun g2 => ?_))
  · rw [inn_f] at g
    rw [if_neg (by omega)] at h2
    exact s_X4_fails (h2 (by omega) li wh go la 1 (Or.inr ⟨rfl, hl⟩))
  rw [inn_iff] at g2
  rw [if_pos (by omega)] at h1
  exact s_X4_inBeat hf (by omega) hl (by omega) (by omega) (by omega) (by omega) (h1 rfl li wh go la 1 (Or.inr ⟨rfl, hl⟩))
def tSn (t r c : Int) : Int := if 0 ≤ t ∧ t ≤ 199 ∧ 0 ≤ r ∧ r ≤ 7 ∧ 0 ≤ c ∧ c ≤ 59 then 0 else 1
theorem s_X4_seen {t r c il th0 : Int} {f li wh go la : Int → Int} {Q : Int32 → Int32 → (Nat → Int32) → (Nat → Int32) → (Nat → Int32) → Int32 → (Nat → Int32) → Prop} (hf : OK 6 f) (ht : I32 t) (hr : I32 r) (hc : I32 c) (hm : ML f il li wh go)
    (h1 : tSn t r c = 0 → ∀ (li wh go la : Int → Int) (il : Int), ML f il li wh go → Q (iI (stS f t r c)) (iI 0) (aI li) (aI wh) (aI go) (iI il) (aI la))
    (h2 : tSn t r c ≠ 0 → ∀ (li wh go la : Int → Int) (il : Int), ML f il li wh go → Q (iI 0) (iI (tSn t r c)) (aI li) (aI wh) (aI go) (iI il) (aI la)) :
    P_X4_seen (iI t) (iI r) (iI c) (aI f) (iI th0) (aI li) (aI wh) (aI go) (iI il) (aI la) Q := by
  unfold P_X4_seen P_X4_seen_J43
  simp only [i_m9, i_m1, i_0, i_1, i_2, i_3, i_4, i_5, i_6, i_7, i_8, i_9, i_10, i_11, i_12, i_13, i_14, i_15, i_16, i_17, i_18, i_19, i_20, i_21, i_22, i_23, i_24, i_25, i_26, i_27, i_28, i_29, i_30, i_31, i_32, i_33, i_34, i_35, i_36, i_37, i_38, i_39, i_40, i_41, i_42, i_43, i_44, i_45, i_46, i_47, i_48, i_49, i_50, i_51, i_52, i_53, i_54, i_55, i_56, i_57, i_58, i_59, i_60, i_61, i_62, i_63, i_64, i_65, i_66, i_67, i_68, i_69, i_70, i_72, i_77, i_78, i_80, i_81, i_82, i_83, i_84, i_87, i_88, i_96, i_98, i_100, i_101, i_103, i_118, i_119, i_126, i_133, i_137, i_144, i_154, i_158, i_160, i_190, i_199, i_200, i_207, i_209, i_213, i_229, i_252, i_254, i_255, i_260, i_282, i_303, i_304, i_321, i_348, i_435, i_492, i_522, i_1000, i_1023, i_1600, i_2903, iI_neg]
  unfold tSn at h1 h2
  refine s_X4_laysNow hf (by omega) hm (fun li wh go la hl => s_X4_isBeat ht.1 ht.2 (br_b (fun g => ?_) (fun g1 => ?_)))
  · rw [inn_f] at g
    rw [if_neg (by omega)] at h2
    exact s_X4_fails (h2 (by omega) li wh go la 1 (Or.inr ⟨rfl, hl⟩))
  rw [inn_iff] at g1
  refine s_X4_in hr.1 hr.2 (by omega) (by omega) (by omega) (by omega) (br_b (fun g => ?_) (fun g2 => ?_))
  · rw [inn_f] at g
    rw [if_neg (by omega)] at h2
    exact s_X4_fails (h2 (by omega) li wh go la 1 (Or.inr ⟨rfl, hl⟩))
  rw [inn_iff] at g2
  refine s_X4_isColumn hc.1 hc.2 (br_b (fun g => ?_) (fun g3 => ?_))
  · rw [inn_f] at g
    rw [if_neg (by omega)] at h2
    exact s_X4_fails (h2 (by omega) li wh go la 1 (Or.inr ⟨rfl, hl⟩))
  rw [inn_iff] at g3
  rw [if_pos (by omega)] at h1
  exact s_X4_seenAt hf hl (by omega) (by omega) (by omega) (by omega) (by omega) (by omega) (h1 rfl li wh go la 1 (Or.inr ⟨rfl, hl⟩))
def tN (i m : Int) : Int := if 0 ≤ i ∧ i ≤ m then 0 else 1
theorem s_X4_count {i il th0 kp : Int} {f li wh go la : Int → Int} {Q : Int32 → Int32 → (Nat → Int32) → (Nat → Int32) → (Nat → Int32) → Int32 → (Nat → Int32) → Prop} (hf : OK 6 f) (hi : I32 i) (hm : ML f il li wh go)
    (h1 : tN i 9 = 0 → ∀ (li wh go la : Int → Int) (il : Int), ML f il li wh go → Q (iI (coS f kp i)) (iI 0) (aI li) (aI wh) (aI go) (iI il) (aI la))
    (h2 : tN i 9 ≠ 0 → ∀ (li wh go la : Int → Int) (il : Int), ML f il li wh go → Q (iI 0) (iI (tN i 9)) (aI li) (aI wh) (aI go) (iI il) (aI la)) :
    P_X4_count (iI i) (aI f) (iI kp) (iI th0) (aI li) (aI wh) (aI go) (iI il) (aI la) Q := by
  unfold P_X4_count
  simp only [i_m9, i_m1, i_0, i_1, i_2, i_3, i_4, i_5, i_6, i_7, i_8, i_9, i_10, i_11, i_12, i_13, i_14, i_15, i_16, i_17, i_18, i_19, i_20, i_21, i_22, i_23, i_24, i_25, i_26, i_27, i_28, i_29, i_30, i_31, i_32, i_33, i_34, i_35, i_36, i_37, i_38, i_39, i_40, i_41, i_42, i_43, i_44, i_45, i_46, i_47, i_48, i_49, i_50, i_51, i_52, i_53, i_54, i_55, i_56, i_57, i_58, i_59, i_60, i_61, i_62, i_63, i_64, i_65, i_66, i_67, i_68, i_69, i_70, i_72, i_77, i_78, i_80, i_81, i_82, i_83, i_84, i_87, i_88, i_96, i_98, i_100, i_101, i_103, i_118, i_119, i_126, i_133, i_137, i_144, i_154, i_158, i_160, i_190, i_199, i_200, i_207, i_209, i_213, i_229, i_252, i_254, i_255, i_260, i_282, i_303, i_304, i_321, i_348, i_435, i_492, i_522, i_1000, i_1023, i_1600, i_2903, iI_neg]
  unfold tN at h1 h2
  refine s_X4_laysNow hf (by omega) hm (fun li wh go la hl => s_X4_in hi.1 hi.2 (by omega) (by omega) (by omega) (by omega) (br_b (fun g => ?_) (fun g2 => ?_)))
  · rw [inn_f] at g
    rw [if_neg (by omega)] at h2
    exact s_X4_fails (h2 (by omega) li wh go la 1 (Or.inr ⟨rfl, hl⟩))
  rw [inn_iff] at g2
  rw [if_pos (by omega)] at h1
  exact s_X4_counted hf (by omega) hl (by omega) (by omega) (h1 rfl li wh go la 1 (Or.inr ⟨rfl, hl⟩))
