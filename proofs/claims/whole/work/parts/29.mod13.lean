/-- two states in which the word w stands under the same beams -/
def WEq (f g : Int → Int) (w : Int) : Prop := (f 0 = g 0 ∧ f 1 = g 1 ∧ f 3 = g 3) ∧ (∀ i : Int, 0 ≤ i → i < 6 → f (4 + 6 * w + i) = g (4 + 6 * w + i)) ∧ (∀ b : Int, 0 ≤ b → b < f 3 → ∀ i : Int, 0 ≤ i → i < 5 → f (52 + 5 * b + i) = g (52 + 5 * b + i))
theorem lts_cong {f g : Int → Int} {r t c : Int} : ∀ {n : Nat}, (∀ b : Int, 0 ≤ b → b < n → ∀ i : Int, 0 ≤ i → i < 5 → f (52 + 5 * b + i) = g (52 + 5 * b + i)) → lts f r t c n = lts g r t c n
  | 0, _ => rfl
  | n + 1, h => by
    have hn := h (n : Int) (by omega) (by omega)
    show (lts f r t c n || (bt (f (52 + 5 * (n : Int) + 4)) r && cov f n t c)) = (lts g r t c n || (bt (g (52 + 5 * (n : Int) + 4)) r && cov g n t c))
    unfold cov fst
    rw [lts_cong (fun b b0 b1 => h b b0 (by omega)), hn 0 (by omega) (by omega), hn 1 (by omega) (by omega), hn 2 (by omega) (by omega), hn 3 (by omega) (by omega), hn 4 (by omega) (by omega)]
theorem can_cong {f g : Int → Int} {w : Int} (h : WEq f g w) : can f w = can g w := by
  obtain ⟨⟨-, -, e3⟩, hw, hb⟩ := h
  funext k t
  unfold can canN
  rw [hw 1 (by omega) (by omega), hw 2 (by omega) (by omega), hw 3 (by omega) (by omega), ← e3, lts_cong (f := f) (g := g) (fun b b0 b1 => hb b b0 (by omega))]
theorem fl_cong {f g : Int → Int} {w : Int} (h : WEq f g w) : fl f w = fl g w := by
  funext k t
  unfold fl
  rw [can_cong h]
theorem latN_cong {f g : Int → Int} {w k : Int} (h : WEq f g w) : ∀ n : Nat, latN f w k n = latN g w k n
  | 0 => rfl
  | n + 1 => by
    unfold latN
    rw [can_cong h, latN_cong h n]
theorem alN_cong {f g : Int → Int} {w : Int} {t : Nat} (h : WEq f g w) : ∀ n : Nat, alN f w t n = alN g w t n
  | 0 => rfl
  | n + 1 => by
    unfold alN
    rw [alN_cong h n, latN_cong h, h.1.2.1]
theorem tog_cong {f g : Int → Int} {w : Int} (h : WEq f g w) : tog f w = tog g w := by
  unfold tog
  rw [h.2.1 0 (by omega) (by omega), h.2.1 3 (by omega) (by omega)]
  simp only [alN_cong h]
theorem lt1_cong {f g : Int → Int} {w : Int} (h : WEq f g w) : ∀ n : Nat, lt1 f w n = lt1 g w n
  | 0 => by unfold lt1; rw [fl_cong h, h.2.1 3 (by omega) (by omega)]
  | n + 1 => by unfold lt1; rw [lt1_cong h n, fl_cong h]
theorem litS_cong {f g : Int → Int} {w : Int} (h : WEq f g w) : litS f w = litS g w := by
  funext k
  unfold litS
  rw [tog_cong h, lt1_cong h, fl_cong h, h.2.1 3 (by omega) (by omega), h.2.1 4 (by omega) (by omega)]
theorem evN_cong {f g : Int → Int} {w : Int} (h : WEq f g w) : ∀ n : Nat, evN f w n = evN g w n
  | 0 => rfl
  | n + 1 => by unfold evN; rw [evN_cong h n, litS_cong h]
theorem lsN_cong {f g : Int → Int} {w : Int} (h : WEq f g w) : ∀ n : Nat, lsN f w n = lsN g w n
  | 0 => by unfold lsN; exact h.2.1 3 (by omega) (by omega)
  | n + 1 => by unfold lsN; rw [lsN_cong h n, litS_cong h]
theorem wlS_cong {f g : Int → Int} {w : Int} (h : WEq f g w) : wlS f w = wlS g w := by
  unfold wlS
  rw [evN_cong h, lsN_cong h, h.2.1 0 (by omega) (by omega)]
theorem barS_cong {f g : Int → Int} {w : Int} (h : WEq f g w) : barS f w = barS g w := by
  unfold barS
  rw [lsN_cong h, h.2.1 0 (by omega) (by omega), h.2.1 5 (by omega) (by omega), h.1.1]
theorem goS_cong {f g : Int → Int} {w : Int} (h : WEq f g w) : goS f w = goS g w := by
  unfold goS
  rw [evN_cong h, barS_cong h, h.2.1 0 (by omega) (by omega)]
/-- the word w with another cue -/
def cuF (f : Int → Int) (w q : Int) : Int → Int := up f (4 + 6 * w + 3) q
theorem cuF_OK {mb : Int} {f : Int → Int} {w q : Int} (hf : OK mb f) (w0 : 0 ≤ w) (w1 : w < f 2) (q0 : 0 ≤ q) (q1 : q ≤ 199) : OK mb (cuF f w q) := by
  have h8 := hf.2.2.1
  obtain ⟨a0, a1, a2, a3, a4, a5⟩ := hf
  unfold cuF OK
  rw [up_ne (by omega), up_ne (by omega), up_ne (by omega), up_ne (by omega)]
  refine ⟨a0, a1, a2, a3, fun v v0 v1 => ?_, fun b b0 b1 => OKb_cong (fun i i0 i1 => up_ne (by omega)) (a5 b b0 b1)⟩
  by_cases e : v = w
  · subst e
    have := a4 v v0 v1
    unfold OKw at this ⊢
    rw [up_ne (by omega), up_ne (by omega), up_ne (by omega), up_eq, up_ne (by omega), up_ne (by omega)]
    omega
  · exact OKw_cong (fun i i0 i1 => up_ne (by omega)) (a4 v v0 v1)
theorem cuF_2 {f : Int → Int} {w q : Int} (w0 : 0 ≤ w) : cuF f w q 2 = f 2 := up_ne (by omega)
theorem cuF_Z {f : Int → Int} {w q : Int} (h : Z f) (w0 : 0 ≤ w) (w1 : w < 8) : Z (cuF f w q) := Z_up h (by omega) (by omega)
theorem cuF_W {f : Int → Int} {w q v : Int} (w0 : 0 ≤ w) (w1 : w < 8) (v0 : 0 ≤ v) (e : v ≠ w) : WEq (cuF f w q) f v :=
  ⟨⟨up_ne (by omega), up_ne (by omega), up_ne (by omega)⟩, fun i i0 i1 => up_ne (by omega), fun b b0 b1 i i0 i1 => up_ne (by omega)⟩
theorem up_up {f : Int → Int} {a v u : Int} : up (up f a v) a u = up f a u := by
  funext k
  by_cases e : k = a
  · rw [e, up_eq, up_eq]
  · rw [up_ne e, up_ne e, up_ne e]
theorem up_self (f : Int → Int) (a : Int) : up f a (f a) = f := by
  funext k
  by_cases e : k = a
  · rw [e, up_eq]
  · rw [up_ne e]
/-- wholly lit, and in no clash with the first n words -/
def icN (f : Int → Int) (w : Int) : Nat → Bool
  | 0 => decide (wlS f w ≠ -1)
  | o + 1 => icN f w o && (decide ((o : Int) = w) || !(ecN f w o 200))
theorem icN_f {f : Int → Int} {w : Int} {o : Nat} (h : icN f w o = false) : ∀ m : Nat, icN f w (o + m) = false
  | 0 => h
  | m + 1 => by
    show (icN f w (o + m) && _) = false
    rw [icN_f h m]; rfl
theorem s_X4_isClear {mb w : Int} {f li wh go : Int → Int} {Q : Int32 → Prop} (hf : OK mb f) (hmb : mb ≤ 7) (hl : Ld f (f 2) li wh go) (w0 : 0 ≤ w) (w1 : w < f 2) (h : Q (iI (bi (icN f w (f 2).toNat)))) :
    P_X4_isClear (iI w) (aI li) (aI wh) (aI go) (aI f) Q := by
  have h8 := hf.2.2.1
  have lp : ∀ (m o : Nat), (o : Int) + m = f 2 → P_X4_isClear_L19 (iI w) (aI li) (aI go) (aI f) Q (m + 1) (iI (bi (icN f w o))) (iI o) := by
    intro m
    induction m with
    | zero =>
      intro o ho
      rw [P_X4_isClear_L19_s]
      unfold B_X4_isClear_L19
      simp (disch := omega) only [iI_add, iI_sub, iI_mul, iI_neg, iI_lt, iI_le, iI_eq, iI_cl, aI_at, aI_up, aI_l0, aI_l1, aI_l2, aI_l3, i_m9, i_m1, i_0, i_1, i_2, i_3, i_4, i_5, i_6, i_7, i_8, i_9, i_10, i_11, i_12, i_13, i_14, i_15, i_16, i_17, i_18, i_19, i_20, i_21, i_22, i_23, i_24, i_25, i_26, i_27, i_28, i_29, i_30, i_31, i_32, i_33, i_34, i_35, i_36, i_37, i_38, i_39, i_40, i_41, i_42, i_43, i_44, i_45, i_46, i_47, i_48, i_49, i_50, i_51, i_52, i_53, i_54, i_55, i_56, i_57, i_58, i_59, i_60, i_61, i_62, i_63, i_64, i_65, i_66, i_67, i_68, i_69, i_70, i_72, i_77, i_78, i_80, i_81, i_82, i_83, i_84, i_87, i_88, i_96, i_98, i_100, i_101, i_103, i_118, i_119, i_126, i_133, i_137, i_144, i_154, i_158, i_160, i_190, i_199, i_200, i_207, i_209, i_213, i_229, i_252, i_254, i_255, i_260, i_282, i_303, i_304, i_321, i_348, i_435, i_492, i_522, i_1000, i_1023, i_1600, i_2903, iI_neg]
      refine ⟨fun _ => ⟨bi_nar _, ?_⟩, fun hx => absurd (by omega) hx⟩
      rwa [show (f 2).toNat = o by omega] at h
    | succ m ih =>
      intro o ho
      have ih1 := ih (o + 1) (by omega)
      rw [P_X4_isClear_L19_s]
      unfold B_X4_isClear_L19 P_X4_isClear_J48 P_X4_isClear_J53
      have hr := bi_rng (icN f w o)
      simp (disch := omega) only [iI_add, iI_sub, iI_mul, iI_neg, iI_lt, iI_le, iI_eq, iI_cl, aI_at, aI_up, aI_l0, aI_l1, aI_l2, aI_l3, i_m9, i_m1, i_0, i_1, i_2, i_3, i_4, i_5, i_6, i_7, i_8, i_9, i_10, i_11, i_12, i_13, i_14, i_15, i_16, i_17, i_18, i_19, i_20, i_21, i_22, i_23, i_24, i_25, i_26, i_27, i_28, i_29, i_30, i_31, i_32, i_33, i_34, i_35, i_36, i_37, i_38, i_39, i_40, i_41, i_42, i_43, i_44, i_45, i_46, i_47, i_48, i_49, i_50, i_51, i_52, i_53, i_54, i_55, i_56, i_57, i_58, i_59, i_60, i_61, i_62, i_63, i_64, i_65, i_66, i_67, i_68, i_69, i_70, i_72, i_77, i_78, i_80, i_81, i_82, i_83, i_84, i_87, i_88, i_96, i_98, i_100, i_101, i_103, i_118, i_119, i_126, i_133, i_137, i_144, i_154, i_158, i_160, i_190, i_199, i_200, i_207, i_209, i_213, i_229, i_252, i_254, i_255, i_260, i_282, i_303, i_304, i_321, i_348, i_435, i_492, i_522, i_1000, i_1023, i_1600, i_2903, iI_neg]
      rw [nsucc] at ih1
      have st : icN f w (o + 1) = (icN f w o && (decide ((o : Int) = w) || !(ecN f w o 200))) := rfl
      rw [st] at ih1
      refine ⟨fun hx => absurd hx (by omega), fun _ => ⟨fun e => ⟨bi_nar _, ?_⟩, fun e => ⟨fun e2 => ?_, fun e2 => ?_⟩⟩⟩
      · rw [bi_0] at e
        have := icN_f e (f 2 - o).toNat
        rw [show o + (f 2 - o).toNat = (f 2).toNat by omega] at this
        rw [this] at h
        rw [e]; exact h
      · rw [bi_0, Bool.not_eq_false] at e
        rw [e, show decide ((o : Int) = w) = true from decide_eq_true (by omega)] at ih1
        exact ih1
      · rw [bi_0, Bool.not_eq_false] at e
        rw [e, show decide ((o : Int) = w) = false from decide_eq_false (by omega)] at ih1
        refine s_X4_everClash hf hl w0 w1 (by omega) (by omega) (br_b' (fun g => ?_) (fun g => ?_))
        · rw [g] at ih1; exact ih1
        · rw [g] at ih1; exact ih1
  have hw := (hl w w0 w1).2.1
  have h1 := wl_rng hf w0 w1
  unfold P_X4_isClear P_X4_isClear_J15
  simp (disch := omega) only [iI_add, iI_sub, iI_mul, iI_neg, iI_lt, iI_le, iI_eq, iI_cl, aI_at, aI_up, aI_l0, aI_l1, aI_l2, aI_l3, i_m9, i_m1, i_0, i_1, i_2, i_3, i_4, i_5, i_6, i_7, i_8, i_9, i_10, i_11, i_12, i_13, i_14, i_15, i_16, i_17, i_18, i_19, i_20, i_21, i_22, i_23, i_24, i_25, i_26, i_27, i_28, i_29, i_30, i_31, i_32, i_33, i_34, i_35, i_36, i_37, i_38, i_39, i_40, i_41, i_42, i_43, i_44, i_45, i_46, i_47, i_48, i_49, i_50, i_51, i_52, i_53, i_54, i_55, i_56, i_57, i_58, i_59, i_60, i_61, i_62, i_63, i_64, i_65, i_66, i_67, i_68, i_69, i_70, i_72, i_77, i_78, i_80, i_81, i_82, i_83, i_84, i_87, i_88, i_96, i_98, i_100, i_101, i_103, i_118, i_119, i_126, i_133, i_137, i_144, i_154, i_158, i_160, i_190, i_199, i_200, i_207, i_209, i_213, i_229, i_252, i_254, i_255, i_260, i_282, i_303, i_304, i_321, i_348, i_435, i_492, i_522, i_1000, i_1023, i_1600, i_2903, iI_neg]
  rw [hw]
  have := lp (f 2).toNat 0 (by omega)
  refine ⟨iI_in (by omega) (by omega) (by omega), fun e => ⟨(f 2).toNat + 1, ?_⟩, fun e => ⟨(f 2).toNat + 1, ?_⟩⟩
  · rw [show icN f w 0 = false from decide_eq_false (fun hx => hx e)] at this
    exact this
  · rw [show icN f w 0 = true from decide_eq_true e] at this
    exact this
/-- whether the word w with the cue q is clear -/
def icB (f : Int → Int) (w q : Int) : Bool := icN (cuF f w q) w (f 2).toNat
def ccS (f : Int → Int) (w : Int) : Int := frs (icB f w) (200 - f (4 + 6 * w + 3)).toNat (f (4 + 6 * w + 3))
theorem s_X4_clear {w : Int} {f th li wh go la : Int → Int} {il : Int} {Q : Int32 → (Nat → Int32) → (Nat → Int32) → (Nat → Int32) → (Nat → Int32) → Int32 → (Nat → Int32) → Prop} (hf : OK 6 f) (zf : Z f) (zt : Z th) (hl : Ld f (f 2) li wh go) (w0 : 0 ≤ w) (w1 : w < f 2)
    (hq : ∀ th li wh go la : Int → Int, Z th → Ld f (f 2) li wh go → Q (iI (ccS f w)) (aI th) (aI li) (aI wh) (aI go) (iI 1) (aI la)) :
    P_X4_clear (iI w) (aI f) (aI th) (aI li) (aI wh) (aI go) (iI il) (aI la) Q := by
  have h8 := hf.2.2.1
  obtain ⟨q0, q1⟩ := (hf.2.2.2.2.1 w w0 w1).2.2.2.1
  have lp : ∀ (K : Int32 → (Nat → Int32) → (Nat → Int32) → (Nat → Int32) → (Nat → Int32) → (Nat → Int32) → Prop), (∀ th li wh go la : Int → Int, Z th → K (iI (ccS f w)) (aI th) (aI li) (aI wh) (aI go) (aI la)) →
      ∀ (m : Nat) (q r : Int) (th li wh go la : Int → Int), Z th → 0 ≤ q → q + m = 200 → ((r = -1 ∧ ccS f w = frs (icB f w) m q ∧ (∃ q', th = up f (4 + 6 * w + 3) q')) ∨ (0 ≤ r ∧ r < 200 ∧ ccS f w = r)) →
        (∀ v : Int, 0 ≤ v → v < f 2 → v ≠ w → (∀ j : Int, 0 ≤ j → j < f (4 + 6 * v + 0) → li (12 * v + j) = litS f v j) ∧ wh v = wlS f v ∧ go v = goS f v) →
        P_X4_clear_L25 (iI w) K (m + 1) (iI r) (iI q) (aI th) (aI li) (aI wh) (aI go) (aI la) := by
    intro K hK m
    induction m with
    | zero =>
      intro q r th li wh go la zt q0 hqm hr hl
      rw [P_X4_clear_L25_s]
      unfold B_X4_clear_L25
      simp (disch := omega) only [iI_add, iI_sub, iI_mul, iI_neg, iI_lt, iI_le, iI_eq, iI_cl, aI_at, aI_up, aI_l0, aI_l1, aI_l2, aI_l3, i_m9, i_m1, i_0, i_1, i_2, i_3, i_4, i_5, i_6, i_7, i_8, i_9, i_10, i_11, i_12, i_13, i_14, i_15, i_16, i_17, i_18, i_19, i_20, i_21, i_22, i_23, i_24, i_25, i_26, i_27, i_28, i_29, i_30, i_31, i_32, i_33, i_34, i_35, i_36, i_37, i_38, i_39, i_40, i_41, i_42, i_43, i_44, i_45, i_46, i_47, i_48, i_49, i_50, i_51, i_52, i_53, i_54, i_55, i_56, i_57, i_58, i_59, i_60, i_61, i_62, i_63, i_64, i_65, i_66, i_67, i_68, i_69, i_70, i_72, i_77, i_78, i_80, i_81, i_82, i_83, i_84, i_87, i_88, i_96, i_98, i_100, i_101, i_103, i_118, i_119, i_126, i_133, i_137, i_144, i_154, i_158, i_160, i_190, i_199, i_200, i_207, i_209, i_213, i_229, i_252, i_254, i_255, i_260, i_282, i_303, i_304, i_321, i_348, i_435, i_492, i_522, i_1000, i_1023, i_1600, i_2903, iI_neg]
      refine ⟨fun _ => ?_, fun hx => absurd (by omega) hx⟩
      have := hK th li wh go la zt
      rcases hr with ⟨r1, r2, r3⟩ | ⟨r1, r2, r3⟩
      · rw [r2] at this; rw [r1]; exact this
      · rwa [r3] at this
    | succ m ih =>
      intro q r th li wh go la zt q0 hqm hr hl
      rw [P_X4_clear_L25_s]
      unfold B_X4_clear_L25 P_X4_clear_J77
      simp (disch := omega) only [iI_add, iI_sub, iI_mul, iI_neg, iI_lt, iI_le, iI_eq, iI_cl, aI_at, aI_up, aI_l0, aI_l1, aI_l2, aI_l3, i_m9, i_m1, i_0, i_1, i_2, i_3, i_4, i_5, i_6, i_7, i_8, i_9, i_10, i_11, i_12, i_13, i_14, i_15, i_16, i_17, i_18, i_19, i_20, i_21, i_22, i_23, i_24, i_25, i_26, i_27, i_28, i_29, i_30, i_31, i_32, i_33, i_34, i_35, i_36, i_37, i_38, i_39, i_40, i_41, i_42, i_43, i_44, i_45, i_46, i_47, i_48, i_49, i_50, i_51, i_52, i_53, i_54, i_55, i_56, i_57, i_58, i_59, i_60, i_61, i_62, i_63, i_64, i_65, i_66, i_67, i_68, i_69, i_70, i_72, i_77, i_78, i_80, i_81, i_82, i_83, i_84, i_87, i_88, i_96, i_98, i_100, i_101, i_103, i_118, i_119, i_126, i_133, i_137, i_144, i_154, i_158, i_160, i_190, i_199, i_200, i_207, i_209, i_213, i_229, i_252, i_254, i_255, i_260, i_282, i_303, i_304, i_321, i_348, i_435, i_492, i_522, i_1000, i_1023, i_1600, i_2903, iI_neg]
      refine ⟨fun hx => absurd hx (by omega), fun _ => ⟨fun e => ?_, fun e => ?_⟩⟩
      · have := hK th li wh go la zt
        rcases hr with ⟨r1, r2, r3⟩ | ⟨r1, r2, r3⟩
        · exact absurd r1 e
        · rwa [r3] at this
      rcases hr with ⟨r1, r2, q', r3⟩ | ⟨r1, r2, r3⟩
      case inr => omega
      have hth : up th (4 + 6 * w + 3) q = cuF f w q := by rw [r3]; unfold cuF; exact up_up
      rw [hth]
      have hO := cuF_OK hf w0 w1 q0 (by omega : q ≤ 199)
      have h2 : cuF f w q 2 = f 2 := cuF_2 w0
      refine ⟨iI_in (by omega) (by omega) (by omega), s_X4_laysWord hO (by omega) w0 (by rw [h2]; exact w1) (fun li' la' h3 h4 => ?_)⟩
      have hl' : Ld (cuF f w q) (cuF f w q 2) li' (up wh w (wlS (cuF f w q) w)) (up go w (goS (cuF f w q) w)) := by
        intro v v0 v1
        by_cases e : v = w
        · subst e
          rw [up_eq, up_eq]
          exact ⟨h3, rfl, rfl⟩
        · have hW := cuF_W (f := f) (q := q) w0 (by omega : w < 8) v0 e
          obtain ⟨a1, a2, a3⟩ := hl v v0 (by omega) e
          rw [up_ne e, up_ne e, wlS_cong hW, goS_cong hW, litS_cong hW]
          refine ⟨fun j j0 j1 => ?_, a2, a3⟩
          rw [hW.2.1 0 (by omega) (by omega)] at j1
          have hv := (hf.2.2.2.2.1 v v0 (by omega)).1
          rw [h4 (12 * v + j) (by omega)]
          exact a1 j j0 j1
      have hl2 : ∀ v : Int, 0 ≤ v → v < f 2 → v ≠ w → (∀ j : Int, 0 ≤ j → j < f (4 + 6 * v + 0) → li' (12 * v + j) = litS f v j) ∧ up wh w (wlS (cuF f w q) w) v = wlS f v ∧ up go w (goS (cuF f w q) w) v = goS f v := by
        intro v v0 v1 e
        obtain ⟨a1, a2, a3⟩ := hl v v0 (by omega) e
        rw [up_ne e, up_ne e]
        refine ⟨fun j j0 j1 => ?_, a2, a3⟩
        have hv := (hf.2.2.2.2.1 v v0 (by omega)).1
        rw [h4 (12 * v + j) (by omega)]
        exact a1 j j0 j1
      have hs : frs (icB f w) (m + 1) q = (if icB f w q = true then q else frs (icB f w) m (q + 1)) := rfl
      refine s_X4_isClear hO (by omega) hl' w0 (by rw [h2]; exact w1) (br_b (fun g => ?_) (fun g => ?_))
      · have g2 : icB f w q = false := by unfold icB; rw [← h2]; exact g
        rw [hs, g2] at r2
        exact ih (q + 1) (-1) _ li' _ _ la' (cuF_Z zf w0 (by omega)) (by omega) (by omega) (Or.inl ⟨rfl, r2, q, rfl⟩) hl2
      · have g2 : icB f w q = true := by unfold icB; rw [← h2]; exact g
        rw [hs, g2] at r2
        exact ih (q + 1) q _ li' _ _ la' (cuF_Z zf w0 (by omega)) (by omega) (by omega) (Or.inr ⟨by omega, by omega, r2⟩) hl2
  unfold P_X4_clear
  simp only [i_m9, i_m1, i_0, i_1, i_2, i_3, i_4, i_5, i_6, i_7, i_8, i_9, i_10, i_11, i_12, i_13, i_14, i_15, i_16, i_17, i_18, i_19, i_20, i_21, i_22, i_23, i_24, i_25, i_26, i_27, i_28, i_29, i_30, i_31, i_32, i_33, i_34, i_35, i_36, i_37, i_38, i_39, i_40, i_41, i_42, i_43, i_44, i_45, i_46, i_47, i_48, i_49, i_50, i_51, i_52, i_53, i_54, i_55, i_56, i_57, i_58, i_59, i_60, i_61, i_62, i_63, i_64, i_65, i_66, i_67, i_68, i_69, i_70, i_72, i_77, i_78, i_80, i_81, i_82, i_83, i_84, i_87, i_88, i_96, i_98, i_100, i_101, i_103, i_118, i_119, i_126, i_133, i_137, i_144, i_154, i_158, i_160, i_190, i_199, i_200, i_207, i_209, i_213, i_229, i_252, i_254, i_255, i_260, i_282, i_303, i_304, i_321, i_348, i_435, i_492, i_522, i_1000, i_1023, i_1600, i_2903, iI_neg]
  refine s_X4_copies (by omega) (by omega) (by omega) (by omega) (by omega) (by omega) ?_
  rw [cpF_Z zf zt]
  refine s_X4_of (by omega) (by omega) ⟨_, lp _ ?_ (200 - f (4 + 6 * w + 3)).toNat _ (-1) f li wh go la zf (by omega) (by omega) (Or.inl ⟨rfl, rfl, f (4 + 6 * w + 3), (up_self _ _).symm⟩) (fun v v0 v1 _ => hl v v0 v1)⟩
  intro th li wh go la hz
  exact s_X4_laysNow hf (by omega) (Or.inl rfl) (fun li' wh' go' la' hl' => hq th li' wh' go' la' hz hl')
theorem s_X4_clearCue {w il th0 : Int} {f th li wh go la : Int → Int} {Q : Int32 → (Nat → Int32) → Int32 → (Nat → Int32) → (Nat → Int32) → (Nat → Int32) → Int32 → (Nat → Int32) → Prop} (hf : OK 6 f) (zf : Z f) (zt : Z th) (hw : I32 w) (hm : ML f il li wh go)
    (h1 : t1 (f 2) w = 0 → ∀ (th li wh go la : Int → Int) (il : Int), Z th → ML f il li wh go → Q (iI (ccS f w)) (aI th) (iI 0) (aI li) (aI wh) (aI go) (iI il) (aI la))
    (h2 : t1 (f 2) w ≠ 0 → ∀ (th li wh go la : Int → Int) (il : Int), Z th → ML f il li wh go → Q (iI 0) (aI th) (iI (t1 (f 2) w)) (aI li) (aI wh) (aI go) (iI il) (aI la)) :
    P_X4_clearCue (iI w) (aI f) (aI th) (iI th0) (aI li) (aI wh) (aI go) (iI il) (aI la) Q := by
  unfold P_X4_clearCue
  simp only [i_m9, i_m1, i_0, i_1, i_2, i_3, i_4, i_5, i_6, i_7, i_8, i_9, i_10, i_11, i_12, i_13, i_14, i_15, i_16, i_17, i_18, i_19, i_20, i_21, i_22, i_23, i_24, i_25, i_26, i_27, i_28, i_29, i_30, i_31, i_32, i_33, i_34, i_35, i_36, i_37, i_38, i_39, i_40, i_41, i_42, i_43, i_44, i_45, i_46, i_47, i_48, i_49, i_50, i_51, i_52, i_53, i_54, i_55, i_56, i_57, i_58, i_59, i_60, i_61, i_62, i_63, i_64, i_65, i_66, i_67, i_68, i_69, i_70, i_72, i_77, i_78, i_80, i_81, i_82, i_83, i_84, i_87, i_88, i_96, i_98, i_100, i_101, i_103, i_118, i_119, i_126, i_133, i_137, i_144, i_154, i_158, i_160, i_190, i_199, i_200, i_207, i_209, i_213, i_229, i_252, i_254, i_255, i_260, i_282, i_303, i_304, i_321, i_348, i_435, i_492, i_522, i_1000, i_1023, i_1600, i_2903, iI_neg]
  unfold t1 at h1 h2
  refine s_X4_isWord hw.1 hw.2 hf.2.2.1 (br_b' (fun g => ?_) (fun g1 => ?_))
  · rw [inn_f] at g
    rw [if_neg (by omega)] at h2
    exact s_X4_fails (h2 (by omega) th li wh go la il zt hm)
  rw [inn_iff] at g1
  rw [if_pos (by omega)] at h1
  exact s_X4_laysNow hf (by omega) hm (fun li wh go la hl => s_X4_clear hf zf zt hl (by omega) (by omega) (fun th li wh go la hz hl => h1 rfl th li wh go la 1 hz (Or.inr ⟨rfl, hl⟩)))
