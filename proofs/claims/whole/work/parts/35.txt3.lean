def tlF (D : Int → Int) : Int → Nat → List Od
  | _, 0 => []
  | i, m + 1 => tO D i :: tlF D (i + 1) m
theorem tlF_app (D : Int → Int) : ∀ (m : Nat) (i : Int), tlF D i (m + 1) = tlF D i m ++ [tO D (i + m)] := by
  intro m
  induction m with
  | zero => intro i; show [tO D i] = [tO D (i + (0 : Nat))]; rw [show i + ((0 : Nat) : Int) = i by omega]
  | succ m ih =>
    intro i
    show tO D i :: tlF D (i + 1) (m + 1) = tO D i :: (tlF D (i + 1) m ++ [tO D (i + (m + 1 : Nat))])
    rw [ih, show i + 1 + (m : Int) = i + (m + 1 : Nat) by omega]
theorem tlF_cong {D D2 : Int → Int} : ∀ (m : Nat) (i : Int), (∀ j : Int, j < 5 * (i + m) → D2 j = D j) → tlF D2 i m = tlF D i m := by
  intro m
  induction m with
  | zero => intro i h; rfl
  | succ m ih =>
    intro i h
    show tO D2 i :: tlF D2 (i + 1) m = tO D i :: tlF D (i + 1) m
    rw [ih (i + 1) (fun j hj => h j (by omega))]
    unfold tO
    rw [h (5 * i) (by omega), h (5 * i + 1) (by omega), h (5 * i + 2) (by omega), h (5 * i + 3) (by omega), h (5 * i + 4) (by omega)]
theorem s_X4_isText_L {T : Int → Int} {n : Int} {s0 : Rd} {K : Int32 → Int32 → Int32 → (Nat → Int32) → Int32 → Prop} {Q : Int32 → Int32 → Int32 → Int32 → (Nat → Int32) → Int32 → Prop} (ht : TX T n)
    (hK : ∀ D q y isF, 0 ≤ q → q ≤ 12 → DB D → WK T n 0 s0 = (n + 1, tlF D 0 q.toNat) → K (iI n) (iI isF) y (aI D) (iI q))
    (hE : ∀ a D q y isF, 0 ≤ a → a < n → 0 ≤ q → q ≤ 12 → DB D → (WK T n 0 s0).1 = a → K (iI a) (iI isF) y (aI D) (iI q))
    (hQ : ∀ a D q y, 0 ≤ a → a ≤ n → 0 ≤ q → q ≤ 12 → DB D → (WK T n 0 s0).1 = a → Q (iI 0) (iI a) (iI (bi (decide (a < n)))) y (aI D) (iI q)) :
    ∀ (f : Nat) (a q isF : Int) (D : Int → Int) (y : Int32) (s : Rd), 0 ≤ a → a ≤ n → n < a + f → 0 ≤ q → 5 * q ≤ a → rO s = 0 → DB D → WK T n 0 s0 = ((WK T n a s).1, tlF D 0 q.toNat ++ (WK T n a s).2) →
      P_X4_isText_L17 (aI T) (iI n) K Q (f + 1) (iI 1) (iI a) (iI isF) y (aI D) (iI q) := by
  have hn0 := ht.1
  intro f
  induction f with
  | zero => intro a q isF D y s a0 a1 hf; exact absurd hf (by omega)
  | succ f ih =>
    intro a q isF D y s a0 a1 hf q0 q5 hs hD hW
    rw [P_X4_isText_L17_s]
    unfold B_X4_isText_L17 P_X4_isText_J63
    simp only [i_m9, i_m1, i_0, i_1, i_2, i_3, i_4, i_5, i_6, i_7, i_8, i_9, i_10, i_11, i_12, i_13, i_14, i_15, i_16, i_17, i_18, i_19, i_20, i_21, i_22, i_23, i_24, i_25, i_26, i_27, i_28, i_29, i_30, i_31, i_32, i_33, i_34, i_35, i_36, i_37, i_38, i_39, i_40, i_41, i_42, i_43, i_44, i_45, i_46, i_47, i_48, i_49, i_50, i_51, i_52, i_53, i_54, i_55, i_56, i_57, i_58, i_59, i_60, i_61, i_62, i_63, i_64, i_65, i_66, i_67, i_68, i_69, i_70, i_72, i_77, i_78, i_80, i_81, i_82, i_83, i_84, i_87, i_88, i_96, i_98, i_100, i_101, i_103, i_118, i_119, i_126, i_133, i_137, i_144, i_154, i_158, i_160, i_190, i_199, i_200, i_207, i_209, i_213, i_229, i_252, i_254, i_255, i_260, i_282, i_303, i_304, i_321, i_348, i_435, i_492, i_522, i_1000, i_1023, i_1600, i_2903, iI_neg]
    refine ⟨fun hx => absurd hx (by decide), fun _ => ?_⟩
    refine s_X4_isOrder ht a0 a1 hs q0 q5 hD (fun b k p v m N D' y b5 ab b1 hk he v0 hW2 hx hD' hDB hO => ?_) (fun b D' y ab b1 hW2 hDB => ?_)
    rotate_left
    · refine ⟨fun hx => absurd rfl hx, fun _ => hQ b D' q y (by omega) b1 q0 (by omega) hDB ?_⟩
      rw [hW, hW2]
    refine ⟨fun _ => ?_, fun hx => absurd hx (by decide)⟩
    have hA : tlF D' 0 (q.toNat + 1) = tlF D 0 q.toNat ++ [od (k, 0, p + 1, -1, 0, up N p (if m = 0 then v else -v))] := by
      rw [tlF_app, tlF_cong q.toNat 0 (fun j hj => hD' j (by omega)), show (0 : Int) + (q.toNat : Int) = q by omega, hO]
    have e9 : (q + 1).toNat = q.toNat + 1 := by omega
    refine s_X4_isAt ht (by omega) b1 (by omega) (by omega) (br_b (fun g => ?_) (fun g => ?_))
    · rw [g]
      rw [atB_f] at g
      simp only [iI_add, Int.add_zero, bi_false]
      rw [P_X4_isText_L17_s]
      unfold B_X4_isText_L17
      simp only [i_m9, i_m1, i_0, i_1, i_2, i_3, i_4, i_5, i_6, i_7, i_8, i_9, i_10, i_11, i_12, i_13, i_14, i_15, i_16, i_17, i_18, i_19, i_20, i_21, i_22, i_23, i_24, i_25, i_26, i_27, i_28, i_29, i_30, i_31, i_32, i_33, i_34, i_35, i_36, i_37, i_38, i_39, i_40, i_41, i_42, i_43, i_44, i_45, i_46, i_47, i_48, i_49, i_50, i_51, i_52, i_53, i_54, i_55, i_56, i_57, i_58, i_59, i_60, i_61, i_62, i_63, i_64, i_65, i_66, i_67, i_68, i_69, i_70, i_72, i_77, i_78, i_80, i_81, i_82, i_83, i_84, i_87, i_88, i_96, i_98, i_100, i_101, i_103, i_118, i_119, i_126, i_133, i_137, i_144, i_154, i_158, i_160, i_190, i_199, i_200, i_207, i_209, i_213, i_229, i_252, i_254, i_255, i_260, i_282, i_303, i_304, i_321, i_348, i_435, i_492, i_522, i_1000, i_1023, i_1600, i_2903, iI_neg]
      refine ⟨fun _ => ?_, fun hx => (hx (by trivial)).elim⟩
      by_cases e : b < n
      · refine hE b D' (q + 1) y isF (by omega) e (by omega) (by omega) hDB ?_
        have : WK T n b (k, 1, p, v, m, N) = (b, []) := by
          refine WK_err b1 ?_
          rw [ch_in e]
          by_cases d : 48 ≤ T b ∧ T b ≤ 57
          · exact fx_d0 v0 d.1 d.2 (hx e d.1 d.2)
          · exact fx_s0 v0 d (by rw [he]; omega)
        rw [hW, hW2, this]
      · have eb : b = n := by omega
        subst eb
        refine hK D' (q + 1) y isF (by omega) (by omega) hDB ?_
        rw [hW, hW2, WK_ord (s2 := (k, 0, p + 1, -1, 0, up N p (if m = 0 then v else -v))) (by omega) (by rw [ch_end (by omega)]; exact fx_s2 v0 he), WK_end, e9, hA]
    · rw [g]
      rw [atB_t] at g
      simp only [iI_add, bi_true]
      refine ih (b + 1) (q + 1) isF D' y (k, 0, p + 1, -1, 0, up N p (if m = 0 then v else -v)) (by omega) (by omega) (by omega) (by omega) (by omega) rfl hDB ?_
      rw [hW, hW2, WK_ord (s2 := (k, 0, p + 1, -1, 0, up N p (if m = 0 then v else -v))) (by omega) (by rw [ch_in g.1, show T b = 59 by omega]; exact fx_s2 v0 he), e9, hA, List.append_assoc]
      rfl
theorem s_X4_isText {T D : Int → Int} {n a0 is0 q0 : Int32} {nn : Int} {y : Int32} {s0 : Rd} {Q : Int32 → Int32 → Int32 → Int32 → (Nat → Int32) → Int32 → Prop} (ht : TX T nn) (hn : n = iI nn) (hs : rO s0 = 0) (hD : DB D)
    (hY : ∀ D q y, 0 ≤ q → q ≤ 12 → DB D → WK T nn 0 s0 = (nn + 1, tlF D 0 q.toNat) → Q (iI 1) (iI nn) (iI 0) y (aI D) (iI q))
    (hN : ∀ a D q y, 0 ≤ a → a ≤ nn → 0 ≤ q → q ≤ 12 → DB D → (WK T nn 0 s0).1 = a → Q (iI 0) (iI a) (iI (bi (decide (a < nn)))) y (aI D) (iI q)) :
    P_X4_isText (aI T) n a0 is0 y (aI D) q0 Q := by
  subst hn
  have hn0 := ht.1
  unfold P_X4_isText P_X4_isText_J87
  simp only [i_m9, i_m1, i_0, i_1, i_2, i_3, i_4, i_5, i_6, i_7, i_8, i_9, i_10, i_11, i_12, i_13, i_14, i_15, i_16, i_17, i_18, i_19, i_20, i_21, i_22, i_23, i_24, i_25, i_26, i_27, i_28, i_29, i_30, i_31, i_32, i_33, i_34, i_35, i_36, i_37, i_38, i_39, i_40, i_41, i_42, i_43, i_44, i_45, i_46, i_47, i_48, i_49, i_50, i_51, i_52, i_53, i_54, i_55, i_56, i_57, i_58, i_59, i_60, i_61, i_62, i_63, i_64, i_65, i_66, i_67, i_68, i_69, i_70, i_72, i_77, i_78, i_80, i_81, i_82, i_83, i_84, i_87, i_88, i_96, i_98, i_100, i_101, i_103, i_118, i_119, i_126, i_133, i_137, i_144, i_154, i_158, i_160, i_190, i_199, i_200, i_207, i_209, i_213, i_229, i_252, i_254, i_255, i_260, i_282, i_303, i_304, i_321, i_348, i_435, i_492, i_522, i_1000, i_1023, i_1600, i_2903, iI_neg]
  refine ⟨(nn.toNat + 1) + 1, s_X4_isText_L ht (fun D q y isF h1 h2 h3 h4 => ?_) (fun a D q y isF h1 h2 h3 h4 h5 h6 => ?_) (fun a D q y h1 h2 h3 h4 h5 h6 => hN a D q y h1 h2 h3 h4 h5 h6) (nn.toNat + 1) 0 0 0 D y s0 (by omega) (by omega) (by omega) (by omega) (by omega) hs hD ?_⟩
  · refine ⟨fun _ => ⟨⟨narI0, fitI0⟩, fun hx => absurd rfl hx, fun _ => hY D q y h1 h2 h3 h4⟩, fun hx => absurd (Int32.le_refl _) hx⟩
  · simp (disch := omega) only [iI_le, iI_eq]
    have := hN a D q y h1 (by omega) h3 h4 h5 h6
    rw [decide_eq_true h2, bi_true] at this
    exact ⟨fun hx => absurd hx (by omega), fun _ => ⟨⟨narI1, fitI1⟩, fun _ => this, fun hx => absurd hx (by omega)⟩⟩
  · show WK T nn 0 s0 = ((WK T nn 0 s0).1, [] ++ (WK T nn 0 s0).2)
    rfl
/-- the first error of the text -/
def fe (T : Int → Int) (n : Int) (s : Rd) : Int := if (WK T n 0 s).1 ≤ n then (WK T n 0 s).1 else n
theorem s_X4_firstError {T D : Int → Int} {a0 is0 q0 : Int32} {n : Int} {y th : Int32} {s0 : Rd} {Q : Int32 → Int32 → Int32 → Int32 → Int32 → (Nat → Int32) → Int32 → Prop} (ht : TX T n) (hs : rO s0 = 0) (hD : DB D)
    (h : ∀ a is y D q, DB D → Q (iI (fe T n s0)) (iI 0) a is y (aI D) q) : P_X4_firstError (aI T) (iI n) th a0 is0 y (aI D) q0 Q := by
  have hn0 := ht.1
  unfold P_X4_firstError
  simp only [i_m9, i_m1, i_0, i_1, i_2, i_3, i_4, i_5, i_6, i_7, i_8, i_9, i_10, i_11, i_12, i_13, i_14, i_15, i_16, i_17, i_18, i_19, i_20, i_21, i_22, i_23, i_24, i_25, i_26, i_27, i_28, i_29, i_30, i_31, i_32, i_33, i_34, i_35, i_36, i_37, i_38, i_39, i_40, i_41, i_42, i_43, i_44, i_45, i_46, i_47, i_48, i_49, i_50, i_51, i_52, i_53, i_54, i_55, i_56, i_57, i_58, i_59, i_60, i_61, i_62, i_63, i_64, i_65, i_66, i_67, i_68, i_69, i_70, i_72, i_77, i_78, i_80, i_81, i_82, i_83, i_84, i_87, i_88, i_96, i_98, i_100, i_101, i_103, i_118, i_119, i_126, i_133, i_137, i_144, i_154, i_158, i_160, i_190, i_199, i_200, i_207, i_209, i_213, i_229, i_252, i_254, i_255, i_260, i_282, i_303, i_304, i_321, i_348, i_435, i_492, i_522, i_1000, i_1023, i_1600, i_2903, iI_neg]
  unfold fe at h
  refine s_X4_isText ht rfl hs hD (fun D q y h1 h2 h3 h4 => ?_) (fun a D q y h1 h2 h3 h4 h5 h6 => ?_)
  · rw [if_neg (by rw [h4]; show ¬ n + 1 ≤ n; omega)] at h
    exact ⟨fun _ => h _ _ _ _ _ h3, fun hx => absurd hx (by decide)⟩
  · rw [if_pos (by omega), h6] at h
    refine ⟨fun hx => absurd rfl hx, fun _ => br_b (fun g => ?_) (fun g => ?_)⟩
    · have : a = n := by have := of_decide_eq_false g; omega
      have h := h (iI a) (iI (bi (decide (a < n)))) y D (iI q) h5
      rw [this] at h ⊢
      exact h
    · exact h _ _ _ _ _ h5
/-- an order done -/
def oT (f : Int → Int) (o : Od) : Int := if o.1 = 119 then tW f o.2.1 o.2.2.1 o.2.2.2.1 o.2.2.2.2 else tB f o.2.1 o.2.2.1 o.2.2.2.1 2 255
def oF (f : Int → Int) (o : Od) : Int → Int := if o.1 = 119 then wdF f o.2.1 o.2.2.1 o.2.2.2.1 o.2.2.2.2 else bmF f o.2.1 o.2.2.1 o.2.2.2.1 2 255
def dl : List Od → (Int → Int) → Int × (Int → Int)
  | [], f => (0, f)
  | o :: L, f => if oT f o = 0 then ((dl L (oF f o)).1 + 1, (dl L (oF f o)).2) else (0, f)
theorem oF_OK {f : Int → Int} {o : Od} (hf : OK 6 f) (zf : Z f) (h : oT f o = 0) : OK 6 (oF f o) ∧ Z (oF f o) := by
  unfold oT at h
  unfold oF
  have n2 := hf.2.2.1
  have n3 := hf.2.2.2.1
  by_cases e : o.1 = 119
  · rw [if_pos e] at h ⊢
    exact ⟨wdF_OK hf h, Z_wd zf n2.1 (by have := (tW_0 h).2; omega)⟩
  · rw [if_neg e] at h ⊢
    have h2 := tB_0 h
    exact ⟨OK_mono (by omega) (bmF_OK hf (by omega) h2.1), Z_bm zf n3.1 (by omega)⟩
theorem dl_OK : ∀ (L : List Od) {f : Int → Int}, OK 6 f → Z f → OK 6 (dl L f).2 ∧ Z (dl L f).2
  | [], _, h1, h2 => ⟨h1, h2⟩
  | o :: L, f, h1, h2 => by
    unfold dl
    by_cases e : oT f o = 0
    · rw [if_pos e]
      have := oF_OK h1 h2 e
      exact dl_OK L this.1 this.2
    · rw [if_neg e]
      exact ⟨h1, h2⟩
theorem s_X4_does {f D : Int → Int} {i : Int} {Q : Int32 → (Nat → Int32) → Prop} (hf : OK 6 f) (hD : DB D) (i0 : 0 ≤ i) (i1 : i ≤ 12)
    (h : Q (iI (bi (decide (oT f (tO D i) = 0)))) (aI (if oT f (tO D i) = 0 then oF f (tO D i) else f))) : P_X4_does (iI i) (aI f) (aI D) Q := by
  have n2 := hf.2.2.1
  have n3 := hf.2.2.2.1
  have hd := hD (5 * i)
  unfold P_X4_does P_X4_does_J118 P_X4_does_J77
  unfold I32 at hd
  simp (disch := omega) only [iI_add, iI_sub, iI_mul, iI_neg, iI_lt, iI_le, iI_eq, iI_cl, aI_at, aI_up, aI_l0, aI_l1, aI_l2, aI_l3, i_m9, i_m1, i_0, i_1, i_2, i_3, i_4, i_5, i_6, i_7, i_8, i_9, i_10, i_11, i_12, i_13, i_14, i_15, i_16, i_17, i_18, i_19, i_20, i_21, i_22, i_23, i_24, i_25, i_26, i_27, i_28, i_29, i_30, i_31, i_32, i_33, i_34, i_35, i_36, i_37, i_38, i_39, i_40, i_41, i_42, i_43, i_44, i_45, i_46, i_47, i_48, i_49, i_50, i_51, i_52, i_53, i_54, i_55, i_56, i_57, i_58, i_59, i_60, i_61, i_62, i_63, i_64, i_65, i_66, i_67, i_68, i_69, i_70, i_72, i_77, i_78, i_80, i_81, i_82, i_83, i_84, i_87, i_88, i_96, i_98, i_100, i_101, i_103, i_118, i_119, i_126, i_133, i_137, i_144, i_154, i_158, i_160, i_190, i_199, i_200, i_207, i_209, i_213, i_229, i_252, i_254, i_255, i_260, i_282, i_303, i_304, i_321, i_348, i_435, i_492, i_522, i_1000, i_1023, i_1600, i_2903, iI_neg]
  refine ⟨iI_in (by omega) (by omega) (by omega), iI_in (by omega) (by omega) (by omega), iI_in (by omega) (by omega) (by omega), iI_in (by omega) (by omega) (by omega), iI_in (by omega) (by omega) (by omega), fun e => ?_, fun e => ?_⟩
  · have e1 : oT f (tO D i) = tB f (D (5 * i + 1)) (D (5 * i + 2)) (D (5 * i + 3)) 2 255 := if_neg e
    have e2 : oF f (tO D i) = bmF f (D (5 * i + 1)) (D (5 * i + 2)) (D (5 * i + 3)) 2 255 := if_neg e
    rw [e1, e2] at h
    have hr : tB f (D (5 * i + 1)) (D (5 * i + 2)) (D (5 * i + 3)) 2 255 = 0 ∨ tB f (D (5 * i + 1)) (D (5 * i + 2)) (D (5 * i + 3)) 2 255 = 1 ∨ tB f (D (5 * i + 1)) (D (5 * i + 2)) (D (5 * i + 3)) 2 255 = 2 := by unfold tB; repeat' split; all_goals omega
    refine s_X4_mayBeam (hD _) (hD _) (hD _) ⟨by omega, by omega⟩ ⟨by omega, by omega⟩ (by omega) ?_
    rw [iI_eq (by omega) (by omega) (by omega) (by omega)]
    refine ⟨fun e3 => ⟨fun _ => ⟨narI0, ?_⟩, fun hx => (hx (by trivial)).elim⟩, fun e3 => ⟨fun hx => absurd hx (by decide), fun _ => ?_⟩⟩
    · rw [decide_eq_false e3, bi_false, if_neg e3] at h; exact h
    · rw [decide_eq_true e3, bi_true, if_pos e3] at h
      have h2 := tB_0 e3
      exact s_X4_beams n3.1 (by omega) ⟨narI1, h⟩
  · have e1 : oT f (tO D i) = tW f (D (5 * i + 1)) (D (5 * i + 2)) (D (5 * i + 3)) (D (5 * i + 4)) := by
      unfold oT tO; rw [if_pos e]; show tW f _ _ _ (if D (5 * i) = 119 then _ else 0) = _; rw [if_pos e]
    have e2 : oF f (tO D i) = wdF f (D (5 * i + 1)) (D (5 * i + 2)) (D (5 * i + 3)) (D (5 * i + 4)) := by
      unfold oF tO; rw [if_pos e]; show wdF f _ _ _ (if D (5 * i) = 119 then _ else 0) = _; rw [if_pos e]
    rw [e1, e2] at h
    have hr : tW f (D (5 * i + 1)) (D (5 * i + 2)) (D (5 * i + 3)) (D (5 * i + 4)) = 0 ∨ tW f (D (5 * i + 1)) (D (5 * i + 2)) (D (5 * i + 3)) (D (5 * i + 4)) = 1 ∨ tW f (D (5 * i + 1)) (D (5 * i + 2)) (D (5 * i + 3)) (D (5 * i + 4)) = 2 := by unfold tW; repeat' split; all_goals omega
    refine s_X4_mayWord (hD _) (hD _) (hD _) (hD _) (by omega) ?_
    rw [iI_eq (by omega) (by omega) (by omega) (by omega)]
    refine ⟨fun e3 => ⟨fun _ => ⟨narI0, ?_⟩, fun hx => (hx (by trivial)).elim⟩, fun e3 => ⟨fun hx => absurd hx (by decide), fun _ => ?_⟩⟩
    · rw [decide_eq_false e3, bi_false, if_neg e3] at h; exact h
    · rw [decide_eq_true e3, bi_true, if_pos e3] at h
      have h2 := tW_0 e3
      exact s_X4_words n2.1 (by omega) ⟨narI1, h⟩
theorem s_X4_read_L {f0 D : Int → Int} {q : Int} {a1 : Nat → Int32} {a2 a3 a4 a5 a6 a7 a9 : Int32} {Q : Int32 → (Nat → Int32) → (Nat → Int32) → Int32 → Int32 → Int32 → Int32 → Int32 → Int32 → (Nat → Int32) → Int32 → Int32 → Prop} (hD : DB D) (q0 : 0 ≤ q) (q1 : q ≤ 12)
    (h : Q (iI (dl (tlF D 0 q.toNat) f0).1) (aI (dl (tlF D 0 q.toNat) f0).2) a1 a2 a3 a4 a5 a6 a7 (aI D) (iI q) a9) :
    ∀ (m : Nat) (i : Int) (f : Int → Int), i + m = q → 0 ≤ i → OK 6 f → Z f → dl (tlF D 0 q.toNat) f0 = ((dl (tlF D i m) f).1 + i, (dl (tlF D i m) f).2) → P_X4_read_L29 a1 a2 a3 a4 a5 a6 a7 (aI D) (iI q) a9 Q (m + 1) (iI i) (aI f) := by
  intro m
  induction m with
  | zero =>
    intro i f hi i0 hf zf hE
    rw [P_X4_read_L29_s]
    unfold B_X4_read_L29
    simp (disch := omega) only [iI_le]
    refine ⟨fun _ => ?_, fun hx => absurd (by omega) hx⟩
    rw [hE] at h
    have : (dl (tlF D i 0) f).1 + i = i := by show (0 : Int) + i = i; omega
    rw [this] at h
    exact h
  | succ m ih =>
    intro i f hi i0 hf zf hE
    rw [P_X4_read_L29_s]
    unfold B_X4_read_L29
    simp (disch := omega) only [iI_le, iI_add, i_m9, i_m1, i_0, i_1, i_2, i_3, i_4, i_5, i_6, i_7, i_8, i_9, i_10, i_11, i_12, i_13, i_14, i_15, i_16, i_17, i_18, i_19, i_20, i_21, i_22, i_23, i_24, i_25, i_26, i_27, i_28, i_29, i_30, i_31, i_32, i_33, i_34, i_35, i_36, i_37, i_38, i_39, i_40, i_41, i_42, i_43, i_44, i_45, i_46, i_47, i_48, i_49, i_50, i_51, i_52, i_53, i_54, i_55, i_56, i_57, i_58, i_59, i_60, i_61, i_62, i_63, i_64, i_65, i_66, i_67, i_68, i_69, i_70, i_72, i_77, i_78, i_80, i_81, i_82, i_83, i_84, i_87, i_88, i_96, i_98, i_100, i_101, i_103, i_118, i_119, i_126, i_133, i_137, i_144, i_154, i_158, i_160, i_190, i_199, i_200, i_207, i_209, i_213, i_229, i_252, i_254, i_255, i_260, i_282, i_303, i_304, i_321, i_348, i_435, i_492, i_522, i_1000, i_1023, i_1600, i_2903, iI_neg]
    refine ⟨fun hx => absurd hx (by omega), fun _ => s_X4_does hf hD i0 (by omega) (br_b (fun g => ?_) (fun g => ?_))⟩
    · have g := of_decide_eq_false g
      rw [if_neg g]
      have e : dl (tlF D i (m + 1)) f = (0, f) := if_neg g
      rw [hE, e] at h
      have : (0 : Int) + i = i := by omega
      rw [show ((0 : Int), f).1 + i = i from this] at h
      exact h
    · have g := of_decide_eq_true g
      rw [if_pos g]
      have e : dl (tlF D i (m + 1)) f = ((dl (tlF D (i + 1) m) (oF f (tO D i))).1 + 1, (dl (tlF D (i + 1) m) (oF f (tO D i))).2) := if_pos g
      have o := oF_OK hf zf g
      refine ih (i + 1) (oF f (tO D i)) (by omega) (by omega) o.1 o.2 ?_
      rw [hE, e]
      show ((dl (tlF D (i + 1) m) (oF f (tO D i))).1 + 1 + i, _) = ((dl (tlF D (i + 1) m) (oF f (tO D i))).1 + (i + 1), _)
      rw [show (dl (tlF D (i + 1) m) (oF f (tO D i))).1 + 1 + i = (dl (tlF D (i + 1) m) (oF f (tO D i))).1 + (i + 1) by omega]
theorem s_X4_read {f P T D : Int → Int} {n k il : Int} {a0 is0 q0 y th : Int32} {s0 : Rd} {Q : Int32 → (Nat → Int32) → (Nat → Int32) → Int32 → Int32 → Int32 → Int32 → Int32 → Int32 → (Nat → Int32) → Int32 → Int32 → Prop} (hf : OK 6 f) (zf : Z f) (k0 : 0 ≤ k) (k1 : k ≤ 6) (ht : TX T n) (hs : rO s0 = 0) (hD : DB D)
    (hY : ∀ a is y D q, DB D → (WK T n 0 s0).1 = n + 1 → Q (iI (dl (WK T n 0 s0).2 f).1) (aI (dl (WK T n 0 s0).2 f).2) (aI (svP f P k)) (iI (svK k)) (iI 0) (iI 0) a is y (aI D) q (iI 0))
    (hN : ∀ a is y D q, DB D → (WK T n 0 s0).1 ≤ n → Q (iI 0) (aI f) (aI P) (iI k) (iI n) (iI 1) a is y (aI D) q (iI il)) :
    P_X4_read (aI f) (aI P) (iI k) (aI T) (iI n) th a0 is0 y (aI D) q0 (iI il) Q := by
  unfold P_X4_read
  simp only [i_m9, i_m1, i_0, i_1, i_2, i_3, i_4, i_5, i_6, i_7, i_8, i_9, i_10, i_11, i_12, i_13, i_14, i_15, i_16, i_17, i_18, i_19, i_20, i_21, i_22, i_23, i_24, i_25, i_26, i_27, i_28, i_29, i_30, i_31, i_32, i_33, i_34, i_35, i_36, i_37, i_38, i_39, i_40, i_41, i_42, i_43, i_44, i_45, i_46, i_47, i_48, i_49, i_50, i_51, i_52, i_53, i_54, i_55, i_56, i_57, i_58, i_59, i_60, i_61, i_62, i_63, i_64, i_65, i_66, i_67, i_68, i_69, i_70, i_72, i_77, i_78, i_80, i_81, i_82, i_83, i_84, i_87, i_88, i_96, i_98, i_100, i_101, i_103, i_118, i_119, i_126, i_133, i_137, i_144, i_154, i_158, i_160, i_190, i_199, i_200, i_207, i_209, i_213, i_229, i_252, i_254, i_255, i_260, i_282, i_303, i_304, i_321, i_348, i_435, i_492, i_522, i_1000, i_1023, i_1600, i_2903, iI_neg]
  refine s_X4_isText ht rfl hs hD (fun D q y h1 h2 h3 h4 => ?_) (fun a D q y h1 h2 h3 h4 h5 h6 => ?_)
  · refine ⟨fun _ => s_X4_saves k0 k1 ⟨q.toNat + 1, s_X4_read_L (f0 := f) h3 h1 h2 ?_ q.toNat 0 f (by omega) (by omega) hf zf ?_⟩, fun hx => absurd hx (by decide)⟩
    · have := hY (iI n) (iI 0) y D (iI q) h3 (by rw [h4])
      rw [h4] at this
      exact this
    · rw [Int.add_zero]
  · exact ⟨fun hx => absurd rfl hx, fun _ => s_X4_fails (hN _ _ _ _ _ h5 (by omega))⟩
