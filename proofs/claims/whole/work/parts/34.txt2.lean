theorem bi_false : bi false = 0 := rfl
theorem bi_true : bi true = 1 := rfl
theorem s_X4_isSpeed {T D : Int → Int} {n a q isF : Int} {x : Int32} {N : Int → Int} {Q : Int32 → Int32 → Int32 → Int32 → (Nat → Int32) → Prop} (ht : TX T n) (a0 : 0 ≤ a) (a1 : a ≤ n) (q0 : 0 ≤ q) (q1 : q ≤ 12)
    (hy : ∀ b v m y, a < b → b ≤ n → 0 ≤ v → v ≤ 9 → WK T n a (98, 1, 2, -1, 0, N) = WK T n b (98, 1, 2, v, m, N) → NX T n b 98 2 v → Q (iI 1) (iI b) (iI isF) y (aI (up D (5 * q + 3) (if m = 0 then v else -v))))
    (hn : ∀ b y, a ≤ b → b ≤ n → WK T n a (98, 1, 2, -1, 0, N) = (b, []) → Q (iI 0) (iI b) (iI (bi (decide (b < n)))) y (aI D)) :
    P_X4_isSpeed (aI T) (iI n) (iI a) (iI isF) x (aI D) (iI q) Q := by
  have hn0 := ht.1
  unfold P_X4_isSpeed P_X4_isSpeed_J23 P_X4_isSpeed_J64
  simp only [i_m9, i_m1, i_0, i_1, i_2, i_3, i_4, i_5, i_6, i_7, i_8, i_9, i_10, i_11, i_12, i_13, i_14, i_15, i_16, i_17, i_18, i_19, i_20, i_21, i_22, i_23, i_24, i_25, i_26, i_27, i_28, i_29, i_30, i_31, i_32, i_33, i_34, i_35, i_36, i_37, i_38, i_39, i_40, i_41, i_42, i_43, i_44, i_45, i_46, i_47, i_48, i_49, i_50, i_51, i_52, i_53, i_54, i_55, i_56, i_57, i_58, i_59, i_60, i_61, i_62, i_63, i_64, i_65, i_66, i_67, i_68, i_69, i_70, i_72, i_77, i_78, i_80, i_81, i_82, i_83, i_84, i_87, i_88, i_96, i_98, i_100, i_101, i_103, i_118, i_119, i_126, i_133, i_137, i_144, i_154, i_158, i_160, i_190, i_199, i_200, i_207, i_209, i_213, i_229, i_252, i_254, i_255, i_260, i_282, i_303, i_304, i_321, i_348, i_435, i_492, i_522, i_1000, i_1023, i_1600, i_2903, iI_neg]
  refine s_X4_isAt ht a0 a1 (by omega) (by omega) (br_b (fun g => ?_) (fun g => ?_))
  · rw [g]
    rw [atB_f] at g
    simp only [iI_add, Int.add_zero, bi_false]
    refine s_X4_isNumber (k := 98) (p := 2) (m := 0) (N := N) ht a0 a1 (by decide) (by decide) q0 q1 (by omega) (by omega) (fun h1 _ _ _ h5 => g ⟨h1, by omega, by omega⟩) (fun b v h1 h2 h3 h4 h5 h6 => ?_) (fun y h => ?_)
    · refine ⟨fun _ => ?_, fun hx => absurd hx (by decide)⟩
      have := hy b v 0 (iI v) h1 h2 h3 h4 h5 h6
      rw [if_pos rfl] at this
      simp (disch := omega) only [iI_add, iI_mul, iI_cl, aI_at, aI_up, up_eq, up_up, Int.mul_one]
      exact ⟨iI_in (by omega) (by omega) (by omega), fun _ => ⟨iI_in (by omega) (by omega) (by omega), this⟩, fun hx => absurd trivial hx⟩
    · refine ⟨fun hx => absurd rfl hx, fun _ => hn a y (by omega) a1 h⟩
  · rw [g]
    rw [atB_t] at g
    simp only [iI_add, bi_true]
    have e45 : T a = 45 := by omega
    have hW : WK T n a (98, 1, 2, -1, 0, N) = WK T n (a + 1) (98, 1, 2, -1, 1, N) := WK_more a1 (by rw [ch_in g.1, e45]; exact fx_m1)
    refine s_X4_isNumber (k := 98) (p := 2) (m := 1) (N := N) ht (by omega) (by omega) (by decide) (by decide) q0 q1 (by omega) (by omega) (fun _ _ _ h4 _ => absurd h4 (by decide)) (fun b v h1 h2 h3 h4 h5 h6 => ?_) (fun y h => ?_)
    · refine ⟨fun _ => ?_, fun hx => absurd hx (by decide)⟩
      have := hy b v 1 (iI v) (by omega) h2 h3 h4 (hW.trans h5) h6
      rw [if_neg (by decide)] at this
      simp (disch := omega) only [iI_add, iI_mul, iI_cl, aI_at, aI_up, up_eq, up_up]
      rw [show v * -1 = -v by omega]
      exact ⟨iI_in (by omega) (by omega) (by omega), fun hx => absurd hx (by decide), fun _ => ⟨iI_in (by omega) (by omega) (by omega), this⟩⟩
    · refine ⟨fun hx => absurd rfl hx, fun _ => hn (a + 1) y (by omega) (by omega) (hW.trans h)⟩
def DB (D : Int → Int) : Prop := ∀ i : Int, I32 (D i)
theorem DB_up {D : Int → Int} {a v : Int} (h : DB D) (hv : I32 v) : DB (up D a v) := fun i => by
  unfold up
  split
  · exact hv
  · exact h i
def tO (D : Int → Int) (q : Int) : Od := (D (5 * q), D (5 * q + 1), D (5 * q + 2), D (5 * q + 3), if D (5 * q) = 119 then D (5 * q + 4) else 0)
theorem fx_st {c : Int} {s : Rd} (h : rO s = 0) (hc : c = 119 ∨ c = 98) : fd c s = (1, (c, 1, 0, -1, 0, rN s)) := by
  obtain ⟨k, o, p, v, m, N⟩ := s
  have h2 : o = 0 := h
  rw [fd_x]
  unfold fdX
  rw [if_pos h2, if_pos hc]
theorem fx_st0 {c : Int} {s : Rd} (h : rO s = 0) (hc : ¬ (c = 119 ∨ c = 98)) : (fd c s).1 = 0 := by
  obtain ⟨k, o, p, v, m, N⟩ := s
  have h2 : o = 0 := h
  rw [fd_x]
  unfold fdX
  rw [if_pos h2, if_neg hc]
theorem od_b {D N : Int → Int} {q v1 v2 w : Int} {p : Int} : tO (up (up (up (up D (5 * q) 98) (5 * q + 1) v1) (5 * q + 2) v2) (5 * q + 3) w) q = od (98, 0, p, -1, 0, up (up (up N 0 v1) 1 v2) 2 w) := by
  have e0 : up (up (up (up D (5 * q) 98) (5 * q + 1) v1) (5 * q + 2) v2) (5 * q + 3) w (5 * q) = 98 := by rw [up_ne (by omega), up_ne (by omega), up_ne (by omega), up_eq]
  have e1 : up (up (up (up D (5 * q) 98) (5 * q + 1) v1) (5 * q + 2) v2) (5 * q + 3) w (5 * q + 1) = v1 := by rw [up_ne (by omega), up_ne (by omega), up_eq]
  have e2 : up (up (up (up D (5 * q) 98) (5 * q + 1) v1) (5 * q + 2) v2) (5 * q + 3) w (5 * q + 2) = v2 := by rw [up_ne (by omega), up_eq]
  have e3 : up (up (up (up D (5 * q) 98) (5 * q + 1) v1) (5 * q + 2) v2) (5 * q + 3) w (5 * q + 3) = w := by rw [up_eq]
  have n0 : up (up (up N 0 v1) 1 v2) 2 w 0 = v1 := by rw [up_ne (by omega), up_ne (by omega), up_eq]
  have n1 : up (up (up N 0 v1) 1 v2) 2 w 1 = v2 := by rw [up_ne (by omega), up_eq]
  have n2 : up (up (up N 0 v1) 1 v2) 2 w 2 = w := by rw [up_eq]
  unfold tO od
  rw [e0, e1, e2, e3]
  show _ = ((98 : Int), up (up (up N 0 v1) 1 v2) 2 w 0, up (up (up N 0 v1) 1 v2) 2 w 1, up (up (up N 0 v1) 1 v2) 2 w 2, if (98 : Int) = 119 then up (up (up N 0 v1) 1 v2) 2 w 3 else 0)
  rw [n0, n1, n2, if_neg (by omega), if_neg (by omega)]
theorem od_w {D N : Int → Int} {q v1 v2 v3 v4 : Int} {p : Int} : tO (up (up (up (up (up D (5 * q) 119) (5 * q + 1) v1) (5 * q + 2) v2) (5 * q + 3) v3) (5 * q + 4) v4) q = od (119, 0, p, -1, 0, up (up (up (up N 0 v1) 1 v2) 2 v3) 3 v4) := by
  have e0 : up (up (up (up (up D (5 * q) 119) (5 * q + 1) v1) (5 * q + 2) v2) (5 * q + 3) v3) (5 * q + 4) v4 (5 * q) = 119 := by rw [up_ne (by omega), up_ne (by omega), up_ne (by omega), up_ne (by omega), up_eq]
  have e1 : up (up (up (up (up D (5 * q) 119) (5 * q + 1) v1) (5 * q + 2) v2) (5 * q + 3) v3) (5 * q + 4) v4 (5 * q + 1) = v1 := by rw [up_ne (by omega), up_ne (by omega), up_ne (by omega), up_eq]
  have e2 : up (up (up (up (up D (5 * q) 119) (5 * q + 1) v1) (5 * q + 2) v2) (5 * q + 3) v3) (5 * q + 4) v4 (5 * q + 2) = v2 := by rw [up_ne (by omega), up_ne (by omega), up_eq]
  have e3 : up (up (up (up (up D (5 * q) 119) (5 * q + 1) v1) (5 * q + 2) v2) (5 * q + 3) v3) (5 * q + 4) v4 (5 * q + 3) = v3 := by rw [up_ne (by omega), up_eq]
  have e4 : up (up (up (up (up D (5 * q) 119) (5 * q + 1) v1) (5 * q + 2) v2) (5 * q + 3) v3) (5 * q + 4) v4 (5 * q + 4) = v4 := by rw [up_eq]
  have n0 : up (up (up (up N 0 v1) 1 v2) 2 v3) 3 v4 0 = v1 := by rw [up_ne (by omega), up_ne (by omega), up_ne (by omega), up_eq]
  have n1 : up (up (up (up N 0 v1) 1 v2) 2 v3) 3 v4 1 = v2 := by rw [up_ne (by omega), up_ne (by omega), up_eq]
  have n2 : up (up (up (up N 0 v1) 1 v2) 2 v3) 3 v4 2 = v3 := by rw [up_ne (by omega), up_eq]
  have n3 : up (up (up (up N 0 v1) 1 v2) 2 v3) 3 v4 3 = v4 := by rw [up_eq]
  unfold tO od
  rw [e0, e1, e2, e3, e4]
  show _ = ((119 : Int), up (up (up (up N 0 v1) 1 v2) 2 v3) 3 v4 0, up (up (up (up N 0 v1) 1 v2) 2 v3) 3 v4 1, up (up (up (up N 0 v1) 1 v2) 2 v3) 3 v4 2, if (119 : Int) = 119 then up (up (up (up N 0 v1) 1 v2) 2 v3) 3 v4 3 else 0)
  rw [n0, n1, n2, n3, if_pos rfl]
theorem s_X4_isOrder_J {T D : Int → Int} {n a q isF t : Int} {x : Int32} {s : Rd} {Q : Int32 → Int32 → Int32 → Int32 → (Nat → Int32) → Prop} (ht : TX T n) (a0 : 0 ≤ a) (a1 : a ≤ n) (hs : rO s = 0) (q0 : 0 ≤ q) (q5 : 5 * q ≤ a) (hD : DB D) (htt : t = if a < n then T a else 0)
    (hy : ∀ b k p v m N D' y, 5 * q + 5 ≤ b → a < b → b ≤ n → KP k p → enR k p = 59 → 0 ≤ v → WK T n a s = WK T n b (k, 1, p, v, m, N) → NX T n b k p v → (∀ i : Int, i < 5 * q → D' i = D i) → DB D' → tO D' q = od (k, 0, p + 1, -1, 0, up N p (if m = 0 then v else -v)) → Q (iI 1) (iI b) (iI isF) y (aI D'))
    (hn : ∀ b D' y, a ≤ b → b ≤ n → WK T n a s = (b, []) → DB D' → Q (iI 0) (iI b) (iI (bi (decide (b < n)))) y (aI D')) :
    P_X4_isOrder_J24 (aI T) (iI n) (iI a) (iI isF) x (aI D) (iI q) Q (iI t) := by
  have hn0 := ht.1
  have hT := ht.2
  have ht0 : 0 ≤ t ∧ t ≤ 126 := by
    rw [htt]; split
    · have := hT a a0 (by omega); omega
    · omega
  have i1 : ∀ {v : Int}, 0 ≤ v → v ≤ 199 → I32 v := fun h1 h2 => ⟨by omega, by omega⟩
  unfold P_X4_isOrder_J24
  simp (disch := omega) only [iI_add, iI_mul, iI_cl, aI_up, iI_eq, i_m9, i_m1, i_0, i_1, i_2, i_3, i_4, i_5, i_6, i_7, i_8, i_9, i_10, i_11, i_12, i_13, i_14, i_15, i_16, i_17, i_18, i_19, i_20, i_21, i_22, i_23, i_24, i_25, i_26, i_27, i_28, i_29, i_30, i_31, i_32, i_33, i_34, i_35, i_36, i_37, i_38, i_39, i_40, i_41, i_42, i_43, i_44, i_45, i_46, i_47, i_48, i_49, i_50, i_51, i_52, i_53, i_54, i_55, i_56, i_57, i_58, i_59, i_60, i_61, i_62, i_63, i_64, i_65, i_66, i_67, i_68, i_69, i_70, i_72, i_77, i_78, i_80, i_81, i_82, i_83, i_84, i_87, i_88, i_96, i_98, i_100, i_101, i_103, i_118, i_119, i_126, i_133, i_137, i_144, i_154, i_158, i_160, i_190, i_199, i_200, i_207, i_209, i_213, i_229, i_252, i_254, i_255, i_260, i_282, i_303, i_304, i_321, i_348, i_435, i_492, i_522, i_1000, i_1023, i_1600, i_2903, iI_neg]
  refine ⟨iI_in (by omega) (by omega) (by omega), fun e => ?_, fun e => ?_, fun e e2 => ?_⟩
  · subst e
    have han : a < n := by
      by_cases h : a < n
      · exact h
      · rw [if_neg h] at htt; omega
    rw [if_pos han] at htt
    have hW0 : WK T n a s = WK T n (a + 1) (98, 1, 0, -1, 0, rN s) := WK_more a1 (by rw [ch_in han, ← htt]; exact fx_st hs (Or.inr rfl))
    refine s_X4_isNumber (k := 98) (p := 0) (m := 0) (N := rN s) ht (by omega) (by omega) (by decide) (by decide) q0 (by omega) (by omega) (by omega) (fun _ _ h _ _ => absurd h (by decide)) (fun b1 v1 h1 h2 h3 h4 h5 h6 => ?_) (fun y h => ?_)
    rotate_left
    · exact ⟨fun _ => hn (a + 1) _ y (by omega) (by omega) (hW0.trans h) (DB_up hD (i1 (by omega) (by omega))), fun hx => absurd rfl hx⟩
    refine ⟨fun hx => absurd hx (by decide), fun _ => ?_⟩
    refine s_X4_isSign (k := 98) (p := 0) (p2 := 1) (v := v1) (N := rN s) ht (by omega) (by omega) (by decide) (by omega) (by omega) h3 h6 (fun g1 g2 => ?_) (fun h => ?_)
    rotate_left
    · exact ⟨fun _ => hn b1 _ _ (by omega) (by omega) (hW0.trans (h5.trans h)) (DB_up (DB_up hD (i1 (by omega) (by omega))) (i1 h3 h4)), fun hx => absurd rfl hx⟩
    refine ⟨fun hx => absurd hx (by decide), fun _ => ?_⟩
    refine s_X4_isNumber (k := 98) (p := 1) (m := 0) (N := up (rN s) 0 v1) ht (by omega) (by omega) (by decide) (by decide) q0 (by omega) (by omega) (by omega) (fun _ _ h _ _ => absurd h (by decide)) (fun b2 v2 k1 k2 k3 k4 k5 k6 => ?_) (fun y h => ?_)
    rotate_left
    · exact ⟨fun _ => hn (b1 + 1) _ y (by omega) (by omega) (hW0.trans (h5.trans (g2.trans h))) (DB_up (DB_up hD (i1 (by omega) (by omega))) (i1 h3 h4)), fun hx => absurd rfl hx⟩
    refine ⟨fun hx => absurd hx (by decide), fun _ => ?_⟩
    refine s_X4_isSign (k := 98) (p := 1) (p2 := 2) (v := v2) (N := up (rN s) 0 v1) ht (by omega) (by omega) (by decide) (by omega) (by omega) k3 k6 (fun l1 l2 => ?_) (fun h => ?_)
    rotate_left
    · exact ⟨fun _ => hn b2 _ _ (by omega) (by omega) (hW0.trans (h5.trans (g2.trans (k5.trans h)))) (DB_up (DB_up (DB_up hD (i1 (by omega) (by omega))) (i1 h3 h4)) (i1 k3 (by omega))), fun hx => absurd rfl hx⟩
    refine ⟨fun hx => absurd hx (by decide), fun _ => ?_⟩
    refine s_X4_isSpeed (N := up (up (rN s) 0 v1) 1 v2) ht (by omega) (by omega) q0 (by omega) (fun b3 v3 m y r1 r2 r3 r4 r5 r6 => ?_) (fun b y r1 r2 h => ?_)
    rotate_left
    · exact ⟨fun _ => hn b _ y (by omega) (by omega) (hW0.trans (h5.trans (g2.trans (k5.trans (l2.trans h))))) (DB_up (DB_up (DB_up hD (i1 (by omega) (by omega))) (i1 h3 h4)) (i1 k3 (by omega))), fun hx => absurd rfl hx⟩
    refine ⟨fun hx => absurd hx (by decide), fun _ => ?_⟩
    refine hy b3 98 2 v3 m (up (up (rN s) 0 v1) 1 v2) _ y (by omega) (by omega) r2 (Or.inr ⟨rfl, by omega, by omega⟩) (by decide) r3 (hW0.trans (h5.trans (g2.trans (k5.trans (l2.trans r5))))) r6 (fun i hi => ?_) ?_ od_b
    · rw [up_ne (by omega), up_ne (by omega), up_ne (by omega), up_ne (by omega)]
    · refine DB_up (DB_up (DB_up (DB_up hD (i1 (by omega) (by omega))) (i1 h3 h4)) (i1 k3 (by omega))) ?_
      unfold I32
      split <;> omega
  · subst e
    have han : a < n := by
      by_cases h : a < n
      · exact h
      · rw [if_neg h] at htt; omega
    rw [if_pos han] at htt
    have hW0 : WK T n a s = WK T n (a + 1) (119, 1, 0, -1, 0, rN s) := WK_more a1 (by rw [ch_in han, ← htt]; exact fx_st hs (Or.inl rfl))
    refine s_X4_isNumber (k := 119) (p := 0) (m := 0) (N := rN s) ht (by omega) (by omega) (by decide) (by decide) q0 (by omega) (by omega) (by omega) (fun _ h _ _ _ => absurd h (by decide)) (fun b1 v1 h1 h2 h3 h4 h5 h6 => ?_) (fun y h => ?_)
    rotate_left
    · exact ⟨fun _ => hn (a + 1) _ y (by omega) (by omega) (hW0.trans h) (DB_up hD (i1 (by omega) (by omega))), fun hx => absurd rfl hx⟩
    refine ⟨fun hx => absurd hx (by decide), fun _ => ?_⟩
    refine s_X4_isSign (k := 119) (p := 0) (p2 := 1) (v := v1) (N := rN s) ht (by omega) (by omega) (by decide) (by omega) (by omega) h3 h6 (fun g1 g2 => ?_) (fun h => ?_)
    rotate_left
    · exact ⟨fun _ => hn b1 _ _ (by omega) (by omega) (hW0.trans (h5.trans h)) (DB_up (DB_up hD (i1 (by omega) (by omega))) (i1 h3 (by omega))), fun hx => absurd rfl hx⟩
    refine ⟨fun hx => absurd hx (by decide), fun _ => ?_⟩
    refine s_X4_isNumber (k := 119) (p := 1) (m := 0) (N := up (rN s) 0 v1) ht (by omega) (by omega) (by decide) (by decide) q0 (by omega) (by omega) (by omega) (fun _ h _ _ _ => absurd h (by decide)) (fun b2 v2 k1 k2 k3 k4 k5 k6 => ?_) (fun y h => ?_)
    rotate_left
    · exact ⟨fun _ => hn (b1 + 1) _ y (by omega) (by omega) (hW0.trans (h5.trans (g2.trans h))) (DB_up (DB_up hD (i1 (by omega) (by omega))) (i1 h3 (by omega))), fun hx => absurd rfl hx⟩
    refine ⟨fun hx => absurd hx (by decide), fun _ => ?_⟩
    refine s_X4_isSign (k := 119) (p := 1) (p2 := 2) (v := v2) (N := up (rN s) 0 v1) ht (by omega) (by omega) (by decide) (by omega) (by omega) k3 k6 (fun l1 l2 => ?_) (fun h => ?_)
    rotate_left
    · exact ⟨fun _ => hn b2 _ _ (by omega) (by omega) (hW0.trans (h5.trans (g2.trans (k5.trans h)))) (DB_up (DB_up (DB_up hD (i1 (by omega) (by omega))) (i1 h3 (by omega))) (i1 k3 (by omega))), fun hx => absurd rfl hx⟩
    refine ⟨fun hx => absurd hx (by decide), fun _ => ?_⟩
    refine s_X4_isNumber (k := 119) (p := 2) (m := 0) (N := up (up (rN s) 0 v1) 1 v2) ht (by omega) (by omega) (by decide) (by decide) q0 (by omega) (by omega) (by omega) (fun _ h _ _ _ => absurd h (by decide)) (fun b3 v3 r1 r2 r3 r4 r5 r6 => ?_) (fun y h => ?_)
    rotate_left
    · exact ⟨fun _ => hn (b2 + 1) _ y (by omega) (by omega) (hW0.trans (h5.trans (g2.trans (k5.trans (l2.trans h))))) (DB_up (DB_up (DB_up hD (i1 (by omega) (by omega))) (i1 h3 (by omega))) (i1 k3 (by omega))), fun hx => absurd rfl hx⟩
    refine ⟨fun hx => absurd hx (by decide), fun _ => ?_⟩
    refine s_X4_isSign (k := 119) (p := 2) (p2 := 3) (v := v3) (N := up (up (rN s) 0 v1) 1 v2) ht (by omega) (by omega) (by decide) (by omega) (by omega) r3 r6 (fun u1 u2 => ?_) (fun h => ?_)
    rotate_left
    · exact ⟨fun _ => hn b3 _ _ (by omega) (by omega) (hW0.trans (h5.trans (g2.trans (k5.trans (l2.trans (r5.trans h)))))) (DB_up (DB_up (DB_up (DB_up hD (i1 (by omega) (by omega))) (i1 h3 (by omega))) (i1 k3 (by omega))) (i1 r3 (by omega))), fun hx => absurd rfl hx⟩
    refine ⟨fun hx => absurd hx (by decide), fun _ => ?_⟩
    refine s_X4_isNumber (k := 119) (p := 3) (m := 0) (N := up (up (up (rN s) 0 v1) 1 v2) 2 v3) ht (by omega) (by omega) (by decide) (by decide) q0 (by omega) (by omega) (by omega) (fun _ h _ _ _ => absurd h (by decide)) (fun b4 v4 z1 z2 z3 z4 z5 z6 => ?_) (fun y h => ?_)
    rotate_left
    · exact ⟨fun _ => hn (b3 + 1) _ y (by omega) (by omega) (hW0.trans (h5.trans (g2.trans (k5.trans (l2.trans (r5.trans (u2.trans h))))))) (DB_up (DB_up (DB_up (DB_up hD (i1 (by omega) (by omega))) (i1 h3 (by omega))) (i1 k3 (by omega))) (i1 r3 (by omega))), fun hx => absurd rfl hx⟩
    refine ⟨fun hx => absurd hx (by decide), fun _ => ?_⟩
    refine hy b4 119 3 v4 0 (up (up (up (rN s) 0 v1) 1 v2) 2 v3) _ _ (by omega) (by omega) z2 (Or.inl ⟨rfl, by omega, by omega⟩) (by decide) z3 (hW0.trans (h5.trans (g2.trans (k5.trans (l2.trans (r5.trans (u2.trans z5))))))) z6 (fun i hi => ?_) ?_ od_w
    · rw [up_ne (by omega), up_ne (by omega), up_ne (by omega), up_ne (by omega), up_ne (by omega)]
    · exact DB_up (DB_up (DB_up (DB_up (DB_up hD (i1 (by omega) (by omega))) (i1 h3 (by omega))) (i1 k3 (by omega))) (i1 r3 (by omega))) (i1 z3 (by omega))
  · refine s_X4_stops a0 (by omega) (by omega) (by omega) ⟨narI0, hn a _ _ (by omega) a1 (WK_err a1 ?_) (DB_up hD ⟨by omega, by omega⟩)⟩
    by_cases h : a < n
    · rw [if_pos h] at htt
      rw [ch_in h, ← htt]
      exact fx_st0 hs (by omega)
    · rw [ch_end (by omega)]
      exact fx_st0 hs (by omega)
theorem s_X4_isOrder {T D : Int → Int} {n a q isF : Int} {x : Int32} {s : Rd} {Q : Int32 → Int32 → Int32 → Int32 → (Nat → Int32) → Prop} (ht : TX T n) (a0 : 0 ≤ a) (a1 : a ≤ n) (hs : rO s = 0) (q0 : 0 ≤ q) (q5 : 5 * q ≤ a) (hD : DB D)
    (hy : ∀ b k p v m N D' y, 5 * q + 5 ≤ b → a < b → b ≤ n → KP k p → enR k p = 59 → 0 ≤ v → WK T n a s = WK T n b (k, 1, p, v, m, N) → NX T n b k p v → (∀ i : Int, i < 5 * q → D' i = D i) → DB D' → tO D' q = od (k, 0, p + 1, -1, 0, up N p (if m = 0 then v else -v)) → Q (iI 1) (iI b) (iI isF) y (aI D'))
    (hn : ∀ b D' y, a ≤ b → b ≤ n → WK T n a s = (b, []) → DB D' → Q (iI 0) (iI b) (iI (bi (decide (b < n)))) y (aI D')) :
    P_X4_isOrder (aI T) (iI n) (iI a) (iI isF) x (aI D) (iI q) Q := by
  have hn0 := ht.1
  unfold P_X4_isOrder
  simp (disch := omega) only [iI_add, iI_sub, iI_mul, iI_neg, iI_lt, iI_le, iI_eq, iI_cl, aI_at, aI_up, aI_l0, aI_l1, aI_l2, aI_l3, i_m9, i_m1, i_0, i_1, i_2, i_3, i_4, i_5, i_6, i_7, i_8, i_9, i_10, i_11, i_12, i_13, i_14, i_15, i_16, i_17, i_18, i_19, i_20, i_21, i_22, i_23, i_24, i_25, i_26, i_27, i_28, i_29, i_30, i_31, i_32, i_33, i_34, i_35, i_36, i_37, i_38, i_39, i_40, i_41, i_42, i_43, i_44, i_45, i_46, i_47, i_48, i_49, i_50, i_51, i_52, i_53, i_54, i_55, i_56, i_57, i_58, i_59, i_60, i_61, i_62, i_63, i_64, i_65, i_66, i_67, i_68, i_69, i_70, i_72, i_77, i_78, i_80, i_81, i_82, i_83, i_84, i_87, i_88, i_96, i_98, i_100, i_101, i_103, i_118, i_119, i_126, i_133, i_137, i_144, i_154, i_158, i_160, i_190, i_199, i_200, i_207, i_209, i_213, i_229, i_252, i_254, i_255, i_260, i_282, i_303, i_304, i_321, i_348, i_435, i_492, i_522, i_1000, i_1023, i_1600, i_2903, iI_neg]
  refine ⟨fun e => s_X4_isOrder_J ht a0 a1 hs q0 q5 hD (by rw [if_neg (by omega)]) hy hn, fun e => ⟨iI_in (by omega) (by omega) (by omega), s_X4_isOrder_J ht a0 a1 hs q0 q5 hD (by rw [if_pos (by omega)]) hy hn⟩⟩
