/-- the text: n characters -/
def TX (T : Int → Int) (n : Int) : Prop := (0 ≤ n ∧ n ≤ 60) ∧ ∀ i : Int, 0 ≤ i → i < n → 33 ≤ T i ∧ T i ≤ 126
def ch (T : Int → Int) (n i : Int) : Int := if i < n then T i else 59
theorem ch_in {T : Int → Int} {n i : Int} (h : i < n) : ch T n i = T i := if_pos h
theorem ch_end {T : Int → Int} {n i : Int} (h : n ≤ i) : ch T n i = 59 := if_neg (by omega)
theorem ch_rng {T : Int → Int} {n i : Int} (ht : TX T n) (i0 : 0 ≤ i) : 33 ≤ ch T n i ∧ ch T n i ≤ 126 := by
  unfold ch
  split
  · exact ht.2 i i0 (by omega)
  · omega
abbrev Od : Type := Int × Int × Int × Int × Int
/-- the order that the reader has read -/
def od (s : Rd) : Od := (rK s, rN s 0, rN s 1, rN s 2, if rK s = 119 then rN s 3 else 0)
/-- the walk over characters: where the first error is, and the orders before it -/
def wk (C : Int → Int) : Nat → Int → Rd → Int × List Od
  | 0, a, _ => (a, [])
  | m + 1, a, s => if (fd (C a) s).1 = 0 then (a, []) else if (fd (C a) s).1 = 2 then ((wk C m (a + 1) (fd (C a) s).2).1, od (fd (C a) s).2 :: (wk C m (a + 1) (fd (C a) s).2).2) else wk C m (a + 1) (fd (C a) s).2
def WK (T : Int → Int) (n a : Int) (s : Rd) : Int × List Od := wk (ch T n) (n + 1 - a).toNat a s
theorem WK_end (T : Int → Int) (n : Int) (s : Rd) : WK T n (n + 1) s = (n + 1, []) := by
  unfold WK
  rw [show (n + 1 - (n + 1)).toNat = 0 by omega]
  rfl
theorem WK_s {T : Int → Int} {n a : Int} {s : Rd} (h : a ≤ n) : WK T n a s = if (fd (ch T n a) s).1 = 0 then (a, []) else if (fd (ch T n a) s).1 = 2 then ((WK T n (a + 1) (fd (ch T n a) s).2).1, od (fd (ch T n a) s).2 :: (WK T n (a + 1) (fd (ch T n a) s).2).2) else WK T n (a + 1) (fd (ch T n a) s).2 := by
  have e : (n + 1 - a).toNat = (n + 1 - (a + 1)).toNat + 1 := by omega
  unfold WK
  rw [e]
  rfl
theorem WK_err {T : Int → Int} {n a : Int} {s : Rd} (h : a ≤ n) (e : (fd (ch T n a) s).1 = 0) : WK T n a s = (a, []) := by
  rw [WK_s h, if_pos e]
theorem WK_more {T : Int → Int} {n a : Int} {s s2 : Rd} (h : a ≤ n) (e : fd (ch T n a) s = (1, s2)) : WK T n a s = WK T n (a + 1) s2 := by
  rw [WK_s h, e, if_neg (by show ¬ (1 : Int) = 0; omega), if_neg (by show ¬ (1 : Int) = 2; omega)]
theorem WK_ord {T : Int → Int} {n a : Int} {s s2 : Rd} (h : a ≤ n) (e : fd (ch T n a) s = (2, s2)) : WK T n a s = ((WK T n (a + 1) s2).1, od s2 :: (WK T n (a + 1) s2).2) := by
  rw [WK_s h, e, if_neg (by show ¬ (2 : Int) = 0; omega), if_pos (by rfl)]
theorem WK_rng {T : Int → Int} {n : Int} : ∀ (m : Nat) (a : Int) (s : Rd), a + m = n + 1 → a ≤ (WK T n a s).1 ∧ (WK T n a s).1 ≤ n + 1 := by
  intro m
  induction m with
  | zero =>
    intro a s h
    rw [show a = n + 1 by omega, WK_end]
    exact ⟨Int.le_refl _, Int.le_refl _⟩
  | succ m ih =>
    intro a s h
    have := fun s2 => ih (a + 1) s2 (by omega)
    rw [WK_s (by omega)]
    split
    · exact ⟨Int.le_refl _, by show a ≤ n + 1; omega⟩
    · split
      · have := this (fd (ch T n a) s).2
        exact ⟨by show a ≤ (WK T n (a + 1) (fd (ch T n a) s).2).1; omega, this.2⟩
      · have := this (fd (ch T n a) s).2
        exact ⟨by omega, this.2⟩
/-- errors and steps of the reader in an order -/
theorem fx_n0 {c k p m : Int} {N : Int → Int} (h1 : c < 48 + leR k p ∨ 57 < c ∨ moR k p < c - 48) (h2 : ¬ (k = 98 ∧ p = 2 ∧ m = 0 ∧ c = 45)) : (fd c (k, 1, p, -1, m, N)).1 = 0 := by
  rw [fd_x]
  unfold fdX
  rw [if_neg (by decide)]
  have e : diR c (-1) = c - 48 := if_pos rfl
  have hl := leR_01 k p
  by_cases d : 48 ≤ c ∧ c ≤ 57
  · rw [if_pos d, e, if_neg (by omega)]
  · rw [if_neg d]
    by_cases d2 : c = 45
    · rw [if_pos d2, if_neg (by omega)]
    · rw [if_neg d2, if_neg (fun hx => hx.1 rfl)]
theorem fx_n1 {c k p m : Int} {N : Int → Int} (h1 : 48 + leR k p ≤ c) (h2 : c ≤ 57) (h3 : c - 48 ≤ moR k p) : fd c (k, 1, p, -1, m, N) = (1, (k, 1, p, c - 48, m, N)) := by
  rw [fd_x]
  unfold fdX
  have e : diR c (-1) = c - 48 := if_pos rfl
  have hl := leR_01 k p
  rw [if_neg (by decide), if_pos (by omega), e, if_pos ⟨by decide, by omega, h3⟩]
theorem fx_d0 {c k p v m : Int} {N : Int → Int} (hv : 0 ≤ v) (h1 : 48 ≤ c) (h2 : c ≤ 57) (h3 : v = 0 ∨ moR k p < 10 * v + (c - 48)) : (fd c (k, 1, p, v, m, N)).1 = 0 := by
  rw [fd_x]
  unfold fdX
  have e : diR c v = 10 * v + (c - 48) := if_neg (by omega)
  rw [if_neg (by decide), if_pos (by omega), e, if_neg (by omega)]
theorem fx_d1 {c k p v m : Int} {N : Int → Int} (hv : 0 < v) (h1 : 48 ≤ c) (h2 : c ≤ 57) (h3 : 10 * v + (c - 48) ≤ moR k p) : fd c (k, 1, p, v, m, N) = (1, (k, 1, p, 10 * v + (c - 48), m, N)) := by
  rw [fd_x]
  unfold fdX
  have e : diR c v = 10 * v + (c - 48) := if_neg (by omega)
  have hl := leR_01 k p
  rw [if_neg (by decide), if_pos (by omega), e, if_pos ⟨by omega, by omega, h3⟩]
theorem fx_s0 {c k p v m : Int} {N : Int → Int} (hv : 0 ≤ v) (h1 : ¬ (48 ≤ c ∧ c ≤ 57)) (h2 : c ≠ enR k p) : (fd c (k, 1, p, v, m, N)).1 = 0 := by
  rw [fd_x]
  unfold fdX
  rw [if_neg (by decide), if_neg h1]
  by_cases e : c = 45
  · rw [if_pos e, if_neg (by omega)]
  · rw [if_neg e, if_neg (fun hx => h2 hx.2)]
theorem fx_s1 {k p v m : Int} {N : Int → Int} (hv : 0 ≤ v) (h2 : enR k p ≠ 59) : fd (enR k p) (k, 1, p, v, m, N) = (1, (k, 1, p + 1, -1, 0, up N p (if m = 0 then v else -v))) := by
  rw [fd_x]
  unfold fdX
  have he := enR_3 k p
  rw [if_neg (by decide), if_neg (by omega), if_neg (by omega), if_pos ⟨by omega, rfl⟩, if_neg h2]
theorem fx_s2 {k p v m : Int} {N : Int → Int} (hv : 0 ≤ v) (h2 : enR k p = 59) : fd 59 (k, 1, p, v, m, N) = (2, (k, 0, p + 1, -1, 0, up N p (if m = 0 then v else -v))) := by
  rw [fd_x]
  unfold fdX
  rw [if_neg (by decide), if_neg (by omega), if_neg (by omega), if_pos ⟨by omega, h2.symm⟩, if_pos h2]
theorem fx_m1 {N : Int → Int} : fd 45 (98, 1, 2, -1, 0, N) = (1, (98, 1, 2, -1, 1, N)) := rfl
/-- a digit at b can't go on the number v -/
def NX (T : Int → Int) (n b k p v : Int) : Prop := b < n → 48 ≤ T b → T b ≤ 57 → v = 0 ∨ moR k p < 10 * v + (T b - 48)
def atB (T : Int → Int) (n a lo hi : Int) : Bool := decide (a < n) && inn (T a) lo hi
theorem atB_t {T : Int → Int} {n a lo hi : Int} : atB T n a lo hi = true ↔ a < n ∧ lo ≤ T a ∧ T a ≤ hi := by
  unfold atB
  rw [Bool.and_eq_true, decide_eq_true_iff, inn_iff]
theorem atB_f {T : Int → Int} {n a lo hi : Int} : atB T n a lo hi = false ↔ ¬ (a < n ∧ lo ≤ T a ∧ T a ≤ hi) := by
  rw [← Bool.not_eq_true, atB_t]
theorem s_X4_isAt {T : Int → Int} {n a lo hi : Int} {Q : Int32 → Prop} (ht : TX T n) (a0 : 0 ≤ a) (a1 : a ≤ n) (l0 : 0 ≤ lo ∧ lo ≤ 200) (h0 : 0 ≤ hi ∧ hi ≤ 200) (h : Q (iI (bi (atB T n a lo hi)))) : P_X4_isAt (iI lo) (iI hi) (aI T) (iI n) (iI a) Q := by
  obtain ⟨⟨n0, n1⟩, hT⟩ := ht
  unfold P_X4_isAt
  simp (disch := omega) only [iI_add, iI_sub, iI_mul, iI_neg, iI_lt, iI_le, iI_eq, iI_cl, aI_at, aI_up, aI_l0, aI_l1, aI_l2, aI_l3, i_m9, i_m1, i_0, i_1, i_2, i_3, i_4, i_5, i_6, i_7, i_8, i_9, i_10, i_11, i_12, i_13, i_14, i_15, i_16, i_17, i_18, i_19, i_20, i_21, i_22, i_23, i_24, i_25, i_26, i_27, i_28, i_29, i_30, i_31, i_32, i_33, i_34, i_35, i_36, i_37, i_38, i_39, i_40, i_41, i_42, i_43, i_44, i_45, i_46, i_47, i_48, i_49, i_50, i_51, i_52, i_53, i_54, i_55, i_56, i_57, i_58, i_59, i_60, i_61, i_62, i_63, i_64, i_65, i_66, i_67, i_68, i_69, i_70, i_72, i_77, i_78, i_80, i_81, i_82, i_83, i_84, i_87, i_88, i_96, i_98, i_100, i_101, i_103, i_118, i_119, i_126, i_133, i_137, i_144, i_154, i_158, i_160, i_190, i_199, i_200, i_207, i_209, i_213, i_229, i_252, i_254, i_255, i_260, i_282, i_303, i_304, i_321, i_348, i_435, i_492, i_522, i_1000, i_1023, i_1600, i_2903, iI_neg]
  refine ⟨fun e => ?_, fun e => ⟨iI_in (by omega) (by omega) (by omega), ?_⟩⟩
  · rwa [bi_f (atB_f.mpr (by omega))] at h
  · have := hT a a0 (by omega)
    refine s_X4_in (by omega) (by omega) (by omega) (by omega) (by omega) (by omega) (br_b (fun g => ?_) (fun g => ?_))
    · rw [inn_f] at g
      rwa [bi_f (atB_f.mpr (by omega))] at h
    · rw [inn_iff] at g
      rwa [bi_t (atB_t.mpr (by omega))] at h
theorem s_X4_stops {n a isF : Int} {Q : Int32 → Int32 → Prop} (a0 : 0 ≤ a) (a1 : a ≤ 60) (n0 : 0 ≤ n) (n1 : n ≤ 60) (h : Q (iI 0) (iI (bi (decide (a < n))))) : P_X4_stops (iI n) (iI a) (iI isF) Q := by
  unfold P_X4_stops P_X4_stops_J17
  simp (disch := omega) only [iI_le, i_m9, i_m1, i_0, i_1, i_2, i_3, i_4, i_5, i_6, i_7, i_8, i_9, i_10, i_11, i_12, i_13, i_14, i_15, i_16, i_17, i_18, i_19, i_20, i_21, i_22, i_23, i_24, i_25, i_26, i_27, i_28, i_29, i_30, i_31, i_32, i_33, i_34, i_35, i_36, i_37, i_38, i_39, i_40, i_41, i_42, i_43, i_44, i_45, i_46, i_47, i_48, i_49, i_50, i_51, i_52, i_53, i_54, i_55, i_56, i_57, i_58, i_59, i_60, i_61, i_62, i_63, i_64, i_65, i_66, i_67, i_68, i_69, i_70, i_72, i_77, i_78, i_80, i_81, i_82, i_83, i_84, i_87, i_88, i_96, i_98, i_100, i_101, i_103, i_118, i_119, i_126, i_133, i_137, i_144, i_154, i_158, i_160, i_190, i_199, i_200, i_207, i_209, i_213, i_229, i_252, i_254, i_255, i_260, i_282, i_303, i_304, i_321, i_348, i_435, i_492, i_522, i_1000, i_1023, i_1600, i_2903, iI_neg]
  refine ⟨fun e => ⟨⟨narI0, fitI0⟩, ?_⟩, fun e => ⟨⟨narI1, fitI1⟩, ?_⟩⟩
  · rwa [decide_eq_false (by omega)] at h
  · rwa [decide_eq_true (by omega)] at h
theorem s_X4_isNumber_L {T : Int → Int} {n k p m hi : Int} {N : Int → Int} {s0 : Rd} {a : Int} {K : Int32 → Int32 → Prop} (ht : TX T n) (a0 : 0 ≤ a) (hhi : hi = moR k p)
    (hK : ∀ b v, a < b → b ≤ n → 0 ≤ v → v ≤ hi → WK T n a s0 = WK T n b (k, 1, p, v, m, N) → NX T n b k p v → K (iI b) (iI v)) :
    ∀ (f : Nat) (b v : Int), b + f = n → a < b → 0 ≤ v → v ≤ hi → WK T n a s0 = WK T n b (k, 1, p, v, m, N) → P_X4_isNumber_L54 (iI hi) (aI T) (iI n) K (f + 1) (iI b) (iI v) := by
  have hmo := moR_rng k p
  have hT := ht.2
  have hn := ht.1
  intro f
  induction f with
  | zero =>
    intro b v hb ab v0 v1 hW
    rw [P_X4_isNumber_L54_s]
    unfold B_X4_isNumber_L54
    simp (disch := omega) only [iI_add, iI_sub, iI_mul, iI_neg, iI_lt, iI_le, iI_eq, iI_cl, aI_at, aI_up, aI_l0, aI_l1, aI_l2, aI_l3, i_m9, i_m1, i_0, i_1, i_2, i_3, i_4, i_5, i_6, i_7, i_8, i_9, i_10, i_11, i_12, i_13, i_14, i_15, i_16, i_17, i_18, i_19, i_20, i_21, i_22, i_23, i_24, i_25, i_26, i_27, i_28, i_29, i_30, i_31, i_32, i_33, i_34, i_35, i_36, i_37, i_38, i_39, i_40, i_41, i_42, i_43, i_44, i_45, i_46, i_47, i_48, i_49, i_50, i_51, i_52, i_53, i_54, i_55, i_56, i_57, i_58, i_59, i_60, i_61, i_62, i_63, i_64, i_65, i_66, i_67, i_68, i_69, i_70, i_72, i_77, i_78, i_80, i_81, i_82, i_83, i_84, i_87, i_88, i_96, i_98, i_100, i_101, i_103, i_118, i_119, i_126, i_133, i_137, i_144, i_154, i_158, i_160, i_190, i_199, i_200, i_207, i_209, i_213, i_229, i_252, i_254, i_255, i_260, i_282, i_303, i_304, i_321, i_348, i_435, i_492, i_522, i_1000, i_1023, i_1600, i_2903, iI_neg]
    refine ⟨fun e => hK b v ab (by omega) v0 v1 hW (fun _ _ _ => Or.inl (by omega)), fun e => s_X4_isAt ht (by omega) (by omega) (by omega) (by omega) (br_b (fun g => ?_) (fun g => ?_))⟩
    · exact hK b v ab (by omega) v0 v1 hW (fun hx => absurd hx (by omega))
    · rw [atB_t] at g; exact absurd g.1 (by omega)
  | succ f ih =>
    intro b v hb ab v0 v1 hW
    rw [P_X4_isNumber_L54_s]
    unfold B_X4_isNumber_L54
    have hTb := hT b (by omega) (by omega)
    simp (disch := omega) only [iI_add, iI_sub, iI_mul, iI_neg, iI_lt, iI_le, iI_eq, iI_cl, aI_at, aI_up, aI_l0, aI_l1, aI_l2, aI_l3, i_m9, i_m1, i_0, i_1, i_2, i_3, i_4, i_5, i_6, i_7, i_8, i_9, i_10, i_11, i_12, i_13, i_14, i_15, i_16, i_17, i_18, i_19, i_20, i_21, i_22, i_23, i_24, i_25, i_26, i_27, i_28, i_29, i_30, i_31, i_32, i_33, i_34, i_35, i_36, i_37, i_38, i_39, i_40, i_41, i_42, i_43, i_44, i_45, i_46, i_47, i_48, i_49, i_50, i_51, i_52, i_53, i_54, i_55, i_56, i_57, i_58, i_59, i_60, i_61, i_62, i_63, i_64, i_65, i_66, i_67, i_68, i_69, i_70, i_72, i_77, i_78, i_80, i_81, i_82, i_83, i_84, i_87, i_88, i_96, i_98, i_100, i_101, i_103, i_118, i_119, i_126, i_133, i_137, i_144, i_154, i_158, i_160, i_190, i_199, i_200, i_207, i_209, i_213, i_229, i_252, i_254, i_255, i_260, i_282, i_303, i_304, i_321, i_348, i_435, i_492, i_522, i_1000, i_1023, i_1600, i_2903, iI_neg]
    refine ⟨fun e => hK b v ab (by omega) v0 v1 hW (fun _ _ _ => Or.inl (by omega)), fun e => s_X4_isAt ht (by omega) (by omega) (by omega) (by omega) (br_b (fun g => ?_) (fun g => ?_))⟩
    · rw [atB_f] at g
      exact hK b v ab (by omega) v0 v1 hW (fun hx h1 h2 => absurd ⟨hx, h1, h2⟩ g)
    · rw [atB_t] at g
      refine ⟨iI_in (by omega) (by omega) (by omega), fun e2 => ?_, fun e2 => ⟨iI_in (by omega) (by omega) (by omega), ?_⟩⟩
      · exact hK b v ab (by omega) v0 v1 hW (fun hx h1 h2 => Or.inr (by omega))
      · refine ih (b + 1) (10 * v + T b - 48) (by omega) (by omega) (by omega) (by omega) ?_
        rw [hW, WK_more (by omega) (by rw [ch_in g.1]; exact fx_d1 (by omega) g.2.1 g.2.2 (by omega))]
        rw [show 10 * v + (T b - 48) = 10 * v + T b - 48 by omega]
theorem s_X4_isNumber {T D : Int → Int} {n a k p m q j lo hi isF : Int} {x : Int32} {N : Int → Int} {Q : Int32 → Int32 → Int32 → Int32 → (Nat → Int32) → Prop} (ht : TX T n) (a0 : 0 ≤ a) (a1 : a ≤ n) (hlo : lo = 48 + leR k p) (hhi : hi = moR k p) (q0 : 0 ≤ q) (q1 : q ≤ 12) (j0 : 0 ≤ j) (j1 : j ≤ 4)
    (hm : a < n → k = 98 → p = 2 → m = 0 → T a ≠ 45)
    (hy : ∀ b v, a < b → b ≤ n → 0 ≤ v → v ≤ hi → WK T n a (k, 1, p, -1, m, N) = WK T n b (k, 1, p, v, m, N) → NX T n b k p v → Q (iI 1) (iI b) (iI isF) (iI v) (aI (up D (5 * q + j) v)))
    (hn : ∀ x, WK T n a (k, 1, p, -1, m, N) = (a, []) → Q (iI 0) (iI a) (iI (bi (decide (a < n)))) x (aI D)) :
    P_X4_isNumber (iI j) (iI lo) (iI hi) (aI T) (iI n) (iI a) (iI isF) x (aI D) (iI q) Q := by
  have hmo := moR_rng k p
  have hl := leR_01 k p
  have hT := ht.2
  have hn0 := ht.1
  have hx : (c : Int) → c = ch T n a → ¬ (a < n ∧ lo ≤ c ∧ c ≤ 57 ∧ c - 48 ≤ hi) → WK T n a (k, 1, p, -1, m, N) = (a, []) := by
    intro c hc hg
    refine WK_err a1 (fx_n0 ?_ ?_)
    · rw [← hc]
      by_cases e : a < n
      · omega
      · rw [ch_end (by omega)] at hc; omega
    · rintro ⟨h1, h2, h3, h4⟩
      by_cases e : a < n
      · rw [ch_in e] at h4; exact hm e h1 h2 h3 h4
      · rw [ch_end (by omega)] at h4; omega
  unfold P_X4_isNumber
  simp only [i_m9, i_m1, i_0, i_1, i_2, i_3, i_4, i_5, i_6, i_7, i_8, i_9, i_10, i_11, i_12, i_13, i_14, i_15, i_16, i_17, i_18, i_19, i_20, i_21, i_22, i_23, i_24, i_25, i_26, i_27, i_28, i_29, i_30, i_31, i_32, i_33, i_34, i_35, i_36, i_37, i_38, i_39, i_40, i_41, i_42, i_43, i_44, i_45, i_46, i_47, i_48, i_49, i_50, i_51, i_52, i_53, i_54, i_55, i_56, i_57, i_58, i_59, i_60, i_61, i_62, i_63, i_64, i_65, i_66, i_67, i_68, i_69, i_70, i_72, i_77, i_78, i_80, i_81, i_82, i_83, i_84, i_87, i_88, i_96, i_98, i_100, i_101, i_103, i_118, i_119, i_126, i_133, i_137, i_144, i_154, i_158, i_160, i_190, i_199, i_200, i_207, i_209, i_213, i_229, i_252, i_254, i_255, i_260, i_282, i_303, i_304, i_321, i_348, i_435, i_492, i_522, i_1000, i_1023, i_1600, i_2903, iI_neg]
  refine s_X4_isAt ht a0 a1 (by omega) (by omega) (br_b' (fun g => ?_) (fun g => ?_))
  · rw [atB_f] at g
    refine s_X4_stops a0 (by omega) (by omega) (by omega) ⟨narI0, hn _ (hx _ rfl (fun h => ?_))⟩
    rw [ch_in h.1] at h
    exact g ⟨h.1, h.2.1, h.2.2.1⟩
  · rw [atB_t] at g
    have := hT a a0 g.1
    simp (disch := omega) only [iI_add, iI_sub, iI_mul, iI_neg, iI_lt, iI_le, iI_eq, iI_cl, aI_at, aI_up, aI_l0, aI_l1, aI_l2, aI_l3, i_m9, i_m1, i_0, i_1, i_2, i_3, i_4, i_5, i_6, i_7, i_8, i_9, i_10, i_11, i_12, i_13, i_14, i_15, i_16, i_17, i_18, i_19, i_20, i_21, i_22, i_23, i_24, i_25, i_26, i_27, i_28, i_29, i_30, i_31, i_32, i_33, i_34, i_35, i_36, i_37, i_38, i_39, i_40, i_41, i_42, i_43, i_44, i_45, i_46, i_47, i_48, i_49, i_50, i_51, i_52, i_53, i_54, i_55, i_56, i_57, i_58, i_59, i_60, i_61, i_62, i_63, i_64, i_65, i_66, i_67, i_68, i_69, i_70, i_72, i_77, i_78, i_80, i_81, i_82, i_83, i_84, i_87, i_88, i_96, i_98, i_100, i_101, i_103, i_118, i_119, i_126, i_133, i_137, i_144, i_154, i_158, i_160, i_190, i_199, i_200, i_207, i_209, i_213, i_229, i_252, i_254, i_255, i_260, i_282, i_303, i_304, i_321, i_348, i_435, i_492, i_522, i_1000, i_1023, i_1600, i_2903, iI_neg]
    refine ⟨iI_in (by omega) (by omega) (by omega), fun e => ⟨(n - (a + 1)).toNat + 1, ?_⟩, fun e => ?_⟩
    · refine s_X4_isNumber_L (s0 := (k, 1, p, -1, m, N)) (a := a) ht a0 hhi (N := N) (m := m) (fun b v h1 h2 h3 h4 h5 h6 => ⟨iI_in (by omega) (by omega) (by omega), ?_⟩) (n - (a + 1)).toNat (a + 1) (T a - 48) (by omega) (by omega) (by omega) e ?_
      · exact WK_more (by omega) (by rw [ch_in g.1]; exact fx_n1 (by omega) (by omega) (by omega))
      · have := hy b v h1 h2 h3 h4 h5 h6
        simp (disch := omega) only [iI_add, iI_sub, iI_mul, iI_neg, iI_lt, iI_le, iI_eq, iI_cl, aI_at, aI_up, aI_l0, aI_l1, aI_l2, aI_l3] at this ⊢
        exact this
    · refine s_X4_stops a0 (by omega) (by omega) (by omega) ⟨narI0, hn _ (hx _ rfl (fun h => ?_))⟩
      rw [ch_in h.1] at h
      exact e h.2.2.2
theorem s_X4_isSign {T : Int → Int} {n a k p p2 v c isF : Int} {N : Int → Int} {Q : Int32 → Int32 → Int32 → Prop} (ht : TX T n) (a0 : 0 ≤ a) (a1 : a ≤ n) (hc : c = enR k p) (hc2 : c ≠ 59) (hp : p2 = p + 1) (v0 : 0 ≤ v) (hx : NX T n a k p v)
    (hy : a < n → WK T n a (k, 1, p, v, 0, N) = WK T n (a + 1) (k, 1, p2, -1, 0, up N p v) → Q (iI 1) (iI (a + 1)) (iI isF))
    (hn : WK T n a (k, 1, p, v, 0, N) = (a, []) → Q (iI 0) (iI a) (iI (bi (decide (a < n))))) : P_X4_isSign (iI c) (aI T) (iI n) (iI a) (iI isF) Q := by
  have hn0 := ht.1
  have he := enR_3 k p
  unfold P_X4_isSign
  simp only [iI_add, i_m9, i_m1, i_0, i_1, i_2, i_3, i_4, i_5, i_6, i_7, i_8, i_9, i_10, i_11, i_12, i_13, i_14, i_15, i_16, i_17, i_18, i_19, i_20, i_21, i_22, i_23, i_24, i_25, i_26, i_27, i_28, i_29, i_30, i_31, i_32, i_33, i_34, i_35, i_36, i_37, i_38, i_39, i_40, i_41, i_42, i_43, i_44, i_45, i_46, i_47, i_48, i_49, i_50, i_51, i_52, i_53, i_54, i_55, i_56, i_57, i_58, i_59, i_60, i_61, i_62, i_63, i_64, i_65, i_66, i_67, i_68, i_69, i_70, i_72, i_77, i_78, i_80, i_81, i_82, i_83, i_84, i_87, i_88, i_96, i_98, i_100, i_101, i_103, i_118, i_119, i_126, i_133, i_137, i_144, i_154, i_158, i_160, i_190, i_199, i_200, i_207, i_209, i_213, i_229, i_252, i_254, i_255, i_260, i_282, i_303, i_304, i_321, i_348, i_435, i_492, i_522, i_1000, i_1023, i_1600, i_2903, iI_neg]
  refine s_X4_isAt ht a0 a1 (by omega) (by omega) (br_b' (fun g => ?_) (fun g => ?_))
  · rw [atB_f] at g
    refine s_X4_stops a0 (by omega) (by omega) (by omega) ⟨narI0, hn (WK_err a1 ?_)⟩
    by_cases e : a < n
    · rw [ch_in e]
      by_cases d : 48 ≤ T a ∧ T a ≤ 57
      · exact fx_d0 v0 d.1 d.2 (hx e d.1 d.2)
      · exact fx_s0 v0 d (by omega)
    · rw [ch_end (by omega)]
      exact fx_s0 v0 (by omega) (by omega)
  · rw [atB_t] at g
    subst hp
    refine hy g.1 (WK_more a1 ?_)
    rw [ch_in g.1, show T a = enR k p by omega]
    exact fx_s1 v0 (by omega)
