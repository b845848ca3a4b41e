/-! good states stay good -/
theorem OKw_cong {f g : Int → Int} {w : Int} (h : ∀ i : Int, 0 ≤ i → i < 6 → f (4 + 6 * w + i) = g (4 + 6 * w + i)) (hw : OKw g w) : OKw f w := by
  unfold OKw at hw ⊢
  rw [h 0 (by omega) (by omega), h 1 (by omega) (by omega), h 2 (by omega) (by omega), h 3 (by omega) (by omega), h 4 (by omega) (by omega), h 5 (by omega) (by omega)]
  exact hw
theorem OKb_cong {f g : Int → Int} {b : Int} (h : ∀ i : Int, 0 ≤ i → i < 5 → f (52 + 5 * b + i) = g (52 + 5 * b + i)) (hb : OKb g b) : OKb f b := by
  unfold OKb at hb ⊢
  rw [h 0 (by omega) (by omega), h 1 (by omega) (by omega), h 2 (by omega) (by omega), h 3 (by omega) (by omega), h 4 (by omega) (by omega)]
  exact hb
/-- two states that say the same -/
def Eqv (f g : Int → Int) : Prop := (f 0 = g 0 ∧ f 1 = g 1 ∧ f 2 = g 2 ∧ f 3 = g 3) ∧ (∀ w : Int, 0 ≤ w → w < g 2 → ∀ i : Int, 0 ≤ i → i < 6 → f (4 + 6 * w + i) = g (4 + 6 * w + i)) ∧ (∀ b : Int, 0 ≤ b → b < g 3 → ∀ i : Int, 0 ≤ i → i < 5 → f (52 + 5 * b + i) = g (52 + 5 * b + i))
theorem OK_cong {mb : Int} {f g : Int → Int} (h : Eqv f g) (hg : OK mb g) : OK mb f := by
  obtain ⟨⟨e0, e1, e2, e3⟩, h1, h2⟩ := h
  obtain ⟨a0, a1, a2, a3, a4, a5⟩ := hg
  unfold OK
  rw [e0, e1, e2, e3]
  exact ⟨a0, a1, a2, a3, fun w w0 w1 => OKw_cong (h1 w w0 w1) (a4 w w0 w1), fun b b0 b1 => OKb_cong (h2 b b0 b1) (a5 b b0 b1)⟩
theorem OK_mono {mb mc : Int} {f : Int → Int} (h : mb ≤ mc) (hf : OK mb f) : OK mc f := ⟨hf.1, hf.2.1, hf.2.2.1, ⟨hf.2.2.2.1.1, by have := hf.2.2.2.1.2; omega⟩, hf.2.2.2.2.1, hf.2.2.2.2.2⟩
theorem tW_0 {f : Int → Int} {l r c q : Int} (h : tW f l r c q = 0) : (1 ≤ l ∧ l ≤ 12 ∧ 0 ≤ r ∧ r ≤ 7 ∧ 0 ≤ c ∧ c ≤ 59 ∧ 0 ≤ q ∧ q ≤ 199 ∧ c + l ≤ 60) ∧ f 2 ≠ 8 := by
  unfold tW at h
  split at h
  · rename_i h1
    refine ⟨h1, fun e => ?_⟩
    rw [if_pos e] at h
    omega
  · omega
theorem tB_0 {f : Int → Int} {t c s w r : Int} (h : tB f t c s w r = 0) : (0 ≤ t ∧ t ≤ 199 ∧ 0 ≤ c ∧ c ≤ 59 ∧ -9 ≤ s ∧ s ≤ 9 ∧ 1 ≤ w ∧ w ≤ 9 ∧ 1 ≤ r ∧ r ≤ 255) ∧ f 3 ≠ 6 := by
  unfold tB at h
  split at h
  · rename_i h1
    refine ⟨h1, fun e => ?_⟩
    rw [if_pos e] at h
    omega
  · omega
/-- what a new word's and a new beam's state says -/
theorem wdF_at {f : Int → Int} {l r c q : Int} (n0 : 0 ≤ f 2) (n1 : f 2 < 8) : (∀ j : Int, j ≠ 2 → (j < 4 + 6 * f 2 ∨ 4 + 6 * f 2 + 6 ≤ j) → wdF f l r c q j = f j) ∧ wdF f l r c q 2 = f 2 + 1 ∧ wdF f l r c q (4 + 6 * f 2 + 0) = l ∧ wdF f l r c q (4 + 6 * f 2 + 1) = r ∧ wdF f l r c q (4 + 6 * f 2 + 2) = c ∧ wdF f l r c q (4 + 6 * f 2 + 3) = q ∧ wdF f l r c q (4 + 6 * f 2 + 4) = 0 ∧ wdF f l r c q (4 + 6 * f 2 + 5) = 4 := by
  unfold wdF
  refine ⟨fun j h1 h2 => ?_, ?_, ?_, ?_, ?_, ?_, ?_, ?_⟩
  · simp (disch := omega) only [up_ne]
  · simp (disch := omega) only [up_eq]
  · rw [show 4 + 6 * f 2 + 0 = 4 + 6 * f 2 by omega]; simp (disch := omega) only [up_ne, up_eq]
  · simp (disch := omega) only [up_ne, up_eq]
  · simp (disch := omega) only [up_ne, up_eq]
  · simp (disch := omega) only [up_ne, up_eq]
  · simp (disch := omega) only [up_ne, up_eq]
  · simp (disch := omega) only [up_ne, up_eq]
theorem bmF_at {f : Int → Int} {t c s w r : Int} (n0 : 0 ≤ f 3) (n1 : f 3 < 7) : (∀ j : Int, j ≠ 3 → (j < 52 + 5 * f 3 ∨ 52 + 5 * f 3 + 5 ≤ j) → bmF f t c s w r j = f j) ∧ bmF f t c s w r 3 = f 3 + 1 ∧ bmF f t c s w r (52 + 5 * f 3 + 0) = t ∧ bmF f t c s w r (52 + 5 * f 3 + 1) = c ∧ bmF f t c s w r (52 + 5 * f 3 + 2) = s ∧ bmF f t c s w r (52 + 5 * f 3 + 3) = w ∧ bmF f t c s w r (52 + 5 * f 3 + 4) = r := by
  unfold bmF
  refine ⟨fun j h1 h2 => ?_, ?_, ?_, ?_, ?_, ?_, ?_⟩
  · simp (disch := omega) only [up_ne]
  · simp (disch := omega) only [up_eq]
  · rw [show 52 + 5 * f 3 + 0 = 52 + 5 * f 3 by omega]; simp (disch := omega) only [up_ne, up_eq]
  · simp (disch := omega) only [up_ne, up_eq]
  · simp (disch := omega) only [up_ne, up_eq]
  · simp (disch := omega) only [up_ne, up_eq]
  · simp (disch := omega) only [up_ne, up_eq]
theorem wdF_OK {f : Int → Int} {l r c q : Int} (hf : OK 6 f) (h : tW f l r c q = 0) : OK 6 (wdF f l r c q) := by
  obtain ⟨a0, a1, a2, a3, a4, a5⟩ := hf
  obtain ⟨⟨l0, l1, r0, r1, c0, c1, q0, q1, e1⟩, h8⟩ := tW_0 h
  obtain ⟨k0, k1, k2, k3, k4, k5, k6, k7⟩ := wdF_at (f := f) (l := l) (r := r) (c := c) (q := q) a2.1 (by omega)
  refine ⟨?_, ?_, ?_, ?_, fun w w0 w1 => ?_, fun b b0 b1 => ?_⟩
  · rw [k0 0 (by omega) (by omega)]; exact a0
  · rw [k0 1 (by omega) (by omega)]; exact a1
  · rw [k1]; omega
  · rw [k0 3 (by omega) (by omega)]; exact a3
  · rw [k1] at w1
    by_cases e : w = f 2
    · unfold OKw
      rw [e, k2, k3, k4, k5, k6, k7]
      omega
    · exact OKw_cong (fun i i0 i1 => k0 _ (by omega) (by omega)) (a4 w w0 (by omega))
  · rw [k0 3 (by omega) (by omega)] at b1
    exact OKb_cong (fun i i0 i1 => k0 _ (by omega) (by omega)) (a5 b b0 b1)
theorem bmF_OK {f : Int → Int} {t c s w r mb : Int} (hf : OK mb f) (hmb : mb ≤ 6) (h : 0 ≤ t ∧ t ≤ 199 ∧ 0 ≤ c ∧ c ≤ 59 ∧ -9 ≤ s ∧ s ≤ 9 ∧ 1 ≤ w ∧ w ≤ 9 ∧ 1 ≤ r ∧ r ≤ 255) : OK (f 3 + 1) (bmF f t c s w r) := by
  obtain ⟨a0, a1, a2, a3, a4, a5⟩ := hf
  obtain ⟨k0, k1, k2, k3, k4, k5, k6⟩ := bmF_at (f := f) (t := t) (c := c) (s := s) (w := w) (r := r) a3.1 (by omega)
  refine ⟨?_, ?_, ?_, ?_, fun v v0 v1 => ?_, fun b b0 b1 => ?_⟩
  · rw [k0 0 (by omega) (by omega)]; exact a0
  · rw [k0 1 (by omega) (by omega)]; exact a1
  · rw [k0 2 (by omega) (by omega)]; exact a2
  · rw [k1]; omega
  · rw [k0 2 (by omega) (by omega)] at v1
    exact OKw_cong (fun i i0 i1 => k0 _ (by omega) (by omega)) (a4 v v0 v1)
  · rw [k1] at b1
    by_cases e : b = f 3
    · unfold OKb
      rw [e, k2, k3, k4, k5, k6]
      omega
    · exact OKb_cong (fun i i0 i1 => k0 _ (by omega) (by omega)) (a5 b b0 (by omega))
theorem ulF_OK {f : Int → Int} {b mb : Int} (hf : OK mb f) (hmb : mb ≤ 7) (b0 : 0 ≤ b) (b1 : b < f 3) : OK mb (ulF f b) := by
  obtain ⟨a0, a1, a2, a3, a4, a5⟩ := hf
  have k3 : ulF f b 3 = f 3 - 1 := by unfold ulF; rw [if_pos rfl]
  have kl : ∀ j : Int, j ≠ 3 → (j < 52 + 5 * b) → ulF f b j = f j := fun j h1 h2 => by unfold ulF; rw [if_neg h1, if_neg (by omega)]
  refine ⟨?_, ?_, ?_, ?_, fun v v0 v1 => ?_, fun c c0 c1 => ?_⟩
  · rw [kl 0 (by omega) (by omega)]; exact a0
  · rw [kl 1 (by omega) (by omega)]; exact a1
  · rw [kl 2 (by omega) (by omega)]; exact a2
  · rw [k3]; omega
  · rw [kl 2 (by omega) (by omega)] at v1
    exact OKw_cong (fun i i0 i1 => kl _ (by omega) (by omega)) (a4 v v0 v1)
  · rw [k3] at c1
    by_cases e : c < b
    · exact OKb_cong (fun i i0 i1 => kl _ (by omega) (by omega)) (a5 c c0 (by omega))
    · have := a5 (c + 1) (by omega) (by omega)
      unfold OKb at this ⊢
      have e2 : ∀ i : Int, 0 ≤ i → i < 5 → ulF f b (52 + 5 * c + i) = f (52 + 5 * (c + 1) + i) := fun i i0 i1 => by
        unfold ulF
        rw [if_neg (by omega), if_pos (by omega)]
        exact congrArg f (by omega)
      rw [e2 0 (by omega) (by omega), e2 1 (by omega) (by omega), e2 2 (by omega) (by omega), e2 3 (by omega) (by omega), e2 4 (by omega) (by omega)]
      exact this
/-- a word taken out -/
def rwF (f : Int → Int) (w : Int) : Int → Int := fun j => if j = 2 then f 2 - 1 else if 4 + 6 * w ≤ j ∧ j < 4 + 6 * (f 2 - 1) then f (j + 6) else f j
theorem rwF_OK {f : Int → Int} {w mb : Int} (hf : OK mb f) (w0 : 0 ≤ w) (w1 : w < f 2) : OK mb (rwF f w) := by
  obtain ⟨a0, a1, a2, a3, a4, a5⟩ := hf
  have k3 : rwF f w 2 = f 2 - 1 := by unfold rwF; rw [if_pos rfl]
  have kl : ∀ j : Int, j ≠ 2 → (j < 4 + 6 * w ∨ 52 ≤ j) → rwF f w j = f j := fun j h1 h2 => by unfold rwF; rw [if_neg h1, if_neg (by omega)]
  refine ⟨?_, ?_, ?_, ?_, fun v v0 v1 => ?_, fun c c0 c1 => ?_⟩
  · rw [kl 0 (by omega) (by omega)]; exact a0
  · rw [kl 1 (by omega) (by omega)]; exact a1
  · rw [k3]; omega
  · rw [kl 3 (by omega) (by omega)]; exact a3
  · rw [k3] at v1
    by_cases e : v < w
    · exact OKw_cong (fun i i0 i1 => kl _ (by omega) (by omega)) (a4 v v0 (by omega))
    · have := a4 (v + 1) (by omega) (by omega)
      unfold OKw at this ⊢
      have e2 : ∀ i : Int, 0 ≤ i → i < 6 → rwF f w (4 + 6 * v + i) = f (4 + 6 * (v + 1) + i) := fun i i0 i1 => by
        unfold rwF
        rw [if_neg (by omega), if_pos (by omega)]
        exact congrArg f (by omega)
      rw [e2 0 (by omega) (by omega), e2 1 (by omega) (by omega), e2 2 (by omega) (by omega), e2 3 (by omega) (by omega), e2 4 (by omega) (by omega), e2 5 (by omega) (by omega)]
      exact this
  · rw [kl 3 (by omega) (by omega)] at c1
    exact OKb_cong (fun i i0 i1 => kl _ (by omega) (by omega)) (a5 c c0 c1)
/-- one number of a word, of a beam, of the settings changed -/
theorem upw_OK {f : Int → Int} {w i v mb : Int} (hf : OK mb f) (w0 : 0 ≤ w) (w1 : w < f 2) (i0 : 0 ≤ i) (i1 : i < 6) (h : OKw (up f (4 + 6 * w + i) v) w) : OK mb (up f (4 + 6 * w + i) v) := by
  obtain ⟨a0, a1, a2, a3, a4, a5⟩ := hf
  refine ⟨?_, ?_, ?_, ?_, fun u u0 u1 => ?_, fun c c0 c1 => ?_⟩
  · rw [up_ne (by omega)]; exact a0
  · rw [up_ne (by omega)]; exact a1
  · rw [up_ne (by omega)]; exact a2
  · rw [up_ne (by omega)]; exact a3
  · rw [up_ne (by omega)] at u1
    by_cases e : u = w
    · rw [e]; exact h
    · exact OKw_cong (fun j j0 j1 => up_ne (by omega)) (a4 u u0 u1)
  · rw [up_ne (by omega)] at c1
    exact OKb_cong (fun j j0 j1 => up_ne (by omega)) (a5 c c0 c1)
theorem upb_OK {f : Int → Int} {b v mb : Int} (hf : OK mb f) (b0 : 0 ≤ b) (b1 : b < f 3) (hv : -9 ≤ v ∧ v ≤ 9) : OK mb (up f (52 + 5 * b + 2) v) := by
  obtain ⟨a0, a1, a2, a3, a4, a5⟩ := hf
  refine ⟨?_, ?_, ?_, ?_, fun u u0 u1 => ?_, fun c c0 c1 => ?_⟩
  · rw [up_ne (by omega)]; exact a0
  · rw [up_ne (by omega)]; exact a1
  · rw [up_ne (by omega)]; exact a2
  · rw [up_ne (by omega)]; exact a3
  · rw [up_ne (by omega)] at u1
    exact OKw_cong (fun j j0 j1 => up_ne (by omega)) (a4 u u0 u1)
  · rw [up_ne (by omega)] at c1
    by_cases e : c = b
    · have := a5 b b0 b1
      unfold OKb at this ⊢
      rw [e, up_eq, up_ne (by omega), up_ne (by omega), up_ne (by omega), up_ne (by omega)]
      exact ⟨this.1, this.2.1, hv, this.2.2.2⟩
    · exact OKb_cong (fun j j0 j1 => up_ne (by omega)) (a5 c c0 c1)
theorem up0_OK {f : Int → Int} {v mb : Int} (hf : OK mb f) (hv : 1 ≤ v ∧ v ≤ 16) : OK mb (up f 0 v) := by
  obtain ⟨a0, a1, a2, a3, a4, a5⟩ := hf
  refine ⟨by rw [up_eq]; exact hv, by rw [up_ne (by omega)]; exact a1, by rw [up_ne (by omega)]; exact a2, by rw [up_ne (by omega)]; exact a3, fun u u0 u1 => ?_, fun c c0 c1 => ?_⟩
  · rw [up_ne (by omega)] at u1; exact OKw_cong (fun j j0 j1 => up_ne (by omega)) (a4 u u0 u1)
  · rw [up_ne (by omega)] at c1; exact OKb_cong (fun j j0 j1 => up_ne (by omega)) (a5 c c0 c1)
theorem up1_OK {f : Int → Int} {v mb : Int} (hf : OK mb f) (hv : 0 ≤ v ∧ v ≤ 20) : OK mb (up f 1 v) := by
  obtain ⟨a0, a1, a2, a3, a4, a5⟩ := hf
  refine ⟨by rw [up_ne (by omega)]; exact a0, by rw [up_eq]; exact hv, by rw [up_ne (by omega)]; exact a2, by rw [up_ne (by omega)]; exact a3, fun u u0 u1 => ?_, fun c c0 c1 => ?_⟩
  · rw [up_ne (by omega)] at u1; exact OKw_cong (fun j j0 j1 => up_ne (by omega)) (a4 u u0 u1)
  · rw [up_ne (by omega)] at c1; exact OKb_cong (fun j j0 j1 => up_ne (by omega)) (a5 c c0 c1)
