/-! sums, more light, the saved states -/
theorem sm_le {g h : Int → Int} : ∀ {n : Nat}, (∀ k : Int, 0 ≤ k → k < n → g k ≤ h k) → sm g n ≤ sm h n
  | 0, _ => Int.le_refl _
  | n + 1, hh => by
    have ih := sm_le (g := g) (h := h) (n := n) (fun k k0 k1 => hh k k0 (by omega))
    have := hh n (by omega) (by omega)
    rw [sm_s, sm_s]; omega
theorem sm_nn {g : Int → Int} : ∀ {n : Nat}, (∀ k : Int, 0 ≤ k → k < n → 0 ≤ g k) → 0 ≤ sm g n
  | 0, _ => Int.le_refl _
  | n + 1, hh => by
    have ih := sm_nn (g := g) (n := n) (fun k k0 k1 => hh k k0 (by omega))
    have := hh n (by omega) (by omega)
    rw [sm_s]; omega
theorem sm_ex {g : Int → Int} : ∀ {n : Nat}, (∀ k : Int, 0 ≤ k → k < n → 0 ≤ g k) → (0 < sm g n ↔ ∃ k : Int, 0 ≤ k ∧ k < n ∧ 0 < g k)
  | 0, _ => ⟨fun h => absurd h (by unfold sm; omega), fun ⟨k, h0, h1, _⟩ => absurd h0 (by omega)⟩
  | n + 1, hh => by
    have ih := sm_ex (g := g) (n := n) (fun k k0 k1 => hh k k0 (by omega))
    have hn := sm_nn (g := g) (n := n) (fun k k0 k1 => hh k k0 (by omega))
    have h1 := hh n (by omega) (by omega)
    rw [sm_s]
    constructor
    · intro h
      by_cases e : 0 < g n
      · exact ⟨n, by omega, by omega, e⟩
      · obtain ⟨k, k0, k1, k2⟩ := ih.mp (by omega)
        exact ⟨k, k0, by omega, k2⟩
    · rintro ⟨k, k0, k1, k2⟩
      by_cases e : k = n
      · rw [e] at k2; omega
      · have := ih.mpr ⟨k, k0, by omega, k2⟩
        omega
theorem bi_pos {b : Bool} : 0 < bi b ↔ b = true := by cases b <;> decide
theorem bi_nn (b : Bool) : 0 ≤ bi b := (bi_rng b).1
/-- more light, more letters -/
theorem al_mono {mb mc : Int} {f g : Int → Int} (hf : OK mb f) (hg : OK mc g) (e2 : g 2 = f 2) (e1 : g 1 = f 1) (hw : ∀ w : Int, 0 ≤ w → w < f 2 → ∀ i : Int, 0 ≤ i → i < 6 → g (4 + 6 * w + i) = f (4 + 6 * w + i)) (hc : ∀ w : Int, 0 ≤ w → w < f 2 → ∀ k t : Int, can g w k t = true → can f w k t = true) : alS g ≤ alS f := by
  have n2 := hf.2.2.1
  unfold alS
  rw [e2]
  refine sm_le (fun w w0 w1 => ?_)
  have w2 : w < f 2 := by omega
  unfold loS
  rw [hw w w0 w2 0 (by omega) (by omega)]
  refine sm_le (fun k k0 k1 => ?_)
  have h := lit_mono (k := k) hf hg w0 w2 (by omega) e1 (hw w w0 w2) (hc w w0 w2)
  show bi (decide (litS g w k ≠ -1)) ≤ bi (decide (litS f w k ≠ -1))
  by_cases e : litS g w k ≠ -1
  · rw [decide_eq_true e, decide_eq_true (h e)]; exact Int.le_refl _
  · rw [decide_eq_false e, bi_false]; exact bi_nn _
theorem bm_can {f : Int → Int} {t c s w r v k u : Int} (n2 : f 2 ≤ 8) (n3 : 0 ≤ f 3 ∧ f 3 < 6) (v0 : 0 ≤ v) (v1 : v < f 2) (h : can f v k u = true) : can (bmF f t c s w r) v k u = true := by
  obtain ⟨k0, k1, -⟩ := bmF_at (f := f) (t := t) (c := c) (s := s) (w := w) (r := r) n3.1 (by omega)
  unfold can canN at h ⊢
  rw [k0 (4 + 6 * v + 3) (by omega) (by omega), k0 (4 + 6 * v + 1) (by omega) (by omega), k0 (4 + 6 * v + 2) (by omega) (by omega), k1, show (f 3 + 1).toNat = (f 3).toNat + 1 by omega]
  rw [Bool.and_eq_true] at h ⊢
  refine ⟨h.1, ?_⟩
  show (lts (bmF f t c s w r) (f (4 + 6 * v + 1)) u (f (4 + 6 * v + 2) + k) (f 3).toNat || _) = true
  rw [lts_cong (f := bmF f t c s w r) (g := f) (fun b b0 b1 i i0 i1 => k0 _ (by omega) (by omega)), h.2]
  rfl
theorem bm_al {f : Int → Int} {t c s w r : Int} (hf : OK 6 f) (h0 : tB f t c s w r = 0) : alS f ≤ alS (bmF f t c s w r) := by
  have n2 := hf.2.2.1
  have n3 := hf.2.2.2.1
  have hb := tB_0 h0
  obtain ⟨k0, k1, -⟩ := bmF_at (f := f) (t := t) (c := c) (s := s) (w := w) (r := r) n3.1 (by omega)
  have e2 : bmF f t c s w r 2 = f 2 := k0 2 (by omega) (by omega)
  have e1 : bmF f t c s w r 1 = f 1 := k0 1 (by omega) (by omega)
  have hO := bmF_OK hf (by omega) hb.1
  refine al_mono hO hf e2.symm e1.symm (fun v v0 v1 i i0 i1 => ?_) (fun v v0 v1 k u hu => ?_)
  · rw [e2] at v1
    exact (k0 _ (by omega) (by omega)).symm
  · rw [e2] at v1
    exact bm_can n2.2 ⟨n3.1, by omega⟩ v0 v1 hu
theorem ul_al {f : Int → Int} {b : Int} (hf : OK 6 f) (b0 : 0 ≤ b) (b1 : b < f 3) : 0 ≤ alS (ulF f b) ∧ alS (ulF f b) ≤ alS f := by
  have n2 := hf.2.2.1
  have hO := ulF_OK hf (by omega) b0 b1
  exact ⟨(alS_rng hO).1, al_mono hf hO (ul_low b0 (by omega) (by omega)) (ul_low b0 (by omega) (by omega)) (fun w w0 w1 i i0 i1 => ul_word n2.2 b0 w0 w1 i0 i1) (fun w w0 w1 k t h => ul_can n2.2 b0 b1 w0 w1 h)⟩
/-- what one act does to beams and light -/
def RE (a b : Int → Int) : Prop := a 2 = b 2 → (a 3 < b 3 → alS a ≤ alS b) ∧ (b 3 < a 3 → alS b ≤ alS a)
theorem RE_s {a b : Int → Int} (h : RE a b) : RE b a := fun e => ⟨(h e.symm).2, (h e.symm).1⟩
theorem RE_3 {a b : Int → Int} (h : a 3 = b 3) : RE a b := fun _ => ⟨fun h1 => by omega, fun h1 => by omega⟩
theorem RE_2 {a b : Int → Int} (h : a 2 ≠ b 2) : RE a b := fun e => absurd e h
theorem RE_bm {f : Int → Int} {t c s w r : Int} (hf : OK 6 f) (h0 : tB f t c s w r = 0) : RE f (bmF f t c s w r) := by
  have n3 := hf.2.2.2.1
  have hb := tB_0 h0
  obtain ⟨-, k1, -⟩ := bmF_at (f := f) (t := t) (c := c) (s := s) (w := w) (r := r) n3.1 (by omega)
  exact fun _ => ⟨fun _ => bm_al hf h0, fun h => by omega⟩
theorem ul_3 {f : Int → Int} {b : Int} : ulF f b 3 = f 3 - 1 := rfl
theorem rw_2 {f : Int → Int} {b : Int} : rwF f b 2 = f 2 - 1 := rfl
theorem RE_ul {f : Int → Int} {b : Int} (hf : OK 6 f) (b0 : 0 ≤ b) (b1 : b < f 3) : RE f (ulF f b) := by
  have e := ul_3 (f := f) (b := b)
  exact fun _ => ⟨fun h => by omega, fun _ => (ul_al hf b0 b1).2⟩
/-- a saved state -/
def stP (P : Int → Int) (i : Int) : Int → Int := fun j => if 0 ≤ j ∧ j < 87 then P (87 * i + j) else 0
def HI (f P : Int → Int) (k : Int) : Prop := (0 < k → RE (stP P (k - 1)) f) ∧ ∀ i : Int, 0 ≤ i → i + 1 < k → RE (stP P i) (stP P (i + 1))
theorem st_sv6 {f P : Int → Int} {k i : Int} (hz : Z f) (k0 : 0 ≤ k) (k1 : k < 6) (i0 : 0 ≤ i) (i1 : i ≤ k) : stP (svP f P k) i = if i = k then f else stP P i := by
  funext j
  unfold svP
  rw [if_neg (by omega)]
  by_cases e : i = k
  · rw [if_pos e, e]
    unfold stP cpF
    by_cases hj : 0 ≤ j ∧ j < 87
    · rw [if_pos hj, if_pos (by omega), show 0 + (87 * k + j - 87 * k) = j by omega]
    · rw [if_neg hj]; exact (hz j (by omega)).symm
  · rw [if_neg e]
    unfold stP cpF
    by_cases hj : 0 ≤ j ∧ j < 87
    · rw [if_pos hj, if_pos hj, if_neg (by omega)]
    · rw [if_neg hj, if_neg hj]
theorem st_sv7 {f P : Int → Int} {i : Int} (hz : Z f) (i0 : 0 ≤ i) (i1 : i ≤ 5) : stP (svP f P 6) i = if i = 5 then f else stP P (i + 1) := by
  funext j
  unfold svP
  rw [if_pos rfl]
  by_cases e : i = 5
  · rw [if_pos e, e]
    unfold stP cpF
    by_cases hj : 0 ≤ j ∧ j < 87
    · rw [if_pos hj, if_pos (by omega), show 0 + (87 * 5 + j - 435) = j by omega]
    · rw [if_neg hj]; exact (hz j (by omega)).symm
  · rw [if_neg e]
    unfold stP cpF shF
    by_cases hj : 0 ≤ j ∧ j < 87
    · rw [if_pos hj, if_pos hj, if_neg (by omega), if_pos (by omega), show 87 * i + j + 87 = 87 * (i + 1) + j by omega]
    · rw [if_neg hj, if_neg hj]
theorem svK_6 : svK 6 = 6 := rfl
theorem svK_n {k : Int} (h : k ≠ 6) : svK k = k + 1 := by unfold svK; rw [if_neg h]
theorem svK_rng {k : Int} (h : 0 ≤ k ∧ k ≤ 6) : 1 ≤ svK k ∧ svK k ≤ 6 := by unfold svK; split <;> omega
theorem HI_sv {f g P : Int → Int} {k : Int} (hz : Z f) (hk : 0 ≤ k ∧ k ≤ 6) (h : HI f P k) (hr : RE f g) : HI g (svP f P k) (svK k) := by
  by_cases e : k = 6
  · subst e
    rw [svK_6]
    refine ⟨fun _ => ?_, fun i i0 i1 => ?_⟩
    · rw [st_sv7 hz (by omega) (by omega), if_pos (by omega)]; exact hr
    · rw [st_sv7 hz (by omega) (by omega), st_sv7 hz (by omega) (by omega), if_neg (by omega)]
      by_cases e5 : i + 1 = 5
      · rw [if_pos e5]
        have h1 := h.1 (by omega)
        rw [show (6 : Int) - 1 = i + 1 by omega] at h1
        exact h1
      · rw [if_neg e5]; exact h.2 (i + 1) (by omega) (by omega)
  · rw [svK_n e]
    refine ⟨fun _ => ?_, fun i i0 i1 => ?_⟩
    · rw [st_sv6 hz hk.1 (by omega) (by omega) (by omega), if_pos (by omega)]; exact hr
    · rw [st_sv6 hz hk.1 (by omega) (by omega) (by omega), st_sv6 hz hk.1 (by omega) (by omega) (by omega), if_neg (by omega)]
      by_cases e5 : i + 1 = k
      · rw [if_pos e5]
        have h1 := h.1 (by omega)
        rw [show k - 1 = i by omega] at h1
        exact h1
      · rw [if_neg e5]; exact h.2 i i0 (by omega)
theorem HI_un {f P : Int → Int} {k : Int} (h0 : 0 < k) (h : HI f P k) : HI (stP P (k - 1)) P (k - 1) := by
  refine ⟨fun h1 => ?_, fun i i0 i1 => h.2 i i0 (by omega)⟩
  have := h.2 (k - 1 - 1) (by omega) (by omega)
  rw [show k - 1 - 1 + 1 = k - 1 by omega] at this
  exact this
theorem cp_st {f P : Int → Int} {k : Int} (hz : Z f) : cpF P (87 * k) f 0 = stP P k := by
  funext j
  unfold cpF stP
  by_cases hj : 0 ≤ j ∧ j < 87
  · rw [if_pos (by omega), if_pos hj, show j - 0 = j by omega]
  · rw [if_neg (by omega), if_neg hj]; exact hz j (by omega)
/-- taken back at once -/
theorem cp_sv {f g P : Int → Int} {k : Int} (hz : Z f) (hg : Z g) (hk : 0 ≤ k ∧ k ≤ 6) : cpF (svP f P k) (87 * (svK k - 1)) g 0 = f := by
  rw [cp_st hg]
  by_cases e : k = 6
  · subst e
    rw [svK_6, st_sv7 hz (by omega) (by omega), if_pos (by omega)]
  · rw [svK_n e, st_sv6 hz hk.1 (by omega) (by omega) (by omega), if_pos (by omega)]
theorem HI_back {f P : Int → Int} {k : Int} (hz : Z f) (hk : 0 ≤ k ∧ k ≤ 6) (h : HI f P k) : HI f (svP f P k) (svK k - 1) := by
  have h1 := HI_sv (g := f) hz hk h (RE_3 rfl)
  have h2 := HI_un (by have := svK_rng hk; omega) h1
  rw [← cp_st hz, cp_sv hz hz hk] at h2
  exact h2
