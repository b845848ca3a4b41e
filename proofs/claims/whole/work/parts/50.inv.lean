/-- what holds between the class and the reference -/
def IH (f c : Int → Int) (L0 : Nat → Int64) (li wh en cs S P T th D ml mw mg : Int → Int) (k n il : Int) (s : Rd) : Prop := OK 6 f ∧ Z f ∧ CV f c L0 li wh en cs ∧ SvR k S P ∧ (0 ≤ k ∧ k ≤ 6) ∧ TX T n ∧ Z th ∧ DB D ∧ ML f il ml mw mg ∧ RB s
def INV (v1 : Nat → Int32) (v2 : Nat → Int64) (v3 : Nat → Int32) (v4 : Nat → Int32) (v5 : Nat → Int32) (v6 : Nat → Int32) (v7 : Int32) (v8 : Nat → Int32) (v9 : Nat → Int32) (v10 : Nat → Int64) (v11 : Nat → Int32) (v12 : Nat → Int32) (v13 : Nat → Int32) (v14 : Nat → Int32) (v15 : Int32) (v16 : Nat → Int32) (v17 : Nat → Int32) (v18 : Nat → Int32) (v19 : Int32) (v20 : Int32) (v21 : Int32) (v22 : Int32) (v23 : Int32) (v24 : Nat → Int32) (v25 : Int32) (v26 : Nat → Int32) (v27 : Int32) (v28 : Nat → Int32) (v29 : Nat → Int32) (v30 : Nat → Int32) (v31 : Int32) (v32 : Nat → Int32) (v33 : Int32) (v34 : Int32) (v35 : Int32) (v36 : Int32) (v37 : Int32) (v38 : Nat → Int32) (v39 : Int32) (v40 : Nat → Int32) (v41 : Nat → Int32) (v42 : Nat → Int32) (v43 : Int32) (v44 : Nat → Int32) (v45 : Nat → Int64) : Prop := ∃ (f c li wh en cs S P T th D ml mw mg ma : Int → Int) (L0 : Nat → Int64) (k n il tz : Int) (s : Rd), IH f c L0 li wh en cs S P T th D ml mw mg k n il s ∧ (v1 = aI c ∧ v2 = L0 ∧ v3 = aI li ∧ v4 = aI wh ∧ v5 = aI en ∧ v6 = aI cs ∧ v7 = iI (paS f) ∧ v18 = aI (rN s) ∧ v19 = iI (rK s) ∧ v20 = iI (rO s) ∧ v21 = iI (rP s) ∧ v22 = iI (rV s) ∧ v23 = iI (rM s) ∧ v24 = aI S ∧ v25 = iI k ∧ v26 = aI T ∧ v27 = iI n ∧ v28 = aI f ∧ v29 = aI th ∧ v30 = aI P ∧ v31 = iI k ∧ v32 = aI T ∧ v33 = iI n ∧ v34 = iI tz ∧ v38 = aI D ∧ v40 = aI ml ∧ v41 = aI mw ∧ v42 = aI mg ∧ v43 = iI il ∧ v44 = aI ma)
theorem INV_mk {f c li wh en cs S P T th D ml mw mg ma : Int → Int} {L0 : Nat → Int64} {k n il tz : Int} {s : Rd} {v8 : Nat → Int32} {v9 : Nat → Int32} {v10 : Nat → Int64} {v11 : Nat → Int32} {v12 : Nat → Int32} {v13 : Nat → Int32} {v14 : Nat → Int32} {v15 : Int32} {v16 : Nat → Int32} {v17 : Nat → Int32} {v35 : Int32} {v36 : Int32} {v37 : Int32} {v39 : Int32} {v45 : Nat → Int64} (hI : IH f c L0 li wh en cs S P T th D ml mw mg k n il s) : INV (aI c) L0 (aI li) (aI wh) (aI en) (aI cs) (iI (paS f)) v8 v9 v10 v11 v12 v13 v14 v15 v16 v17 (aI (rN s)) (iI (rK s)) (iI (rO s)) (iI (rP s)) (iI (rV s)) (iI (rM s)) (aI S) (iI k) (aI T) (iI n) (aI f) (aI th) (aI P) (iI k) (aI T) (iI n) (iI tz) v35 v36 v37 (aI D) v39 (aI ml) (aI mw) (aI mg) (iI il) (aI ma) v45 := ⟨f, c, li, wh, en, cs, S, P, T, th, D, ml, mw, mg, ma, L0, k, n, il, tz, s, hI, rfl, rfl, rfl, rfl, rfl, rfl, rfl, rfl, rfl, rfl, rfl, rfl, rfl, rfl, rfl, rfl, rfl, rfl, rfl, rfl, rfl, rfl, rfl, rfl, rfl, rfl, rfl, rfl, rfl, rfl⟩
theorem vp_law {L : Nat} {i j : Int} (h0 : 0 ≤ i) (h1 : i + 6 ≤ L) (h2 : (L : Int) ≤ 3072) (j0 : 0 ≤ j) (j1 : j ≤ 5) : vp_in (iI i + iI j) L := by
  rw [iI_add]; exact iI_in (by omega) (by omega) (by omega)
theorem lgs {ro : Nat → Int64} {x : Int64} : lg_cmp (vp_updL ro 0 x 0) x = 0 := by rw [pk_uLs]; exact (lg_cmp_eq _ _).mpr rfl
theorem fin_ok {ro : Nat → Int64} {v : Int32} {A B : Prop} (h : B) : (iI 0 = (0 : Int32) → ((¬ (0 : Int32) = 0 → A) ∧ ((0 : Int32) = 0 → ((lg_cmp (vp_updL ro 0 v.toInt64 0) v.toInt64 = 0 → B) ∧ (¬ lg_cmp (vp_updL ro 0 v.toInt64 0) v.toInt64 = 0 → False))))) ∧ (¬ iI 0 = (0 : Int32) → False) :=
  ⟨fun _ => ⟨fun e => absurd rfl e, fun _ => ⟨fun _ => h, fun e => e lgs⟩⟩, fun e => e rfl⟩
theorem fin_no {z : Int32} {k : Int} {A B : Prop} (hz : iI k = z) (hne : z ≠ 0) (h : A) : (iI k = z → ((¬ z = 0 → A) ∧ (z = 0 → B))) ∧ (¬ iI k = z → False) := ⟨fun _ => ⟨fun _ => h, fun e => absurd e hne⟩, fun e => e hz⟩
theorem svK_rng {k : Int} (h : 0 ≤ k ∧ k ≤ 6) : 0 ≤ svK k ∧ svK k ≤ 6 := by unfold svK; split <;> omega
theorem rl_OK {f : Int → Int} {w r hd : Int} (hf : OK 6 f) (h0 : tR f w r hd = 0) : (0 ≤ w ∧ w < f 2) ∧ OK 6 (up (up f (4 + 6 * w + 5) hd) (4 + 6 * w + 4) r) := by
  have g : 0 ≤ w ∧ w < f 2 := by
    by_cases e : 0 ≤ w ∧ w < f 2
    · exact e
    · unfold tR at h0; rw [if_neg e] at h0; omega
  have g1 : 0 ≤ r ∧ r ≤ 2 ∧ 0 ≤ hd ∧ hd ≤ 50 := by
    unfold tR at h0; rw [if_pos g] at h0
    by_cases e : 0 ≤ r ∧ r ≤ 2 ∧ 0 ≤ hd ∧ hd ≤ 50
    · exact e
    · rw [if_neg e] at h0; omega
  have hw0 := hf.2.2.2.2.1 w g.1 g.2
  have o1 := upw_OK (f := f) (w := w) (i := 5) (v := hd) hf g.1 g.2 (by omega) (by omega) (by
    unfold OKw at hw0 ⊢
    rw [up_ne (by omega), up_ne (by omega), up_ne (by omega), up_ne (by omega), up_ne (by omega), up_eq]
    omega)
  have hw1 := o1.2.2.2.2.1 w g.1 (by rw [up_ne (by omega)]; exact g.2)
  refine ⟨g, upw_OK (w := w) (i := 4) (v := r) o1 g.1 (by rw [up_ne (by omega)]; exact g.2) (by omega) (by omega) ?_⟩
  unfold OKw at hw1 ⊢
  rw [up_ne (a := 4 + 6 * w + 4) (by omega), up_ne (a := 4 + 6 * w + 4) (by omega), up_ne (a := 4 + 6 * w + 4) (by omega), up_ne (a := 4 + 6 * w + 4) (by omega), up_eq, up_ne (a := 4 + 6 * w + 4) (by omega)]
  omega
theorem st_OK {f : Int → Int} {x v : Int} (hf : OK 6 f) (h0 : tS x v = 0) : (x = 0 ∨ x = 1) ∧ OK 6 (up f x v) := by
  have g : (0 ≤ x ∧ x ≤ 1) ∧ ((x = 0 ∧ 1 ≤ v ∧ v ≤ 16) ∨ (x = 1 ∧ 0 ≤ v ∧ v ≤ 20)) := by
    unfold tS at h0
    by_cases e : 0 ≤ x ∧ x ≤ 1
    · rw [if_pos e] at h0
      by_cases e2 : (x = 0 ∧ 1 ≤ v ∧ v ≤ 16) ∨ (x = 1 ∧ 0 ≤ v ∧ v ≤ 20)
      · exact ⟨e, e2⟩
      · rw [if_neg e2] at h0; omega
    · rw [if_neg e] at h0; omega
  obtain ⟨b0, b1, b2, b3, b4, b5⟩ := hf
  refine ⟨by omega, ?_, ?_, ?_, ?_, fun w w0 w1 => ?_, fun b b0 b1 => ?_⟩
  · by_cases e : x = 0
    · rw [e, up_eq]; omega
    · rw [up_ne (by omega)]; exact b0
  · by_cases e : x = 1
    · rw [e, up_eq]; omega
    · rw [up_ne (by omega)]; exact b1
  · rw [up_ne (by omega)]; exact b2
  · rw [up_ne (by omega)]; exact b3
  · rw [up_ne (by omega)] at w1
    exact OKw_cong (fun i i0 i1 => up_ne (by omega)) (b4 w w0 w1)
  · rw [up_ne (by omega)] at b1
    exact OKb_cong (fun i i0 i1 => up_ne (by omega)) (b5 b b0 b1)
theorem t1_0 {n w : Int} (h : t1 n w = 0) : 0 ≤ w ∧ w < n := by
  unfold t1 at h
  by_cases e : 0 ≤ w ∧ w < n
  · exact e
  · rw [if_neg e] at h; omega
theorem tC_0 {f : Int → Int} {w q : Int} (h : tC f w q = 0) : (0 ≤ w ∧ w < f 2) ∧ 0 ≤ q ∧ q ≤ 199 := by
  unfold tC at h
  by_cases e : 0 ≤ w ∧ w < f 2
  · rw [if_pos e] at h
    by_cases e2 : 0 ≤ q ∧ q ≤ 199
    · exact ⟨e, e2⟩
    · rw [if_neg e2] at h; omega
  · rw [if_neg e] at h; omega
theorem tA_0 {n c : Int} (h : tA n c = 0) : (33 ≤ c ∧ c ≤ 126) ∧ n ≠ 60 := by
  unfold tA at h
  by_cases e : 33 ≤ c ∧ c ≤ 126
  · rw [if_pos e] at h
    by_cases e2 : n = 60
    · rw [if_pos e2] at h; omega
    · exact ⟨e, e2⟩
  · rw [if_neg e] at h; omega
