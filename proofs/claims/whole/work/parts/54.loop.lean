theorem v_law_B {xs : Nat → Int32} {L : Nat} {i : Int} {rec : (Nat → Int32) → (Nat → Int64) → (Nat → Int32) → (Nat → Int32) → (Nat → Int32) → (Nat → Int32) → Int32 → (Nat → Int32) → (Nat → Int32) → (Nat → Int64) → (Nat → Int32) → (Nat → Int32) → (Nat → Int32) → (Nat → Int32) → Int32 → (Nat → Int32) → (Nat → Int32) → (Nat → Int32) → Int32 → Int32 → Int32 → Int32 → Int32 → (Nat → Int32) → Int32 → (Nat → Int32) → Int32 → (Nat → Int32) → (Nat → Int32) → (Nat → Int32) → Int32 → (Nat → Int32) → Int32 → Int32 → Int32 → Int32 → Int32 → (Nat → Int32) → Int32 → (Nat → Int32) → (Nat → Int32) → (Nat → Int32) → Int32 → (Nat → Int32) → (Nat → Int64) → Prop} {v1 : Nat → Int32} {v2 : Nat → Int64} {v3 : Nat → Int32} {v4 : Nat → Int32} {v5 : Nat → Int32} {v6 : Nat → Int32} {v7 : Int32} {v8 : Nat → Int32} {v9 : Nat → Int32} {v10 : Nat → Int64} {v11 : Nat → Int32} {v12 : Nat → Int32} {v13 : Nat → Int32} {v14 : Nat → Int32} {v15 : Int32} {v16 : Nat → Int32} {v17 : Nat → Int32} {v18 : Nat → Int32} {v19 : Int32} {v20 : Int32} {v21 : Int32} {v22 : Int32} {v23 : Int32} {v24 : Nat → Int32} {v25 : Int32} {v26 : Nat → Int32} {v27 : Int32} {v28 : Nat → Int32} {v29 : Nat → Int32} {v30 : Nat → Int32} {v31 : Int32} {v32 : Nat → Int32} {v33 : Int32} {v34 : Int32} {v35 : Int32} {v36 : Int32} {v37 : Int32} {v38 : Nat → Int32} {v39 : Int32} {v40 : Nat → Int32} {v41 : Nat → Int32} {v42 : Nat → Int32} {v43 : Int32} {v44 : Nat → Int32} {v45 : Nat → Int64} (hv : INV v1 v2 v3 v4 v5 v6 v7 v8 v9 v10 v11 v12 v13 v14 v15 v16 v17 v18 v19 v20 v21 v22 v23 v24 v25 v26 v27 v28 v29 v30 v31 v32 v33 v34 v35 v36 v37 v38 v39 v40 v41 v42 v43 v44 v45) (i0 : 0 ≤ i) (i9 : i ≤ 4000) (i2 : (L : Int) ≤ 3072) (hrec : i + 6 ≤ L → ∀ (v1 : Nat → Int32) (v2 : Nat → Int64) (v3 : Nat → Int32) (v4 : Nat → Int32) (v5 : Nat → Int32) (v6 : Nat → Int32) (v7 : Int32) (v8 : Nat → Int32) (v9 : Nat → Int32) (v10 : Nat → Int64) (v11 : Nat → Int32) (v12 : Nat → Int32) (v13 : Nat → Int32) (v14 : Nat → Int32) (v15 : Int32) (v16 : Nat → Int32) (v17 : Nat → Int32) (v18 : Nat → Int32) (v19 : Int32) (v20 : Int32) (v21 : Int32) (v22 : Int32) (v23 : Int32) (v24 : Nat → Int32) (v25 : Int32) (v26 : Nat → Int32) (v27 : Int32) (v28 : Nat → Int32) (v29 : Nat → Int32) (v30 : Nat → Int32) (v31 : Int32) (v32 : Nat → Int32) (v33 : Int32) (v34 : Int32) (v35 : Int32) (v36 : Int32) (v37 : Int32) (v38 : Nat → Int32) (v39 : Int32) (v40 : Nat → Int32) (v41 : Nat → Int32) (v42 : Nat → Int32) (v43 : Int32) (v44 : Nat → Int32) (v45 : Nat → Int64), INV v1 v2 v3 v4 v5 v6 v7 v8 v9 v10 v11 v12 v13 v14 v15 v16 v17 v18 v19 v20 v21 v22 v23 v24 v25 v26 v27 v28 v29 v30 v31 v32 v33 v34 v35 v36 v37 v38 v39 v40 v41 v42 v43 v44 v45 → rec v1 v2 v3 v4 v5 v6 v7 v8 v9 v10 v11 v12 v13 v14 v15 v16 v17 v18 v19 v20 v21 v22 v23 v24 v25 v26 v27 v28 v29 v30 v31 v32 v33 v34 v35 v36 v37 v38 v39 v40 v41 v42 v43 v44 v45) : P_law_B xs L (iI i) rec v1 v2 v3 v4 v5 v6 v7 v8 v9 v10 v11 v12 v13 v14 v15 v16 v17 v18 v19 v20 v21 v22 v23 v24 v25 v26 v27 v28 v29 v30 v31 v32 v33 v34 v35 v36 v37 v38 v39 v40 v41 v42 v43 v44 v45 := by
  unfold P_law_B
  intro hx
  have i1 : i + 6 ≤ L := by
    have e : Int32.ofNat L = iI (L : Int) := (iI_nat (by omega)).symm
    by_cases hle : i + 6 ≤ L
    · exact hle
    · exact absurd (by
        by_cases h6 : 6 ≤ L
        · rw [e, i_6, iI_sub, iI_lt (by omega) (by omega) (by omega) (by omega)]; omega
        · rw [e, i_6, iI_sub, iI_lt (by omega) (by omega) (by omega) (by omega)]; omega) hx
  have hr := hrec i1
  obtain ⟨f, c, li, wh, en, cs, S, P, T, th, D, ml, mw, mg, ma, L0, k, n, il, tz, s, hI, rfl, rfl, rfl, rfl, rfl, rfl, rfl, rfl, rfl, rfl, rfl, rfl, rfl, rfl, rfl, rfl, rfl, rfl, rfl, rfl, rfl, rfl, rfl, rfl, rfl, rfl, rfl, rfl, rfl, rfl⟩ := hv
  have hr2 := hr
  refine ⟨iI_in (by omega) (by omega) (by omega), fun _ => v_law_0 (xs := xs) (L := L) (i := i) hI i0 i1 i2 hr, fun _ => v_law_1 (xs := xs) (L := L) (i := i) hI i0 i1 i2 hr, fun _ => v_law_2 (xs := xs) (L := L) (i := i) hI i0 i1 i2 hr, fun _ => v_law_3 (xs := xs) (L := L) (i := i) hI i0 i1 i2 hr, fun _ => v_law_4 (xs := xs) (L := L) (i := i) hI i0 i1 i2 hr, fun _ => v_law_5 (xs := xs) (L := L) (i := i) hI i0 i1 i2 hr, fun _ => v_law_6 (xs := xs) (L := L) (i := i) hI i0 i1 i2 hr, fun _ => v_law_7 (xs := xs) (L := L) (i := i) hI i0 i1 i2 hr, fun _ => v_law_8 (xs := xs) (L := L) (i := i) hI i0 i1 i2 hr, fun _ => v_law_9 (xs := xs) (L := L) (i := i) hI i0 i1 i2 hr, fun _ => v_law_10 (xs := xs) (L := L) (i := i) hI i0 i1 i2 hr, fun _ => v_law_11 (xs := xs) (L := L) (i := i) hI i0 i1 i2 hr, fun _ => v_law_12 (xs := xs) (L := L) (i := i) hI i0 i1 i2 hr, fun _ => v_law_13 (xs := xs) (L := L) (i := i) hI i0 i1 i2 hr, fun _ => v_law_14 (xs := xs) (L := L) (i := i) hI i0 i1 i2 hr, fun _ => v_law_15 (xs := xs) (L := L) (i := i) hI i0 i1 i2 hr, fun _ => v_law_16 (xs := xs) (L := L) (i := i) hI i0 i1 i2 hr, fun _ => v_law_17 (xs := xs) (L := L) (i := i) hI i0 i1 i2 hr, fun _ => v_law_18 (xs := xs) (L := L) (i := i) hI i0 i1 i2 hr, fun _ => v_law_19 (xs := xs) (L := L) (i := i) hI i0 i1 i2 hr, fun _ => v_law_20 (xs := xs) (L := L) (i := i) hI i0 i1 i2 hr, fun _ => v_law_21 (xs := xs) (L := L) (i := i) hI i0 i1 i2 hr, fun _ => v_law_22 (xs := xs) (L := L) (i := i) hI i0 i1 i2 hr, fun _ => v_law_23 (xs := xs) (L := L) (i := i) hI i0 i1 i2 hr, fun _ _ _ _ _ _ _ _ _ _ _ _ _ _ _ _ _ _ _ _ _ _ _ _ => hr _ _ _ _ _ _ _ _ _ _ _ _ _ _ _ _ _ _ _ _ _ _ _ _ _ _ _ _ _ _ _ _ _ _ _ _ _ _ _ _ _ _ _ _ _ (INV_mk hI)⟩
theorem v_law_L {xs : Nat → Int32} {L : Nat} (i2 : (L : Int) ≤ 3072) : ∀ (m : Nat) (i : Int), 0 ≤ i → i ≤ 4000 → (L : Int) < i + 6 * (m + 1) → ∀ (v1 : Nat → Int32) (v2 : Nat → Int64) (v3 : Nat → Int32) (v4 : Nat → Int32) (v5 : Nat → Int32) (v6 : Nat → Int32) (v7 : Int32) (v8 : Nat → Int32) (v9 : Nat → Int32) (v10 : Nat → Int64) (v11 : Nat → Int32) (v12 : Nat → Int32) (v13 : Nat → Int32) (v14 : Nat → Int32) (v15 : Int32) (v16 : Nat → Int32) (v17 : Nat → Int32) (v18 : Nat → Int32) (v19 : Int32) (v20 : Int32) (v21 : Int32) (v22 : Int32) (v23 : Int32) (v24 : Nat → Int32) (v25 : Int32) (v26 : Nat → Int32) (v27 : Int32) (v28 : Nat → Int32) (v29 : Nat → Int32) (v30 : Nat → Int32) (v31 : Int32) (v32 : Nat → Int32) (v33 : Int32) (v34 : Int32) (v35 : Int32) (v36 : Int32) (v37 : Int32) (v38 : Nat → Int32) (v39 : Int32) (v40 : Nat → Int32) (v41 : Nat → Int32) (v42 : Nat → Int32) (v43 : Int32) (v44 : Nat → Int32) (v45 : Nat → Int64), INV v1 v2 v3 v4 v5 v6 v7 v8 v9 v10 v11 v12 v13 v14 v15 v16 v17 v18 v19 v20 v21 v22 v23 v24 v25 v26 v27 v28 v29 v30 v31 v32 v33 v34 v35 v36 v37 v38 v39 v40 v41 v42 v43 v44 v45 → P_law_L xs L (m + 1) (iI i) v1 v2 v3 v4 v5 v6 v7 v8 v9 v10 v11 v12 v13 v14 v15 v16 v17 v18 v19 v20 v21 v22 v23 v24 v25 v26 v27 v28 v29 v30 v31 v32 v33 v34 v35 v36 v37 v38 v39 v40 v41 v42 v43 v44 v45 := by
  intro m
  induction m with
  | zero =>
    intro i i0 i9 hL v1 v2 v3 v4 v5 v6 v7 v8 v9 v10 v11 v12 v13 v14 v15 v16 v17 v18 v19 v20 v21 v22 v23 v24 v25 v26 v27 v28 v29 v30 v31 v32 v33 v34 v35 v36 v37 v38 v39 v40 v41 v42 v43 v44 v45 hv
    rw [P_law_L_s]
    exact v_law_B hv i0 i9 i2 (fun hh => absurd hh (by omega))
  | succ m ih =>
    intro i i0 i9 hL v1 v2 v3 v4 v5 v6 v7 v8 v9 v10 v11 v12 v13 v14 v15 v16 v17 v18 v19 v20 v21 v22 v23 v24 v25 v26 v27 v28 v29 v30 v31 v32 v33 v34 v35 v36 v37 v38 v39 v40 v41 v42 v43 v44 v45 hv
    rw [P_law_L_s]
    refine v_law_B hv i0 i9 i2 (fun hh => ?_)
    rw [show iI i + 6 = iI (i + 6) by rw [i_6, iI_add]]
    exact ih (i + 6) (by omega) (by omega) (by omega)
def f_in : Int → Int := up (up (fun _ => 0) 0 4) 1 4
def c_in : Int → Int := up (up (fun _ => 0) 78 4) 79 4
theorem f_in0 : f_in 0 = 4 := by unfold f_in; rw [up_ne (by omega), up_eq]
theorem f_in1 : f_in 1 = 4 := by unfold f_in; rw [up_eq]
theorem f_in2 {j : Int} (h0 : j ≠ 0) (h1 : j ≠ 1) : f_in j = 0 := by unfold f_in; rw [up_ne h1, up_ne h0]
theorem INV_in : INV (upd (upd (fun _ => 0) 78 4) 79 4) (fun _ => 0) (fun _ => 0) (fun _ => 0) (fun _ => 0) (fun _ => 0) 0 (fun _ => 0) (fun _ => 0) (fun _ => 0) (fun _ => 0) (fun _ => 0) (fun _ => 0) (fun _ => 0) 0 (fun _ => 0) (fun _ => 0) (fun _ => 0) 0 0 0 0 0 (fun _ => 0) 0 (fun _ => 0) 0 (upd (upd (fun _ => 0) 0 4) 1 4) (fun _ => 0) (fun _ => 0) 0 (fun _ => 0) 0 0 0 0 0 (fun _ => 0) 0 (fun _ => 0) (fun _ => 0) (fun _ => 0) 0 (fun _ => 0) (fun _ => 0) := by
  have e2 : f_in 2 = 0 := f_in2 (by omega) (by omega)
  have e3 : f_in 3 = 0 := f_in2 (by omega) (by omega)
  have z0 : (fun _ => 0 : Nat → Int32) = aI (fun _ => 0) := by rw [i_0]; rfl
  have en : (f_in 2).toNat = 0 := by rw [e2]; rfl
  have hp : paS f_in = 0 := by unfold paS; rw [en]; rfl
  have hIH : IH f_in c_in (fun _ => 0) (fun _ => 0) (fun _ => 0) (fun _ => 0) (fun _ => 0) (fun _ => 0) (fun _ => 0) (fun _ => 0) (fun _ => 0) (fun _ => 0) (fun _ => 0) (fun _ => 0) (fun _ => 0) 0 0 0 (0, 0, 0, 0, 0, fun _ => 0) := by
    refine ⟨⟨?_, ?_, ?_, ?_, fun w w0 w1 => absurd w1 (by omega), fun b b0 b1 => absurd b1 (by omega)⟩, fun j hj => f_in2 (by omega) (by omega), ⟨⟨⟨?_, ?_, ?_, ?_⟩, fun w j w0 w1 => absurd w1 (by omega), fun b j b0 b1 => absurd b1 (by omega)⟩, fun r t o h1 h2 h3 => ?_, fun w w0 w1 => absurd w1 (by omega), fun t t0 t1 => ?_⟩, fun i i0 i1 => absurd i1 (by omega), ⟨by omega, by omega⟩, ⟨⟨by omega, by omega⟩, fun j j0 j1 => absurd j1 (by omega)⟩, fun j hj => rfl, fun j => ⟨by show -2147483648 ≤ (0 : Int); omega, by show (0 : Int) < 2147483648; omega⟩, Or.inl rfl, Or.inl rfl, fun j => ⟨by show -2147483648 ≤ (0 : Int); omega, by show (0 : Int) < 2147483648; omega⟩⟩
    · rw [f_in0]; omega
    · rw [f_in1]; omega
    · rw [e2]; omega
    · rw [e3]; omega
    · rw [f_in0]; unfold c_in; rw [up_ne (by omega), up_eq]
    · rw [f_in1]; unfold c_in; rw [up_eq]
    · rw [e2]; unfold c_in; rw [up_ne (by omega), up_ne (by omega)]
    · rw [e3]; unfold c_in; rw [up_ne (by omega), up_ne (by omega)]
    · show (0 : Int64).toBitVec.getLsbD o = lts f_in r t o (f_in 3).toNat
      rw [e3]; exact BitVec.getLsbD_zero
    · show (0 : Int) = cls f_in t
      unfold cls; rw [en]; rfl
  have ec : (upd (upd (fun _ => 0) 78 4) 79 4 : Nat → Int32) = aI c_in := by
    unfold c_in
    rw [z0, i_4, aI_upN, aI_upN]; rfl
  have ef : (upd (upd (fun _ => 0) 0 4) 1 4 : Nat → Int32) = aI f_in := by
    unfold f_in
    rw [z0, i_4, aI_upN, aI_upN]; rfl
  refine ⟨f_in, c_in, fun _ => 0, fun _ => 0, fun _ => 0, fun _ => 0, fun _ => 0, fun _ => 0, fun _ => 0, fun _ => 0, fun _ => 0, fun _ => 0, fun _ => 0, fun _ => 0, fun _ => 0, fun _ => 0, 0, 0, 0, 0, (0, 0, 0, 0, 0, fun _ => 0), hIH, ec, rfl, z0, z0, z0, z0, (by rw [hp]; exact i_0), z0, i_0, i_0, i_0, i_0, i_0, z0, i_0, z0, i_0, ef, z0, z0, i_0, z0, i_0, i_0, z0, z0, z0, z0, i_0, z0⟩
theorem law_all {xs : Nat → Int32} {L : Nat} (hL : L ≤ 3072) : ∃ n, n ≤ 1000 ∧ P_law_L xs L n 0 (upd (upd (fun _ => 0) 78 4) 79 4) (fun _ => 0) (fun _ => 0) (fun _ => 0) (fun _ => 0) (fun _ => 0) 0 (fun _ => 0) (fun _ => 0) (fun _ => 0) (fun _ => 0) (fun _ => 0) (fun _ => 0) (fun _ => 0) 0 (fun _ => 0) (fun _ => 0) (fun _ => 0) 0 0 0 0 0 (fun _ => 0) 0 (fun _ => 0) 0 (upd (upd (fun _ => 0) 0 4) 1 4) (fun _ => 0) (fun _ => 0) 0 (fun _ => 0) 0 0 0 0 0 (fun _ => 0) 0 (fun _ => 0) (fun _ => 0) (fun _ => 0) 0 (fun _ => 0) (fun _ => 0) := by
  refine ⟨512 + 1, by omega, ?_⟩
  have := v_law_L (xs := xs) (L := L) (by omega) 512 0 (by omega) (by omega) (by omega)
  rw [← i_0] at this
  exact this (upd (upd (fun _ => 0) 78 4) 79 4) (fun _ => 0) (fun _ => 0) (fun _ => 0) (fun _ => 0) (fun _ => 0) 0 (fun _ => 0) (fun _ => 0) (fun _ => 0) (fun _ => 0) (fun _ => 0) (fun _ => 0) (fun _ => 0) 0 (fun _ => 0) (fun _ => 0) (fun _ => 0) 0 0 0 0 0 (fun _ => 0) 0 (fun _ => 0) 0 (upd (upd (fun _ => 0) 0 4) 1 4) (fun _ => 0) (fun _ => 0) 0 (fun _ => 0) 0 0 0 0 0 (fun _ => 0) 0 (fun _ => 0) (fun _ => 0) (fun _ => 0) 0 (fun _ => 0) (fun _ => 0) INV_in
