theorem v_law_0 {xs : Nat → Int32} {L : Nat} {i : Int} {rec : (Nat → Int32) → (Nat → Int64) → (Nat → Int32) → (Nat → Int32) → (Nat → Int32) → (Nat → Int32) → Int32 → (Nat → Int32) → (Nat → Int32) → (Nat → Int64) → (Nat → Int32) → (Nat → Int32) → (Nat → Int32) → (Nat → Int32) → Int32 → (Nat → Int32) → (Nat → Int32) → (Nat → Int32) → Int32 → Int32 → Int32 → Int32 → Int32 → (Nat → Int32) → Int32 → (Nat → Int32) → Int32 → (Nat → Int32) → (Nat → Int32) → (Nat → Int32) → Int32 → (Nat → Int32) → Int32 → Int32 → Int32 → Int32 → Int32 → (Nat → Int32) → Int32 → (Nat → Int32) → (Nat → Int32) → (Nat → Int32) → Int32 → (Nat → Int32) → (Nat → Int64) → Prop} {f c li wh en cs S P T th D ml mw mg ma : Int → Int} {L0 : Nat → Int64} {k n il tz : Int} {s : Rd} {v8 : Nat → Int32} {v9 : Nat → Int32} {v10 : Nat → Int64} {v11 : Nat → Int32} {v12 : Nat → Int32} {v13 : Nat → Int32} {v14 : Nat → Int32} {v15 : Int32} {v16 : Nat → Int32} {v17 : Nat → Int32} {v35 : Int32} {v36 : Int32} {v37 : Int32} {v39 : Int32} {v45 : Nat → Int64} (hI : IH f c L0 li wh en cs S P T th D ml mw mg k n il s) (i0 : 0 ≤ i) (i1 : i + 6 ≤ L) (i2 : (L : Int) ≤ 3072) (hrec : ∀ (v1 : Nat → Int32) (v2 : Nat → Int64) (v3 : Nat → Int32) (v4 : Nat → Int32) (v5 : Nat → Int32) (v6 : Nat → Int32) (v7 : Int32) (v8 : Nat → Int32) (v9 : Nat → Int32) (v10 : Nat → Int64) (v11 : Nat → Int32) (v12 : Nat → Int32) (v13 : Nat → Int32) (v14 : Nat → Int32) (v15 : Int32) (v16 : Nat → Int32) (v17 : Nat → Int32) (v18 : Nat → Int32) (v19 : Int32) (v20 : Int32) (v21 : Int32) (v22 : Int32) (v23 : Int32) (v24 : Nat → Int32) (v25 : Int32) (v26 : Nat → Int32) (v27 : Int32) (v28 : Nat → Int32) (v29 : Nat → Int32) (v30 : Nat → Int32) (v31 : Int32) (v32 : Nat → Int32) (v33 : Int32) (v34 : Int32) (v35 : Int32) (v36 : Int32) (v37 : Int32) (v38 : Nat → Int32) (v39 : Int32) (v40 : Nat → Int32) (v41 : Nat → Int32) (v42 : Nat → Int32) (v43 : Int32) (v44 : Nat → Int32) (v45 : Nat → Int64), INV v1 v2 v3 v4 v5 v6 v7 v8 v9 v10 v11 v12 v13 v14 v15 v16 v17 v18 v19 v20 v21 v22 v23 v24 v25 v26 v27 v28 v29 v30 v31 v32 v33 v34 v35 v36 v37 v38 v39 v40 v41 v42 v43 v44 v45 → rec v1 v2 v3 v4 v5 v6 v7 v8 v9 v10 v11 v12 v13 v14 v15 v16 v17 v18 v19 v20 v21 v22 v23 v24 v25 v26 v27 v28 v29 v30 v31 v32 v33 v34 v35 v36 v37 v38 v39 v40 v41 v42 v43 v44 v45) : P_law_0 xs L (iI i) rec (aI c) L0 (aI li) (aI wh) (aI en) (aI cs) (iI (paS f)) v8 v9 v10 v11 v12 v13 v14 v15 v16 v17 (aI (rN s)) (iI (rK s)) (iI (rO s)) (iI (rP s)) (iI (rV s)) (iI (rM s)) (aI S) (iI k) (aI T) (iI n) (aI f) (aI th) (aI P) (iI k) (aI T) (iI n) (iI tz) v35 v36 v37 (aI D) v39 (aI ml) (aI mw) (aI mg) (iI il) (aI ma) v45 := by
  obtain ⟨hf, zf, hv, hS, hk, ht, zt, hD, hm, hs⟩ := id hI
  have n2 := hf.2.2.1
  have n3 := hf.2.2.2.1
  unfold P_law_0
  have w1 : vp_in (iI i + 1) L := by rw [i_1]; exact vp_law i0 i1 i2 (by omega) (by omega)
  have w2 : vp_in (iI i + 2) L := by rw [i_2]; exact vp_law i0 i1 i2 (by omega) (by omega)
  have w3 : vp_in (iI i + 3) L := by rw [i_3]; exact vp_law i0 i1 i2 (by omega) (by omega)
  have w4 : vp_in (iI i + 4) L := by rw [i_4]; exact vp_law i0 i1 i2 (by omega) (by omega)
  refine ⟨w1, w2, w3, w4, ?_⟩
  generalize xs (iI i + 1).toNatClampNeg = a1
  obtain ⟨p1, rfl, q1⟩ := iI_ex a1
  generalize xs (iI i + 2).toNatClampNeg = a2
  obtain ⟨p2, rfl, q2⟩ := iI_ex a2
  generalize xs (iI i + 3).toNatClampNeg = a3
  obtain ⟨p3, rfl, q3⟩ := iI_ex a3
  generalize xs (iI i + 4).toNatClampNeg = a4
  obtain ⟨p4, rfl, q4⟩ := iI_ex a4
  unfold P_L_word P_X4_thrown
  refine s_X3_word hv.1 hf hk.1 hk.2 hS q1 q2 q3 q4 (fun h0 c2 L2 li2 wh2 en2 cs2 re2 la2 S2 hv2 hS2 => ?_) (fun h0 => ?_) (fun h0 => ?_)
  · have hO := (⟨wdF_OK hf h0, Z_wd zf n2.1 (by have := (tW_0 h0).2; omega)⟩ : OK 6 (wdF f p1 p2 p3 p4) ∧ Z (wdF f p1 p2 p3 p4))
    exact ⟨w1, w2, w3, w4, s_X4_word hf q1 q2 q3 q4 hk.1 hk.2 (fun _ => fin_ok (hrec _ _ _ _ _ _ _ _ _ _ _ _ _ _ _ _ _ _ _ _ _ _ _ _ _ _ _ _ _ _ _ _ _ _ _ _ _ _ _ _ _ _ _ _ _ (INV_mk (s := s) (ml := ml) (mw := mw) (mg := mg) ⟨hO.1, hO.2, hv2, hS2, svK_rng hk, ht, zt, hD, Or.inl rfl, hs⟩))) (fun hne => absurd h0 hne)⟩
  · refine ⟨fun _ => ⟨w1, w2, w3, w4, s_X4_word hf q1 q2 q3 q4 hk.1 hk.2 (fun h9 => absurd h9 (by omega)) (fun _ => ?_)⟩, fun hx => absurd hx (by decide), Or.inl rfl⟩
    rw [h0]
    exact fin_no i_1.symm (by decide) (hrec _ _ _ _ _ _ _ _ _ _ _ _ _ _ _ _ _ _ _ _ _ _ _ _ _ _ _ _ _ _ _ _ _ _ _ _ _ _ _ _ _ _ _ _ _ (INV_mk hI))
  · refine ⟨fun hx => absurd hx (by decide), fun _ => ⟨w1, w2, w3, w4, s_X4_word hf q1 q2 q3 q4 hk.1 hk.2 (fun h9 => absurd h9 (by omega)) (fun _ => ?_)⟩, Or.inr rfl⟩
    rw [h0]
    exact fin_no i_2.symm (by decide) (hrec _ _ _ _ _ _ _ _ _ _ _ _ _ _ _ _ _ _ _ _ _ _ _ _ _ _ _ _ _ _ _ _ _ _ _ _ _ _ _ _ _ _ _ _ _ (INV_mk hI))
theorem v_law_1 {xs : Nat → Int32} {L : Nat} {i : Int} {rec : (Nat → Int32) → (Nat → Int64) → (Nat → Int32) → (Nat → Int32) → (Nat → Int32) → (Nat → Int32) → Int32 → (Nat → Int32) → (Nat → Int32) → (Nat → Int64) → (Nat → Int32) → (Nat → Int32) → (Nat → Int32) → (Nat → Int32) → Int32 → (Nat → Int32) → (Nat → Int32) → (Nat → Int32) → Int32 → Int32 → Int32 → Int32 → Int32 → (Nat → Int32) → Int32 → (Nat → Int32) → Int32 → (Nat → Int32) → (Nat → Int32) → (Nat → Int32) → Int32 → (Nat → Int32) → Int32 → Int32 → Int32 → Int32 → Int32 → (Nat → Int32) → Int32 → (Nat → Int32) → (Nat → Int32) → (Nat → Int32) → Int32 → (Nat → Int32) → (Nat → Int64) → Prop} {f c li wh en cs S P T th D ml mw mg ma : Int → Int} {L0 : Nat → Int64} {k n il tz : Int} {s : Rd} {v8 : Nat → Int32} {v9 : Nat → Int32} {v10 : Nat → Int64} {v11 : Nat → Int32} {v12 : Nat → Int32} {v13 : Nat → Int32} {v14 : Nat → Int32} {v15 : Int32} {v16 : Nat → Int32} {v17 : Nat → Int32} {v35 : Int32} {v36 : Int32} {v37 : Int32} {v39 : Int32} {v45 : Nat → Int64} (hI : IH f c L0 li wh en cs S P T th D ml mw mg k n il s) (i0 : 0 ≤ i) (i1 : i + 6 ≤ L) (i2 : (L : Int) ≤ 3072) (hrec : ∀ (v1 : Nat → Int32) (v2 : Nat → Int64) (v3 : Nat → Int32) (v4 : Nat → Int32) (v5 : Nat → Int32) (v6 : Nat → Int32) (v7 : Int32) (v8 : Nat → Int32) (v9 : Nat → Int32) (v10 : Nat → Int64) (v11 : Nat → Int32) (v12 : Nat → Int32) (v13 : Nat → Int32) (v14 : Nat → Int32) (v15 : Int32) (v16 : Nat → Int32) (v17 : Nat → Int32) (v18 : Nat → Int32) (v19 : Int32) (v20 : Int32) (v21 : Int32) (v22 : Int32) (v23 : Int32) (v24 : Nat → Int32) (v25 : Int32) (v26 : Nat → Int32) (v27 : Int32) (v28 : Nat → Int32) (v29 : Nat → Int32) (v30 : Nat → Int32) (v31 : Int32) (v32 : Nat → Int32) (v33 : Int32) (v34 : Int32) (v35 : Int32) (v36 : Int32) (v37 : Int32) (v38 : Nat → Int32) (v39 : Int32) (v40 : Nat → Int32) (v41 : Nat → Int32) (v42 : Nat → Int32) (v43 : Int32) (v44 : Nat → Int32) (v45 : Nat → Int64), INV v1 v2 v3 v4 v5 v6 v7 v8 v9 v10 v11 v12 v13 v14 v15 v16 v17 v18 v19 v20 v21 v22 v23 v24 v25 v26 v27 v28 v29 v30 v31 v32 v33 v34 v35 v36 v37 v38 v39 v40 v41 v42 v43 v44 v45 → rec v1 v2 v3 v4 v5 v6 v7 v8 v9 v10 v11 v12 v13 v14 v15 v16 v17 v18 v19 v20 v21 v22 v23 v24 v25 v26 v27 v28 v29 v30 v31 v32 v33 v34 v35 v36 v37 v38 v39 v40 v41 v42 v43 v44 v45) : P_law_1 xs L (iI i) rec (aI c) L0 (aI li) (aI wh) (aI en) (aI cs) (iI (paS f)) v8 v9 v10 v11 v12 v13 v14 v15 v16 v17 (aI (rN s)) (iI (rK s)) (iI (rO s)) (iI (rP s)) (iI (rV s)) (iI (rM s)) (aI S) (iI k) (aI T) (iI n) (aI f) (aI th) (aI P) (iI k) (aI T) (iI n) (iI tz) v35 v36 v37 (aI D) v39 (aI ml) (aI mw) (aI mg) (iI il) (aI ma) v45 := by
  obtain ⟨hf, zf, hv, hS, hk, ht, zt, hD, hm, hs⟩ := id hI
  have n2 := hf.2.2.1
  have n3 := hf.2.2.2.1
  unfold P_law_1
  have w1 : vp_in (iI i + 1) L := by rw [i_1]; exact vp_law i0 i1 i2 (by omega) (by omega)
  have w2 : vp_in (iI i + 2) L := by rw [i_2]; exact vp_law i0 i1 i2 (by omega) (by omega)
  have w3 : vp_in (iI i + 3) L := by rw [i_3]; exact vp_law i0 i1 i2 (by omega) (by omega)
  refine ⟨w1, w2, w3, ?_⟩
  generalize xs (iI i + 1).toNatClampNeg = a1
  obtain ⟨p1, rfl, q1⟩ := iI_ex a1
  generalize xs (iI i + 2).toNatClampNeg = a2
  obtain ⟨p2, rfl, q2⟩ := iI_ex a2
  generalize xs (iI i + 3).toNatClampNeg = a3
  obtain ⟨p3, rfl, q3⟩ := iI_ex a3
  unfold P_L_rule P_X4_thrown
  refine s_X3_rule hv.1 hf hk.1 hk.2 hS q1 q2 q3 (fun h0 c2 L2 li2 wh2 en2 cs2 re2 la2 S2 hv2 hS2 => ?_) (fun h0 => ?_) (fun h0 => ?_)
  · have hO := (⟨(rl_OK hf h0).2, Z_up (Z_up zf (by have := (rl_OK hf h0).1; omega) (by have := (rl_OK hf h0).1; omega)) (by have := (rl_OK hf h0).1; omega) (by have := (rl_OK hf h0).1; omega)⟩ : OK 6 (up (up f (4 + 6 * p1 + 5) p3) (4 + 6 * p1 + 4) p2) ∧ Z (up (up f (4 + 6 * p1 + 5) p3) (4 + 6 * p1 + 4) p2))
    exact ⟨w1, w2, w3, s_X4_rule hf q1 q2 q3 hk.1 hk.2 (fun _ => fin_ok (hrec _ _ _ _ _ _ _ _ _ _ _ _ _ _ _ _ _ _ _ _ _ _ _ _ _ _ _ _ _ _ _ _ _ _ _ _ _ _ _ _ _ _ _ _ _ (INV_mk (s := s) (ml := ml) (mw := mw) (mg := mg) ⟨hO.1, hO.2, hv2, hS2, svK_rng hk, ht, zt, hD, Or.inl rfl, hs⟩))) (fun hne => absurd h0 hne)⟩
  · refine ⟨fun _ => ⟨w1, w2, w3, s_X4_rule hf q1 q2 q3 hk.1 hk.2 (fun h9 => absurd h9 (by omega)) (fun _ => ?_)⟩, fun hx => absurd hx (by decide), Or.inl rfl⟩
    rw [h0]
    exact fin_no i_1.symm (by decide) (hrec _ _ _ _ _ _ _ _ _ _ _ _ _ _ _ _ _ _ _ _ _ _ _ _ _ _ _ _ _ _ _ _ _ _ _ _ _ _ _ _ _ _ _ _ _ (INV_mk hI))
  · refine ⟨fun hx => absurd hx (by decide), fun _ => ⟨w1, w2, w3, s_X4_rule hf q1 q2 q3 hk.1 hk.2 (fun h9 => absurd h9 (by omega)) (fun _ => ?_)⟩, Or.inr rfl⟩
    rw [h0]
    exact fin_no i_2.symm (by decide) (hrec _ _ _ _ _ _ _ _ _ _ _ _ _ _ _ _ _ _ _ _ _ _ _ _ _ _ _ _ _ _ _ _ _ _ _ _ _ _ _ _ _ _ _ _ _ (INV_mk hI))
theorem v_law_2 {xs : Nat → Int32} {L : Nat} {i : Int} {rec : (Nat → Int32) → (Nat → Int64) → (Nat → Int32) → (Nat → Int32) → (Nat → Int32) → (Nat → Int32) → Int32 → (Nat → Int32) → (Nat → Int32) → (Nat → Int64) → (Nat → Int32) → (Nat → Int32) → (Nat → Int32) → (Nat → Int32) → Int32 → (Nat → Int32) → (Nat → Int32) → (Nat → Int32) → Int32 → Int32 → Int32 → Int32 → Int32 → (Nat → Int32) → Int32 → (Nat → Int32) → Int32 → (Nat → Int32) → (Nat → Int32) → (Nat → Int32) → Int32 → (Nat → Int32) → Int32 → Int32 → Int32 → Int32 → Int32 → (Nat → Int32) → Int32 → (Nat → Int32) → (Nat → Int32) → (Nat → Int32) → Int32 → (Nat → Int32) → (Nat → Int64) → Prop} {f c li wh en cs S P T th D ml mw mg ma : Int → Int} {L0 : Nat → Int64} {k n il tz : Int} {s : Rd} {v8 : Nat → Int32} {v9 : Nat → Int32} {v10 : Nat → Int64} {v11 : Nat → Int32} {v12 : Nat → Int32} {v13 : Nat → Int32} {v14 : Nat → Int32} {v15 : Int32} {v16 : Nat → Int32} {v17 : Nat → Int32} {v35 : Int32} {v36 : Int32} {v37 : Int32} {v39 : Int32} {v45 : Nat → Int64} (hI : IH f c L0 li wh en cs S P T th D ml mw mg k n il s) (i0 : 0 ≤ i) (i1 : i + 6 ≤ L) (i2 : (L : Int) ≤ 3072) (hrec : ∀ (v1 : Nat → Int32) (v2 : Nat → Int64) (v3 : Nat → Int32) (v4 : Nat → Int32) (v5 : Nat → Int32) (v6 : Nat → Int32) (v7 : Int32) (v8 : Nat → Int32) (v9 : Nat → Int32) (v10 : Nat → Int64) (v11 : Nat → Int32) (v12 : Nat → Int32) (v13 : Nat → Int32) (v14 : Nat → Int32) (v15 : Int32) (v16 : Nat → Int32) (v17 : Nat → Int32) (v18 : Nat → Int32) (v19 : Int32) (v20 : Int32) (v21 : Int32) (v22 : Int32) (v23 : Int32) (v24 : Nat → Int32) (v25 : Int32) (v26 : Nat → Int32) (v27 : Int32) (v28 : Nat → Int32) (v29 : Nat → Int32) (v30 : Nat → Int32) (v31 : Int32) (v32 : Nat → Int32) (v33 : Int32) (v34 : Int32) (v35 : Int32) (v36 : Int32) (v37 : Int32) (v38 : Nat → Int32) (v39 : Int32) (v40 : Nat → Int32) (v41 : Nat → Int32) (v42 : Nat → Int32) (v43 : Int32) (v44 : Nat → Int32) (v45 : Nat → Int64), INV v1 v2 v3 v4 v5 v6 v7 v8 v9 v10 v11 v12 v13 v14 v15 v16 v17 v18 v19 v20 v21 v22 v23 v24 v25 v26 v27 v28 v29 v30 v31 v32 v33 v34 v35 v36 v37 v38 v39 v40 v41 v42 v43 v44 v45 → rec v1 v2 v3 v4 v5 v6 v7 v8 v9 v10 v11 v12 v13 v14 v15 v16 v17 v18 v19 v20 v21 v22 v23 v24 v25 v26 v27 v28 v29 v30 v31 v32 v33 v34 v35 v36 v37 v38 v39 v40 v41 v42 v43 v44 v45) : P_law_2 xs L (iI i) rec (aI c) L0 (aI li) (aI wh) (aI en) (aI cs) (iI (paS f)) v8 v9 v10 v11 v12 v13 v14 v15 v16 v17 (aI (rN s)) (iI (rK s)) (iI (rO s)) (iI (rP s)) (iI (rV s)) (iI (rM s)) (aI S) (iI k) (aI T) (iI n) (aI f) (aI th) (aI P) (iI k) (aI T) (iI n) (iI tz) v35 v36 v37 (aI D) v39 (aI ml) (aI mw) (aI mg) (iI il) (aI ma) v45 := by
  obtain ⟨hf, zf, hv, hS, hk, ht, zt, hD, hm, hs⟩ := id hI
  have n2 := hf.2.2.1
  have n3 := hf.2.2.2.1
  unfold P_law_2
  have w1 : vp_in (iI i + 1) L := by rw [i_1]; exact vp_law i0 i1 i2 (by omega) (by omega)
  have w2 : vp_in (iI i + 2) L := by rw [i_2]; exact vp_law i0 i1 i2 (by omega) (by omega)
  refine ⟨w1, w2, ?_⟩
  generalize xs (iI i + 1).toNatClampNeg = a1
  obtain ⟨p1, rfl, q1⟩ := iI_ex a1
  generalize xs (iI i + 2).toNatClampNeg = a2
  obtain ⟨p2, rfl, q2⟩ := iI_ex a2
  unfold P_L_cue P_X4_thrown
  refine s_X3_cue hv.1 hf hk.1 hk.2 hS q1 q2 (fun h0 c2 L2 li2 wh2 en2 cs2 re2 la2 S2 hv2 hS2 => ?_) (fun h0 => ?_) (fun h0 => ?_)
  · have hO := (⟨cuF_OK hf (tC_0 h0).1.1 (tC_0 h0).1.2 (tC_0 h0).2.1 (tC_0 h0).2.2, cuF_Z zf (tC_0 h0).1.1 (by have := (tC_0 h0).1; omega)⟩ : OK 6 (up f (4 + 6 * p1 + 3) p2) ∧ Z (up f (4 + 6 * p1 + 3) p2))
    exact ⟨w1, w2, s_X4_cue hf q1 q2 hk.1 hk.2 (fun _ => fin_ok (hrec _ _ _ _ _ _ _ _ _ _ _ _ _ _ _ _ _ _ _ _ _ _ _ _ _ _ _ _ _ _ _ _ _ _ _ _ _ _ _ _ _ _ _ _ _ (INV_mk (s := s) (ml := ml) (mw := mw) (mg := mg) ⟨hO.1, hO.2, hv2, hS2, svK_rng hk, ht, zt, hD, Or.inl rfl, hs⟩))) (fun hne => absurd h0 hne)⟩
  · refine ⟨fun _ => ⟨w1, w2, s_X4_cue hf q1 q2 hk.1 hk.2 (fun h9 => absurd h9 (by omega)) (fun _ => ?_)⟩, fun hx => absurd hx (by decide), Or.inl rfl⟩
    rw [h0]
    exact fin_no i_1.symm (by decide) (hrec _ _ _ _ _ _ _ _ _ _ _ _ _ _ _ _ _ _ _ _ _ _ _ _ _ _ _ _ _ _ _ _ _ _ _ _ _ _ _ _ _ _ _ _ _ (INV_mk hI))
  · refine ⟨fun hx => absurd hx (by decide), fun _ => ⟨w1, w2, s_X4_cue hf q1 q2 hk.1 hk.2 (fun h9 => absurd h9 (by omega)) (fun _ => ?_)⟩, Or.inr rfl⟩
    rw [h0]
    exact fin_no i_2.symm (by decide) (hrec _ _ _ _ _ _ _ _ _ _ _ _ _ _ _ _ _ _ _ _ _ _ _ _ _ _ _ _ _ _ _ _ _ _ _ _ _ _ _ _ _ _ _ _ _ (INV_mk hI))
theorem v_law_3 {xs : Nat → Int32} {L : Nat} {i : Int} {rec : (Nat → Int32) → (Nat → Int64) → (Nat → Int32) → (Nat → Int32) → (Nat → Int32) → (Nat → Int32) → Int32 → (Nat → Int32) → (Nat → Int32) → (Nat → Int64) → (Nat → Int32) → (Nat → Int32) → (Nat → Int32) → (Nat → Int32) → Int32 → (Nat → Int32) → (Nat → Int32) → (Nat → Int32) → Int32 → Int32 → Int32 → Int32 → Int32 → (Nat → Int32) → Int32 → (Nat → Int32) → Int32 → (Nat → Int32) → (Nat → Int32) → (Nat → Int32) → Int32 → (Nat → Int32) → Int32 → Int32 → Int32 → Int32 → Int32 → (Nat → Int32) → Int32 → (Nat → Int32) → (Nat → Int32) → (Nat → Int32) → Int32 → (Nat → Int32) → (Nat → Int64) → Prop} {f c li wh en cs S P T th D ml mw mg ma : Int → Int} {L0 : Nat → Int64} {k n il tz : Int} {s : Rd} {v8 : Nat → Int32} {v9 : Nat → Int32} {v10 : Nat → Int64} {v11 : Nat → Int32} {v12 : Nat → Int32} {v13 : Nat → Int32} {v14 : Nat → Int32} {v15 : Int32} {v16 : Nat → Int32} {v17 : Nat → Int32} {v35 : Int32} {v36 : Int32} {v37 : Int32} {v39 : Int32} {v45 : Nat → Int64} (hI : IH f c L0 li wh en cs S P T th D ml mw mg k n il s) (i0 : 0 ≤ i) (i1 : i + 6 ≤ L) (i2 : (L : Int) ≤ 3072) (hrec : ∀ (v1 : Nat → Int32) (v2 : Nat → Int64) (v3 : Nat → Int32) (v4 : Nat → Int32) (v5 : Nat → Int32) (v6 : Nat → Int32) (v7 : Int32) (v8 : Nat → Int32) (v9 : Nat → Int32) (v10 : Nat → Int64) (v11 : Nat → Int32) (v12 : Nat → Int32) (v13 : Nat → Int32) (v14 : Nat → Int32) (v15 : Int32) (v16 : Nat → Int32) (v17 : Nat → Int32) (v18 : Nat → Int32) (v19 : Int32) (v20 : Int32) (v21 : Int32) (v22 : Int32) (v23 : Int32) (v24 : Nat → Int32) (v25 : Int32) (v26 : Nat → Int32) (v27 : Int32) (v28 : Nat → Int32) (v29 : Nat → Int32) (v30 : Nat → Int32) (v31 : Int32) (v32 : Nat → Int32) (v33 : Int32) (v34 : Int32) (v35 : Int32) (v36 : Int32) (v37 : Int32) (v38 : Nat → Int32) (v39 : Int32) (v40 : Nat → Int32) (v41 : Nat → Int32) (v42 : Nat → Int32) (v43 : Int32) (v44 : Nat → Int32) (v45 : Nat → Int64), INV v1 v2 v3 v4 v5 v6 v7 v8 v9 v10 v11 v12 v13 v14 v15 v16 v17 v18 v19 v20 v21 v22 v23 v24 v25 v26 v27 v28 v29 v30 v31 v32 v33 v34 v35 v36 v37 v38 v39 v40 v41 v42 v43 v44 v45 → rec v1 v2 v3 v4 v5 v6 v7 v8 v9 v10 v11 v12 v13 v14 v15 v16 v17 v18 v19 v20 v21 v22 v23 v24 v25 v26 v27 v28 v29 v30 v31 v32 v33 v34 v35 v36 v37 v38 v39 v40 v41 v42 v43 v44 v45) : P_law_3 xs L (iI i) rec (aI c) L0 (aI li) (aI wh) (aI en) (aI cs) (iI (paS f)) v8 v9 v10 v11 v12 v13 v14 v15 v16 v17 (aI (rN s)) (iI (rK s)) (iI (rO s)) (iI (rP s)) (iI (rV s)) (iI (rM s)) (aI S) (iI k) (aI T) (iI n) (aI f) (aI th) (aI P) (iI k) (aI T) (iI n) (iI tz) v35 v36 v37 (aI D) v39 (aI ml) (aI mw) (aI mg) (iI il) (aI ma) v45 := by
  obtain ⟨hf, zf, hv, hS, hk, ht, zt, hD, hm, hs⟩ := id hI
  have n2 := hf.2.2.1
  have n3 := hf.2.2.2.1
  unfold P_law_3
  have w1 : vp_in (iI i + 1) L := by rw [i_1]; exact vp_law i0 i1 i2 (by omega) (by omega)
  refine ⟨w1, ?_⟩
  generalize xs (iI i + 1).toNatClampNeg = a1
  obtain ⟨p1, rfl, q1⟩ := iI_ex a1
  unfold P_L_removeWord P_X4_thrown
  refine s_X3_removeWord hv.1 hf hk.1 hk.2 hS q1 (fun h0 c2 L2 li2 wh2 en2 cs2 re2 la2 S2 hv2 hS2 => ?_) (fun h0 => ?_)
  · have hO := (⟨rwF_OK hf (t1_0 h0).1 (t1_0 h0).2, Z_rw zf (t1_0 h0).1 n2.2⟩ : OK 6 (rwF f p1) ∧ Z (rwF f p1))
    exact ⟨w1, s_X4_removeWord hf q1 hk.1 hk.2 (fun _ => fin_ok (hrec _ _ _ _ _ _ _ _ _ _ _ _ _ _ _ _ _ _ _ _ _ _ _ _ _ _ _ _ _ _ _ _ _ _ _ _ _ _ _ _ _ _ _ _ _ (INV_mk (s := s) (ml := ml) (mw := mw) (mg := mg) ⟨hO.1, hO.2, hv2, hS2, svK_rng hk, ht, zt, hD, Or.inl rfl, hs⟩))) (fun hne => absurd h0 hne)⟩
  · refine ⟨fun _ => ⟨w1, s_X4_removeWord hf q1 hk.1 hk.2 (fun h9 => absurd h9 (by omega)) (fun _ => ?_)⟩, rfl⟩
    rw [h0]
    exact fin_no i_1.symm (by decide) (hrec _ _ _ _ _ _ _ _ _ _ _ _ _ _ _ _ _ _ _ _ _ _ _ _ _ _ _ _ _ _ _ _ _ _ _ _ _ _ _ _ _ _ _ _ _ (INV_mk hI))
theorem v_law_4 {xs : Nat → Int32} {L : Nat} {i : Int} {rec : (Nat → Int32) → (Nat → Int64) → (Nat → Int32) → (Nat → Int32) → (Nat → Int32) → (Nat → Int32) → Int32 → (Nat → Int32) → (Nat → Int32) → (Nat → Int64) → (Nat → Int32) → (Nat → Int32) → (Nat → Int32) → (Nat → Int32) → Int32 → (Nat → Int32) → (Nat → Int32) → (Nat → Int32) → Int32 → Int32 → Int32 → Int32 → Int32 → (Nat → Int32) → Int32 → (Nat → Int32) → Int32 → (Nat → Int32) → (Nat → Int32) → (Nat → Int32) → Int32 → (Nat → Int32) → Int32 → Int32 → Int32 → Int32 → Int32 → (Nat → Int32) → Int32 → (Nat → Int32) → (Nat → Int32) → (Nat → Int32) → Int32 → (Nat → Int32) → (Nat → Int64) → Prop} {f c li wh en cs S P T th D ml mw mg ma : Int → Int} {L0 : Nat → Int64} {k n il tz : Int} {s : Rd} {v8 : Nat → Int32} {v9 : Nat → Int32} {v10 : Nat → Int64} {v11 : Nat → Int32} {v12 : Nat → Int32} {v13 : Nat → Int32} {v14 : Nat → Int32} {v15 : Int32} {v16 : Nat → Int32} {v17 : Nat → Int32} {v35 : Int32} {v36 : Int32} {v37 : Int32} {v39 : Int32} {v45 : Nat → Int64} (hI : IH f c L0 li wh en cs S P T th D ml mw mg k n il s) (i0 : 0 ≤ i) (i1 : i + 6 ≤ L) (i2 : (L : Int) ≤ 3072) (hrec : ∀ (v1 : Nat → Int32) (v2 : Nat → Int64) (v3 : Nat → Int32) (v4 : Nat → Int32) (v5 : Nat → Int32) (v6 : Nat → Int32) (v7 : Int32) (v8 : Nat → Int32) (v9 : Nat → Int32) (v10 : Nat → Int64) (v11 : Nat → Int32) (v12 : Nat → Int32) (v13 : Nat → Int32) (v14 : Nat → Int32) (v15 : Int32) (v16 : Nat → Int32) (v17 : Nat → Int32) (v18 : Nat → Int32) (v19 : Int32) (v20 : Int32) (v21 : Int32) (v22 : Int32) (v23 : Int32) (v24 : Nat → Int32) (v25 : Int32) (v26 : Nat → Int32) (v27 : Int32) (v28 : Nat → Int32) (v29 : Nat → Int32) (v30 : Nat → Int32) (v31 : Int32) (v32 : Nat → Int32) (v33 : Int32) (v34 : Int32) (v35 : Int32) (v36 : Int32) (v37 : Int32) (v38 : Nat → Int32) (v39 : Int32) (v40 : Nat → Int32) (v41 : Nat → Int32) (v42 : Nat → Int32) (v43 : Int32) (v44 : Nat → Int32) (v45 : Nat → Int64), INV v1 v2 v3 v4 v5 v6 v7 v8 v9 v10 v11 v12 v13 v14 v15 v16 v17 v18 v19 v20 v21 v22 v23 v24 v25 v26 v27 v28 v29 v30 v31 v32 v33 v34 v35 v36 v37 v38 v39 v40 v41 v42 v43 v44 v45 → rec v1 v2 v3 v4 v5 v6 v7 v8 v9 v10 v11 v12 v13 v14 v15 v16 v17 v18 v19 v20 v21 v22 v23 v24 v25 v26 v27 v28 v29 v30 v31 v32 v33 v34 v35 v36 v37 v38 v39 v40 v41 v42 v43 v44 v45) : P_law_4 xs L (iI i) rec (aI c) L0 (aI li) (aI wh) (aI en) (aI cs) (iI (paS f)) v8 v9 v10 v11 v12 v13 v14 v15 v16 v17 (aI (rN s)) (iI (rK s)) (iI (rO s)) (iI (rP s)) (iI (rV s)) (iI (rM s)) (aI S) (iI k) (aI T) (iI n) (aI f) (aI th) (aI P) (iI k) (aI T) (iI n) (iI tz) v35 v36 v37 (aI D) v39 (aI ml) (aI mw) (aI mg) (iI il) (aI ma) v45 := by
  obtain ⟨hf, zf, hv, hS, hk, ht, zt, hD, hm, hs⟩ := id hI
  have n2 := hf.2.2.1
  have n3 := hf.2.2.2.1
  unfold P_law_4
  have w1 : vp_in (iI i + 1) L := by rw [i_1]; exact vp_law i0 i1 i2 (by omega) (by omega)
  have w2 : vp_in (iI i + 2) L := by rw [i_2]; exact vp_law i0 i1 i2 (by omega) (by omega)
  have w3 : vp_in (iI i + 3) L := by rw [i_3]; exact vp_law i0 i1 i2 (by omega) (by omega)
  have w4 : vp_in (iI i + 4) L := by rw [i_4]; exact vp_law i0 i1 i2 (by omega) (by omega)
  have w5 : vp_in (iI i + 5) L := by rw [i_5]; exact vp_law i0 i1 i2 (by omega) (by omega)
  refine ⟨w1, w2, w3, w4, w5, ?_⟩
  generalize xs (iI i + 1).toNatClampNeg = a1
  obtain ⟨p1, rfl, q1⟩ := iI_ex a1
  generalize xs (iI i + 2).toNatClampNeg = a2
  obtain ⟨p2, rfl, q2⟩ := iI_ex a2
  generalize xs (iI i + 3).toNatClampNeg = a3
  obtain ⟨p3, rfl, q3⟩ := iI_ex a3
  generalize xs (iI i + 4).toNatClampNeg = a4
  obtain ⟨p4, rfl, q4⟩ := iI_ex a4
  generalize xs (iI i + 5).toNatClampNeg = a5
  obtain ⟨p5, rfl, q5⟩ := iI_ex a5
  unfold P_L_beam P_X4_thrown
  refine s_X3_beam hv.1 hf hk.1 hk.2 hS q1 q2 q3 q4 q5 (fun h0 c2 L2 li2 wh2 en2 cs2 re2 la2 S2 hv2 hS2 => ?_) (fun h0 => ?_) (fun h0 => ?_)
  · have hO := (⟨OK_mono (by have := (tB_0 h0).2; omega) (bmF_OK hf (by omega) (tB_0 h0).1), Z_bm zf n3.1 (by omega)⟩ : OK 6 (bmF f p1 p2 p3 p4 p5) ∧ Z (bmF f p1 p2 p3 p4 p5))
    exact ⟨w1, w2, w3, w4, w5, s_X4_beam hf q1 q2 q3 q4 q5 hk.1 hk.2 (fun _ => fin_ok (hrec _ _ _ _ _ _ _ _ _ _ _ _ _ _ _ _ _ _ _ _ _ _ _ _ _ _ _ _ _ _ _ _ _ _ _ _ _ _ _ _ _ _ _ _ _ (INV_mk (s := s) (ml := ml) (mw := mw) (mg := mg) ⟨hO.1, hO.2, hv2, hS2, svK_rng hk, ht, zt, hD, Or.inl rfl, hs⟩))) (fun hne => absurd h0 hne)⟩
  · refine ⟨fun _ => ⟨w1, w2, w3, w4, w5, s_X4_beam hf q1 q2 q3 q4 q5 hk.1 hk.2 (fun h9 => absurd h9 (by omega)) (fun _ => ?_)⟩, fun hx => absurd hx (by decide), Or.inl rfl⟩
    rw [h0]
    exact fin_no i_1.symm (by decide) (hrec _ _ _ _ _ _ _ _ _ _ _ _ _ _ _ _ _ _ _ _ _ _ _ _ _ _ _ _ _ _ _ _ _ _ _ _ _ _ _ _ _ _ _ _ _ (INV_mk hI))
  · refine ⟨fun hx => absurd hx (by decide), fun _ => ⟨w1, w2, w3, w4, w5, s_X4_beam hf q1 q2 q3 q4 q5 hk.1 hk.2 (fun h9 => absurd h9 (by omega)) (fun _ => ?_)⟩, Or.inr rfl⟩
    rw [h0]
    exact fin_no i_2.symm (by decide) (hrec _ _ _ _ _ _ _ _ _ _ _ _ _ _ _ _ _ _ _ _ _ _ _ _ _ _ _ _ _ _ _ _ _ _ _ _ _ _ _ _ _ _ _ _ _ (INV_mk hI))
theorem v_law_5 {xs : Nat → Int32} {L : Nat} {i : Int} {rec : (Nat → Int32) → (Nat → Int64) → (Nat → Int32) → (Nat → Int32) → (Nat → Int32) → (Nat → Int32) → Int32 → (Nat → Int32) → (Nat → Int32) → (Nat → Int64) → (Nat → Int32) → (Nat → Int32) → (Nat → Int32) → (Nat → Int32) → Int32 → (Nat → Int32) → (Nat → Int32) → (Nat → Int32) → Int32 → Int32 → Int32 → Int32 → Int32 → (Nat → Int32) → Int32 → (Nat → Int32) → Int32 → (Nat → Int32) → (Nat → Int32) → (Nat → Int32) → Int32 → (Nat → Int32) → Int32 → Int32 → Int32 → Int32 → Int32 → (Nat → Int32) → Int32 → (Nat → Int32) → (Nat → Int32) → (Nat → Int32) → Int32 → (Nat → Int32) → (Nat → Int64) → Prop} {f c li wh en cs S P T th D ml mw mg ma : Int → Int} {L0 : Nat → Int64} {k n il tz : Int} {s : Rd} {v8 : Nat → Int32} {v9 : Nat → Int32} {v10 : Nat → Int64} {v11 : Nat → Int32} {v12 : Nat → Int32} {v13 : Nat → Int32} {v14 : Nat → Int32} {v15 : Int32} {v16 : Nat → Int32} {v17 : Nat → Int32} {v35 : Int32} {v36 : Int32} {v37 : Int32} {v39 : Int32} {v45 : Nat → Int64} (hI : IH f c L0 li wh en cs S P T th D ml mw mg k n il s) (i0 : 0 ≤ i) (i1 : i + 6 ≤ L) (i2 : (L : Int) ≤ 3072) (hrec : ∀ (v1 : Nat → Int32) (v2 : Nat → Int64) (v3 : Nat → Int32) (v4 : Nat → Int32) (v5 : Nat → Int32) (v6 : Nat → Int32) (v7 : Int32) (v8 : Nat → Int32) (v9 : Nat → Int32) (v10 : Nat → Int64) (v11 : Nat → Int32) (v12 : Nat → Int32) (v13 : Nat → Int32) (v14 : Nat → Int32) (v15 : Int32) (v16 : Nat → Int32) (v17 : Nat → Int32) (v18 : Nat → Int32) (v19 : Int32) (v20 : Int32) (v21 : Int32) (v22 : Int32) (v23 : Int32) (v24 : Nat → Int32) (v25 : Int32) (v26 : Nat → Int32) (v27 : Int32) (v28 : Nat → Int32) (v29 : Nat → Int32) (v30 : Nat → Int32) (v31 : Int32) (v32 : Nat → Int32) (v33 : Int32) (v34 : Int32) (v35 : Int32) (v36 : Int32) (v37 : Int32) (v38 : Nat → Int32) (v39 : Int32) (v40 : Nat → Int32) (v41 : Nat → Int32) (v42 : Nat → Int32) (v43 : Int32) (v44 : Nat → Int32) (v45 : Nat → Int64), INV v1 v2 v3 v4 v5 v6 v7 v8 v9 v10 v11 v12 v13 v14 v15 v16 v17 v18 v19 v20 v21 v22 v23 v24 v25 v26 v27 v28 v29 v30 v31 v32 v33 v34 v35 v36 v37 v38 v39 v40 v41 v42 v43 v44 v45 → rec v1 v2 v3 v4 v5 v6 v7 v8 v9 v10 v11 v12 v13 v14 v15 v16 v17 v18 v19 v20 v21 v22 v23 v24 v25 v26 v27 v28 v29 v30 v31 v32 v33 v34 v35 v36 v37 v38 v39 v40 v41 v42 v43 v44 v45) : P_law_5 xs L (iI i) rec (aI c) L0 (aI li) (aI wh) (aI en) (aI cs) (iI (paS f)) v8 v9 v10 v11 v12 v13 v14 v15 v16 v17 (aI (rN s)) (iI (rK s)) (iI (rO s)) (iI (rP s)) (iI (rV s)) (iI (rM s)) (aI S) (iI k) (aI T) (iI n) (aI f) (aI th) (aI P) (iI k) (aI T) (iI n) (iI tz) v35 v36 v37 (aI D) v39 (aI ml) (aI mw) (aI mg) (iI il) (aI ma) v45 := by
  obtain ⟨hf, zf, hv, hS, hk, ht, zt, hD, hm, hs⟩ := id hI
  have n2 := hf.2.2.1
  have n3 := hf.2.2.2.1
  unfold P_law_5
  have w1 : vp_in (iI i + 1) L := by rw [i_1]; exact vp_law i0 i1 i2 (by omega) (by omega)
  refine ⟨w1, ?_⟩
  generalize xs (iI i + 1).toNatClampNeg = a1
  obtain ⟨p1, rfl, q1⟩ := iI_ex a1
  unfold P_L_turn P_X4_thrown
  refine s_X3_turn hv.1 hf hk.1 hk.2 hS q1 (fun h0 c2 L2 li2 wh2 en2 cs2 re2 la2 S2 hv2 hS2 => ?_) (fun h0 => ?_)
  · have hO := (⟨tnF_OK hf (t1_0 h0).1 (t1_0 h0).2, Z_up zf (by have := t1_0 h0; omega) (by have := t1_0 h0; omega)⟩ : OK 6 (tnF f p1) ∧ Z (tnF f p1))
    exact ⟨w1, s_X4_turn hf q1 hk.1 hk.2 (fun _ ml2 mw2 mg2 ma2 hl => fin_ok (hrec _ _ _ _ _ _ _ _ _ _ _ _ _ _ _ _ _ _ _ _ _ _ _ _ _ _ _ _ _ _ _ _ _ _ _ _ _ _ _ _ _ _ _ _ _ (INV_mk (s := s) ⟨hO.1, hO.2, hv2, hS2, svK_rng hk, ht, zt, hD, Or.inr ⟨rfl, hl⟩, hs⟩))) (fun hne => absurd h0 hne)⟩
  · refine ⟨fun _ => ⟨w1, s_X4_turn hf q1 hk.1 hk.2 (fun h9 => absurd h9 (by omega)) (fun _ => ?_)⟩, rfl⟩
    rw [h0]
    exact fin_no i_1.symm (by decide) (hrec _ _ _ _ _ _ _ _ _ _ _ _ _ _ _ _ _ _ _ _ _ _ _ _ _ _ _ _ _ _ _ _ _ _ _ _ _ _ _ _ _ _ _ _ _ (INV_mk hI))
theorem v_law_6 {xs : Nat → Int32} {L : Nat} {i : Int} {rec : (Nat → Int32) → (Nat → Int64) → (Nat → Int32) → (Nat → Int32) → (Nat → Int32) → (Nat → Int32) → Int32 → (Nat → Int32) → (Nat → Int32) → (Nat → Int64) → (Nat → Int32) → (Nat → Int32) → (Nat → Int32) → (Nat → Int32) → Int32 → (Nat → Int32) → (Nat → Int32) → (Nat → Int32) → Int32 → Int32 → Int32 → Int32 → Int32 → (Nat → Int32) → Int32 → (Nat → Int32) → Int32 → (Nat → Int32) → (Nat → Int32) → (Nat → Int32) → Int32 → (Nat → Int32) → Int32 → Int32 → Int32 → Int32 → Int32 → (Nat → Int32) → Int32 → (Nat → Int32) → (Nat → Int32) → (Nat → Int32) → Int32 → (Nat → Int32) → (Nat → Int64) → Prop} {f c li wh en cs S P T th D ml mw mg ma : Int → Int} {L0 : Nat → Int64} {k n il tz : Int} {s : Rd} {v8 : Nat → Int32} {v9 : Nat → Int32} {v10 : Nat → Int64} {v11 : Nat → Int32} {v12 : Nat → Int32} {v13 : Nat → Int32} {v14 : Nat → Int32} {v15 : Int32} {v16 : Nat → Int32} {v17 : Nat → Int32} {v35 : Int32} {v36 : Int32} {v37 : Int32} {v39 : Int32} {v45 : Nat → Int64} (hI : IH f c L0 li wh en cs S P T th D ml mw mg k n il s) (i0 : 0 ≤ i) (i1 : i + 6 ≤ L) (i2 : (L : Int) ≤ 3072) (hrec : ∀ (v1 : Nat → Int32) (v2 : Nat → Int64) (v3 : Nat → Int32) (v4 : Nat → Int32) (v5 : Nat → Int32) (v6 : Nat → Int32) (v7 : Int32) (v8 : Nat → Int32) (v9 : Nat → Int32) (v10 : Nat → Int64) (v11 : Nat → Int32) (v12 : Nat → Int32) (v13 : Nat → Int32) (v14 : Nat → Int32) (v15 : Int32) (v16 : Nat → Int32) (v17 : Nat → Int32) (v18 : Nat → Int32) (v19 : Int32) (v20 : Int32) (v21 : Int32) (v22 : Int32) (v23 : Int32) (v24 : Nat → Int32) (v25 : Int32) (v26 : Nat → Int32) (v27 : Int32) (v28 : Nat → Int32) (v29 : Nat → Int32) (v30 : Nat → Int32) (v31 : Int32) (v32 : Nat → Int32) (v33 : Int32) (v34 : Int32) (v35 : Int32) (v36 : Int32) (v37 : Int32) (v38 : Nat → Int32) (v39 : Int32) (v40 : Nat → Int32) (v41 : Nat → Int32) (v42 : Nat → Int32) (v43 : Int32) (v44 : Nat → Int32) (v45 : Nat → Int64), INV v1 v2 v3 v4 v5 v6 v7 v8 v9 v10 v11 v12 v13 v14 v15 v16 v17 v18 v19 v20 v21 v22 v23 v24 v25 v26 v27 v28 v29 v30 v31 v32 v33 v34 v35 v36 v37 v38 v39 v40 v41 v42 v43 v44 v45 → rec v1 v2 v3 v4 v5 v6 v7 v8 v9 v10 v11 v12 v13 v14 v15 v16 v17 v18 v19 v20 v21 v22 v23 v24 v25 v26 v27 v28 v29 v30 v31 v32 v33 v34 v35 v36 v37 v38 v39 v40 v41 v42 v43 v44 v45) : P_law_6 xs L (iI i) rec (aI c) L0 (aI li) (aI wh) (aI en) (aI cs) (iI (paS f)) v8 v9 v10 v11 v12 v13 v14 v15 v16 v17 (aI (rN s)) (iI (rK s)) (iI (rO s)) (iI (rP s)) (iI (rV s)) (iI (rM s)) (aI S) (iI k) (aI T) (iI n) (aI f) (aI th) (aI P) (iI k) (aI T) (iI n) (iI tz) v35 v36 v37 (aI D) v39 (aI ml) (aI mw) (aI mg) (iI il) (aI ma) v45 := by
  obtain ⟨hf, zf, hv, hS, hk, ht, zt, hD, hm, hs⟩ := id hI
  have n2 := hf.2.2.1
  have n3 := hf.2.2.2.1
  unfold P_law_6
  have w1 : vp_in (iI i + 1) L := by rw [i_1]; exact vp_law i0 i1 i2 (by omega) (by omega)
  refine ⟨w1, ?_⟩
  generalize xs (iI i + 1).toNatClampNeg = a1
  obtain ⟨p1, rfl, q1⟩ := iI_ex a1
  unfold P_L_removeBeam P_X4_thrown
  refine s_X3_removeBeam hv.1 hf hk.1 hk.2 hS q1 (fun h0 c2 L2 li2 wh2 en2 cs2 re2 la2 S2 hv2 hS2 => ?_) (fun h0 => ?_)
  · have hO := (⟨ulF_OK hf (by omega) (t1_0 h0).1 (t1_0 h0).2, Z_ul zf (t1_0 h0).1 (by omega)⟩ : OK 6 (ulF f p1) ∧ Z (ulF f p1))
    exact ⟨w1, s_X4_removeBeam hf q1 hk.1 hk.2 (fun _ => fin_ok (hrec _ _ _ _ _ _ _ _ _ _ _ _ _ _ _ _ _ _ _ _ _ _ _ _ _ _ _ _ _ _ _ _ _ _ _ _ _ _ _ _ _ _ _ _ _ (INV_mk (s := s) (ml := ml) (mw := mw) (mg := mg) ⟨hO.1, hO.2, hv2, hS2, svK_rng hk, ht, zt, hD, Or.inl rfl, hs⟩))) (fun hne => absurd h0 hne)⟩
  · refine ⟨fun _ => ⟨w1, s_X4_removeBeam hf q1 hk.1 hk.2 (fun h9 => absurd h9 (by omega)) (fun _ => ?_)⟩, rfl⟩
    rw [h0]
    exact fin_no i_1.symm (by decide) (hrec _ _ _ _ _ _ _ _ _ _ _ _ _ _ _ _ _ _ _ _ _ _ _ _ _ _ _ _ _ _ _ _ _ _ _ _ _ _ _ _ _ _ _ _ _ (INV_mk hI))
theorem v_law_7 {xs : Nat → Int32} {L : Nat} {i : Int} {rec : (Nat → Int32) → (Nat → Int64) → (Nat → Int32) → (Nat → Int32) → (Nat → Int32) → (Nat → Int32) → Int32 → (Nat → Int32) → (Nat → Int32) → (Nat → Int64) → (Nat → Int32) → (Nat → Int32) → (Nat → Int32) → (Nat → Int32) → Int32 → (Nat → Int32) → (Nat → Int32) → (Nat → Int32) → Int32 → Int32 → Int32 → Int32 → Int32 → (Nat → Int32) → Int32 → (Nat → Int32) → Int32 → (Nat → Int32) → (Nat → Int32) → (Nat → Int32) → Int32 → (Nat → Int32) → Int32 → Int32 → Int32 → Int32 → Int32 → (Nat → Int32) → Int32 → (Nat → Int32) → (Nat → Int32) → (Nat → Int32) → Int32 → (Nat → Int32) → (Nat → Int64) → Prop} {f c li wh en cs S P T th D ml mw mg ma : Int → Int} {L0 : Nat → Int64} {k n il tz : Int} {s : Rd} {v8 : Nat → Int32} {v9 : Nat → Int32} {v10 : Nat → Int64} {v11 : Nat → Int32} {v12 : Nat → Int32} {v13 : Nat → Int32} {v14 : Nat → Int32} {v15 : Int32} {v16 : Nat → Int32} {v17 : Nat → Int32} {v35 : Int32} {v36 : Int32} {v37 : Int32} {v39 : Int32} {v45 : Nat → Int64} (hI : IH f c L0 li wh en cs S P T th D ml mw mg k n il s) (i0 : 0 ≤ i) (i1 : i + 6 ≤ L) (i2 : (L : Int) ≤ 3072) (hrec : ∀ (v1 : Nat → Int32) (v2 : Nat → Int64) (v3 : Nat → Int32) (v4 : Nat → Int32) (v5 : Nat → Int32) (v6 : Nat → Int32) (v7 : Int32) (v8 : Nat → Int32) (v9 : Nat → Int32) (v10 : Nat → Int64) (v11 : Nat → Int32) (v12 : Nat → Int32) (v13 : Nat → Int32) (v14 : Nat → Int32) (v15 : Int32) (v16 : Nat → Int32) (v17 : Nat → Int32) (v18 : Nat → Int32) (v19 : Int32) (v20 : Int32) (v21 : Int32) (v22 : Int32) (v23 : Int32) (v24 : Nat → Int32) (v25 : Int32) (v26 : Nat → Int32) (v27 : Int32) (v28 : Nat → Int32) (v29 : Nat → Int32) (v30 : Nat → Int32) (v31 : Int32) (v32 : Nat → Int32) (v33 : Int32) (v34 : Int32) (v35 : Int32) (v36 : Int32) (v37 : Int32) (v38 : Nat → Int32) (v39 : Int32) (v40 : Nat → Int32) (v41 : Nat → Int32) (v42 : Nat → Int32) (v43 : Int32) (v44 : Nat → Int32) (v45 : Nat → Int64), INV v1 v2 v3 v4 v5 v6 v7 v8 v9 v10 v11 v12 v13 v14 v15 v16 v17 v18 v19 v20 v21 v22 v23 v24 v25 v26 v27 v28 v29 v30 v31 v32 v33 v34 v35 v36 v37 v38 v39 v40 v41 v42 v43 v44 v45 → rec v1 v2 v3 v4 v5 v6 v7 v8 v9 v10 v11 v12 v13 v14 v15 v16 v17 v18 v19 v20 v21 v22 v23 v24 v25 v26 v27 v28 v29 v30 v31 v32 v33 v34 v35 v36 v37 v38 v39 v40 v41 v42 v43 v44 v45) : P_law_7 xs L (iI i) rec (aI c) L0 (aI li) (aI wh) (aI en) (aI cs) (iI (paS f)) v8 v9 v10 v11 v12 v13 v14 v15 v16 v17 (aI (rN s)) (iI (rK s)) (iI (rO s)) (iI (rP s)) (iI (rV s)) (iI (rM s)) (aI S) (iI k) (aI T) (iI n) (aI f) (aI th) (aI P) (iI k) (aI T) (iI n) (iI tz) v35 v36 v37 (aI D) v39 (aI ml) (aI mw) (aI mg) (iI il) (aI ma) v45 := by
  obtain ⟨hf, zf, hv, hS, hk, ht, zt, hD, hm, hs⟩ := id hI
  have n2 := hf.2.2.1
  have n3 := hf.2.2.2.1
  unfold P_law_7
  have w1 : vp_in (iI i + 1) L := by rw [i_1]; exact vp_law i0 i1 i2 (by omega) (by omega)
  have w2 : vp_in (iI i + 2) L := by rw [i_2]; exact vp_law i0 i1 i2 (by omega) (by omega)
  refine ⟨w1, w2, ?_⟩
  generalize xs (iI i + 1).toNatClampNeg = a1
  obtain ⟨p1, rfl, q1⟩ := iI_ex a1
  generalize xs (iI i + 2).toNatClampNeg = a2
  obtain ⟨p2, rfl, q2⟩ := iI_ex a2
  unfold P_L_set P_X4_thrown
  refine s_X3_set hv.1 hf hk.1 hk.2 hS q1 q2 (fun h0 c2 L2 li2 wh2 en2 cs2 re2 la2 S2 hv2 hS2 => ?_) (fun h0 => ?_) (fun h0 => ?_)
  · have hO := (⟨(st_OK hf h0).2, Z_up zf (by have := (st_OK hf h0).1; omega) (by have := (st_OK hf h0).1; omega)⟩ : OK 6 (up f p1 p2) ∧ Z (up f p1 p2))
    exact ⟨w1, w2, s_X4_set hf q1 q2 hk.1 hk.2 (fun _ => fin_ok (hrec _ _ _ _ _ _ _ _ _ _ _ _ _ _ _ _ _ _ _ _ _ _ _ _ _ _ _ _ _ _ _ _ _ _ _ _ _ _ _ _ _ _ _ _ _ (INV_mk (s := s) (ml := ml) (mw := mw) (mg := mg) ⟨hO.1, hO.2, hv2, hS2, svK_rng hk, ht, zt, hD, Or.inl rfl, hs⟩))) (fun hne => absurd h0 hne)⟩
  · refine ⟨fun _ => ⟨w1, w2, s_X4_set hf q1 q2 hk.1 hk.2 (fun h9 => absurd h9 (by omega)) (fun _ => ?_)⟩, fun hx => absurd hx (by decide), Or.inl rfl⟩
    rw [h0]
    exact fin_no i_1.symm (by decide) (hrec _ _ _ _ _ _ _ _ _ _ _ _ _ _ _ _ _ _ _ _ _ _ _ _ _ _ _ _ _ _ _ _ _ _ _ _ _ _ _ _ _ _ _ _ _ (INV_mk hI))
  · refine ⟨fun hx => absurd hx (by decide), fun _ => ⟨w1, w2, s_X4_set hf q1 q2 hk.1 hk.2 (fun h9 => absurd h9 (by omega)) (fun _ => ?_)⟩, Or.inr rfl⟩
    rw [h0]
    exact fin_no i_2.symm (by decide) (hrec _ _ _ _ _ _ _ _ _ _ _ _ _ _ _ _ _ _ _ _ _ _ _ _ _ _ _ _ _ _ _ _ _ _ _ _ _ _ _ _ _ _ _ _ _ (INV_mk hI))
