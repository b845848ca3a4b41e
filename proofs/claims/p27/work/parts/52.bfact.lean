/-! beats: what each check of the law rests on -/
theorem cls_ex {f : Int → Int} {t : Int} (h2 : 0 ≤ f 2) : 0 < cls f t ↔ ∃ w o : Int, 0 ≤ w ∧ w < f 2 ∧ 0 ≤ o ∧ o < w ∧ cl f w o t = true := by
  unfold cls
  rw [sm_ex (g := fun w => clsO f t w w.toNat) (fun w w0 w1 => (clsO_rng f t w w.toNat).1)]
  constructor
  · rintro ⟨w, w0, w1, h⟩
    unfold clsO at h
    obtain ⟨o, o0, o1, ho⟩ := (sm_pos _).mp h
    exact ⟨w, o, w0, by omega, o0, by omega, ho⟩
  · rintro ⟨w, o, w0, w1, o0, o1, h⟩
    refine ⟨w, w0, by omega, ?_⟩
    unfold clsO
    exact (sm_pos _).mpr ⟨o, o0, by omega, h⟩
theorem pa_ex {f : Int → Int} (h2 : 0 ≤ f 2) : 0 < paS f ↔ ∃ w o : Int, 0 ≤ w ∧ w < f 2 ∧ 0 ≤ o ∧ o < w ∧ ecN f w o 200 = true := by
  unfold paS
  rw [sm_ex (g := fun w => paO f w w.toNat) (fun w w0 w1 => (bsm_rng (fun o => ecN f w o 200) w.toNat).1)]
  constructor
  · rintro ⟨w, w0, w1, h⟩
    unfold paO at h
    obtain ⟨o, o0, o1, ho⟩ := (sm_pos _).mp h
    exact ⟨w, o, w0, by omega, o0, by omega, ho⟩
  · rintro ⟨w, o, w0, w1, o0, o1, h⟩
    refine ⟨w, w0, by omega, ?_⟩
    unfold paO
    exact (sm_pos _).mpr ⟨o, o0, by omega, h⟩
theorem pa_nn (f : Int → Int) : 0 ≤ paS f := by
  unfold paS
  exact sm_nn (fun w w0 w1 => (bsm_rng (fun o => ecN f w o 200) w.toNat).1)
theorem pa_cg {f : Int → Int} (h2 : 0 ≤ f 2) : paS f = 0 ↔ cgS f = 0 := by
  have p0 := pa_nn f
  have c0 := (bsm_rng (fun t => decide (0 < cls f t)) 200).1
  have hc : cgS f = sm (fun t => bi (decide (0 < cls f t))) 200 := rfl
  have key : 0 < paS f ↔ 0 < cgS f := by
    rw [pa_ex h2, hc, sm_pos]
    constructor
    · rintro ⟨w, o, w0, w1, o0, o1, h⟩
      obtain ⟨t, t0, t1, ht⟩ := (ecN_iff f w o 200).mp h
      exact ⟨t, t0, t1, by rw [decide_eq_true_iff, cls_ex h2]; exact ⟨w, o, w0, w1, o0, o1, ht⟩⟩
    · rintro ⟨t, t0, t1, ht⟩
      rw [decide_eq_true_iff, cls_ex h2] at ht
      obtain ⟨w, o, w0, w1, o0, o1, h⟩ := ht
      exact ⟨w, o, w0, w1, o0, o1, (ecN_iff f w o 200).mpr ⟨t, t0, t1, h⟩⟩
  omega
theorem sm_one : ∀ n : Nat, sm (fun _ => 1) n = n
  | 0 => rfl
  | n + 1 => by rw [sm_s, sm_one n]; omega
theorem cl_seen {f : Int → Int} {w o t : Int} : ∀ n : Nat, clN f w o t n = true → ∃ k : Int, 0 ≤ k ∧ k < n ∧ snS f w k t = true
  | 0, h => absurd h (by unfold clN; decide)
  | n + 1, h => by
    rw [clN_s, Bool.or_eq_true, Bool.and_eq_true, Bool.and_eq_true] at h
    rcases h with h | h
    · obtain ⟨k, k0, k1, k2⟩ := cl_seen n h
      exact ⟨k, k0, by omega, k2⟩
    · exact ⟨n, by omega, by omega, h.2.1⟩
theorem dk_cg {mb : Int} {f : Int → Int} (hf : OK mb f) : dkS f + cgS f ≤ 200 := by
  have n2 := hf.2.2.1
  have h1 : dkS f + cgS f = sm (fun t => bi (decide (in1 f t = 0)) + bi (decide (0 < cls f t))) 200 := (sm_add 200).symm
  have h2 := sm_one 200
  have h3 : sm (fun t => bi (decide (in1 f t = 0)) + bi (decide (0 < cls f t))) 200 ≤ sm (fun _ => 1) 200 := by
    refine sm_le (fun t t0 t1 => ?_)
    show bi (decide (in1 f t = 0)) + bi (decide (0 < cls f t)) ≤ 1
    have b1 := bi_rng (decide (in1 f t = 0))
    by_cases e : 0 < cls f t
    · obtain ⟨w, o, w0, w1, o0, o1, h⟩ := (cls_ex n2.1).mp e
      unfold cl at h
      rw [Bool.and_eq_true] at h
      obtain ⟨k, k0, k1, k2⟩ := cl_seen _ h.2
      have hs : 0 < soS f w t := by
        unfold soS
        exact (sm_pos _).mpr ⟨k, k0, k1, k2⟩
      have hi : 0 < in1 f t := by
        unfold in1
        exact (sm_pos _).mpr ⟨w, w0, by omega, decide_eq_true hs⟩
      rw [decide_eq_false (show ¬ in1 f t = 0 by omega), decide_eq_true e, bi_false, bi_true]; omega
    · rw [decide_eq_false e, bi_false]; omega
  omega
theorem in21 (f : Int → Int) (t : Int) : in2 f t ≤ in1 f t := by
  unfold in2 in1
  refine sm_le (fun w w0 w1 => ?_)
  show bi (decide (wlS f w ≠ -1) && (decide (wlS f w ≤ t) && decide (0 < soS f w t))) ≤ bi (decide (0 < soS f w t))
  by_cases e : 0 < soS f w t
  · rw [decide_eq_true e, bi_true]; exact (bi_rng _).2
  · rw [decide_eq_false e, Bool.and_false, Bool.and_false]; exact Int.le_refl _
theorem in10 {mb : Int} {f : Int → Int} (hf : OK mb f) (t : Int) : in1 f t ≤ in0 f t := by
  have n2 := hf.2.2.1
  unfold in1 in0
  refine sm_le (fun w w0 w1 => ?_)
  have hs := so_rng hf w0 (by omega) t
  show bi (decide (0 < soS f w t)) ≤ soS f w t
  by_cases e : 0 < soS f w t
  · rw [decide_eq_true e, bi_true]; omega
  · rw [decide_eq_false e, bi_false]; omega
theorem in0_al (f : Int → Int) (t : Int) : in0 f t ≤ alS f := by
  unfold in0 alS
  refine sm_le (fun w w0 w1 => ?_)
  unfold soS loS
  refine sm_le (fun k k0 k1 => ?_)
  show bi (snS f w k t) ≤ bi (decide (litS f w k ≠ -1))
  unfold snS
  by_cases e : litS f w k ≠ -1
  · rw [decide_eq_true e, bi_true]; exact (bi_rng _).2
  · rw [decide_eq_false e, Bool.false_and]; exact Int.le_refl _
theorem in4_3 {f : Int → Int} (h3 : 0 ≤ f 3) (t : Int) : in4 f t ≤ f 3 := by
  have := bsm_rng (fun b => cos f b t) (f 3).toNat
  have h : in4 f t = sm (fun b => bi (cos f b t)) (f 3).toNat := rfl
  omega
theorem cls_pa (f : Int → Int) {t : Int} (t0 : 0 ≤ t) (t1 : t < 200) : cls f t ≤ paS f := by
  unfold cls paS
  refine sm_le (fun w w0 w1 => ?_)
  unfold clsO paO
  refine sm_le (fun o o0 o1 => ?_)
  show bi (cl f w o t) ≤ bi (ecN f w o 200)
  by_cases e : cl f w o t = true
  · rw [(ecN_iff f w o 200).mpr ⟨t, t0, t1, e⟩, bi_true]; exact (bi_rng _).2
  · rw [Bool.not_eq_true] at e
    rw [e, bi_false]; exact bi_nn _
/-- a beam covers something from its first beat on, nothing before it -/
theorem cv_le {f : Int → Int} {b : Int} (h0 : 0 ≤ f (52 + 5 * b + 0)) : ∀ n : Nat, sm (fun t => bi (cos f b t)) n ≤ (if (n : Int) ≤ f (52 + 5 * b + 0) then 0 else (n : Int) - f (52 + 5 * b + 0))
  | 0 => by rw [if_pos (by omega)]; exact Int.le_refl _
  | n + 1 => by
    have ih := cv_le h0 n
    have hb := bi_rng (cos f b n)
    rw [sm_s]
    show sm (fun t => bi (cos f b t)) n + bi (cos f b n) ≤ _
    by_cases e : f (52 + 5 * b + 0) ≤ (n : Int)
    · rw [if_neg (by omega)]
      by_cases e2 : (n : Int) ≤ f (52 + 5 * b + 0)
      · rw [if_pos e2] at ih; omega
      · rw [if_neg e2] at ih; omega
    · have hc : cos f b n = false := by
        unfold cos
        rw [decide_eq_false e, Bool.false_and]
      rw [hc, bi_false]
      rw [if_pos (by omega)] at ih
      rw [if_pos (by omega)]; omega
theorem cv_chk {f : Int → Int} {b : Int} (hb : OKb f b) : cvS f b ≤ 200 - f (52 + 5 * b + 0) ∧ 0 < cvS f b := by
  obtain ⟨⟨b0, b1⟩, ⟨c0, c1⟩, -, ⟨d0, d1⟩, -⟩ := hb
  constructor
  · have h := cv_le b0 200
    rw [if_neg (by omega)] at h
    exact h
  · unfold cvS
    refine (sm_pos _).mpr ⟨f (52 + 5 * b + 0), b0, by omega, ?_⟩
    have e : fst f b (f (52 + 5 * b + 0)) = f (52 + 5 * b + 1) := by
      unfold fst
      rw [Int.sub_self, Int.mul_zero, Int.add_zero]
    unfold cos
    rw [e, decide_eq_true (Int.le_refl _), decide_eq_true (show f (52 + 5 * b + 1) < 60 by omega), decide_eq_true (show 0 < f (52 + 5 * b + 1) + f (52 + 5 * b + 3) by omega)]
    rfl
