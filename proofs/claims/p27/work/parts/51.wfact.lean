/-! words: what each check of the law rests on -/
theorem sh01_all : ∀ b : Fin 97, ∀ a : Fin 97, 1 ≤ b.val → a.val ≤ b.val → ¬ (Op.cmpValue (FP.dcmp (FP.ddiv (FP.i2d (Int32.ofInt (a.val : Int))) (FP.i2d (Int32.ofInt (b.val : Int)))) FP.dconst0) .l) < 0 ∧ ¬ 0 < (Op.cmpValue (FP.dcmp (FP.ddiv (FP.i2d (Int32.ofInt (a.val : Int))) (FP.i2d (Int32.ofInt (b.val : Int)))) FP.dconst1) .g) := by
  decide +kernel
theorem sh01_1 : ¬ (Op.cmpValue (FP.dcmp FP.dconst1 FP.dconst0) .l) < 0 ∧ ¬ 0 < (Op.cmpValue (FP.dcmp FP.dconst1 FP.dconst1) .g) := by decide +kernel
theorem sh01 {a b : Int} (b0 : 0 ≤ b) (b1 : b ≤ 96) (a0 : 0 ≤ a) (a1 : a ≤ b) : ¬ (Op.cmpValue (FP.dcmp (shV a b) FP.dconst0) .l) < 0 ∧ ¬ 0 < (Op.cmpValue (FP.dcmp (shV a b) FP.dconst1) .g) := by
  unfold shV
  by_cases e : b = 0
  · rw [if_pos e]
    exact sh01_1
  · have := sh01_all ⟨b.toNat, by omega⟩ ⟨a.toNat, by omega⟩ (show 1 ≤ b.toNat by omega) (show a.toNat ≤ b.toNat by omega)
    simp only [show ((a.toNat : Nat) : Int) = a by omega, show ((b.toNat : Nat) : Int) = b by omega] at this
    rw [if_neg e]
    exact this
/-- the greatest of the first beats -/
def moN (f : Int → Int) (w : Int) : Nat → Int
  | 0 => -1
  | k + 1 => if litS f w k ≤ moN f w k then moN f w k else litS f w k
theorem moN_s (f : Int → Int) (w : Int) (k : Nat) : moN f w (k + 1) = if litS f w k ≤ moN f w k then moN f w k else litS f w k := rfl
theorem moN_rng {mb w : Int} {f : Int → Int} (hf : OK mb f) (w0 : 0 ≤ w) (w1 : w < f 2) : ∀ k : Nat, -1 ≤ moN f w k ∧ moN f w k < 200
  | 0 => by show -1 ≤ (-1 : Int) ∧ (-1 : Int) < 200; omega
  | k + 1 => by
    have ih := moN_rng hf w0 w1 k
    have hr := litS_rng hf w0 w1 k
    have hq := (hf.2.2.2.2.1 w w0 w1).2.2.2.1
    rw [moN_s]
    split <;> omega
theorem ls_mo {mb w : Int} {f : Int → Int} (hf : OK mb f) (w0 : 0 ≤ w) (w1 : w < f 2) : ∀ n : Nat, evN f w (n + 1) = true → lsN f w (n + 1) = moN f w (n + 1)
  | 0, h => by
    rw [evN_s, Bool.and_eq_true, decide_eq_true_iff] at h
    have hr := litS_rng hf w0 w1 ((0 : Nat) : Int)
    have hq := (hf.2.2.2.2.1 w w0 w1).2.2.2.1
    have h2 := h.2
    rw [lsN_s, moN_s, show lsN f w 0 = f (4 + 6 * w + 3) from rfl, show moN f w 0 = -1 from rfl]
    split <;> split <;> omega
  | n + 1, h => by
    rw [evN_s, Bool.and_eq_true] at h
    have ih := ls_mo hf w0 w1 n h.1
    rw [lsN_s, moN_s, ih]
theorem lo_ev (f : Int → Int) (w : Int) : ∀ n : Nat, sm (fun k => bi (decide (litS f w k ≠ -1))) n = n ↔ evN f w n = true
  | 0 => ⟨fun _ => rfl, fun _ => rfl⟩
  | n + 1 => by
    have ih := lo_ev f w n
    have hr := bsm_rng (fun k => decide (litS f w k ≠ -1)) n
    have hb := bi_rng (decide (litS f w n ≠ -1))
    rw [evN_s, Bool.and_eq_true, sm_s, ← ih]
    by_cases e : litS f w n ≠ -1
    · rw [decide_eq_true e, bi_true]
      constructor
      · intro h; exact ⟨by omega, rfl⟩
      · intro h; omega
    · rw [decide_eq_false e, bi_false]
      constructor
      · intro h; omega
      · intro h; exact absurd h.2 (by decide)
theorem lit_r1 {mb w : Int} {f : Int → Int} (hf : OK mb f) (w0 : 0 ≤ w) (w1 : w < f 2) (hr : f (4 + 6 * w + 4) = 1) (k : Nat) (h : litS f w ((k : Int) + 1) ≠ -1) : litS f w k ≠ -1 ∧ litS f w k ≤ litS f w ((k : Int) + 1) := by
  have e : ∀ j : Int, litS f w j = lt1 f w j.toNat := fun j => by
    unfold litS
    rw [if_neg (by omega), if_pos hr]
  rw [e, show ((k : Int) + 1).toNat = k + 1 by omega] at h
  rw [e, e, show ((k : Int) + 1).toNat = k + 1 by omega, show ((k : Int)).toNat = k by omega]
  have hs : lt1 f w (k + 1) = if lt1 f w k = -1 then -1 else fl f w ((k : Int) + 1) (lt1 f w k) := rfl
  have hq := (hf.2.2.2.2.1 w w0 w1).2.2.2.1
  have hk := lt1_rng hf w0 w1 k
  rw [hs] at h ⊢
  by_cases e1 : lt1 f w k = -1
  · rw [if_pos e1] at h; exact absurd rfl h
  · rw [if_neg e1] at h ⊢
    have := fl_rng f w ((k : Int) + 1) (t := lt1 f w k) (by omega) (by omega)
    exact ⟨e1, by omega⟩
theorem lit_r2 {w : Int} {f : Int → Int} (hr : f (4 + 6 * w + 4) = 2) (k j : Int) : litS f w k = litS f w j := by
  unfold litS
  rw [if_pos hr, if_pos hr]
theorem wl_at {mb w : Int} {f : Int → Int} (hf : OK mb f) (w0 : 0 ≤ w) (w1 : w < f 2) : wlS f w = if loS f w = f (4 + 6 * w + 0) then moN f w (f (4 + 6 * w + 0)).toNat else -1 := by
  obtain ⟨⟨l0, l1⟩, -⟩ := hf.2.2.2.2.1 w w0 w1
  have h := lo_ev f w (f (4 + 6 * w + 0)).toNat
  rw [show (((f (4 + 6 * w + 0)).toNat : Nat) : Int) = f (4 + 6 * w + 0) by omega] at h
  have h2 : loS f w = f (4 + 6 * w + 0) ↔ evN f w (f (4 + 6 * w + 0)).toNat = true := h
  unfold wlS
  by_cases e : evN f w (f (4 + 6 * w + 0)).toNat = true
  · rw [if_pos e, if_pos (h2.mpr e)]
    have := ls_mo hf w0 w1 ((f (4 + 6 * w + 0)).toNat - 1)
    rw [show (f (4 + 6 * w + 0)).toNat - 1 + 1 = (f (4 + 6 * w + 0)).toNat by omega] at this
    exact this e
  · rw [if_neg e, if_neg (fun hx => e (h2.mp hx))]
/-- when a word goes -/
theorem go_chk {mb w : Int} {f : Int → Int} (hf : OK mb f) (w0 : 0 ≤ w) (w1 : w < f 2) (hg : goS f w ≠ -1) : (wlS f w ≠ -1 ∧ wlS f w < goS f w ∧ wlS f w + f (4 + 6 * w + 5) ≤ goS f w) ∧ goS f w - goS f w / f 0 * f 0 = 0 ∧ goS f w - f 0 < wlS f w + (if 1 < f (4 + 6 * w + 5) then f (4 + 6 * w + 5) else 1) := by
  have g0 := hf.1
  obtain ⟨⟨l0, l1⟩, -, -, ⟨q0, q1⟩, -, ⟨d0, d1⟩⟩ := hf.2.2.2.2.1 w w0 w1
  have hl := lsN_rng hf w0 w1 (f (4 + 6 * w + 0)).toNat
  by_cases e : evN f w (f (4 + 6 * w + 0)).toNat = true
  · have ew : wlS f w = lsN f w (f (4 + 6 * w + 0)).toNat := if_pos e
    have eg : goS f w = if barS f w < 200 then barS f w else -1 := if_pos e
    rw [eg] at hg
    by_cases e2 : barS f w < 200
    · rw [if_pos e2] at hg eg
      rw [eg, ew]
      unfold barS
      generalize lsN f w (f (4 + 6 * w + 0)).toNat = m at hl ⊢
      generalize hx : (if m + f (4 + 6 * w + 5) ≤ m then m + 1 else m + f (4 + 6 * w + 5)) = x
      have hx2 : x = m + (if 1 < f (4 + 6 * w + 5) then f (4 + 6 * w + 5) else 1) := by
        rw [← hx]; split <;> split <;> omega
      have hx3 : m + 1 ≤ x ∧ m + f (4 + 6 * w + 5) ≤ x := by
        rw [← hx]; split <;> omega
      have hd := divb (x := x + f 0 - 1) (s := f 0) (by omega) g0.1
      rw [Int.mul_ediv_cancel _ (show f 0 ≠ 0 by omega)]
      rw [← hx2]
      refine ⟨⟨by omega, by omega, by omega⟩, by omega, by omega⟩
    · rw [if_neg e2] at hg; exact absurd rfl hg
  · exact absurd (if_neg e) hg
/-- a word that is whole is seen -/
theorem wh_seen {mb w : Int} {f : Int → Int} (hf : OK mb f) (w0 : 0 ≤ w) (w1 : w < f 2) (h : wlS f w ≠ -1) : 0 < in2 f (wlS f w) ∧ 0 ≤ stS f (wlS f w) (f (4 + 6 * w + 1)) (f (4 + 6 * w + 2)) := by
  obtain ⟨⟨l0, l1⟩, -⟩ := hf.2.2.2.2.1 w w0 w1
  have n2 := hf.2.2.1
  have hr := wl_rng hf w0 w1
  have he := en_rng hf w0 w1
  have hen : wlS f w < enS f w := by
    by_cases e : goS f w = -1
    · omega
    · have := (go_chk hf w0 w1 e).1.2.1
      omega
  have hev : evN f w (f (4 + 6 * w + 0)).toNat = true := by
    by_cases e : evN f w (f (4 + 6 * w + 0)).toNat = true
    · exact e
    · exact absurd (if_neg e) h
  have ew : wlS f w = lsN f w (f (4 + 6 * w + 0)).toNat := if_pos hev
  constructor
  · unfold in2
    exact (sm_pos _).mpr ⟨w, w0, by omega, (in2_eq hf w0 w1 (by omega)).mpr ⟨h, Int.le_refl _, hen⟩⟩
  · have hi : inn (f (4 + 6 * w + 2) - f (4 + 6 * w + 2)) 0 (f (4 + 6 * w + 0) - 1) = true := by
      rw [inn_iff]; omega
    have hla : lta f w (f (4 + 6 * w + 2)) = 0 := by
      unfold lta
      rw [if_pos hi]; omega
    have hs : snS f w 0 (wlS f w) = true := by
      have h0 := ls_ge f w _ hev 0 (by omega) (by omega)
      exact (snS_iff hf w0 w1 (by omega)).mpr ⟨h0.1, by omega, hen⟩
    have hb : stB f (wlS f w) (f (4 + 6 * w + 1)) (f (4 + 6 * w + 2)) w = true := by
      unfold stB
      rw [hla, hs, decide_eq_true rfl, decide_eq_true (by omega)]; rfl
    unfold stS
    have h1 := frs_le (p := stB f (wlS f w) (f (4 + 6 * w + 1)) (f (4 + 6 * w + 2))) (f 2).toNat 0 w w0 (by omega) hb
    have h2 := frs_rng (stB f (wlS f w) (f (4 + 6 * w + 1)) (f (4 + 6 * w + 2))) (f 2).toNat 0
    omega
