/-- nothing stands beyond the 87 places -/
def Z (f : Int → Int) : Prop := ∀ k : Int, (k < 0 ∨ 87 ≤ k) → f k = 0
theorem Z_up {f : Int → Int} {a v : Int} (h : Z f) (a0 : 0 ≤ a) (a1 : a < 87) : Z (up f a v) := fun k hk => by rw [up_ne (by omega)]; exact h k hk
theorem cpF_Z {f g : Int → Int} (hf : Z f) (hg : Z g) : cpF f 0 g 0 = f := by
  funext j
  unfold cpF
  by_cases e : 0 ≤ j ∧ j < 0 + 87
  · rw [if_pos e]; exact congrArg f (by omega)
  · rw [if_neg e, hg j (by omega), hf j (by omega)]
theorem Z_bm {f : Int → Int} {t c s w r : Int} (h : Z f) (n0 : 0 ≤ f 3) (n1 : f 3 < 7) : Z (bmF f t c s w r) := by
  unfold bmF
  exact Z_up (Z_up (Z_up (Z_up (Z_up (Z_up h (by omega) (by omega)) (by omega) (by omega)) (by omega) (by omega)) (by omega) (by omega)) (by omega) (by omega)) (by omega) (by omega)
theorem Z_wd {f : Int → Int} {l r c q : Int} (h : Z f) (n0 : 0 ≤ f 2) (n1 : f 2 < 8) : Z (wdF f l r c q) := by
  unfold wdF
  exact Z_up (Z_up (Z_up (Z_up (Z_up (Z_up (Z_up h (by omega) (by omega)) (by omega) (by omega)) (by omega) (by omega)) (by omega) (by omega)) (by omega) (by omega)) (by omega) (by omega)) (by omega) (by omega)
theorem Z_ul {f : Int → Int} {b : Int} (h : Z f) (b0 : 0 ≤ b) (b1 : f 3 ≤ 7) : Z (ulF f b) := fun k hk => by
  unfold ulF
  rw [if_neg (by omega), if_neg (by omega)]
  exact h k hk
theorem Z_rw {f : Int → Int} {w : Int} (h : Z f) (w0 : 0 ≤ w) (w1 : f 2 ≤ 8) : Z (rwF f w) := fun k hk => by
  unfold rwF
  rw [if_neg (by omega), if_neg (by omega)]
  exact h k hk
/-- the state with one more beam in all rows -/
def plus (f : Int → Int) (t c s w : Int) : Int → Int := bmF f t c s w 255
theorem plus_OK {f : Int → Int} {t c s w : Int} (hf : OK 6 f) (h : 0 ≤ t ∧ t ≤ 199 ∧ 0 ≤ c ∧ c ≤ 59 ∧ -9 ≤ s ∧ s ≤ 9 ∧ 1 ≤ w ∧ w ≤ 9) : OK 7 (plus f t c s w) :=
  OK_mono (by have := hf.2.2.2.1; omega) (bmF_OK hf (by omega) ⟨h.1, h.2.1, h.2.2.1, h.2.2.2.1, h.2.2.2.2.1, h.2.2.2.2.2.1, h.2.2.2.2.2.2.1, h.2.2.2.2.2.2.2, by omega, by omega⟩)
def ibS (f : Int → Int) (t c s w i : Int) : Int := if i = 0 then whS (plus f t c s w) else if i = 1 then alS (plus f t c s w) else cgS (plus f t c s w)
/-- laid or not -/
def ML (f : Int → Int) (il : Int) (li wh go : Int → Int) : Prop := il = 0 ∨ (il = 1 ∧ Ld f (f 2) li wh go)
def tI (t c s w i : Int) : Int := if 0 ≤ t ∧ t ≤ 199 ∧ 0 ≤ c ∧ c ≤ 59 ∧ -9 ≤ s ∧ s ≤ 9 ∧ 1 ≤ w ∧ w ≤ 9 ∧ 0 ≤ i ∧ i ≤ 2 then 0 else 1
/-- the best of the first n speeds, and its worth -/
def bsM (f : Int → Int) (t c : Int) : Nat → Int
  | 0 => -1
  | n + 1 => if 100 * alS (plus f t c ((n : Int) - 9) 2) + whS (plus f t c ((n : Int) - 9) 2) ≤ bsM f t c n then bsM f t c n else 100 * alS (plus f t c ((n : Int) - 9) 2) + whS (plus f t c ((n : Int) - 9) 2)
def bsF (f : Int → Int) (t c : Int) : Nat → Int
  | 0 => 0
  | n + 1 => if 100 * alS (plus f t c ((n : Int) - 9) 2) + whS (plus f t c ((n : Int) - 9) 2) ≤ bsM f t c n then bsF f t c n else (n : Int) - 9
theorem alS_rng {mb : Int} {f : Int → Int} (hf : OK mb f) : 0 ≤ alS f ∧ alS f ≤ 96 := by
  have h8 := hf.2.2.1
  have := alN_rng hf (f 2).toNat (by omega)
  unfold alS; omega
theorem whS_rng {mb : Int} {f : Int → Int} (hf : OK mb f) : 0 ≤ whS f ∧ whS f ≤ 8 := by
  have h8 := hf.2.2.1
  have := bsm_rng (fun w => decide (wlS f w ≠ -1)) (f 2).toNat
  unfold whS; omega
theorem bsM_rng {f : Int → Int} {t c : Int} (hf : OK 6 f) (h : 0 ≤ t ∧ t ≤ 199 ∧ 0 ≤ c ∧ c ≤ 59) : ∀ n : Nat, n ≤ 19 → -1 ≤ bsM f t c n ∧ bsM f t c n ≤ 10000
  | 0, _ => by unfold bsM; omega
  | n + 1, hn => by
    have h1 := bsM_rng hf h n (by omega)
    have hO := plus_OK hf (t := t) (c := c) (s := (n : Int) - 9) (w := 2) (by omega)
    have h2 := alS_rng hO
    have h3 := whS_rng hO
    unfold bsM
    split <;> omega
def tBS (t c : Int) : Int := if 0 ≤ t ∧ t ≤ 199 ∧ 0 ≤ c ∧ c ≤ 59 then 0 else 1
/-- in how many beats a beam covers some column -/
def cvS (f : Int → Int) (b : Int) : Int := sm (fun t => bi (cos f b t)) 200
def boS (f : Int → Int) (b i : Int) : Int := if i < 5 then f (52 + 5 * b + i) + (if i = 2 then 9 else 0) else if i = 5 then cvS f b else alS f - alS (ulF f b)
def tX (n w i m : Int) : Int := if 0 ≤ w ∧ w < n then (if 0 ≤ i ∧ i ≤ m then 0 else 2) else 1
def tL (f : Int → Int) (w k : Int) : Int := if 0 ≤ w ∧ w < f 2 ∧ 0 ≤ k ∧ k < f (4 + 6 * w + 0) then 0 else 1
def tT (t i m : Int) : Int := if 0 ≤ t ∧ t ≤ 199 ∧ 0 ≤ i ∧ i ≤ m then 0 else 1
def tSn (t r c : Int) : Int := if 0 ≤ t ∧ t ≤ 199 ∧ 0 ≤ r ∧ r ≤ 7 ∧ 0 ≤ c ∧ c ≤ 59 then 0 else 1
def tN (i m : Int) : Int := if 0 ≤ i ∧ i ≤ m then 0 else 1
