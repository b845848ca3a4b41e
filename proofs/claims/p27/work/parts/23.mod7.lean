theorem nsucc (k : Nat) : (((k + 1 : Nat) : Int)) = (k : Int) + 1 := by omega
def letS (f : Int → Int) : Int := sm (fun w => f (4 + 6 * w + 0)) (f 2).toNat
def loS (f : Int → Int) (w : Int) : Int := sm (fun k => bi (decide (litS f w k ≠ -1))) (f (4 + 6 * w + 0)).toNat
def alS (f : Int → Int) : Int := sm (loS f) (f 2).toNat
def whS (f : Int → Int) : Int := sm (fun w => bi (decide (wlS f w ≠ -1))) (f 2).toNat
def cgS (f : Int → Int) : Int := sm (fun t => bi (decide (0 < cls f t))) 200
theorem lo_rng {mb w : Int} {f : Int → Int} (hf : OK mb f) (w0 : 0 ≤ w) (w1 : w < f 2) : 0 ≤ loS f w ∧ loS f w ≤ 12 := by
  have hw := (hf.2.2.2.2.1 w w0 w1).1
  have := sm_rng (g := fun k => bi (decide (litS f w k ≠ -1))) (c := 1) (by omega) (n := (f (4 + 6 * w + 0)).toNat) (fun k _ _ => bi_rng _)
  unfold loS; omega
theorem alN_rng {mb : Int} {f : Int → Int} (hf : OK mb f) (n : Nat) (hn : (n : Int) ≤ f 2) : 0 ≤ sm (loS f) n ∧ sm (loS f) n ≤ 12 * n :=
  sm_rng (c := 12) (by omega) (fun k k0 k1 => lo_rng hf k0 (by omega))
theorem bsm_rng (b : Int → Bool) (n : Nat) : 0 ≤ sm (fun k => bi (b k)) n ∧ sm (fun k => bi (b k)) n ≤ n := by
  have := sm_rng (g := fun k => bi (b k)) (c := 1) (by omega) (n := n) (fun k _ _ => bi_rng _)
  omega
/-- the first beat in which one of the first k letters is lit; -1 -/
def fiN (f : Int → Int) (w : Int) : Nat → Int
  | 0 => -1
  | k + 1 => if litS f w k ≠ -1 ∧ (fiN f w k = -1 ∨ litS f w k < fiN f w k) then litS f w k else fiN f w k
theorem fiN_rng {mb w : Int} {f : Int → Int} (hf : OK mb f) (w0 : 0 ≤ w) (w1 : w < f 2) : ∀ k : Nat, -1 ≤ fiN f w k ∧ fiN f w k < 200
  | 0 => by unfold fiN; omega
  | k + 1 => by
    have h1 := fiN_rng hf w0 w1 k
    have h2 := litS_rng hf w0 w1 k
    have h3 := (hf.2.2.2.2.1 w w0 w1).2.2.2.1
    unfold fiN
    split <;> omega
/-- a word's properties -/
def woS (f : Int → Int) (w i : Int) : Int := if i < 6 then f (4 + 6 * w + i) else if i = 6 then fiN f w (f (4 + 6 * w + 0)).toNat else if i = 7 then wlS f w else if i = 8 then goS f w else loS f w
def soS (f : Int → Int) (w t : Int) : Int := sm (fun k => bi (snS f w k t)) (f (4 + 6 * w + 0)).toNat
theorem so_rng {mb w : Int} {f : Int → Int} (hf : OK mb f) (w0 : 0 ≤ w) (w1 : w < f 2) (t : Int) : 0 ≤ soS f w t ∧ soS f w t ≤ 12 := by
  have hw := (hf.2.2.2.2.1 w w0 w1).1
  have := bsm_rng (fun k => snS f w k t) (f (4 + 6 * w + 0)).toNat
  unfold soS; omega
