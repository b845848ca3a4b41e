/-- the latest of the first n beats in which a letter could be lit; -1 -/
def latN (f : Int → Int) (w k : Int) : Nat → Int
  | 0 => -1
  | n + 1 => if can f w k (n : Int) = true then (n : Int) else latN f w k n
theorem latN_rng (f : Int → Int) (w k : Int) : ∀ n : Nat, -1 ≤ latN f w k n ∧ latN f w k n < n
  | 0 => by unfold latN; omega
  | n + 1 => by
    have := latN_rng f w k n
    unfold latN
    split <;> omega
theorem latN_early {f : Int → Int} {w k : Int} : ∀ {n : Nat}, (n : Int) ≤ f (4 + 6 * w + 3) → latN f w k n = -1
  | 0, _ => rfl
  | n + 1, h => by
    unfold latN
    rw [if_neg (by unfold can; rw [canN_early (by omega)]; decide)]
    exact latN_early (by omega)
/-- whether in beat t each of the first k letters can be lit, or could be in one of the beats remembered -/
def alN (f : Int → Int) (w : Int) (t : Nat) : Nat → Bool
  | 0 => true
  | k + 1 => alN f w t k && (decide (latN f w k (t + 1) ≠ -1) && decide ((t : Int) - f 1 ≤ latN f w k (t + 1)))
def tog (f : Int → Int) (w : Int) : Int := frs (fun t => alN f w t.toNat (f (4 + 6 * w + 0)).toNat) (200 - f (4 + 6 * w + 3)).toNat (f (4 + 6 * w + 3))
