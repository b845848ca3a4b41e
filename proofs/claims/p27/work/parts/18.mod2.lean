/-- bit k of a mask -/
def bt (r k : Int) : Bool := decide ((iI r >>> (iI k &&& iI 31)) &&& iI 1 = iI 1)
theorem bt_255 {k : Int} (h1 : 0 ≤ k) (h2 : k ≤ 7) : bt 255 k = true := by
  rcases (show k = 0 ∨ k = 1 ∨ k = 2 ∨ k = 3 ∨ k = 4 ∨ k = 5 ∨ k = 6 ∨ k = 7 by omega) with rfl | rfl | rfl | rfl | rfl | rfl | rfl | rfl <;> decide +kernel
/-- whether one of the first n beams lights a place of a row in a beat -/
def lts (f : Int → Int) (r t c : Int) : Nat → Bool
  | 0 => false
  | n + 1 => lts f r t c n || (bt (f (52 + 5 * (n : Int) + 4)) r && cov f n t c)
/-- whether a letter of a word can be lit in a beat, by the first n beams -/
def canN (f : Int → Int) (w k t : Int) (n : Nat) : Bool := decide (f (4 + 6 * w + 3) ≤ t) && lts f (f (4 + 6 * w + 1)) t (f (4 + 6 * w + 2) + k) n
def can (f : Int → Int) (w k t : Int) : Bool := canN f w k t (f 3).toNat
theorem canN_s (f : Int → Int) (w k t : Int) (n : Nat) : canN f w k t (n + 1) = (canN f w k t n || (decide (f (4 + 6 * w + 3) ≤ t) && (bt (f (52 + 5 * (n : Int) + 4)) (f (4 + 6 * w + 1)) && cov f n t (f (4 + 6 * w + 2) + k)))) := by
  unfold canN
  rw [lts, Bool.and_or_distrib_left]
theorem canN_0 (f : Int → Int) (w k t : Int) : canN f w k t 0 = false := by unfold canN; rw [lts, Bool.and_false]
theorem canN_early {f : Int → Int} {w k t : Int} {n : Nat} (h : t < f (4 + 6 * w + 3)) : canN f w k t n = false := by
  unfold canN; rw [decide_eq_false (by omega)]; rfl
/-- the first beat from t on, of the next m, in which p holds; -1 -/
def frs (p : Int → Bool) : Nat → Int → Int
  | 0, _ => -1
  | m + 1, t => if p t = true then t else frs p m (t + 1)
theorem frs_rng (p : Int → Bool) : ∀ (m : Nat) (t : Int), frs p m t = -1 ∨ (t ≤ frs p m t ∧ frs p m t < t + m ∧ p (frs p m t) = true)
  | 0, _ => Or.inl rfl
  | m + 1, t => by
    unfold frs
    split
    · rename_i h; exact Or.inr ⟨by omega, by omega, h⟩
    · rcases frs_rng p m (t + 1) with h | ⟨h1, h2, h3⟩
      · exact Or.inl h
      · exact Or.inr ⟨by omega, by omega, h3⟩
/-- the first beat from t on in which a letter can be lit; -1 -/
def fl (f : Int → Int) (w k t : Int) : Int := frs (can f w k) (200 - t).toNat t
theorem fl_rng (f : Int → Int) (w k : Int) {t : Int} (h0 : 0 ≤ t) (h : t ≤ 200) : fl f w k t = -1 ∨ (t ≤ fl f w k t ∧ fl f w k t < 200) := by
  unfold fl
  rcases frs_rng (can f w k) (200 - t).toNat t with h1 | ⟨h1, h2, -⟩
  · exact Or.inl h1
  · exact Or.inr ⟨h1, by omega⟩
