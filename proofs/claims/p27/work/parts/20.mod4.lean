/-- rule 1: the beats in which letters are lit, from the left -/
def lt1 (f : Int → Int) (w : Int) : Nat → Int
  | 0 => fl f w 0 (f (4 + 6 * w + 3))
  | k + 1 => if lt1 f w k = -1 then -1 else fl f w ((k : Int) + 1) (lt1 f w k)
/-- the beat in which a letter is lit; -1 -/
def litS (f : Int → Int) (w k : Int) : Int := if f (4 + 6 * w + 4) = 2 then tog f w else if f (4 + 6 * w + 4) = 1 then lt1 f w k.toNat else fl f w k (f (4 + 6 * w + 3))
theorem lt1_rng {mb w : Int} {f : Int → Int} (hf : OK mb f) (w0 : 0 ≤ w) (w1 : w < f 2) : ∀ k : Nat, lt1 f w k = -1 ∨ (f (4 + 6 * w + 3) ≤ lt1 f w k ∧ lt1 f w k < 200)
  | 0 => by
    obtain ⟨-, -, -, ⟨q0, q1⟩, -⟩ := hf.2.2.2.2.1 w w0 w1
    exact fl_rng f w 0 q0 (by omega)
  | k + 1 => by
    obtain ⟨-, -, -, ⟨q0, q1⟩, -⟩ := hf.2.2.2.2.1 w w0 w1
    unfold lt1
    split
    · exact Or.inl rfl
    · rcases lt1_rng hf w0 w1 k with h | ⟨h1, h2⟩
      · rename_i h9; exact absurd h h9
      · rcases fl_rng f w ((k : Int) + 1) (t := lt1 f w k) (by omega) (by omega) with h | ⟨h3, h4⟩
        · exact Or.inl h
        · exact Or.inr ⟨by omega, h4⟩
theorem litS_rng {mb w : Int} {f : Int → Int} (hf : OK mb f) (w0 : 0 ≤ w) (w1 : w < f 2) (k : Int) : litS f w k = -1 ∨ (f (4 + 6 * w + 3) ≤ litS f w k ∧ litS f w k < 200) := by
  obtain ⟨-, -, -, ⟨q0, q1⟩, -⟩ := hf.2.2.2.2.1 w w0 w1
  unfold litS
  split
  · rcases frs_rng (fun t => alN f w t.toNat (f (4 + 6 * w + 0)).toNat) (200 - f (4 + 6 * w + 3)).toNat (f (4 + 6 * w + 3)) with h | ⟨h1, h2, -⟩
    · exact Or.inl h
    · exact Or.inr ⟨h1, by unfold tog; omega⟩
  · split
    · exact lt1_rng hf w0 w1 _
    · exact fl_rng f w k q0 (by omega)
/-- whether the first k letters are lit, and the last beat (or the cue) in which one of them is -/
def evN (f : Int → Int) (w : Int) : Nat → Bool
  | 0 => true
  | k + 1 => evN f w k && decide (litS f w k ≠ -1)
def lsN (f : Int → Int) (w : Int) : Nat → Int
  | 0 => f (4 + 6 * w + 3)
  | k + 1 => if litS f w k ≤ lsN f w k then lsN f w k else litS f w k
theorem lsN_rng {mb w : Int} {f : Int → Int} (hf : OK mb f) (w0 : 0 ≤ w) (w1 : w < f 2) : ∀ k : Nat, f (4 + 6 * w + 3) ≤ lsN f w k ∧ lsN f w k < 200
  | 0 => by
    obtain ⟨-, -, -, ⟨q0, q1⟩, -⟩ := hf.2.2.2.2.1 w w0 w1
    unfold lsN; omega
  | k + 1 => by
    have := lsN_rng hf w0 w1 k
    unfold lsN
    split
    · exact this
    · rcases litS_rng hf w0 w1 (k : Int) with h | h
      · omega
      · exact h
def wlS (f : Int → Int) (w : Int) : Int := if evN f w (f (4 + 6 * w + 0)).toNat = true then lsN f w (f (4 + 6 * w + 0)).toNat else -1
/-- the first beginning of a bar that is late enough -/
def barS (f : Int → Int) (w : Int) : Int :=
  ((if lsN f w (f (4 + 6 * w + 0)).toNat + f (4 + 6 * w + 5) ≤ lsN f w (f (4 + 6 * w + 0)).toNat then lsN f w (f (4 + 6 * w + 0)).toNat + 1 else lsN f w (f (4 + 6 * w + 0)).toNat + f (4 + 6 * w + 5)) + f 0 - 1) / f 0 * f 0
def goS (f : Int → Int) (w : Int) : Int := if evN f w (f (4 + 6 * w + 0)).toNat = true then (if barS f w < 200 then barS f w else -1) else -1
theorem iI_nat {n : Nat} (h : n < 2147483648) : iI (n : Int) = nI n := by
  apply Int32.toInt_inj.mp
  rw [iI_t (by omega) (by omega), nI_toInt (by omega)]
theorem iI_div {a b : Int} (h1 : 0 ≤ a) (h2 : a < 2147483648) (h3 : 0 < b) (h4 : b < 2147483648) : iI a / iI b = iI (a / b) := by
  have e1 : a = ((a.toNat : Nat) : Int) := by omega
  have e2 : b = ((b.toNat : Nat) : Int) := by omega
  rw [e1, e2, iI_nat (by omega), iI_nat (by omega), pk_div (by omega) (by omega) (by omega), ← iI_nat (by have := Nat.div_le_self a.toNat b.toNat; omega)]
  rw [Int.natCast_ediv]
theorem divb {x s : Int} (h1 : 0 ≤ x) (h2 : 1 ≤ s) : 0 ≤ x / s ∧ x / s * s ≤ x ∧ x < x / s * s + s := by
  have e1 := Int.emod_add_mul_ediv x s
  have e2 := Int.emod_nonneg x (show s ≠ 0 by omega)
  have e3 := Int.emod_lt_of_pos x (show 0 < s by omega)
  have e4 : s * (x / s) = x / s * s := Int.mul_comm _ _
  refine ⟨Int.ediv_nonneg h1 (by omega), ?_, ?_⟩ <;> omega
