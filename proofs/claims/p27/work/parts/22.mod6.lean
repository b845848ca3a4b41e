/-- sums -/
def sm (g : Int → Int) : Nat → Int
  | 0 => 0
  | n + 1 => sm g n + g (n : Int)
theorem sm_s (g : Int → Int) (n : Nat) : sm g (n + 1) = sm g n + g (n : Int) := rfl
theorem sm_rng {g : Int → Int} {c : Int} (hc : 0 ≤ c) : ∀ {n : Nat}, (∀ k : Int, 0 ≤ k → k < n → 0 ≤ g k ∧ g k ≤ c) → 0 ≤ sm g n ∧ sm g n ≤ c * n
  | 0, _ => by unfold sm; omega
  | n + 1, h => by
    have h1 := sm_rng hc (n := n) (fun k k0 k1 => h k k0 (by omega))
    have h2 := h n (by omega) (by omega)
    rw [sm_s]
    have e : c * ((n + 1 : Nat) : Int) = c * n + c := by rw [show ((n + 1 : Nat) : Int) = (n : Int) + 1 by omega, Int.mul_add, Int.mul_one]
    omega
theorem sm_cong {g g2 : Int → Int} : ∀ {n : Nat}, (∀ k : Int, 0 ≤ k → k < n → g k = g2 k) → sm g n = sm g2 n
  | 0, _ => rfl
  | n + 1, h => by rw [sm_s, sm_s, sm_cong (fun k k0 k1 => h k k0 (by omega)), h n (by omega) (by omega)]
/-- a letter is seen -/
def sn (li go : Int → Int) (w k t : Int) : Bool := decide (li (12 * w + k) ≠ -1) && (decide (li (12 * w + k) ≤ t) && (decide (go w = -1) || decide (t < go w)))
def snS (f : Int → Int) (w k t : Int) : Bool := decide (litS f w k ≠ -1) && (decide (litS f w k ≤ t) && (decide (goS f w = -1) || decide (t < goS f w)))
theorem sn_S {f li wh go : Int → Int} {n w k t : Int} (hl : Ld f n li wh go) (w0 : 0 ≤ w) (w1 : w < n) (k0 : 0 ≤ k) (k1 : k < f (4 + 6 * w + 0)) : sn li go w k t = snS f w k t := by
  obtain ⟨h1, h2, h3⟩ := hl w w0 w1
  unfold sn snS
  rw [h1 k k0 k1, h3]
/-- the letter of a word that is in a column; -1 -/
def lta (f : Int → Int) (w c : Int) : Int := if inn (c - f (4 + 6 * w + 2)) 0 (f (4 + 6 * w + 0) - 1) = true then c - f (4 + 6 * w + 2) else -1
theorem lta_rng {f : Int → Int} {w c : Int} : lta f w c = -1 ∨ (0 ≤ lta f w c ∧ lta f w c < f (4 + 6 * w + 0)) := by
  unfold lta
  split
  · rename_i h; rw [inn_iff] at h; exact Or.inr ⟨by omega, by omega⟩
  · exact Or.inl rfl
/-- two words clash in a beat, by the first n letters of the one -/
def clN (f : Int → Int) (w o t : Int) : Nat → Bool
  | 0 => false
  | k + 1 => clN f w o t k || (decide (lta f o (f (4 + 6 * w + 2) + k) ≠ -1) && (snS f w k t && snS f o (lta f o (f (4 + 6 * w + 2) + k)) t))
def cl (f : Int → Int) (w o t : Int) : Bool := decide (f (4 + 6 * w + 1) = f (4 + 6 * o + 1)) && clN f w o t (f (4 + 6 * w + 0)).toNat
theorem clN_s (f : Int → Int) (w o t : Int) (k : Nat) : clN f w o t (k + 1) = (clN f w o t k || (decide (lta f o (f (4 + 6 * w + 2) + k) ≠ -1) && (snS f w k t && snS f o (lta f o (f (4 + 6 * w + 2) + k)) t))) := rfl
theorem ld_rng {mb : Int} {f li wh go : Int → Int} {n w : Int} (hf : OK mb f) (hn : n ≤ f 2) (hl : Ld f n li wh go) (w0 : 0 ≤ w) (w1 : w < n) : (∀ k : Int, 0 ≤ k → k < f (4 + 6 * w + 0) → -1 ≤ li (12 * w + k) ∧ li (12 * w + k) < 200) ∧ (-1 ≤ go w ∧ go w < 200) ∧ (-1 ≤ wh w ∧ wh w < 200) := by
  obtain ⟨h1, h2, h3⟩ := hl w w0 w1
  obtain ⟨-, -, -, ⟨q0, q1⟩, -⟩ := hf.2.2.2.2.1 w w0 (by omega)
  have hls := lsN_rng hf w0 (by omega) (f (4 + 6 * w + 0)).toNat
  refine ⟨fun k k0 k1 => ?_, ?_, ?_⟩
  · rw [h1 k k0 k1]
    have := litS_rng hf w0 (by omega) k
    omega
  · rw [h3]
    unfold goS
    split
    · split
      · have : 0 ≤ barS f w := by
          unfold barS
          have hs := hf.1
          have ho := (hf.2.2.2.2.1 w w0 (by omega)).2.2.2.2.2
          have := divb (x := (if lsN f w (f (4 + 6 * w + 0)).toNat + f (4 + 6 * w + 5) ≤ lsN f w (f (4 + 6 * w + 0)).toNat then lsN f w (f (4 + 6 * w + 0)).toNat + 1 else lsN f w (f (4 + 6 * w + 0)).toNat + f (4 + 6 * w + 5)) + f 0 - 1) (s := f 0) (by split <;> omega) (by omega)
          exact Int.mul_nonneg this.1 (by omega)
        omega
      · omega
    · omega
  · rw [h2]
    unfold wlS
    split <;> omega
/-- pairs of words that clash in a beat -/
def clsO (f : Int → Int) (t w : Int) (n : Nat) : Int := sm (fun o => bi (cl f w o t)) n
def cls (f : Int → Int) (t : Int) : Int := sm (fun w => clsO f t w w.toNat) (f 2).toNat
theorem clsO_rng (f : Int → Int) (t w : Int) (n : Nat) : 0 ≤ clsO f t w n ∧ clsO f t w n ≤ n := by
  have := sm_rng (g := fun o => bi (cl f w o t)) (c := 1) (by omega) (n := n) (fun k _ _ => bi_rng _)
  unfold clsO
  omega
theorem cls_rng {f : Int → Int} (h2 : 0 ≤ f 2 ∧ f 2 ≤ 8) (t : Int) : ∀ n : Nat, (n : Int) ≤ f 2 → 0 ≤ sm (fun w => clsO f t w w.toNat) n ∧ sm (fun w => clsO f t w w.toNat) n ≤ 8 * n := by
  intro n hn
  exact sm_rng (c := 8) (by omega) (fun k k0 k1 => by
    have := clsO_rng f t k k.toNat
    show 0 ≤ clsO f t k k.toNat ∧ clsO f t k k.toNat ≤ 8
    omega)
