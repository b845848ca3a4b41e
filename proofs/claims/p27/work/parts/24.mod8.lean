def in0 (f : Int → Int) (t : Int) : Int := sm (fun w => soS f w t) (f 2).toNat
def in1 (f : Int → Int) (t : Int) : Int := sm (fun w => bi (decide (0 < soS f w t))) (f 2).toNat
def in2 (f : Int → Int) (t : Int) : Int := sm (fun w => bi (decide (wlS f w ≠ -1) && (decide (wlS f w ≤ t) && decide (0 < soS f w t)))) (f 2).toNat
def in4 (f : Int → Int) (t : Int) : Int := sm (fun b => bi (cos f b t)) (f 3).toNat
def inG (f : Int → Int) (t i w : Int) : Int := if i = 0 then soS f w t else if i = 1 then bi (decide (0 < soS f w t)) else bi (decide (wlS f w ≠ -1) && (decide (wlS f w ≤ t) && decide (0 < soS f w t)))
def inS (f : Int → Int) (t i : Int) : Int := if i < 3 then sm (inG f t i) (f 2).toNat else if i = 3 then cls f t else in4 f t
theorem inS_0 (f : Int → Int) (t : Int) : inS f t 0 = in0 f t := rfl
theorem inS_1 (f : Int → Int) (t : Int) : inS f t 1 = in1 f t := rfl
theorem inS_2 (f : Int → Int) (t : Int) : inS f t 2 = in2 f t := rfl
theorem inS_3 (f : Int → Int) (t : Int) : inS f t 3 = cls f t := rfl
theorem inS_4 (f : Int → Int) (t : Int) : inS f t 4 = in4 f t := rfl
theorem inG_rng {mb w : Int} {f : Int → Int} (hf : OK mb f) (t i : Int) (w0 : 0 ≤ w) (w1 : w < f 2) : 0 ≤ inG f t i w ∧ inG f t i w ≤ 12 := by
  have h1 := so_rng hf w0 w1 t
  have h2 := bi_rng (decide (0 < soS f w t))
  have h3 := bi_rng (decide (wlS f w ≠ -1) && (decide (wlS f w ≤ t) && decide (0 < soS f w t)))
  unfold inG
  split
  · exact h1
  · split <;> omega
theorem inGs_rng {mb : Int} {f : Int → Int} (hf : OK mb f) (t i : Int) (n : Nat) (hn : (n : Int) ≤ f 2) : 0 ≤ sm (inG f t i) n ∧ sm (inG f t i) n ≤ 12 * n :=
  sm_rng (c := 12) (by omega) (fun k k0 k1 => inG_rng hf t i k0 (by omega))
theorem in1_rng {mb : Int} {f : Int → Int} (hf : OK mb f) (t : Int) : 0 ≤ in1 f t ∧ in1 f t ≤ 8 := by
  have h8 := hf.2.2.1
  have := bsm_rng (fun w => decide (0 < soS f w t)) (f 2).toNat
  unfold in1; omega
/-- whether a letter of a word is seen in a place -/
def stB (f : Int → Int) (t r c w : Int) : Bool := decide (f (4 + 6 * w + 1) = r) && (decide (lta f w c ≠ -1) && snS f w (lta f w c) t)
def stS (f : Int → Int) (t r c : Int) : Int := frs (stB f t r c) (f 2).toNat 0
/-- two words clash in one of the first n beats -/
def ecN (f : Int → Int) (w o : Int) : Nat → Bool
  | 0 => false
  | t + 1 => ecN f w o t || cl f w o t
theorem ecN_iff (f : Int → Int) (w o : Int) : ∀ n : Nat, ecN f w o n = true ↔ ∃ t : Int, 0 ≤ t ∧ t < n ∧ cl f w o t = true
  | 0 => by
    unfold ecN
    constructor
    · intro h; exact absurd h (by decide)
    · rintro ⟨t, h1, h2, -⟩; omega
  | n + 1 => by
    unfold ecN
    rw [Bool.or_eq_true, ecN_iff f w o n]
    constructor
    · rintro (⟨t, h1, h2, h3⟩ | h)
      · exact ⟨t, h1, by omega, h3⟩
      · exact ⟨n, by omega, by omega, h⟩
    · rintro ⟨t, h1, h2, h3⟩
      by_cases e : t = n
      · exact Or.inr (by rw [← e]; exact h3)
      · exact Or.inl ⟨t, h1, by omega, h3⟩
theorem ecN_stay {f : Int → Int} {w o : Int} {t n : Nat} (h : ecN f w o t = true) (hn : t ≤ n) : ecN f w o n = true := by
  rw [ecN_iff] at h ⊢
  obtain ⟨x, h1, h2, h3⟩ := h
  exact ⟨x, h1, by omega, h3⟩
def paO (f : Int → Int) (w : Int) (n : Nat) : Int := sm (fun o => bi (ecN f w o 200)) n
def paS (f : Int → Int) : Int := sm (fun w => paO f w w.toNat) (f 2).toNat
def lwN (f : Int → Int) : Nat → Int
  | 0 => -1
  | w + 1 => if wlS f w ≤ lwN f w then lwN f w else wlS f w
theorem wl_rng {mb w : Int} {f : Int → Int} (hf : OK mb f) (w0 : 0 ≤ w) (w1 : w < f 2) : -1 ≤ wlS f w ∧ wlS f w < 200 := by
  have h := lsN_rng hf w0 w1 (f (4 + 6 * w + 0)).toNat
  have h3 := (hf.2.2.2.2.1 w w0 w1).2.2.2.1
  unfold wlS
  split <;> omega
theorem lwN_rng {mb : Int} {f : Int → Int} (hf : OK mb f) : ∀ n : Nat, (n : Int) ≤ f 2 → -1 ≤ lwN f n ∧ lwN f n < 200
  | 0, _ => by unfold lwN; omega
  | n + 1, hn => by
    have h1 := lwN_rng hf n (by omega)
    have h2 := wl_rng hf (w := n) (by omega) (by omega)
    unfold lwN
    split <;> omega
def dkS (f : Int → Int) : Int := sm (fun t => bi (decide (in1 f t = 0))) 200
/-- a number of the state; kp: the saved states -/
def coS (f : Int → Int) (kp i : Int) : Int := if i = 0 then f 2 else if i = 1 then f 3 else if i = 2 then letS f else if i = 3 then alS f else if i = 4 then whS f else if i = 5 then lwN f (f 2).toNat else if i = 6 then dkS f else if i = 7 then cgS f else if i = 8 then paS f else kp
