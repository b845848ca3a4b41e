def bi (b : Bool) : Int := if b then 1 else 0
theorem bi_rng (b : Bool) : 0 ≤ bi b ∧ bi b ≤ 1 := by cases b <;> decide
theorem bi_t {b : Bool} (h : b = true) : bi b = 1 := by rw [h]; rfl
theorem bi_f {b : Bool} (h : b = false) : bi b = 0 := by rw [h]; rfl
theorem bi_0 (b : Bool) : (bi b = 0) = (b = false) := by cases b <;> simp [bi]
theorem bi_nar (b : Bool) : narrow .boolean (.int (iI (bi b))) = .int (iI (bi b)) := narZ (by cases b; exact Or.inl rfl; exact Or.inr rfl)
theorem bi_fit (b : Bool) : fits .boolean (.int (iI (bi b))) = true := fitZ (by cases b; exact Or.inl rfl; exact Or.inr rfl)
theorem iI_bi0 (b : Bool) : (iI (bi b) = iI 0) = (b = false) := by
  rw [iI_eq (by have := bi_rng b; omega) (by have := bi_rng b; omega) (by omega) (by omega), bi_0]
theorem aI_l0 (f : Int → Int) : aI f 0 = iI (f 0) := rfl
theorem aI_l1 (f : Int → Int) : aI f 1 = iI (f 1) := rfl
theorem aI_l2 (f : Int → Int) : aI f 2 = iI (f 2) := rfl
theorem aI_l3 (f : Int → Int) : aI f 3 = iI (f 3) := rfl
/-- a branch on what a Bool says -/
theorem br_b {b : Bool} {A B : Prop} (h1 : b = false → A) (h2 : b = true → B) : (iI (bi b) = iI 0 → A) ∧ (¬ iI (bi b) = iI 0 → B) := by
  rw [iI_bi0]
  exact ⟨h1, fun h => h2 (by cases b; exact absurd rfl h; rfl)⟩
theorem br_b' {b : Bool} {A B : Prop} (h1 : b = false → A) (h2 : b = true → B) : (¬ iI (bi b) = iI 0 → B) ∧ (iI (bi b) = iI 0 → A) := ⟨(br_b h1 h2).2, (br_b h1 h2).1⟩
/-- v lies from lo to hi -/
def inn (v lo hi : Int) : Bool := decide (lo ≤ v) && decide (v ≤ hi)
theorem inn_iff (v lo hi : Int) : inn v lo hi = true ↔ lo ≤ v ∧ v ≤ hi := by simp [inn]
theorem inn_f {v lo hi : Int} : inn v lo hi = false ↔ v < lo ∨ hi < v := by
  rw [← Bool.not_eq_true, inn_iff]; omega
def OKw (f : Int → Int) (w : Int) : Prop := (1 ≤ f (4 + 6 * w + 0) ∧ f (4 + 6 * w + 0) ≤ 12) ∧ (0 ≤ f (4 + 6 * w + 1) ∧ f (4 + 6 * w + 1) ≤ 7) ∧ (0 ≤ f (4 + 6 * w + 2) ∧ f (4 + 6 * w + 2) + f (4 + 6 * w + 0) ≤ 60) ∧ (0 ≤ f (4 + 6 * w + 3) ∧ f (4 + 6 * w + 3) ≤ 199) ∧ (0 ≤ f (4 + 6 * w + 4) ∧ f (4 + 6 * w + 4) ≤ 2) ∧ (0 ≤ f (4 + 6 * w + 5) ∧ f (4 + 6 * w + 5) ≤ 50)
def OKb (f : Int → Int) (b : Int) : Prop := (0 ≤ f (52 + 5 * b + 0) ∧ f (52 + 5 * b + 0) ≤ 199) ∧ (0 ≤ f (52 + 5 * b + 1) ∧ f (52 + 5 * b + 1) ≤ 59) ∧ (-9 ≤ f (52 + 5 * b + 2) ∧ f (52 + 5 * b + 2) ≤ 9) ∧ (1 ≤ f (52 + 5 * b + 3) ∧ f (52 + 5 * b + 3) ≤ 9) ∧ (1 ≤ f (52 + 5 * b + 4) ∧ f (52 + 5 * b + 4) ≤ 255)
/-- a good state, with at most mb beams -/
def OK (mb : Int) (f : Int → Int) : Prop := (1 ≤ f 0 ∧ f 0 ≤ 16) ∧ (0 ≤ f 1 ∧ f 1 ≤ 20) ∧ (0 ≤ f 2 ∧ f 2 ≤ 8) ∧ (0 ≤ f 3 ∧ f 3 ≤ mb) ∧ (∀ w, 0 ≤ w → w < f 2 → OKw f w) ∧ (∀ b, 0 ≤ b → b < f 3 → OKb f b)
theorem mulb {s a n : Int} (h1 : -9 ≤ s) (h2 : s ≤ 9) (h3 : 0 ≤ a) (h4 : a ≤ n) : -(9 * n) ≤ s * a ∧ s * a ≤ 9 * n := by
  have e1 := Int.mul_le_mul_of_nonneg_right h2 h3
  have e2 := Int.mul_le_mul_of_nonneg_right h1 h3
  omega
/-- the first column that a beam covers in a beat -/
def fst (f : Int → Int) (b t : Int) : Int := f (52 + 5 * b + 1) + f (52 + 5 * b + 2) * (t - f (52 + 5 * b + 0))
theorem fst_rng {f : Int → Int} {b t : Int} (hb : OKb f b) (h1 : f (52 + 5 * b + 0) ≤ t) (h2 : t ≤ 199) : -1791 ≤ fst f b t ∧ fst f b t ≤ 1850 := by
  obtain ⟨⟨a1, a2⟩, ⟨b1, b2⟩, ⟨c1, c2⟩, -⟩ := hb
  have := mulb c1 c2 (a := t - f (52 + 5 * b + 0)) (n := 199) (by omega) (by omega)
  unfold fst
  omega
/-- whether a beam covers a column in a beat -/
def cov (f : Int → Int) (b t c : Int) : Bool := decide (f (52 + 5 * b + 0) ≤ t) && inn (c - fst f b t) 0 (f (52 + 5 * b + 3) - 1)
/-- whether a beam covers some column in a beat -/
def cos (f : Int → Int) (b t : Int) : Bool := decide (f (52 + 5 * b + 0) ≤ t) && (decide (fst f b t < 60) && decide (0 < fst f b t + f (52 + 5 * b + 3)))
