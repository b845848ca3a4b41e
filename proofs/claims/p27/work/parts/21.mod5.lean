/-- the rows hold what is shown of the first n words -/
def Ld (f : Int → Int) (n : Int) (li wh go : Int → Int) : Prop := ∀ w : Int, 0 ≤ w → w < n → (∀ j : Int, 0 ≤ j → j < f (4 + 6 * w + 0) → li (12 * w + j) = litS f w j) ∧ wh w = wlS f w ∧ go w = goS f w
