theorem aI_u2 {f : Int → Int} {v : Int} : upd (aI f) 2 (iI v) = aI (up f 2 v) := aI_upN (n := 2)
theorem aI_u3 {f : Int → Int} {v : Int} : upd (aI f) 3 (iI v) = aI (up f 3 v) := aI_upN (n := 3)
/-- 87 places of g, from p on, laid into h from q on -/
def cpF (g : Int → Int) (p : Int) (h : Int → Int) (q : Int) : Int → Int := fun j => if q ≤ j ∧ j < q + 87 then g (p + (j - q)) else h j
def shF (P : Int → Int) : Int → Int := fun j => if 0 ≤ j ∧ j < 435 then P (j + 87) else P j
/-- the saved states, with this one behind them -/
def svP (f P : Int → Int) (k : Int) : Int → Int := if k = 6 then cpF f 0 (shF P) 435 else cpF f 0 P (87 * k)
def svK (k : Int) : Int := if k = 6 then 6 else k + 1
/-- a state with one more word, one more beam -/
def wdF (f : Int → Int) (l r c q : Int) : Int → Int := up (up (up (up (up (up (up f (4 + 6 * f 2) l) (4 + 6 * f 2 + 1) r) (4 + 6 * f 2 + 2) c) (4 + 6 * f 2 + 3) q) (4 + 6 * f 2 + 4) 0) (4 + 6 * f 2 + 5) 4) 2 (f 2 + 1)
def bmF (f : Int → Int) (t c s w r : Int) : Int → Int := up (up (up (up (up (up f (52 + 5 * f 3) t) (52 + 5 * f 3 + 1) c) (52 + 5 * f 3 + 2) s) (52 + 5 * f 3 + 3) w) (52 + 5 * f 3 + 4) r) 3 (f 3 + 1)
/-- why a word can't be added: 1, 2; 0: it can -/
def tW (f : Int → Int) (l r c q : Int) : Int := if 1 ≤ l ∧ l ≤ 12 ∧ 0 ≤ r ∧ r ≤ 7 ∧ 0 ≤ c ∧ c ≤ 59 ∧ 0 ≤ q ∧ q ≤ 199 ∧ c + l ≤ 60 then (if f 2 = 8 then 2 else 0) else 1
def tB (f : Int → Int) (t c s w r : Int) : Int := if 0 ≤ t ∧ t ≤ 199 ∧ 0 ≤ c ∧ c ≤ 59 ∧ -9 ≤ s ∧ s ≤ 9 ∧ 1 ≤ w ∧ w ≤ 9 ∧ 1 ≤ r ∧ r ≤ 255 then (if f 3 = 6 then 2 else 0) else 1
def I32 (x : Int) : Prop := -2147483648 ≤ x ∧ x < 2147483648
/-- a beam taken out -/
def ulF (f : Int → Int) (b : Int) : Int → Int := fun j => if j = 3 then f 3 - 1 else if 52 + 5 * b ≤ j ∧ j < 52 + 5 * (f 3 - 1) then f (j + 5) else f j
