theorem i32_r {x lo hi : Int} (h1 : lo ≤ x) (h2 : x ≤ hi) (h3 : -2147483648 ≤ lo := by omega) (h4 : hi < 2147483648 := by omega) : I32 x := ⟨by omega, by omega⟩
def tR (f : Int → Int) (w r h : Int) : Int := if 0 ≤ w ∧ w < f 2 then (if 0 ≤ r ∧ r ≤ 2 ∧ 0 ≤ h ∧ h ≤ 50 then 0 else 2) else 1
def tC (f : Int → Int) (w q : Int) : Int := if 0 ≤ w ∧ w < f 2 then (if 0 ≤ q ∧ q ≤ 199 then 0 else 2) else 1
def t1 (n w : Int) : Int := if 0 ≤ w ∧ w < n then 0 else 1
def tnF (f : Int → Int) (b : Int) : Int → Int := up f (52 + 5 * b + 2) (-f (52 + 5 * b + 2))
theorem tnF_OK {f : Int → Int} {b mb : Int} (hf : OK mb f) (b0 : 0 ≤ b) (b1 : b < f 3) : OK mb (tnF f b) :=
  upb_OK hf b0 b1 (by have := (hf.2.2.2.2.2 b b0 b1).2.2.1; omega)
def tS (s v : Int) : Int := if 0 ≤ s ∧ s ≤ 1 then (if (s = 0 ∧ 1 ≤ v ∧ v ≤ 16) ∨ (s = 1 ∧ 0 ≤ v ∧ v ≤ 20) then 0 else 2) else 1
def tA (n c : Int) : Int := if 33 ≤ c ∧ c ≤ 126 then (if n = 60 then 2 else 0) else 1
