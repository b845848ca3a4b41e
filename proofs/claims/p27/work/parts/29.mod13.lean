/-- two states in which the word w stands under the same beams -/
def WEq (f g : Int → Int) (w : Int) : Prop := (f 0 = g 0 ∧ f 1 = g 1 ∧ f 3 = g 3) ∧ (∀ i : Int, 0 ≤ i → i < 6 → f (4 + 6 * w + i) = g (4 + 6 * w + i)) ∧ (∀ b : Int, 0 ≤ b → b < f 3 → ∀ i : Int, 0 ≤ i → i < 5 → f (52 + 5 * b + i) = g (52 + 5 * b + i))
theorem lts_cong {f g : Int → Int} {r t c : Int} : ∀ {n : Nat}, (∀ b : Int, 0 ≤ b → b < n → ∀ i : Int, 0 ≤ i → i < 5 → f (52 + 5 * b + i) = g (52 + 5 * b + i)) → lts f r t c n = lts g r t c n
  | 0, _ => rfl
  | n + 1, h => by
    have hn := h (n : Int) (by omega) (by omega)
    show (lts f r t c n || (bt (f (52 + 5 * (n : Int) + 4)) r && cov f n t c)) = (lts g r t c n || (bt (g (52 + 5 * (n : Int) + 4)) r && cov g n t c))
    unfold cov fst
    rw [lts_cong (fun b b0 b1 => h b b0 (by omega)), hn 0 (by omega) (by omega), hn 1 (by omega) (by omega), hn 2 (by omega) (by omega), hn 3 (by omega) (by omega), hn 4 (by omega) (by omega)]
theorem can_cong {f g : Int → Int} {w : Int} (h : WEq f g w) : can f w = can g w := by
  obtain ⟨⟨-, -, e3⟩, hw, hb⟩ := h
  funext k t
  unfold can canN
  rw [hw 1 (by omega) (by omega), hw 2 (by omega) (by omega), hw 3 (by omega) (by omega), ← e3, lts_cong (f := f) (g := g) (fun b b0 b1 => hb b b0 (by omega))]
theorem fl_cong {f g : Int → Int} {w : Int} (h : WEq f g w) : fl f w = fl g w := by
  funext k t
  unfold fl
  rw [can_cong h]
theorem latN_cong {f g : Int → Int} {w k : Int} (h : WEq f g w) : ∀ n : Nat, latN f w k n = latN g w k n
  | 0 => rfl
  | n + 1 => by
    unfold latN
    rw [can_cong h, latN_cong h n]
theorem alN_cong {f g : Int → Int} {w : Int} {t : Nat} (h : WEq f g w) : ∀ n : Nat, alN f w t n = alN g w t n
  | 0 => rfl
  | n + 1 => by
    unfold alN
    rw [alN_cong h n, latN_cong h, h.1.2.1]
theorem tog_cong {f g : Int → Int} {w : Int} (h : WEq f g w) : tog f w = tog g w := by
  unfold tog
  rw [h.2.1 0 (by omega) (by omega), h.2.1 3 (by omega) (by omega)]
  simp only [alN_cong h]
theorem lt1_cong {f g : Int → Int} {w : Int} (h : WEq f g w) : ∀ n : Nat, lt1 f w n = lt1 g w n
  | 0 => by unfold lt1; rw [fl_cong h, h.2.1 3 (by omega) (by omega)]
  | n + 1 => by unfold lt1; rw [lt1_cong h n, fl_cong h]
theorem litS_cong {f g : Int → Int} {w : Int} (h : WEq f g w) : litS f w = litS g w := by
  funext k
  unfold litS
  rw [tog_cong h, lt1_cong h, fl_cong h, h.2.1 3 (by omega) (by omega), h.2.1 4 (by omega) (by omega)]
theorem evN_cong {f g : Int → Int} {w : Int} (h : WEq f g w) : ∀ n : Nat, evN f w n = evN g w n
  | 0 => rfl
  | n + 1 => by unfold evN; rw [evN_cong h n, litS_cong h]
theorem lsN_cong {f g : Int → Int} {w : Int} (h : WEq f g w) : ∀ n : Nat, lsN f w n = lsN g w n
  | 0 => by unfold lsN; exact h.2.1 3 (by omega) (by omega)
  | n + 1 => by unfold lsN; rw [lsN_cong h n, litS_cong h]
theorem wlS_cong {f g : Int → Int} {w : Int} (h : WEq f g w) : wlS f w = wlS g w := by
  unfold wlS
  rw [evN_cong h, lsN_cong h, h.2.1 0 (by omega) (by omega)]
theorem barS_cong {f g : Int → Int} {w : Int} (h : WEq f g w) : barS f w = barS g w := by
  unfold barS
  rw [lsN_cong h, h.2.1 0 (by omega) (by omega), h.2.1 5 (by omega) (by omega), h.1.1]
theorem goS_cong {f g : Int → Int} {w : Int} (h : WEq f g w) : goS f w = goS g w := by
  unfold goS
  rw [evN_cong h, barS_cong h, h.2.1 0 (by omega) (by omega)]
/-- the word w with another cue -/
def cuF (f : Int → Int) (w q : Int) : Int → Int := up f (4 + 6 * w + 3) q
theorem cuF_OK {mb : Int} {f : Int → Int} {w q : Int} (hf : OK mb f) (w0 : 0 ≤ w) (w1 : w < f 2) (q0 : 0 ≤ q) (q1 : q ≤ 199) : OK mb (cuF f w q) := by
  have h8 := hf.2.2.1
  obtain ⟨a0, a1, a2, a3, a4, a5⟩ := hf
  unfold cuF OK
  rw [up_ne (by omega), up_ne (by omega), up_ne (by omega), up_ne (by omega)]
  refine ⟨a0, a1, a2, a3, fun v v0 v1 => ?_, fun b b0 b1 => OKb_cong (fun i i0 i1 => up_ne (by omega)) (a5 b b0 b1)⟩
  by_cases e : v = w
  · subst e
    have := a4 v v0 v1
    unfold OKw at this ⊢
    rw [up_ne (by omega), up_ne (by omega), up_ne (by omega), up_eq, up_ne (by omega), up_ne (by omega)]
    omega
  · exact OKw_cong (fun i i0 i1 => up_ne (by omega)) (a4 v v0 v1)
theorem cuF_2 {f : Int → Int} {w q : Int} (w0 : 0 ≤ w) : cuF f w q 2 = f 2 := up_ne (by omega)
theorem cuF_Z {f : Int → Int} {w q : Int} (h : Z f) (w0 : 0 ≤ w) (w1 : w < 8) : Z (cuF f w q) := Z_up h (by omega) (by omega)
theorem cuF_W {f : Int → Int} {w q v : Int} (w0 : 0 ≤ w) (w1 : w < 8) (v0 : 0 ≤ v) (e : v ≠ w) : WEq (cuF f w q) f v :=
  ⟨⟨up_ne (by omega), up_ne (by omega), up_ne (by omega)⟩, fun i i0 i1 => up_ne (by omega), fun b b0 b1 i i0 i1 => up_ne (by omega)⟩
theorem up_up {f : Int → Int} {a v u : Int} : up (up f a v) a u = up f a u := by
  funext k
  by_cases e : k = a
  · rw [e, up_eq, up_eq]
  · rw [up_ne e, up_ne e, up_ne e]
theorem up_self (f : Int → Int) (a : Int) : up f a (f a) = f := by
  funext k
  by_cases e : k = a
  · rw [e, up_eq]
  · rw [up_ne e]
/-- wholly lit, and in no clash with the first n words -/
def icN (f : Int → Int) (w : Int) : Nat → Bool
  | 0 => decide (wlS f w ≠ -1)
  | o + 1 => icN f w o && (decide ((o : Int) = w) || !(ecN f w o 200))
theorem icN_f {f : Int → Int} {w : Int} {o : Nat} (h : icN f w o = false) : ∀ m : Nat, icN f w (o + m) = false
  | 0 => h
  | m + 1 => by
    show (icN f w (o + m) && _) = false
    rw [icN_f h m]; rfl
/-- whether the word w with the cue q is clear -/
def icB (f : Int → Int) (w q : Int) : Bool := icN (cuF f w q) w (f 2).toNat
def ccS (f : Int → Int) (w : Int) : Int := frs (icB f w) (200 - f (4 + 6 * w + 3)).toNat (f (4 + 6 * w + 3))
