theorem shV_all : ∀ b : Fin 97, ∀ a : Fin 97, 1 ≤ b.val → a.val ≤ b.val → vf_n64 (FP.ddiv (FP.i2d (Int32.ofInt (a.val : Int))) (FP.i2d (Int32.ofInt (b.val : Int)))) ∧ (Op.cmpValue (FP.dcmp (FP.ddiv (FP.i2d (Int32.ofInt (a.val : Int))) (FP.i2d (Int32.ofInt (b.val : Int)))) (FP.ddiv (FP.i2d (Int32.ofInt (a.val : Int))) (FP.i2d (Int32.ofInt (b.val : Int))))) .l) = 0 := by
  unfold vf_n64
  decide +kernel
theorem shV_1 : (Op.cmpValue (FP.dcmp FP.dconst1 FP.dconst1) .l) = 0 := by decide +kernel
/-- the share of a of b letters -/
def shV (a b : Int) : UInt64 := if b = 0 then FP.dconst1 else FP.ddiv (FP.i2d (iI a)) (FP.i2d (iI b))
theorem shV_ok {a b : Int} (b0 : 0 ≤ b) (b1 : b ≤ 96) (a0 : 0 ≤ a) (a1 : a ≤ b) : (b ≠ 0 → vf_n64 (FP.ddiv (FP.i2d (iI a)) (FP.i2d (iI b)))) ∧ (Op.cmpValue (FP.dcmp (shV a b) (shV a b)) .l) = 0 := by
  unfold shV
  by_cases e : b = 0
  · rw [if_pos e]
    exact ⟨fun h => absurd e h, shV_1⟩
  · have := shV_all ⟨b.toNat, by omega⟩ ⟨a.toNat, by omega⟩ (show 1 ≤ b.toNat by omega) (show a.toNat ≤ b.toNat by omega)
    simp only [show ((a.toNat : Nat) : Int) = a by omega, show ((b.toNat : Nat) : Int) = b by omega] at this
    rw [if_neg e]
    exact ⟨fun _ => this.1, this.2⟩
theorem al_let {mb : Int} {f : Int → Int} (hf : OK mb f) : ∀ n : Nat, (n : Int) ≤ f 2 → sm (loS f) n ≤ sm (fun w => f (4 + 6 * w + 0)) n ∧ sm (fun w => f (4 + 6 * w + 0)) n ≤ 12 * n
  | 0, _ => by unfold sm; omega
  | n + 1, h => by
    have h1 := al_let hf n (by omega)
    have h2 := (hf.2.2.2.2.1 n (by omega) (by omega)).1
    have h3 := bsm_rng (fun k => decide (litS f n k ≠ -1)) (f (4 + 6 * (n : Int) + 0)).toNat
    have h4 : loS f n = sm (fun k => bi (decide (litS f n k ≠ -1))) (f (4 + 6 * (n : Int) + 0)).toNat := rfl
    rw [sm_s, sm_s, h4]
    omega
theorem shS_ok {mb : Int} {f : Int → Int} (hf : OK mb f) : 0 ≤ letS f ∧ letS f ≤ 96 ∧ 0 ≤ alS f ∧ alS f ≤ letS f := by
  have h8 := hf.2.2.1
  have h1 := al_let hf (f 2).toNat (by omega)
  have h2 := alS_rng hf
  unfold letS
  unfold alS at h2 ⊢
  omega
/-- n values mixed into a hash -/
def hs (h : Int64) (g : Int → Int) : Nat → Int64
  | 0 => h
  | n + 1 => 31 * hs h g n + (iI (g (n : Int))).toInt64
def dgW (f : Int → Int) (h : Int64) : Nat → Int64
  | 0 => h
  | n + 1 => hs (hs (dgW f h n) (woS f n) 10) (litS f n) (f (4 + 6 * (n : Int) + 0)).toNat
def dgB (f : Int → Int) (h : Int64) : Nat → Int64
  | 0 => h
  | n + 1 => hs (dgB f h n) (boS f n) 7
def dgT (f : Int → Int) (h : Int64) : Nat → Int64
  | 0 => h
  | n + 1 => hs (dgT f h n) (inS f (10 * (n : Int))) 5
def dg2 (f : Int → Int) (kp : Int) : Int64 := dgW f (31 * (31 * hs 2903 (coS f kp) 10 + (iI (f 0)).toInt64) + (iI (f 1)).toInt64) (f 2).toNat
def dg4 (f : Int → Int) (kp : Int) : Int64 := dgT f (dgB f (dg2 f kp) (f 3).toNat) 20
def dg6 (f : Int → Int) (kp : Int) : Int64 := 31 * hs (dg4 f kp) (ibS f 5 0 1 3) 3 + (iI (bsF f 0 0 19 + 9)).toInt64
def dg7 (f : Int → Int) (kp : Int) : Int64 := if f 2 = 0 then dg6 f kp else 31 * dg6 f kp + (iI (ccS f 0)).toInt64
def dg8 (f : Int → Int) (kp : Int) (n : Int) : Int64 := 31 * (31 * dg7 f kp + (shV (alS f) (letS f)).toInt64) + (iI n).toInt64
def dgS (f : Int → Int) (kp : Int) (T : Int → Int) (n : Int) : Int64 := hs (dg8 f kp n) T n.toNat
