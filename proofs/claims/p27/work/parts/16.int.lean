/-! whole numbers for the machine's ints: iI z is the int of z; aI f is the row whose place k holds the int of f k -/
def iI (z : Int) : Int32 := Int32.ofInt z
def aI (f : Int → Int) : Nat → Int32 := fun k => iI (f (k : Int))
def up (f : Int → Int) (a v : Int) : Int → Int := fun k => if k = a then v else f k
theorem bm32 {z : Int} (h1 : -2147483648 ≤ z) (h2 : z < 2147483648) : z.bmod (2 ^ 32) = z := by
  rw [Int.bmod_eq_of_le (by omega) (by omega)]
theorem bm64 {z : Int} (h1 : -9223372036854775808 ≤ z) (h2 : z < 9223372036854775808) : z.bmod (2 ^ 64) = z := by
  rw [Int.bmod_eq_of_le (by omega) (by omega)]
theorem iI_t {z : Int} (h1 : -2147483648 ≤ z) (h2 : z < 2147483648) : (iI z).toInt = z := by
  unfold iI; rw [Int32.toInt_ofInt, bm32 h1 h2]
theorem iI_of (x : Int32) : iI x.toInt = x := Int32.ofInt_toInt x
theorem iI_rng (x : Int32) : -2147483648 ≤ x.toInt ∧ x.toInt < 2147483648 := by
  have h1 := Int32.le_toInt x
  have h2 := Int32.toInt_lt x
  omega
theorem iI_ex (x : Int32) : ∃ z : Int, x = iI z ∧ -2147483648 ≤ z ∧ z < 2147483648 := ⟨x.toInt, (iI_of x).symm, (iI_rng x).1, (iI_rng x).2⟩
theorem iI_add (a b : Int) : iI a + iI b = iI (a + b) := by unfold iI; exact (Int32.ofInt_add a b).symm
theorem iI_mul (a b : Int) : iI a * iI b = iI (a * b) := by unfold iI; exact (Int32.ofInt_mul a b).symm
theorem iI_neg (a : Int) : -iI a = iI (-a) := by unfold iI; exact (Int32.ofInt_neg a).symm
theorem iI_sub (a b : Int) : iI a - iI b = iI (a - b) := by unfold iI; exact (Int32.ofInt_sub a b).symm
theorem iI_lt {a b : Int} (h1 : -2147483648 ≤ a) (h2 : a < 2147483648) (h3 : -2147483648 ≤ b) (h4 : b < 2147483648) : (iI a < iI b) = (a < b) := by
  rw [Int32.lt_iff_toInt_lt, iI_t h1 h2, iI_t h3 h4]
theorem iI_le {a b : Int} (h1 : -2147483648 ≤ a) (h2 : a < 2147483648) (h3 : -2147483648 ≤ b) (h4 : b < 2147483648) : (iI a ≤ iI b) = (a ≤ b) := by
  rw [Int32.le_iff_toInt_le, iI_t h1 h2, iI_t h3 h4]
theorem iI_eq {a b : Int} (h1 : -2147483648 ≤ a) (h2 : a < 2147483648) (h3 : -2147483648 ≤ b) (h4 : b < 2147483648) : (iI a = iI b) = (a = b) := by
  rw [← Int32.toInt_inj, iI_t h1 h2, iI_t h3 h4]
theorem iI_cl {a : Int} (h1 : 0 ≤ a) (h2 : a < 2147483648) : (iI a).toNatClampNeg = a.toNat := by
  show (iI a).toInt.toNat = _
  rw [iI_t (by omega) h2]
theorem iI_in {a : Int} {n : Nat} (h1 : 0 ≤ a) (h2 : a < n) (h3 : (n : Int) ≤ 2147483648) : vp_in (iI a) n := by
  rw [vp_in_iff, iI_t (by omega) (by omega)]
  omega
theorem aI_at {f : Int → Int} {a : Int} (h : 0 ≤ a) : aI f a.toNat = iI (f a) := by
  unfold aI; rw [Int.toNat_of_nonneg h]
theorem aI_lit (f : Int → Int) (n : Nat) : aI f n = iI (f (n : Int)) := rfl
theorem aI_up {f : Int → Int} {a v : Int} (h : 0 ≤ a) : upd (aI f) a.toNat (iI v) = aI (up f a v) := by
  funext k
  unfold upd aI up
  by_cases e : k = a.toNat
  · rw [if_pos e, if_pos (by omega)]
  · rw [if_neg e, if_neg (by omega)]
theorem aI_upN {f : Int → Int} {n : Nat} {v : Int} : upd (aI f) n (iI v) = aI (up f (n : Int) v) := by
  have := aI_up (f := f) (a := (n : Int)) (v := v) (by omega)
  rwa [Int.toNat_natCast] at this
theorem aI_0 : (fun _ => 0 : Nat → Int32) = aI (fun _ => 0) := rfl
theorem aI_of (g : Nat → Int32) : g = aI (fun k => (g k.toNat).toInt) := by
  funext k
  unfold aI
  rw [iI_of, Int.toNat_natCast]
theorem iI_if (c : Prop) [Decidable c] (a b : Int) : (if c then iI a else iI b) = iI (if c then a else b) := by split <;> rfl
theorem up_eq (f : Int → Int) (a v : Int) : up f a v a = v := by unfold up; rw [if_pos rfl]
theorem up_ne {f : Int → Int} {a v k : Int} (h : k ≠ a) : up f a v k = f k := by unfold up; rw [if_neg h]
theorem iI_l {a : Int} (h1 : -2147483648 ≤ a) (h2 : a < 2147483648) : (iI a).toInt64 = Int64.ofInt a := by
  apply Int64.toInt_inj.mp
  rw [Int32.toInt_toInt64, iI_t h1 h2, Int64.toInt_ofInt, bm64 (by omega) (by omega)]
theorem br {c A B : Prop} (h1 : c → A) (h2 : ¬ c → B) : (c → A) ∧ (¬ c → B) := ⟨h1, h2⟩
theorem narZ {r : Int32} (h : r = 0 ∨ r = 1) : narrow .boolean (.int r) = .int r := by rcases h with rfl | rfl <;> rfl
theorem fitZ {r : Int32} (h : r = 0 ∨ r = 1) : fits .boolean (.int r) = true := by rcases h with rfl | rfl <;> rfl
theorem i_m9 : (-9 : Int32) = iI (-9) := by decide
theorem i_m1 : (-1 : Int32) = iI (-1) := by decide
theorem i_0 : (0 : Int32) = iI 0 := by decide
theorem i_1 : (1 : Int32) = iI 1 := by decide
theorem i_2 : (2 : Int32) = iI 2 := by decide
theorem i_3 : (3 : Int32) = iI 3 := by decide
theorem i_4 : (4 : Int32) = iI 4 := by decide
theorem i_5 : (5 : Int32) = iI 5 := by decide
theorem i_6 : (6 : Int32) = iI 6 := by decide
theorem i_7 : (7 : Int32) = iI 7 := by decide
theorem i_8 : (8 : Int32) = iI 8 := by decide
theorem i_9 : (9 : Int32) = iI 9 := by decide
theorem i_10 : (10 : Int32) = iI 10 := by decide
theorem i_11 : (11 : Int32) = iI 11 := by decide
theorem i_12 : (12 : Int32) = iI 12 := by decide
theorem i_13 : (13 : Int32) = iI 13 := by decide
theorem i_14 : (14 : Int32) = iI 14 := by decide
theorem i_15 : (15 : Int32) = iI 15 := by decide
theorem i_16 : (16 : Int32) = iI 16 := by decide
theorem i_17 : (17 : Int32) = iI 17 := by decide
theorem i_18 : (18 : Int32) = iI 18 := by decide
theorem i_19 : (19 : Int32) = iI 19 := by decide
theorem i_20 : (20 : Int32) = iI 20 := by decide
theorem i_21 : (21 : Int32) = iI 21 := by decide
theorem i_22 : (22 : Int32) = iI 22 := by decide
theorem i_23 : (23 : Int32) = iI 23 := by decide
theorem i_24 : (24 : Int32) = iI 24 := by decide
theorem i_25 : (25 : Int32) = iI 25 := by decide
theorem i_26 : (26 : Int32) = iI 26 := by decide
theorem i_27 : (27 : Int32) = iI 27 := by decide
theorem i_28 : (28 : Int32) = iI 28 := by decide
theorem i_29 : (29 : Int32) = iI 29 := by decide
theorem i_30 : (30 : Int32) = iI 30 := by decide
theorem i_31 : (31 : Int32) = iI 31 := by decide
theorem i_32 : (32 : Int32) = iI 32 := by decide
theorem i_33 : (33 : Int32) = iI 33 := by decide
theorem i_34 : (34 : Int32) = iI 34 := by decide
theorem i_35 : (35 : Int32) = iI 35 := by decide
theorem i_36 : (36 : Int32) = iI 36 := by decide
theorem i_37 : (37 : Int32) = iI 37 := by decide
theorem i_38 : (38 : Int32) = iI 38 := by decide
theorem i_39 : (39 : Int32) = iI 39 := by decide
theorem i_40 : (40 : Int32) = iI 40 := by decide
theorem i_41 : (41 : Int32) = iI 41 := by decide
theorem i_42 : (42 : Int32) = iI 42 := by decide
theorem i_43 : (43 : Int32) = iI 43 := by decide
theorem i_44 : (44 : Int32) = iI 44 := by decide
theorem i_45 : (45 : Int32) = iI 45 := by decide
theorem i_46 : (46 : Int32) = iI 46 := by decide
theorem i_47 : (47 : Int32) = iI 47 := by decide
theorem i_48 : (48 : Int32) = iI 48 := by decide
theorem i_49 : (49 : Int32) = iI 49 := by decide
theorem i_50 : (50 : Int32) = iI 50 := by decide
theorem i_51 : (51 : Int32) = iI 51 := by decide
theorem i_52 : (52 : Int32) = iI 52 := by decide
theorem i_53 : (53 : Int32) = iI 53 := by decide
theorem i_54 : (54 : Int32) = iI 54 := by decide
theorem i_55 : (55 : Int32) = iI 55 := by decide
theorem i_56 : (56 : Int32) = iI 56 := by decide
theorem i_57 : (57 : Int32) = iI 57 := by decide
theorem i_58 : (58 : Int32) = iI 58 := by decide
theorem i_59 : (59 : Int32) = iI 59 := by decide
theorem i_60 : (60 : Int32) = iI 60 := by decide
theorem i_61 : (61 : Int32) = iI 61 := by decide
theorem i_62 : (62 : Int32) = iI 62 := by decide
theorem i_63 : (63 : Int32) = iI 63 := by decide
theorem i_64 : (64 : Int32) = iI 64 := by decide
theorem i_65 : (65 : Int32) = iI 65 := by decide
theorem i_66 : (66 : Int32) = iI 66 := by decide
theorem i_67 : (67 : Int32) = iI 67 := by decide
theorem i_68 : (68 : Int32) = iI 68 := by decide
theorem i_69 : (69 : Int32) = iI 69 := by decide
theorem i_70 : (70 : Int32) = iI 70 := by decide
theorem i_72 : (72 : Int32) = iI 72 := by decide
theorem i_77 : (77 : Int32) = iI 77 := by decide
theorem i_78 : (78 : Int32) = iI 78 := by decide
theorem i_80 : (80 : Int32) = iI 80 := by decide
theorem i_81 : (81 : Int32) = iI 81 := by decide
theorem i_82 : (82 : Int32) = iI 82 := by decide
theorem i_83 : (83 : Int32) = iI 83 := by decide
theorem i_84 : (84 : Int32) = iI 84 := by decide
theorem i_87 : (87 : Int32) = iI 87 := by decide
theorem i_88 : (88 : Int32) = iI 88 := by decide
theorem i_96 : (96 : Int32) = iI 96 := by decide
theorem i_98 : (98 : Int32) = iI 98 := by decide
theorem i_100 : (100 : Int32) = iI 100 := by decide
theorem i_101 : (101 : Int32) = iI 101 := by decide
theorem i_103 : (103 : Int32) = iI 103 := by decide
theorem i_118 : (118 : Int32) = iI 118 := by decide
theorem i_119 : (119 : Int32) = iI 119 := by decide
theorem i_126 : (126 : Int32) = iI 126 := by decide
theorem i_133 : (133 : Int32) = iI 133 := by decide
theorem i_137 : (137 : Int32) = iI 137 := by decide
theorem i_144 : (144 : Int32) = iI 144 := by decide
theorem i_154 : (154 : Int32) = iI 154 := by decide
theorem i_158 : (158 : Int32) = iI 158 := by decide
theorem i_160 : (160 : Int32) = iI 160 := by decide
theorem i_190 : (190 : Int32) = iI 190 := by decide
theorem i_199 : (199 : Int32) = iI 199 := by decide
theorem i_200 : (200 : Int32) = iI 200 := by decide
theorem i_207 : (207 : Int32) = iI 207 := by decide
theorem i_209 : (209 : Int32) = iI 209 := by decide
theorem i_213 : (213 : Int32) = iI 213 := by decide
theorem i_229 : (229 : Int32) = iI 229 := by decide
theorem i_252 : (252 : Int32) = iI 252 := by decide
theorem i_254 : (254 : Int32) = iI 254 := by decide
theorem i_255 : (255 : Int32) = iI 255 := by decide
theorem i_260 : (260 : Int32) = iI 260 := by decide
theorem i_282 : (282 : Int32) = iI 282 := by decide
theorem i_303 : (303 : Int32) = iI 303 := by decide
theorem i_304 : (304 : Int32) = iI 304 := by decide
theorem i_321 : (321 : Int32) = iI 321 := by decide
theorem i_348 : (348 : Int32) = iI 348 := by decide
theorem i_435 : (435 : Int32) = iI 435 := by decide
theorem i_492 : (492 : Int32) = iI 492 := by decide
theorem i_522 : (522 : Int32) = iI 522 := by decide
theorem i_1000 : (1000 : Int32) = iI 1000 := by decide
theorem i_1023 : (1023 : Int32) = iI 1023 := by decide
theorem i_1600 : (1600 : Int32) = iI 1600 := by decide
theorem i_2903 : (2903 : Int32) = iI 2903 := by decide
