def vfB (r : UInt64) : Bool := decide (r &&& 0x7fffffffffffffff ≤ 0x7ff0000000000000)
theorem vfB_t {r : UInt64} (h : vfB r = true) : vf_n64 r := by unfold vf_n64; exact of_decide_eq_true h
/-- a number laid bare before it goes on -/
def stU (x : UInt64) (k : UInt64 → Bool) : Bool := Nat.casesOn (motive := fun _ => Bool) x.toNat (k (UInt64.ofNat 0)) (fun m => k (UInt64.ofNat (m + 1)))
theorem stU_e (x : UInt64) (k : UInt64 → Bool) : stU x k = k x := by
  have h : ∀ n : Nat, Nat.casesOn (motive := fun _ => Bool) n (k (UInt64.ofNat 0)) (fun m => k (UInt64.ofNat (m + 1))) = k (UInt64.ofNat n) := fun n => by cases n <;> rfl
  unfold stU
  rw [h, UInt64.ofNat_toNat]
/-- the end of the loop of the share's bits -/
def sbE (r x : UInt64) (e : Int64) : Bool := vfB (FP.dsub x FP.dconst1) && (vfB (FP.dmul (FP.dsub x FP.dconst1) 4841369599423283200) && decide ((e <<< ((iI 52).toInt64 &&& 63)) ||| (FP.d2l (FP.dmul (FP.dsub x FP.dconst1) 4841369599423283200)) = r.toInt64))
/-- the loop, with n turns at most -/
def sbC (r : UInt64) : Nat → UInt64 → Int64 → Bool
  | 0, x, e => decide (iI 0 ≤ (Op.cmpValue (FP.dcmp x FP.dconst1) .g)) && sbE r x e
  | n + 1, x, e => if iI 0 ≤ (Op.cmpValue (FP.dcmp x FP.dconst1) .g) then sbE r x e else stU (FP.dmul x 4611686018427387904) (fun y => vfB y && sbC r n y (e - 1))
def sbA (r : UInt64) : Bool := if iI 0 < (Op.cmpValue (FP.dcmp r FP.dconst0) .g) then sbC r 8 r 1023 else decide (r.toInt64 = 0)
def sbB (b a : Nat) : Bool := stU (FP.ddiv (FP.i2d (Int32.ofInt (a : Int))) (FP.i2d (Int32.ofInt (b : Int)))) sbA
def sbN (b : Nat) : Nat → Bool
  | 0 => sbB b 0
  | a + 1 => sbB b (a + 1) && sbN b a
theorem sbN_at (b : Nat) : ∀ n : Nat, sbN b n = true → ∀ a : Nat, a ≤ n → sbB b a = true
  | 0, h, a, ha => by rw [show a = 0 by omega]; exact h
  | n + 1, h, a, ha => by
    have h2 : (sbB b (n + 1) && sbN b n) = true := h
    rw [Bool.and_eq_true] at h2
    by_cases e : a = n + 1
    · rw [e]; exact h2.1
    · exact sbN_at b n h2.2 a (by omega)
theorem sb_1 : sbN 1 1 = true := by decide +kernel
theorem sb_2 : sbN 2 2 = true := by decide +kernel
theorem sb_3 : sbN 3 3 = true := by decide +kernel
theorem sb_4 : sbN 4 4 = true := by decide +kernel
theorem sb_5 : sbN 5 5 = true := by decide +kernel
theorem sb_6 : sbN 6 6 = true := by decide +kernel
theorem sb_7 : sbN 7 7 = true := by decide +kernel
theorem sb_8 : sbN 8 8 = true := by decide +kernel
theorem sb_9 : sbN 9 9 = true := by decide +kernel
theorem sb_10 : sbN 10 10 = true := by decide +kernel
theorem sb_11 : sbN 11 11 = true := by decide +kernel
theorem sb_12 : sbN 12 12 = true := by decide +kernel
theorem sb_13 : sbN 13 13 = true := by decide +kernel
theorem sb_14 : sbN 14 14 = true := by decide +kernel
theorem sb_15 : sbN 15 15 = true := by decide +kernel
theorem sb_16 : sbN 16 16 = true := by decide +kernel
theorem sb_17 : sbN 17 17 = true := by decide +kernel
theorem sb_18 : sbN 18 18 = true := by decide +kernel
theorem sb_19 : sbN 19 19 = true := by decide +kernel
theorem sb_20 : sbN 20 20 = true := by decide +kernel
theorem sb_21 : sbN 21 21 = true := by decide +kernel
theorem sb_22 : sbN 22 22 = true := by decide +kernel
theorem sb_23 : sbN 23 23 = true := by decide +kernel
theorem sb_24 : sbN 24 24 = true := by decide +kernel
theorem sb_25 : sbN 25 25 = true := by decide +kernel
theorem sb_26 : sbN 26 26 = true := by decide +kernel
theorem sb_27 : sbN 27 27 = true := by decide +kernel
theorem sb_28 : sbN 28 28 = true := by decide +kernel
theorem sb_29 : sbN 29 29 = true := by decide +kernel
theorem sb_30 : sbN 30 30 = true := by decide +kernel
theorem sb_31 : sbN 31 31 = true := by decide +kernel
theorem sb_32 : sbN 32 32 = true := by decide +kernel
theorem sb_33 : sbN 33 33 = true := by decide +kernel
theorem sb_34 : sbN 34 34 = true := by decide +kernel
theorem sb_35 : sbN 35 35 = true := by decide +kernel
theorem sb_36 : sbN 36 36 = true := by decide +kernel
theorem sb_37 : sbN 37 37 = true := by decide +kernel
theorem sb_38 : sbN 38 38 = true := by decide +kernel
theorem sb_39 : sbN 39 39 = true := by decide +kernel
theorem sb_40 : sbN 40 40 = true := by decide +kernel
theorem sb_41 : sbN 41 41 = true := by decide +kernel
theorem sb_42 : sbN 42 42 = true := by decide +kernel
theorem sb_43 : sbN 43 43 = true := by decide +kernel
theorem sb_44 : sbN 44 44 = true := by decide +kernel
theorem sb_45 : sbN 45 45 = true := by decide +kernel
theorem sb_46 : sbN 46 46 = true := by decide +kernel
theorem sb_47 : sbN 47 47 = true := by decide +kernel
theorem sb_48 : sbN 48 48 = true := by decide +kernel
theorem sb_49 : sbN 49 49 = true := by decide +kernel
theorem sb_50 : sbN 50 50 = true := by decide +kernel
theorem sb_51 : sbN 51 51 = true := by decide +kernel
theorem sb_52 : sbN 52 52 = true := by decide +kernel
theorem sb_53 : sbN 53 53 = true := by decide +kernel
theorem sb_54 : sbN 54 54 = true := by decide +kernel
theorem sb_55 : sbN 55 55 = true := by decide +kernel
theorem sb_56 : sbN 56 56 = true := by decide +kernel
theorem sb_57 : sbN 57 57 = true := by decide +kernel
theorem sb_58 : sbN 58 58 = true := by decide +kernel
theorem sb_59 : sbN 59 59 = true := by decide +kernel
theorem sb_60 : sbN 60 60 = true := by decide +kernel
theorem sb_61 : sbN 61 61 = true := by decide +kernel
theorem sb_62 : sbN 62 62 = true := by decide +kernel
theorem sb_63 : sbN 63 63 = true := by decide +kernel
theorem sb_64 : sbN 64 64 = true := by decide +kernel
theorem sb_65 : sbN 65 65 = true := by decide +kernel
theorem sb_66 : sbN 66 66 = true := by decide +kernel
theorem sb_67 : sbN 67 67 = true := by decide +kernel
theorem sb_68 : sbN 68 68 = true := by decide +kernel
theorem sb_69 : sbN 69 69 = true := by decide +kernel
theorem sb_70 : sbN 70 70 = true := by decide +kernel
theorem sb_71 : sbN 71 71 = true := by decide +kernel
theorem sb_72 : sbN 72 72 = true := by decide +kernel
theorem sb_73 : sbN 73 73 = true := by decide +kernel
theorem sb_74 : sbN 74 74 = true := by decide +kernel
theorem sb_75 : sbN 75 75 = true := by decide +kernel
theorem sb_76 : sbN 76 76 = true := by decide +kernel
theorem sb_77 : sbN 77 77 = true := by decide +kernel
theorem sb_78 : sbN 78 78 = true := by decide +kernel
theorem sb_79 : sbN 79 79 = true := by decide +kernel
theorem sb_80 : sbN 80 80 = true := by decide +kernel
theorem sb_81 : sbN 81 81 = true := by decide +kernel
theorem sb_82 : sbN 82 82 = true := by decide +kernel
theorem sb_83 : sbN 83 83 = true := by decide +kernel
theorem sb_84 : sbN 84 84 = true := by decide +kernel
theorem sb_85 : sbN 85 85 = true := by decide +kernel
theorem sb_86 : sbN 86 86 = true := by decide +kernel
theorem sb_87 : sbN 87 87 = true := by decide +kernel
theorem sb_88 : sbN 88 88 = true := by decide +kernel
theorem sb_89 : sbN 89 89 = true := by decide +kernel
theorem sb_90 : sbN 90 90 = true := by decide +kernel
theorem sb_91 : sbN 91 91 = true := by decide +kernel
theorem sb_92 : sbN 92 92 = true := by decide +kernel
theorem sb_93 : sbN 93 93 = true := by decide +kernel
theorem sb_94 : sbN 94 94 = true := by decide +kernel
theorem sb_95 : sbN 95 95 = true := by decide +kernel
theorem sb_96 : sbN 96 96 = true := by decide +kernel
theorem sb_all (b : Nat) (b0 : 1 ≤ b) (b1 : b ≤ 96) : sbN b b = true := by
  have h : b = 1 ∨ b = 2 ∨ b = 3 ∨ b = 4 ∨ b = 5 ∨ b = 6 ∨ b = 7 ∨ b = 8 ∨ b = 9 ∨ b = 10 ∨ b = 11 ∨ b = 12 ∨ b = 13 ∨ b = 14 ∨ b = 15 ∨ b = 16 ∨ b = 17 ∨ b = 18 ∨ b = 19 ∨ b = 20 ∨ b = 21 ∨ b = 22 ∨ b = 23 ∨ b = 24 ∨ b = 25 ∨ b = 26 ∨ b = 27 ∨ b = 28 ∨ b = 29 ∨ b = 30 ∨ b = 31 ∨ b = 32 ∨ b = 33 ∨ b = 34 ∨ b = 35 ∨ b = 36 ∨ b = 37 ∨ b = 38 ∨ b = 39 ∨ b = 40 ∨ b = 41 ∨ b = 42 ∨ b = 43 ∨ b = 44 ∨ b = 45 ∨ b = 46 ∨ b = 47 ∨ b = 48 ∨ b = 49 ∨ b = 50 ∨ b = 51 ∨ b = 52 ∨ b = 53 ∨ b = 54 ∨ b = 55 ∨ b = 56 ∨ b = 57 ∨ b = 58 ∨ b = 59 ∨ b = 60 ∨ b = 61 ∨ b = 62 ∨ b = 63 ∨ b = 64 ∨ b = 65 ∨ b = 66 ∨ b = 67 ∨ b = 68 ∨ b = 69 ∨ b = 70 ∨ b = 71 ∨ b = 72 ∨ b = 73 ∨ b = 74 ∨ b = 75 ∨ b = 76 ∨ b = 77 ∨ b = 78 ∨ b = 79 ∨ b = 80 ∨ b = 81 ∨ b = 82 ∨ b = 83 ∨ b = 84 ∨ b = 85 ∨ b = 86 ∨ b = 87 ∨ b = 88 ∨ b = 89 ∨ b = 90 ∨ b = 91 ∨ b = 92 ∨ b = 93 ∨ b = 94 ∨ b = 95 ∨ b = 96 := by omega
  rcases h with rfl | rfl | rfl | rfl | rfl | rfl | rfl | rfl | rfl | rfl | rfl | rfl | rfl | rfl | rfl | rfl | rfl | rfl | rfl | rfl | rfl | rfl | rfl | rfl | rfl | rfl | rfl | rfl | rfl | rfl | rfl | rfl | rfl | rfl | rfl | rfl | rfl | rfl | rfl | rfl | rfl | rfl | rfl | rfl | rfl | rfl | rfl | rfl | rfl | rfl | rfl | rfl | rfl | rfl | rfl | rfl | rfl | rfl | rfl | rfl | rfl | rfl | rfl | rfl | rfl | rfl | rfl | rfl | rfl | rfl | rfl | rfl | rfl | rfl | rfl | rfl | rfl | rfl | rfl | rfl | rfl | rfl | rfl | rfl | rfl | rfl | rfl | rfl | rfl | rfl | rfl | rfl | rfl | rfl | rfl | rfl
  · exact sb_1
  · exact sb_2
  · exact sb_3
  · exact sb_4
  · exact sb_5
  · exact sb_6
  · exact sb_7
  · exact sb_8
  · exact sb_9
  · exact sb_10
  · exact sb_11
  · exact sb_12
  · exact sb_13
  · exact sb_14
  · exact sb_15
  · exact sb_16
  · exact sb_17
  · exact sb_18
  · exact sb_19
  · exact sb_20
  · exact sb_21
  · exact sb_22
  · exact sb_23
  · exact sb_24
  · exact sb_25
  · exact sb_26
  · exact sb_27
  · exact sb_28
  · exact sb_29
  · exact sb_30
  · exact sb_31
  · exact sb_32
  · exact sb_33
  · exact sb_34
  · exact sb_35
  · exact sb_36
  · exact sb_37
  · exact sb_38
  · exact sb_39
  · exact sb_40
  · exact sb_41
  · exact sb_42
  · exact sb_43
  · exact sb_44
  · exact sb_45
  · exact sb_46
  · exact sb_47
  · exact sb_48
  · exact sb_49
  · exact sb_50
  · exact sb_51
  · exact sb_52
  · exact sb_53
  · exact sb_54
  · exact sb_55
  · exact sb_56
  · exact sb_57
  · exact sb_58
  · exact sb_59
  · exact sb_60
  · exact sb_61
  · exact sb_62
  · exact sb_63
  · exact sb_64
  · exact sb_65
  · exact sb_66
  · exact sb_67
  · exact sb_68
  · exact sb_69
  · exact sb_70
  · exact sb_71
  · exact sb_72
  · exact sb_73
  · exact sb_74
  · exact sb_75
  · exact sb_76
  · exact sb_77
  · exact sb_78
  · exact sb_79
  · exact sb_80
  · exact sb_81
  · exact sb_82
  · exact sb_83
  · exact sb_84
  · exact sb_85
  · exact sb_86
  · exact sb_87
  · exact sb_88
  · exact sb_89
  · exact sb_90
  · exact sb_91
  · exact sb_92
  · exact sb_93
  · exact sb_94
  · exact sb_95
  · exact sb_96
theorem sb_d1 : sbA FP.dconst1 = true := by decide +kernel
theorem sb_sh {a b : Int} (b0 : 0 ≤ b) (b1 : b ≤ 96) (a0 : 0 ≤ a) (a1 : a ≤ b) : sbA (shV a b) = true := by
  unfold shV
  by_cases e : b = 0
  · rw [if_pos e]; exact sb_d1
  · have := sbN_at b.toNat b.toNat (sb_all b.toNat (by omega) (by omega)) a.toNat (by omega)
    unfold sbB at this
    rw [stU_e, show ((a.toNat : Nat) : Int) = a by omega, show ((b.toNat : Nat) : Int) = b by omega] at this
    rw [if_neg e]
    exact this
theorem sb_L {r : UInt64} {Q : Int64 → Prop} (h : Q r.toInt64) : ∀ (n : Nat) (x : UInt64) (e : Int64) (i : Int), sbC r n x e = true → 0 ≤ i → i + n < 1000 →
    P_X3_shareBits_L18 (fun (x2_2 : UInt64) (x4_3 : Int64) => vf_n64 (FP.dsub x2_2 FP.dconst1) ∧ vf_n64 (FP.dmul (FP.dsub x2_2 FP.dconst1) 4841369599423283200) ∧ Q ((x4_3 <<< ((iI 52).toInt64 &&& 63)) ||| (FP.d2l (FP.dmul (FP.dsub x2_2 FP.dconst1) 4841369599423283200)))) (n + 1) x e (iI i) := by
  have hE : ∀ (x : UInt64) (e : Int64), sbE r x e = true → vf_n64 (FP.dsub x FP.dconst1) ∧ vf_n64 (FP.dmul (FP.dsub x FP.dconst1) 4841369599423283200) ∧ Q ((e <<< ((iI 52).toInt64 &&& 63)) ||| (FP.d2l (FP.dmul (FP.dsub x FP.dconst1) 4841369599423283200))) := by
    intro x e hx
    unfold sbE at hx
    rw [Bool.and_eq_true, Bool.and_eq_true, decide_eq_true_iff] at hx
    refine ⟨vfB_t hx.1, vfB_t hx.2.1, ?_⟩
    rw [hx.2.2]; exact h
  intro n
  induction n with
  | zero =>
    intro x e i hc i0 i1
    unfold sbC at hc
    rw [Bool.and_eq_true, decide_eq_true_iff] at hc
    rw [P_X3_shareBits_L18_s]
    unfold B_X3_shareBits_L18
    simp (disch := omega) only [iI_le, i_m9, i_m1, i_0, i_1, i_2, i_3, i_4, i_5, i_6, i_7, i_8, i_9, i_10, i_11, i_12, i_13, i_14, i_15, i_16, i_17, i_18, i_19, i_20, i_21, i_22, i_23, i_24, i_25, i_26, i_27, i_28, i_29, i_30, i_31, i_32, i_33, i_34, i_35, i_36, i_37, i_38, i_39, i_40, i_41, i_42, i_43, i_44, i_45, i_46, i_47, i_48, i_49, i_50, i_51, i_52, i_53, i_54, i_55, i_56, i_57, i_58, i_59, i_60, i_61, i_62, i_63, i_64, i_65, i_66, i_67, i_68, i_69, i_70, i_72, i_77, i_78, i_80, i_81, i_82, i_83, i_84, i_87, i_88, i_96, i_98, i_100, i_101, i_103, i_118, i_119, i_126, i_133, i_137, i_144, i_154, i_158, i_160, i_190, i_199, i_200, i_207, i_209, i_213, i_229, i_252, i_254, i_255, i_260, i_282, i_303, i_304, i_321, i_348, i_435, i_492, i_522, i_1000, i_1023, i_1600, i_2903, iI_neg]
    exact ⟨fun hx => absurd hx (by omega), fun _ => ⟨fun _ => hE x e hc.2, fun hx => absurd hc.1 hx⟩⟩
  | succ n ih =>
    intro x e i hc i0 i1
    have hc2 : (if iI 0 ≤ (Op.cmpValue (FP.dcmp x FP.dconst1) .g) then sbE r x e else stU (FP.dmul x 4611686018427387904) (fun y => vfB y && sbC r n y (e - 1))) = true := hc
    rw [P_X3_shareBits_L18_s]
    unfold B_X3_shareBits_L18
    simp (disch := omega) only [iI_le, iI_add, i_m9, i_m1, i_0, i_1, i_2, i_3, i_4, i_5, i_6, i_7, i_8, i_9, i_10, i_11, i_12, i_13, i_14, i_15, i_16, i_17, i_18, i_19, i_20, i_21, i_22, i_23, i_24, i_25, i_26, i_27, i_28, i_29, i_30, i_31, i_32, i_33, i_34, i_35, i_36, i_37, i_38, i_39, i_40, i_41, i_42, i_43, i_44, i_45, i_46, i_47, i_48, i_49, i_50, i_51, i_52, i_53, i_54, i_55, i_56, i_57, i_58, i_59, i_60, i_61, i_62, i_63, i_64, i_65, i_66, i_67, i_68, i_69, i_70, i_72, i_77, i_78, i_80, i_81, i_82, i_83, i_84, i_87, i_88, i_96, i_98, i_100, i_101, i_103, i_118, i_119, i_126, i_133, i_137, i_144, i_154, i_158, i_160, i_190, i_199, i_200, i_207, i_209, i_213, i_229, i_252, i_254, i_255, i_260, i_282, i_303, i_304, i_321, i_348, i_435, i_492, i_522, i_1000, i_1023, i_1600, i_2903, iI_neg]
    refine ⟨fun hx => absurd hx (by omega), fun _ => ⟨fun g => ?_, fun g => ?_⟩⟩
    · rw [if_pos g] at hc2
      exact hE x e hc2
    · rw [if_neg g, stU_e, Bool.and_eq_true] at hc2
      exact ⟨vfB_t hc2.1, ih _ _ _ hc2.2 (by omega) (by omega)⟩
theorem s_X3_shareBits {a b : Int} {Q : Int64 → Prop} (b0 : 0 ≤ b) (b1 : b ≤ 96) (a0 : 0 ≤ a) (a1 : a ≤ b) (h : Q (shV a b).toInt64) : P_X3_shareBits (shV a b) Q := by
  have hs := sb_sh b0 b1 a0 a1
  unfold sbA at hs
  unfold P_X3_shareBits
  simp only [i_m9, i_m1, i_0, i_1, i_2, i_3, i_4, i_5, i_6, i_7, i_8, i_9, i_10, i_11, i_12, i_13, i_14, i_15, i_16, i_17, i_18, i_19, i_20, i_21, i_22, i_23, i_24, i_25, i_26, i_27, i_28, i_29, i_30, i_31, i_32, i_33, i_34, i_35, i_36, i_37, i_38, i_39, i_40, i_41, i_42, i_43, i_44, i_45, i_46, i_47, i_48, i_49, i_50, i_51, i_52, i_53, i_54, i_55, i_56, i_57, i_58, i_59, i_60, i_61, i_62, i_63, i_64, i_65, i_66, i_67, i_68, i_69, i_70, i_72, i_77, i_78, i_80, i_81, i_82, i_83, i_84, i_87, i_88, i_96, i_98, i_100, i_101, i_103, i_118, i_119, i_126, i_133, i_137, i_144, i_154, i_158, i_160, i_190, i_199, i_200, i_207, i_209, i_213, i_229, i_252, i_254, i_255, i_260, i_282, i_303, i_304, i_321, i_348, i_435, i_492, i_522, i_1000, i_1023, i_1600, i_2903, iI_neg]
  refine ⟨fun g => ?_, fun g => ?_⟩
  · rw [if_pos g] at hs
    exact ⟨9, sb_L h 8 _ _ 0 hs (by omega) (by omega)⟩
  · rw [if_neg g, decide_eq_true_iff] at hs
    rw [hs] at h
    exact h
