theorem shV_all : ∀ b : Fin 97, ∀ a : Fin 97, 1 ≤ b.val → a.val ≤ b.val → vf_n64 (FP.ddiv (FP.i2d (Int32.ofInt (a.val : Int))) (FP.i2d (Int32.ofInt (b.val : Int)))) ∧ (Op.cmpValue (FP.dcmp (FP.ddiv (FP.i2d (Int32.ofInt (a.val : Int))) (FP.i2d (Int32.ofInt (b.val : Int)))) (FP.ddiv (FP.i2d (Int32.ofInt (a.val : Int))) (FP.i2d (Int32.ofInt (b.val : Int))))) .l) = 0 := by
  unfold vf_n64
  decide +kernel
theorem shV_1 : (Op.cmpValue (FP.dcmp FP.dconst1 FP.dconst1) .l) = 0 := by decide +kernel
/-- the share of a of b letters -/
def shV (a b : Int) : UInt64 := if b = 0 then FP.dconst1 else FP.ddiv (FP.i2d (iI a)) (FP.i2d (iI b))
theorem shV_ok {a b : Int} (b0 : 0 ≤ b) (b1 : b ≤ 96) (a0 : 0 ≤ a) (a1 : a ≤ b) : (b ≠ 0 → vf_n64 (FP.ddiv (FP.i2d (iI a)) (FP.i2d (iI b)))) ∧ (Op.cmpValue (FP.dcmp (shV a b) (shV a b)) .l) = 0 := by
  unfold shV
  by_cases e : b = 0
  · rw [if_pos e]
    exact ⟨fun h => absurd e h, shV_1⟩
  · have := shV_all ⟨b.toNat, by omega⟩ ⟨a.toNat, by omega⟩ (show 1 ≤ b.toNat by omega) (show a.toNat ≤ b.toNat by omega)
    simp only [show ((a.toNat : Nat) : Int) = a by omega, show ((b.toNat : Nat) : Int) = b by omega] at this
    rw [if_neg e]
    exact ⟨fun _ => this.1, this.2⟩
theorem al_let {mb : Int} {f : Int → Int} (hf : OK mb f) : ∀ n : Nat, (n : Int) ≤ f 2 → sm (loS f) n ≤ sm (fun w => f (4 + 6 * w + 0)) n ∧ sm (fun w => f (4 + 6 * w + 0)) n ≤ 12 * n
  | 0, _ => by unfold sm; omega
  | n + 1, h => by
    have h1 := al_let hf n (by omega)
    have h2 := (hf.2.2.2.2.1 n (by omega) (by omega)).1
    have h3 := bsm_rng (fun k => decide (litS f n k ≠ -1)) (f (4 + 6 * (n : Int) + 0)).toNat
    have h4 : loS f n = sm (fun k => bi (decide (litS f n k ≠ -1))) (f (4 + 6 * (n : Int) + 0)).toNat := rfl
    rw [sm_s, sm_s, h4]
    omega
theorem shS_ok {mb : Int} {f : Int → Int} (hf : OK mb f) : 0 ≤ letS f ∧ letS f ≤ 96 ∧ 0 ≤ alS f ∧ alS f ≤ letS f := by
  have h8 := hf.2.2.1
  have h1 := al_let hf (f 2).toNat (by omega)
  have h2 := alS_rng hf
  unfold letS
  unfold alS at h2 ⊢
  omega
theorem s_X4_share {mb : Int} {f li wh go : Int → Int} {Q : UInt64 → Prop} (hf : OK mb f) (hl : Ld f (f 2) li wh go) (h : Q (shV (alS f) (letS f))) : P_X4_share (aI f) (aI li) Q := by
  obtain ⟨b0, b1, a0, a1⟩ := shS_ok hf
  have h1 := (shV_ok b0 b1 a0 a1).1
  unfold shV at h
  unfold P_X4_share
  refine s_X4_letters hf ?_
  simp (disch := omega) only [iI_add, iI_sub, iI_mul, iI_neg, iI_lt, iI_le, iI_eq, iI_cl, aI_at, aI_up, aI_l0, aI_l1, aI_l2, aI_l3, i_m9, i_m1, i_0, i_1, i_2, i_3, i_4, i_5, i_6, i_7, i_8, i_9, i_10, i_11, i_12, i_13, i_14, i_15, i_16, i_17, i_18, i_19, i_20, i_21, i_22, i_23, i_24, i_25, i_26, i_27, i_28, i_29, i_30, i_31, i_32, i_33, i_34, i_35, i_36, i_37, i_38, i_39, i_40, i_41, i_42, i_43, i_44, i_45, i_46, i_47, i_48, i_49, i_50, i_51, i_52, i_53, i_54, i_55, i_56, i_57, i_58, i_59, i_60, i_61, i_62, i_63, i_64, i_65, i_66, i_67, i_68, i_69, i_70, i_72, i_77, i_78, i_80, i_81, i_82, i_83, i_84, i_87, i_88, i_96, i_98, i_100, i_101, i_103, i_118, i_119, i_126, i_133, i_137, i_144, i_154, i_158, i_160, i_190, i_199, i_200, i_207, i_209, i_213, i_229, i_252, i_254, i_255, i_260, i_282, i_303, i_304, i_321, i_348, i_435, i_492, i_522, i_1000, i_1023, i_1600, i_2903, iI_neg]
  refine ⟨fun e => ?_, fun e => ?_⟩
  · rw [if_neg e] at h
    exact s_X4_allLit hf hl ⟨h1 e, h⟩
  · rw [if_pos e] at h
    exact h
theorem s_X4_litShare {il th0 : Int} {f li wh go la : Int → Int} {Q : UInt64 → Int32 → (Nat → Int32) → (Nat → Int32) → (Nat → Int32) → Int32 → (Nat → Int32) → Prop} (hf : OK 6 f) (hm : ML f il li wh go)
    (h : ∀ (li wh go la : Int → Int) (il : Int), ML f il li wh go → Q (shV (alS f) (letS f)) (iI 0) (aI li) (aI wh) (aI go) (iI il) (aI la)) :
    P_X4_litShare (aI f) (iI th0) (aI li) (aI wh) (aI go) (iI il) (aI la) Q := by
  unfold P_X4_litShare
  simp only [i_m9, i_m1, i_0, i_1, i_2, i_3, i_4, i_5, i_6, i_7, i_8, i_9, i_10, i_11, i_12, i_13, i_14, i_15, i_16, i_17, i_18, i_19, i_20, i_21, i_22, i_23, i_24, i_25, i_26, i_27, i_28, i_29, i_30, i_31, i_32, i_33, i_34, i_35, i_36, i_37, i_38, i_39, i_40, i_41, i_42, i_43, i_44, i_45, i_46, i_47, i_48, i_49, i_50, i_51, i_52, i_53, i_54, i_55, i_56, i_57, i_58, i_59, i_60, i_61, i_62, i_63, i_64, i_65, i_66, i_67, i_68, i_69, i_70, i_72, i_77, i_78, i_80, i_81, i_82, i_83, i_84, i_87, i_88, i_96, i_98, i_100, i_101, i_103, i_118, i_119, i_126, i_133, i_137, i_144, i_154, i_158, i_160, i_190, i_199, i_200, i_207, i_209, i_213, i_229, i_252, i_254, i_255, i_260, i_282, i_303, i_304, i_321, i_348, i_435, i_492, i_522, i_1000, i_1023, i_1600, i_2903, iI_neg]
  exact s_X4_laysNow hf (by omega) hm (fun li wh go la hl => s_X4_share hf hl (h li wh go la 1 (Or.inr ⟨rfl, hl⟩)))
/-- n values mixed into a hash -/
def hs (h : Int64) (g : Int → Int) : Nat → Int64
  | 0 => h
  | n + 1 => 31 * hs h g n + (iI (g (n : Int))).toInt64
def dgW (f : Int → Int) (h : Int64) : Nat → Int64
  | 0 => h
  | n + 1 => hs (hs (dgW f h n) (woS f n) 10) (litS f n) (f (4 + 6 * (n : Int) + 0)).toNat
def dgB (f : Int → Int) (h : Int64) : Nat → Int64
  | 0 => h
  | n + 1 => hs (dgB f h n) (boS f n) 7
def dgT (f : Int → Int) (h : Int64) : Nat → Int64
  | 0 => h
  | n + 1 => hs (dgT f h n) (inS f (10 * (n : Int))) 5
def dg2 (f : Int → Int) (kp : Int) : Int64 := dgW f (31 * (31 * hs 2903 (coS f kp) 10 + (iI (f 0)).toInt64) + (iI (f 1)).toInt64) (f 2).toNat
def dg4 (f : Int → Int) (kp : Int) : Int64 := dgT f (dgB f (dg2 f kp) (f 3).toNat) 20
def dg6 (f : Int → Int) (kp : Int) : Int64 := 31 * hs (dg4 f kp) (ibS f 5 0 1 3) 3 + (iI (bsF f 0 0 19 + 9)).toInt64
def dg7 (f : Int → Int) (kp : Int) : Int64 := if f 2 = 0 then dg6 f kp else 31 * dg6 f kp + (iI (ccS f 0)).toInt64
def dg8 (f : Int → Int) (kp : Int) (n : Int) : Int64 := 31 * (31 * dg7 f kp + (shV (alS f) (letS f)).toInt64) + (iI n).toInt64
def dgS (f : Int → Int) (kp : Int) (T : Int → Int) (n : Int) : Int64 := hs (dg8 f kp n) T n.toNat
theorem s_X4_digest_J321 {mb n : Int} {f th T li wh go la : Int → Int} {th0 il : Int} {kp : Int} {Q : Int64 → (Nat → Int32) → Int32 → (Nat → Int32) → (Nat → Int32) → (Nat → Int32) → Int32 → (Nat → Int32) → Prop} (hf : OK mb f) (hl : Ld f (f 2) li wh go) (n0 : 0 ≤ n) (n1 : n ≤ 60)
    (h : Q (dgS f kp T n) (aI th) (iI th0) (aI li) (aI wh) (aI go) (iI il) (aI la)) : P_X4_digest_J321 (aI f) (aI T) (iI n) Q (dg7 f kp) (aI th) (iI th0) (aI li) (aI wh) (aI go) (iI il) (aI la) := by
  obtain ⟨b0, b1, a0, a1⟩ := shS_ok hf
  have lp : ∀ (m j : Nat), (j : Int) + m = n → P_X4_digest_L348 (aI th) (aI T) (iI n) (iI th0) (aI li) (aI wh) (aI go) (iI il) (aI la) Q (m + 1) (hs (dg8 f kp n) T j) (iI j) := by
    intro m
    induction m with
    | zero =>
      intro j hj
      rw [P_X4_digest_L348_s]
      unfold B_X4_digest_L348
      simp (disch := omega) only [iI_add, iI_sub, iI_mul, iI_neg, iI_lt, iI_le, iI_eq, iI_cl, aI_at, aI_up, aI_l0, aI_l1, aI_l2, aI_l3, i_m9, i_m1, i_0, i_1, i_2, i_3, i_4, i_5, i_6, i_7, i_8, i_9, i_10, i_11, i_12, i_13, i_14, i_15, i_16, i_17, i_18, i_19, i_20, i_21, i_22, i_23, i_24, i_25, i_26, i_27, i_28, i_29, i_30, i_31, i_32, i_33, i_34, i_35, i_36, i_37, i_38, i_39, i_40, i_41, i_42, i_43, i_44, i_45, i_46, i_47, i_48, i_49, i_50, i_51, i_52, i_53, i_54, i_55, i_56, i_57, i_58, i_59, i_60, i_61, i_62, i_63, i_64, i_65, i_66, i_67, i_68, i_69, i_70, i_72, i_77, i_78, i_80, i_81, i_82, i_83, i_84, i_87, i_88, i_96, i_98, i_100, i_101, i_103, i_118, i_119, i_126, i_133, i_137, i_144, i_154, i_158, i_160, i_190, i_199, i_200, i_207, i_209, i_213, i_229, i_252, i_254, i_255, i_260, i_282, i_303, i_304, i_321, i_348, i_435, i_492, i_522, i_1000, i_1023, i_1600, i_2903, iI_neg]
      refine ⟨fun _ => ?_, fun hx => absurd (by omega) hx⟩
      unfold dgS at h
      rwa [show n.toNat = j by omega] at h
    | succ m ih =>
      intro j hj
      have ih1 := ih (j + 1) (by omega)
      rw [nsucc] at ih1
      rw [P_X4_digest_L348_s]
      unfold B_X4_digest_L348
      simp (disch := omega) only [iI_le, iI_add, iI_cl, aI_at, i_m9, i_m1, i_0, i_1, i_2, i_3, i_4, i_5, i_6, i_7, i_8, i_9, i_10, i_11, i_12, i_13, i_14, i_15, i_16, i_17, i_18, i_19, i_20, i_21, i_22, i_23, i_24, i_25, i_26, i_27, i_28, i_29, i_30, i_31, i_32, i_33, i_34, i_35, i_36, i_37, i_38, i_39, i_40, i_41, i_42, i_43, i_44, i_45, i_46, i_47, i_48, i_49, i_50, i_51, i_52, i_53, i_54, i_55, i_56, i_57, i_58, i_59, i_60, i_61, i_62, i_63, i_64, i_65, i_66, i_67, i_68, i_69, i_70, i_72, i_77, i_78, i_80, i_81, i_82, i_83, i_84, i_87, i_88, i_96, i_98, i_100, i_101, i_103, i_118, i_119, i_126, i_133, i_137, i_144, i_154, i_158, i_160, i_190, i_199, i_200, i_207, i_209, i_213, i_229, i_252, i_254, i_255, i_260, i_282, i_303, i_304, i_321, i_348, i_435, i_492, i_522, i_1000, i_1023, i_1600, i_2903, iI_neg]
      exact ⟨fun hx => absurd hx (by omega), fun _ => ⟨iI_in (by omega) (by omega) (by omega), ih1⟩⟩
  unfold P_X4_digest_J321
  refine s_X4_share hf hl ?_
  unfold P_Jxe99ae_doubleToLongBits_ccdee P_Jxe99ae_isNaN_b9ae7
  have e := (shV_ok b0 b1 a0 a1).2
  refine ⟨fun _ => ⟨fun hx => absurd rfl hx, fun _ => ⟨n.toNat + 1, ?_⟩⟩, fun hx => absurd e hx⟩
  exact lp n.toNat 0 (by omega)
