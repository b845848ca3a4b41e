def P_X2_litLettersOf_J30 (rec4 : Int32 → Int32 → Prop) (x2 : Int32) (x3 : Int32) : Prop :=
  rec4 x2 (x3 + 1)
def B_X2_litLettersOf_L4 (x1 : Int32) (s_credits_cells : Nat → Int32) (s_lit : Nat → Int32) (Q : Int32 → Prop) (rec4 : Int32 → Int32 → Prop) (x2 : Int32) (x3 : Int32) : Prop :=
  P_X0_ofWord x1 0 s_credits_cells (fun (r_1 : Int32) => ((r_1 ≤ x3 → Q x2) ∧ (¬ r_1 ≤ x3 → P_X2_litBeat x1 x3 s_lit (fun (r_2 : Int32) => ((r_2 = (-1) → P_X2_litLettersOf_J30 rec4 x2 x3) ∧ (¬ r_2 = (-1) → P_X2_litLettersOf_J30 rec4 (x2 + 1) x3))))))
noncomputable def P_X2_litLettersOf_L4 (x1 : Int32) (s_credits_cells : Nat → Int32) (s_lit : Nat → Int32) (Q : Int32 → Prop) (n : Nat) : Int32 → Int32 → Prop := Nat.rec (motive := fun _ => Int32 → Int32 → Prop) (fun _ _ => False) (fun _ r => B_X2_litLettersOf_L4 x1 s_credits_cells s_lit Q r) n
theorem P_X2_litLettersOf_L4_z (x1 : Int32) (s_credits_cells : Nat → Int32) (s_lit : Nat → Int32) (Q : Int32 → Prop) (x2 : Int32) (x3 : Int32) : P_X2_litLettersOf_L4 x1 s_credits_cells s_lit Q 0 x2 x3 = False := rfl
theorem P_X2_litLettersOf_L4_s (x1 : Int32) (s_credits_cells : Nat → Int32) (s_lit : Nat → Int32) (Q : Int32 → Prop) (n : Nat) (x2 : Int32) (x3 : Int32) : P_X2_litLettersOf_L4 x1 s_credits_cells s_lit Q (n + 1) x2 x3 = B_X2_litLettersOf_L4 x1 s_credits_cells s_lit Q (P_X2_litLettersOf_L4 x1 s_credits_cells s_lit Q n) x2 x3 := rfl
def P_X2_litLettersOf (p0 : Int32) (s_credits_cells : Nat → Int32) (s_lit : Nat → Int32) (Q : Int32 → Prop) : Prop :=
  ∃ n : Nat, P_X2_litLettersOf_L4 p0 s_credits_cells s_lit Q n 0 0
def B_X2_litLetters_L4 (s_credits_cells : Nat → Int32) (s_lit : Nat → Int32) (Q : Int32 → Prop) (rec4 : Int32 → Int32 → Prop) (x1 : Int32) (x2 : Int32) : Prop :=
  P_X0_words s_credits_cells (fun (r_1 : Int32) => ((r_1 ≤ x2 → Q x1) ∧ (¬ r_1 ≤ x2 → P_X2_litLettersOf x2 s_credits_cells s_lit (fun (r_2 : Int32) => rec4 (x1 + r_2) (x2 + 1)))))
noncomputable def P_X2_litLetters_L4 (s_credits_cells : Nat → Int32) (s_lit : Nat → Int32) (Q : Int32 → Prop) (n : Nat) : Int32 → Int32 → Prop := Nat.rec (motive := fun _ => Int32 → Int32 → Prop) (fun _ _ => False) (fun _ r => B_X2_litLetters_L4 s_credits_cells s_lit Q r) n
theorem P_X2_litLetters_L4_z (s_credits_cells : Nat → Int32) (s_lit : Nat → Int32) (Q : Int32 → Prop) (x1 : Int32) (x2 : Int32) : P_X2_litLetters_L4 s_credits_cells s_lit Q 0 x1 x2 = False := rfl
theorem P_X2_litLetters_L4_s (s_credits_cells : Nat → Int32) (s_lit : Nat → Int32) (Q : Int32 → Prop) (n : Nat) (x1 : Int32) (x2 : Int32) : P_X2_litLetters_L4 s_credits_cells s_lit Q (n + 1) x1 x2 = B_X2_litLetters_L4 s_credits_cells s_lit Q (P_X2_litLetters_L4 s_credits_cells s_lit Q n) x1 x2 := rfl
def P_X2_litLetters (s_credits_cells : Nat → Int32) (s_lit : Nat → Int32) (Q : Int32 → Prop) : Prop :=
  ∃ n : Nat, P_X2_litLetters_L4 s_credits_cells s_lit Q n 0 0
def P_X2_wholeWords_J27 (rec4 : Int32 → Int32 → Prop) (x1 : Int32) (x2 : Int32) : Prop :=
  rec4 x1 (x2 + 1)
def B_X2_wholeWords_L4 (s_credits_cells : Nat → Int32) (s_whole : Nat → Int32) (Q : Int32 → Prop) (rec4 : Int32 → Int32 → Prop) (x1 : Int32) (x2 : Int32) : Prop :=
  P_X0_words s_credits_cells (fun (r_1 : Int32) => ((r_1 ≤ x2 → Q x1) ∧ (¬ r_1 ≤ x2 → P_X2_wholeFrom x2 s_whole (fun (r_2 : Int32) => ((r_2 = (-1) → P_X2_wholeWords_J27 rec4 x1 x2) ∧ (¬ r_2 = (-1) → P_X2_wholeWords_J27 rec4 (x1 + 1) x2))))))
noncomputable def P_X2_wholeWords_L4 (s_credits_cells : Nat → Int32) (s_whole : Nat → Int32) (Q : Int32 → Prop) (n : Nat) : Int32 → Int32 → Prop := Nat.rec (motive := fun _ => Int32 → Int32 → Prop) (fun _ _ => False) (fun _ r => B_X2_wholeWords_L4 s_credits_cells s_whole Q r) n
theorem P_X2_wholeWords_L4_z (s_credits_cells : Nat → Int32) (s_whole : Nat → Int32) (Q : Int32 → Prop) (x1 : Int32) (x2 : Int32) : P_X2_wholeWords_L4 s_credits_cells s_whole Q 0 x1 x2 = False := rfl
theorem P_X2_wholeWords_L4_s (s_credits_cells : Nat → Int32) (s_whole : Nat → Int32) (Q : Int32 → Prop) (n : Nat) (x1 : Int32) (x2 : Int32) : P_X2_wholeWords_L4 s_credits_cells s_whole Q (n + 1) x1 x2 = B_X2_wholeWords_L4 s_credits_cells s_whole Q (P_X2_wholeWords_L4 s_credits_cells s_whole Q n) x1 x2 := rfl
def P_X2_wholeWords (s_credits_cells : Nat → Int32) (s_whole : Nat → Int32) (Q : Int32 → Prop) : Prop :=
  ∃ n : Nat, P_X2_wholeWords_L4 s_credits_cells s_whole Q n 0 0
def B_X2_lastWhole_L4 (s_credits_cells : Nat → Int32) (s_whole : Nat → Int32) (Q : Int32 → Prop) (rec4 : Int32 → Int32 → Prop) (x1 : Int32) (x2 : Int32) : Prop :=
  P_X0_words s_credits_cells (fun (r_1 : Int32) => ((r_1 ≤ x2 → Q x1) ∧ (¬ r_1 ≤ x2 → P_X2_wholeFrom x2 s_whole (fun (r_2 : Int32) => rec4 (if x1 < r_2 then r_2 else x1) (x2 + 1)))))
noncomputable def P_X2_lastWhole_L4 (s_credits_cells : Nat → Int32) (s_whole : Nat → Int32) (Q : Int32 → Prop) (n : Nat) : Int32 → Int32 → Prop := Nat.rec (motive := fun _ => Int32 → Int32 → Prop) (fun _ _ => False) (fun _ r => B_X2_lastWhole_L4 s_credits_cells s_whole Q r) n
theorem P_X2_lastWhole_L4_z (s_credits_cells : Nat → Int32) (s_whole : Nat → Int32) (Q : Int32 → Prop) (x1 : Int32) (x2 : Int32) : P_X2_lastWhole_L4 s_credits_cells s_whole Q 0 x1 x2 = False := rfl
theorem P_X2_lastWhole_L4_s (s_credits_cells : Nat → Int32) (s_whole : Nat → Int32) (Q : Int32 → Prop) (n : Nat) (x1 : Int32) (x2 : Int32) : P_X2_lastWhole_L4 s_credits_cells s_whole Q (n + 1) x1 x2 = B_X2_lastWhole_L4 s_credits_cells s_whole Q (P_X2_lastWhole_L4 s_credits_cells s_whole Q n) x1 x2 := rfl
def P_X2_lastWhole (s_credits_cells : Nat → Int32) (s_whole : Nat → Int32) (Q : Int32 → Prop) : Prop :=
  ∃ n : Nat, P_X2_lastWhole_L4 s_credits_cells s_whole Q n (-1) 0
def P_X2_isThere (p0 : Int32) (p1 : Int32) (p2 : Int32) (s_ends : Nat → Int32) (Q : Int32 → Prop) : Prop :=
  ((p1 = (-1) → Q 0) ∧ (¬ p1 = (-1) → ((p2 < p1 → Q 0) ∧ (¬ p2 < p1 → P_X2_endOf p0 s_ends (fun (r_1 : Int32) => ((r_1 ≤ p2 → Q 0) ∧ (¬ r_1 ≤ p2 → Q 1)))))))
def P_X2_isSeen (p0 : Int32) (p1 : Int32) (p2 : Int32) (s_credits_cells : Nat → Int32) (s_lit : Nat → Int32) (s_ends : Nat → Int32) (Q : Int32 → Prop) : Prop :=
  ((p1 < 0 → Q 0) ∧ (¬ p1 < 0 → P_X0_ofWord p0 0 s_credits_cells (fun (r_1 : Int32) => ((p1 < r_1 → P_X2_litBeat p0 p1 s_lit (fun (r_2 : Int32) => P_X2_isThere p0 r_2 p2 s_ends (fun (r_3 : Int32) => narrow .boolean (.int r_3) = .int r_3 ∧ Q r_3))) ∧ (¬ p1 < r_1 → Q 0)))))
def P_X2_seenLettersOf_J33 (rec5 : Int32 → Int32 → Prop) (x3 : Int32) (x4 : Int32) : Prop :=
  rec5 x3 (x4 + 1)
def B_X2_seenLettersOf_L5 (x1 : Int32) (x2 : Int32) (s_credits_cells : Nat → Int32) (s_lit : Nat → Int32) (s_ends : Nat → Int32) (Q : Int32 → Prop) (rec5 : Int32 → Int32 → Prop) (x3 : Int32) (x4 : Int32) : Prop :=
  P_X0_ofWord x1 0 s_credits_cells (fun (r_1 : Int32) => ((r_1 ≤ x4 → Q x3) ∧ (¬ r_1 ≤ x4 → P_X2_isSeen x1 x4 x2 s_credits_cells s_lit s_ends (fun (r_2 : Int32) => ((r_2 = 0 → P_X2_seenLettersOf_J33 rec5 x3 x4) ∧ (¬ r_2 = 0 → P_X2_seenLettersOf_J33 rec5 (x3 + 1) x4))))))
noncomputable def P_X2_seenLettersOf_L5 (x1 : Int32) (x2 : Int32) (s_credits_cells : Nat → Int32) (s_lit : Nat → Int32) (s_ends : Nat → Int32) (Q : Int32 → Prop) (n : Nat) : Int32 → Int32 → Prop := Nat.rec (motive := fun _ => Int32 → Int32 → Prop) (fun _ _ => False) (fun _ r => B_X2_seenLettersOf_L5 x1 x2 s_credits_cells s_lit s_ends Q r) n
theorem P_X2_seenLettersOf_L5_z (x1 : Int32) (x2 : Int32) (s_credits_cells : Nat → Int32) (s_lit : Nat → Int32) (s_ends : Nat → Int32) (Q : Int32 → Prop) (x3 : Int32) (x4 : Int32) : P_X2_seenLettersOf_L5 x1 x2 s_credits_cells s_lit s_ends Q 0 x3 x4 = False := rfl
theorem P_X2_seenLettersOf_L5_s (x1 : Int32) (x2 : Int32) (s_credits_cells : Nat → Int32) (s_lit : Nat → Int32) (s_ends : Nat → Int32) (Q : Int32 → Prop) (n : Nat) (x3 : Int32) (x4 : Int32) : P_X2_seenLettersOf_L5 x1 x2 s_credits_cells s_lit s_ends Q (n + 1) x3 x4 = B_X2_seenLettersOf_L5 x1 x2 s_credits_cells s_lit s_ends Q (P_X2_seenLettersOf_L5 x1 x2 s_credits_cells s_lit s_ends Q n) x3 x4 := rfl
def P_X2_seenLettersOf (p0 : Int32) (p1 : Int32) (s_credits_cells : Nat → Int32) (s_lit : Nat → Int32) (s_ends : Nat → Int32) (Q : Int32 → Prop) : Prop :=
  ∃ n : Nat, P_X2_seenLettersOf_L5 p0 p1 s_credits_cells s_lit s_ends Q n 0 0
def B_X2_seenLetters_L4 (x1 : Int32) (s_credits_cells : Nat → Int32) (s_lit : Nat → Int32) (s_ends : Nat → Int32) (Q : Int32 → Prop) (rec4 : Int32 → Int32 → Prop) (x2 : Int32) (x3 : Int32) : Prop :=
  P_X0_words s_credits_cells (fun (r_1 : Int32) => ((r_1 ≤ x3 → Q x2) ∧ (¬ r_1 ≤ x3 → P_X2_seenLettersOf x3 x1 s_credits_cells s_lit s_ends (fun (r_2 : Int32) => rec4 (x2 + r_2) (x3 + 1)))))
noncomputable def P_X2_seenLetters_L4 (x1 : Int32) (s_credits_cells : Nat → Int32) (s_lit : Nat → Int32) (s_ends : Nat → Int32) (Q : Int32 → Prop) (n : Nat) : Int32 → Int32 → Prop := Nat.rec (motive := fun _ => Int32 → Int32 → Prop) (fun _ _ => False) (fun _ r => B_X2_seenLetters_L4 x1 s_credits_cells s_lit s_ends Q r) n
theorem P_X2_seenLetters_L4_z (x1 : Int32) (s_credits_cells : Nat → Int32) (s_lit : Nat → Int32) (s_ends : Nat → Int32) (Q : Int32 → Prop) (x2 : Int32) (x3 : Int32) : P_X2_seenLetters_L4 x1 s_credits_cells s_lit s_ends Q 0 x2 x3 = False := rfl
theorem P_X2_seenLetters_L4_s (x1 : Int32) (s_credits_cells : Nat → Int32) (s_lit : Nat → Int32) (s_ends : Nat → Int32) (Q : Int32 → Prop) (n : Nat) (x2 : Int32) (x3 : Int32) : P_X2_seenLetters_L4 x1 s_credits_cells s_lit s_ends Q (n + 1) x2 x3 = B_X2_seenLetters_L4 x1 s_credits_cells s_lit s_ends Q (P_X2_seenLetters_L4 x1 s_credits_cells s_lit s_ends Q n) x2 x3 := rfl
def P_X2_seenLetters (p0 : Int32) (s_credits_cells : Nat → Int32) (s_lit : Nat → Int32) (s_ends : Nat → Int32) (Q : Int32 → Prop) : Prop :=
  ∃ n : Nat, P_X2_seenLetters_L4 p0 s_credits_cells s_lit s_ends Q n 0 0
def P_X2_seenWords_J32 (rec4 : Int32 → Int32 → Prop) (x2 : Int32) (x3 : Int32) : Prop :=
  rec4 x2 (x3 + 1)
def B_X2_seenWords_L4 (x1 : Int32) (s_credits_cells : Nat → Int32) (s_lit : Nat → Int32) (s_ends : Nat → Int32) (Q : Int32 → Prop) (rec4 : Int32 → Int32 → Prop) (x2 : Int32) (x3 : Int32) : Prop :=
  P_X0_words s_credits_cells (fun (r_1 : Int32) => ((r_1 ≤ x3 → Q x2) ∧ (¬ r_1 ≤ x3 → P_X2_firstLit x3 s_credits_cells s_lit (fun (r_2 : Int32) => P_X2_isThere x3 r_2 x1 s_ends (fun (r_3 : Int32) => ((r_3 = 0 → P_X2_seenWords_J32 rec4 x2 x3) ∧ (¬ r_3 = 0 → P_X2_seenWords_J32 rec4 (x2 + 1) x3)))))))
noncomputable def P_X2_seenWords_L4 (x1 : Int32) (s_credits_cells : Nat → Int32) (s_lit : Nat → Int32) (s_ends : Nat → Int32) (Q : Int32 → Prop) (n : Nat) : Int32 → Int32 → Prop := Nat.rec (motive := fun _ => Int32 → Int32 → Prop) (fun _ _ => False) (fun _ r => B_X2_seenWords_L4 x1 s_credits_cells s_lit s_ends Q r) n
theorem P_X2_seenWords_L4_z (x1 : Int32) (s_credits_cells : Nat → Int32) (s_lit : Nat → Int32) (s_ends : Nat → Int32) (Q : Int32 → Prop) (x2 : Int32) (x3 : Int32) : P_X2_seenWords_L4 x1 s_credits_cells s_lit s_ends Q 0 x2 x3 = False := rfl
theorem P_X2_seenWords_L4_s (x1 : Int32) (s_credits_cells : Nat → Int32) (s_lit : Nat → Int32) (s_ends : Nat → Int32) (Q : Int32 → Prop) (n : Nat) (x2 : Int32) (x3 : Int32) : P_X2_seenWords_L4 x1 s_credits_cells s_lit s_ends Q (n + 1) x2 x3 = B_X2_seenWords_L4 x1 s_credits_cells s_lit s_ends Q (P_X2_seenWords_L4 x1 s_credits_cells s_lit s_ends Q n) x2 x3 := rfl
def P_X2_seenWords (p0 : Int32) (s_credits_cells : Nat → Int32) (s_lit : Nat → Int32) (s_ends : Nat → Int32) (Q : Int32 → Prop) : Prop :=
  ∃ n : Nat, P_X2_seenWords_L4 p0 s_credits_cells s_lit s_ends Q n 0 0
def P_X2_standingWords_J32 (rec4 : Int32 → Int32 → Prop) (x2 : Int32) (x3 : Int32) : Prop :=
  rec4 x2 (x3 + 1)
def B_X2_standingWords_L4 (x1 : Int32) (s_credits_cells : Nat → Int32) (s_whole : Nat → Int32) (s_ends : Nat → Int32) (Q : Int32 → Prop) (rec4 : Int32 → Int32 → Prop) (x2 : Int32) (x3 : Int32) : Prop :=
  P_X0_words s_credits_cells (fun (r_1 : Int32) => ((r_1 ≤ x3 → Q x2) ∧ (¬ r_1 ≤ x3 → P_X2_wholeFrom x3 s_whole (fun (r_2 : Int32) => P_X2_isThere x3 r_2 x1 s_ends (fun (r_3 : Int32) => ((r_3 = 0 → P_X2_standingWords_J32 rec4 x2 x3) ∧ (¬ r_3 = 0 → P_X2_standingWords_J32 rec4 (x2 + 1) x3)))))))
noncomputable def P_X2_standingWords_L4 (x1 : Int32) (s_credits_cells : Nat → Int32) (s_whole : Nat → Int32) (s_ends : Nat → Int32) (Q : Int32 → Prop) (n : Nat) : Int32 → Int32 → Prop := Nat.rec (motive := fun _ => Int32 → Int32 → Prop) (fun _ _ => False) (fun _ r => B_X2_standingWords_L4 x1 s_credits_cells s_whole s_ends Q r) n
theorem P_X2_standingWords_L4_z (x1 : Int32) (s_credits_cells : Nat → Int32) (s_whole : Nat → Int32) (s_ends : Nat → Int32) (Q : Int32 → Prop) (x2 : Int32) (x3 : Int32) : P_X2_standingWords_L4 x1 s_credits_cells s_whole s_ends Q 0 x2 x3 = False := rfl
theorem P_X2_standingWords_L4_s (x1 : Int32) (s_credits_cells : Nat → Int32) (s_whole : Nat → Int32) (s_ends : Nat → Int32) (Q : Int32 → Prop) (n : Nat) (x2 : Int32) (x3 : Int32) : P_X2_standingWords_L4 x1 s_credits_cells s_whole s_ends Q (n + 1) x2 x3 = B_X2_standingWords_L4 x1 s_credits_cells s_whole s_ends Q (P_X2_standingWords_L4 x1 s_credits_cells s_whole s_ends Q n) x2 x3 := rfl
def P_X2_standingWords (p0 : Int32) (s_credits_cells : Nat → Int32) (s_whole : Nat → Int32) (s_ends : Nat → Int32) (Q : Int32 → Prop) : Prop :=
  ∃ n : Nat, P_X2_standingWords_L4 p0 s_credits_cells s_whole s_ends Q n 0 0
def P_X2_emptyBeats_J22 (rec4 : Int32 → Int32 → Prop) (x1 : Int32) (x2 : Int32) : Prop :=
  rec4 x1 (x2 + 1)
def B_X2_emptyBeats_L4 (s_credits_cells : Nat → Int32) (s_lit : Nat → Int32) (s_ends : Nat → Int32) (Q : Int32 → Prop) (rec4 : Int32 → Int32 → Prop) (x1 : Int32) (x2 : Int32) : Prop :=
  ((200 ≤ x2 → Q x1) ∧ (¬ 200 ≤ x2 → P_X2_seenWords x2 s_credits_cells s_lit s_ends (fun (r_1 : Int32) => ((¬ r_1 = 0 → P_X2_emptyBeats_J22 rec4 x1 x2) ∧ (r_1 = 0 → P_X2_emptyBeats_J22 rec4 (x1 + 1) x2)))))
noncomputable def P_X2_emptyBeats_L4 (s_credits_cells : Nat → Int32) (s_lit : Nat → Int32) (s_ends : Nat → Int32) (Q : Int32 → Prop) (n : Nat) : Int32 → Int32 → Prop := Nat.rec (motive := fun _ => Int32 → Int32 → Prop) (fun _ _ => False) (fun _ r => B_X2_emptyBeats_L4 s_credits_cells s_lit s_ends Q r) n
theorem P_X2_emptyBeats_L4_z (s_credits_cells : Nat → Int32) (s_lit : Nat → Int32) (s_ends : Nat → Int32) (Q : Int32 → Prop) (x1 : Int32) (x2 : Int32) : P_X2_emptyBeats_L4 s_credits_cells s_lit s_ends Q 0 x1 x2 = False := rfl
theorem P_X2_emptyBeats_L4_s (s_credits_cells : Nat → Int32) (s_lit : Nat → Int32) (s_ends : Nat → Int32) (Q : Int32 → Prop) (n : Nat) (x1 : Int32) (x2 : Int32) : P_X2_emptyBeats_L4 s_credits_cells s_lit s_ends Q (n + 1) x1 x2 = B_X2_emptyBeats_L4 s_credits_cells s_lit s_ends Q (P_X2_emptyBeats_L4 s_credits_cells s_lit s_ends Q n) x1 x2 := rfl
def P_X2_emptyBeats (s_credits_cells : Nat → Int32) (s_lit : Nat → Int32) (s_ends : Nat → Int32) (Q : Int32 → Prop) : Prop :=
  ∃ n : Nat, P_X2_emptyBeats_L4 s_credits_cells s_lit s_ends Q n 0 0
def P_X2_firstClash_J148 (rec65 : Int32 → Int32 → Prop) (x5 : Int32) (x6 : Int32) : Prop :=
  rec65 x5 (x6 + 1)
def B_X2_firstClash_L65 (x1 : Int32) (x2 : Int32) (x3 : Int32) (s_credits_cells : Nat → Int32) (s_lit : Nat → Int32) (K65_154 : Int32 → Prop) (rec65 : Int32 → Int32 → Prop) (x5 : Int32) (x6 : Int32) : Prop :=
  P_X0_ofWord x1 0 s_credits_cells (fun (r_1 : Int32) => ((r_1 ≤ x6 → K65_154 x5) ∧ (¬ r_1 ≤ x6 → (((x6 + x3) < 0 → P_X2_firstClash_J148 rec65 x5 x6) ∧ (¬ (x6 + x3) < 0 → P_X0_ofWord x2 0 s_credits_cells (fun (r_2 : Int32) => ((r_2 ≤ (x6 + x3) → P_X2_firstClash_J148 rec65 x5 x6) ∧ (¬ r_2 ≤ (x6 + x3) → P_X2_litBeat x1 x6 s_lit (fun (r_3 : Int32) => P_X2_litBeat x2 (x6 + x3) s_lit (fun (r_4 : Int32) => ((r_3 = (-1) → P_X2_firstClash_J148 rec65 x5 x6) ∧ (¬ r_3 = (-1) → ((r_4 = (-1) → P_X2_firstClash_J148 rec65 x5 x6) ∧ (¬ r_4 = (-1) → P_X2_firstClash_J148 rec65 (if (if r_3 < r_4 then r_4 else r_3) < x5 then (if r_3 < r_4 then r_4 else r_3) else x5) x6))))))))))))))
noncomputable def P_X2_firstClash_L65 (x1 : Int32) (x2 : Int32) (x3 : Int32) (s_credits_cells : Nat → Int32) (s_lit : Nat → Int32) (K65_154 : Int32 → Prop) (n : Nat) : Int32 → Int32 → Prop := Nat.rec (motive := fun _ => Int32 → Int32 → Prop) (fun _ _ => False) (fun _ r => B_X2_firstClash_L65 x1 x2 x3 s_credits_cells s_lit K65_154 r) n
theorem P_X2_firstClash_L65_z (x1 : Int32) (x2 : Int32) (x3 : Int32) (s_credits_cells : Nat → Int32) (s_lit : Nat → Int32) (K65_154 : Int32 → Prop) (x5 : Int32) (x6 : Int32) : P_X2_firstClash_L65 x1 x2 x3 s_credits_cells s_lit K65_154 0 x5 x6 = False := rfl
theorem P_X2_firstClash_L65_s (x1 : Int32) (x2 : Int32) (x3 : Int32) (s_credits_cells : Nat → Int32) (s_lit : Nat → Int32) (K65_154 : Int32 → Prop) (n : Nat) (x5 : Int32) (x6 : Int32) : P_X2_firstClash_L65 x1 x2 x3 s_credits_cells s_lit K65_154 (n + 1) x5 x6 = B_X2_firstClash_L65 x1 x2 x3 s_credits_cells s_lit K65_154 (P_X2_firstClash_L65 x1 x2 x3 s_credits_cells s_lit K65_154 n) x5 x6 := rfl
def P_X2_firstClash (p0 : Int32) (p1 : Int32) (s_credits_cells : Nat → Int32) (s_lit : Nat → Int32) (s_ends : Nat → Int32) (Q : Int32 → Prop) : Prop :=
  P_X0_ofWord p0 1 s_credits_cells (fun (r_5 : Int32) => P_X0_ofWord p1 1 s_credits_cells (fun (r_6 : Int32) => ((r_5 = r_6 → P_X0_ofWord p0 2 s_credits_cells (fun (r_7 : Int32) => P_X0_ofWord p1 2 s_credits_cells (fun (r_8 : Int32) => P_X2_endOf p0 s_ends (fun (r_9 : Int32) => P_X2_endOf p1 s_ends (fun (r_10 : Int32) => ∃ n : Nat, P_X2_firstClash_L65 p0 p1 (r_7 - r_8) s_credits_cells s_lit (fun (x5_11 : Int32) => (((if r_10 < r_9 then r_10 else r_9) ≤ x5_11 → Q (-1)) ∧ (¬ (if r_10 < r_9 then r_10 else r_9) ≤ x5_11 → Q x5_11))) n (if r_10 < r_9 then r_10 else r_9) 0))))) ∧ (¬ r_5 = r_6 → Q (-1)))))
def B_X2_noteClash_L45 (x4 : Int32) (s_clashPairs : Int32) (Q : (Nat → Int32) → Int32 → Prop) (rec45 : Int32 → (Nat → Int32) → Prop) (x5 : Int32) (s_clashes : Nat → Int32) : Prop :=
  ((x4 ≤ x5 → Q s_clashes s_clashPairs) ∧ (¬ x4 ≤ x5 → ((200 ≤ x5 → Q s_clashes s_clashPairs) ∧ (¬ 200 ≤ x5 → vp_in x5 200 ∧ vp_in x5 200 ∧ rec45 (x5 + 1) (upd s_clashes x5.toNatClampNeg ((s_clashes x5.toNatClampNeg) + 1))))))
noncomputable def P_X2_noteClash_L45 (x4 : Int32) (s_clashPairs : Int32) (Q : (Nat → Int32) → Int32 → Prop) (n : Nat) : Int32 → (Nat → Int32) → Prop := Nat.rec (motive := fun _ => Int32 → (Nat → Int32) → Prop) (fun _ _ => False) (fun _ r => B_X2_noteClash_L45 x4 s_clashPairs Q r) n
theorem P_X2_noteClash_L45_z (x4 : Int32) (s_clashPairs : Int32) (Q : (Nat → Int32) → Int32 → Prop) (x5 : Int32) (s_clashes : Nat → Int32) : P_X2_noteClash_L45 x4 s_clashPairs Q 0 x5 s_clashes = False := rfl
theorem P_X2_noteClash_L45_s (x4 : Int32) (s_clashPairs : Int32) (Q : (Nat → Int32) → Int32 → Prop) (n : Nat) (x5 : Int32) (s_clashes : Nat → Int32) : P_X2_noteClash_L45 x4 s_clashPairs Q (n + 1) x5 s_clashes = B_X2_noteClash_L45 x4 s_clashPairs Q (P_X2_noteClash_L45 x4 s_clashPairs Q n) x5 s_clashes := rfl
def P_X2_noteClash (p0 : Int32) (p1 : Int32) (s_credits_cells : Nat → Int32) (s_lit : Nat → Int32) (s_ends : Nat → Int32) (s_clashes : Nat → Int32) (s_clashPairs : Int32) (Q : (Nat → Int32) → Int32 → Prop) : Prop :=
  P_X2_firstClash p0 p1 s_credits_cells s_lit s_ends (fun (r_3 : Int32) => ((¬ r_3 = (-1) → P_X2_endOf p0 s_ends (fun (r_4 : Int32) => P_X2_endOf p1 s_ends (fun (r_5 : Int32) => ∃ n : Nat, P_X2_noteClash_L45 (if r_5 < r_4 then r_5 else r_4) (s_clashPairs + 1) Q n (if r_3 < 0 then 0 else r_3) s_clashes))) ∧ (r_3 = (-1) → Q s_clashes s_clashPairs)))
def B_X2_findClashes_L30 (x1 : Int32) (s_credits_cells : Nat → Int32) (s_lit : Nat → Int32) (s_ends : Nat → Int32) (K30_53 : (Nat → Int32) → Int32 → Prop) (rec30 : Int32 → (Nat → Int32) → Int32 → Prop) (x2 : Int32) (s_clashes : Nat → Int32) (s_clashPairs : Int32) : Prop :=
  P_X0_words s_credits_cells (fun (r_1 : Int32) => ((r_1 ≤ x2 → K30_53 s_clashes s_clashPairs) ∧ (¬ r_1 ≤ x2 → P_X2_noteClash x1 x2 s_credits_cells s_lit s_ends s_clashes s_clashPairs (fun (s_clashes_2 : Nat → Int32) (s_clashPairs_3 : Int32) => rec30 (x2 + 1) s_clashes_2 s_clashPairs_3))))
noncomputable def P_X2_findClashes_L30 (x1 : Int32) (s_credits_cells : Nat → Int32) (s_lit : Nat → Int32) (s_ends : Nat → Int32) (K30_53 : (Nat → Int32) → Int32 → Prop) (n : Nat) : Int32 → (Nat → Int32) → Int32 → Prop := Nat.rec (motive := fun _ => Int32 → (Nat → Int32) → Int32 → Prop) (fun _ _ _ => False) (fun _ r => B_X2_findClashes_L30 x1 s_credits_cells s_lit s_ends K30_53 r) n
theorem P_X2_findClashes_L30_z (x1 : Int32) (s_credits_cells : Nat → Int32) (s_lit : Nat → Int32) (s_ends : Nat → Int32) (K30_53 : (Nat → Int32) → Int32 → Prop) (x2 : Int32) (s_clashes : Nat → Int32) (s_clashPairs : Int32) : P_X2_findClashes_L30 x1 s_credits_cells s_lit s_ends K30_53 0 x2 s_clashes s_clashPairs = False := rfl
theorem P_X2_findClashes_L30_s (x1 : Int32) (s_credits_cells : Nat → Int32) (s_lit : Nat → Int32) (s_ends : Nat → Int32) (K30_53 : (Nat → Int32) → Int32 → Prop) (n : Nat) (x2 : Int32) (s_clashes : Nat → Int32) (s_clashPairs : Int32) : P_X2_findClashes_L30 x1 s_credits_cells s_lit s_ends K30_53 (n + 1) x2 s_clashes s_clashPairs = B_X2_findClashes_L30 x1 s_credits_cells s_lit s_ends K30_53 (P_X2_findClashes_L30 x1 s_credits_cells s_lit s_ends K30_53 n) x2 s_clashes s_clashPairs := rfl
def B_X2_findClashes_L15 (s_credits_cells : Nat → Int32) (s_lit : Nat → Int32) (s_ends : Nat → Int32) (Q : (Nat → Int32) → Int32 → Prop) (rec15 : Int32 → (Nat → Int32) → Int32 → Prop) (x1 : Int32) (s_clashes : Nat → Int32) (s_clashPairs : Int32) : Prop :=
  P_X0_words s_credits_cells (fun (r_4 : Int32) => ((r_4 ≤ x1 → Q s_clashes s_clashPairs) ∧ (¬ r_4 ≤ x1 → ∃ n : Nat, P_X2_findClashes_L30 x1 s_credits_cells s_lit s_ends (fun (s_clashes_5 : Nat → Int32) (s_clashPairs_6 : Int32) => rec15 (x1 + 1) s_clashes_5 s_clashPairs_6) n (x1 + 1) s_clashes s_clashPairs)))
noncomputable def P_X2_findClashes_L15 (s_credits_cells : Nat → Int32) (s_lit : Nat → Int32) (s_ends : Nat → Int32) (Q : (Nat → Int32) → Int32 → Prop) (n : Nat) : Int32 → (Nat → Int32) → Int32 → Prop := Nat.rec (motive := fun _ => Int32 → (Nat → Int32) → Int32 → Prop) (fun _ _ _ => False) (fun _ r => B_X2_findClashes_L15 s_credits_cells s_lit s_ends Q r) n
theorem P_X2_findClashes_L15_z (s_credits_cells : Nat → Int32) (s_lit : Nat → Int32) (s_ends : Nat → Int32) (Q : (Nat → Int32) → Int32 → Prop) (x1 : Int32) (s_clashes : Nat → Int32) (s_clashPairs : Int32) : P_X2_findClashes_L15 s_credits_cells s_lit s_ends Q 0 x1 s_clashes s_clashPairs = False := rfl
theorem P_X2_findClashes_L15_s (s_credits_cells : Nat → Int32) (s_lit : Nat → Int32) (s_ends : Nat → Int32) (Q : (Nat → Int32) → Int32 → Prop) (n : Nat) (x1 : Int32) (s_clashes : Nat → Int32) (s_clashPairs : Int32) : P_X2_findClashes_L15 s_credits_cells s_lit s_ends Q (n + 1) x1 s_clashes s_clashPairs = B_X2_findClashes_L15 s_credits_cells s_lit s_ends Q (P_X2_findClashes_L15 s_credits_cells s_lit s_ends Q n) x1 s_clashes s_clashPairs := rfl
def P_X2_findClashes (s_credits_cells : Nat → Int32) (s_lit : Nat → Int32) (s_ends : Nat → Int32) (s_clashes : Nat → Int32) (s_clashPairs : Int32) (Q : (Nat → Int32) → Int32 → Prop) : Prop :=
  P_J7_fill_53178 200 0 s_clashes (fun (s_clashes_7 : Nat → Int32) => ∃ n : Nat, P_X2_findClashes_L15 s_credits_cells s_lit s_ends Q n 0 s_clashes_7 0)
def P_X2_clashesIn (p0 : Int32) (s_clashes : Nat → Int32) (Q : Int32 → Prop) : Prop :=
  ((p0 < 0 → Q 0) ∧ (¬ p0 < 0 → ((200 ≤ p0 → Q 0) ∧ (¬ 200 ≤ p0 → vp_in p0 200 ∧ Q (s_clashes p0.toNatClampNeg)))))
def P_X2_clashBeats_J22 (rec4 : Int32 → Int32 → Prop) (x1 : Int32) (x2 : Int32) : Prop :=
  rec4 x1 (x2 + 1)
def B_X2_clashBeats_L4 (s_clashes : Nat → Int32) (Q : Int32 → Prop) (rec4 : Int32 → Int32 → Prop) (x1 : Int32) (x2 : Int32) : Prop :=
  ((200 ≤ x2 → Q x1) ∧ (¬ 200 ≤ x2 → P_X2_clashesIn x2 s_clashes (fun (r_1 : Int32) => ((r_1 ≤ 0 → P_X2_clashBeats_J22 rec4 x1 x2) ∧ (¬ r_1 ≤ 0 → P_X2_clashBeats_J22 rec4 (x1 + 1) x2)))))
noncomputable def P_X2_clashBeats_L4 (s_clashes : Nat → Int32) (Q : Int32 → Prop) (n : Nat) : Int32 → Int32 → Prop := Nat.rec (motive := fun _ => Int32 → Int32 → Prop) (fun _ _ => False) (fun _ r => B_X2_clashBeats_L4 s_clashes Q r) n
theorem P_X2_clashBeats_L4_z (s_clashes : Nat → Int32) (Q : Int32 → Prop) (x1 : Int32) (x2 : Int32) : P_X2_clashBeats_L4 s_clashes Q 0 x1 x2 = False := rfl
theorem P_X2_clashBeats_L4_s (s_clashes : Nat → Int32) (Q : Int32 → Prop) (n : Nat) (x1 : Int32) (x2 : Int32) : P_X2_clashBeats_L4 s_clashes Q (n + 1) x1 x2 = B_X2_clashBeats_L4 s_clashes Q (P_X2_clashBeats_L4 s_clashes Q n) x1 x2 := rfl
def P_X2_clashBeats (s_clashes : Nat → Int32) (Q : Int32 → Prop) : Prop :=
  ∃ n : Nat, P_X2_clashBeats_L4 s_clashes Q n 0 0
def P_X2_clashPairs (s_clashPairs : Int32) (Q : Int32 → Prop) : Prop :=
  Q s_clashPairs
theorem k_210 : Cond.methodLink RX2 125 yX2_litLettersOf ∈ TBL := mem_T (i := 210) (by decide +kernel) (by decide +kernel)
theorem k_211 : Cond.instanceMethod yX2_litLettersOf ∈ TBL := mem_T (i := 211) (by decide +kernel) (by decide +kernel)
theorem k_212 : Cond.selects RX2 yX2_litLettersOf yX2_litLettersOf ∈ TBL := mem_T (i := 212) (by decide +kernel) (by decide +kernel)
theorem k_213 : Cond.code yX2_litLettersOf cX2_litLettersOf 4 (some .int) ∈ TBL := mem_T (i := 213) (by decide +kernel) (by decide +kernel)
theorem k_223 : Cond.methodLink RX2 128 yX2_wholeFrom ∈ TBL := mem_T (i := 223) (by decide +kernel) (by decide +kernel)
theorem k_224 : Cond.instanceMethod yX2_wholeFrom ∈ TBL := mem_T (i := 224) (by decide +kernel) (by decide +kernel)
theorem k_225 : Cond.selects RX2 yX2_wholeFrom yX2_wholeFrom ∈ TBL := mem_T (i := 225) (by decide +kernel) (by decide +kernel)
theorem k_226 : Cond.code yX2_wholeFrom cX2_wholeFrom 2 (some .int) ∈ TBL := mem_T (i := 226) (by decide +kernel) (by decide +kernel)
theorem k_246 : Cond.methodLink RX2 131 yX2_isThere ∈ TBL := mem_T (i := 246) (by decide +kernel) (by decide +kernel)
theorem k_248 : Cond.instanceMethod yX2_isThere ∈ TBL := mem_T (i := 248) (by decide +kernel) (by decide +kernel)
theorem k_s1 : Cond.selects RX2 yX2_isThere yX2_isThere ∈ TBL := mem_S (i := 1) (by decide +kernel) (by decide +kernel)
theorem k_249 : Cond.code yX2_isThere cX2_isThere 4 (some .boolean) ∈ TBL := mem_T (i := 249) (by decide +kernel) (by decide +kernel)
theorem k_472 : Cond.methodLink RX2 135 yX2_isSeen ∈ TBL := mem_T (i := 472) (by decide +kernel) (by decide +kernel)
theorem k_473 : Cond.instanceMethod yX2_isSeen ∈ TBL := mem_T (i := 473) (by decide +kernel) (by decide +kernel)
theorem k_474 : Cond.selects RX2 yX2_isSeen yX2_isSeen ∈ TBL := mem_T (i := 474) (by decide +kernel) (by decide +kernel)
theorem k_475 : Cond.code yX2_isSeen cX2_isSeen 4 (some .boolean) ∈ TBL := mem_T (i := 475) (by decide +kernel) (by decide +kernel)
theorem k_468 : Cond.methodLink RX2 138 yX2_seenLettersOf ∈ TBL := mem_T (i := 468) (by decide +kernel) (by decide +kernel)
theorem k_470 : Cond.instanceMethod yX2_seenLettersOf ∈ TBL := mem_T (i := 470) (by decide +kernel) (by decide +kernel)
theorem k_s15 : Cond.selects RX2 yX2_seenLettersOf yX2_seenLettersOf ∈ TBL := mem_S (i := 15) (by decide +kernel) (by decide +kernel)
theorem k_471 : Cond.code yX2_seenLettersOf cX2_seenLettersOf 5 (some .int) ∈ TBL := mem_T (i := 471) (by decide +kernel) (by decide +kernel)
theorem k_242 : Cond.methodLink RX2 141 yX2_firstLit ∈ TBL := mem_T (i := 242) (by decide +kernel) (by decide +kernel)
theorem k_243 : Cond.instanceMethod yX2_firstLit ∈ TBL := mem_T (i := 243) (by decide +kernel) (by decide +kernel)
theorem k_244 : Cond.selects RX2 yX2_firstLit yX2_firstLit ∈ TBL := mem_T (i := 244) (by decide +kernel) (by decide +kernel)
theorem k_245 : Cond.code yX2_firstLit cX2_firstLit 5 (some .int) ∈ TBL := mem_T (i := 245) (by decide +kernel) (by decide +kernel)
theorem k_238 : Cond.methodLink RX2 144 yX2_seenWords ∈ TBL := mem_T (i := 238) (by decide +kernel) (by decide +kernel)
theorem k_239 : Cond.instanceMethod yX2_seenWords ∈ TBL := mem_T (i := 239) (by decide +kernel) (by decide +kernel)
theorem k_240 : Cond.selects RX2 yX2_seenWords yX2_seenWords ∈ TBL := mem_T (i := 240) (by decide +kernel) (by decide +kernel)
theorem k_241 : Cond.code yX2_seenWords cX2_seenWords 4 (some .int) ∈ TBL := mem_T (i := 241) (by decide +kernel) (by decide +kernel)
theorem k_407 : Cond.methodLink RX2 157 yJ9_min_7cf53 ∈ TBL := mem_T (i := 407) (by decide +kernel) (by decide +kernel)
theorem k_44 : Cond.fieldLink RX2 25 "CreditBeams$Show" "clashes" "[I" ∈ TBL := mem_T (i := 44) (by decide +kernel) (by decide +kernel)
theorem k_403 : Cond.methodLink RX2 154 yX2_firstClash ∈ TBL := mem_T (i := 403) (by decide +kernel) (by decide +kernel)
theorem k_405 : Cond.instanceMethod yX2_firstClash ∈ TBL := mem_T (i := 405) (by decide +kernel) (by decide +kernel)
theorem k_s14 : Cond.selects RX2 yX2_firstClash yX2_firstClash ∈ TBL := mem_S (i := 14) (by decide +kernel) (by decide +kernel)
theorem k_406 : Cond.code yX2_firstClash cX2_firstClash 10 (some .int) ∈ TBL := mem_T (i := 406) (by decide +kernel) (by decide +kernel)
theorem k_45 : Cond.fieldLink RX2 147 "CreditBeams$Show" "clashPairs" "I" ∈ TBL := mem_T (i := 45) (by decide +kernel) (by decide +kernel)
theorem k_399 : Cond.methodLink RX2 151 yX2_noteClash ∈ TBL := mem_T (i := 399) (by decide +kernel) (by decide +kernel)
theorem k_401 : Cond.instanceMethod yX2_noteClash ∈ TBL := mem_T (i := 401) (by decide +kernel) (by decide +kernel)
theorem k_s13 : Cond.selects RX2 yX2_noteClash yX2_noteClash ∈ TBL := mem_S (i := 13) (by decide +kernel) (by decide +kernel)
theorem k_402 : Cond.code yX2_noteClash cX2_noteClash 6 none ∈ TBL := mem_T (i := 402) (by decide +kernel) (by decide +kernel)
theorem k_258 : Cond.methodLink RX2 160 yX2_clashesIn ∈ TBL := mem_T (i := 258) (by decide +kernel) (by decide +kernel)
theorem k_259 : Cond.instanceMethod yX2_clashesIn ∈ TBL := mem_T (i := 259) (by decide +kernel) (by decide +kernel)
theorem k_260 : Cond.selects RX2 yX2_clashesIn yX2_clashesIn ∈ TBL := mem_T (i := 260) (by decide +kernel) (by decide +kernel)
theorem k_261 : Cond.code yX2_clashesIn cX2_clashesIn 2 (some .int) ∈ TBL := mem_T (i := 261) (by decide +kernel) (by decide +kernel)
theorem dX2_litLettersOf_0 : decode cX2_litLettersOf 0 = .ok (.iconst 0, 1) := by decide +kernel
theorem dX2_litLettersOf_1 : decode cX2_litLettersOf 1 = .ok (.istore_n 2, 1) := by decide +kernel
theorem dX2_litLettersOf_2 : decode cX2_litLettersOf 2 = .ok (.iconst 0, 1) := by decide +kernel
theorem dX2_litLettersOf_3 : decode cX2_litLettersOf 3 = .ok (.istore_n 3, 1) := by decide +kernel
theorem dX2_litLettersOf_4 : decode cX2_litLettersOf 4 = .ok (.iload_n 3, 1) := by decide +kernel
theorem dX2_litLettersOf_5 : decode cX2_litLettersOf 5 = .ok (.aload_n 0, 1) := by decide +kernel
theorem dX2_litLettersOf_6 : decode cX2_litLettersOf 6 = .ok (.getfield 34, 3) := by decide +kernel
theorem dX2_litLettersOf_9 : decode cX2_litLettersOf 9 = .ok (.iload_n 1, 1) := by decide +kernel
theorem dX2_litLettersOf_10 : decode cX2_litLettersOf 10 = .ok (.iconst 0, 1) := by decide +kernel
theorem dX2_litLettersOf_11 : decode cX2_litLettersOf 11 = .ok (.invokevirtual 73, 3) := by decide +kernel
theorem dX2_litLettersOf_14 : decode cX2_litLettersOf 14 = .ok (.if_icmp .ge 22, 3) := by decide +kernel
theorem dX2_litLettersOf_17 : decode cX2_litLettersOf 17 = .ok (.aload_n 0, 1) := by decide +kernel
theorem dX2_litLettersOf_18 : decode cX2_litLettersOf 18 = .ok (.iload_n 1, 1) := by decide +kernel
theorem dX2_litLettersOf_19 : decode cX2_litLettersOf 19 = .ok (.iload_n 3, 1) := by decide +kernel
theorem dX2_litLettersOf_20 : decode cX2_litLettersOf 20 = .ok (.invokevirtual 116, 3) := by decide +kernel
theorem dX2_litLettersOf_23 : decode cX2_litLettersOf 23 = .ok (.iconst (-1), 1) := by decide +kernel
theorem dX2_litLettersOf_24 : decode cX2_litLettersOf 24 = .ok (.if_icmp .eq 6, 3) := by decide +kernel
theorem dX2_litLettersOf_27 : decode cX2_litLettersOf 27 = .ok (.iinc 2 1, 3) := by decide +kernel
theorem dX2_litLettersOf_30 : decode cX2_litLettersOf 30 = .ok (.iinc 3 1, 3) := by decide +kernel
theorem dX2_litLettersOf_33 : decode cX2_litLettersOf 33 = .ok (.goto (-29), 3) := by decide +kernel
theorem dX2_litLettersOf_36 : decode cX2_litLettersOf 36 = .ok (.iload_n 2, 1) := by decide +kernel
theorem dX2_litLettersOf_37 : decode cX2_litLettersOf 37 = .ok (.ireturn, 1) := by decide +kernel
theorem dX2_litLetters_0 : decode cX2_litLetters 0 = .ok (.iconst 0, 1) := by decide +kernel
theorem dX2_litLetters_1 : decode cX2_litLetters 1 = .ok (.istore_n 1, 1) := by decide +kernel
theorem dX2_litLetters_2 : decode cX2_litLetters 2 = .ok (.iconst 0, 1) := by decide +kernel
theorem dX2_litLetters_3 : decode cX2_litLetters 3 = .ok (.istore_n 2, 1) := by decide +kernel
theorem dX2_litLetters_4 : decode cX2_litLetters 4 = .ok (.iload_n 2, 1) := by decide +kernel
theorem dX2_litLetters_5 : decode cX2_litLetters 5 = .ok (.aload_n 0, 1) := by decide +kernel
theorem dX2_litLetters_6 : decode cX2_litLetters 6 = .ok (.getfield 34, 3) := by decide +kernel
theorem dX2_litLetters_9 : decode cX2_litLetters 9 = .ok (.invokevirtual 80, 3) := by decide +kernel
theorem dX2_litLetters_12 : decode cX2_litLetters 12 = .ok (.if_icmp .ge 17, 3) := by decide +kernel
theorem dX2_litLetters_15 : decode cX2_litLetters 15 = .ok (.iload_n 1, 1) := by decide +kernel
theorem dX2_litLetters_16 : decode cX2_litLetters 16 = .ok (.aload_n 0, 1) := by decide +kernel
theorem dX2_litLetters_17 : decode cX2_litLetters 17 = .ok (.iload_n 2, 1) := by decide +kernel
theorem dX2_litLetters_18 : decode cX2_litLetters 18 = .ok (.invokevirtual 125, 3) := by decide +kernel
theorem dX2_litLetters_21 : decode cX2_litLetters 21 = .ok (.iadd, 1) := by decide +kernel
theorem dX2_litLetters_22 : decode cX2_litLetters 22 = .ok (.istore_n 1, 1) := by decide +kernel
theorem dX2_litLetters_23 : decode cX2_litLetters 23 = .ok (.iinc 2 1, 3) := by decide +kernel
theorem dX2_litLetters_26 : decode cX2_litLetters 26 = .ok (.goto (-22), 3) := by decide +kernel
theorem dX2_litLetters_29 : decode cX2_litLetters 29 = .ok (.iload_n 1, 1) := by decide +kernel
theorem dX2_litLetters_30 : decode cX2_litLetters 30 = .ok (.ireturn, 1) := by decide +kernel
theorem dX2_wholeWords_0 : decode cX2_wholeWords 0 = .ok (.iconst 0, 1) := by decide +kernel
theorem dX2_wholeWords_1 : decode cX2_wholeWords 1 = .ok (.istore_n 1, 1) := by decide +kernel
theorem dX2_wholeWords_2 : decode cX2_wholeWords 2 = .ok (.iconst 0, 1) := by decide +kernel
theorem dX2_wholeWords_3 : decode cX2_wholeWords 3 = .ok (.istore_n 2, 1) := by decide +kernel
theorem dX2_wholeWords_4 : decode cX2_wholeWords 4 = .ok (.iload_n 2, 1) := by decide +kernel
theorem dX2_wholeWords_5 : decode cX2_wholeWords 5 = .ok (.aload_n 0, 1) := by decide +kernel
theorem dX2_wholeWords_6 : decode cX2_wholeWords 6 = .ok (.getfield 34, 3) := by decide +kernel
theorem dX2_wholeWords_9 : decode cX2_wholeWords 9 = .ok (.invokevirtual 80, 3) := by decide +kernel
theorem dX2_wholeWords_12 : decode cX2_wholeWords 12 = .ok (.if_icmp .ge 21, 3) := by decide +kernel
theorem dX2_wholeWords_15 : decode cX2_wholeWords 15 = .ok (.aload_n 0, 1) := by decide +kernel
theorem dX2_wholeWords_16 : decode cX2_wholeWords 16 = .ok (.iload_n 2, 1) := by decide +kernel
theorem dX2_wholeWords_17 : decode cX2_wholeWords 17 = .ok (.invokevirtual 128, 3) := by decide +kernel
theorem dX2_wholeWords_20 : decode cX2_wholeWords 20 = .ok (.iconst (-1), 1) := by decide +kernel
theorem dX2_wholeWords_21 : decode cX2_wholeWords 21 = .ok (.if_icmp .eq 6, 3) := by decide +kernel
theorem dX2_wholeWords_24 : decode cX2_wholeWords 24 = .ok (.iinc 1 1, 3) := by decide +kernel
theorem dX2_wholeWords_27 : decode cX2_wholeWords 27 = .ok (.iinc 2 1, 3) := by decide +kernel
theorem dX2_wholeWords_30 : decode cX2_wholeWords 30 = .ok (.goto (-26), 3) := by decide +kernel
theorem dX2_wholeWords_33 : decode cX2_wholeWords 33 = .ok (.iload_n 1, 1) := by decide +kernel
theorem dX2_wholeWords_34 : decode cX2_wholeWords 34 = .ok (.ireturn, 1) := by decide +kernel
theorem dX2_lastWhole_0 : decode cX2_lastWhole 0 = .ok (.iconst (-1), 1) := by decide +kernel
theorem dX2_lastWhole_1 : decode cX2_lastWhole 1 = .ok (.istore_n 1, 1) := by decide +kernel
theorem dX2_lastWhole_2 : decode cX2_lastWhole 2 = .ok (.iconst 0, 1) := by decide +kernel
theorem dX2_lastWhole_3 : decode cX2_lastWhole 3 = .ok (.istore_n 2, 1) := by decide +kernel
theorem dX2_lastWhole_4 : decode cX2_lastWhole 4 = .ok (.iload_n 2, 1) := by decide +kernel
theorem dX2_lastWhole_5 : decode cX2_lastWhole 5 = .ok (.aload_n 0, 1) := by decide +kernel
theorem dX2_lastWhole_6 : decode cX2_lastWhole 6 = .ok (.getfield 34, 3) := by decide +kernel
theorem dX2_lastWhole_9 : decode cX2_lastWhole 9 = .ok (.invokevirtual 80, 3) := by decide +kernel
theorem dX2_lastWhole_12 : decode cX2_lastWhole 12 = .ok (.if_icmp .ge 19, 3) := by decide +kernel
theorem dX2_lastWhole_15 : decode cX2_lastWhole 15 = .ok (.iload_n 1, 1) := by decide +kernel
theorem dX2_lastWhole_16 : decode cX2_lastWhole 16 = .ok (.aload_n 0, 1) := by decide +kernel
theorem dX2_lastWhole_17 : decode cX2_lastWhole 17 = .ok (.iload_n 2, 1) := by decide +kernel
theorem dX2_lastWhole_18 : decode cX2_lastWhole 18 = .ok (.invokevirtual 128, 3) := by decide +kernel
theorem dX2_lastWhole_21 : decode cX2_lastWhole 21 = .ok (.invokestatic 64, 3) := by decide +kernel
theorem dX2_lastWhole_24 : decode cX2_lastWhole 24 = .ok (.istore_n 1, 1) := by decide +kernel
theorem dX2_lastWhole_25 : decode cX2_lastWhole 25 = .ok (.iinc 2 1, 3) := by decide +kernel
theorem dX2_lastWhole_28 : decode cX2_lastWhole 28 = .ok (.goto (-24), 3) := by decide +kernel
theorem dX2_lastWhole_31 : decode cX2_lastWhole 31 = .ok (.iload_n 1, 1) := by decide +kernel
theorem dX2_lastWhole_32 : decode cX2_lastWhole 32 = .ok (.ireturn, 1) := by decide +kernel
theorem dX2_isThere_0 : decode cX2_isThere 0 = .ok (.iload_n 2, 1) := by decide +kernel
theorem dX2_isThere_1 : decode cX2_isThere 1 = .ok (.iconst (-1), 1) := by decide +kernel
theorem dX2_isThere_2 : decode cX2_isThere 2 = .ok (.if_icmp .eq 21, 3) := by decide +kernel
theorem dX2_isThere_5 : decode cX2_isThere 5 = .ok (.iload_n 2, 1) := by decide +kernel
theorem dX2_isThere_6 : decode cX2_isThere 6 = .ok (.iload_n 3, 1) := by decide +kernel
theorem dX2_isThere_7 : decode cX2_isThere 7 = .ok (.if_icmp .gt 16, 3) := by decide +kernel
theorem dX2_isThere_10 : decode cX2_isThere 10 = .ok (.iload_n 3, 1) := by decide +kernel
theorem dX2_isThere_11 : decode cX2_isThere 11 = .ok (.aload_n 0, 1) := by decide +kernel
theorem dX2_isThere_12 : decode cX2_isThere 12 = .ok (.iload_n 1, 1) := by decide +kernel
theorem dX2_isThere_13 : decode cX2_isThere 13 = .ok (.invokevirtual 122, 3) := by decide +kernel
theorem dX2_isThere_16 : decode cX2_isThere 16 = .ok (.if_icmp .ge 7, 3) := by decide +kernel
theorem dX2_isThere_19 : decode cX2_isThere 19 = .ok (.iconst 1, 1) := by decide +kernel
theorem dX2_isThere_20 : decode cX2_isThere 20 = .ok (.goto 4, 3) := by decide +kernel
theorem dX2_isThere_23 : decode cX2_isThere 23 = .ok (.iconst 0, 1) := by decide +kernel
theorem dX2_isThere_24 : decode cX2_isThere 24 = .ok (.ireturn, 1) := by decide +kernel
theorem dX2_isSeen_0 : decode cX2_isSeen 0 = .ok (.iload_n 2, 1) := by decide +kernel
theorem dX2_isSeen_1 : decode cX2_isSeen 1 = .ok (.ifCond .lt 16, 3) := by decide +kernel
theorem dX2_isSeen_4 : decode cX2_isSeen 4 = .ok (.iload_n 2, 1) := by decide +kernel
theorem dX2_isSeen_5 : decode cX2_isSeen 5 = .ok (.aload_n 0, 1) := by decide +kernel
theorem dX2_isSeen_6 : decode cX2_isSeen 6 = .ok (.getfield 34, 3) := by decide +kernel
theorem dX2_isSeen_9 : decode cX2_isSeen 9 = .ok (.iload_n 1, 1) := by decide +kernel
theorem dX2_isSeen_10 : decode cX2_isSeen 10 = .ok (.iconst 0, 1) := by decide +kernel
theorem dX2_isSeen_11 : decode cX2_isSeen 11 = .ok (.invokevirtual 73, 3) := by decide +kernel
theorem dX2_isSeen_14 : decode cX2_isSeen 14 = .ok (.if_icmp .lt 5, 3) := by decide +kernel
theorem dX2_isSeen_17 : decode cX2_isSeen 17 = .ok (.iconst 0, 1) := by decide +kernel
theorem dX2_isSeen_18 : decode cX2_isSeen 18 = .ok (.ireturn, 1) := by decide +kernel
theorem dX2_isSeen_19 : decode cX2_isSeen 19 = .ok (.aload_n 0, 1) := by decide +kernel
theorem dX2_isSeen_20 : decode cX2_isSeen 20 = .ok (.iload_n 1, 1) := by decide +kernel
theorem dX2_isSeen_21 : decode cX2_isSeen 21 = .ok (.aload_n 0, 1) := by decide +kernel
theorem dX2_isSeen_22 : decode cX2_isSeen 22 = .ok (.iload_n 1, 1) := by decide +kernel
theorem dX2_isSeen_23 : decode cX2_isSeen 23 = .ok (.iload_n 2, 1) := by decide +kernel
theorem dX2_isSeen_24 : decode cX2_isSeen 24 = .ok (.invokevirtual 116, 3) := by decide +kernel
theorem dX2_isSeen_27 : decode cX2_isSeen 27 = .ok (.iload_n 3, 1) := by decide +kernel
theorem dX2_isSeen_28 : decode cX2_isSeen 28 = .ok (.invokevirtual 131, 3) := by decide +kernel
theorem dX2_isSeen_31 : decode cX2_isSeen 31 = .ok (.ireturn, 1) := by decide +kernel
theorem dX2_seenLettersOf_0 : decode cX2_seenLettersOf 0 = .ok (.iconst 0, 1) := by decide +kernel
theorem dX2_seenLettersOf_1 : decode cX2_seenLettersOf 1 = .ok (.istore_n 3, 1) := by decide +kernel
theorem dX2_seenLettersOf_2 : decode cX2_seenLettersOf 2 = .ok (.iconst 0, 1) := by decide +kernel
theorem dX2_seenLettersOf_3 : decode cX2_seenLettersOf 3 = .ok (.istore 4, 2) := by decide +kernel
theorem dX2_seenLettersOf_5 : decode cX2_seenLettersOf 5 = .ok (.iload 4, 2) := by decide +kernel
theorem dX2_seenLettersOf_7 : decode cX2_seenLettersOf 7 = .ok (.aload_n 0, 1) := by decide +kernel
theorem dX2_seenLettersOf_8 : decode cX2_seenLettersOf 8 = .ok (.getfield 34, 3) := by decide +kernel
theorem dX2_seenLettersOf_11 : decode cX2_seenLettersOf 11 = .ok (.iload_n 1, 1) := by decide +kernel
theorem dX2_seenLettersOf_12 : decode cX2_seenLettersOf 12 = .ok (.iconst 0, 1) := by decide +kernel
theorem dX2_seenLettersOf_13 : decode cX2_seenLettersOf 13 = .ok (.invokevirtual 73, 3) := by decide +kernel
theorem dX2_seenLettersOf_16 : decode cX2_seenLettersOf 16 = .ok (.if_icmp .ge 23, 3) := by decide +kernel
theorem dX2_seenLettersOf_19 : decode cX2_seenLettersOf 19 = .ok (.aload_n 0, 1) := by decide +kernel
theorem dX2_seenLettersOf_20 : decode cX2_seenLettersOf 20 = .ok (.iload_n 1, 1) := by decide +kernel
theorem dX2_seenLettersOf_21 : decode cX2_seenLettersOf 21 = .ok (.iload 4, 2) := by decide +kernel
theorem dX2_seenLettersOf_23 : decode cX2_seenLettersOf 23 = .ok (.iload_n 2, 1) := by decide +kernel
theorem dX2_seenLettersOf_24 : decode cX2_seenLettersOf 24 = .ok (.invokevirtual 135, 3) := by decide +kernel
theorem dX2_seenLettersOf_27 : decode cX2_seenLettersOf 27 = .ok (.ifCond .eq 6, 3) := by decide +kernel
theorem dX2_seenLettersOf_30 : decode cX2_seenLettersOf 30 = .ok (.iinc 3 1, 3) := by decide +kernel
theorem dX2_seenLettersOf_33 : decode cX2_seenLettersOf 33 = .ok (.iinc 4 1, 3) := by decide +kernel
theorem dX2_seenLettersOf_36 : decode cX2_seenLettersOf 36 = .ok (.goto (-31), 3) := by decide +kernel
theorem dX2_seenLettersOf_39 : decode cX2_seenLettersOf 39 = .ok (.iload_n 3, 1) := by decide +kernel
theorem dX2_seenLettersOf_40 : decode cX2_seenLettersOf 40 = .ok (.ireturn, 1) := by decide +kernel
theorem dX2_seenLetters_0 : decode cX2_seenLetters 0 = .ok (.iconst 0, 1) := by decide +kernel
theorem dX2_seenLetters_1 : decode cX2_seenLetters 1 = .ok (.istore_n 2, 1) := by decide +kernel
theorem dX2_seenLetters_2 : decode cX2_seenLetters 2 = .ok (.iconst 0, 1) := by decide +kernel
theorem dX2_seenLetters_3 : decode cX2_seenLetters 3 = .ok (.istore_n 3, 1) := by decide +kernel
theorem dX2_seenLetters_4 : decode cX2_seenLetters 4 = .ok (.iload_n 3, 1) := by decide +kernel
theorem dX2_seenLetters_5 : decode cX2_seenLetters 5 = .ok (.aload_n 0, 1) := by decide +kernel
theorem dX2_seenLetters_6 : decode cX2_seenLetters 6 = .ok (.getfield 34, 3) := by decide +kernel
theorem dX2_seenLetters_9 : decode cX2_seenLetters 9 = .ok (.invokevirtual 80, 3) := by decide +kernel
theorem dX2_seenLetters_12 : decode cX2_seenLetters 12 = .ok (.if_icmp .ge 18, 3) := by decide +kernel
theorem dX2_seenLetters_15 : decode cX2_seenLetters 15 = .ok (.iload_n 2, 1) := by decide +kernel
theorem dX2_seenLetters_16 : decode cX2_seenLetters 16 = .ok (.aload_n 0, 1) := by decide +kernel
theorem dX2_seenLetters_17 : decode cX2_seenLetters 17 = .ok (.iload_n 3, 1) := by decide +kernel
theorem dX2_seenLetters_18 : decode cX2_seenLetters 18 = .ok (.iload_n 1, 1) := by decide +kernel
theorem dX2_seenLetters_19 : decode cX2_seenLetters 19 = .ok (.invokevirtual 138, 3) := by decide +kernel
theorem dX2_seenLetters_22 : decode cX2_seenLetters 22 = .ok (.iadd, 1) := by decide +kernel
theorem dX2_seenLetters_23 : decode cX2_seenLetters 23 = .ok (.istore_n 2, 1) := by decide +kernel
theorem dX2_seenLetters_24 : decode cX2_seenLetters 24 = .ok (.iinc 3 1, 3) := by decide +kernel
theorem dX2_seenLetters_27 : decode cX2_seenLetters 27 = .ok (.goto (-23), 3) := by decide +kernel
theorem dX2_seenLetters_30 : decode cX2_seenLetters 30 = .ok (.iload_n 2, 1) := by decide +kernel
theorem dX2_seenLetters_31 : decode cX2_seenLetters 31 = .ok (.ireturn, 1) := by decide +kernel
theorem dX2_seenWords_0 : decode cX2_seenWords 0 = .ok (.iconst 0, 1) := by decide +kernel
theorem dX2_seenWords_1 : decode cX2_seenWords 1 = .ok (.istore_n 2, 1) := by decide +kernel
theorem dX2_seenWords_2 : decode cX2_seenWords 2 = .ok (.iconst 0, 1) := by decide +kernel
theorem dX2_seenWords_3 : decode cX2_seenWords 3 = .ok (.istore_n 3, 1) := by decide +kernel
theorem dX2_seenWords_4 : decode cX2_seenWords 4 = .ok (.iload_n 3, 1) := by decide +kernel
theorem dX2_seenWords_5 : decode cX2_seenWords 5 = .ok (.aload_n 0, 1) := by decide +kernel
theorem dX2_seenWords_6 : decode cX2_seenWords 6 = .ok (.getfield 34, 3) := by decide +kernel
theorem dX2_seenWords_9 : decode cX2_seenWords 9 = .ok (.invokevirtual 80, 3) := by decide +kernel
theorem dX2_seenWords_12 : decode cX2_seenWords 12 = .ok (.if_icmp .ge 26, 3) := by decide +kernel
theorem dX2_seenWords_15 : decode cX2_seenWords 15 = .ok (.aload_n 0, 1) := by decide +kernel
theorem dX2_seenWords_16 : decode cX2_seenWords 16 = .ok (.iload_n 3, 1) := by decide +kernel
theorem dX2_seenWords_17 : decode cX2_seenWords 17 = .ok (.aload_n 0, 1) := by decide +kernel
theorem dX2_seenWords_18 : decode cX2_seenWords 18 = .ok (.iload_n 3, 1) := by decide +kernel
theorem dX2_seenWords_19 : decode cX2_seenWords 19 = .ok (.invokevirtual 141, 3) := by decide +kernel
theorem dX2_seenWords_22 : decode cX2_seenWords 22 = .ok (.iload_n 1, 1) := by decide +kernel
theorem dX2_seenWords_23 : decode cX2_seenWords 23 = .ok (.invokevirtual 131, 3) := by decide +kernel
theorem dX2_seenWords_26 : decode cX2_seenWords 26 = .ok (.ifCond .eq 6, 3) := by decide +kernel
theorem dX2_seenWords_29 : decode cX2_seenWords 29 = .ok (.iinc 2 1, 3) := by decide +kernel
theorem dX2_seenWords_32 : decode cX2_seenWords 32 = .ok (.iinc 3 1, 3) := by decide +kernel
theorem dX2_seenWords_35 : decode cX2_seenWords 35 = .ok (.goto (-31), 3) := by decide +kernel
theorem dX2_seenWords_38 : decode cX2_seenWords 38 = .ok (.iload_n 2, 1) := by decide +kernel
theorem dX2_seenWords_39 : decode cX2_seenWords 39 = .ok (.ireturn, 1) := by decide +kernel
theorem dX2_standingWords_0 : decode cX2_standingWords 0 = .ok (.iconst 0, 1) := by decide +kernel
theorem dX2_standingWords_1 : decode cX2_standingWords 1 = .ok (.istore_n 2, 1) := by decide +kernel
theorem dX2_standingWords_2 : decode cX2_standingWords 2 = .ok (.iconst 0, 1) := by decide +kernel
theorem dX2_standingWords_3 : decode cX2_standingWords 3 = .ok (.istore_n 3, 1) := by decide +kernel
theorem dX2_standingWords_4 : decode cX2_standingWords 4 = .ok (.iload_n 3, 1) := by decide +kernel
theorem dX2_standingWords_5 : decode cX2_standingWords 5 = .ok (.aload_n 0, 1) := by decide +kernel
theorem dX2_standingWords_6 : decode cX2_standingWords 6 = .ok (.getfield 34, 3) := by decide +kernel
theorem dX2_standingWords_9 : decode cX2_standingWords 9 = .ok (.invokevirtual 80, 3) := by decide +kernel
theorem dX2_standingWords_12 : decode cX2_standingWords 12 = .ok (.if_icmp .ge 26, 3) := by decide +kernel
theorem dX2_standingWords_15 : decode cX2_standingWords 15 = .ok (.aload_n 0, 1) := by decide +kernel
theorem dX2_standingWords_16 : decode cX2_standingWords 16 = .ok (.iload_n 3, 1) := by decide +kernel
theorem dX2_standingWords_17 : decode cX2_standingWords 17 = .ok (.aload_n 0, 1) := by decide +kernel
theorem dX2_standingWords_18 : decode cX2_standingWords 18 = .ok (.iload_n 3, 1) := by decide +kernel
theorem dX2_standingWords_19 : decode cX2_standingWords 19 = .ok (.invokevirtual 128, 3) := by decide +kernel
theorem dX2_standingWords_22 : decode cX2_standingWords 22 = .ok (.iload_n 1, 1) := by decide +kernel
theorem dX2_standingWords_23 : decode cX2_standingWords 23 = .ok (.invokevirtual 131, 3) := by decide +kernel
theorem dX2_standingWords_26 : decode cX2_standingWords 26 = .ok (.ifCond .eq 6, 3) := by decide +kernel
theorem dX2_standingWords_29 : decode cX2_standingWords 29 = .ok (.iinc 2 1, 3) := by decide +kernel
theorem dX2_standingWords_32 : decode cX2_standingWords 32 = .ok (.iinc 3 1, 3) := by decide +kernel
theorem dX2_standingWords_35 : decode cX2_standingWords 35 = .ok (.goto (-31), 3) := by decide +kernel
theorem dX2_standingWords_38 : decode cX2_standingWords 38 = .ok (.iload_n 2, 1) := by decide +kernel
theorem dX2_standingWords_39 : decode cX2_standingWords 39 = .ok (.ireturn, 1) := by decide +kernel
theorem dX2_emptyBeats_0 : decode cX2_emptyBeats 0 = .ok (.iconst 0, 1) := by decide +kernel
theorem dX2_emptyBeats_1 : decode cX2_emptyBeats 1 = .ok (.istore_n 1, 1) := by decide +kernel
theorem dX2_emptyBeats_2 : decode cX2_emptyBeats 2 = .ok (.iconst 0, 1) := by decide +kernel
theorem dX2_emptyBeats_3 : decode cX2_emptyBeats 3 = .ok (.istore_n 2, 1) := by decide +kernel
theorem dX2_emptyBeats_4 : decode cX2_emptyBeats 4 = .ok (.iload_n 2, 1) := by decide +kernel
theorem dX2_emptyBeats_5 : decode cX2_emptyBeats 5 = .ok (.sipush 200, 3) := by decide +kernel
theorem dX2_emptyBeats_8 : decode cX2_emptyBeats 8 = .ok (.if_icmp .ge 20, 3) := by decide +kernel
theorem dX2_emptyBeats_11 : decode cX2_emptyBeats 11 = .ok (.aload_n 0, 1) := by decide +kernel
theorem dX2_emptyBeats_12 : decode cX2_emptyBeats 12 = .ok (.iload_n 2, 1) := by decide +kernel
theorem dX2_emptyBeats_13 : decode cX2_emptyBeats 13 = .ok (.invokevirtual 144, 3) := by decide +kernel
theorem dX2_emptyBeats_16 : decode cX2_emptyBeats 16 = .ok (.ifCond .ne 6, 3) := by decide +kernel
theorem dX2_emptyBeats_19 : decode cX2_emptyBeats 19 = .ok (.iinc 1 1, 3) := by decide +kernel
theorem dX2_emptyBeats_22 : decode cX2_emptyBeats 22 = .ok (.iinc 2 1, 3) := by decide +kernel
theorem dX2_emptyBeats_25 : decode cX2_emptyBeats 25 = .ok (.goto (-21), 3) := by decide +kernel
theorem dX2_emptyBeats_28 : decode cX2_emptyBeats 28 = .ok (.iload_n 1, 1) := by decide +kernel
theorem dX2_emptyBeats_29 : decode cX2_emptyBeats 29 = .ok (.ireturn, 1) := by decide +kernel
theorem dX2_firstClash_0 : decode cX2_firstClash 0 = .ok (.aload_n 0, 1) := by decide +kernel
theorem dX2_firstClash_1 : decode cX2_firstClash 1 = .ok (.getfield 34, 3) := by decide +kernel
theorem dX2_firstClash_4 : decode cX2_firstClash 4 = .ok (.iload_n 1, 1) := by decide +kernel
theorem dX2_firstClash_5 : decode cX2_firstClash 5 = .ok (.iconst 1, 1) := by decide +kernel
theorem dX2_firstClash_6 : decode cX2_firstClash 6 = .ok (.invokevirtual 73, 3) := by decide +kernel
theorem dX2_firstClash_9 : decode cX2_firstClash 9 = .ok (.aload_n 0, 1) := by decide +kernel
theorem dX2_firstClash_10 : decode cX2_firstClash 10 = .ok (.getfield 34, 3) := by decide +kernel
theorem dX2_firstClash_13 : decode cX2_firstClash 13 = .ok (.iload_n 2, 1) := by decide +kernel
theorem dX2_firstClash_14 : decode cX2_firstClash 14 = .ok (.iconst 1, 1) := by decide +kernel
theorem dX2_firstClash_15 : decode cX2_firstClash 15 = .ok (.invokevirtual 73, 3) := by decide +kernel
theorem dX2_firstClash_18 : decode cX2_firstClash 18 = .ok (.if_icmp .eq 5, 3) := by decide +kernel
theorem dX2_firstClash_21 : decode cX2_firstClash 21 = .ok (.iconst (-1), 1) := by decide +kernel
theorem dX2_firstClash_22 : decode cX2_firstClash 22 = .ok (.ireturn, 1) := by decide +kernel
theorem dX2_firstClash_23 : decode cX2_firstClash 23 = .ok (.aload_n 0, 1) := by decide +kernel
theorem dX2_firstClash_24 : decode cX2_firstClash 24 = .ok (.getfield 34, 3) := by decide +kernel
theorem dX2_firstClash_27 : decode cX2_firstClash 27 = .ok (.iload_n 1, 1) := by decide +kernel
theorem dX2_firstClash_28 : decode cX2_firstClash 28 = .ok (.iconst 2, 1) := by decide +kernel
theorem dX2_firstClash_29 : decode cX2_firstClash 29 = .ok (.invokevirtual 73, 3) := by decide +kernel
theorem dX2_firstClash_32 : decode cX2_firstClash 32 = .ok (.aload_n 0, 1) := by decide +kernel
theorem dX2_firstClash_33 : decode cX2_firstClash 33 = .ok (.getfield 34, 3) := by decide +kernel
theorem dX2_firstClash_36 : decode cX2_firstClash 36 = .ok (.iload_n 2, 1) := by decide +kernel
theorem dX2_firstClash_37 : decode cX2_firstClash 37 = .ok (.iconst 2, 1) := by decide +kernel
theorem dX2_firstClash_38 : decode cX2_firstClash 38 = .ok (.invokevirtual 73, 3) := by decide +kernel
theorem dX2_firstClash_41 : decode cX2_firstClash 41 = .ok (.isub, 1) := by decide +kernel
theorem dX2_firstClash_42 : decode cX2_firstClash 42 = .ok (.istore_n 3, 1) := by decide +kernel
theorem dX2_firstClash_43 : decode cX2_firstClash 43 = .ok (.aload_n 0, 1) := by decide +kernel
theorem dX2_firstClash_44 : decode cX2_firstClash 44 = .ok (.iload_n 1, 1) := by decide +kernel
theorem dX2_firstClash_45 : decode cX2_firstClash 45 = .ok (.invokevirtual 122, 3) := by decide +kernel
theorem dX2_firstClash_48 : decode cX2_firstClash 48 = .ok (.aload_n 0, 1) := by decide +kernel
theorem dX2_firstClash_49 : decode cX2_firstClash 49 = .ok (.iload_n 2, 1) := by decide +kernel
theorem dX2_firstClash_50 : decode cX2_firstClash 50 = .ok (.invokevirtual 122, 3) := by decide +kernel
theorem dX2_firstClash_53 : decode cX2_firstClash 53 = .ok (.invokestatic 157, 3) := by decide +kernel
theorem dX2_firstClash_56 : decode cX2_firstClash 56 = .ok (.istore 4, 2) := by decide +kernel
theorem dX2_firstClash_58 : decode cX2_firstClash 58 = .ok (.iload 4, 2) := by decide +kernel
theorem dX2_firstClash_60 : decode cX2_firstClash 60 = .ok (.istore 5, 2) := by decide +kernel
theorem dX2_firstClash_62 : decode cX2_firstClash 62 = .ok (.iconst 0, 1) := by decide +kernel
theorem dX2_firstClash_63 : decode cX2_firstClash 63 = .ok (.istore 6, 2) := by decide +kernel
theorem dX2_firstClash_65 : decode cX2_firstClash 65 = .ok (.iload 6, 2) := by decide +kernel
theorem dX2_firstClash_67 : decode cX2_firstClash 67 = .ok (.aload_n 0, 1) := by decide +kernel
theorem dX2_firstClash_68 : decode cX2_firstClash 68 = .ok (.getfield 34, 3) := by decide +kernel
theorem dX2_firstClash_71 : decode cX2_firstClash 71 = .ok (.iload_n 1, 1) := by decide +kernel
theorem dX2_firstClash_72 : decode cX2_firstClash 72 = .ok (.iconst 0, 1) := by decide +kernel
theorem dX2_firstClash_73 : decode cX2_firstClash 73 = .ok (.invokevirtual 73, 3) := by decide +kernel
theorem dX2_firstClash_76 : decode cX2_firstClash 76 = .ok (.if_icmp .ge 78, 3) := by decide +kernel
theorem dX2_firstClash_79 : decode cX2_firstClash 79 = .ok (.iload 6, 2) := by decide +kernel
theorem dX2_firstClash_81 : decode cX2_firstClash 81 = .ok (.iload_n 3, 1) := by decide +kernel
theorem dX2_firstClash_82 : decode cX2_firstClash 82 = .ok (.iadd, 1) := by decide +kernel
theorem dX2_firstClash_83 : decode cX2_firstClash 83 = .ok (.istore 7, 2) := by decide +kernel
theorem dX2_firstClash_85 : decode cX2_firstClash 85 = .ok (.iload 7, 2) := by decide +kernel
theorem dX2_firstClash_87 : decode cX2_firstClash 87 = .ok (.ifCond .lt 61, 3) := by decide +kernel
theorem dX2_firstClash_90 : decode cX2_firstClash 90 = .ok (.iload 7, 2) := by decide +kernel
theorem dX2_firstClash_92 : decode cX2_firstClash 92 = .ok (.aload_n 0, 1) := by decide +kernel
theorem dX2_firstClash_93 : decode cX2_firstClash 93 = .ok (.getfield 34, 3) := by decide +kernel
theorem dX2_firstClash_96 : decode cX2_firstClash 96 = .ok (.iload_n 2, 1) := by decide +kernel
theorem dX2_firstClash_97 : decode cX2_firstClash 97 = .ok (.iconst 0, 1) := by decide +kernel
theorem dX2_firstClash_98 : decode cX2_firstClash 98 = .ok (.invokevirtual 73, 3) := by decide +kernel
theorem dX2_firstClash_101 : decode cX2_firstClash 101 = .ok (.if_icmp .ge 47, 3) := by decide +kernel
theorem dX2_firstClash_104 : decode cX2_firstClash 104 = .ok (.aload_n 0, 1) := by decide +kernel
theorem dX2_firstClash_105 : decode cX2_firstClash 105 = .ok (.iload_n 1, 1) := by decide +kernel
theorem dX2_firstClash_106 : decode cX2_firstClash 106 = .ok (.iload 6, 2) := by decide +kernel
theorem dX2_firstClash_108 : decode cX2_firstClash 108 = .ok (.invokevirtual 116, 3) := by decide +kernel
theorem dX2_firstClash_111 : decode cX2_firstClash 111 = .ok (.istore 8, 2) := by decide +kernel
theorem dX2_firstClash_113 : decode cX2_firstClash 113 = .ok (.aload_n 0, 1) := by decide +kernel
theorem dX2_firstClash_114 : decode cX2_firstClash 114 = .ok (.iload_n 2, 1) := by decide +kernel
theorem dX2_firstClash_115 : decode cX2_firstClash 115 = .ok (.iload 7, 2) := by decide +kernel
theorem dX2_firstClash_117 : decode cX2_firstClash 117 = .ok (.invokevirtual 116, 3) := by decide +kernel
theorem dX2_firstClash_120 : decode cX2_firstClash 120 = .ok (.istore 9, 2) := by decide +kernel
theorem dX2_firstClash_122 : decode cX2_firstClash 122 = .ok (.iload 8, 2) := by decide +kernel
theorem dX2_firstClash_124 : decode cX2_firstClash 124 = .ok (.iconst (-1), 1) := by decide +kernel
theorem dX2_firstClash_125 : decode cX2_firstClash 125 = .ok (.if_icmp .eq 23, 3) := by decide +kernel
theorem dX2_firstClash_128 : decode cX2_firstClash 128 = .ok (.iload 9, 2) := by decide +kernel
theorem dX2_firstClash_130 : decode cX2_firstClash 130 = .ok (.iconst (-1), 1) := by decide +kernel
theorem dX2_firstClash_131 : decode cX2_firstClash 131 = .ok (.if_icmp .eq 17, 3) := by decide +kernel
theorem dX2_firstClash_134 : decode cX2_firstClash 134 = .ok (.iload 5, 2) := by decide +kernel
theorem dX2_firstClash_136 : decode cX2_firstClash 136 = .ok (.iload 8, 2) := by decide +kernel
theorem dX2_firstClash_138 : decode cX2_firstClash 138 = .ok (.iload 9, 2) := by decide +kernel
theorem dX2_firstClash_140 : decode cX2_firstClash 140 = .ok (.invokestatic 64, 3) := by decide +kernel
theorem dX2_firstClash_143 : decode cX2_firstClash 143 = .ok (.invokestatic 157, 3) := by decide +kernel
theorem dX2_firstClash_146 : decode cX2_firstClash 146 = .ok (.istore 5, 2) := by decide +kernel
theorem dX2_firstClash_148 : decode cX2_firstClash 148 = .ok (.iinc 6 1, 3) := by decide +kernel
theorem dX2_firstClash_151 : decode cX2_firstClash 151 = .ok (.goto (-86), 3) := by decide +kernel
theorem dX2_firstClash_154 : decode cX2_firstClash 154 = .ok (.iload 5, 2) := by decide +kernel
theorem dX2_firstClash_156 : decode cX2_firstClash 156 = .ok (.iload 4, 2) := by decide +kernel
theorem dX2_firstClash_158 : decode cX2_firstClash 158 = .ok (.if_icmp .ge 8, 3) := by decide +kernel
theorem dX2_firstClash_161 : decode cX2_firstClash 161 = .ok (.iload 5, 2) := by decide +kernel
theorem dX2_firstClash_163 : decode cX2_firstClash 163 = .ok (.goto 4, 3) := by decide +kernel
theorem dX2_firstClash_166 : decode cX2_firstClash 166 = .ok (.iconst (-1), 1) := by decide +kernel
theorem dX2_firstClash_167 : decode cX2_firstClash 167 = .ok (.ireturn, 1) := by decide +kernel
theorem dX2_noteClash_0 : decode cX2_noteClash 0 = .ok (.aload_n 0, 1) := by decide +kernel
theorem dX2_noteClash_1 : decode cX2_noteClash 1 = .ok (.iload_n 1, 1) := by decide +kernel
theorem dX2_noteClash_2 : decode cX2_noteClash 2 = .ok (.iload_n 2, 1) := by decide +kernel
theorem dX2_noteClash_3 : decode cX2_noteClash 3 = .ok (.invokevirtual 154, 3) := by decide +kernel
theorem dX2_noteClash_6 : decode cX2_noteClash 6 = .ok (.istore_n 3, 1) := by decide +kernel
theorem dX2_noteClash_7 : decode cX2_noteClash 7 = .ok (.iload_n 3, 1) := by decide +kernel
theorem dX2_noteClash_8 : decode cX2_noteClash 8 = .ok (.iconst (-1), 1) := by decide +kernel
theorem dX2_noteClash_9 : decode cX2_noteClash 9 = .ok (.if_icmp .ne 4, 3) := by decide +kernel
theorem dX2_noteClash_12 : decode cX2_noteClash 12 = .ok (.return_, 1) := by decide +kernel
theorem dX2_noteClash_13 : decode cX2_noteClash 13 = .ok (.aload_n 0, 1) := by decide +kernel
theorem dX2_noteClash_14 : decode cX2_noteClash 14 = .ok (.dup, 1) := by decide +kernel
theorem dX2_noteClash_15 : decode cX2_noteClash 15 = .ok (.getfield 147, 3) := by decide +kernel
theorem dX2_noteClash_18 : decode cX2_noteClash 18 = .ok (.iconst 1, 1) := by decide +kernel
theorem dX2_noteClash_19 : decode cX2_noteClash 19 = .ok (.iadd, 1) := by decide +kernel
theorem dX2_noteClash_20 : decode cX2_noteClash 20 = .ok (.putfield 147, 3) := by decide +kernel
theorem dX2_noteClash_23 : decode cX2_noteClash 23 = .ok (.aload_n 0, 1) := by decide +kernel
theorem dX2_noteClash_24 : decode cX2_noteClash 24 = .ok (.iload_n 1, 1) := by decide +kernel
theorem dX2_noteClash_25 : decode cX2_noteClash 25 = .ok (.invokevirtual 122, 3) := by decide +kernel
theorem dX2_noteClash_28 : decode cX2_noteClash 28 = .ok (.aload_n 0, 1) := by decide +kernel
theorem dX2_noteClash_29 : decode cX2_noteClash 29 = .ok (.iload_n 2, 1) := by decide +kernel
theorem dX2_noteClash_30 : decode cX2_noteClash 30 = .ok (.invokevirtual 122, 3) := by decide +kernel
theorem dX2_noteClash_33 : decode cX2_noteClash 33 = .ok (.invokestatic 157, 3) := by decide +kernel
theorem dX2_noteClash_36 : decode cX2_noteClash 36 = .ok (.istore 4, 2) := by decide +kernel
theorem dX2_noteClash_38 : decode cX2_noteClash 38 = .ok (.iload_n 3, 1) := by decide +kernel
theorem dX2_noteClash_39 : decode cX2_noteClash 39 = .ok (.iconst 0, 1) := by decide +kernel
theorem dX2_noteClash_40 : decode cX2_noteClash 40 = .ok (.invokestatic 64, 3) := by decide +kernel
theorem dX2_noteClash_43 : decode cX2_noteClash 43 = .ok (.istore 5, 2) := by decide +kernel
theorem dX2_noteClash_45 : decode cX2_noteClash 45 = .ok (.iload 5, 2) := by decide +kernel
theorem dX2_noteClash_47 : decode cX2_noteClash 47 = .ok (.iload 4, 2) := by decide +kernel
theorem dX2_noteClash_49 : decode cX2_noteClash 49 = .ok (.if_icmp .ge 30, 3) := by decide +kernel
theorem dX2_noteClash_52 : decode cX2_noteClash 52 = .ok (.iload 5, 2) := by decide +kernel
theorem dX2_noteClash_54 : decode cX2_noteClash 54 = .ok (.aload_n 0, 1) := by decide +kernel
theorem dX2_noteClash_55 : decode cX2_noteClash 55 = .ok (.getfield 25, 3) := by decide +kernel
theorem dX2_noteClash_58 : decode cX2_noteClash 58 = .ok (.arraylength, 1) := by decide +kernel
theorem dX2_noteClash_59 : decode cX2_noteClash 59 = .ok (.if_icmp .ge 20, 3) := by decide +kernel
theorem dX2_noteClash_62 : decode cX2_noteClash 62 = .ok (.aload_n 0, 1) := by decide +kernel
theorem dX2_noteClash_63 : decode cX2_noteClash 63 = .ok (.getfield 25, 3) := by decide +kernel
theorem dX2_noteClash_66 : decode cX2_noteClash 66 = .ok (.iload 5, 2) := by decide +kernel
theorem dX2_noteClash_68 : decode cX2_noteClash 68 = .ok (.dup2, 1) := by decide +kernel
theorem dX2_noteClash_69 : decode cX2_noteClash 69 = .ok (.iaload, 1) := by decide +kernel
theorem dX2_noteClash_70 : decode cX2_noteClash 70 = .ok (.iconst 1, 1) := by decide +kernel
theorem dX2_noteClash_71 : decode cX2_noteClash 71 = .ok (.iadd, 1) := by decide +kernel
theorem dX2_noteClash_72 : decode cX2_noteClash 72 = .ok (.iastore, 1) := by decide +kernel
theorem dX2_noteClash_73 : decode cX2_noteClash 73 = .ok (.iinc 5 1, 3) := by decide +kernel
theorem dX2_noteClash_76 : decode cX2_noteClash 76 = .ok (.goto (-31), 3) := by decide +kernel
theorem dX2_noteClash_79 : decode cX2_noteClash 79 = .ok (.return_, 1) := by decide +kernel
theorem dX2_findClashes_0 : decode cX2_findClashes 0 = .ok (.aload_n 0, 1) := by decide +kernel
theorem dX2_findClashes_1 : decode cX2_findClashes 1 = .ok (.getfield 25, 3) := by decide +kernel
theorem dX2_findClashes_4 : decode cX2_findClashes 4 = .ok (.iconst 0, 1) := by decide +kernel
theorem dX2_findClashes_5 : decode cX2_findClashes 5 = .ok (.invokestatic 109, 3) := by decide +kernel
theorem dX2_findClashes_8 : decode cX2_findClashes 8 = .ok (.aload_n 0, 1) := by decide +kernel
theorem dX2_findClashes_9 : decode cX2_findClashes 9 = .ok (.iconst 0, 1) := by decide +kernel
theorem dX2_findClashes_10 : decode cX2_findClashes 10 = .ok (.putfield 147, 3) := by decide +kernel
theorem dX2_findClashes_13 : decode cX2_findClashes 13 = .ok (.iconst 0, 1) := by decide +kernel
theorem dX2_findClashes_14 : decode cX2_findClashes 14 = .ok (.istore_n 1, 1) := by decide +kernel
theorem dX2_findClashes_15 : decode cX2_findClashes 15 = .ok (.iload_n 1, 1) := by decide +kernel
theorem dX2_findClashes_16 : decode cX2_findClashes 16 = .ok (.aload_n 0, 1) := by decide +kernel
theorem dX2_findClashes_17 : decode cX2_findClashes 17 = .ok (.getfield 34, 3) := by decide +kernel
theorem dX2_findClashes_20 : decode cX2_findClashes 20 = .ok (.invokevirtual 80, 3) := by decide +kernel
theorem dX2_findClashes_23 : decode cX2_findClashes 23 = .ok (.if_icmp .ge 36, 3) := by decide +kernel
theorem dX2_findClashes_26 : decode cX2_findClashes 26 = .ok (.iload_n 1, 1) := by decide +kernel
theorem dX2_findClashes_27 : decode cX2_findClashes 27 = .ok (.iconst 1, 1) := by decide +kernel
theorem dX2_findClashes_28 : decode cX2_findClashes 28 = .ok (.iadd, 1) := by decide +kernel
theorem dX2_findClashes_29 : decode cX2_findClashes 29 = .ok (.istore_n 2, 1) := by decide +kernel
theorem dX2_findClashes_30 : decode cX2_findClashes 30 = .ok (.iload_n 2, 1) := by decide +kernel
theorem dX2_findClashes_31 : decode cX2_findClashes 31 = .ok (.aload_n 0, 1) := by decide +kernel
theorem dX2_findClashes_32 : decode cX2_findClashes 32 = .ok (.getfield 34, 3) := by decide +kernel
theorem dX2_findClashes_35 : decode cX2_findClashes 35 = .ok (.invokevirtual 80, 3) := by decide +kernel
theorem dX2_findClashes_38 : decode cX2_findClashes 38 = .ok (.if_icmp .ge 15, 3) := by decide +kernel
theorem dX2_findClashes_41 : decode cX2_findClashes 41 = .ok (.aload_n 0, 1) := by decide +kernel
theorem dX2_findClashes_42 : decode cX2_findClashes 42 = .ok (.iload_n 1, 1) := by decide +kernel
theorem dX2_findClashes_43 : decode cX2_findClashes 43 = .ok (.iload_n 2, 1) := by decide +kernel
theorem dX2_findClashes_44 : decode cX2_findClashes 44 = .ok (.invokevirtual 151, 3) := by decide +kernel
theorem dX2_findClashes_47 : decode cX2_findClashes 47 = .ok (.iinc 2 1, 3) := by decide +kernel
theorem dX2_findClashes_50 : decode cX2_findClashes 50 = .ok (.goto (-20), 3) := by decide +kernel
theorem dX2_findClashes_53 : decode cX2_findClashes 53 = .ok (.iinc 1 1, 3) := by decide +kernel
theorem dX2_findClashes_56 : decode cX2_findClashes 56 = .ok (.goto (-41), 3) := by decide +kernel
theorem dX2_findClashes_59 : decode cX2_findClashes 59 = .ok (.return_, 1) := by decide +kernel
theorem dX2_clashesIn_0 : decode cX2_clashesIn 0 = .ok (.iload_n 1, 1) := by decide +kernel
theorem dX2_clashesIn_1 : decode cX2_clashesIn 1 = .ok (.ifCond .lt 21, 3) := by decide +kernel
theorem dX2_clashesIn_4 : decode cX2_clashesIn 4 = .ok (.iload_n 1, 1) := by decide +kernel
theorem dX2_clashesIn_5 : decode cX2_clashesIn 5 = .ok (.aload_n 0, 1) := by decide +kernel
theorem dX2_clashesIn_6 : decode cX2_clashesIn 6 = .ok (.getfield 25, 3) := by decide +kernel
theorem dX2_clashesIn_9 : decode cX2_clashesIn 9 = .ok (.arraylength, 1) := by decide +kernel
theorem dX2_clashesIn_10 : decode cX2_clashesIn 10 = .ok (.if_icmp .ge 12, 3) := by decide +kernel
theorem dX2_clashesIn_13 : decode cX2_clashesIn 13 = .ok (.aload_n 0, 1) := by decide +kernel
theorem dX2_clashesIn_14 : decode cX2_clashesIn 14 = .ok (.getfield 25, 3) := by decide +kernel
theorem dX2_clashesIn_17 : decode cX2_clashesIn 17 = .ok (.iload_n 1, 1) := by decide +kernel
theorem dX2_clashesIn_18 : decode cX2_clashesIn 18 = .ok (.iaload, 1) := by decide +kernel
theorem dX2_clashesIn_19 : decode cX2_clashesIn 19 = .ok (.goto 4, 3) := by decide +kernel
theorem dX2_clashesIn_22 : decode cX2_clashesIn 22 = .ok (.iconst 0, 1) := by decide +kernel
theorem dX2_clashesIn_23 : decode cX2_clashesIn 23 = .ok (.ireturn, 1) := by decide +kernel
theorem dX2_clashBeats_0 : decode cX2_clashBeats 0 = .ok (.iconst 0, 1) := by decide +kernel
theorem dX2_clashBeats_1 : decode cX2_clashBeats 1 = .ok (.istore_n 1, 1) := by decide +kernel
theorem dX2_clashBeats_2 : decode cX2_clashBeats 2 = .ok (.iconst 0, 1) := by decide +kernel
theorem dX2_clashBeats_3 : decode cX2_clashBeats 3 = .ok (.istore_n 2, 1) := by decide +kernel
theorem dX2_clashBeats_4 : decode cX2_clashBeats 4 = .ok (.iload_n 2, 1) := by decide +kernel
theorem dX2_clashBeats_5 : decode cX2_clashBeats 5 = .ok (.sipush 200, 3) := by decide +kernel
theorem dX2_clashBeats_8 : decode cX2_clashBeats 8 = .ok (.if_icmp .ge 20, 3) := by decide +kernel
theorem dX2_clashBeats_11 : decode cX2_clashBeats 11 = .ok (.aload_n 0, 1) := by decide +kernel
theorem dX2_clashBeats_12 : decode cX2_clashBeats 12 = .ok (.iload_n 2, 1) := by decide +kernel
theorem dX2_clashBeats_13 : decode cX2_clashBeats 13 = .ok (.invokevirtual 160, 3) := by decide +kernel
theorem dX2_clashBeats_16 : decode cX2_clashBeats 16 = .ok (.ifCond .le 6, 3) := by decide +kernel
theorem dX2_clashBeats_19 : decode cX2_clashBeats 19 = .ok (.iinc 1 1, 3) := by decide +kernel
theorem dX2_clashBeats_22 : decode cX2_clashBeats 22 = .ok (.iinc 2 1, 3) := by decide +kernel
theorem dX2_clashBeats_25 : decode cX2_clashBeats 25 = .ok (.goto (-21), 3) := by decide +kernel
theorem dX2_clashBeats_28 : decode cX2_clashBeats 28 = .ok (.iload_n 1, 1) := by decide +kernel
theorem dX2_clashBeats_29 : decode cX2_clashBeats 29 = .ok (.ireturn, 1) := by decide +kernel
theorem dX2_clashPairs_0 : decode cX2_clashPairs 0 = .ok (.aload_n 0, 1) := by decide +kernel
theorem dX2_clashPairs_1 : decode cX2_clashPairs 1 = .ok (.getfield 147, 3) := by decide +kernel
theorem dX2_clashPairs_4 : decode cX2_clashPairs 4 = .ok (.ireturn, 1) := by decide +kernel
abbrev rm_X2_litLettersOf : Room := { frames := 1, cells := 0, slots := 0, locals := 23 }
set_option maxHeartbeats 4000000 in
set_option maxRecDepth 100000 in
theorem c_X2_litLettersOf (l : Launch) (dC : Nat → ClassId) (dI : Nat → Nat → Nat) (cI cJ : ClassId) (o o_credits o_light o_lit o_whole o_ends o_clashes o_reach o_latest o_credits_cells : Nat) (sz : Nat) (s_credits_cells : Nat → Int32) (s_lit : Nat → Int32) (s_clashPairs : Int32) (p0 : Int32) (Q : Int32 → Prop) (hw : P_X2_litLettersOf p0 s_credits_cells s_lit Q) : Met l yX2_litLettersOf (Cond.code yX2_litLettersOf cX2_litLettersOf 4 (some .int) :: TBL) rm_X2_litLettersOf (gPc (dC, dI) vwCl (gTy cI cJ) [.ref o, .int p0] [(o, .inr (2, [.ref o_credits, .ref o_light, .ref o_lit, .ref o_whole, .ref o_ends, .ref o_clashes, .int s_clashPairs, .ref o_reach, .ref o_latest])), (o_credits, .inr (0, [.ref o_credits_cells])), (o_credits_cells, .inl (cI, 82, .inl s_credits_cells)), (o_lit, .inl (cI, 96, .inl s_lit))] sz) (va_Qi (fun (r : Int32) (u : Unit) => Q r ) (gB (dC, dI) vwCl (gTy cI cJ) (va_A [(o, .inr (2, [.ref o_credits, .ref o_light, .ref o_lit, .ref o_whole, .ref o_ends, .ref o_clashes, .int s_clashPairs, .ref o_reach, .ref o_latest])), (o_credits, .inr (0, [.ref o_credits_cells])), (o_credits_cells, .inl (cI, 82, .inl s_credits_cells)), (o_lit, .inl (cI, 96, .inl s_lit))] sz) (fun (u : Unit) => [(o, .inr (2, [.ref o_credits, .ref o_light, .ref o_lit, .ref o_whole, .ref o_ends, .ref o_clashes, .int s_clashPairs, .ref o_reach, .ref o_latest])), (o_credits, .inr (0, [.ref o_credits_cells])), (o_credits_cells, .inl (cI, 82, .inl s_credits_cells)), (o_lit, .inl (cI, 96, .inl s_lit))])) (va_A [(o, .inr (2, [.ref o_credits, .ref o_light, .ref o_lit, .ref o_whole, .ref o_ends, .ref o_clashes, .int s_clashPairs, .ref o_reach, .ref o_latest])), (o_credits, .inr (0, [.ref o_credits_cells])), (o_credits_cells, .inl (cI, 82, .inl s_credits_cells)), (o_lit, .inl (cI, 96, .inl s_lit))] sz)) 0 0 (va_A [(o, .inr (2, [.ref o_credits, .ref o_light, .ref o_lit, .ref o_whole, .ref o_ends, .ref o_clashes, .int s_clashPairs, .ref o_reach, .ref o_latest])), (o_credits, .inr (0, [.ref o_credits_cells])), (o_credits_cells, .inl (cI, 82, .inl s_credits_cells)), (o_lit, .inl (cI, 96, .inl s_lit))] sz) := by
  refine Met.ofW (cc := cX2_litLettersOf) (maxL := 4) (ret := (some .int)) (by decide) rfl ?_
  intro p e s m args below meth c s₁ B hml hv
  obtain ⟨rfl, hsz, hP, hK, hD0⟩ := hv
  have hx := B.exec
  have hb := B.bytes
  have hr := B.returns
  have hts := atoms_spec (ws := Cond.code yX2_litLettersOf cX2_litLettersOf 4 (some .int) :: TBL) B.pre
  have ht : ∀ w ∈ TBL, w.before ([.ref o, .int p0] : List Value).toArray s = true := fun w h => hts w (List.mem_cons_of_mem _ h)
  clear hts
  have hown : s.vm.findClass RX2 = some m.cls := findClass_of_methodNamed B.named
  have hlocks := B.notSynchronized
  clear B
  subst hsz
  have hD := hD0.self (sz := s.heap.size)
  clear hD0
  generalize hAe : va_A [(o, .inr (2, [.ref o_credits, .ref o_light, .ref o_lit, .ref o_whole, .ref o_ends, .ref o_clashes, .int s_clashPairs, .ref o_reach, .ref o_latest])), (o_credits, .inr (0, [.ref o_credits_cells])), (o_credits_cells, .inl (cI, 82, .inl s_credits_cells)), (o_lit, .inl (cI, 96, .inl s_lit))] s.heap.size = A at hD ⊢
  have hA : ∀ q : Nat, s.heap.size ≤ q → A q := fun q h => by rw [← hAe]; exact Or.inr h
  clear hAe
  have hS : va_S A s.heap s.heap [] := va_S.rf
  have hP : va_P (dC, dI) vwCl [(o, .inr (2, [.ref o_credits, .ref o_light, .ref o_lit, .ref o_whole, .ref o_ends, .ref o_clashes, .int s_clashPairs, .ref o_reach, .ref o_latest])), (o_credits, .inr (0, [.ref o_credits_cells])), (o_credits_cells, .inl (cI, 82, .inl s_credits_cells)), (o_lit, .inl (cI, 96, .inl s_lit))] s.heap := hP
  have hl := lv_entry ([.ref o, .int p0]) (n := 4) (Nat.le_of_ble_eq_true rfl)
  rw [lg_entry_eq]
  generalize (lg_sl ([.ref o, .int p0]) ++ List.replicate (4 - (lg_sl ([.ref o, .int p0])).length) Slot.unset).toArray = ls at hl ⊢
  have hl : lv_has ls 4 [(0, .ref o), (1, .int p0)] := hl
  generalize hQQ : MQ below _ _ _ 0 0 A = QQ
  show W p l e rm_X2_litLettersOf s m ([.ref o, .int p0] : List Value).toArray below meth c s.heap [] 0 0 QQ (F0 m 0 ls [])
  have L4 : ∀ (x1 : Int32), ∀ (n : Nat) (x2 : Int32) (x3 : Int32), P_X2_litLettersOf_L4 x1 s_credits_cells s_lit Q n x2 x3 → ∀ (H : Heap) (locs : List Loc) (ls : Array Slot), va_P (dC, dI) vwCl [(o, .inr (2, [.ref o_credits, .ref o_light, .ref o_lit, .ref o_whole, .ref o_ends, .ref o_clashes, .int s_clashPairs, .ref o_reach, .ref o_latest])), (o_credits, .inr (0, [.ref o_credits_cells])), (o_credits_cells, .inl (cI, 82, .inl s_credits_cells)), (o_lit, .inl (cI, 96, .inl s_lit))] H → va_D A [(o, .inr (2, [.ref o_credits, .ref o_light, .ref o_lit, .ref o_whole, .ref o_ends, .ref o_clashes, .int s_clashPairs, .ref o_reach, .ref o_latest])), (o_credits, .inr (0, [.ref o_credits_cells])), (o_credits_cells, .inl (cI, 82, .inl s_credits_cells)), (o_lit, .inl (cI, 96, .inl s_lit))] → va_S A s.heap H locs → lv_has ls 4 [(0, .ref o), (1, .int x1), (2, .int x2), (3, .int x3)] → W p l e rm_X2_litLettersOf s m ([.ref o, .int p0] : List Value).toArray below meth c H locs 0 0 QQ (F0 m 4 ls []) := by
    intro x1
    intro n
    induction n with
    | zero => intro x2 x3 hw; rw [P_X2_litLettersOf_L4_z] at hw; exact hw.elim
    | succ n ih =>
      intro x2 x3 hw
      rw [P_X2_litLettersOf_L4_s] at hw
      generalize hrec : P_X2_litLettersOf_L4 x1 s_credits_cells s_lit Q n = rec4 at ih hw
      have J30 : ∀ (x2 : Int32) (x3 : Int32), P_X2_litLettersOf_J30 rec4 x2 x3 → ∀ (H : Heap) (locs : List Loc) (ls : Array Slot), va_P (dC, dI) vwCl [(o, .inr (2, [.ref o_credits, .ref o_light, .ref o_lit, .ref o_whole, .ref o_ends, .ref o_clashes, .int s_clashPairs, .ref o_reach, .ref o_latest])), (o_credits, .inr (0, [.ref o_credits_cells])), (o_credits_cells, .inl (cI, 82, .inl s_credits_cells)), (o_lit, .inl (cI, 96, .inl s_lit))] H → va_D A [(o, .inr (2, [.ref o_credits, .ref o_light, .ref o_lit, .ref o_whole, .ref o_ends, .ref o_clashes, .int s_clashPairs, .ref o_reach, .ref o_latest])), (o_credits, .inr (0, [.ref o_credits_cells])), (o_credits_cells, .inl (cI, 82, .inl s_credits_cells)), (o_lit, .inl (cI, 96, .inl s_lit))] → va_S A s.heap H locs → lv_has ls 4 [(0, .ref o), (1, .int x1), (2, .int x2), (3, .int x3)] → W p l e rm_X2_litLettersOf s m ([.ref o, .int p0] : List Value).toArray below meth c H locs 0 0 QQ (F0 m 30 ls []) := by
        intro x2 x3 hw H locs ls hP hD hS hl
        unfold P_X2_litLettersOf_J30 at hw
        refine lv_iinc (v := (x3 + 1)) (lv' := [(3, .int (x3 + 1)), (0, .ref o), (1, .int x1), (2, .int x2)]) hx hb dX2_litLettersOf_30 hl (k := 3) rfl rfl (by decide) rfl (fun ls hl => ?_)
        refine lv_goto (tgt := 4) hx hb dX2_litLettersOf_33 (by decide) ?_
        exact ih x2 (x3 + 1) hw H locs ls hP hD hS (lv_sub (l' := [(0, .ref o), (1, .int x1), (2, .int x2), (3, .int (x3 + 1))]) hl [1, 2, 3, 0] rfl)
      intro H locs ls hP hD hS hl
      unfold B_X2_litLettersOf_L4 at hw
      refine lv_iload_n hx hb dX2_litLettersOf_4 rfl (lv_at hl 3 rfl) ?_
      refine lv_aload_n hx hb dX2_litLettersOf_5 rfl (lv_at hl 0 rfl) ?_
      refine va_get (D := (dC, dI)) (ci := 2) (v := .ref o_credits) (C := RX2) (T := TX2) (N := 9) hx hb ht i_X2 hown hK hP 0 rfl rfl 0 (by decide) (ht _ k_39) (fun _ h9 => h9) rfl dX2_litLettersOf_6 ?_
      refine lv_iload_n hx hb dX2_litLettersOf_9 rfl (lv_at hl 1 rfl) ?_
      refine lv_iconst (v := 0) hx hb dX2_litLettersOf_10 (by decide) ?_
      refine gc_Vi (As := [.int x1, .int 0]) (rest := [.int x3]) (wr := [(o, .inr (2, [.ref o_credits, .ref o_light, .ref o_lit, .ref o_whole, .ref o_ends, .ref o_clashes, .int s_clashPairs, .ref o_reach, .ref o_latest])), (o_lit, .inl (cI, 96, .inl s_lit))]) ⟨hx, hb, hml, hown, ht⟩ (c_X0_ofWord l dC dI cI cJ o_credits o_credits_cells H.size s_credits_cells x1 0 _ hw) (cwV 2 ht (g_V k_214 k_202 k_203 k_2 k_204) rfl rfl rfl (by decide +kernel) ⟨(Nat.le_of_ble_eq_true rfl), (Nat.le_of_ble_eq_true rfl)⟩) hK hP hD hS hA [1, 2] [0, 3] rfl rfl (by decide) 1 rfl rfl rfl rfl hl.1 rfl (Nat.le_of_ble_eq_true rfl) ⟨(Nat.le_of_ble_eq_true rfl), (Nat.le_of_ble_eq_true rfl)⟩ dX2_litLettersOf_11 (fun r_1 u H locs hw hP hD hS => ?_)
      try dsimp only at hw
      have hP : va_P (dC, dI) vwCl [(o, .inr (2, [.ref o_credits, .ref o_light, .ref o_lit, .ref o_whole, .ref o_ends, .ref o_clashes, .int s_clashPairs, .ref o_reach, .ref o_latest])), (o_lit, .inl (cI, 96, .inl s_lit)), (o_credits, .inr (0, [.ref o_credits_cells])), (o_credits_cells, .inl (cI, 82, .inl s_credits_cells))] H := hP
      have hD : va_D A [(o, .inr (2, [.ref o_credits, .ref o_light, .ref o_lit, .ref o_whole, .ref o_ends, .ref o_clashes, .int s_clashPairs, .ref o_reach, .ref o_latest])), (o_lit, .inl (cI, 96, .inl s_lit)), (o_credits, .inr (0, [.ref o_credits_cells])), (o_credits_cells, .inl (cI, 82, .inl s_credits_cells))] := hD
      refine lv_icmp_ge (tgt := 36) hx hb dX2_litLettersOf_14 (by decide) (fun hc => ?_) (fun hc => ?_)
      · have hw := hw.1 hc
        refine lv_iload_n hx hb dX2_litLettersOf_36 rfl (lv_at hl 2 rfl) ?_
        rw [← hQQ]
        exact g_reti (v := x2) (u := ()) hx hb hr rfl hlocks hw (hP.sub (ws' := [(o, .inr (2, [.ref o_credits, .ref o_light, .ref o_lit, .ref o_whole, .ref o_ends, .ref o_clashes, .int s_clashPairs, .ref o_reach, .ref o_latest])), (o_credits, .inr (0, [.ref o_credits_cells])), (o_credits_cells, .inl (cI, 82, .inl s_credits_cells)), (o_lit, .inl (cI, 96, .inl s_lit))]) [0, 2, 3, 1] rfl) hK (hD.sub (ws' := [(o, .inr (2, [.ref o_credits, .ref o_light, .ref o_lit, .ref o_whole, .ref o_ends, .ref o_clashes, .int s_clashPairs, .ref o_reach, .ref o_latest])), (o_credits, .inr (0, [.ref o_credits_cells])), (o_credits_cells, .inl (cI, 82, .inl s_credits_cells)), (o_lit, .inl (cI, 96, .inl s_lit))]) [0, 2, 3, 1] (by decide) rfl) hS dX2_litLettersOf_37
      · have hw := hw.2 hc
        refine lv_aload_n hx hb dX2_litLettersOf_17 rfl (lv_at hl 0 rfl) ?_
        refine lv_iload_n hx hb dX2_litLettersOf_18 rfl (lv_at hl 1 rfl) ?_
        refine lv_iload_n hx hb dX2_litLettersOf_19 rfl (lv_at hl 3 rfl) ?_
        refine gc_Vi (As := [.int x1, .int x3]) (rest := []) (wr := [(o_credits, .inr (0, [.ref o_credits_cells])), (o_credits_cells, .inl (cI, 82, .inl s_credits_cells))]) ⟨hx, hb, hml, hown, ht⟩ (c_X2_litBeat l dC dI cI cJ o o_credits o_light o_lit o_whole o_ends o_clashes o_reach o_latest H.size s_lit s_clashPairs x1 x3 _ hw) (cwV 2 ht (g_V k_215 k_216 k_217 k_3 k_218) rfl rfl rfl (by decide +kernel) ⟨(Nat.le_of_ble_eq_true rfl), (Nat.le_of_ble_eq_true rfl)⟩) hK hP hD hS hA [0, 1] [2, 3] rfl rfl (by decide) 0 rfl rfl rfl rfl hl.1 rfl (Nat.le_of_ble_eq_true rfl) ⟨(Nat.le_of_ble_eq_true rfl), (Nat.le_of_ble_eq_true rfl)⟩ dX2_litLettersOf_20 (fun r_2 u H locs hw hP hD hS => ?_)
        try dsimp only at hw
        have hP : va_P (dC, dI) vwCl [(o_credits, .inr (0, [.ref o_credits_cells])), (o_credits_cells, .inl (cI, 82, .inl s_credits_cells)), (o, .inr (2, [.ref o_credits, .ref o_light, .ref o_lit, .ref o_whole, .ref o_ends, .ref o_clashes, .int s_clashPairs, .ref o_reach, .ref o_latest])), (o_lit, .inl (cI, 96, .inl s_lit))] H := hP
        have hD : va_D A [(o_credits, .inr (0, [.ref o_credits_cells])), (o_credits_cells, .inl (cI, 82, .inl s_credits_cells)), (o, .inr (2, [.ref o_credits, .ref o_light, .ref o_lit, .ref o_whole, .ref o_ends, .ref o_clashes, .int s_clashPairs, .ref o_reach, .ref o_latest])), (o_lit, .inl (cI, 96, .inl s_lit))] := hD
        refine lv_iconst (v := (-1)) hx hb dX2_litLettersOf_23 (by decide) ?_
        refine lv_icmp_eq (tgt := 30) hx hb dX2_litLettersOf_24 (by decide) (fun hc => ?_) (fun hc => ?_)
        · have hw := hw.1 hc
          exact J30 x2 x3 hw H locs ls (hP.sub (ws' := [(o, .inr (2, [.ref o_credits, .ref o_light, .ref o_lit, .ref o_whole, .ref o_ends, .ref o_clashes, .int s_clashPairs, .ref o_reach, .ref o_latest])), (o_credits, .inr (0, [.ref o_credits_cells])), (o_credits_cells, .inl (cI, 82, .inl s_credits_cells)), (o_lit, .inl (cI, 96, .inl s_lit))]) [2, 0, 1, 3] rfl) (hD.sub (ws' := [(o, .inr (2, [.ref o_credits, .ref o_light, .ref o_lit, .ref o_whole, .ref o_ends, .ref o_clashes, .int s_clashPairs, .ref o_reach, .ref o_latest])), (o_credits, .inr (0, [.ref o_credits_cells])), (o_credits_cells, .inl (cI, 82, .inl s_credits_cells)), (o_lit, .inl (cI, 96, .inl s_lit))]) [2, 0, 1, 3] (by decide) rfl) hS hl
        · have hw := hw.2 hc
          refine lv_iinc (v := (x2 + 1)) (lv' := [(2, .int (x2 + 1)), (0, .ref o), (1, .int x1), (3, .int x3)]) hx hb dX2_litLettersOf_27 hl (k := 2) rfl rfl (by decide) rfl (fun ls hl => ?_)
          exact J30 (x2 + 1) x3 hw H locs ls (hP.sub (ws' := [(o, .inr (2, [.ref o_credits, .ref o_light, .ref o_lit, .ref o_whole, .ref o_ends, .ref o_clashes, .int s_clashPairs, .ref o_reach, .ref o_latest])), (o_credits, .inr (0, [.ref o_credits_cells])), (o_credits_cells, .inl (cI, 82, .inl s_credits_cells)), (o_lit, .inl (cI, 96, .inl s_lit))]) [2, 0, 1, 3] rfl) (hD.sub (ws' := [(o, .inr (2, [.ref o_credits, .ref o_light, .ref o_lit, .ref o_whole, .ref o_ends, .ref o_clashes, .int s_clashPairs, .ref o_reach, .ref o_latest])), (o_credits, .inr (0, [.ref o_credits_cells])), (o_credits_cells, .inl (cI, 82, .inl s_credits_cells)), (o_lit, .inl (cI, 96, .inl s_lit))]) [2, 0, 1, 3] (by decide) rfl) hS (lv_sub (l' := [(0, .ref o), (1, .int x1), (2, .int (x2 + 1)), (3, .int x3)]) hl [1, 2, 0, 3] rfl)
  obtain ⟨H, hHH⟩ : ∃ H, H = s.heap := ⟨_, rfl⟩
  rw [← hHH] at hP ⊢
  have hS : va_S A s.heap H [] := by rw [hHH]; exact hS
  clear hHH
  generalize ([] : List Loc) = locs at hS ⊢
  unfold P_X2_litLettersOf at hw
  refine lv_iconst (v := 0) hx hb dX2_litLettersOf_0 (by decide) ?_
  refine lv_istore_n (lv' := [(2, .int 0), (0, .ref o), (1, .int p0)]) hx hb dX2_litLettersOf_1 rfl hl (by decide) rfl (fun ls hl => ?_)
  refine lv_iconst (v := 0) hx hb dX2_litLettersOf_2 (by decide) ?_
  refine lv_istore_n (lv' := [(3, .int 0), (2, .int 0), (0, .ref o), (1, .int p0)]) hx hb dX2_litLettersOf_3 rfl hl (by decide) rfl (fun ls hl => ?_)
  obtain ⟨n, hw⟩ := hw
  exact L4 p0 n 0 0 hw H locs ls hP hD hS (lv_sub (l' := [(0, .ref o), (1, .int p0), (2, .int 0), (3, .int 0)]) hl [2, 3, 1, 0] rfl)
abbrev rm_X2_litLetters : Room := { frames := 2, cells := 0, slots := 0, locals := 46 }
set_option maxHeartbeats 4000000 in
set_option maxRecDepth 100000 in
theorem c_X2_litLetters (l : Launch) (dC : Nat → ClassId) (dI : Nat → Nat → Nat) (cI cJ : ClassId) (o o_credits o_light o_lit o_whole o_ends o_clashes o_reach o_latest o_credits_cells : Nat) (sz : Nat) (s_credits_cells : Nat → Int32) (s_lit : Nat → Int32) (s_clashPairs : Int32)  (Q : Int32 → Prop) (hw : P_X2_litLetters s_credits_cells s_lit Q) : Met l yX2_litLetters (Cond.code yX2_litLetters cX2_litLetters 3 (some .int) :: TBL) rm_X2_litLetters (gPc (dC, dI) vwCl (gTy cI cJ) [.ref o] [(o, .inr (2, [.ref o_credits, .ref o_light, .ref o_lit, .ref o_whole, .ref o_ends, .ref o_clashes, .int s_clashPairs, .ref o_reach, .ref o_latest])), (o_credits, .inr (0, [.ref o_credits_cells])), (o_credits_cells, .inl (cI, 82, .inl s_credits_cells)), (o_lit, .inl (cI, 96, .inl s_lit))] sz) (va_Qi (fun (r : Int32) (u : Unit) => Q r ) (gB (dC, dI) vwCl (gTy cI cJ) (va_A [(o, .inr (2, [.ref o_credits, .ref o_light, .ref o_lit, .ref o_whole, .ref o_ends, .ref o_clashes, .int s_clashPairs, .ref o_reach, .ref o_latest])), (o_credits, .inr (0, [.ref o_credits_cells])), (o_credits_cells, .inl (cI, 82, .inl s_credits_cells)), (o_lit, .inl (cI, 96, .inl s_lit))] sz) (fun (u : Unit) => [(o, .inr (2, [.ref o_credits, .ref o_light, .ref o_lit, .ref o_whole, .ref o_ends, .ref o_clashes, .int s_clashPairs, .ref o_reach, .ref o_latest])), (o_credits, .inr (0, [.ref o_credits_cells])), (o_credits_cells, .inl (cI, 82, .inl s_credits_cells)), (o_lit, .inl (cI, 96, .inl s_lit))])) (va_A [(o, .inr (2, [.ref o_credits, .ref o_light, .ref o_lit, .ref o_whole, .ref o_ends, .ref o_clashes, .int s_clashPairs, .ref o_reach, .ref o_latest])), (o_credits, .inr (0, [.ref o_credits_cells])), (o_credits_cells, .inl (cI, 82, .inl s_credits_cells)), (o_lit, .inl (cI, 96, .inl s_lit))] sz)) 0 0 (va_A [(o, .inr (2, [.ref o_credits, .ref o_light, .ref o_lit, .ref o_whole, .ref o_ends, .ref o_clashes, .int s_clashPairs, .ref o_reach, .ref o_latest])), (o_credits, .inr (0, [.ref o_credits_cells])), (o_credits_cells, .inl (cI, 82, .inl s_credits_cells)), (o_lit, .inl (cI, 96, .inl s_lit))] sz) := by
  refine Met.ofW (cc := cX2_litLetters) (maxL := 3) (ret := (some .int)) (by decide) rfl ?_
  intro p e s m args below meth c s₁ B hml hv
  obtain ⟨rfl, hsz, hP, hK, hD0⟩ := hv
  have hx := B.exec
  have hb := B.bytes
  have hr := B.returns
  have hts := atoms_spec (ws := Cond.code yX2_litLetters cX2_litLetters 3 (some .int) :: TBL) B.pre
  have ht : ∀ w ∈ TBL, w.before ([.ref o] : List Value).toArray s = true := fun w h => hts w (List.mem_cons_of_mem _ h)
  clear hts
  have hown : s.vm.findClass RX2 = some m.cls := findClass_of_methodNamed B.named
  have hlocks := B.notSynchronized
  clear B
  subst hsz
  have hD := hD0.self (sz := s.heap.size)
  clear hD0
  generalize hAe : va_A [(o, .inr (2, [.ref o_credits, .ref o_light, .ref o_lit, .ref o_whole, .ref o_ends, .ref o_clashes, .int s_clashPairs, .ref o_reach, .ref o_latest])), (o_credits, .inr (0, [.ref o_credits_cells])), (o_credits_cells, .inl (cI, 82, .inl s_credits_cells)), (o_lit, .inl (cI, 96, .inl s_lit))] s.heap.size = A at hD ⊢
  have hA : ∀ q : Nat, s.heap.size ≤ q → A q := fun q h => by rw [← hAe]; exact Or.inr h
  clear hAe
  have hS : va_S A s.heap s.heap [] := va_S.rf
  have hP : va_P (dC, dI) vwCl [(o, .inr (2, [.ref o_credits, .ref o_light, .ref o_lit, .ref o_whole, .ref o_ends, .ref o_clashes, .int s_clashPairs, .ref o_reach, .ref o_latest])), (o_credits, .inr (0, [.ref o_credits_cells])), (o_credits_cells, .inl (cI, 82, .inl s_credits_cells)), (o_lit, .inl (cI, 96, .inl s_lit))] s.heap := hP
  have hl := lv_entry ([.ref o]) (n := 3) (Nat.le_of_ble_eq_true rfl)
  rw [lg_entry_eq]
  generalize (lg_sl ([.ref o]) ++ List.replicate (3 - (lg_sl ([.ref o])).length) Slot.unset).toArray = ls at hl ⊢
  have hl : lv_has ls 3 [(0, .ref o)] := hl
  generalize hQQ : MQ below _ _ _ 0 0 A = QQ
  show W p l e rm_X2_litLetters s m ([.ref o] : List Value).toArray below meth c s.heap [] 0 0 QQ (F0 m 0 ls [])
  have L4 : ∀ (n : Nat) (x1 : Int32) (x2 : Int32), P_X2_litLetters_L4 s_credits_cells s_lit Q n x1 x2 → ∀ (H : Heap) (locs : List Loc) (ls : Array Slot), va_P (dC, dI) vwCl [(o, .inr (2, [.ref o_credits, .ref o_light, .ref o_lit, .ref o_whole, .ref o_ends, .ref o_clashes, .int s_clashPairs, .ref o_reach, .ref o_latest])), (o_credits, .inr (0, [.ref o_credits_cells])), (o_credits_cells, .inl (cI, 82, .inl s_credits_cells)), (o_lit, .inl (cI, 96, .inl s_lit))] H → va_D A [(o, .inr (2, [.ref o_credits, .ref o_light, .ref o_lit, .ref o_whole, .ref o_ends, .ref o_clashes, .int s_clashPairs, .ref o_reach, .ref o_latest])), (o_credits, .inr (0, [.ref o_credits_cells])), (o_credits_cells, .inl (cI, 82, .inl s_credits_cells)), (o_lit, .inl (cI, 96, .inl s_lit))] → va_S A s.heap H locs → lv_has ls 3 [(0, .ref o), (1, .int x1), (2, .int x2)] → W p l e rm_X2_litLetters s m ([.ref o] : List Value).toArray below meth c H locs 0 0 QQ (F0 m 4 ls []) := by
    intro n
    induction n with
    | zero => intro x1 x2 hw; rw [P_X2_litLetters_L4_z] at hw; exact hw.elim
    | succ n ih =>
      intro x1 x2 hw
      rw [P_X2_litLetters_L4_s] at hw
      generalize hrec : P_X2_litLetters_L4 s_credits_cells s_lit Q n = rec4 at ih hw
      intro H locs ls hP hD hS hl
      unfold B_X2_litLetters_L4 at hw
      refine lv_iload_n hx hb dX2_litLetters_4 rfl (lv_at hl 2 rfl) ?_
      refine lv_aload_n hx hb dX2_litLetters_5 rfl (lv_at hl 0 rfl) ?_
      refine va_get (D := (dC, dI)) (ci := 2) (v := .ref o_credits) (C := RX2) (T := TX2) (N := 9) hx hb ht i_X2 hown hK hP 0 rfl rfl 0 (by decide) (ht _ k_39) (fun _ h9 => h9) rfl dX2_litLetters_6 ?_
      refine gc_Vi (As := []) (rest := [.int x2]) (wr := [(o, .inr (2, [.ref o_credits, .ref o_light, .ref o_lit, .ref o_whole, .ref o_ends, .ref o_clashes, .int s_clashPairs, .ref o_reach, .ref o_latest])), (o_lit, .inl (cI, 96, .inl s_lit))]) ⟨hx, hb, hml, hown, ht⟩ (c_X0_words l dC dI cI cJ o_credits o_credits_cells H.size s_credits_cells _ hw) (cwV 0 ht (g_V k_209 k_189 k_190 k_2 k_191) rfl rfl rfl (by decide +kernel) ⟨(Nat.le_of_ble_eq_true rfl), (Nat.le_of_ble_eq_true rfl)⟩) hK hP hD hS hA [1, 2] [0, 3] rfl rfl (by decide) 1 rfl rfl rfl rfl hl.1 rfl (Nat.le_of_ble_eq_true rfl) ⟨(Nat.le_of_ble_eq_true rfl), (Nat.le_of_ble_eq_true rfl)⟩ dX2_litLetters_9 (fun r_1 u H locs hw hP hD hS => ?_)
      try dsimp only at hw
      have hP : va_P (dC, dI) vwCl [(o, .inr (2, [.ref o_credits, .ref o_light, .ref o_lit, .ref o_whole, .ref o_ends, .ref o_clashes, .int s_clashPairs, .ref o_reach, .ref o_latest])), (o_lit, .inl (cI, 96, .inl s_lit)), (o_credits, .inr (0, [.ref o_credits_cells])), (o_credits_cells, .inl (cI, 82, .inl s_credits_cells))] H := hP
      have hD : va_D A [(o, .inr (2, [.ref o_credits, .ref o_light, .ref o_lit, .ref o_whole, .ref o_ends, .ref o_clashes, .int s_clashPairs, .ref o_reach, .ref o_latest])), (o_lit, .inl (cI, 96, .inl s_lit)), (o_credits, .inr (0, [.ref o_credits_cells])), (o_credits_cells, .inl (cI, 82, .inl s_credits_cells))] := hD
      refine lv_icmp_ge (tgt := 29) hx hb dX2_litLetters_12 (by decide) (fun hc => ?_) (fun hc => ?_)
      · have hw := hw.1 hc
        refine lv_iload_n hx hb dX2_litLetters_29 rfl (lv_at hl 1 rfl) ?_
        rw [← hQQ]
        exact g_reti (v := x1) (u := ()) hx hb hr rfl hlocks hw (hP.sub (ws' := [(o, .inr (2, [.ref o_credits, .ref o_light, .ref o_lit, .ref o_whole, .ref o_ends, .ref o_clashes, .int s_clashPairs, .ref o_reach, .ref o_latest])), (o_credits, .inr (0, [.ref o_credits_cells])), (o_credits_cells, .inl (cI, 82, .inl s_credits_cells)), (o_lit, .inl (cI, 96, .inl s_lit))]) [0, 2, 3, 1] rfl) hK (hD.sub (ws' := [(o, .inr (2, [.ref o_credits, .ref o_light, .ref o_lit, .ref o_whole, .ref o_ends, .ref o_clashes, .int s_clashPairs, .ref o_reach, .ref o_latest])), (o_credits, .inr (0, [.ref o_credits_cells])), (o_credits_cells, .inl (cI, 82, .inl s_credits_cells)), (o_lit, .inl (cI, 96, .inl s_lit))]) [0, 2, 3, 1] (by decide) rfl) hS dX2_litLetters_30
      · have hw := hw.2 hc
        refine lv_iload_n hx hb dX2_litLetters_15 rfl (lv_at hl 1 rfl) ?_
        refine lv_aload_n hx hb dX2_litLetters_16 rfl (lv_at hl 0 rfl) ?_
        refine lv_iload_n hx hb dX2_litLetters_17 rfl (lv_at hl 2 rfl) ?_
        refine gc_Vi (As := [.int x2]) (rest := [.int x1]) (wr := []) ⟨hx, hb, hml, hown, ht⟩ (c_X2_litLettersOf l dC dI cI cJ o o_credits o_light o_lit o_whole o_ends o_clashes o_reach o_latest o_credits_cells H.size s_credits_cells s_lit s_clashPairs x2 _ hw) (cwV 1 ht (g_V k_210 k_211 k_212 k_3 k_213) rfl rfl rfl (by decide +kernel) ⟨(Nat.le_of_ble_eq_true rfl), (Nat.le_of_ble_eq_true rfl)⟩) hK hP hD hS hA [0, 2, 3, 1] [] rfl rfl (by decide) 0 rfl rfl rfl rfl hl.1 rfl (Nat.le_of_ble_eq_true rfl) ⟨(Nat.le_of_ble_eq_true rfl), (Nat.le_of_ble_eq_true rfl)⟩ dX2_litLetters_18 (fun r_2 u H locs hw hP hD hS => ?_)
        try dsimp only at hw
        have hP : va_P (dC, dI) vwCl [(o, .inr (2, [.ref o_credits, .ref o_light, .ref o_lit, .ref o_whole, .ref o_ends, .ref o_clashes, .int s_clashPairs, .ref o_reach, .ref o_latest])), (o_credits, .inr (0, [.ref o_credits_cells])), (o_credits_cells, .inl (cI, 82, .inl s_credits_cells)), (o_lit, .inl (cI, 96, .inl s_lit))] H := hP
        have hD : va_D A [(o, .inr (2, [.ref o_credits, .ref o_light, .ref o_lit, .ref o_whole, .ref o_ends, .ref o_clashes, .int s_clashPairs, .ref o_reach, .ref o_latest])), (o_credits, .inr (0, [.ref o_credits_cells])), (o_credits_cells, .inl (cI, 82, .inl s_credits_cells)), (o_lit, .inl (cI, 96, .inl s_lit))] := hD
        refine lv_iadd hx hb dX2_litLetters_21 ?_
        refine lv_istore_n (lv' := [(1, .int (x1 + r_2)), (0, .ref o), (2, .int x2)]) hx hb dX2_litLetters_22 rfl hl (by decide) rfl (fun ls hl => ?_)
        refine lv_iinc (v := (x2 + 1)) (lv' := [(2, .int (x2 + 1)), (1, .int (x1 + r_2)), (0, .ref o)]) hx hb dX2_litLetters_23 hl (k := 2) rfl rfl (by decide) rfl (fun ls hl => ?_)
        refine lv_goto (tgt := 4) hx hb dX2_litLetters_26 (by decide) ?_
        exact ih (x1 + r_2) (x2 + 1) hw H locs ls hP hD hS (lv_sub (l' := [(0, .ref o), (1, .int (x1 + r_2)), (2, .int (x2 + 1))]) hl [2, 1, 0] rfl)
  obtain ⟨H, hHH⟩ : ∃ H, H = s.heap := ⟨_, rfl⟩
  rw [← hHH] at hP ⊢
  have hS : va_S A s.heap H [] := by rw [hHH]; exact hS
  clear hHH
  generalize ([] : List Loc) = locs at hS ⊢
  unfold P_X2_litLetters at hw
  refine lv_iconst (v := 0) hx hb dX2_litLetters_0 (by decide) ?_
  refine lv_istore_n (lv' := [(1, .int 0), (0, .ref o)]) hx hb dX2_litLetters_1 rfl hl (by decide) rfl (fun ls hl => ?_)
  refine lv_iconst (v := 0) hx hb dX2_litLetters_2 (by decide) ?_
  refine lv_istore_n (lv' := [(2, .int 0), (1, .int 0), (0, .ref o)]) hx hb dX2_litLetters_3 rfl hl (by decide) rfl (fun ls hl => ?_)
  obtain ⟨n, hw⟩ := hw
  exact L4  n 0 0 hw H locs ls hP hD hS (lv_sub (l' := [(0, .ref o), (1, .int 0), (2, .int 0)]) hl [2, 1, 0] rfl)
abbrev rm_X2_wholeWords : Room := { frames := 1, cells := 0, slots := 0, locals := 21 }
set_option maxHeartbeats 4000000 in
set_option maxRecDepth 100000 in
theorem c_X2_wholeWords (l : Launch) (dC : Nat → ClassId) (dI : Nat → Nat → Nat) (cI cJ : ClassId) (o o_credits o_light o_lit o_whole o_ends o_clashes o_reach o_latest o_credits_cells : Nat) (sz : Nat) (s_credits_cells : Nat → Int32) (s_whole : Nat → Int32) (s_clashPairs : Int32)  (Q : Int32 → Prop) (hw : P_X2_wholeWords s_credits_cells s_whole Q) : Met l yX2_wholeWords (Cond.code yX2_wholeWords cX2_wholeWords 3 (some .int) :: TBL) rm_X2_wholeWords (gPc (dC, dI) vwCl (gTy cI cJ) [.ref o] [(o, .inr (2, [.ref o_credits, .ref o_light, .ref o_lit, .ref o_whole, .ref o_ends, .ref o_clashes, .int s_clashPairs, .ref o_reach, .ref o_latest])), (o_credits, .inr (0, [.ref o_credits_cells])), (o_credits_cells, .inl (cI, 82, .inl s_credits_cells)), (o_whole, .inl (cI, 8, .inl s_whole))] sz) (va_Qi (fun (r : Int32) (u : Unit) => Q r ) (gB (dC, dI) vwCl (gTy cI cJ) (va_A [(o, .inr (2, [.ref o_credits, .ref o_light, .ref o_lit, .ref o_whole, .ref o_ends, .ref o_clashes, .int s_clashPairs, .ref o_reach, .ref o_latest])), (o_credits, .inr (0, [.ref o_credits_cells])), (o_credits_cells, .inl (cI, 82, .inl s_credits_cells)), (o_whole, .inl (cI, 8, .inl s_whole))] sz) (fun (u : Unit) => [(o, .inr (2, [.ref o_credits, .ref o_light, .ref o_lit, .ref o_whole, .ref o_ends, .ref o_clashes, .int s_clashPairs, .ref o_reach, .ref o_latest])), (o_credits, .inr (0, [.ref o_credits_cells])), (o_credits_cells, .inl (cI, 82, .inl s_credits_cells)), (o_whole, .inl (cI, 8, .inl s_whole))])) (va_A [(o, .inr (2, [.ref o_credits, .ref o_light, .ref o_lit, .ref o_whole, .ref o_ends, .ref o_clashes, .int s_clashPairs, .ref o_reach, .ref o_latest])), (o_credits, .inr (0, [.ref o_credits_cells])), (o_credits_cells, .inl (cI, 82, .inl s_credits_cells)), (o_whole, .inl (cI, 8, .inl s_whole))] sz)) 0 0 (va_A [(o, .inr (2, [.ref o_credits, .ref o_light, .ref o_lit, .ref o_whole, .ref o_ends, .ref o_clashes, .int s_clashPairs, .ref o_reach, .ref o_latest])), (o_credits, .inr (0, [.ref o_credits_cells])), (o_credits_cells, .inl (cI, 82, .inl s_credits_cells)), (o_whole, .inl (cI, 8, .inl s_whole))] sz) := by
  refine Met.ofW (cc := cX2_wholeWords) (maxL := 3) (ret := (some .int)) (by decide) rfl ?_
  intro p e s m args below meth c s₁ B hml hv
  obtain ⟨rfl, hsz, hP, hK, hD0⟩ := hv
  have hx := B.exec
  have hb := B.bytes
  have hr := B.returns
  have hts := atoms_spec (ws := Cond.code yX2_wholeWords cX2_wholeWords 3 (some .int) :: TBL) B.pre
  have ht : ∀ w ∈ TBL, w.before ([.ref o] : List Value).toArray s = true := fun w h => hts w (List.mem_cons_of_mem _ h)
  clear hts
  have hown : s.vm.findClass RX2 = some m.cls := findClass_of_methodNamed B.named
  have hlocks := B.notSynchronized
  clear B
  subst hsz
  have hD := hD0.self (sz := s.heap.size)
  clear hD0
  generalize hAe : va_A [(o, .inr (2, [.ref o_credits, .ref o_light, .ref o_lit, .ref o_whole, .ref o_ends, .ref o_clashes, .int s_clashPairs, .ref o_reach, .ref o_latest])), (o_credits, .inr (0, [.ref o_credits_cells])), (o_credits_cells, .inl (cI, 82, .inl s_credits_cells)), (o_whole, .inl (cI, 8, .inl s_whole))] s.heap.size = A at hD ⊢
  have hA : ∀ q : Nat, s.heap.size ≤ q → A q := fun q h => by rw [← hAe]; exact Or.inr h
  clear hAe
  have hS : va_S A s.heap s.heap [] := va_S.rf
  have hP : va_P (dC, dI) vwCl [(o, .inr (2, [.ref o_credits, .ref o_light, .ref o_lit, .ref o_whole, .ref o_ends, .ref o_clashes, .int s_clashPairs, .ref o_reach, .ref o_latest])), (o_credits, .inr (0, [.ref o_credits_cells])), (o_credits_cells, .inl (cI, 82, .inl s_credits_cells)), (o_whole, .inl (cI, 8, .inl s_whole))] s.heap := hP
  have hl := lv_entry ([.ref o]) (n := 3) (Nat.le_of_ble_eq_true rfl)
  rw [lg_entry_eq]
  generalize (lg_sl ([.ref o]) ++ List.replicate (3 - (lg_sl ([.ref o])).length) Slot.unset).toArray = ls at hl ⊢
  have hl : lv_has ls 3 [(0, .ref o)] := hl
  generalize hQQ : MQ below _ _ _ 0 0 A = QQ
  show W p l e rm_X2_wholeWords s m ([.ref o] : List Value).toArray below meth c s.heap [] 0 0 QQ (F0 m 0 ls [])
  have L4 : ∀ (n : Nat) (x1 : Int32) (x2 : Int32), P_X2_wholeWords_L4 s_credits_cells s_whole Q n x1 x2 → ∀ (H : Heap) (locs : List Loc) (ls : Array Slot), va_P (dC, dI) vwCl [(o, .inr (2, [.ref o_credits, .ref o_light, .ref o_lit, .ref o_whole, .ref o_ends, .ref o_clashes, .int s_clashPairs, .ref o_reach, .ref o_latest])), (o_credits, .inr (0, [.ref o_credits_cells])), (o_credits_cells, .inl (cI, 82, .inl s_credits_cells)), (o_whole, .inl (cI, 8, .inl s_whole))] H → va_D A [(o, .inr (2, [.ref o_credits, .ref o_light, .ref o_lit, .ref o_whole, .ref o_ends, .ref o_clashes, .int s_clashPairs, .ref o_reach, .ref o_latest])), (o_credits, .inr (0, [.ref o_credits_cells])), (o_credits_cells, .inl (cI, 82, .inl s_credits_cells)), (o_whole, .inl (cI, 8, .inl s_whole))] → va_S A s.heap H locs → lv_has ls 3 [(0, .ref o), (1, .int x1), (2, .int x2)] → W p l e rm_X2_wholeWords s m ([.ref o] : List Value).toArray below meth c H locs 0 0 QQ (F0 m 4 ls []) := by
    intro n
    induction n with
    | zero => intro x1 x2 hw; rw [P_X2_wholeWords_L4_z] at hw; exact hw.elim
    | succ n ih =>
      intro x1 x2 hw
      rw [P_X2_wholeWords_L4_s] at hw
      generalize hrec : P_X2_wholeWords_L4 s_credits_cells s_whole Q n = rec4 at ih hw
      have J27 : ∀ (x1 : Int32) (x2 : Int32), P_X2_wholeWords_J27 rec4 x1 x2 → ∀ (H : Heap) (locs : List Loc) (ls : Array Slot), va_P (dC, dI) vwCl [(o, .inr (2, [.ref o_credits, .ref o_light, .ref o_lit, .ref o_whole, .ref o_ends, .ref o_clashes, .int s_clashPairs, .ref o_reach, .ref o_latest])), (o_credits, .inr (0, [.ref o_credits_cells])), (o_credits_cells, .inl (cI, 82, .inl s_credits_cells)), (o_whole, .inl (cI, 8, .inl s_whole))] H → va_D A [(o, .inr (2, [.ref o_credits, .ref o_light, .ref o_lit, .ref o_whole, .ref o_ends, .ref o_clashes, .int s_clashPairs, .ref o_reach, .ref o_latest])), (o_credits, .inr (0, [.ref o_credits_cells])), (o_credits_cells, .inl (cI, 82, .inl s_credits_cells)), (o_whole, .inl (cI, 8, .inl s_whole))] → va_S A s.heap H locs → lv_has ls 3 [(0, .ref o), (1, .int x1), (2, .int x2)] → W p l e rm_X2_wholeWords s m ([.ref o] : List Value).toArray below meth c H locs 0 0 QQ (F0 m 27 ls []) := by
        intro x1 x2 hw H locs ls hP hD hS hl
        unfold P_X2_wholeWords_J27 at hw
        refine lv_iinc (v := (x2 + 1)) (lv' := [(2, .int (x2 + 1)), (0, .ref o), (1, .int x1)]) hx hb dX2_wholeWords_27 hl (k := 2) rfl rfl (by decide) rfl (fun ls hl => ?_)
        refine lv_goto (tgt := 4) hx hb dX2_wholeWords_30 (by decide) ?_
        exact ih x1 (x2 + 1) hw H locs ls hP hD hS (lv_sub (l' := [(0, .ref o), (1, .int x1), (2, .int (x2 + 1))]) hl [1, 2, 0] rfl)
      intro H locs ls hP hD hS hl
      unfold B_X2_wholeWords_L4 at hw
      refine lv_iload_n hx hb dX2_wholeWords_4 rfl (lv_at hl 2 rfl) ?_
      refine lv_aload_n hx hb dX2_wholeWords_5 rfl (lv_at hl 0 rfl) ?_
      refine va_get (D := (dC, dI)) (ci := 2) (v := .ref o_credits) (C := RX2) (T := TX2) (N := 9) hx hb ht i_X2 hown hK hP 0 rfl rfl 0 (by decide) (ht _ k_39) (fun _ h9 => h9) rfl dX2_wholeWords_6 ?_
      refine gc_Vi (As := []) (rest := [.int x2]) (wr := [(o, .inr (2, [.ref o_credits, .ref o_light, .ref o_lit, .ref o_whole, .ref o_ends, .ref o_clashes, .int s_clashPairs, .ref o_reach, .ref o_latest])), (o_whole, .inl (cI, 8, .inl s_whole))]) ⟨hx, hb, hml, hown, ht⟩ (c_X0_words l dC dI cI cJ o_credits o_credits_cells H.size s_credits_cells _ hw) (cwV 0 ht (g_V k_209 k_189 k_190 k_2 k_191) rfl rfl rfl (by decide +kernel) ⟨(Nat.le_of_ble_eq_true rfl), (Nat.le_of_ble_eq_true rfl)⟩) hK hP hD hS hA [1, 2] [0, 3] rfl rfl (by decide) 1 rfl rfl rfl rfl hl.1 rfl (Nat.le_of_ble_eq_true rfl) ⟨(Nat.le_of_ble_eq_true rfl), (Nat.le_of_ble_eq_true rfl)⟩ dX2_wholeWords_9 (fun r_1 u H locs hw hP hD hS => ?_)
      try dsimp only at hw
      have hP : va_P (dC, dI) vwCl [(o, .inr (2, [.ref o_credits, .ref o_light, .ref o_lit, .ref o_whole, .ref o_ends, .ref o_clashes, .int s_clashPairs, .ref o_reach, .ref o_latest])), (o_whole, .inl (cI, 8, .inl s_whole)), (o_credits, .inr (0, [.ref o_credits_cells])), (o_credits_cells, .inl (cI, 82, .inl s_credits_cells))] H := hP
      have hD : va_D A [(o, .inr (2, [.ref o_credits, .ref o_light, .ref o_lit, .ref o_whole, .ref o_ends, .ref o_clashes, .int s_clashPairs, .ref o_reach, .ref o_latest])), (o_whole, .inl (cI, 8, .inl s_whole)), (o_credits, .inr (0, [.ref o_credits_cells])), (o_credits_cells, .inl (cI, 82, .inl s_credits_cells))] := hD
      refine lv_icmp_ge (tgt := 33) hx hb dX2_wholeWords_12 (by decide) (fun hc => ?_) (fun hc => ?_)
      · have hw := hw.1 hc
        refine lv_iload_n hx hb dX2_wholeWords_33 rfl (lv_at hl 1 rfl) ?_
        rw [← hQQ]
        exact g_reti (v := x1) (u := ()) hx hb hr rfl hlocks hw (hP.sub (ws' := [(o, .inr (2, [.ref o_credits, .ref o_light, .ref o_lit, .ref o_whole, .ref o_ends, .ref o_clashes, .int s_clashPairs, .ref o_reach, .ref o_latest])), (o_credits, .inr (0, [.ref o_credits_cells])), (o_credits_cells, .inl (cI, 82, .inl s_credits_cells)), (o_whole, .inl (cI, 8, .inl s_whole))]) [0, 2, 3, 1] rfl) hK (hD.sub (ws' := [(o, .inr (2, [.ref o_credits, .ref o_light, .ref o_lit, .ref o_whole, .ref o_ends, .ref o_clashes, .int s_clashPairs, .ref o_reach, .ref o_latest])), (o_credits, .inr (0, [.ref o_credits_cells])), (o_credits_cells, .inl (cI, 82, .inl s_credits_cells)), (o_whole, .inl (cI, 8, .inl s_whole))]) [0, 2, 3, 1] (by decide) rfl) hS dX2_wholeWords_34
      · have hw := hw.2 hc
        refine lv_aload_n hx hb dX2_wholeWords_15 rfl (lv_at hl 0 rfl) ?_
        refine lv_iload_n hx hb dX2_wholeWords_16 rfl (lv_at hl 2 rfl) ?_
        refine gc_Vi (As := [.int x2]) (rest := []) (wr := [(o_credits, .inr (0, [.ref o_credits_cells])), (o_credits_cells, .inl (cI, 82, .inl s_credits_cells))]) ⟨hx, hb, hml, hown, ht⟩ (c_X2_wholeFrom l dC dI cI cJ o o_credits o_light o_lit o_whole o_ends o_clashes o_reach o_latest H.size s_whole s_clashPairs x2 _ hw) (cwV 1 ht (g_V k_223 k_224 k_225 k_3 k_226) rfl rfl rfl (by decide +kernel) ⟨(Nat.le_of_ble_eq_true rfl), (Nat.le_of_ble_eq_true rfl)⟩) hK hP hD hS hA [0, 1] [2, 3] rfl rfl (by decide) 0 rfl rfl rfl rfl hl.1 rfl (Nat.le_of_ble_eq_true rfl) ⟨(Nat.le_of_ble_eq_true rfl), (Nat.le_of_ble_eq_true rfl)⟩ dX2_wholeWords_17 (fun r_2 u H locs hw hP hD hS => ?_)
        try dsimp only at hw
        have hP : va_P (dC, dI) vwCl [(o_credits, .inr (0, [.ref o_credits_cells])), (o_credits_cells, .inl (cI, 82, .inl s_credits_cells)), (o, .inr (2, [.ref o_credits, .ref o_light, .ref o_lit, .ref o_whole, .ref o_ends, .ref o_clashes, .int s_clashPairs, .ref o_reach, .ref o_latest])), (o_whole, .inl (cI, 8, .inl s_whole))] H := hP
        have hD : va_D A [(o_credits, .inr (0, [.ref o_credits_cells])), (o_credits_cells, .inl (cI, 82, .inl s_credits_cells)), (o, .inr (2, [.ref o_credits, .ref o_light, .ref o_lit, .ref o_whole, .ref o_ends, .ref o_clashes, .int s_clashPairs, .ref o_reach, .ref o_latest])), (o_whole, .inl (cI, 8, .inl s_whole))] := hD
        refine lv_iconst (v := (-1)) hx hb dX2_wholeWords_20 (by decide) ?_
        refine lv_icmp_eq (tgt := 27) hx hb dX2_wholeWords_21 (by decide) (fun hc => ?_) (fun hc => ?_)
        · have hw := hw.1 hc
          exact J27 x1 x2 hw H locs ls (hP.sub (ws' := [(o, .inr (2, [.ref o_credits, .ref o_light, .ref o_lit, .ref o_whole, .ref o_ends, .ref o_clashes, .int s_clashPairs, .ref o_reach, .ref o_latest])), (o_credits, .inr (0, [.ref o_credits_cells])), (o_credits_cells, .inl (cI, 82, .inl s_credits_cells)), (o_whole, .inl (cI, 8, .inl s_whole))]) [2, 0, 1, 3] rfl) (hD.sub (ws' := [(o, .inr (2, [.ref o_credits, .ref o_light, .ref o_lit, .ref o_whole, .ref o_ends, .ref o_clashes, .int s_clashPairs, .ref o_reach, .ref o_latest])), (o_credits, .inr (0, [.ref o_credits_cells])), (o_credits_cells, .inl (cI, 82, .inl s_credits_cells)), (o_whole, .inl (cI, 8, .inl s_whole))]) [2, 0, 1, 3] (by decide) rfl) hS hl
        · have hw := hw.2 hc
          refine lv_iinc (v := (x1 + 1)) (lv' := [(1, .int (x1 + 1)), (0, .ref o), (2, .int x2)]) hx hb dX2_wholeWords_24 hl (k := 1) rfl rfl (by decide) rfl (fun ls hl => ?_)
          exact J27 (x1 + 1) x2 hw H locs ls (hP.sub (ws' := [(o, .inr (2, [.ref o_credits, .ref o_light, .ref o_lit, .ref o_whole, .ref o_ends, .ref o_clashes, .int s_clashPairs, .ref o_reach, .ref o_latest])), (o_credits, .inr (0, [.ref o_credits_cells])), (o_credits_cells, .inl (cI, 82, .inl s_credits_cells)), (o_whole, .inl (cI, 8, .inl s_whole))]) [2, 0, 1, 3] rfl) (hD.sub (ws' := [(o, .inr (2, [.ref o_credits, .ref o_light, .ref o_lit, .ref o_whole, .ref o_ends, .ref o_clashes, .int s_clashPairs, .ref o_reach, .ref o_latest])), (o_credits, .inr (0, [.ref o_credits_cells])), (o_credits_cells, .inl (cI, 82, .inl s_credits_cells)), (o_whole, .inl (cI, 8, .inl s_whole))]) [2, 0, 1, 3] (by decide) rfl) hS (lv_sub (l' := [(0, .ref o), (1, .int (x1 + 1)), (2, .int x2)]) hl [1, 0, 2] rfl)
  obtain ⟨H, hHH⟩ : ∃ H, H = s.heap := ⟨_, rfl⟩
  rw [← hHH] at hP ⊢
  have hS : va_S A s.heap H [] := by rw [hHH]; exact hS
  clear hHH
  generalize ([] : List Loc) = locs at hS ⊢
  unfold P_X2_wholeWords at hw
  refine lv_iconst (v := 0) hx hb dX2_wholeWords_0 (by decide) ?_
  refine lv_istore_n (lv' := [(1, .int 0), (0, .ref o)]) hx hb dX2_wholeWords_1 rfl hl (by decide) rfl (fun ls hl => ?_)
  refine lv_iconst (v := 0) hx hb dX2_wholeWords_2 (by decide) ?_
  refine lv_istore_n (lv' := [(2, .int 0), (1, .int 0), (0, .ref o)]) hx hb dX2_wholeWords_3 rfl hl (by decide) rfl (fun ls hl => ?_)
  obtain ⟨n, hw⟩ := hw
  exact L4  n 0 0 hw H locs ls hP hD hS (lv_sub (l' := [(0, .ref o), (1, .int 0), (2, .int 0)]) hl [2, 1, 0] rfl)
abbrev rm_X2_lastWhole : Room := { frames := 1, cells := 0, slots := 0, locals := 23 }
set_option maxHeartbeats 4000000 in
set_option maxRecDepth 100000 in
theorem c_X2_lastWhole (l : Launch) (dC : Nat → ClassId) (dI : Nat → Nat → Nat) (cI cJ : ClassId) (o o_credits o_light o_lit o_whole o_ends o_clashes o_reach o_latest o_credits_cells : Nat) (sz : Nat) (s_credits_cells : Nat → Int32) (s_whole : Nat → Int32) (s_clashPairs : Int32)  (Q : Int32 → Prop) (hw : P_X2_lastWhole s_credits_cells s_whole Q) : Met l yX2_lastWhole (Cond.code yX2_lastWhole cX2_lastWhole 3 (some .int) :: TBL) rm_X2_lastWhole (gPc (dC, dI) vwCl (gTy cI cJ) [.ref o] [(o, .inr (2, [.ref o_credits, .ref o_light, .ref o_lit, .ref o_whole, .ref o_ends, .ref o_clashes, .int s_clashPairs, .ref o_reach, .ref o_latest])), (o_credits, .inr (0, [.ref o_credits_cells])), (o_credits_cells, .inl (cI, 82, .inl s_credits_cells)), (o_whole, .inl (cI, 8, .inl s_whole))] sz) (va_Qi (fun (r : Int32) (u : Unit) => Q r ) (gB (dC, dI) vwCl (gTy cI cJ) (va_A [(o, .inr (2, [.ref o_credits, .ref o_light, .ref o_lit, .ref o_whole, .ref o_ends, .ref o_clashes, .int s_clashPairs, .ref o_reach, .ref o_latest])), (o_credits, .inr (0, [.ref o_credits_cells])), (o_credits_cells, .inl (cI, 82, .inl s_credits_cells)), (o_whole, .inl (cI, 8, .inl s_whole))] sz) (fun (u : Unit) => [(o, .inr (2, [.ref o_credits, .ref o_light, .ref o_lit, .ref o_whole, .ref o_ends, .ref o_clashes, .int s_clashPairs, .ref o_reach, .ref o_latest])), (o_credits, .inr (0, [.ref o_credits_cells])), (o_credits_cells, .inl (cI, 82, .inl s_credits_cells)), (o_whole, .inl (cI, 8, .inl s_whole))])) (va_A [(o, .inr (2, [.ref o_credits, .ref o_light, .ref o_lit, .ref o_whole, .ref o_ends, .ref o_clashes, .int s_clashPairs, .ref o_reach, .ref o_latest])), (o_credits, .inr (0, [.ref o_credits_cells])), (o_credits_cells, .inl (cI, 82, .inl s_credits_cells)), (o_whole, .inl (cI, 8, .inl s_whole))] sz)) 0 0 (va_A [(o, .inr (2, [.ref o_credits, .ref o_light, .ref o_lit, .ref o_whole, .ref o_ends, .ref o_clashes, .int s_clashPairs, .ref o_reach, .ref o_latest])), (o_credits, .inr (0, [.ref o_credits_cells])), (o_credits_cells, .inl (cI, 82, .inl s_credits_cells)), (o_whole, .inl (cI, 8, .inl s_whole))] sz) := by
  refine Met.ofW (cc := cX2_lastWhole) (maxL := 3) (ret := (some .int)) (by decide) rfl ?_
  intro p e s m args below meth c s₁ B hml hv
  obtain ⟨rfl, hsz, hP, hK, hD0⟩ := hv
  have hx := B.exec
  have hb := B.bytes
  have hr := B.returns
  have hts := atoms_spec (ws := Cond.code yX2_lastWhole cX2_lastWhole 3 (some .int) :: TBL) B.pre
  have ht : ∀ w ∈ TBL, w.before ([.ref o] : List Value).toArray s = true := fun w h => hts w (List.mem_cons_of_mem _ h)
  clear hts
  have hown : s.vm.findClass RX2 = some m.cls := findClass_of_methodNamed B.named
  have hlocks := B.notSynchronized
  clear B
  subst hsz
  have hD := hD0.self (sz := s.heap.size)
  clear hD0
  generalize hAe : va_A [(o, .inr (2, [.ref o_credits, .ref o_light, .ref o_lit, .ref o_whole, .ref o_ends, .ref o_clashes, .int s_clashPairs, .ref o_reach, .ref o_latest])), (o_credits, .inr (0, [.ref o_credits_cells])), (o_credits_cells, .inl (cI, 82, .inl s_credits_cells)), (o_whole, .inl (cI, 8, .inl s_whole))] s.heap.size = A at hD ⊢
  have hA : ∀ q : Nat, s.heap.size ≤ q → A q := fun q h => by rw [← hAe]; exact Or.inr h
  clear hAe
  have hS : va_S A s.heap s.heap [] := va_S.rf
  have hP : va_P (dC, dI) vwCl [(o, .inr (2, [.ref o_credits, .ref o_light, .ref o_lit, .ref o_whole, .ref o_ends, .ref o_clashes, .int s_clashPairs, .ref o_reach, .ref o_latest])), (o_credits, .inr (0, [.ref o_credits_cells])), (o_credits_cells, .inl (cI, 82, .inl s_credits_cells)), (o_whole, .inl (cI, 8, .inl s_whole))] s.heap := hP
  have hl := lv_entry ([.ref o]) (n := 3) (Nat.le_of_ble_eq_true rfl)
  rw [lg_entry_eq]
  generalize (lg_sl ([.ref o]) ++ List.replicate (3 - (lg_sl ([.ref o])).length) Slot.unset).toArray = ls at hl ⊢
  have hl : lv_has ls 3 [(0, .ref o)] := hl
  generalize hQQ : MQ below _ _ _ 0 0 A = QQ
  show W p l e rm_X2_lastWhole s m ([.ref o] : List Value).toArray below meth c s.heap [] 0 0 QQ (F0 m 0 ls [])
  have L4 : ∀ (n : Nat) (x1 : Int32) (x2 : Int32), P_X2_lastWhole_L4 s_credits_cells s_whole Q n x1 x2 → ∀ (H : Heap) (locs : List Loc) (ls : Array Slot), va_P (dC, dI) vwCl [(o, .inr (2, [.ref o_credits, .ref o_light, .ref o_lit, .ref o_whole, .ref o_ends, .ref o_clashes, .int s_clashPairs, .ref o_reach, .ref o_latest])), (o_credits, .inr (0, [.ref o_credits_cells])), (o_credits_cells, .inl (cI, 82, .inl s_credits_cells)), (o_whole, .inl (cI, 8, .inl s_whole))] H → va_D A [(o, .inr (2, [.ref o_credits, .ref o_light, .ref o_lit, .ref o_whole, .ref o_ends, .ref o_clashes, .int s_clashPairs, .ref o_reach, .ref o_latest])), (o_credits, .inr (0, [.ref o_credits_cells])), (o_credits_cells, .inl (cI, 82, .inl s_credits_cells)), (o_whole, .inl (cI, 8, .inl s_whole))] → va_S A s.heap H locs → lv_has ls 3 [(0, .ref o), (1, .int x1), (2, .int x2)] → W p l e rm_X2_lastWhole s m ([.ref o] : List Value).toArray below meth c H locs 0 0 QQ (F0 m 4 ls []) := by
    intro n
    induction n with
    | zero => intro x1 x2 hw; rw [P_X2_lastWhole_L4_z] at hw; exact hw.elim
    | succ n ih =>
      intro x1 x2 hw
      rw [P_X2_lastWhole_L4_s] at hw
      generalize hrec : P_X2_lastWhole_L4 s_credits_cells s_whole Q n = rec4 at ih hw
      intro H locs ls hP hD hS hl
      unfold B_X2_lastWhole_L4 at hw
      refine lv_iload_n hx hb dX2_lastWhole_4 rfl (lv_at hl 2 rfl) ?_
      refine lv_aload_n hx hb dX2_lastWhole_5 rfl (lv_at hl 0 rfl) ?_
      refine va_get (D := (dC, dI)) (ci := 2) (v := .ref o_credits) (C := RX2) (T := TX2) (N := 9) hx hb ht i_X2 hown hK hP 0 rfl rfl 0 (by decide) (ht _ k_39) (fun _ h9 => h9) rfl dX2_lastWhole_6 ?_
      refine gc_Vi (As := []) (rest := [.int x2]) (wr := [(o, .inr (2, [.ref o_credits, .ref o_light, .ref o_lit, .ref o_whole, .ref o_ends, .ref o_clashes, .int s_clashPairs, .ref o_reach, .ref o_latest])), (o_whole, .inl (cI, 8, .inl s_whole))]) ⟨hx, hb, hml, hown, ht⟩ (c_X0_words l dC dI cI cJ o_credits o_credits_cells H.size s_credits_cells _ hw) (cwV 0 ht (g_V k_209 k_189 k_190 k_2 k_191) rfl rfl rfl (by decide +kernel) ⟨(Nat.le_of_ble_eq_true rfl), (Nat.le_of_ble_eq_true rfl)⟩) hK hP hD hS hA [1, 2] [0, 3] rfl rfl (by decide) 1 rfl rfl rfl rfl hl.1 rfl (Nat.le_of_ble_eq_true rfl) ⟨(Nat.le_of_ble_eq_true rfl), (Nat.le_of_ble_eq_true rfl)⟩ dX2_lastWhole_9 (fun r_1 u H locs hw hP hD hS => ?_)
      try dsimp only at hw
      have hP : va_P (dC, dI) vwCl [(o, .inr (2, [.ref o_credits, .ref o_light, .ref o_lit, .ref o_whole, .ref o_ends, .ref o_clashes, .int s_clashPairs, .ref o_reach, .ref o_latest])), (o_whole, .inl (cI, 8, .inl s_whole)), (o_credits, .inr (0, [.ref o_credits_cells])), (o_credits_cells, .inl (cI, 82, .inl s_credits_cells))] H := hP
      have hD : va_D A [(o, .inr (2, [.ref o_credits, .ref o_light, .ref o_lit, .ref o_whole, .ref o_ends, .ref o_clashes, .int s_clashPairs, .ref o_reach, .ref o_latest])), (o_whole, .inl (cI, 8, .inl s_whole)), (o_credits, .inr (0, [.ref o_credits_cells])), (o_credits_cells, .inl (cI, 82, .inl s_credits_cells))] := hD
      refine lv_icmp_ge (tgt := 31) hx hb dX2_lastWhole_12 (by decide) (fun hc => ?_) (fun hc => ?_)
      · have hw := hw.1 hc
        refine lv_iload_n hx hb dX2_lastWhole_31 rfl (lv_at hl 1 rfl) ?_
        rw [← hQQ]
        exact g_reti (v := x1) (u := ()) hx hb hr rfl hlocks hw (hP.sub (ws' := [(o, .inr (2, [.ref o_credits, .ref o_light, .ref o_lit, .ref o_whole, .ref o_ends, .ref o_clashes, .int s_clashPairs, .ref o_reach, .ref o_latest])), (o_credits, .inr (0, [.ref o_credits_cells])), (o_credits_cells, .inl (cI, 82, .inl s_credits_cells)), (o_whole, .inl (cI, 8, .inl s_whole))]) [0, 2, 3, 1] rfl) hK (hD.sub (ws' := [(o, .inr (2, [.ref o_credits, .ref o_light, .ref o_lit, .ref o_whole, .ref o_ends, .ref o_clashes, .int s_clashPairs, .ref o_reach, .ref o_latest])), (o_credits, .inr (0, [.ref o_credits_cells])), (o_credits_cells, .inl (cI, 82, .inl s_credits_cells)), (o_whole, .inl (cI, 8, .inl s_whole))]) [0, 2, 3, 1] (by decide) rfl) hS dX2_lastWhole_32
      · have hw := hw.2 hc
        refine lv_iload_n hx hb dX2_lastWhole_15 rfl (lv_at hl 1 rfl) ?_
        refine lv_aload_n hx hb dX2_lastWhole_16 rfl (lv_at hl 0 rfl) ?_
        refine lv_iload_n hx hb dX2_lastWhole_17 rfl (lv_at hl 2 rfl) ?_
        refine gc_Vi (As := [.int x2]) (rest := [.int x1]) (wr := [(o_credits, .inr (0, [.ref o_credits_cells])), (o_credits_cells, .inl (cI, 82, .inl s_credits_cells))]) ⟨hx, hb, hml, hown, ht⟩ (c_X2_wholeFrom l dC dI cI cJ o o_credits o_light o_lit o_whole o_ends o_clashes o_reach o_latest H.size s_whole s_clashPairs x2 _ hw) (cwV 1 ht (g_V k_223 k_224 k_225 k_3 k_226) rfl rfl rfl (by decide +kernel) ⟨(Nat.le_of_ble_eq_true rfl), (Nat.le_of_ble_eq_true rfl)⟩) hK hP hD hS hA [0, 1] [2, 3] rfl rfl (by decide) 0 rfl rfl rfl rfl hl.1 rfl (Nat.le_of_ble_eq_true rfl) ⟨(Nat.le_of_ble_eq_true rfl), (Nat.le_of_ble_eq_true rfl)⟩ dX2_lastWhole_18 (fun r_2 u H locs hw hP hD hS => ?_)
        try dsimp only at hw
        have hP : va_P (dC, dI) vwCl [(o_credits, .inr (0, [.ref o_credits_cells])), (o_credits_cells, .inl (cI, 82, .inl s_credits_cells)), (o, .inr (2, [.ref o_credits, .ref o_light, .ref o_lit, .ref o_whole, .ref o_ends, .ref o_clashes, .int s_clashPairs, .ref o_reach, .ref o_latest])), (o_whole, .inl (cI, 8, .inl s_whole))] H := hP
        have hD : va_D A [(o_credits, .inr (0, [.ref o_credits_cells])), (o_credits_cells, .inl (cI, 82, .inl s_credits_cells)), (o, .inr (2, [.ref o_credits, .ref o_light, .ref o_lit, .ref o_whole, .ref o_ends, .ref o_clashes, .int s_clashPairs, .ref o_reach, .ref o_latest])), (o_whole, .inl (cI, 8, .inl s_whole))] := hD
        refine va_mmax hx hb (hml.trans hl.1.symm) hown (ht _ k_231) (ht _ k_232) (ht _ k_9) (ht _ k_233) (Nat.le_of_ble_eq_true rfl) (Nat.le_of_ble_eq_true rfl) (Nat.zero_le _) (Nat.zero_le _) dX2_lastWhole_21 ?_
        refine lv_istore_n (lv' := [(1, .int (if x1 < r_2 then r_2 else x1)), (0, .ref o), (2, .int x2)]) hx hb dX2_lastWhole_24 rfl hl (by decide) rfl (fun ls hl => ?_)
        refine lv_iinc (v := (x2 + 1)) (lv' := [(2, .int (x2 + 1)), (1, .int (if x1 < r_2 then r_2 else x1)), (0, .ref o)]) hx hb dX2_lastWhole_25 hl (k := 2) rfl rfl (by decide) rfl (fun ls hl => ?_)
        refine lv_goto (tgt := 4) hx hb dX2_lastWhole_28 (by decide) ?_
        exact ih (if x1 < r_2 then r_2 else x1) (x2 + 1) hw H locs ls (hP.sub (ws' := [(o, .inr (2, [.ref o_credits, .ref o_light, .ref o_lit, .ref o_whole, .ref o_ends, .ref o_clashes, .int s_clashPairs, .ref o_reach, .ref o_latest])), (o_credits, .inr (0, [.ref o_credits_cells])), (o_credits_cells, .inl (cI, 82, .inl s_credits_cells)), (o_whole, .inl (cI, 8, .inl s_whole))]) [2, 0, 1, 3] rfl) (hD.sub (ws' := [(o, .inr (2, [.ref o_credits, .ref o_light, .ref o_lit, .ref o_whole, .ref o_ends, .ref o_clashes, .int s_clashPairs, .ref o_reach, .ref o_latest])), (o_credits, .inr (0, [.ref o_credits_cells])), (o_credits_cells, .inl (cI, 82, .inl s_credits_cells)), (o_whole, .inl (cI, 8, .inl s_whole))]) [2, 0, 1, 3] (by decide) rfl) hS (lv_sub (l' := [(0, .ref o), (1, .int (if x1 < r_2 then r_2 else x1)), (2, .int (x2 + 1))]) hl [2, 1, 0] rfl)
  obtain ⟨H, hHH⟩ : ∃ H, H = s.heap := ⟨_, rfl⟩
  rw [← hHH] at hP ⊢
  have hS : va_S A s.heap H [] := by rw [hHH]; exact hS
  clear hHH
  generalize ([] : List Loc) = locs at hS ⊢
  unfold P_X2_lastWhole at hw
  refine lv_iconst (v := (-1)) hx hb dX2_lastWhole_0 (by decide) ?_
  refine lv_istore_n (lv' := [(1, .int (-1)), (0, .ref o)]) hx hb dX2_lastWhole_1 rfl hl (by decide) rfl (fun ls hl => ?_)
  refine lv_iconst (v := 0) hx hb dX2_lastWhole_2 (by decide) ?_
  refine lv_istore_n (lv' := [(2, .int 0), (1, .int (-1)), (0, .ref o)]) hx hb dX2_lastWhole_3 rfl hl (by decide) rfl (fun ls hl => ?_)
  obtain ⟨n, hw⟩ := hw
  exact L4  n (-1) 0 hw H locs ls hP hD hS (lv_sub (l' := [(0, .ref o), (1, .int (-1)), (2, .int 0)]) hl [2, 1, 0] rfl)
abbrev rm_X2_isThere : Room := { frames := 1, cells := 0, slots := 0, locals := 21 }
set_option maxHeartbeats 4000000 in
set_option maxRecDepth 100000 in
theorem c_X2_isThere (l : Launch) (dC : Nat → ClassId) (dI : Nat → Nat → Nat) (cI cJ : ClassId) (o o_credits o_light o_lit o_whole o_ends o_clashes o_reach o_latest : Nat) (sz : Nat) (s_ends : Nat → Int32) (s_clashPairs : Int32) (p0 : Int32) (p1 : Int32) (p2 : Int32) (Q : Int32 → Prop) (hw : P_X2_isThere p0 p1 p2 s_ends Q) : Met l yX2_isThere (Cond.code yX2_isThere cX2_isThere 4 (some .boolean) :: TBL) rm_X2_isThere (gPc (dC, dI) vwCl (gTy cI cJ) [.ref o, .int p0, .int p1, .int p2] [(o, .inr (2, [.ref o_credits, .ref o_light, .ref o_lit, .ref o_whole, .ref o_ends, .ref o_clashes, .int s_clashPairs, .ref o_reach, .ref o_latest])), (o_ends, .inl (cI, 8, .inl s_ends))] sz) (va_Qi (fun (r : Int32) (u : Unit) => Q r ) (gB (dC, dI) vwCl (gTy cI cJ) (va_A [(o, .inr (2, [.ref o_credits, .ref o_light, .ref o_lit, .ref o_whole, .ref o_ends, .ref o_clashes, .int s_clashPairs, .ref o_reach, .ref o_latest])), (o_ends, .inl (cI, 8, .inl s_ends))] sz) (fun (u : Unit) => [(o, .inr (2, [.ref o_credits, .ref o_light, .ref o_lit, .ref o_whole, .ref o_ends, .ref o_clashes, .int s_clashPairs, .ref o_reach, .ref o_latest])), (o_ends, .inl (cI, 8, .inl s_ends))])) (va_A [(o, .inr (2, [.ref o_credits, .ref o_light, .ref o_lit, .ref o_whole, .ref o_ends, .ref o_clashes, .int s_clashPairs, .ref o_reach, .ref o_latest])), (o_ends, .inl (cI, 8, .inl s_ends))] sz)) 0 0 (va_A [(o, .inr (2, [.ref o_credits, .ref o_light, .ref o_lit, .ref o_whole, .ref o_ends, .ref o_clashes, .int s_clashPairs, .ref o_reach, .ref o_latest])), (o_ends, .inl (cI, 8, .inl s_ends))] sz) := by
  refine Met.ofW (cc := cX2_isThere) (maxL := 4) (ret := (some .boolean)) (by decide) rfl ?_
  intro p e s m args below meth c s₁ B hml hv
  obtain ⟨rfl, hsz, hP, hK, hD0⟩ := hv
  have hx := B.exec
  have hb := B.bytes
  have hr := B.returns
  have hts := atoms_spec (ws := Cond.code yX2_isThere cX2_isThere 4 (some .boolean) :: TBL) B.pre
  have ht : ∀ w ∈ TBL, w.before ([.ref o, .int p0, .int p1, .int p2] : List Value).toArray s = true := fun w h => hts w (List.mem_cons_of_mem _ h)
  clear hts
  have hown : s.vm.findClass RX2 = some m.cls := findClass_of_methodNamed B.named
  have hlocks := B.notSynchronized
  clear B
  subst hsz
  have hD := hD0.self (sz := s.heap.size)
  clear hD0
  generalize hAe : va_A [(o, .inr (2, [.ref o_credits, .ref o_light, .ref o_lit, .ref o_whole, .ref o_ends, .ref o_clashes, .int s_clashPairs, .ref o_reach, .ref o_latest])), (o_ends, .inl (cI, 8, .inl s_ends))] s.heap.size = A at hD ⊢
  have hA : ∀ q : Nat, s.heap.size ≤ q → A q := fun q h => by rw [← hAe]; exact Or.inr h
  clear hAe
  have hS : va_S A s.heap s.heap [] := va_S.rf
  have hP : va_P (dC, dI) vwCl [(o, .inr (2, [.ref o_credits, .ref o_light, .ref o_lit, .ref o_whole, .ref o_ends, .ref o_clashes, .int s_clashPairs, .ref o_reach, .ref o_latest])), (o_ends, .inl (cI, 8, .inl s_ends))] s.heap := hP
  have hl := lv_entry ([.ref o, .int p0, .int p1, .int p2]) (n := 4) (Nat.le_of_ble_eq_true rfl)
  rw [lg_entry_eq]
  generalize (lg_sl ([.ref o, .int p0, .int p1, .int p2]) ++ List.replicate (4 - (lg_sl ([.ref o, .int p0, .int p1, .int p2])).length) Slot.unset).toArray = ls at hl ⊢
  have hl : lv_has ls 4 [(0, .ref o), (1, .int p0), (2, .int p1), (3, .int p2)] := hl
  generalize hQQ : MQ below _ _ _ 0 0 A = QQ
  show W p l e rm_X2_isThere s m ([.ref o, .int p0, .int p1, .int p2] : List Value).toArray below meth c s.heap [] 0 0 QQ (F0 m 0 ls [])
  obtain ⟨H, hHH⟩ : ∃ H, H = s.heap := ⟨_, rfl⟩
  rw [← hHH] at hP ⊢
  have hS : va_S A s.heap H [] := by rw [hHH]; exact hS
  clear hHH
  generalize ([] : List Loc) = locs at hS ⊢
  unfold P_X2_isThere at hw
  refine lv_iload_n hx hb dX2_isThere_0 rfl (lv_at hl 2 rfl) ?_
  refine lv_iconst (v := (-1)) hx hb dX2_isThere_1 (by decide) ?_
  refine lv_icmp_eq (tgt := 23) hx hb dX2_isThere_2 (by decide) (fun hc => ?_) (fun hc => ?_)
  · have hw := hw.1 hc
    refine lv_iconst (v := 0) hx hb dX2_isThere_23 (by decide) ?_
    rw [← hQQ]
    exact g_reti (v := 0) (u := ()) hx hb hr rfl hlocks hw hP hK hD hS dX2_isThere_24
  · have hw := hw.2 hc
    refine lv_iload_n hx hb dX2_isThere_5 rfl (lv_at hl 2 rfl) ?_
    refine lv_iload_n hx hb dX2_isThere_6 rfl (lv_at hl 3 rfl) ?_
    refine lv_icmp_gt (tgt := 23) hx hb dX2_isThere_7 (by decide) (fun hc => ?_) (fun hc => ?_)
    · have hw := hw.1 hc
      refine lv_iconst (v := 0) hx hb dX2_isThere_23 (by decide) ?_
      rw [← hQQ]
      exact g_reti (v := 0) (u := ()) hx hb hr rfl hlocks hw hP hK hD hS dX2_isThere_24
    · have hw := hw.2 hc
      refine lv_iload_n hx hb dX2_isThere_10 rfl (lv_at hl 3 rfl) ?_
      refine lv_aload_n hx hb dX2_isThere_11 rfl (lv_at hl 0 rfl) ?_
      refine lv_iload_n hx hb dX2_isThere_12 rfl (lv_at hl 1 rfl) ?_
      refine gc_Vi (As := [.int p0]) (rest := [.int p2]) (wr := []) ⟨hx, hb, hml, hown, ht⟩ (c_X2_endOf l dC dI cI cJ o o_credits o_light o_lit o_whole o_ends o_clashes o_reach o_latest H.size s_ends s_clashPairs p0 _ hw) (cwV 1 ht (g_V k_250 k_252 k_s2 k_3 k_253) rfl rfl rfl (by decide +kernel) ⟨(Nat.le_of_ble_eq_true rfl), (Nat.le_of_ble_eq_true rfl)⟩) hK hP hD hS hA [0, 1] [] rfl rfl (by decide) 0 rfl rfl rfl rfl hl.1 rfl (Nat.le_of_ble_eq_true rfl) ⟨(Nat.le_of_ble_eq_true rfl), (Nat.le_of_ble_eq_true rfl)⟩ dX2_isThere_13 (fun r_1 u H locs hw hP hD hS => ?_)
      try dsimp only at hw
      have hP : va_P (dC, dI) vwCl [(o, .inr (2, [.ref o_credits, .ref o_light, .ref o_lit, .ref o_whole, .ref o_ends, .ref o_clashes, .int s_clashPairs, .ref o_reach, .ref o_latest])), (o_ends, .inl (cI, 8, .inl s_ends))] H := hP
      have hD : va_D A [(o, .inr (2, [.ref o_credits, .ref o_light, .ref o_lit, .ref o_whole, .ref o_ends, .ref o_clashes, .int s_clashPairs, .ref o_reach, .ref o_latest])), (o_ends, .inl (cI, 8, .inl s_ends))] := hD
      refine lv_icmp_ge (tgt := 23) hx hb dX2_isThere_16 (by decide) (fun hc => ?_) (fun hc => ?_)
      · have hw := hw.1 hc
        refine lv_iconst (v := 0) hx hb dX2_isThere_23 (by decide) ?_
        rw [← hQQ]
        exact g_reti (v := 0) (u := ()) hx hb hr rfl hlocks hw hP hK hD hS dX2_isThere_24
      · have hw := hw.2 hc
        refine lv_iconst (v := 1) hx hb dX2_isThere_19 (by decide) ?_
        refine lv_goto (tgt := 24) hx hb dX2_isThere_20 (by decide) ?_
        rw [← hQQ]
        exact g_reti (v := 1) (u := ()) hx hb hr rfl hlocks hw hP hK hD hS dX2_isThere_24
abbrev rm_X2_isSeen : Room := { frames := 2, cells := 0, slots := 0, locals := 44 }
set_option maxHeartbeats 4000000 in
set_option maxRecDepth 100000 in
theorem c_X2_isSeen (l : Launch) (dC : Nat → ClassId) (dI : Nat → Nat → Nat) (cI cJ : ClassId) (o o_credits o_light o_lit o_whole o_ends o_clashes o_reach o_latest o_credits_cells : Nat) (sz : Nat) (s_credits_cells : Nat → Int32) (s_lit : Nat → Int32) (s_ends : Nat → Int32) (s_clashPairs : Int32) (p0 : Int32) (p1 : Int32) (p2 : Int32) (Q : Int32 → Prop) (hw : P_X2_isSeen p0 p1 p2 s_credits_cells s_lit s_ends Q) : Met l yX2_isSeen (Cond.code yX2_isSeen cX2_isSeen 4 (some .boolean) :: TBL) rm_X2_isSeen (gPc (dC, dI) vwCl (gTy cI cJ) [.ref o, .int p0, .int p1, .int p2] [(o, .inr (2, [.ref o_credits, .ref o_light, .ref o_lit, .ref o_whole, .ref o_ends, .ref o_clashes, .int s_clashPairs, .ref o_reach, .ref o_latest])), (o_credits, .inr (0, [.ref o_credits_cells])), (o_credits_cells, .inl (cI, 82, .inl s_credits_cells)), (o_lit, .inl (cI, 96, .inl s_lit)), (o_ends, .inl (cI, 8, .inl s_ends))] sz) (va_Qi (fun (r : Int32) (u : Unit) => Q r ) (gB (dC, dI) vwCl (gTy cI cJ) (va_A [(o, .inr (2, [.ref o_credits, .ref o_light, .ref o_lit, .ref o_whole, .ref o_ends, .ref o_clashes, .int s_clashPairs, .ref o_reach, .ref o_latest])), (o_credits, .inr (0, [.ref o_credits_cells])), (o_credits_cells, .inl (cI, 82, .inl s_credits_cells)), (o_lit, .inl (cI, 96, .inl s_lit)), (o_ends, .inl (cI, 8, .inl s_ends))] sz) (fun (u : Unit) => [(o, .inr (2, [.ref o_credits, .ref o_light, .ref o_lit, .ref o_whole, .ref o_ends, .ref o_clashes, .int s_clashPairs, .ref o_reach, .ref o_latest])), (o_credits, .inr (0, [.ref o_credits_cells])), (o_credits_cells, .inl (cI, 82, .inl s_credits_cells)), (o_lit, .inl (cI, 96, .inl s_lit)), (o_ends, .inl (cI, 8, .inl s_ends))])) (va_A [(o, .inr (2, [.ref o_credits, .ref o_light, .ref o_lit, .ref o_whole, .ref o_ends, .ref o_clashes, .int s_clashPairs, .ref o_reach, .ref o_latest])), (o_credits, .inr (0, [.ref o_credits_cells])), (o_credits_cells, .inl (cI, 82, .inl s_credits_cells)), (o_lit, .inl (cI, 96, .inl s_lit)), (o_ends, .inl (cI, 8, .inl s_ends))] sz)) 0 0 (va_A [(o, .inr (2, [.ref o_credits, .ref o_light, .ref o_lit, .ref o_whole, .ref o_ends, .ref o_clashes, .int s_clashPairs, .ref o_reach, .ref o_latest])), (o_credits, .inr (0, [.ref o_credits_cells])), (o_credits_cells, .inl (cI, 82, .inl s_credits_cells)), (o_lit, .inl (cI, 96, .inl s_lit)), (o_ends, .inl (cI, 8, .inl s_ends))] sz) := by
  refine Met.ofW (cc := cX2_isSeen) (maxL := 4) (ret := (some .boolean)) (by decide) rfl ?_
  intro p e s m args below meth c s₁ B hml hv
  obtain ⟨rfl, hsz, hP, hK, hD0⟩ := hv
  have hx := B.exec
  have hb := B.bytes
  have hr := B.returns
  have hts := atoms_spec (ws := Cond.code yX2_isSeen cX2_isSeen 4 (some .boolean) :: TBL) B.pre
  have ht : ∀ w ∈ TBL, w.before ([.ref o, .int p0, .int p1, .int p2] : List Value).toArray s = true := fun w h => hts w (List.mem_cons_of_mem _ h)
  clear hts
  have hown : s.vm.findClass RX2 = some m.cls := findClass_of_methodNamed B.named
  have hlocks := B.notSynchronized
  clear B
  subst hsz
  have hD := hD0.self (sz := s.heap.size)
  clear hD0
  generalize hAe : va_A [(o, .inr (2, [.ref o_credits, .ref o_light, .ref o_lit, .ref o_whole, .ref o_ends, .ref o_clashes, .int s_clashPairs, .ref o_reach, .ref o_latest])), (o_credits, .inr (0, [.ref o_credits_cells])), (o_credits_cells, .inl (cI, 82, .inl s_credits_cells)), (o_lit, .inl (cI, 96, .inl s_lit)), (o_ends, .inl (cI, 8, .inl s_ends))] s.heap.size = A at hD ⊢
  have hA : ∀ q : Nat, s.heap.size ≤ q → A q := fun q h => by rw [← hAe]; exact Or.inr h
  clear hAe
  have hS : va_S A s.heap s.heap [] := va_S.rf
  have hP : va_P (dC, dI) vwCl [(o, .inr (2, [.ref o_credits, .ref o_light, .ref o_lit, .ref o_whole, .ref o_ends, .ref o_clashes, .int s_clashPairs, .ref o_reach, .ref o_latest])), (o_credits, .inr (0, [.ref o_credits_cells])), (o_credits_cells, .inl (cI, 82, .inl s_credits_cells)), (o_lit, .inl (cI, 96, .inl s_lit)), (o_ends, .inl (cI, 8, .inl s_ends))] s.heap := hP
  have hl := lv_entry ([.ref o, .int p0, .int p1, .int p2]) (n := 4) (Nat.le_of_ble_eq_true rfl)
  rw [lg_entry_eq]
  generalize (lg_sl ([.ref o, .int p0, .int p1, .int p2]) ++ List.replicate (4 - (lg_sl ([.ref o, .int p0, .int p1, .int p2])).length) Slot.unset).toArray = ls at hl ⊢
  have hl : lv_has ls 4 [(0, .ref o), (1, .int p0), (2, .int p1), (3, .int p2)] := hl
  generalize hQQ : MQ below _ _ _ 0 0 A = QQ
  show W p l e rm_X2_isSeen s m ([.ref o, .int p0, .int p1, .int p2] : List Value).toArray below meth c s.heap [] 0 0 QQ (F0 m 0 ls [])
  obtain ⟨H, hHH⟩ : ∃ H, H = s.heap := ⟨_, rfl⟩
  rw [← hHH] at hP ⊢
  have hS : va_S A s.heap H [] := by rw [hHH]; exact hS
  clear hHH
  generalize ([] : List Loc) = locs at hS ⊢
  unfold P_X2_isSeen at hw
  refine lv_iload_n hx hb dX2_isSeen_0 rfl (lv_at hl 2 rfl) ?_
  refine lv_if_lt (tgt := 17) hx hb dX2_isSeen_1 (by decide) (fun hc => ?_) (fun hc => ?_)
  · have hw := hw.1 hc
    refine lv_iconst (v := 0) hx hb dX2_isSeen_17 (by decide) ?_
    rw [← hQQ]
    exact g_reti (v := 0) (u := ()) hx hb hr rfl hlocks hw hP hK hD hS dX2_isSeen_18
  · have hw := hw.2 hc
    refine lv_iload_n hx hb dX2_isSeen_4 rfl (lv_at hl 2 rfl) ?_
    refine lv_aload_n hx hb dX2_isSeen_5 rfl (lv_at hl 0 rfl) ?_
    refine va_get (D := (dC, dI)) (ci := 2) (v := .ref o_credits) (C := RX2) (T := TX2) (N := 9) hx hb ht i_X2 hown hK hP 0 rfl rfl 0 (by decide) (ht _ k_39) (fun _ h9 => h9) rfl dX2_isSeen_6 ?_
    refine lv_iload_n hx hb dX2_isSeen_9 rfl (lv_at hl 1 rfl) ?_
    refine lv_iconst (v := 0) hx hb dX2_isSeen_10 (by decide) ?_
    refine gc_Vi (As := [.int p0, .int 0]) (rest := [.int p1]) (wr := [(o, .inr (2, [.ref o_credits, .ref o_light, .ref o_lit, .ref o_whole, .ref o_ends, .ref o_clashes, .int s_clashPairs, .ref o_reach, .ref o_latest])), (o_lit, .inl (cI, 96, .inl s_lit)), (o_ends, .inl (cI, 8, .inl s_ends))]) ⟨hx, hb, hml, hown, ht⟩ (c_X0_ofWord l dC dI cI cJ o_credits o_credits_cells H.size s_credits_cells p0 0 _ hw) (cwV 2 ht (g_V k_214 k_202 k_203 k_2 k_204) rfl rfl rfl (by decide +kernel) ⟨(Nat.le_of_ble_eq_true rfl), (Nat.le_of_ble_eq_true rfl)⟩) hK hP hD hS hA [1, 2] [0, 3, 4] rfl rfl (by decide) 1 rfl rfl rfl rfl hl.1 rfl (Nat.le_of_ble_eq_true rfl) ⟨(Nat.le_of_ble_eq_true rfl), (Nat.le_of_ble_eq_true rfl)⟩ dX2_isSeen_11 (fun r_1 u H locs hw hP hD hS => ?_)
    try dsimp only at hw
    have hP : va_P (dC, dI) vwCl [(o, .inr (2, [.ref o_credits, .ref o_light, .ref o_lit, .ref o_whole, .ref o_ends, .ref o_clashes, .int s_clashPairs, .ref o_reach, .ref o_latest])), (o_lit, .inl (cI, 96, .inl s_lit)), (o_ends, .inl (cI, 8, .inl s_ends)), (o_credits, .inr (0, [.ref o_credits_cells])), (o_credits_cells, .inl (cI, 82, .inl s_credits_cells))] H := hP
    have hD : va_D A [(o, .inr (2, [.ref o_credits, .ref o_light, .ref o_lit, .ref o_whole, .ref o_ends, .ref o_clashes, .int s_clashPairs, .ref o_reach, .ref o_latest])), (o_lit, .inl (cI, 96, .inl s_lit)), (o_ends, .inl (cI, 8, .inl s_ends)), (o_credits, .inr (0, [.ref o_credits_cells])), (o_credits_cells, .inl (cI, 82, .inl s_credits_cells))] := hD
    refine lv_icmp_lt (tgt := 19) hx hb dX2_isSeen_14 (by decide) (fun hc => ?_) (fun hc => ?_)
    · have hw := hw.1 hc
      refine lv_aload_n hx hb dX2_isSeen_19 rfl (lv_at hl 0 rfl) ?_
      refine lv_iload_n hx hb dX2_isSeen_20 rfl (lv_at hl 1 rfl) ?_
      refine lv_aload_n hx hb dX2_isSeen_21 rfl (lv_at hl 0 rfl) ?_
      refine lv_iload_n hx hb dX2_isSeen_22 rfl (lv_at hl 1 rfl) ?_
      refine lv_iload_n hx hb dX2_isSeen_23 rfl (lv_at hl 2 rfl) ?_
      refine gc_Vi (As := [.int p0, .int p1]) (rest := [.int p0, .ref o]) (wr := [(o_ends, .inl (cI, 8, .inl s_ends)), (o_credits, .inr (0, [.ref o_credits_cells])), (o_credits_cells, .inl (cI, 82, .inl s_credits_cells))]) ⟨hx, hb, hml, hown, ht⟩ (c_X2_litBeat l dC dI cI cJ o o_credits o_light o_lit o_whole o_ends o_clashes o_reach o_latest H.size s_lit s_clashPairs p0 p1 _ hw) (cwV 2 ht (g_V k_215 k_216 k_217 k_3 k_218) rfl rfl rfl (by decide +kernel) ⟨(Nat.le_of_ble_eq_true rfl), (Nat.le_of_ble_eq_true rfl)⟩) hK hP hD hS hA [0, 1] [2, 3, 4] rfl rfl (by decide) 0 rfl rfl rfl rfl hl.1 rfl (Nat.le_of_ble_eq_true rfl) ⟨(Nat.le_of_ble_eq_true rfl), (Nat.le_of_ble_eq_true rfl)⟩ dX2_isSeen_24 (fun r_2 u H locs hw hP hD hS => ?_)
      try dsimp only at hw
      have hP : va_P (dC, dI) vwCl [(o_ends, .inl (cI, 8, .inl s_ends)), (o_credits, .inr (0, [.ref o_credits_cells])), (o_credits_cells, .inl (cI, 82, .inl s_credits_cells)), (o, .inr (2, [.ref o_credits, .ref o_light, .ref o_lit, .ref o_whole, .ref o_ends, .ref o_clashes, .int s_clashPairs, .ref o_reach, .ref o_latest])), (o_lit, .inl (cI, 96, .inl s_lit))] H := hP
      have hD : va_D A [(o_ends, .inl (cI, 8, .inl s_ends)), (o_credits, .inr (0, [.ref o_credits_cells])), (o_credits_cells, .inl (cI, 82, .inl s_credits_cells)), (o, .inr (2, [.ref o_credits, .ref o_light, .ref o_lit, .ref o_whole, .ref o_ends, .ref o_clashes, .int s_clashPairs, .ref o_reach, .ref o_latest])), (o_lit, .inl (cI, 96, .inl s_lit))] := hD
      refine lv_iload_n hx hb dX2_isSeen_27 rfl (lv_at hl 3 rfl) ?_
      refine gc_Vi (As := [.int p0, .int r_2, .int p2]) (rest := []) (wr := [(o_credits, .inr (0, [.ref o_credits_cells])), (o_credits_cells, .inl (cI, 82, .inl s_credits_cells)), (o_lit, .inl (cI, 96, .inl s_lit))]) ⟨hx, hb, hml, hown, ht⟩ (c_X2_isThere l dC dI cI cJ o o_credits o_light o_lit o_whole o_ends o_clashes o_reach o_latest H.size s_ends s_clashPairs p0 r_2 p2 _ hw) (cwV 3 ht (g_V k_246 k_248 k_s1 k_3 k_249) rfl rfl rfl (by decide +kernel) ⟨(Nat.le_of_ble_eq_true rfl), (Nat.le_of_ble_eq_true rfl)⟩) hK hP hD hS hA [3, 0] [1, 2, 4] rfl rfl (by decide) 3 rfl rfl rfl rfl hl.1 rfl (Nat.le_of_ble_eq_true rfl) ⟨(Nat.le_of_ble_eq_true rfl), (Nat.le_of_ble_eq_true rfl)⟩ dX2_isSeen_28 (fun r_3 u H locs hw hP hD hS => ?_)
      try dsimp only at hw
      have hP : va_P (dC, dI) vwCl [(o_credits, .inr (0, [.ref o_credits_cells])), (o_credits_cells, .inl (cI, 82, .inl s_credits_cells)), (o_lit, .inl (cI, 96, .inl s_lit)), (o, .inr (2, [.ref o_credits, .ref o_light, .ref o_lit, .ref o_whole, .ref o_ends, .ref o_clashes, .int s_clashPairs, .ref o_reach, .ref o_latest])), (o_ends, .inl (cI, 8, .inl s_ends))] H := hP
      have hD : va_D A [(o_credits, .inr (0, [.ref o_credits_cells])), (o_credits_cells, .inl (cI, 82, .inl s_credits_cells)), (o_lit, .inl (cI, 96, .inl s_lit)), (o, .inr (2, [.ref o_credits, .ref o_light, .ref o_lit, .ref o_whole, .ref o_ends, .ref o_clashes, .int s_clashPairs, .ref o_reach, .ref o_latest])), (o_ends, .inl (cI, 8, .inl s_ends))] := hD
      obtain ⟨hb_4, hw⟩ := hw
      rw [← hQQ]
      exact g_reti (v := r_3) (u := ()) hx hb hr hb_4 hlocks hw (hP.sub (ws' := [(o, .inr (2, [.ref o_credits, .ref o_light, .ref o_lit, .ref o_whole, .ref o_ends, .ref o_clashes, .int s_clashPairs, .ref o_reach, .ref o_latest])), (o_credits, .inr (0, [.ref o_credits_cells])), (o_credits_cells, .inl (cI, 82, .inl s_credits_cells)), (o_lit, .inl (cI, 96, .inl s_lit)), (o_ends, .inl (cI, 8, .inl s_ends))]) [3, 0, 1, 2, 4] rfl) hK (hD.sub (ws' := [(o, .inr (2, [.ref o_credits, .ref o_light, .ref o_lit, .ref o_whole, .ref o_ends, .ref o_clashes, .int s_clashPairs, .ref o_reach, .ref o_latest])), (o_credits, .inr (0, [.ref o_credits_cells])), (o_credits_cells, .inl (cI, 82, .inl s_credits_cells)), (o_lit, .inl (cI, 96, .inl s_lit)), (o_ends, .inl (cI, 8, .inl s_ends))]) [3, 0, 1, 2, 4] (by decide) rfl) hS dX2_isSeen_31
    · have hw := hw.2 hc
      refine lv_iconst (v := 0) hx hb dX2_isSeen_17 (by decide) ?_
      rw [← hQQ]
      exact g_reti (v := 0) (u := ()) hx hb hr rfl hlocks hw (hP.sub (ws' := [(o, .inr (2, [.ref o_credits, .ref o_light, .ref o_lit, .ref o_whole, .ref o_ends, .ref o_clashes, .int s_clashPairs, .ref o_reach, .ref o_latest])), (o_credits, .inr (0, [.ref o_credits_cells])), (o_credits_cells, .inl (cI, 82, .inl s_credits_cells)), (o_lit, .inl (cI, 96, .inl s_lit)), (o_ends, .inl (cI, 8, .inl s_ends))]) [0, 3, 4, 1, 2] rfl) hK (hD.sub (ws' := [(o, .inr (2, [.ref o_credits, .ref o_light, .ref o_lit, .ref o_whole, .ref o_ends, .ref o_clashes, .int s_clashPairs, .ref o_reach, .ref o_latest])), (o_credits, .inr (0, [.ref o_credits_cells])), (o_credits_cells, .inl (cI, 82, .inl s_credits_cells)), (o_lit, .inl (cI, 96, .inl s_lit)), (o_ends, .inl (cI, 8, .inl s_ends))]) [0, 3, 4, 1, 2] (by decide) rfl) hS dX2_isSeen_18
abbrev rm_X2_seenLettersOf : Room := { frames := 3, cells := 0, slots := 0, locals := 67 }
set_option maxHeartbeats 4000000 in
set_option maxRecDepth 100000 in
theorem c_X2_seenLettersOf (l : Launch) (dC : Nat → ClassId) (dI : Nat → Nat → Nat) (cI cJ : ClassId) (o o_credits o_light o_lit o_whole o_ends o_clashes o_reach o_latest o_credits_cells : Nat) (sz : Nat) (s_credits_cells : Nat → Int32) (s_lit : Nat → Int32) (s_ends : Nat → Int32) (s_clashPairs : Int32) (p0 : Int32) (p1 : Int32) (Q : Int32 → Prop) (hw : P_X2_seenLettersOf p0 p1 s_credits_cells s_lit s_ends Q) : Met l yX2_seenLettersOf (Cond.code yX2_seenLettersOf cX2_seenLettersOf 5 (some .int) :: TBL) rm_X2_seenLettersOf (gPc (dC, dI) vwCl (gTy cI cJ) [.ref o, .int p0, .int p1] [(o, .inr (2, [.ref o_credits, .ref o_light, .ref o_lit, .ref o_whole, .ref o_ends, .ref o_clashes, .int s_clashPairs, .ref o_reach, .ref o_latest])), (o_credits, .inr (0, [.ref o_credits_cells])), (o_credits_cells, .inl (cI, 82, .inl s_credits_cells)), (o_lit, .inl (cI, 96, .inl s_lit)), (o_ends, .inl (cI, 8, .inl s_ends))] sz) (va_Qi (fun (r : Int32) (u : Unit) => Q r ) (gB (dC, dI) vwCl (gTy cI cJ) (va_A [(o, .inr (2, [.ref o_credits, .ref o_light, .ref o_lit, .ref o_whole, .ref o_ends, .ref o_clashes, .int s_clashPairs, .ref o_reach, .ref o_latest])), (o_credits, .inr (0, [.ref o_credits_cells])), (o_credits_cells, .inl (cI, 82, .inl s_credits_cells)), (o_lit, .inl (cI, 96, .inl s_lit)), (o_ends, .inl (cI, 8, .inl s_ends))] sz) (fun (u : Unit) => [(o, .inr (2, [.ref o_credits, .ref o_light, .ref o_lit, .ref o_whole, .ref o_ends, .ref o_clashes, .int s_clashPairs, .ref o_reach, .ref o_latest])), (o_credits, .inr (0, [.ref o_credits_cells])), (o_credits_cells, .inl (cI, 82, .inl s_credits_cells)), (o_lit, .inl (cI, 96, .inl s_lit)), (o_ends, .inl (cI, 8, .inl s_ends))])) (va_A [(o, .inr (2, [.ref o_credits, .ref o_light, .ref o_lit, .ref o_whole, .ref o_ends, .ref o_clashes, .int s_clashPairs, .ref o_reach, .ref o_latest])), (o_credits, .inr (0, [.ref o_credits_cells])), (o_credits_cells, .inl (cI, 82, .inl s_credits_cells)), (o_lit, .inl (cI, 96, .inl s_lit)), (o_ends, .inl (cI, 8, .inl s_ends))] sz)) 0 0 (va_A [(o, .inr (2, [.ref o_credits, .ref o_light, .ref o_lit, .ref o_whole, .ref o_ends, .ref o_clashes, .int s_clashPairs, .ref o_reach, .ref o_latest])), (o_credits, .inr (0, [.ref o_credits_cells])), (o_credits_cells, .inl (cI, 82, .inl s_credits_cells)), (o_lit, .inl (cI, 96, .inl s_lit)), (o_ends, .inl (cI, 8, .inl s_ends))] sz) := by
  refine Met.ofW (cc := cX2_seenLettersOf) (maxL := 5) (ret := (some .int)) (by decide) rfl ?_
  intro p e s m args below meth c s₁ B hml hv
  obtain ⟨rfl, hsz, hP, hK, hD0⟩ := hv
  have hx := B.exec
  have hb := B.bytes
  have hr := B.returns
  have hts := atoms_spec (ws := Cond.code yX2_seenLettersOf cX2_seenLettersOf 5 (some .int) :: TBL) B.pre
  have ht : ∀ w ∈ TBL, w.before ([.ref o, .int p0, .int p1] : List Value).toArray s = true := fun w h => hts w (List.mem_cons_of_mem _ h)
  clear hts
  have hown : s.vm.findClass RX2 = some m.cls := findClass_of_methodNamed B.named
  have hlocks := B.notSynchronized
  clear B
  subst hsz
  have hD := hD0.self (sz := s.heap.size)
  clear hD0
  generalize hAe : va_A [(o, .inr (2, [.ref o_credits, .ref o_light, .ref o_lit, .ref o_whole, .ref o_ends, .ref o_clashes, .int s_clashPairs, .ref o_reach, .ref o_latest])), (o_credits, .inr (0, [.ref o_credits_cells])), (o_credits_cells, .inl (cI, 82, .inl s_credits_cells)), (o_lit, .inl (cI, 96, .inl s_lit)), (o_ends, .inl (cI, 8, .inl s_ends))] s.heap.size = A at hD ⊢
  have hA : ∀ q : Nat, s.heap.size ≤ q → A q := fun q h => by rw [← hAe]; exact Or.inr h
  clear hAe
  have hS : va_S A s.heap s.heap [] := va_S.rf
  have hP : va_P (dC, dI) vwCl [(o, .inr (2, [.ref o_credits, .ref o_light, .ref o_lit, .ref o_whole, .ref o_ends, .ref o_clashes, .int s_clashPairs, .ref o_reach, .ref o_latest])), (o_credits, .inr (0, [.ref o_credits_cells])), (o_credits_cells, .inl (cI, 82, .inl s_credits_cells)), (o_lit, .inl (cI, 96, .inl s_lit)), (o_ends, .inl (cI, 8, .inl s_ends))] s.heap := hP
  have hl := lv_entry ([.ref o, .int p0, .int p1]) (n := 5) (Nat.le_of_ble_eq_true rfl)
  rw [lg_entry_eq]
  generalize (lg_sl ([.ref o, .int p0, .int p1]) ++ List.replicate (5 - (lg_sl ([.ref o, .int p0, .int p1])).length) Slot.unset).toArray = ls at hl ⊢
  have hl : lv_has ls 5 [(0, .ref o), (1, .int p0), (2, .int p1)] := hl
  generalize hQQ : MQ below _ _ _ 0 0 A = QQ
  show W p l e rm_X2_seenLettersOf s m ([.ref o, .int p0, .int p1] : List Value).toArray below meth c s.heap [] 0 0 QQ (F0 m 0 ls [])
  have L5 : ∀ (x1 : Int32) (x2 : Int32), ∀ (n : Nat) (x3 : Int32) (x4 : Int32), P_X2_seenLettersOf_L5 x1 x2 s_credits_cells s_lit s_ends Q n x3 x4 → ∀ (H : Heap) (locs : List Loc) (ls : Array Slot), va_P (dC, dI) vwCl [(o, .inr (2, [.ref o_credits, .ref o_light, .ref o_lit, .ref o_whole, .ref o_ends, .ref o_clashes, .int s_clashPairs, .ref o_reach, .ref o_latest])), (o_credits, .inr (0, [.ref o_credits_cells])), (o_credits_cells, .inl (cI, 82, .inl s_credits_cells)), (o_lit, .inl (cI, 96, .inl s_lit)), (o_ends, .inl (cI, 8, .inl s_ends))] H → va_D A [(o, .inr (2, [.ref o_credits, .ref o_light, .ref o_lit, .ref o_whole, .ref o_ends, .ref o_clashes, .int s_clashPairs, .ref o_reach, .ref o_latest])), (o_credits, .inr (0, [.ref o_credits_cells])), (o_credits_cells, .inl (cI, 82, .inl s_credits_cells)), (o_lit, .inl (cI, 96, .inl s_lit)), (o_ends, .inl (cI, 8, .inl s_ends))] → va_S A s.heap H locs → lv_has ls 5 [(0, .ref o), (1, .int x1), (2, .int x2), (3, .int x3), (4, .int x4)] → W p l e rm_X2_seenLettersOf s m ([.ref o, .int p0, .int p1] : List Value).toArray below meth c H locs 0 0 QQ (F0 m 5 ls []) := by
    intro x1 x2
    intro n
    induction n with
    | zero => intro x3 x4 hw; rw [P_X2_seenLettersOf_L5_z] at hw; exact hw.elim
    | succ n ih =>
      intro x3 x4 hw
      rw [P_X2_seenLettersOf_L5_s] at hw
      generalize hrec : P_X2_seenLettersOf_L5 x1 x2 s_credits_cells s_lit s_ends Q n = rec5 at ih hw
      have J33 : ∀ (x3 : Int32) (x4 : Int32), P_X2_seenLettersOf_J33 rec5 x3 x4 → ∀ (H : Heap) (locs : List Loc) (ls : Array Slot), va_P (dC, dI) vwCl [(o, .inr (2, [.ref o_credits, .ref o_light, .ref o_lit, .ref o_whole, .ref o_ends, .ref o_clashes, .int s_clashPairs, .ref o_reach, .ref o_latest])), (o_credits, .inr (0, [.ref o_credits_cells])), (o_credits_cells, .inl (cI, 82, .inl s_credits_cells)), (o_lit, .inl (cI, 96, .inl s_lit)), (o_ends, .inl (cI, 8, .inl s_ends))] H → va_D A [(o, .inr (2, [.ref o_credits, .ref o_light, .ref o_lit, .ref o_whole, .ref o_ends, .ref o_clashes, .int s_clashPairs, .ref o_reach, .ref o_latest])), (o_credits, .inr (0, [.ref o_credits_cells])), (o_credits_cells, .inl (cI, 82, .inl s_credits_cells)), (o_lit, .inl (cI, 96, .inl s_lit)), (o_ends, .inl (cI, 8, .inl s_ends))] → va_S A s.heap H locs → lv_has ls 5 [(0, .ref o), (1, .int x1), (2, .int x2), (3, .int x3), (4, .int x4)] → W p l e rm_X2_seenLettersOf s m ([.ref o, .int p0, .int p1] : List Value).toArray below meth c H locs 0 0 QQ (F0 m 33 ls []) := by
        intro x3 x4 hw H locs ls hP hD hS hl
        unfold P_X2_seenLettersOf_J33 at hw
        refine lv_iinc (v := (x4 + 1)) (lv' := [(4, .int (x4 + 1)), (0, .ref o), (1, .int x1), (2, .int x2), (3, .int x3)]) hx hb dX2_seenLettersOf_33 hl (k := 4) rfl rfl (by decide) rfl (fun ls hl => ?_)
        refine lv_goto (tgt := 5) hx hb dX2_seenLettersOf_36 (by decide) ?_
        exact ih x3 (x4 + 1) hw H locs ls hP hD hS (lv_sub (l' := [(0, .ref o), (1, .int x1), (2, .int x2), (3, .int x3), (4, .int (x4 + 1))]) hl [1, 2, 3, 4, 0] rfl)
      intro H locs ls hP hD hS hl
      unfold B_X2_seenLettersOf_L5 at hw
      refine lv_iload hx hb dX2_seenLettersOf_5 (lv_at hl 4 rfl) ?_
      refine lv_aload_n hx hb dX2_seenLettersOf_7 rfl (lv_at hl 0 rfl) ?_
      refine va_get (D := (dC, dI)) (ci := 2) (v := .ref o_credits) (C := RX2) (T := TX2) (N := 9) hx hb ht i_X2 hown hK hP 0 rfl rfl 0 (by decide) (ht _ k_39) (fun _ h9 => h9) rfl dX2_seenLettersOf_8 ?_
      refine lv_iload_n hx hb dX2_seenLettersOf_11 rfl (lv_at hl 1 rfl) ?_
      refine lv_iconst (v := 0) hx hb dX2_seenLettersOf_12 (by decide) ?_
      refine gc_Vi (As := [.int x1, .int 0]) (rest := [.int x4]) (wr := [(o, .inr (2, [.ref o_credits, .ref o_light, .ref o_lit, .ref o_whole, .ref o_ends, .ref o_clashes, .int s_clashPairs, .ref o_reach, .ref o_latest])), (o_lit, .inl (cI, 96, .inl s_lit)), (o_ends, .inl (cI, 8, .inl s_ends))]) ⟨hx, hb, hml, hown, ht⟩ (c_X0_ofWord l dC dI cI cJ o_credits o_credits_cells H.size s_credits_cells x1 0 _ hw) (cwV 2 ht (g_V k_214 k_202 k_203 k_2 k_204) rfl rfl rfl (by decide +kernel) ⟨(Nat.le_of_ble_eq_true rfl), (Nat.le_of_ble_eq_true rfl)⟩) hK hP hD hS hA [1, 2] [0, 3, 4] rfl rfl (by decide) 1 rfl rfl rfl rfl hl.1 rfl (Nat.le_of_ble_eq_true rfl) ⟨(Nat.le_of_ble_eq_true rfl), (Nat.le_of_ble_eq_true rfl)⟩ dX2_seenLettersOf_13 (fun r_1 u H locs hw hP hD hS => ?_)
      try dsimp only at hw
      have hP : va_P (dC, dI) vwCl [(o, .inr (2, [.ref o_credits, .ref o_light, .ref o_lit, .ref o_whole, .ref o_ends, .ref o_clashes, .int s_clashPairs, .ref o_reach, .ref o_latest])), (o_lit, .inl (cI, 96, .inl s_lit)), (o_ends, .inl (cI, 8, .inl s_ends)), (o_credits, .inr (0, [.ref o_credits_cells])), (o_credits_cells, .inl (cI, 82, .inl s_credits_cells))] H := hP
      have hD : va_D A [(o, .inr (2, [.ref o_credits, .ref o_light, .ref o_lit, .ref o_whole, .ref o_ends, .ref o_clashes, .int s_clashPairs, .ref o_reach, .ref o_latest])), (o_lit, .inl (cI, 96, .inl s_lit)), (o_ends, .inl (cI, 8, .inl s_ends)), (o_credits, .inr (0, [.ref o_credits_cells])), (o_credits_cells, .inl (cI, 82, .inl s_credits_cells))] := hD
      refine lv_icmp_ge (tgt := 39) hx hb dX2_seenLettersOf_16 (by decide) (fun hc => ?_) (fun hc => ?_)
      · have hw := hw.1 hc
        refine lv_iload_n hx hb dX2_seenLettersOf_39 rfl (lv_at hl 3 rfl) ?_
        rw [← hQQ]
        exact g_reti (v := x3) (u := ()) hx hb hr rfl hlocks hw (hP.sub (ws' := [(o, .inr (2, [.ref o_credits, .ref o_light, .ref o_lit, .ref o_whole, .ref o_ends, .ref o_clashes, .int s_clashPairs, .ref o_reach, .ref o_latest])), (o_credits, .inr (0, [.ref o_credits_cells])), (o_credits_cells, .inl (cI, 82, .inl s_credits_cells)), (o_lit, .inl (cI, 96, .inl s_lit)), (o_ends, .inl (cI, 8, .inl s_ends))]) [0, 3, 4, 1, 2] rfl) hK (hD.sub (ws' := [(o, .inr (2, [.ref o_credits, .ref o_light, .ref o_lit, .ref o_whole, .ref o_ends, .ref o_clashes, .int s_clashPairs, .ref o_reach, .ref o_latest])), (o_credits, .inr (0, [.ref o_credits_cells])), (o_credits_cells, .inl (cI, 82, .inl s_credits_cells)), (o_lit, .inl (cI, 96, .inl s_lit)), (o_ends, .inl (cI, 8, .inl s_ends))]) [0, 3, 4, 1, 2] (by decide) rfl) hS dX2_seenLettersOf_40
      · have hw := hw.2 hc
        refine lv_aload_n hx hb dX2_seenLettersOf_19 rfl (lv_at hl 0 rfl) ?_
        refine lv_iload_n hx hb dX2_seenLettersOf_20 rfl (lv_at hl 1 rfl) ?_
        refine lv_iload hx hb dX2_seenLettersOf_21 (lv_at hl 4 rfl) ?_
        refine lv_iload_n hx hb dX2_seenLettersOf_23 rfl (lv_at hl 2 rfl) ?_
        refine gc_Vi (As := [.int x1, .int x4, .int x2]) (rest := []) (wr := []) ⟨hx, hb, hml, hown, ht⟩ (c_X2_isSeen l dC dI cI cJ o o_credits o_light o_lit o_whole o_ends o_clashes o_reach o_latest o_credits_cells H.size s_credits_cells s_lit s_ends s_clashPairs x1 x4 x2 _ hw) (cwV 3 ht (g_V k_472 k_473 k_474 k_3 k_475) rfl rfl rfl (by decide +kernel) ⟨(Nat.le_of_ble_eq_true rfl), (Nat.le_of_ble_eq_true rfl)⟩) hK hP hD hS hA [0, 3, 4, 1, 2] [] rfl rfl (by decide) 0 rfl rfl rfl rfl hl.1 rfl (Nat.le_of_ble_eq_true rfl) ⟨(Nat.le_of_ble_eq_true rfl), (Nat.le_of_ble_eq_true rfl)⟩ dX2_seenLettersOf_24 (fun r_2 u H locs hw hP hD hS => ?_)
        try dsimp only at hw
        have hP : va_P (dC, dI) vwCl [(o, .inr (2, [.ref o_credits, .ref o_light, .ref o_lit, .ref o_whole, .ref o_ends, .ref o_clashes, .int s_clashPairs, .ref o_reach, .ref o_latest])), (o_credits, .inr (0, [.ref o_credits_cells])), (o_credits_cells, .inl (cI, 82, .inl s_credits_cells)), (o_lit, .inl (cI, 96, .inl s_lit)), (o_ends, .inl (cI, 8, .inl s_ends))] H := hP
        have hD : va_D A [(o, .inr (2, [.ref o_credits, .ref o_light, .ref o_lit, .ref o_whole, .ref o_ends, .ref o_clashes, .int s_clashPairs, .ref o_reach, .ref o_latest])), (o_credits, .inr (0, [.ref o_credits_cells])), (o_credits_cells, .inl (cI, 82, .inl s_credits_cells)), (o_lit, .inl (cI, 96, .inl s_lit)), (o_ends, .inl (cI, 8, .inl s_ends))] := hD
        refine lv_if_eq (tgt := 33) hx hb dX2_seenLettersOf_27 (by decide) (fun hc => ?_) (fun hc => ?_)
        · have hw := hw.1 hc
          exact J33 x3 x4 hw H locs ls hP hD hS hl
        · have hw := hw.2 hc
          refine lv_iinc (v := (x3 + 1)) (lv' := [(3, .int (x3 + 1)), (0, .ref o), (1, .int x1), (2, .int x2), (4, .int x4)]) hx hb dX2_seenLettersOf_30 hl (k := 3) rfl rfl (by decide) rfl (fun ls hl => ?_)
          exact J33 (x3 + 1) x4 hw H locs ls hP hD hS (lv_sub (l' := [(0, .ref o), (1, .int x1), (2, .int x2), (3, .int (x3 + 1)), (4, .int x4)]) hl [1, 2, 3, 0, 4] rfl)
  obtain ⟨H, hHH⟩ : ∃ H, H = s.heap := ⟨_, rfl⟩
  rw [← hHH] at hP ⊢
  have hS : va_S A s.heap H [] := by rw [hHH]; exact hS
  clear hHH
  generalize ([] : List Loc) = locs at hS ⊢
  unfold P_X2_seenLettersOf at hw
  refine lv_iconst (v := 0) hx hb dX2_seenLettersOf_0 (by decide) ?_
  refine lv_istore_n (lv' := [(3, .int 0), (0, .ref o), (1, .int p0), (2, .int p1)]) hx hb dX2_seenLettersOf_1 rfl hl (by decide) rfl (fun ls hl => ?_)
  refine lv_iconst (v := 0) hx hb dX2_seenLettersOf_2 (by decide) ?_
  refine lv_istore (lv' := [(4, .int 0), (3, .int 0), (0, .ref o), (1, .int p0), (2, .int p1)]) hx hb dX2_seenLettersOf_3 hl (by decide) rfl (fun ls hl => ?_)
  obtain ⟨n, hw⟩ := hw
  exact L5 p0 p1 n 0 0 hw H locs ls hP hD hS (lv_sub (l' := [(0, .ref o), (1, .int p0), (2, .int p1), (3, .int 0), (4, .int 0)]) hl [2, 3, 4, 1, 0] rfl)
abbrev rm_X2_seenLetters : Room := { frames := 4, cells := 0, slots := 0, locals := 91 }
set_option maxHeartbeats 4000000 in
set_option maxRecDepth 100000 in
theorem c_X2_seenLetters (l : Launch) (dC : Nat → ClassId) (dI : Nat → Nat → Nat) (cI cJ : ClassId) (o o_credits o_light o_lit o_whole o_ends o_clashes o_reach o_latest o_credits_cells : Nat) (sz : Nat) (s_credits_cells : Nat → Int32) (s_lit : Nat → Int32) (s_ends : Nat → Int32) (s_clashPairs : Int32) (p0 : Int32) (Q : Int32 → Prop) (hw : P_X2_seenLetters p0 s_credits_cells s_lit s_ends Q) : Met l yX2_seenLetters (Cond.code yX2_seenLetters cX2_seenLetters 4 (some .int) :: TBL) rm_X2_seenLetters (gPc (dC, dI) vwCl (gTy cI cJ) [.ref o, .int p0] [(o, .inr (2, [.ref o_credits, .ref o_light, .ref o_lit, .ref o_whole, .ref o_ends, .ref o_clashes, .int s_clashPairs, .ref o_reach, .ref o_latest])), (o_credits, .inr (0, [.ref o_credits_cells])), (o_credits_cells, .inl (cI, 82, .inl s_credits_cells)), (o_lit, .inl (cI, 96, .inl s_lit)), (o_ends, .inl (cI, 8, .inl s_ends))] sz) (va_Qi (fun (r : Int32) (u : Unit) => Q r ) (gB (dC, dI) vwCl (gTy cI cJ) (va_A [(o, .inr (2, [.ref o_credits, .ref o_light, .ref o_lit, .ref o_whole, .ref o_ends, .ref o_clashes, .int s_clashPairs, .ref o_reach, .ref o_latest])), (o_credits, .inr (0, [.ref o_credits_cells])), (o_credits_cells, .inl (cI, 82, .inl s_credits_cells)), (o_lit, .inl (cI, 96, .inl s_lit)), (o_ends, .inl (cI, 8, .inl s_ends))] sz) (fun (u : Unit) => [(o, .inr (2, [.ref o_credits, .ref o_light, .ref o_lit, .ref o_whole, .ref o_ends, .ref o_clashes, .int s_clashPairs, .ref o_reach, .ref o_latest])), (o_credits, .inr (0, [.ref o_credits_cells])), (o_credits_cells, .inl (cI, 82, .inl s_credits_cells)), (o_lit, .inl (cI, 96, .inl s_lit)), (o_ends, .inl (cI, 8, .inl s_ends))])) (va_A [(o, .inr (2, [.ref o_credits, .ref o_light, .ref o_lit, .ref o_whole, .ref o_ends, .ref o_clashes, .int s_clashPairs, .ref o_reach, .ref o_latest])), (o_credits, .inr (0, [.ref o_credits_cells])), (o_credits_cells, .inl (cI, 82, .inl s_credits_cells)), (o_lit, .inl (cI, 96, .inl s_lit)), (o_ends, .inl (cI, 8, .inl s_ends))] sz)) 0 0 (va_A [(o, .inr (2, [.ref o_credits, .ref o_light, .ref o_lit, .ref o_whole, .ref o_ends, .ref o_clashes, .int s_clashPairs, .ref o_reach, .ref o_latest])), (o_credits, .inr (0, [.ref o_credits_cells])), (o_credits_cells, .inl (cI, 82, .inl s_credits_cells)), (o_lit, .inl (cI, 96, .inl s_lit)), (o_ends, .inl (cI, 8, .inl s_ends))] sz) := by
  refine Met.ofW (cc := cX2_seenLetters) (maxL := 4) (ret := (some .int)) (by decide) rfl ?_
  intro p e s m args below meth c s₁ B hml hv
  obtain ⟨rfl, hsz, hP, hK, hD0⟩ := hv
  have hx := B.exec
  have hb := B.bytes
  have hr := B.returns
  have hts := atoms_spec (ws := Cond.code yX2_seenLetters cX2_seenLetters 4 (some .int) :: TBL) B.pre
  have ht : ∀ w ∈ TBL, w.before ([.ref o, .int p0] : List Value).toArray s = true := fun w h => hts w (List.mem_cons_of_mem _ h)
  clear hts
  have hown : s.vm.findClass RX2 = some m.cls := findClass_of_methodNamed B.named
  have hlocks := B.notSynchronized
  clear B
  subst hsz
  have hD := hD0.self (sz := s.heap.size)
  clear hD0
  generalize hAe : va_A [(o, .inr (2, [.ref o_credits, .ref o_light, .ref o_lit, .ref o_whole, .ref o_ends, .ref o_clashes, .int s_clashPairs, .ref o_reach, .ref o_latest])), (o_credits, .inr (0, [.ref o_credits_cells])), (o_credits_cells, .inl (cI, 82, .inl s_credits_cells)), (o_lit, .inl (cI, 96, .inl s_lit)), (o_ends, .inl (cI, 8, .inl s_ends))] s.heap.size = A at hD ⊢
  have hA : ∀ q : Nat, s.heap.size ≤ q → A q := fun q h => by rw [← hAe]; exact Or.inr h
  clear hAe
  have hS : va_S A s.heap s.heap [] := va_S.rf
  have hP : va_P (dC, dI) vwCl [(o, .inr (2, [.ref o_credits, .ref o_light, .ref o_lit, .ref o_whole, .ref o_ends, .ref o_clashes, .int s_clashPairs, .ref o_reach, .ref o_latest])), (o_credits, .inr (0, [.ref o_credits_cells])), (o_credits_cells, .inl (cI, 82, .inl s_credits_cells)), (o_lit, .inl (cI, 96, .inl s_lit)), (o_ends, .inl (cI, 8, .inl s_ends))] s.heap := hP
  have hl := lv_entry ([.ref o, .int p0]) (n := 4) (Nat.le_of_ble_eq_true rfl)
  rw [lg_entry_eq]
  generalize (lg_sl ([.ref o, .int p0]) ++ List.replicate (4 - (lg_sl ([.ref o, .int p0])).length) Slot.unset).toArray = ls at hl ⊢
  have hl : lv_has ls 4 [(0, .ref o), (1, .int p0)] := hl
  generalize hQQ : MQ below _ _ _ 0 0 A = QQ
  show W p l e rm_X2_seenLetters s m ([.ref o, .int p0] : List Value).toArray below meth c s.heap [] 0 0 QQ (F0 m 0 ls [])
  have L4 : ∀ (x1 : Int32), ∀ (n : Nat) (x2 : Int32) (x3 : Int32), P_X2_seenLetters_L4 x1 s_credits_cells s_lit s_ends Q n x2 x3 → ∀ (H : Heap) (locs : List Loc) (ls : Array Slot), va_P (dC, dI) vwCl [(o, .inr (2, [.ref o_credits, .ref o_light, .ref o_lit, .ref o_whole, .ref o_ends, .ref o_clashes, .int s_clashPairs, .ref o_reach, .ref o_latest])), (o_credits, .inr (0, [.ref o_credits_cells])), (o_credits_cells, .inl (cI, 82, .inl s_credits_cells)), (o_lit, .inl (cI, 96, .inl s_lit)), (o_ends, .inl (cI, 8, .inl s_ends))] H → va_D A [(o, .inr (2, [.ref o_credits, .ref o_light, .ref o_lit, .ref o_whole, .ref o_ends, .ref o_clashes, .int s_clashPairs, .ref o_reach, .ref o_latest])), (o_credits, .inr (0, [.ref o_credits_cells])), (o_credits_cells, .inl (cI, 82, .inl s_credits_cells)), (o_lit, .inl (cI, 96, .inl s_lit)), (o_ends, .inl (cI, 8, .inl s_ends))] → va_S A s.heap H locs → lv_has ls 4 [(0, .ref o), (1, .int x1), (2, .int x2), (3, .int x3)] → W p l e rm_X2_seenLetters s m ([.ref o, .int p0] : List Value).toArray below meth c H locs 0 0 QQ (F0 m 4 ls []) := by
    intro x1
    intro n
    induction n with
    | zero => intro x2 x3 hw; rw [P_X2_seenLetters_L4_z] at hw; exact hw.elim
    | succ n ih =>
      intro x2 x3 hw
      rw [P_X2_seenLetters_L4_s] at hw
      generalize hrec : P_X2_seenLetters_L4 x1 s_credits_cells s_lit s_ends Q n = rec4 at ih hw
      intro H locs ls hP hD hS hl
      unfold B_X2_seenLetters_L4 at hw
      refine lv_iload_n hx hb dX2_seenLetters_4 rfl (lv_at hl 3 rfl) ?_
      refine lv_aload_n hx hb dX2_seenLetters_5 rfl (lv_at hl 0 rfl) ?_
      refine va_get (D := (dC, dI)) (ci := 2) (v := .ref o_credits) (C := RX2) (T := TX2) (N := 9) hx hb ht i_X2 hown hK hP 0 rfl rfl 0 (by decide) (ht _ k_39) (fun _ h9 => h9) rfl dX2_seenLetters_6 ?_
      refine gc_Vi (As := []) (rest := [.int x3]) (wr := [(o, .inr (2, [.ref o_credits, .ref o_light, .ref o_lit, .ref o_whole, .ref o_ends, .ref o_clashes, .int s_clashPairs, .ref o_reach, .ref o_latest])), (o_lit, .inl (cI, 96, .inl s_lit)), (o_ends, .inl (cI, 8, .inl s_ends))]) ⟨hx, hb, hml, hown, ht⟩ (c_X0_words l dC dI cI cJ o_credits o_credits_cells H.size s_credits_cells _ hw) (cwV 0 ht (g_V k_209 k_189 k_190 k_2 k_191) rfl rfl rfl (by decide +kernel) ⟨(Nat.le_of_ble_eq_true rfl), (Nat.le_of_ble_eq_true rfl)⟩) hK hP hD hS hA [1, 2] [0, 3, 4] rfl rfl (by decide) 1 rfl rfl rfl rfl hl.1 rfl (Nat.le_of_ble_eq_true rfl) ⟨(Nat.le_of_ble_eq_true rfl), (Nat.le_of_ble_eq_true rfl)⟩ dX2_seenLetters_9 (fun r_1 u H locs hw hP hD hS => ?_)
      try dsimp only at hw
      have hP : va_P (dC, dI) vwCl [(o, .inr (2, [.ref o_credits, .ref o_light, .ref o_lit, .ref o_whole, .ref o_ends, .ref o_clashes, .int s_clashPairs, .ref o_reach, .ref o_latest])), (o_lit, .inl (cI, 96, .inl s_lit)), (o_ends, .inl (cI, 8, .inl s_ends)), (o_credits, .inr (0, [.ref o_credits_cells])), (o_credits_cells, .inl (cI, 82, .inl s_credits_cells))] H := hP
      have hD : va_D A [(o, .inr (2, [.ref o_credits, .ref o_light, .ref o_lit, .ref o_whole, .ref o_ends, .ref o_clashes, .int s_clashPairs, .ref o_reach, .ref o_latest])), (o_lit, .inl (cI, 96, .inl s_lit)), (o_ends, .inl (cI, 8, .inl s_ends)), (o_credits, .inr (0, [.ref o_credits_cells])), (o_credits_cells, .inl (cI, 82, .inl s_credits_cells))] := hD
      refine lv_icmp_ge (tgt := 30) hx hb dX2_seenLetters_12 (by decide) (fun hc => ?_) (fun hc => ?_)
      · have hw := hw.1 hc
        refine lv_iload_n hx hb dX2_seenLetters_30 rfl (lv_at hl 2 rfl) ?_
        rw [← hQQ]
        exact g_reti (v := x2) (u := ()) hx hb hr rfl hlocks hw (hP.sub (ws' := [(o, .inr (2, [.ref o_credits, .ref o_light, .ref o_lit, .ref o_whole, .ref o_ends, .ref o_clashes, .int s_clashPairs, .ref o_reach, .ref o_latest])), (o_credits, .inr (0, [.ref o_credits_cells])), (o_credits_cells, .inl (cI, 82, .inl s_credits_cells)), (o_lit, .inl (cI, 96, .inl s_lit)), (o_ends, .inl (cI, 8, .inl s_ends))]) [0, 3, 4, 1, 2] rfl) hK (hD.sub (ws' := [(o, .inr (2, [.ref o_credits, .ref o_light, .ref o_lit, .ref o_whole, .ref o_ends, .ref o_clashes, .int s_clashPairs, .ref o_reach, .ref o_latest])), (o_credits, .inr (0, [.ref o_credits_cells])), (o_credits_cells, .inl (cI, 82, .inl s_credits_cells)), (o_lit, .inl (cI, 96, .inl s_lit)), (o_ends, .inl (cI, 8, .inl s_ends))]) [0, 3, 4, 1, 2] (by decide) rfl) hS dX2_seenLetters_31
      · have hw := hw.2 hc
        refine lv_iload_n hx hb dX2_seenLetters_15 rfl (lv_at hl 2 rfl) ?_
        refine lv_aload_n hx hb dX2_seenLetters_16 rfl (lv_at hl 0 rfl) ?_
        refine lv_iload_n hx hb dX2_seenLetters_17 rfl (lv_at hl 3 rfl) ?_
        refine lv_iload_n hx hb dX2_seenLetters_18 rfl (lv_at hl 1 rfl) ?_
        refine gc_Vi (As := [.int x3, .int x1]) (rest := [.int x2]) (wr := []) ⟨hx, hb, hml, hown, ht⟩ (c_X2_seenLettersOf l dC dI cI cJ o o_credits o_light o_lit o_whole o_ends o_clashes o_reach o_latest o_credits_cells H.size s_credits_cells s_lit s_ends s_clashPairs x3 x1 _ hw) (cwV 2 ht (g_V k_468 k_470 k_s15 k_3 k_471) rfl rfl rfl (by decide +kernel) ⟨(Nat.le_of_ble_eq_true rfl), (Nat.le_of_ble_eq_true rfl)⟩) hK hP hD hS hA [0, 3, 4, 1, 2] [] rfl rfl (by decide) 0 rfl rfl rfl rfl hl.1 rfl (Nat.le_of_ble_eq_true rfl) ⟨(Nat.le_of_ble_eq_true rfl), (Nat.le_of_ble_eq_true rfl)⟩ dX2_seenLetters_19 (fun r_2 u H locs hw hP hD hS => ?_)
        try dsimp only at hw
        have hP : va_P (dC, dI) vwCl [(o, .inr (2, [.ref o_credits, .ref o_light, .ref o_lit, .ref o_whole, .ref o_ends, .ref o_clashes, .int s_clashPairs, .ref o_reach, .ref o_latest])), (o_credits, .inr (0, [.ref o_credits_cells])), (o_credits_cells, .inl (cI, 82, .inl s_credits_cells)), (o_lit, .inl (cI, 96, .inl s_lit)), (o_ends, .inl (cI, 8, .inl s_ends))] H := hP
        have hD : va_D A [(o, .inr (2, [.ref o_credits, .ref o_light, .ref o_lit, .ref o_whole, .ref o_ends, .ref o_clashes, .int s_clashPairs, .ref o_reach, .ref o_latest])), (o_credits, .inr (0, [.ref o_credits_cells])), (o_credits_cells, .inl (cI, 82, .inl s_credits_cells)), (o_lit, .inl (cI, 96, .inl s_lit)), (o_ends, .inl (cI, 8, .inl s_ends))] := hD
        refine lv_iadd hx hb dX2_seenLetters_22 ?_
        refine lv_istore_n (lv' := [(2, .int (x2 + r_2)), (0, .ref o), (1, .int x1), (3, .int x3)]) hx hb dX2_seenLetters_23 rfl hl (by decide) rfl (fun ls hl => ?_)
        refine lv_iinc (v := (x3 + 1)) (lv' := [(3, .int (x3 + 1)), (2, .int (x2 + r_2)), (0, .ref o), (1, .int x1)]) hx hb dX2_seenLetters_24 hl (k := 3) rfl rfl (by decide) rfl (fun ls hl => ?_)
        refine lv_goto (tgt := 4) hx hb dX2_seenLetters_27 (by decide) ?_
        exact ih (x2 + r_2) (x3 + 1) hw H locs ls hP hD hS (lv_sub (l' := [(0, .ref o), (1, .int x1), (2, .int (x2 + r_2)), (3, .int (x3 + 1))]) hl [2, 3, 1, 0] rfl)
  obtain ⟨H, hHH⟩ : ∃ H, H = s.heap := ⟨_, rfl⟩
  rw [← hHH] at hP ⊢
  have hS : va_S A s.heap H [] := by rw [hHH]; exact hS
  clear hHH
  generalize ([] : List Loc) = locs at hS ⊢
  unfold P_X2_seenLetters at hw
  refine lv_iconst (v := 0) hx hb dX2_seenLetters_0 (by decide) ?_
  refine lv_istore_n (lv' := [(2, .int 0), (0, .ref o), (1, .int p0)]) hx hb dX2_seenLetters_1 rfl hl (by decide) rfl (fun ls hl => ?_)
  refine lv_iconst (v := 0) hx hb dX2_seenLetters_2 (by decide) ?_
  refine lv_istore_n (lv' := [(3, .int 0), (2, .int 0), (0, .ref o), (1, .int p0)]) hx hb dX2_seenLetters_3 rfl hl (by decide) rfl (fun ls hl => ?_)
  obtain ⟨n, hw⟩ := hw
  exact L4 p0 n 0 0 hw H locs ls hP hD hS (lv_sub (l' := [(0, .ref o), (1, .int p0), (2, .int 0), (3, .int 0)]) hl [2, 3, 1, 0] rfl)
abbrev rm_X2_seenWords : Room := { frames := 2, cells := 0, slots := 0, locals := 47 }
set_option maxHeartbeats 4000000 in
set_option maxRecDepth 100000 in
theorem c_X2_seenWords (l : Launch) (dC : Nat → ClassId) (dI : Nat → Nat → Nat) (cI cJ : ClassId) (o o_credits o_light o_lit o_whole o_ends o_clashes o_reach o_latest o_credits_cells : Nat) (sz : Nat) (s_credits_cells : Nat → Int32) (s_lit : Nat → Int32) (s_ends : Nat → Int32) (s_clashPairs : Int32) (p0 : Int32) (Q : Int32 → Prop) (hw : P_X2_seenWords p0 s_credits_cells s_lit s_ends Q) : Met l yX2_seenWords (Cond.code yX2_seenWords cX2_seenWords 4 (some .int) :: TBL) rm_X2_seenWords (gPc (dC, dI) vwCl (gTy cI cJ) [.ref o, .int p0] [(o, .inr (2, [.ref o_credits, .ref o_light, .ref o_lit, .ref o_whole, .ref o_ends, .ref o_clashes, .int s_clashPairs, .ref o_reach, .ref o_latest])), (o_credits, .inr (0, [.ref o_credits_cells])), (o_credits_cells, .inl (cI, 82, .inl s_credits_cells)), (o_lit, .inl (cI, 96, .inl s_lit)), (o_ends, .inl (cI, 8, .inl s_ends))] sz) (va_Qi (fun (r : Int32) (u : Unit) => Q r ) (gB (dC, dI) vwCl (gTy cI cJ) (va_A [(o, .inr (2, [.ref o_credits, .ref o_light, .ref o_lit, .ref o_whole, .ref o_ends, .ref o_clashes, .int s_clashPairs, .ref o_reach, .ref o_latest])), (o_credits, .inr (0, [.ref o_credits_cells])), (o_credits_cells, .inl (cI, 82, .inl s_credits_cells)), (o_lit, .inl (cI, 96, .inl s_lit)), (o_ends, .inl (cI, 8, .inl s_ends))] sz) (fun (u : Unit) => [(o, .inr (2, [.ref o_credits, .ref o_light, .ref o_lit, .ref o_whole, .ref o_ends, .ref o_clashes, .int s_clashPairs, .ref o_reach, .ref o_latest])), (o_credits, .inr (0, [.ref o_credits_cells])), (o_credits_cells, .inl (cI, 82, .inl s_credits_cells)), (o_lit, .inl (cI, 96, .inl s_lit)), (o_ends, .inl (cI, 8, .inl s_ends))])) (va_A [(o, .inr (2, [.ref o_credits, .ref o_light, .ref o_lit, .ref o_whole, .ref o_ends, .ref o_clashes, .int s_clashPairs, .ref o_reach, .ref o_latest])), (o_credits, .inr (0, [.ref o_credits_cells])), (o_credits_cells, .inl (cI, 82, .inl s_credits_cells)), (o_lit, .inl (cI, 96, .inl s_lit)), (o_ends, .inl (cI, 8, .inl s_ends))] sz)) 0 0 (va_A [(o, .inr (2, [.ref o_credits, .ref o_light, .ref o_lit, .ref o_whole, .ref o_ends, .ref o_clashes, .int s_clashPairs, .ref o_reach, .ref o_latest])), (o_credits, .inr (0, [.ref o_credits_cells])), (o_credits_cells, .inl (cI, 82, .inl s_credits_cells)), (o_lit, .inl (cI, 96, .inl s_lit)), (o_ends, .inl (cI, 8, .inl s_ends))] sz) := by
  refine Met.ofW (cc := cX2_seenWords) (maxL := 4) (ret := (some .int)) (by decide) rfl ?_
  intro p e s m args below meth c s₁ B hml hv
  obtain ⟨rfl, hsz, hP, hK, hD0⟩ := hv
  have hx := B.exec
  have hb := B.bytes
  have hr := B.returns
  have hts := atoms_spec (ws := Cond.code yX2_seenWords cX2_seenWords 4 (some .int) :: TBL) B.pre
  have ht : ∀ w ∈ TBL, w.before ([.ref o, .int p0] : List Value).toArray s = true := fun w h => hts w (List.mem_cons_of_mem _ h)
  clear hts
  have hown : s.vm.findClass RX2 = some m.cls := findClass_of_methodNamed B.named
  have hlocks := B.notSynchronized
  clear B
  subst hsz
  have hD := hD0.self (sz := s.heap.size)
  clear hD0
  generalize hAe : va_A [(o, .inr (2, [.ref o_credits, .ref o_light, .ref o_lit, .ref o_whole, .ref o_ends, .ref o_clashes, .int s_clashPairs, .ref o_reach, .ref o_latest])), (o_credits, .inr (0, [.ref o_credits_cells])), (o_credits_cells, .inl (cI, 82, .inl s_credits_cells)), (o_lit, .inl (cI, 96, .inl s_lit)), (o_ends, .inl (cI, 8, .inl s_ends))] s.heap.size = A at hD ⊢
  have hA : ∀ q : Nat, s.heap.size ≤ q → A q := fun q h => by rw [← hAe]; exact Or.inr h
  clear hAe
  have hS : va_S A s.heap s.heap [] := va_S.rf
  have hP : va_P (dC, dI) vwCl [(o, .inr (2, [.ref o_credits, .ref o_light, .ref o_lit, .ref o_whole, .ref o_ends, .ref o_clashes, .int s_clashPairs, .ref o_reach, .ref o_latest])), (o_credits, .inr (0, [.ref o_credits_cells])), (o_credits_cells, .inl (cI, 82, .inl s_credits_cells)), (o_lit, .inl (cI, 96, .inl s_lit)), (o_ends, .inl (cI, 8, .inl s_ends))] s.heap := hP
  have hl := lv_entry ([.ref o, .int p0]) (n := 4) (Nat.le_of_ble_eq_true rfl)
  rw [lg_entry_eq]
  generalize (lg_sl ([.ref o, .int p0]) ++ List.replicate (4 - (lg_sl ([.ref o, .int p0])).length) Slot.unset).toArray = ls at hl ⊢
  have hl : lv_has ls 4 [(0, .ref o), (1, .int p0)] := hl
  generalize hQQ : MQ below _ _ _ 0 0 A = QQ
  show W p l e rm_X2_seenWords s m ([.ref o, .int p0] : List Value).toArray below meth c s.heap [] 0 0 QQ (F0 m 0 ls [])
  have L4 : ∀ (x1 : Int32), ∀ (n : Nat) (x2 : Int32) (x3 : Int32), P_X2_seenWords_L4 x1 s_credits_cells s_lit s_ends Q n x2 x3 → ∀ (H : Heap) (locs : List Loc) (ls : Array Slot), va_P (dC, dI) vwCl [(o, .inr (2, [.ref o_credits, .ref o_light, .ref o_lit, .ref o_whole, .ref o_ends, .ref o_clashes, .int s_clashPairs, .ref o_reach, .ref o_latest])), (o_credits, .inr (0, [.ref o_credits_cells])), (o_credits_cells, .inl (cI, 82, .inl s_credits_cells)), (o_lit, .inl (cI, 96, .inl s_lit)), (o_ends, .inl (cI, 8, .inl s_ends))] H → va_D A [(o, .inr (2, [.ref o_credits, .ref o_light, .ref o_lit, .ref o_whole, .ref o_ends, .ref o_clashes, .int s_clashPairs, .ref o_reach, .ref o_latest])), (o_credits, .inr (0, [.ref o_credits_cells])), (o_credits_cells, .inl (cI, 82, .inl s_credits_cells)), (o_lit, .inl (cI, 96, .inl s_lit)), (o_ends, .inl (cI, 8, .inl s_ends))] → va_S A s.heap H locs → lv_has ls 4 [(0, .ref o), (1, .int x1), (2, .int x2), (3, .int x3)] → W p l e rm_X2_seenWords s m ([.ref o, .int p0] : List Value).toArray below meth c H locs 0 0 QQ (F0 m 4 ls []) := by
    intro x1
    intro n
    induction n with
    | zero => intro x2 x3 hw; rw [P_X2_seenWords_L4_z] at hw; exact hw.elim
    | succ n ih =>
      intro x2 x3 hw
      rw [P_X2_seenWords_L4_s] at hw
      generalize hrec : P_X2_seenWords_L4 x1 s_credits_cells s_lit s_ends Q n = rec4 at ih hw
      have J32 : ∀ (x2 : Int32) (x3 : Int32), P_X2_seenWords_J32 rec4 x2 x3 → ∀ (H : Heap) (locs : List Loc) (ls : Array Slot), va_P (dC, dI) vwCl [(o, .inr (2, [.ref o_credits, .ref o_light, .ref o_lit, .ref o_whole, .ref o_ends, .ref o_clashes, .int s_clashPairs, .ref o_reach, .ref o_latest])), (o_credits, .inr (0, [.ref o_credits_cells])), (o_credits_cells, .inl (cI, 82, .inl s_credits_cells)), (o_lit, .inl (cI, 96, .inl s_lit)), (o_ends, .inl (cI, 8, .inl s_ends))] H → va_D A [(o, .inr (2, [.ref o_credits, .ref o_light, .ref o_lit, .ref o_whole, .ref o_ends, .ref o_clashes, .int s_clashPairs, .ref o_reach, .ref o_latest])), (o_credits, .inr (0, [.ref o_credits_cells])), (o_credits_cells, .inl (cI, 82, .inl s_credits_cells)), (o_lit, .inl (cI, 96, .inl s_lit)), (o_ends, .inl (cI, 8, .inl s_ends))] → va_S A s.heap H locs → lv_has ls 4 [(0, .ref o), (1, .int x1), (2, .int x2), (3, .int x3)] → W p l e rm_X2_seenWords s m ([.ref o, .int p0] : List Value).toArray below meth c H locs 0 0 QQ (F0 m 32 ls []) := by
        intro x2 x3 hw H locs ls hP hD hS hl
        unfold P_X2_seenWords_J32 at hw
        refine lv_iinc (v := (x3 + 1)) (lv' := [(3, .int (x3 + 1)), (0, .ref o), (1, .int x1), (2, .int x2)]) hx hb dX2_seenWords_32 hl (k := 3) rfl rfl (by decide) rfl (fun ls hl => ?_)
        refine lv_goto (tgt := 4) hx hb dX2_seenWords_35 (by decide) ?_
        exact ih x2 (x3 + 1) hw H locs ls hP hD hS (lv_sub (l' := [(0, .ref o), (1, .int x1), (2, .int x2), (3, .int (x3 + 1))]) hl [1, 2, 3, 0] rfl)
      intro H locs ls hP hD hS hl
      unfold B_X2_seenWords_L4 at hw
      refine lv_iload_n hx hb dX2_seenWords_4 rfl (lv_at hl 3 rfl) ?_
      refine lv_aload_n hx hb dX2_seenWords_5 rfl (lv_at hl 0 rfl) ?_
      refine va_get (D := (dC, dI)) (ci := 2) (v := .ref o_credits) (C := RX2) (T := TX2) (N := 9) hx hb ht i_X2 hown hK hP 0 rfl rfl 0 (by decide) (ht _ k_39) (fun _ h9 => h9) rfl dX2_seenWords_6 ?_
      refine gc_Vi (As := []) (rest := [.int x3]) (wr := [(o, .inr (2, [.ref o_credits, .ref o_light, .ref o_lit, .ref o_whole, .ref o_ends, .ref o_clashes, .int s_clashPairs, .ref o_reach, .ref o_latest])), (o_lit, .inl (cI, 96, .inl s_lit)), (o_ends, .inl (cI, 8, .inl s_ends))]) ⟨hx, hb, hml, hown, ht⟩ (c_X0_words l dC dI cI cJ o_credits o_credits_cells H.size s_credits_cells _ hw) (cwV 0 ht (g_V k_209 k_189 k_190 k_2 k_191) rfl rfl rfl (by decide +kernel) ⟨(Nat.le_of_ble_eq_true rfl), (Nat.le_of_ble_eq_true rfl)⟩) hK hP hD hS hA [1, 2] [0, 3, 4] rfl rfl (by decide) 1 rfl rfl rfl rfl hl.1 rfl (Nat.le_of_ble_eq_true rfl) ⟨(Nat.le_of_ble_eq_true rfl), (Nat.le_of_ble_eq_true rfl)⟩ dX2_seenWords_9 (fun r_1 u H locs hw hP hD hS => ?_)
      try dsimp only at hw
      have hP : va_P (dC, dI) vwCl [(o, .inr (2, [.ref o_credits, .ref o_light, .ref o_lit, .ref o_whole, .ref o_ends, .ref o_clashes, .int s_clashPairs, .ref o_reach, .ref o_latest])), (o_lit, .inl (cI, 96, .inl s_lit)), (o_ends, .inl (cI, 8, .inl s_ends)), (o_credits, .inr (0, [.ref o_credits_cells])), (o_credits_cells, .inl (cI, 82, .inl s_credits_cells))] H := hP
      have hD : va_D A [(o, .inr (2, [.ref o_credits, .ref o_light, .ref o_lit, .ref o_whole, .ref o_ends, .ref o_clashes, .int s_clashPairs, .ref o_reach, .ref o_latest])), (o_lit, .inl (cI, 96, .inl s_lit)), (o_ends, .inl (cI, 8, .inl s_ends)), (o_credits, .inr (0, [.ref o_credits_cells])), (o_credits_cells, .inl (cI, 82, .inl s_credits_cells))] := hD
      refine lv_icmp_ge (tgt := 38) hx hb dX2_seenWords_12 (by decide) (fun hc => ?_) (fun hc => ?_)
      · have hw := hw.1 hc
        refine lv_iload_n hx hb dX2_seenWords_38 rfl (lv_at hl 2 rfl) ?_
        rw [← hQQ]
        exact g_reti (v := x2) (u := ()) hx hb hr rfl hlocks hw (hP.sub (ws' := [(o, .inr (2, [.ref o_credits, .ref o_light, .ref o_lit, .ref o_whole, .ref o_ends, .ref o_clashes, .int s_clashPairs, .ref o_reach, .ref o_latest])), (o_credits, .inr (0, [.ref o_credits_cells])), (o_credits_cells, .inl (cI, 82, .inl s_credits_cells)), (o_lit, .inl (cI, 96, .inl s_lit)), (o_ends, .inl (cI, 8, .inl s_ends))]) [0, 3, 4, 1, 2] rfl) hK (hD.sub (ws' := [(o, .inr (2, [.ref o_credits, .ref o_light, .ref o_lit, .ref o_whole, .ref o_ends, .ref o_clashes, .int s_clashPairs, .ref o_reach, .ref o_latest])), (o_credits, .inr (0, [.ref o_credits_cells])), (o_credits_cells, .inl (cI, 82, .inl s_credits_cells)), (o_lit, .inl (cI, 96, .inl s_lit)), (o_ends, .inl (cI, 8, .inl s_ends))]) [0, 3, 4, 1, 2] (by decide) rfl) hS dX2_seenWords_39
      · have hw := hw.2 hc
        refine lv_aload_n hx hb dX2_seenWords_15 rfl (lv_at hl 0 rfl) ?_
        refine lv_iload_n hx hb dX2_seenWords_16 rfl (lv_at hl 3 rfl) ?_
        refine lv_aload_n hx hb dX2_seenWords_17 rfl (lv_at hl 0 rfl) ?_
        refine lv_iload_n hx hb dX2_seenWords_18 rfl (lv_at hl 3 rfl) ?_
        refine gc_Vi (As := [.int x3]) (rest := [.int x3, .ref o]) (wr := [(o_ends, .inl (cI, 8, .inl s_ends))]) ⟨hx, hb, hml, hown, ht⟩ (c_X2_firstLit l dC dI cI cJ o o_credits o_light o_lit o_whole o_ends o_clashes o_reach o_latest o_credits_cells H.size s_credits_cells s_lit s_clashPairs x3 _ hw) (cwV 1 ht (g_V k_242 k_243 k_244 k_3 k_245) rfl rfl rfl (by decide +kernel) ⟨(Nat.le_of_ble_eq_true rfl), (Nat.le_of_ble_eq_true rfl)⟩) hK hP hD hS hA [0, 3, 4, 1] [2] rfl rfl (by decide) 0 rfl rfl rfl rfl hl.1 rfl (Nat.le_of_ble_eq_true rfl) ⟨(Nat.le_of_ble_eq_true rfl), (Nat.le_of_ble_eq_true rfl)⟩ dX2_seenWords_19 (fun r_2 u H locs hw hP hD hS => ?_)
        try dsimp only at hw
        have hP : va_P (dC, dI) vwCl [(o_ends, .inl (cI, 8, .inl s_ends)), (o, .inr (2, [.ref o_credits, .ref o_light, .ref o_lit, .ref o_whole, .ref o_ends, .ref o_clashes, .int s_clashPairs, .ref o_reach, .ref o_latest])), (o_credits, .inr (0, [.ref o_credits_cells])), (o_credits_cells, .inl (cI, 82, .inl s_credits_cells)), (o_lit, .inl (cI, 96, .inl s_lit))] H := hP
        have hD : va_D A [(o_ends, .inl (cI, 8, .inl s_ends)), (o, .inr (2, [.ref o_credits, .ref o_light, .ref o_lit, .ref o_whole, .ref o_ends, .ref o_clashes, .int s_clashPairs, .ref o_reach, .ref o_latest])), (o_credits, .inr (0, [.ref o_credits_cells])), (o_credits_cells, .inl (cI, 82, .inl s_credits_cells)), (o_lit, .inl (cI, 96, .inl s_lit))] := hD
        refine lv_iload_n hx hb dX2_seenWords_22 rfl (lv_at hl 1 rfl) ?_
        refine gc_Vi (As := [.int x3, .int r_2, .int x1]) (rest := []) (wr := [(o_credits, .inr (0, [.ref o_credits_cells])), (o_credits_cells, .inl (cI, 82, .inl s_credits_cells)), (o_lit, .inl (cI, 96, .inl s_lit))]) ⟨hx, hb, hml, hown, ht⟩ (c_X2_isThere l dC dI cI cJ o o_credits o_light o_lit o_whole o_ends o_clashes o_reach o_latest H.size s_ends s_clashPairs x3 r_2 x1 _ hw) (cwV 3 ht (g_V k_246 k_248 k_s1 k_3 k_249) rfl rfl rfl (by decide +kernel) ⟨(Nat.le_of_ble_eq_true rfl), (Nat.le_of_ble_eq_true rfl)⟩) hK hP hD hS hA [1, 0] [2, 3, 4] rfl rfl (by decide) 1 rfl rfl rfl rfl hl.1 rfl (Nat.le_of_ble_eq_true rfl) ⟨(Nat.le_of_ble_eq_true rfl), (Nat.le_of_ble_eq_true rfl)⟩ dX2_seenWords_23 (fun r_3 u H locs hw hP hD hS => ?_)
        try dsimp only at hw
        have hP : va_P (dC, dI) vwCl [(o_credits, .inr (0, [.ref o_credits_cells])), (o_credits_cells, .inl (cI, 82, .inl s_credits_cells)), (o_lit, .inl (cI, 96, .inl s_lit)), (o, .inr (2, [.ref o_credits, .ref o_light, .ref o_lit, .ref o_whole, .ref o_ends, .ref o_clashes, .int s_clashPairs, .ref o_reach, .ref o_latest])), (o_ends, .inl (cI, 8, .inl s_ends))] H := hP
        have hD : va_D A [(o_credits, .inr (0, [.ref o_credits_cells])), (o_credits_cells, .inl (cI, 82, .inl s_credits_cells)), (o_lit, .inl (cI, 96, .inl s_lit)), (o, .inr (2, [.ref o_credits, .ref o_light, .ref o_lit, .ref o_whole, .ref o_ends, .ref o_clashes, .int s_clashPairs, .ref o_reach, .ref o_latest])), (o_ends, .inl (cI, 8, .inl s_ends))] := hD
        refine lv_if_eq (tgt := 32) hx hb dX2_seenWords_26 (by decide) (fun hc => ?_) (fun hc => ?_)
        · have hw := hw.1 hc
          exact J32 x2 x3 hw H locs ls (hP.sub (ws' := [(o, .inr (2, [.ref o_credits, .ref o_light, .ref o_lit, .ref o_whole, .ref o_ends, .ref o_clashes, .int s_clashPairs, .ref o_reach, .ref o_latest])), (o_credits, .inr (0, [.ref o_credits_cells])), (o_credits_cells, .inl (cI, 82, .inl s_credits_cells)), (o_lit, .inl (cI, 96, .inl s_lit)), (o_ends, .inl (cI, 8, .inl s_ends))]) [3, 0, 1, 2, 4] rfl) (hD.sub (ws' := [(o, .inr (2, [.ref o_credits, .ref o_light, .ref o_lit, .ref o_whole, .ref o_ends, .ref o_clashes, .int s_clashPairs, .ref o_reach, .ref o_latest])), (o_credits, .inr (0, [.ref o_credits_cells])), (o_credits_cells, .inl (cI, 82, .inl s_credits_cells)), (o_lit, .inl (cI, 96, .inl s_lit)), (o_ends, .inl (cI, 8, .inl s_ends))]) [3, 0, 1, 2, 4] (by decide) rfl) hS hl
        · have hw := hw.2 hc
          refine lv_iinc (v := (x2 + 1)) (lv' := [(2, .int (x2 + 1)), (0, .ref o), (1, .int x1), (3, .int x3)]) hx hb dX2_seenWords_29 hl (k := 2) rfl rfl (by decide) rfl (fun ls hl => ?_)
          exact J32 (x2 + 1) x3 hw H locs ls (hP.sub (ws' := [(o, .inr (2, [.ref o_credits, .ref o_light, .ref o_lit, .ref o_whole, .ref o_ends, .ref o_clashes, .int s_clashPairs, .ref o_reach, .ref o_latest])), (o_credits, .inr (0, [.ref o_credits_cells])), (o_credits_cells, .inl (cI, 82, .inl s_credits_cells)), (o_lit, .inl (cI, 96, .inl s_lit)), (o_ends, .inl (cI, 8, .inl s_ends))]) [3, 0, 1, 2, 4] rfl) (hD.sub (ws' := [(o, .inr (2, [.ref o_credits, .ref o_light, .ref o_lit, .ref o_whole, .ref o_ends, .ref o_clashes, .int s_clashPairs, .ref o_reach, .ref o_latest])), (o_credits, .inr (0, [.ref o_credits_cells])), (o_credits_cells, .inl (cI, 82, .inl s_credits_cells)), (o_lit, .inl (cI, 96, .inl s_lit)), (o_ends, .inl (cI, 8, .inl s_ends))]) [3, 0, 1, 2, 4] (by decide) rfl) hS (lv_sub (l' := [(0, .ref o), (1, .int x1), (2, .int (x2 + 1)), (3, .int x3)]) hl [1, 2, 0, 3] rfl)
  obtain ⟨H, hHH⟩ : ∃ H, H = s.heap := ⟨_, rfl⟩
  rw [← hHH] at hP ⊢
  have hS : va_S A s.heap H [] := by rw [hHH]; exact hS
  clear hHH
  generalize ([] : List Loc) = locs at hS ⊢
  unfold P_X2_seenWords at hw
  refine lv_iconst (v := 0) hx hb dX2_seenWords_0 (by decide) ?_
  refine lv_istore_n (lv' := [(2, .int 0), (0, .ref o), (1, .int p0)]) hx hb dX2_seenWords_1 rfl hl (by decide) rfl (fun ls hl => ?_)
  refine lv_iconst (v := 0) hx hb dX2_seenWords_2 (by decide) ?_
  refine lv_istore_n (lv' := [(3, .int 0), (2, .int 0), (0, .ref o), (1, .int p0)]) hx hb dX2_seenWords_3 rfl hl (by decide) rfl (fun ls hl => ?_)
  obtain ⟨n, hw⟩ := hw
  exact L4 p0 n 0 0 hw H locs ls hP hD hS (lv_sub (l' := [(0, .ref o), (1, .int p0), (2, .int 0), (3, .int 0)]) hl [2, 3, 1, 0] rfl)
abbrev rm_X2_standingWords : Room := { frames := 2, cells := 0, slots := 0, locals := 44 }
set_option maxHeartbeats 4000000 in
set_option maxRecDepth 100000 in
theorem c_X2_standingWords (l : Launch) (dC : Nat → ClassId) (dI : Nat → Nat → Nat) (cI cJ : ClassId) (o o_credits o_light o_lit o_whole o_ends o_clashes o_reach o_latest o_credits_cells : Nat) (sz : Nat) (s_credits_cells : Nat → Int32) (s_whole : Nat → Int32) (s_ends : Nat → Int32) (s_clashPairs : Int32) (p0 : Int32) (Q : Int32 → Prop) (hw : P_X2_standingWords p0 s_credits_cells s_whole s_ends Q) : Met l yX2_standingWords (Cond.code yX2_standingWords cX2_standingWords 4 (some .int) :: TBL) rm_X2_standingWords (gPc (dC, dI) vwCl (gTy cI cJ) [.ref o, .int p0] [(o, .inr (2, [.ref o_credits, .ref o_light, .ref o_lit, .ref o_whole, .ref o_ends, .ref o_clashes, .int s_clashPairs, .ref o_reach, .ref o_latest])), (o_credits, .inr (0, [.ref o_credits_cells])), (o_credits_cells, .inl (cI, 82, .inl s_credits_cells)), (o_whole, .inl (cI, 8, .inl s_whole)), (o_ends, .inl (cI, 8, .inl s_ends))] sz) (va_Qi (fun (r : Int32) (u : Unit) => Q r ) (gB (dC, dI) vwCl (gTy cI cJ) (va_A [(o, .inr (2, [.ref o_credits, .ref o_light, .ref o_lit, .ref o_whole, .ref o_ends, .ref o_clashes, .int s_clashPairs, .ref o_reach, .ref o_latest])), (o_credits, .inr (0, [.ref o_credits_cells])), (o_credits_cells, .inl (cI, 82, .inl s_credits_cells)), (o_whole, .inl (cI, 8, .inl s_whole)), (o_ends, .inl (cI, 8, .inl s_ends))] sz) (fun (u : Unit) => [(o, .inr (2, [.ref o_credits, .ref o_light, .ref o_lit, .ref o_whole, .ref o_ends, .ref o_clashes, .int s_clashPairs, .ref o_reach, .ref o_latest])), (o_credits, .inr (0, [.ref o_credits_cells])), (o_credits_cells, .inl (cI, 82, .inl s_credits_cells)), (o_whole, .inl (cI, 8, .inl s_whole)), (o_ends, .inl (cI, 8, .inl s_ends))])) (va_A [(o, .inr (2, [.ref o_credits, .ref o_light, .ref o_lit, .ref o_whole, .ref o_ends, .ref o_clashes, .int s_clashPairs, .ref o_reach, .ref o_latest])), (o_credits, .inr (0, [.ref o_credits_cells])), (o_credits_cells, .inl (cI, 82, .inl s_credits_cells)), (o_whole, .inl (cI, 8, .inl s_whole)), (o_ends, .inl (cI, 8, .inl s_ends))] sz)) 0 0 (va_A [(o, .inr (2, [.ref o_credits, .ref o_light, .ref o_lit, .ref o_whole, .ref o_ends, .ref o_clashes, .int s_clashPairs, .ref o_reach, .ref o_latest])), (o_credits, .inr (0, [.ref o_credits_cells])), (o_credits_cells, .inl (cI, 82, .inl s_credits_cells)), (o_whole, .inl (cI, 8, .inl s_whole)), (o_ends, .inl (cI, 8, .inl s_ends))] sz) := by
  refine Met.ofW (cc := cX2_standingWords) (maxL := 4) (ret := (some .int)) (by decide) rfl ?_
  intro p e s m args below meth c s₁ B hml hv
  obtain ⟨rfl, hsz, hP, hK, hD0⟩ := hv
  have hx := B.exec
  have hb := B.bytes
  have hr := B.returns
  have hts := atoms_spec (ws := Cond.code yX2_standingWords cX2_standingWords 4 (some .int) :: TBL) B.pre
  have ht : ∀ w ∈ TBL, w.before ([.ref o, .int p0] : List Value).toArray s = true := fun w h => hts w (List.mem_cons_of_mem _ h)
  clear hts
  have hown : s.vm.findClass RX2 = some m.cls := findClass_of_methodNamed B.named
  have hlocks := B.notSynchronized
  clear B
  subst hsz
  have hD := hD0.self (sz := s.heap.size)
  clear hD0
  generalize hAe : va_A [(o, .inr (2, [.ref o_credits, .ref o_light, .ref o_lit, .ref o_whole, .ref o_ends, .ref o_clashes, .int s_clashPairs, .ref o_reach, .ref o_latest])), (o_credits, .inr (0, [.ref o_credits_cells])), (o_credits_cells, .inl (cI, 82, .inl s_credits_cells)), (o_whole, .inl (cI, 8, .inl s_whole)), (o_ends, .inl (cI, 8, .inl s_ends))] s.heap.size = A at hD ⊢
  have hA : ∀ q : Nat, s.heap.size ≤ q → A q := fun q h => by rw [← hAe]; exact Or.inr h
  clear hAe
  have hS : va_S A s.heap s.heap [] := va_S.rf
  have hP : va_P (dC, dI) vwCl [(o, .inr (2, [.ref o_credits, .ref o_light, .ref o_lit, .ref o_whole, .ref o_ends, .ref o_clashes, .int s_clashPairs, .ref o_reach, .ref o_latest])), (o_credits, .inr (0, [.ref o_credits_cells])), (o_credits_cells, .inl (cI, 82, .inl s_credits_cells)), (o_whole, .inl (cI, 8, .inl s_whole)), (o_ends, .inl (cI, 8, .inl s_ends))] s.heap := hP
  have hl := lv_entry ([.ref o, .int p0]) (n := 4) (Nat.le_of_ble_eq_true rfl)
  rw [lg_entry_eq]
  generalize (lg_sl ([.ref o, .int p0]) ++ List.replicate (4 - (lg_sl ([.ref o, .int p0])).length) Slot.unset).toArray = ls at hl ⊢
  have hl : lv_has ls 4 [(0, .ref o), (1, .int p0)] := hl
  generalize hQQ : MQ below _ _ _ 0 0 A = QQ
  show W p l e rm_X2_standingWords s m ([.ref o, .int p0] : List Value).toArray below meth c s.heap [] 0 0 QQ (F0 m 0 ls [])
  have L4 : ∀ (x1 : Int32), ∀ (n : Nat) (x2 : Int32) (x3 : Int32), P_X2_standingWords_L4 x1 s_credits_cells s_whole s_ends Q n x2 x3 → ∀ (H : Heap) (locs : List Loc) (ls : Array Slot), va_P (dC, dI) vwCl [(o, .inr (2, [.ref o_credits, .ref o_light, .ref o_lit, .ref o_whole, .ref o_ends, .ref o_clashes, .int s_clashPairs, .ref o_reach, .ref o_latest])), (o_credits, .inr (0, [.ref o_credits_cells])), (o_credits_cells, .inl (cI, 82, .inl s_credits_cells)), (o_whole, .inl (cI, 8, .inl s_whole)), (o_ends, .inl (cI, 8, .inl s_ends))] H → va_D A [(o, .inr (2, [.ref o_credits, .ref o_light, .ref o_lit, .ref o_whole, .ref o_ends, .ref o_clashes, .int s_clashPairs, .ref o_reach, .ref o_latest])), (o_credits, .inr (0, [.ref o_credits_cells])), (o_credits_cells, .inl (cI, 82, .inl s_credits_cells)), (o_whole, .inl (cI, 8, .inl s_whole)), (o_ends, .inl (cI, 8, .inl s_ends))] → va_S A s.heap H locs → lv_has ls 4 [(0, .ref o), (1, .int x1), (2, .int x2), (3, .int x3)] → W p l e rm_X2_standingWords s m ([.ref o, .int p0] : List Value).toArray below meth c H locs 0 0 QQ (F0 m 4 ls []) := by
    intro x1
    intro n
    induction n with
    | zero => intro x2 x3 hw; rw [P_X2_standingWords_L4_z] at hw; exact hw.elim
    | succ n ih =>
      intro x2 x3 hw
      rw [P_X2_standingWords_L4_s] at hw
      generalize hrec : P_X2_standingWords_L4 x1 s_credits_cells s_whole s_ends Q n = rec4 at ih hw
      have J32 : ∀ (x2 : Int32) (x3 : Int32), P_X2_standingWords_J32 rec4 x2 x3 → ∀ (H : Heap) (locs : List Loc) (ls : Array Slot), va_P (dC, dI) vwCl [(o, .inr (2, [.ref o_credits, .ref o_light, .ref o_lit, .ref o_whole, .ref o_ends, .ref o_clashes, .int s_clashPairs, .ref o_reach, .ref o_latest])), (o_credits, .inr (0, [.ref o_credits_cells])), (o_credits_cells, .inl (cI, 82, .inl s_credits_cells)), (o_whole, .inl (cI, 8, .inl s_whole)), (o_ends, .inl (cI, 8, .inl s_ends))] H → va_D A [(o, .inr (2, [.ref o_credits, .ref o_light, .ref o_lit, .ref o_whole, .ref o_ends, .ref o_clashes, .int s_clashPairs, .ref o_reach, .ref o_latest])), (o_credits, .inr (0, [.ref o_credits_cells])), (o_credits_cells, .inl (cI, 82, .inl s_credits_cells)), (o_whole, .inl (cI, 8, .inl s_whole)), (o_ends, .inl (cI, 8, .inl s_ends))] → va_S A s.heap H locs → lv_has ls 4 [(0, .ref o), (1, .int x1), (2, .int x2), (3, .int x3)] → W p l e rm_X2_standingWords s m ([.ref o, .int p0] : List Value).toArray below meth c H locs 0 0 QQ (F0 m 32 ls []) := by
        intro x2 x3 hw H locs ls hP hD hS hl
        unfold P_X2_standingWords_J32 at hw
        refine lv_iinc (v := (x3 + 1)) (lv' := [(3, .int (x3 + 1)), (0, .ref o), (1, .int x1), (2, .int x2)]) hx hb dX2_standingWords_32 hl (k := 3) rfl rfl (by decide) rfl (fun ls hl => ?_)
        refine lv_goto (tgt := 4) hx hb dX2_standingWords_35 (by decide) ?_
        exact ih x2 (x3 + 1) hw H locs ls hP hD hS (lv_sub (l' := [(0, .ref o), (1, .int x1), (2, .int x2), (3, .int (x3 + 1))]) hl [1, 2, 3, 0] rfl)
      intro H locs ls hP hD hS hl
      unfold B_X2_standingWords_L4 at hw
      refine lv_iload_n hx hb dX2_standingWords_4 rfl (lv_at hl 3 rfl) ?_
      refine lv_aload_n hx hb dX2_standingWords_5 rfl (lv_at hl 0 rfl) ?_
      refine va_get (D := (dC, dI)) (ci := 2) (v := .ref o_credits) (C := RX2) (T := TX2) (N := 9) hx hb ht i_X2 hown hK hP 0 rfl rfl 0 (by decide) (ht _ k_39) (fun _ h9 => h9) rfl dX2_standingWords_6 ?_
      refine gc_Vi (As := []) (rest := [.int x3]) (wr := [(o, .inr (2, [.ref o_credits, .ref o_light, .ref o_lit, .ref o_whole, .ref o_ends, .ref o_clashes, .int s_clashPairs, .ref o_reach, .ref o_latest])), (o_whole, .inl (cI, 8, .inl s_whole)), (o_ends, .inl (cI, 8, .inl s_ends))]) ⟨hx, hb, hml, hown, ht⟩ (c_X0_words l dC dI cI cJ o_credits o_credits_cells H.size s_credits_cells _ hw) (cwV 0 ht (g_V k_209 k_189 k_190 k_2 k_191) rfl rfl rfl (by decide +kernel) ⟨(Nat.le_of_ble_eq_true rfl), (Nat.le_of_ble_eq_true rfl)⟩) hK hP hD hS hA [1, 2] [0, 3, 4] rfl rfl (by decide) 1 rfl rfl rfl rfl hl.1 rfl (Nat.le_of_ble_eq_true rfl) ⟨(Nat.le_of_ble_eq_true rfl), (Nat.le_of_ble_eq_true rfl)⟩ dX2_standingWords_9 (fun r_1 u H locs hw hP hD hS => ?_)
      try dsimp only at hw
      have hP : va_P (dC, dI) vwCl [(o, .inr (2, [.ref o_credits, .ref o_light, .ref o_lit, .ref o_whole, .ref o_ends, .ref o_clashes, .int s_clashPairs, .ref o_reach, .ref o_latest])), (o_whole, .inl (cI, 8, .inl s_whole)), (o_ends, .inl (cI, 8, .inl s_ends)), (o_credits, .inr (0, [.ref o_credits_cells])), (o_credits_cells, .inl (cI, 82, .inl s_credits_cells))] H := hP
      have hD : va_D A [(o, .inr (2, [.ref o_credits, .ref o_light, .ref o_lit, .ref o_whole, .ref o_ends, .ref o_clashes, .int s_clashPairs, .ref o_reach, .ref o_latest])), (o_whole, .inl (cI, 8, .inl s_whole)), (o_ends, .inl (cI, 8, .inl s_ends)), (o_credits, .inr (0, [.ref o_credits_cells])), (o_credits_cells, .inl (cI, 82, .inl s_credits_cells))] := hD
      refine lv_icmp_ge (tgt := 38) hx hb dX2_standingWords_12 (by decide) (fun hc => ?_) (fun hc => ?_)
      · have hw := hw.1 hc
        refine lv_iload_n hx hb dX2_standingWords_38 rfl (lv_at hl 2 rfl) ?_
        rw [← hQQ]
        exact g_reti (v := x2) (u := ()) hx hb hr rfl hlocks hw (hP.sub (ws' := [(o, .inr (2, [.ref o_credits, .ref o_light, .ref o_lit, .ref o_whole, .ref o_ends, .ref o_clashes, .int s_clashPairs, .ref o_reach, .ref o_latest])), (o_credits, .inr (0, [.ref o_credits_cells])), (o_credits_cells, .inl (cI, 82, .inl s_credits_cells)), (o_whole, .inl (cI, 8, .inl s_whole)), (o_ends, .inl (cI, 8, .inl s_ends))]) [0, 3, 4, 1, 2] rfl) hK (hD.sub (ws' := [(o, .inr (2, [.ref o_credits, .ref o_light, .ref o_lit, .ref o_whole, .ref o_ends, .ref o_clashes, .int s_clashPairs, .ref o_reach, .ref o_latest])), (o_credits, .inr (0, [.ref o_credits_cells])), (o_credits_cells, .inl (cI, 82, .inl s_credits_cells)), (o_whole, .inl (cI, 8, .inl s_whole)), (o_ends, .inl (cI, 8, .inl s_ends))]) [0, 3, 4, 1, 2] (by decide) rfl) hS dX2_standingWords_39
      · have hw := hw.2 hc
        refine lv_aload_n hx hb dX2_standingWords_15 rfl (lv_at hl 0 rfl) ?_
        refine lv_iload_n hx hb dX2_standingWords_16 rfl (lv_at hl 3 rfl) ?_
        refine lv_aload_n hx hb dX2_standingWords_17 rfl (lv_at hl 0 rfl) ?_
        refine lv_iload_n hx hb dX2_standingWords_18 rfl (lv_at hl 3 rfl) ?_
        refine gc_Vi (As := [.int x3]) (rest := [.int x3, .ref o]) (wr := [(o_ends, .inl (cI, 8, .inl s_ends)), (o_credits, .inr (0, [.ref o_credits_cells])), (o_credits_cells, .inl (cI, 82, .inl s_credits_cells))]) ⟨hx, hb, hml, hown, ht⟩ (c_X2_wholeFrom l dC dI cI cJ o o_credits o_light o_lit o_whole o_ends o_clashes o_reach o_latest H.size s_whole s_clashPairs x3 _ hw) (cwV 1 ht (g_V k_223 k_224 k_225 k_3 k_226) rfl rfl rfl (by decide +kernel) ⟨(Nat.le_of_ble_eq_true rfl), (Nat.le_of_ble_eq_true rfl)⟩) hK hP hD hS hA [0, 1] [2, 3, 4] rfl rfl (by decide) 0 rfl rfl rfl rfl hl.1 rfl (Nat.le_of_ble_eq_true rfl) ⟨(Nat.le_of_ble_eq_true rfl), (Nat.le_of_ble_eq_true rfl)⟩ dX2_standingWords_19 (fun r_2 u H locs hw hP hD hS => ?_)
        try dsimp only at hw
        have hP : va_P (dC, dI) vwCl [(o_ends, .inl (cI, 8, .inl s_ends)), (o_credits, .inr (0, [.ref o_credits_cells])), (o_credits_cells, .inl (cI, 82, .inl s_credits_cells)), (o, .inr (2, [.ref o_credits, .ref o_light, .ref o_lit, .ref o_whole, .ref o_ends, .ref o_clashes, .int s_clashPairs, .ref o_reach, .ref o_latest])), (o_whole, .inl (cI, 8, .inl s_whole))] H := hP
        have hD : va_D A [(o_ends, .inl (cI, 8, .inl s_ends)), (o_credits, .inr (0, [.ref o_credits_cells])), (o_credits_cells, .inl (cI, 82, .inl s_credits_cells)), (o, .inr (2, [.ref o_credits, .ref o_light, .ref o_lit, .ref o_whole, .ref o_ends, .ref o_clashes, .int s_clashPairs, .ref o_reach, .ref o_latest])), (o_whole, .inl (cI, 8, .inl s_whole))] := hD
        refine lv_iload_n hx hb dX2_standingWords_22 rfl (lv_at hl 1 rfl) ?_
        refine gc_Vi (As := [.int x3, .int r_2, .int x1]) (rest := []) (wr := [(o_credits, .inr (0, [.ref o_credits_cells])), (o_credits_cells, .inl (cI, 82, .inl s_credits_cells)), (o_whole, .inl (cI, 8, .inl s_whole))]) ⟨hx, hb, hml, hown, ht⟩ (c_X2_isThere l dC dI cI cJ o o_credits o_light o_lit o_whole o_ends o_clashes o_reach o_latest H.size s_ends s_clashPairs x3 r_2 x1 _ hw) (cwV 3 ht (g_V k_246 k_248 k_s1 k_3 k_249) rfl rfl rfl (by decide +kernel) ⟨(Nat.le_of_ble_eq_true rfl), (Nat.le_of_ble_eq_true rfl)⟩) hK hP hD hS hA [3, 0] [1, 2, 4] rfl rfl (by decide) 3 rfl rfl rfl rfl hl.1 rfl (Nat.le_of_ble_eq_true rfl) ⟨(Nat.le_of_ble_eq_true rfl), (Nat.le_of_ble_eq_true rfl)⟩ dX2_standingWords_23 (fun r_3 u H locs hw hP hD hS => ?_)
        try dsimp only at hw
        have hP : va_P (dC, dI) vwCl [(o_credits, .inr (0, [.ref o_credits_cells])), (o_credits_cells, .inl (cI, 82, .inl s_credits_cells)), (o_whole, .inl (cI, 8, .inl s_whole)), (o, .inr (2, [.ref o_credits, .ref o_light, .ref o_lit, .ref o_whole, .ref o_ends, .ref o_clashes, .int s_clashPairs, .ref o_reach, .ref o_latest])), (o_ends, .inl (cI, 8, .inl s_ends))] H := hP
        have hD : va_D A [(o_credits, .inr (0, [.ref o_credits_cells])), (o_credits_cells, .inl (cI, 82, .inl s_credits_cells)), (o_whole, .inl (cI, 8, .inl s_whole)), (o, .inr (2, [.ref o_credits, .ref o_light, .ref o_lit, .ref o_whole, .ref o_ends, .ref o_clashes, .int s_clashPairs, .ref o_reach, .ref o_latest])), (o_ends, .inl (cI, 8, .inl s_ends))] := hD
        refine lv_if_eq (tgt := 32) hx hb dX2_standingWords_26 (by decide) (fun hc => ?_) (fun hc => ?_)
        · have hw := hw.1 hc
          exact J32 x2 x3 hw H locs ls (hP.sub (ws' := [(o, .inr (2, [.ref o_credits, .ref o_light, .ref o_lit, .ref o_whole, .ref o_ends, .ref o_clashes, .int s_clashPairs, .ref o_reach, .ref o_latest])), (o_credits, .inr (0, [.ref o_credits_cells])), (o_credits_cells, .inl (cI, 82, .inl s_credits_cells)), (o_whole, .inl (cI, 8, .inl s_whole)), (o_ends, .inl (cI, 8, .inl s_ends))]) [3, 0, 1, 2, 4] rfl) (hD.sub (ws' := [(o, .inr (2, [.ref o_credits, .ref o_light, .ref o_lit, .ref o_whole, .ref o_ends, .ref o_clashes, .int s_clashPairs, .ref o_reach, .ref o_latest])), (o_credits, .inr (0, [.ref o_credits_cells])), (o_credits_cells, .inl (cI, 82, .inl s_credits_cells)), (o_whole, .inl (cI, 8, .inl s_whole)), (o_ends, .inl (cI, 8, .inl s_ends))]) [3, 0, 1, 2, 4] (by decide) rfl) hS hl
        · have hw := hw.2 hc
          refine lv_iinc (v := (x2 + 1)) (lv' := [(2, .int (x2 + 1)), (0, .ref o), (1, .int x1), (3, .int x3)]) hx hb dX2_standingWords_29 hl (k := 2) rfl rfl (by decide) rfl (fun ls hl => ?_)
          exact J32 (x2 + 1) x3 hw H locs ls (hP.sub (ws' := [(o, .inr (2, [.ref o_credits, .ref o_light, .ref o_lit, .ref o_whole, .ref o_ends, .ref o_clashes, .int s_clashPairs, .ref o_reach, .ref o_latest])), (o_credits, .inr (0, [.ref o_credits_cells])), (o_credits_cells, .inl (cI, 82, .inl s_credits_cells)), (o_whole, .inl (cI, 8, .inl s_whole)), (o_ends, .inl (cI, 8, .inl s_ends))]) [3, 0, 1, 2, 4] rfl) (hD.sub (ws' := [(o, .inr (2, [.ref o_credits, .ref o_light, .ref o_lit, .ref o_whole, .ref o_ends, .ref o_clashes, .int s_clashPairs, .ref o_reach, .ref o_latest])), (o_credits, .inr (0, [.ref o_credits_cells])), (o_credits_cells, .inl (cI, 82, .inl s_credits_cells)), (o_whole, .inl (cI, 8, .inl s_whole)), (o_ends, .inl (cI, 8, .inl s_ends))]) [3, 0, 1, 2, 4] (by decide) rfl) hS (lv_sub (l' := [(0, .ref o), (1, .int x1), (2, .int (x2 + 1)), (3, .int x3)]) hl [1, 2, 0, 3] rfl)
  obtain ⟨H, hHH⟩ : ∃ H, H = s.heap := ⟨_, rfl⟩
  rw [← hHH] at hP ⊢
  have hS : va_S A s.heap H [] := by rw [hHH]; exact hS
  clear hHH
  generalize ([] : List Loc) = locs at hS ⊢
  unfold P_X2_standingWords at hw
  refine lv_iconst (v := 0) hx hb dX2_standingWords_0 (by decide) ?_
  refine lv_istore_n (lv' := [(2, .int 0), (0, .ref o), (1, .int p0)]) hx hb dX2_standingWords_1 rfl hl (by decide) rfl (fun ls hl => ?_)
  refine lv_iconst (v := 0) hx hb dX2_standingWords_2 (by decide) ?_
  refine lv_istore_n (lv' := [(3, .int 0), (2, .int 0), (0, .ref o), (1, .int p0)]) hx hb dX2_standingWords_3 rfl hl (by decide) rfl (fun ls hl => ?_)
  obtain ⟨n, hw⟩ := hw
  exact L4 p0 n 0 0 hw H locs ls hP hD hS (lv_sub (l' := [(0, .ref o), (1, .int p0), (2, .int 0), (3, .int 0)]) hl [2, 3, 1, 0] rfl)
abbrev rm_X2_emptyBeats : Room := { frames := 3, cells := 0, slots := 0, locals := 70 }
set_option maxHeartbeats 4000000 in
set_option maxRecDepth 100000 in
theorem c_X2_emptyBeats (l : Launch) (dC : Nat → ClassId) (dI : Nat → Nat → Nat) (cI cJ : ClassId) (o o_credits o_light o_lit o_whole o_ends o_clashes o_reach o_latest o_credits_cells : Nat) (sz : Nat) (s_credits_cells : Nat → Int32) (s_lit : Nat → Int32) (s_ends : Nat → Int32) (s_clashPairs : Int32)  (Q : Int32 → Prop) (hw : P_X2_emptyBeats s_credits_cells s_lit s_ends Q) : Met l yX2_emptyBeats (Cond.code yX2_emptyBeats cX2_emptyBeats 3 (some .int) :: TBL) rm_X2_emptyBeats (gPc (dC, dI) vwCl (gTy cI cJ) [.ref o] [(o, .inr (2, [.ref o_credits, .ref o_light, .ref o_lit, .ref o_whole, .ref o_ends, .ref o_clashes, .int s_clashPairs, .ref o_reach, .ref o_latest])), (o_credits, .inr (0, [.ref o_credits_cells])), (o_credits_cells, .inl (cI, 82, .inl s_credits_cells)), (o_lit, .inl (cI, 96, .inl s_lit)), (o_ends, .inl (cI, 8, .inl s_ends))] sz) (va_Qi (fun (r : Int32) (u : Unit) => Q r ) (gB (dC, dI) vwCl (gTy cI cJ) (va_A [(o, .inr (2, [.ref o_credits, .ref o_light, .ref o_lit, .ref o_whole, .ref o_ends, .ref o_clashes, .int s_clashPairs, .ref o_reach, .ref o_latest])), (o_credits, .inr (0, [.ref o_credits_cells])), (o_credits_cells, .inl (cI, 82, .inl s_credits_cells)), (o_lit, .inl (cI, 96, .inl s_lit)), (o_ends, .inl (cI, 8, .inl s_ends))] sz) (fun (u : Unit) => [(o, .inr (2, [.ref o_credits, .ref o_light, .ref o_lit, .ref o_whole, .ref o_ends, .ref o_clashes, .int s_clashPairs, .ref o_reach, .ref o_latest])), (o_credits, .inr (0, [.ref o_credits_cells])), (o_credits_cells, .inl (cI, 82, .inl s_credits_cells)), (o_lit, .inl (cI, 96, .inl s_lit)), (o_ends, .inl (cI, 8, .inl s_ends))])) (va_A [(o, .inr (2, [.ref o_credits, .ref o_light, .ref o_lit, .ref o_whole, .ref o_ends, .ref o_clashes, .int s_clashPairs, .ref o_reach, .ref o_latest])), (o_credits, .inr (0, [.ref o_credits_cells])), (o_credits_cells, .inl (cI, 82, .inl s_credits_cells)), (o_lit, .inl (cI, 96, .inl s_lit)), (o_ends, .inl (cI, 8, .inl s_ends))] sz)) 0 0 (va_A [(o, .inr (2, [.ref o_credits, .ref o_light, .ref o_lit, .ref o_whole, .ref o_ends, .ref o_clashes, .int s_clashPairs, .ref o_reach, .ref o_latest])), (o_credits, .inr (0, [.ref o_credits_cells])), (o_credits_cells, .inl (cI, 82, .inl s_credits_cells)), (o_lit, .inl (cI, 96, .inl s_lit)), (o_ends, .inl (cI, 8, .inl s_ends))] sz) := by
  refine Met.ofW (cc := cX2_emptyBeats) (maxL := 3) (ret := (some .int)) (by decide) rfl ?_
  intro p e s m args below meth c s₁ B hml hv
  obtain ⟨rfl, hsz, hP, hK, hD0⟩ := hv
  have hx := B.exec
  have hb := B.bytes
  have hr := B.returns
  have hts := atoms_spec (ws := Cond.code yX2_emptyBeats cX2_emptyBeats 3 (some .int) :: TBL) B.pre
  have ht : ∀ w ∈ TBL, w.before ([.ref o] : List Value).toArray s = true := fun w h => hts w (List.mem_cons_of_mem _ h)
  clear hts
  have hown : s.vm.findClass RX2 = some m.cls := findClass_of_methodNamed B.named
  have hlocks := B.notSynchronized
  clear B
  subst hsz
  have hD := hD0.self (sz := s.heap.size)
  clear hD0
  generalize hAe : va_A [(o, .inr (2, [.ref o_credits, .ref o_light, .ref o_lit, .ref o_whole, .ref o_ends, .ref o_clashes, .int s_clashPairs, .ref o_reach, .ref o_latest])), (o_credits, .inr (0, [.ref o_credits_cells])), (o_credits_cells, .inl (cI, 82, .inl s_credits_cells)), (o_lit, .inl (cI, 96, .inl s_lit)), (o_ends, .inl (cI, 8, .inl s_ends))] s.heap.size = A at hD ⊢
  have hA : ∀ q : Nat, s.heap.size ≤ q → A q := fun q h => by rw [← hAe]; exact Or.inr h
  clear hAe
  have hS : va_S A s.heap s.heap [] := va_S.rf
  have hP : va_P (dC, dI) vwCl [(o, .inr (2, [.ref o_credits, .ref o_light, .ref o_lit, .ref o_whole, .ref o_ends, .ref o_clashes, .int s_clashPairs, .ref o_reach, .ref o_latest])), (o_credits, .inr (0, [.ref o_credits_cells])), (o_credits_cells, .inl (cI, 82, .inl s_credits_cells)), (o_lit, .inl (cI, 96, .inl s_lit)), (o_ends, .inl (cI, 8, .inl s_ends))] s.heap := hP
  have hl := lv_entry ([.ref o]) (n := 3) (Nat.le_of_ble_eq_true rfl)
  rw [lg_entry_eq]
  generalize (lg_sl ([.ref o]) ++ List.replicate (3 - (lg_sl ([.ref o])).length) Slot.unset).toArray = ls at hl ⊢
  have hl : lv_has ls 3 [(0, .ref o)] := hl
  generalize hQQ : MQ below _ _ _ 0 0 A = QQ
  show W p l e rm_X2_emptyBeats s m ([.ref o] : List Value).toArray below meth c s.heap [] 0 0 QQ (F0 m 0 ls [])
  have L4 : ∀ (n : Nat) (x1 : Int32) (x2 : Int32), P_X2_emptyBeats_L4 s_credits_cells s_lit s_ends Q n x1 x2 → ∀ (H : Heap) (locs : List Loc) (ls : Array Slot), va_P (dC, dI) vwCl [(o, .inr (2, [.ref o_credits, .ref o_light, .ref o_lit, .ref o_whole, .ref o_ends, .ref o_clashes, .int s_clashPairs, .ref o_reach, .ref o_latest])), (o_credits, .inr (0, [.ref o_credits_cells])), (o_credits_cells, .inl (cI, 82, .inl s_credits_cells)), (o_lit, .inl (cI, 96, .inl s_lit)), (o_ends, .inl (cI, 8, .inl s_ends))] H → va_D A [(o, .inr (2, [.ref o_credits, .ref o_light, .ref o_lit, .ref o_whole, .ref o_ends, .ref o_clashes, .int s_clashPairs, .ref o_reach, .ref o_latest])), (o_credits, .inr (0, [.ref o_credits_cells])), (o_credits_cells, .inl (cI, 82, .inl s_credits_cells)), (o_lit, .inl (cI, 96, .inl s_lit)), (o_ends, .inl (cI, 8, .inl s_ends))] → va_S A s.heap H locs → lv_has ls 3 [(0, .ref o), (1, .int x1), (2, .int x2)] → W p l e rm_X2_emptyBeats s m ([.ref o] : List Value).toArray below meth c H locs 0 0 QQ (F0 m 4 ls []) := by
    intro n
    induction n with
    | zero => intro x1 x2 hw; rw [P_X2_emptyBeats_L4_z] at hw; exact hw.elim
    | succ n ih =>
      intro x1 x2 hw
      rw [P_X2_emptyBeats_L4_s] at hw
      generalize hrec : P_X2_emptyBeats_L4 s_credits_cells s_lit s_ends Q n = rec4 at ih hw
      have J22 : ∀ (x1 : Int32) (x2 : Int32), P_X2_emptyBeats_J22 rec4 x1 x2 → ∀ (H : Heap) (locs : List Loc) (ls : Array Slot), va_P (dC, dI) vwCl [(o, .inr (2, [.ref o_credits, .ref o_light, .ref o_lit, .ref o_whole, .ref o_ends, .ref o_clashes, .int s_clashPairs, .ref o_reach, .ref o_latest])), (o_credits, .inr (0, [.ref o_credits_cells])), (o_credits_cells, .inl (cI, 82, .inl s_credits_cells)), (o_lit, .inl (cI, 96, .inl s_lit)), (o_ends, .inl (cI, 8, .inl s_ends))] H → va_D A [(o, .inr (2, [.ref o_credits, .ref o_light, .ref o_lit, .ref o_whole, .ref o_ends, .ref o_clashes, .int s_clashPairs, .ref o_reach, .ref o_latest])), (o_credits, .inr (0, [.ref o_credits_cells])), (o_credits_cells, .inl (cI, 82, .inl s_credits_cells)), (o_lit, .inl (cI, 96, .inl s_lit)), (o_ends, .inl (cI, 8, .inl s_ends))] → va_S A s.heap H locs → lv_has ls 3 [(0, .ref o), (1, .int x1), (2, .int x2)] → W p l e rm_X2_emptyBeats s m ([.ref o] : List Value).toArray below meth c H locs 0 0 QQ (F0 m 22 ls []) := by
        intro x1 x2 hw H locs ls hP hD hS hl
        unfold P_X2_emptyBeats_J22 at hw
        refine lv_iinc (v := (x2 + 1)) (lv' := [(2, .int (x2 + 1)), (0, .ref o), (1, .int x1)]) hx hb dX2_emptyBeats_22 hl (k := 2) rfl rfl (by decide) rfl (fun ls hl => ?_)
        refine lv_goto (tgt := 4) hx hb dX2_emptyBeats_25 (by decide) ?_
        exact ih x1 (x2 + 1) hw H locs ls hP hD hS (lv_sub (l' := [(0, .ref o), (1, .int x1), (2, .int (x2 + 1))]) hl [1, 2, 0] rfl)
      intro H locs ls hP hD hS hl
      unfold B_X2_emptyBeats_L4 at hw
      refine lv_iload_n hx hb dX2_emptyBeats_4 rfl (lv_at hl 2 rfl) ?_
      refine lv_sipush (v := 200) hx hb dX2_emptyBeats_5 (by decide) ?_
      refine lv_icmp_ge (tgt := 28) hx hb dX2_emptyBeats_8 (by decide) (fun hc => ?_) (fun hc => ?_)
      · have hw := hw.1 hc
        refine lv_iload_n hx hb dX2_emptyBeats_28 rfl (lv_at hl 1 rfl) ?_
        rw [← hQQ]
        exact g_reti (v := x1) (u := ()) hx hb hr rfl hlocks hw hP hK hD hS dX2_emptyBeats_29
      · have hw := hw.2 hc
        refine lv_aload_n hx hb dX2_emptyBeats_11 rfl (lv_at hl 0 rfl) ?_
        refine lv_iload_n hx hb dX2_emptyBeats_12 rfl (lv_at hl 2 rfl) ?_
        refine gc_Vi (As := [.int x2]) (rest := []) (wr := []) ⟨hx, hb, hml, hown, ht⟩ (c_X2_seenWords l dC dI cI cJ o o_credits o_light o_lit o_whole o_ends o_clashes o_reach o_latest o_credits_cells H.size s_credits_cells s_lit s_ends s_clashPairs x2 _ hw) (cwV 1 ht (g_V k_238 k_239 k_240 k_3 k_241) rfl rfl rfl (by decide +kernel) ⟨(Nat.le_of_ble_eq_true rfl), (Nat.le_of_ble_eq_true rfl)⟩) hK hP hD hS hA [0, 1, 2, 3, 4] [] rfl rfl (by decide) 0 rfl rfl rfl rfl hl.1 rfl (Nat.le_of_ble_eq_true rfl) ⟨(Nat.le_of_ble_eq_true rfl), (Nat.le_of_ble_eq_true rfl)⟩ dX2_emptyBeats_13 (fun r_1 u H locs hw hP hD hS => ?_)
        try dsimp only at hw
        have hP : va_P (dC, dI) vwCl [(o, .inr (2, [.ref o_credits, .ref o_light, .ref o_lit, .ref o_whole, .ref o_ends, .ref o_clashes, .int s_clashPairs, .ref o_reach, .ref o_latest])), (o_credits, .inr (0, [.ref o_credits_cells])), (o_credits_cells, .inl (cI, 82, .inl s_credits_cells)), (o_lit, .inl (cI, 96, .inl s_lit)), (o_ends, .inl (cI, 8, .inl s_ends))] H := hP
        have hD : va_D A [(o, .inr (2, [.ref o_credits, .ref o_light, .ref o_lit, .ref o_whole, .ref o_ends, .ref o_clashes, .int s_clashPairs, .ref o_reach, .ref o_latest])), (o_credits, .inr (0, [.ref o_credits_cells])), (o_credits_cells, .inl (cI, 82, .inl s_credits_cells)), (o_lit, .inl (cI, 96, .inl s_lit)), (o_ends, .inl (cI, 8, .inl s_ends))] := hD
        refine lv_if_ne (tgt := 22) hx hb dX2_emptyBeats_16 (by decide) (fun hc => ?_) (fun hc => ?_)
        · have hw := hw.1 hc
          exact J22 x1 x2 hw H locs ls hP hD hS hl
        · have hw := hw.2 hc
          refine lv_iinc (v := (x1 + 1)) (lv' := [(1, .int (x1 + 1)), (0, .ref o), (2, .int x2)]) hx hb dX2_emptyBeats_19 hl (k := 1) rfl rfl (by decide) rfl (fun ls hl => ?_)
          exact J22 (x1 + 1) x2 hw H locs ls hP hD hS (lv_sub (l' := [(0, .ref o), (1, .int (x1 + 1)), (2, .int x2)]) hl [1, 0, 2] rfl)
  obtain ⟨H, hHH⟩ : ∃ H, H = s.heap := ⟨_, rfl⟩
  rw [← hHH] at hP ⊢
  have hS : va_S A s.heap H [] := by rw [hHH]; exact hS
  clear hHH
  generalize ([] : List Loc) = locs at hS ⊢
  unfold P_X2_emptyBeats at hw
  refine lv_iconst (v := 0) hx hb dX2_emptyBeats_0 (by decide) ?_
  refine lv_istore_n (lv' := [(1, .int 0), (0, .ref o)]) hx hb dX2_emptyBeats_1 rfl hl (by decide) rfl (fun ls hl => ?_)
  refine lv_iconst (v := 0) hx hb dX2_emptyBeats_2 (by decide) ?_
  refine lv_istore_n (lv' := [(2, .int 0), (1, .int 0), (0, .ref o)]) hx hb dX2_emptyBeats_3 rfl hl (by decide) rfl (fun ls hl => ?_)
  obtain ⟨n, hw⟩ := hw
  exact L4  n 0 0 hw H locs ls hP hD hS (lv_sub (l' := [(0, .ref o), (1, .int 0), (2, .int 0)]) hl [2, 1, 0] rfl)
abbrev rm_X2_firstClash : Room := { frames := 1, cells := 0, slots := 0, locals := 23 }
set_option maxHeartbeats 4000000 in
set_option maxRecDepth 100000 in
theorem c_X2_firstClash (l : Launch) (dC : Nat → ClassId) (dI : Nat → Nat → Nat) (cI cJ : ClassId) (o o_credits o_light o_lit o_whole o_ends o_clashes o_reach o_latest o_credits_cells : Nat) (sz : Nat) (s_credits_cells : Nat → Int32) (s_lit : Nat → Int32) (s_ends : Nat → Int32) (s_clashPairs : Int32) (p0 : Int32) (p1 : Int32) (Q : Int32 → Prop) (hw : P_X2_firstClash p0 p1 s_credits_cells s_lit s_ends Q) : Met l yX2_firstClash (Cond.code yX2_firstClash cX2_firstClash 10 (some .int) :: TBL) rm_X2_firstClash (gPc (dC, dI) vwCl (gTy cI cJ) [.ref o, .int p0, .int p1] [(o, .inr (2, [.ref o_credits, .ref o_light, .ref o_lit, .ref o_whole, .ref o_ends, .ref o_clashes, .int s_clashPairs, .ref o_reach, .ref o_latest])), (o_credits, .inr (0, [.ref o_credits_cells])), (o_credits_cells, .inl (cI, 82, .inl s_credits_cells)), (o_lit, .inl (cI, 96, .inl s_lit)), (o_ends, .inl (cI, 8, .inl s_ends))] sz) (va_Qi (fun (r : Int32) (u : Unit) => Q r ) (gB (dC, dI) vwCl (gTy cI cJ) (va_A [(o, .inr (2, [.ref o_credits, .ref o_light, .ref o_lit, .ref o_whole, .ref o_ends, .ref o_clashes, .int s_clashPairs, .ref o_reach, .ref o_latest])), (o_credits, .inr (0, [.ref o_credits_cells])), (o_credits_cells, .inl (cI, 82, .inl s_credits_cells)), (o_lit, .inl (cI, 96, .inl s_lit)), (o_ends, .inl (cI, 8, .inl s_ends))] sz) (fun (u : Unit) => [(o, .inr (2, [.ref o_credits, .ref o_light, .ref o_lit, .ref o_whole, .ref o_ends, .ref o_clashes, .int s_clashPairs, .ref o_reach, .ref o_latest])), (o_credits, .inr (0, [.ref o_credits_cells])), (o_credits_cells, .inl (cI, 82, .inl s_credits_cells)), (o_lit, .inl (cI, 96, .inl s_lit)), (o_ends, .inl (cI, 8, .inl s_ends))])) (va_A [(o, .inr (2, [.ref o_credits, .ref o_light, .ref o_lit, .ref o_whole, .ref o_ends, .ref o_clashes, .int s_clashPairs, .ref o_reach, .ref o_latest])), (o_credits, .inr (0, [.ref o_credits_cells])), (o_credits_cells, .inl (cI, 82, .inl s_credits_cells)), (o_lit, .inl (cI, 96, .inl s_lit)), (o_ends, .inl (cI, 8, .inl s_ends))] sz)) 0 0 (va_A [(o, .inr (2, [.ref o_credits, .ref o_light, .ref o_lit, .ref o_whole, .ref o_ends, .ref o_clashes, .int s_clashPairs, .ref o_reach, .ref o_latest])), (o_credits, .inr (0, [.ref o_credits_cells])), (o_credits_cells, .inl (cI, 82, .inl s_credits_cells)), (o_lit, .inl (cI, 96, .inl s_lit)), (o_ends, .inl (cI, 8, .inl s_ends))] sz) := by
  refine Met.ofW (cc := cX2_firstClash) (maxL := 10) (ret := (some .int)) (by decide) rfl ?_
  intro p e s m args below meth c s₁ B hml hv
  obtain ⟨rfl, hsz, hP, hK, hD0⟩ := hv
  have hx := B.exec
  have hb := B.bytes
  have hr := B.returns
  have hts := atoms_spec (ws := Cond.code yX2_firstClash cX2_firstClash 10 (some .int) :: TBL) B.pre
  have ht : ∀ w ∈ TBL, w.before ([.ref o, .int p0, .int p1] : List Value).toArray s = true := fun w h => hts w (List.mem_cons_of_mem _ h)
  clear hts
  have hown : s.vm.findClass RX2 = some m.cls := findClass_of_methodNamed B.named
  have hlocks := B.notSynchronized
  clear B
  subst hsz
  have hD := hD0.self (sz := s.heap.size)
  clear hD0
  generalize hAe : va_A [(o, .inr (2, [.ref o_credits, .ref o_light, .ref o_lit, .ref o_whole, .ref o_ends, .ref o_clashes, .int s_clashPairs, .ref o_reach, .ref o_latest])), (o_credits, .inr (0, [.ref o_credits_cells])), (o_credits_cells, .inl (cI, 82, .inl s_credits_cells)), (o_lit, .inl (cI, 96, .inl s_lit)), (o_ends, .inl (cI, 8, .inl s_ends))] s.heap.size = A at hD ⊢
  have hA : ∀ q : Nat, s.heap.size ≤ q → A q := fun q h => by rw [← hAe]; exact Or.inr h
  clear hAe
  have hS : va_S A s.heap s.heap [] := va_S.rf
  have hP : va_P (dC, dI) vwCl [(o, .inr (2, [.ref o_credits, .ref o_light, .ref o_lit, .ref o_whole, .ref o_ends, .ref o_clashes, .int s_clashPairs, .ref o_reach, .ref o_latest])), (o_credits, .inr (0, [.ref o_credits_cells])), (o_credits_cells, .inl (cI, 82, .inl s_credits_cells)), (o_lit, .inl (cI, 96, .inl s_lit)), (o_ends, .inl (cI, 8, .inl s_ends))] s.heap := hP
  have hl := lv_entry ([.ref o, .int p0, .int p1]) (n := 10) (Nat.le_of_ble_eq_true rfl)
  rw [lg_entry_eq]
  generalize (lg_sl ([.ref o, .int p0, .int p1]) ++ List.replicate (10 - (lg_sl ([.ref o, .int p0, .int p1])).length) Slot.unset).toArray = ls at hl ⊢
  have hl : lv_has ls 10 [(0, .ref o), (1, .int p0), (2, .int p1)] := hl
  generalize hQQ : MQ below _ _ _ 0 0 A = QQ
  show W p l e rm_X2_firstClash s m ([.ref o, .int p0, .int p1] : List Value).toArray below meth c s.heap [] 0 0 QQ (F0 m 0 ls [])
  have L65 : ∀ (x1 : Int32) (x2 : Int32) (x3 : Int32) (x4 : Int32) (K65_154 : Int32 → Prop), (∀ (x5 : Int32), K65_154 x5 → ∀ (H : Heap) (locs : List Loc) (ls : Array Slot), va_P (dC, dI) vwCl [(o, .inr (2, [.ref o_credits, .ref o_light, .ref o_lit, .ref o_whole, .ref o_ends, .ref o_clashes, .int s_clashPairs, .ref o_reach, .ref o_latest])), (o_credits, .inr (0, [.ref o_credits_cells])), (o_credits_cells, .inl (cI, 82, .inl s_credits_cells)), (o_lit, .inl (cI, 96, .inl s_lit)), (o_ends, .inl (cI, 8, .inl s_ends))] H → va_D A [(o, .inr (2, [.ref o_credits, .ref o_light, .ref o_lit, .ref o_whole, .ref o_ends, .ref o_clashes, .int s_clashPairs, .ref o_reach, .ref o_latest])), (o_credits, .inr (0, [.ref o_credits_cells])), (o_credits_cells, .inl (cI, 82, .inl s_credits_cells)), (o_lit, .inl (cI, 96, .inl s_lit)), (o_ends, .inl (cI, 8, .inl s_ends))] → va_S A s.heap H locs → lv_has ls 10 [(4, .int x4), (5, .int x5)] → W p l e rm_X2_firstClash s m ([.ref o, .int p0, .int p1] : List Value).toArray below meth c H locs 0 0 QQ (F0 m 154 ls [])) → ∀ (n : Nat) (x5 : Int32) (x6 : Int32), P_X2_firstClash_L65 x1 x2 x3 s_credits_cells s_lit K65_154 n x5 x6 → ∀ (H : Heap) (locs : List Loc) (ls : Array Slot), va_P (dC, dI) vwCl [(o, .inr (2, [.ref o_credits, .ref o_light, .ref o_lit, .ref o_whole, .ref o_ends, .ref o_clashes, .int s_clashPairs, .ref o_reach, .ref o_latest])), (o_credits, .inr (0, [.ref o_credits_cells])), (o_credits_cells, .inl (cI, 82, .inl s_credits_cells)), (o_lit, .inl (cI, 96, .inl s_lit)), (o_ends, .inl (cI, 8, .inl s_ends))] H → va_D A [(o, .inr (2, [.ref o_credits, .ref o_light, .ref o_lit, .ref o_whole, .ref o_ends, .ref o_clashes, .int s_clashPairs, .ref o_reach, .ref o_latest])), (o_credits, .inr (0, [.ref o_credits_cells])), (o_credits_cells, .inl (cI, 82, .inl s_credits_cells)), (o_lit, .inl (cI, 96, .inl s_lit)), (o_ends, .inl (cI, 8, .inl s_ends))] → va_S A s.heap H locs → lv_has ls 10 [(0, .ref o), (1, .int x1), (2, .int x2), (3, .int x3), (4, .int x4), (5, .int x5), (6, .int x6)] → W p l e rm_X2_firstClash s m ([.ref o, .int p0, .int p1] : List Value).toArray below meth c H locs 0 0 QQ (F0 m 65 ls []) := by
    intro x1 x2 x3 x4 K65_154 hK65_154
    intro n
    induction n with
    | zero => intro x5 x6 hw; rw [P_X2_firstClash_L65_z] at hw; exact hw.elim
    | succ n ih =>
      intro x5 x6 hw
      rw [P_X2_firstClash_L65_s] at hw
      generalize hrec : P_X2_firstClash_L65 x1 x2 x3 s_credits_cells s_lit K65_154 n = rec65 at ih hw
      have J148 : ∀ (x5 : Int32) (x6 : Int32), P_X2_firstClash_J148 rec65 x5 x6 → ∀ (H : Heap) (locs : List Loc) (ls : Array Slot), va_P (dC, dI) vwCl [(o, .inr (2, [.ref o_credits, .ref o_light, .ref o_lit, .ref o_whole, .ref o_ends, .ref o_clashes, .int s_clashPairs, .ref o_reach, .ref o_latest])), (o_credits, .inr (0, [.ref o_credits_cells])), (o_credits_cells, .inl (cI, 82, .inl s_credits_cells)), (o_lit, .inl (cI, 96, .inl s_lit)), (o_ends, .inl (cI, 8, .inl s_ends))] H → va_D A [(o, .inr (2, [.ref o_credits, .ref o_light, .ref o_lit, .ref o_whole, .ref o_ends, .ref o_clashes, .int s_clashPairs, .ref o_reach, .ref o_latest])), (o_credits, .inr (0, [.ref o_credits_cells])), (o_credits_cells, .inl (cI, 82, .inl s_credits_cells)), (o_lit, .inl (cI, 96, .inl s_lit)), (o_ends, .inl (cI, 8, .inl s_ends))] → va_S A s.heap H locs → lv_has ls 10 [(0, .ref o), (1, .int x1), (2, .int x2), (3, .int x3), (4, .int x4), (5, .int x5), (6, .int x6)] → W p l e rm_X2_firstClash s m ([.ref o, .int p0, .int p1] : List Value).toArray below meth c H locs 0 0 QQ (F0 m 148 ls []) := by
        intro x5 x6 hw H locs ls hP hD hS hl
        unfold P_X2_firstClash_J148 at hw
        refine lv_iinc (v := (x6 + 1)) (lv' := [(6, .int (x6 + 1)), (0, .ref o), (1, .int x1), (2, .int x2), (3, .int x3), (4, .int x4), (5, .int x5)]) hx hb dX2_firstClash_148 hl (k := 6) rfl rfl (by decide) rfl (fun ls hl => ?_)
        refine lv_goto (tgt := 65) hx hb dX2_firstClash_151 (by decide) ?_
        exact ih x5 (x6 + 1) hw H locs ls hP hD hS (lv_sub (l' := [(0, .ref o), (1, .int x1), (2, .int x2), (3, .int x3), (4, .int x4), (5, .int x5), (6, .int (x6 + 1))]) hl [1, 2, 3, 4, 5, 6, 0] rfl)
      intro H locs ls hP hD hS hl
      unfold B_X2_firstClash_L65 at hw
      refine lv_iload hx hb dX2_firstClash_65 (lv_at hl 6 rfl) ?_
      refine lv_aload_n hx hb dX2_firstClash_67 rfl (lv_at hl 0 rfl) ?_
      refine va_get (D := (dC, dI)) (ci := 2) (v := .ref o_credits) (C := RX2) (T := TX2) (N := 9) hx hb ht i_X2 hown hK hP 0 rfl rfl 0 (by decide) (ht _ k_39) (fun _ h9 => h9) rfl dX2_firstClash_68 ?_
      refine lv_iload_n hx hb dX2_firstClash_71 rfl (lv_at hl 1 rfl) ?_
      refine lv_iconst (v := 0) hx hb dX2_firstClash_72 (by decide) ?_
      refine gc_Vi (As := [.int x1, .int 0]) (rest := [.int x6]) (wr := [(o, .inr (2, [.ref o_credits, .ref o_light, .ref o_lit, .ref o_whole, .ref o_ends, .ref o_clashes, .int s_clashPairs, .ref o_reach, .ref o_latest])), (o_lit, .inl (cI, 96, .inl s_lit)), (o_ends, .inl (cI, 8, .inl s_ends))]) ⟨hx, hb, hml, hown, ht⟩ (c_X0_ofWord l dC dI cI cJ o_credits o_credits_cells H.size s_credits_cells x1 0 _ hw) (cwV 2 ht (g_V k_214 k_202 k_203 k_2 k_204) rfl rfl rfl (by decide +kernel) ⟨(Nat.le_of_ble_eq_true rfl), (Nat.le_of_ble_eq_true rfl)⟩) hK hP hD hS hA [1, 2] [0, 3, 4] rfl rfl (by decide) 1 rfl rfl rfl rfl hl.1 rfl (Nat.le_of_ble_eq_true rfl) ⟨(Nat.le_of_ble_eq_true rfl), (Nat.le_of_ble_eq_true rfl)⟩ dX2_firstClash_73 (fun r_1 u H locs hw hP hD hS => ?_)
      try dsimp only at hw
      have hP : va_P (dC, dI) vwCl [(o, .inr (2, [.ref o_credits, .ref o_light, .ref o_lit, .ref o_whole, .ref o_ends, .ref o_clashes, .int s_clashPairs, .ref o_reach, .ref o_latest])), (o_lit, .inl (cI, 96, .inl s_lit)), (o_ends, .inl (cI, 8, .inl s_ends)), (o_credits, .inr (0, [.ref o_credits_cells])), (o_credits_cells, .inl (cI, 82, .inl s_credits_cells))] H := hP
      have hD : va_D A [(o, .inr (2, [.ref o_credits, .ref o_light, .ref o_lit, .ref o_whole, .ref o_ends, .ref o_clashes, .int s_clashPairs, .ref o_reach, .ref o_latest])), (o_lit, .inl (cI, 96, .inl s_lit)), (o_ends, .inl (cI, 8, .inl s_ends)), (o_credits, .inr (0, [.ref o_credits_cells])), (o_credits_cells, .inl (cI, 82, .inl s_credits_cells))] := hD
      refine lv_icmp_ge (tgt := 154) hx hb dX2_firstClash_76 (by decide) (fun hc => ?_) (fun hc => ?_)
      · have hw := hw.1 hc
        exact hK65_154 x5 hw H locs ls (hP.sub (ws' := [(o, .inr (2, [.ref o_credits, .ref o_light, .ref o_lit, .ref o_whole, .ref o_ends, .ref o_clashes, .int s_clashPairs, .ref o_reach, .ref o_latest])), (o_credits, .inr (0, [.ref o_credits_cells])), (o_credits_cells, .inl (cI, 82, .inl s_credits_cells)), (o_lit, .inl (cI, 96, .inl s_lit)), (o_ends, .inl (cI, 8, .inl s_ends))]) [0, 3, 4, 1, 2] rfl) (hD.sub (ws' := [(o, .inr (2, [.ref o_credits, .ref o_light, .ref o_lit, .ref o_whole, .ref o_ends, .ref o_clashes, .int s_clashPairs, .ref o_reach, .ref o_latest])), (o_credits, .inr (0, [.ref o_credits_cells])), (o_credits_cells, .inl (cI, 82, .inl s_credits_cells)), (o_lit, .inl (cI, 96, .inl s_lit)), (o_ends, .inl (cI, 8, .inl s_ends))]) [0, 3, 4, 1, 2] (by decide) rfl) hS (lv_sub (l' := [(4, .int x4), (5, .int x5)]) hl [4, 5] rfl)
      · have hw := hw.2 hc
        refine lv_iload hx hb dX2_firstClash_79 (lv_at hl 6 rfl) ?_
        refine lv_iload_n hx hb dX2_firstClash_81 rfl (lv_at hl 3 rfl) ?_
        refine lv_iadd hx hb dX2_firstClash_82 ?_
        refine lv_istore (lv' := [(7, .int (x6 + x3)), (0, .ref o), (1, .int x1), (2, .int x2), (3, .int x3), (4, .int x4), (5, .int x5), (6, .int x6)]) hx hb dX2_firstClash_83 hl (by decide) rfl (fun ls hl => ?_)
        refine lv_iload hx hb dX2_firstClash_85 (lv_at hl 0 rfl) ?_
        refine lv_if_lt (tgt := 148) hx hb dX2_firstClash_87 (by decide) (fun hc => ?_) (fun hc => ?_)
        · have hw := hw.1 hc
          exact J148 x5 x6 hw H locs ls (hP.sub (ws' := [(o, .inr (2, [.ref o_credits, .ref o_light, .ref o_lit, .ref o_whole, .ref o_ends, .ref o_clashes, .int s_clashPairs, .ref o_reach, .ref o_latest])), (o_credits, .inr (0, [.ref o_credits_cells])), (o_credits_cells, .inl (cI, 82, .inl s_credits_cells)), (o_lit, .inl (cI, 96, .inl s_lit)), (o_ends, .inl (cI, 8, .inl s_ends))]) [0, 3, 4, 1, 2] rfl) (hD.sub (ws' := [(o, .inr (2, [.ref o_credits, .ref o_light, .ref o_lit, .ref o_whole, .ref o_ends, .ref o_clashes, .int s_clashPairs, .ref o_reach, .ref o_latest])), (o_credits, .inr (0, [.ref o_credits_cells])), (o_credits_cells, .inl (cI, 82, .inl s_credits_cells)), (o_lit, .inl (cI, 96, .inl s_lit)), (o_ends, .inl (cI, 8, .inl s_ends))]) [0, 3, 4, 1, 2] (by decide) rfl) hS (lv_sub (l' := [(0, .ref o), (1, .int x1), (2, .int x2), (3, .int x3), (4, .int x4), (5, .int x5), (6, .int x6)]) hl [1, 2, 3, 4, 5, 6, 7] rfl)
        · have hw := hw.2 hc
          refine lv_iload hx hb dX2_firstClash_90 (lv_at hl 0 rfl) ?_
          refine lv_aload_n hx hb dX2_firstClash_92 rfl (lv_at hl 1 rfl) ?_
          refine va_get (D := (dC, dI)) (ci := 2) (v := .ref o_credits) (C := RX2) (T := TX2) (N := 9) hx hb ht i_X2 hown hK hP 0 rfl rfl 0 (by decide) (ht _ k_39) (fun _ h9 => h9) rfl dX2_firstClash_93 ?_
          refine lv_iload_n hx hb dX2_firstClash_96 rfl (lv_at hl 3 rfl) ?_
          refine lv_iconst (v := 0) hx hb dX2_firstClash_97 (by decide) ?_
          refine gc_Vi (As := [.int x2, .int 0]) (rest := [.int (x6 + x3)]) (wr := [(o, .inr (2, [.ref o_credits, .ref o_light, .ref o_lit, .ref o_whole, .ref o_ends, .ref o_clashes, .int s_clashPairs, .ref o_reach, .ref o_latest])), (o_lit, .inl (cI, 96, .inl s_lit)), (o_ends, .inl (cI, 8, .inl s_ends))]) ⟨hx, hb, hml, hown, ht⟩ (c_X0_ofWord l dC dI cI cJ o_credits o_credits_cells H.size s_credits_cells x2 0 _ hw) (cwV 2 ht (g_V k_214 k_202 k_203 k_2 k_204) rfl rfl rfl (by decide +kernel) ⟨(Nat.le_of_ble_eq_true rfl), (Nat.le_of_ble_eq_true rfl)⟩) hK hP hD hS hA [3, 4] [0, 1, 2] rfl rfl (by decide) 3 rfl rfl rfl rfl hl.1 rfl (Nat.le_of_ble_eq_true rfl) ⟨(Nat.le_of_ble_eq_true rfl), (Nat.le_of_ble_eq_true rfl)⟩ dX2_firstClash_98 (fun r_2 u H locs hw hP hD hS => ?_)
          try dsimp only at hw
          have hP : va_P (dC, dI) vwCl [(o, .inr (2, [.ref o_credits, .ref o_light, .ref o_lit, .ref o_whole, .ref o_ends, .ref o_clashes, .int s_clashPairs, .ref o_reach, .ref o_latest])), (o_lit, .inl (cI, 96, .inl s_lit)), (o_ends, .inl (cI, 8, .inl s_ends)), (o_credits, .inr (0, [.ref o_credits_cells])), (o_credits_cells, .inl (cI, 82, .inl s_credits_cells))] H := hP
          have hD : va_D A [(o, .inr (2, [.ref o_credits, .ref o_light, .ref o_lit, .ref o_whole, .ref o_ends, .ref o_clashes, .int s_clashPairs, .ref o_reach, .ref o_latest])), (o_lit, .inl (cI, 96, .inl s_lit)), (o_ends, .inl (cI, 8, .inl s_ends)), (o_credits, .inr (0, [.ref o_credits_cells])), (o_credits_cells, .inl (cI, 82, .inl s_credits_cells))] := hD
          refine lv_icmp_ge (tgt := 148) hx hb dX2_firstClash_101 (by decide) (fun hc => ?_) (fun hc => ?_)
          · have hw := hw.1 hc
            exact J148 x5 x6 hw H locs ls (hP.sub (ws' := [(o, .inr (2, [.ref o_credits, .ref o_light, .ref o_lit, .ref o_whole, .ref o_ends, .ref o_clashes, .int s_clashPairs, .ref o_reach, .ref o_latest])), (o_credits, .inr (0, [.ref o_credits_cells])), (o_credits_cells, .inl (cI, 82, .inl s_credits_cells)), (o_lit, .inl (cI, 96, .inl s_lit)), (o_ends, .inl (cI, 8, .inl s_ends))]) [0, 3, 4, 1, 2] rfl) (hD.sub (ws' := [(o, .inr (2, [.ref o_credits, .ref o_light, .ref o_lit, .ref o_whole, .ref o_ends, .ref o_clashes, .int s_clashPairs, .ref o_reach, .ref o_latest])), (o_credits, .inr (0, [.ref o_credits_cells])), (o_credits_cells, .inl (cI, 82, .inl s_credits_cells)), (o_lit, .inl (cI, 96, .inl s_lit)), (o_ends, .inl (cI, 8, .inl s_ends))]) [0, 3, 4, 1, 2] (by decide) rfl) hS (lv_sub (l' := [(0, .ref o), (1, .int x1), (2, .int x2), (3, .int x3), (4, .int x4), (5, .int x5), (6, .int x6)]) hl [1, 2, 3, 4, 5, 6, 7] rfl)
          · have hw := hw.2 hc
            refine lv_aload_n hx hb dX2_firstClash_104 rfl (lv_at hl 1 rfl) ?_
            refine lv_iload_n hx hb dX2_firstClash_105 rfl (lv_at hl 2 rfl) ?_
            refine lv_iload hx hb dX2_firstClash_106 (lv_at hl 7 rfl) ?_
            refine gc_Vi (As := [.int x1, .int x6]) (rest := []) (wr := [(o_ends, .inl (cI, 8, .inl s_ends)), (o_credits, .inr (0, [.ref o_credits_cells])), (o_credits_cells, .inl (cI, 82, .inl s_credits_cells))]) ⟨hx, hb, hml, hown, ht⟩ (c_X2_litBeat l dC dI cI cJ o o_credits o_light o_lit o_whole o_ends o_clashes o_reach o_latest H.size s_lit s_clashPairs x1 x6 _ hw) (cwV 2 ht (g_V k_215 k_216 k_217 k_3 k_218) rfl rfl rfl (by decide +kernel) ⟨(Nat.le_of_ble_eq_true rfl), (Nat.le_of_ble_eq_true rfl)⟩) hK hP hD hS hA [0, 1] [2, 3, 4] rfl rfl (by decide) 0 rfl rfl rfl rfl hl.1 rfl (Nat.le_of_ble_eq_true rfl) ⟨(Nat.le_of_ble_eq_true rfl), (Nat.le_of_ble_eq_true rfl)⟩ dX2_firstClash_108 (fun r_3 u H locs hw hP hD hS => ?_)
            try dsimp only at hw
            have hP : va_P (dC, dI) vwCl [(o_ends, .inl (cI, 8, .inl s_ends)), (o_credits, .inr (0, [.ref o_credits_cells])), (o_credits_cells, .inl (cI, 82, .inl s_credits_cells)), (o, .inr (2, [.ref o_credits, .ref o_light, .ref o_lit, .ref o_whole, .ref o_ends, .ref o_clashes, .int s_clashPairs, .ref o_reach, .ref o_latest])), (o_lit, .inl (cI, 96, .inl s_lit))] H := hP
            have hD : va_D A [(o_ends, .inl (cI, 8, .inl s_ends)), (o_credits, .inr (0, [.ref o_credits_cells])), (o_credits_cells, .inl (cI, 82, .inl s_credits_cells)), (o, .inr (2, [.ref o_credits, .ref o_light, .ref o_lit, .ref o_whole, .ref o_ends, .ref o_clashes, .int s_clashPairs, .ref o_reach, .ref o_latest])), (o_lit, .inl (cI, 96, .inl s_lit))] := hD
            refine lv_istore (lv' := [(8, .int r_3), (7, .int (x6 + x3)), (0, .ref o), (1, .int x1), (2, .int x2), (3, .int x3), (4, .int x4), (5, .int x5), (6, .int x6)]) hx hb dX2_firstClash_111 hl (by decide) rfl (fun ls hl => ?_)
            refine lv_aload_n hx hb dX2_firstClash_113 rfl (lv_at hl 2 rfl) ?_
            refine lv_iload_n hx hb dX2_firstClash_114 rfl (lv_at hl 4 rfl) ?_
            refine lv_iload hx hb dX2_firstClash_115 (lv_at hl 1 rfl) ?_
            refine gc_Vi (As := [.int x2, .int (x6 + x3)]) (rest := []) (wr := [(o_ends, .inl (cI, 8, .inl s_ends)), (o_credits, .inr (0, [.ref o_credits_cells])), (o_credits_cells, .inl (cI, 82, .inl s_credits_cells))]) ⟨hx, hb, hml, hown, ht⟩ (c_X2_litBeat l dC dI cI cJ o o_credits o_light o_lit o_whole o_ends o_clashes o_reach o_latest H.size s_lit s_clashPairs x2 (x6 + x3) _ hw) (cwV 2 ht (g_V k_215 k_216 k_217 k_3 k_218) rfl rfl rfl (by decide +kernel) ⟨(Nat.le_of_ble_eq_true rfl), (Nat.le_of_ble_eq_true rfl)⟩) hK hP hD hS hA [3, 4] [0, 1, 2] rfl rfl (by decide) 3 rfl rfl rfl rfl hl.1 rfl (Nat.le_of_ble_eq_true rfl) ⟨(Nat.le_of_ble_eq_true rfl), (Nat.le_of_ble_eq_true rfl)⟩ dX2_firstClash_117 (fun r_4 u H locs hw hP hD hS => ?_)
            try dsimp only at hw
            have hP : va_P (dC, dI) vwCl [(o_ends, .inl (cI, 8, .inl s_ends)), (o_credits, .inr (0, [.ref o_credits_cells])), (o_credits_cells, .inl (cI, 82, .inl s_credits_cells)), (o, .inr (2, [.ref o_credits, .ref o_light, .ref o_lit, .ref o_whole, .ref o_ends, .ref o_clashes, .int s_clashPairs, .ref o_reach, .ref o_latest])), (o_lit, .inl (cI, 96, .inl s_lit))] H := hP
            have hD : va_D A [(o_ends, .inl (cI, 8, .inl s_ends)), (o_credits, .inr (0, [.ref o_credits_cells])), (o_credits_cells, .inl (cI, 82, .inl s_credits_cells)), (o, .inr (2, [.ref o_credits, .ref o_light, .ref o_lit, .ref o_whole, .ref o_ends, .ref o_clashes, .int s_clashPairs, .ref o_reach, .ref o_latest])), (o_lit, .inl (cI, 96, .inl s_lit))] := hD
            refine lv_istore (lv' := [(9, .int r_4), (8, .int r_3), (7, .int (x6 + x3)), (0, .ref o), (1, .int x1), (2, .int x2), (3, .int x3), (4, .int x4), (5, .int x5), (6, .int x6)]) hx hb dX2_firstClash_120 hl (by decide) rfl (fun ls hl => ?_)
            refine lv_iload hx hb dX2_firstClash_122 (lv_at hl 1 rfl) ?_
            refine lv_iconst (v := (-1)) hx hb dX2_firstClash_124 (by decide) ?_
            refine lv_icmp_eq (tgt := 148) hx hb dX2_firstClash_125 (by decide) (fun hc => ?_) (fun hc => ?_)
            · have hw := hw.1 hc
              exact J148 x5 x6 hw H locs ls (hP.sub (ws' := [(o, .inr (2, [.ref o_credits, .ref o_light, .ref o_lit, .ref o_whole, .ref o_ends, .ref o_clashes, .int s_clashPairs, .ref o_reach, .ref o_latest])), (o_credits, .inr (0, [.ref o_credits_cells])), (o_credits_cells, .inl (cI, 82, .inl s_credits_cells)), (o_lit, .inl (cI, 96, .inl s_lit)), (o_ends, .inl (cI, 8, .inl s_ends))]) [3, 1, 2, 4, 0] rfl) (hD.sub (ws' := [(o, .inr (2, [.ref o_credits, .ref o_light, .ref o_lit, .ref o_whole, .ref o_ends, .ref o_clashes, .int s_clashPairs, .ref o_reach, .ref o_latest])), (o_credits, .inr (0, [.ref o_credits_cells])), (o_credits_cells, .inl (cI, 82, .inl s_credits_cells)), (o_lit, .inl (cI, 96, .inl s_lit)), (o_ends, .inl (cI, 8, .inl s_ends))]) [3, 1, 2, 4, 0] (by decide) rfl) hS (lv_sub (l' := [(0, .ref o), (1, .int x1), (2, .int x2), (3, .int x3), (4, .int x4), (5, .int x5), (6, .int x6)]) hl [3, 4, 5, 6, 7, 8, 9] rfl)
            · have hw := hw.2 hc
              refine lv_iload hx hb dX2_firstClash_128 (lv_at hl 0 rfl) ?_
              refine lv_iconst (v := (-1)) hx hb dX2_firstClash_130 (by decide) ?_
              refine lv_icmp_eq (tgt := 148) hx hb dX2_firstClash_131 (by decide) (fun hc => ?_) (fun hc => ?_)
              · have hw := hw.1 hc
                exact J148 x5 x6 hw H locs ls (hP.sub (ws' := [(o, .inr (2, [.ref o_credits, .ref o_light, .ref o_lit, .ref o_whole, .ref o_ends, .ref o_clashes, .int s_clashPairs, .ref o_reach, .ref o_latest])), (o_credits, .inr (0, [.ref o_credits_cells])), (o_credits_cells, .inl (cI, 82, .inl s_credits_cells)), (o_lit, .inl (cI, 96, .inl s_lit)), (o_ends, .inl (cI, 8, .inl s_ends))]) [3, 1, 2, 4, 0] rfl) (hD.sub (ws' := [(o, .inr (2, [.ref o_credits, .ref o_light, .ref o_lit, .ref o_whole, .ref o_ends, .ref o_clashes, .int s_clashPairs, .ref o_reach, .ref o_latest])), (o_credits, .inr (0, [.ref o_credits_cells])), (o_credits_cells, .inl (cI, 82, .inl s_credits_cells)), (o_lit, .inl (cI, 96, .inl s_lit)), (o_ends, .inl (cI, 8, .inl s_ends))]) [3, 1, 2, 4, 0] (by decide) rfl) hS (lv_sub (l' := [(0, .ref o), (1, .int x1), (2, .int x2), (3, .int x3), (4, .int x4), (5, .int x5), (6, .int x6)]) hl [3, 4, 5, 6, 7, 8, 9] rfl)
              · have hw := hw.2 hc
                refine lv_iload hx hb dX2_firstClash_134 (lv_at hl 8 rfl) ?_
                refine lv_iload hx hb dX2_firstClash_136 (lv_at hl 1 rfl) ?_
                refine lv_iload hx hb dX2_firstClash_138 (lv_at hl 0 rfl) ?_
                refine va_mmax hx hb (hml.trans hl.1.symm) hown (ht _ k_231) (ht _ k_232) (ht _ k_9) (ht _ k_233) (Nat.le_of_ble_eq_true rfl) (Nat.le_of_ble_eq_true rfl) (Nat.zero_le _) (Nat.zero_le _) dX2_firstClash_140 ?_
                refine va_mmin hx hb (hml.trans hl.1.symm) hown (ht _ k_407) (ht _ k_347) (ht _ k_9) (ht _ k_348) (Nat.le_of_ble_eq_true rfl) (Nat.le_of_ble_eq_true rfl) (Nat.zero_le _) (Nat.zero_le _) dX2_firstClash_143 ?_
                refine lv_istore (lv' := [(5, .int (if (if r_3 < r_4 then r_4 else r_3) < x5 then (if r_3 < r_4 then r_4 else r_3) else x5)), (9, .int r_4), (8, .int r_3), (7, .int (x6 + x3)), (0, .ref o), (1, .int x1), (2, .int x2), (3, .int x3), (4, .int x4), (6, .int x6)]) hx hb dX2_firstClash_146 hl (by decide) rfl (fun ls hl => ?_)
                exact J148 (if (if r_3 < r_4 then r_4 else r_3) < x5 then (if r_3 < r_4 then r_4 else r_3) else x5) x6 hw H locs ls (hP.sub (ws' := [(o, .inr (2, [.ref o_credits, .ref o_light, .ref o_lit, .ref o_whole, .ref o_ends, .ref o_clashes, .int s_clashPairs, .ref o_reach, .ref o_latest])), (o_credits, .inr (0, [.ref o_credits_cells])), (o_credits_cells, .inl (cI, 82, .inl s_credits_cells)), (o_lit, .inl (cI, 96, .inl s_lit)), (o_ends, .inl (cI, 8, .inl s_ends))]) [3, 1, 2, 4, 0] rfl) (hD.sub (ws' := [(o, .inr (2, [.ref o_credits, .ref o_light, .ref o_lit, .ref o_whole, .ref o_ends, .ref o_clashes, .int s_clashPairs, .ref o_reach, .ref o_latest])), (o_credits, .inr (0, [.ref o_credits_cells])), (o_credits_cells, .inl (cI, 82, .inl s_credits_cells)), (o_lit, .inl (cI, 96, .inl s_lit)), (o_ends, .inl (cI, 8, .inl s_ends))]) [3, 1, 2, 4, 0] (by decide) rfl) hS (lv_sub (l' := [(0, .ref o), (1, .int x1), (2, .int x2), (3, .int x3), (4, .int x4), (5, .int (if (if r_3 < r_4 then r_4 else r_3) < x5 then (if r_3 < r_4 then r_4 else r_3) else x5)), (6, .int x6)]) hl [4, 5, 6, 7, 8, 0, 9] rfl)
  obtain ⟨H, hHH⟩ : ∃ H, H = s.heap := ⟨_, rfl⟩
  rw [← hHH] at hP ⊢
  have hS : va_S A s.heap H [] := by rw [hHH]; exact hS
  clear hHH
  generalize ([] : List Loc) = locs at hS ⊢
  unfold P_X2_firstClash at hw
  refine lv_aload_n hx hb dX2_firstClash_0 rfl (lv_at hl 0 rfl) ?_
  refine va_get (D := (dC, dI)) (ci := 2) (v := .ref o_credits) (C := RX2) (T := TX2) (N := 9) hx hb ht i_X2 hown hK hP 0 rfl rfl 0 (by decide) (ht _ k_39) (fun _ h9 => h9) rfl dX2_firstClash_1 ?_
  refine lv_iload_n hx hb dX2_firstClash_4 rfl (lv_at hl 1 rfl) ?_
  refine lv_iconst (v := 1) hx hb dX2_firstClash_5 (by decide) ?_
  refine gc_Vi (As := [.int p0, .int 1]) (rest := []) (wr := [(o, .inr (2, [.ref o_credits, .ref o_light, .ref o_lit, .ref o_whole, .ref o_ends, .ref o_clashes, .int s_clashPairs, .ref o_reach, .ref o_latest])), (o_lit, .inl (cI, 96, .inl s_lit)), (o_ends, .inl (cI, 8, .inl s_ends))]) ⟨hx, hb, hml, hown, ht⟩ (c_X0_ofWord l dC dI cI cJ o_credits o_credits_cells H.size s_credits_cells p0 1 _ hw) (cwV 2 ht (g_V k_214 k_202 k_203 k_2 k_204) rfl rfl rfl (by decide +kernel) ⟨(Nat.le_of_ble_eq_true rfl), (Nat.le_of_ble_eq_true rfl)⟩) hK hP hD hS hA [1, 2] [0, 3, 4] rfl rfl (by decide) 1 rfl rfl rfl rfl hl.1 rfl (Nat.le_of_ble_eq_true rfl) ⟨(Nat.le_of_ble_eq_true rfl), (Nat.le_of_ble_eq_true rfl)⟩ dX2_firstClash_6 (fun r_5 u H locs hw hP hD hS => ?_)
  try dsimp only at hw
  have hP : va_P (dC, dI) vwCl [(o, .inr (2, [.ref o_credits, .ref o_light, .ref o_lit, .ref o_whole, .ref o_ends, .ref o_clashes, .int s_clashPairs, .ref o_reach, .ref o_latest])), (o_lit, .inl (cI, 96, .inl s_lit)), (o_ends, .inl (cI, 8, .inl s_ends)), (o_credits, .inr (0, [.ref o_credits_cells])), (o_credits_cells, .inl (cI, 82, .inl s_credits_cells))] H := hP
  have hD : va_D A [(o, .inr (2, [.ref o_credits, .ref o_light, .ref o_lit, .ref o_whole, .ref o_ends, .ref o_clashes, .int s_clashPairs, .ref o_reach, .ref o_latest])), (o_lit, .inl (cI, 96, .inl s_lit)), (o_ends, .inl (cI, 8, .inl s_ends)), (o_credits, .inr (0, [.ref o_credits_cells])), (o_credits_cells, .inl (cI, 82, .inl s_credits_cells))] := hD
  refine lv_aload_n hx hb dX2_firstClash_9 rfl (lv_at hl 0 rfl) ?_
  refine va_get (D := (dC, dI)) (ci := 2) (v := .ref o_credits) (C := RX2) (T := TX2) (N := 9) hx hb ht i_X2 hown hK hP 0 rfl rfl 0 (by decide) (ht _ k_39) (fun _ h9 => h9) rfl dX2_firstClash_10 ?_
  refine lv_iload_n hx hb dX2_firstClash_13 rfl (lv_at hl 2 rfl) ?_
  refine lv_iconst (v := 1) hx hb dX2_firstClash_14 (by decide) ?_
  refine gc_Vi (As := [.int p1, .int 1]) (rest := [.int r_5]) (wr := [(o, .inr (2, [.ref o_credits, .ref o_light, .ref o_lit, .ref o_whole, .ref o_ends, .ref o_clashes, .int s_clashPairs, .ref o_reach, .ref o_latest])), (o_lit, .inl (cI, 96, .inl s_lit)), (o_ends, .inl (cI, 8, .inl s_ends))]) ⟨hx, hb, hml, hown, ht⟩ (c_X0_ofWord l dC dI cI cJ o_credits o_credits_cells H.size s_credits_cells p1 1 _ hw) (cwV 2 ht (g_V k_214 k_202 k_203 k_2 k_204) rfl rfl rfl (by decide +kernel) ⟨(Nat.le_of_ble_eq_true rfl), (Nat.le_of_ble_eq_true rfl)⟩) hK hP hD hS hA [3, 4] [0, 1, 2] rfl rfl (by decide) 3 rfl rfl rfl rfl hl.1 rfl (Nat.le_of_ble_eq_true rfl) ⟨(Nat.le_of_ble_eq_true rfl), (Nat.le_of_ble_eq_true rfl)⟩ dX2_firstClash_15 (fun r_6 u H locs hw hP hD hS => ?_)
  try dsimp only at hw
  have hP : va_P (dC, dI) vwCl [(o, .inr (2, [.ref o_credits, .ref o_light, .ref o_lit, .ref o_whole, .ref o_ends, .ref o_clashes, .int s_clashPairs, .ref o_reach, .ref o_latest])), (o_lit, .inl (cI, 96, .inl s_lit)), (o_ends, .inl (cI, 8, .inl s_ends)), (o_credits, .inr (0, [.ref o_credits_cells])), (o_credits_cells, .inl (cI, 82, .inl s_credits_cells))] H := hP
  have hD : va_D A [(o, .inr (2, [.ref o_credits, .ref o_light, .ref o_lit, .ref o_whole, .ref o_ends, .ref o_clashes, .int s_clashPairs, .ref o_reach, .ref o_latest])), (o_lit, .inl (cI, 96, .inl s_lit)), (o_ends, .inl (cI, 8, .inl s_ends)), (o_credits, .inr (0, [.ref o_credits_cells])), (o_credits_cells, .inl (cI, 82, .inl s_credits_cells))] := hD
  refine lv_icmp_eq (tgt := 23) hx hb dX2_firstClash_18 (by decide) (fun hc => ?_) (fun hc => ?_)
  · have hw := hw.1 hc
    refine lv_aload_n hx hb dX2_firstClash_23 rfl (lv_at hl 0 rfl) ?_
    refine va_get (D := (dC, dI)) (ci := 2) (v := .ref o_credits) (C := RX2) (T := TX2) (N := 9) hx hb ht i_X2 hown hK hP 0 rfl rfl 0 (by decide) (ht _ k_39) (fun _ h9 => h9) rfl dX2_firstClash_24 ?_
    refine lv_iload_n hx hb dX2_firstClash_27 rfl (lv_at hl 1 rfl) ?_
    refine lv_iconst (v := 2) hx hb dX2_firstClash_28 (by decide) ?_
    refine gc_Vi (As := [.int p0, .int 2]) (rest := []) (wr := [(o, .inr (2, [.ref o_credits, .ref o_light, .ref o_lit, .ref o_whole, .ref o_ends, .ref o_clashes, .int s_clashPairs, .ref o_reach, .ref o_latest])), (o_lit, .inl (cI, 96, .inl s_lit)), (o_ends, .inl (cI, 8, .inl s_ends))]) ⟨hx, hb, hml, hown, ht⟩ (c_X0_ofWord l dC dI cI cJ o_credits o_credits_cells H.size s_credits_cells p0 2 _ hw) (cwV 2 ht (g_V k_214 k_202 k_203 k_2 k_204) rfl rfl rfl (by decide +kernel) ⟨(Nat.le_of_ble_eq_true rfl), (Nat.le_of_ble_eq_true rfl)⟩) hK hP hD hS hA [3, 4] [0, 1, 2] rfl rfl (by decide) 3 rfl rfl rfl rfl hl.1 rfl (Nat.le_of_ble_eq_true rfl) ⟨(Nat.le_of_ble_eq_true rfl), (Nat.le_of_ble_eq_true rfl)⟩ dX2_firstClash_29 (fun r_7 u H locs hw hP hD hS => ?_)
    try dsimp only at hw
    have hP : va_P (dC, dI) vwCl [(o, .inr (2, [.ref o_credits, .ref o_light, .ref o_lit, .ref o_whole, .ref o_ends, .ref o_clashes, .int s_clashPairs, .ref o_reach, .ref o_latest])), (o_lit, .inl (cI, 96, .inl s_lit)), (o_ends, .inl (cI, 8, .inl s_ends)), (o_credits, .inr (0, [.ref o_credits_cells])), (o_credits_cells, .inl (cI, 82, .inl s_credits_cells))] H := hP
    have hD : va_D A [(o, .inr (2, [.ref o_credits, .ref o_light, .ref o_lit, .ref o_whole, .ref o_ends, .ref o_clashes, .int s_clashPairs, .ref o_reach, .ref o_latest])), (o_lit, .inl (cI, 96, .inl s_lit)), (o_ends, .inl (cI, 8, .inl s_ends)), (o_credits, .inr (0, [.ref o_credits_cells])), (o_credits_cells, .inl (cI, 82, .inl s_credits_cells))] := hD
    refine lv_aload_n hx hb dX2_firstClash_32 rfl (lv_at hl 0 rfl) ?_
    refine va_get (D := (dC, dI)) (ci := 2) (v := .ref o_credits) (C := RX2) (T := TX2) (N := 9) hx hb ht i_X2 hown hK hP 0 rfl rfl 0 (by decide) (ht _ k_39) (fun _ h9 => h9) rfl dX2_firstClash_33 ?_
    refine lv_iload_n hx hb dX2_firstClash_36 rfl (lv_at hl 2 rfl) ?_
    refine lv_iconst (v := 2) hx hb dX2_firstClash_37 (by decide) ?_
    refine gc_Vi (As := [.int p1, .int 2]) (rest := [.int r_7]) (wr := [(o, .inr (2, [.ref o_credits, .ref o_light, .ref o_lit, .ref o_whole, .ref o_ends, .ref o_clashes, .int s_clashPairs, .ref o_reach, .ref o_latest])), (o_lit, .inl (cI, 96, .inl s_lit)), (o_ends, .inl (cI, 8, .inl s_ends))]) ⟨hx, hb, hml, hown, ht⟩ (c_X0_ofWord l dC dI cI cJ o_credits o_credits_cells H.size s_credits_cells p1 2 _ hw) (cwV 2 ht (g_V k_214 k_202 k_203 k_2 k_204) rfl rfl rfl (by decide +kernel) ⟨(Nat.le_of_ble_eq_true rfl), (Nat.le_of_ble_eq_true rfl)⟩) hK hP hD hS hA [3, 4] [0, 1, 2] rfl rfl (by decide) 3 rfl rfl rfl rfl hl.1 rfl (Nat.le_of_ble_eq_true rfl) ⟨(Nat.le_of_ble_eq_true rfl), (Nat.le_of_ble_eq_true rfl)⟩ dX2_firstClash_38 (fun r_8 u H locs hw hP hD hS => ?_)
    try dsimp only at hw
    have hP : va_P (dC, dI) vwCl [(o, .inr (2, [.ref o_credits, .ref o_light, .ref o_lit, .ref o_whole, .ref o_ends, .ref o_clashes, .int s_clashPairs, .ref o_reach, .ref o_latest])), (o_lit, .inl (cI, 96, .inl s_lit)), (o_ends, .inl (cI, 8, .inl s_ends)), (o_credits, .inr (0, [.ref o_credits_cells])), (o_credits_cells, .inl (cI, 82, .inl s_credits_cells))] H := hP
    have hD : va_D A [(o, .inr (2, [.ref o_credits, .ref o_light, .ref o_lit, .ref o_whole, .ref o_ends, .ref o_clashes, .int s_clashPairs, .ref o_reach, .ref o_latest])), (o_lit, .inl (cI, 96, .inl s_lit)), (o_ends, .inl (cI, 8, .inl s_ends)), (o_credits, .inr (0, [.ref o_credits_cells])), (o_credits_cells, .inl (cI, 82, .inl s_credits_cells))] := hD
    refine lv_isub hx hb dX2_firstClash_41 ?_
    refine lv_istore_n (lv' := [(3, .int (r_7 - r_8)), (0, .ref o), (1, .int p0), (2, .int p1)]) hx hb dX2_firstClash_42 rfl hl (by decide) rfl (fun ls hl => ?_)
    refine lv_aload_n hx hb dX2_firstClash_43 rfl (lv_at hl 1 rfl) ?_
    refine lv_iload_n hx hb dX2_firstClash_44 rfl (lv_at hl 2 rfl) ?_
    refine gc_Vi (As := [.int p0]) (rest := []) (wr := [(o_lit, .inl (cI, 96, .inl s_lit)), (o_credits, .inr (0, [.ref o_credits_cells])), (o_credits_cells, .inl (cI, 82, .inl s_credits_cells))]) ⟨hx, hb, hml, hown, ht⟩ (c_X2_endOf l dC dI cI cJ o o_credits o_light o_lit o_whole o_ends o_clashes o_reach o_latest H.size s_ends s_clashPairs p0 _ hw) (cwV 1 ht (g_V k_250 k_252 k_s2 k_3 k_253) rfl rfl rfl (by decide +kernel) ⟨(Nat.le_of_ble_eq_true rfl), (Nat.le_of_ble_eq_true rfl)⟩) hK hP hD hS hA [0, 2] [1, 3, 4] rfl rfl (by decide) 0 rfl rfl rfl rfl hl.1 rfl (Nat.le_of_ble_eq_true rfl) ⟨(Nat.le_of_ble_eq_true rfl), (Nat.le_of_ble_eq_true rfl)⟩ dX2_firstClash_45 (fun r_9 u H locs hw hP hD hS => ?_)
    try dsimp only at hw
    have hP : va_P (dC, dI) vwCl [(o_lit, .inl (cI, 96, .inl s_lit)), (o_credits, .inr (0, [.ref o_credits_cells])), (o_credits_cells, .inl (cI, 82, .inl s_credits_cells)), (o, .inr (2, [.ref o_credits, .ref o_light, .ref o_lit, .ref o_whole, .ref o_ends, .ref o_clashes, .int s_clashPairs, .ref o_reach, .ref o_latest])), (o_ends, .inl (cI, 8, .inl s_ends))] H := hP
    have hD : va_D A [(o_lit, .inl (cI, 96, .inl s_lit)), (o_credits, .inr (0, [.ref o_credits_cells])), (o_credits_cells, .inl (cI, 82, .inl s_credits_cells)), (o, .inr (2, [.ref o_credits, .ref o_light, .ref o_lit, .ref o_whole, .ref o_ends, .ref o_clashes, .int s_clashPairs, .ref o_reach, .ref o_latest])), (o_ends, .inl (cI, 8, .inl s_ends))] := hD
    refine lv_aload_n hx hb dX2_firstClash_48 rfl (lv_at hl 1 rfl) ?_
    refine lv_iload_n hx hb dX2_firstClash_49 rfl (lv_at hl 3 rfl) ?_
    refine gc_Vi (As := [.int p1]) (rest := [.int r_9]) (wr := [(o_lit, .inl (cI, 96, .inl s_lit)), (o_credits, .inr (0, [.ref o_credits_cells])), (o_credits_cells, .inl (cI, 82, .inl s_credits_cells))]) ⟨hx, hb, hml, hown, ht⟩ (c_X2_endOf l dC dI cI cJ o o_credits o_light o_lit o_whole o_ends o_clashes o_reach o_latest H.size s_ends s_clashPairs p1 _ hw) (cwV 1 ht (g_V k_250 k_252 k_s2 k_3 k_253) rfl rfl rfl (by decide +kernel) ⟨(Nat.le_of_ble_eq_true rfl), (Nat.le_of_ble_eq_true rfl)⟩) hK hP hD hS hA [3, 4] [0, 1, 2] rfl rfl (by decide) 3 rfl rfl rfl rfl hl.1 rfl (Nat.le_of_ble_eq_true rfl) ⟨(Nat.le_of_ble_eq_true rfl), (Nat.le_of_ble_eq_true rfl)⟩ dX2_firstClash_50 (fun r_10 u H locs hw hP hD hS => ?_)
    try dsimp only at hw
    have hP : va_P (dC, dI) vwCl [(o_lit, .inl (cI, 96, .inl s_lit)), (o_credits, .inr (0, [.ref o_credits_cells])), (o_credits_cells, .inl (cI, 82, .inl s_credits_cells)), (o, .inr (2, [.ref o_credits, .ref o_light, .ref o_lit, .ref o_whole, .ref o_ends, .ref o_clashes, .int s_clashPairs, .ref o_reach, .ref o_latest])), (o_ends, .inl (cI, 8, .inl s_ends))] H := hP
    have hD : va_D A [(o_lit, .inl (cI, 96, .inl s_lit)), (o_credits, .inr (0, [.ref o_credits_cells])), (o_credits_cells, .inl (cI, 82, .inl s_credits_cells)), (o, .inr (2, [.ref o_credits, .ref o_light, .ref o_lit, .ref o_whole, .ref o_ends, .ref o_clashes, .int s_clashPairs, .ref o_reach, .ref o_latest])), (o_ends, .inl (cI, 8, .inl s_ends))] := hD
    refine va_mmin hx hb (hml.trans hl.1.symm) hown (ht _ k_407) (ht _ k_347) (ht _ k_9) (ht _ k_348) (Nat.le_of_ble_eq_true rfl) (Nat.le_of_ble_eq_true rfl) (Nat.zero_le _) (Nat.zero_le _) dX2_firstClash_53 ?_
    refine lv_istore (lv' := [(4, .int (if r_10 < r_9 then r_10 else r_9)), (3, .int (r_7 - r_8)), (0, .ref o), (1, .int p0), (2, .int p1)]) hx hb dX2_firstClash_56 hl (by decide) rfl (fun ls hl => ?_)
    refine lv_iload hx hb dX2_firstClash_58 (lv_at hl 0 rfl) ?_
    refine lv_istore (lv' := [(5, .int (if r_10 < r_9 then r_10 else r_9)), (4, .int (if r_10 < r_9 then r_10 else r_9)), (3, .int (r_7 - r_8)), (0, .ref o), (1, .int p0), (2, .int p1)]) hx hb dX2_firstClash_60 hl (by decide) rfl (fun ls hl => ?_)
    refine lv_iconst (v := 0) hx hb dX2_firstClash_62 (by decide) ?_
    refine lv_istore (lv' := [(6, .int 0), (5, .int (if r_10 < r_9 then r_10 else r_9)), (4, .int (if r_10 < r_9 then r_10 else r_9)), (3, .int (r_7 - r_8)), (0, .ref o), (1, .int p0), (2, .int p1)]) hx hb dX2_firstClash_63 hl (by decide) rfl (fun ls hl => ?_)
    obtain ⟨n, hw⟩ := hw
    refine L65 p0 p1 (r_7 - r_8) (if r_10 < r_9 then r_10 else r_9) _ (fun x5_11 hw H locs ls hP hD hS hl => ?_) n (if r_10 < r_9 then r_10 else r_9) 0 hw H locs ls (hP.sub (ws' := [(o, .inr (2, [.ref o_credits, .ref o_light, .ref o_lit, .ref o_whole, .ref o_ends, .ref o_clashes, .int s_clashPairs, .ref o_reach, .ref o_latest])), (o_credits, .inr (0, [.ref o_credits_cells])), (o_credits_cells, .inl (cI, 82, .inl s_credits_cells)), (o_lit, .inl (cI, 96, .inl s_lit)), (o_ends, .inl (cI, 8, .inl s_ends))]) [3, 1, 2, 0, 4] rfl) (hD.sub (ws' := [(o, .inr (2, [.ref o_credits, .ref o_light, .ref o_lit, .ref o_whole, .ref o_ends, .ref o_clashes, .int s_clashPairs, .ref o_reach, .ref o_latest])), (o_credits, .inr (0, [.ref o_credits_cells])), (o_credits_cells, .inl (cI, 82, .inl s_credits_cells)), (o_lit, .inl (cI, 96, .inl s_lit)), (o_ends, .inl (cI, 8, .inl s_ends))]) [3, 1, 2, 0, 4] (by decide) rfl) hS (lv_sub (l' := [(0, .ref o), (1, .int p0), (2, .int p1), (3, .int (r_7 - r_8)), (4, .int (if r_10 < r_9 then r_10 else r_9)), (5, .int (if r_10 < r_9 then r_10 else r_9)), (6, .int 0)]) hl [4, 5, 6, 3, 2, 1, 0] rfl)
    refine lv_iload hx hb dX2_firstClash_154 (lv_at hl 1 rfl) ?_
    refine lv_iload hx hb dX2_firstClash_156 (lv_at hl 0 rfl) ?_
    refine lv_icmp_ge (tgt := 166) hx hb dX2_firstClash_158 (by decide) (fun hc => ?_) (fun hc => ?_)
    · have hw := hw.1 hc
      refine lv_iconst (v := (-1)) hx hb dX2_firstClash_166 (by decide) ?_
      rw [← hQQ]
      exact g_reti (v := (-1)) (u := ()) hx hb hr rfl hlocks hw hP hK hD hS dX2_firstClash_167
    · have hw := hw.2 hc
      refine lv_iload hx hb dX2_firstClash_161 (lv_at hl 1 rfl) ?_
      refine lv_goto (tgt := 167) hx hb dX2_firstClash_163 (by decide) ?_
      rw [← hQQ]
      exact g_reti (v := x5_11) (u := ()) hx hb hr rfl hlocks hw hP hK hD hS dX2_firstClash_167
  · have hw := hw.2 hc
    refine lv_iconst (v := (-1)) hx hb dX2_firstClash_21 (by decide) ?_
    rw [← hQQ]
    exact g_reti (v := (-1)) (u := ()) hx hb hr rfl hlocks hw (hP.sub (ws' := [(o, .inr (2, [.ref o_credits, .ref o_light, .ref o_lit, .ref o_whole, .ref o_ends, .ref o_clashes, .int s_clashPairs, .ref o_reach, .ref o_latest])), (o_credits, .inr (0, [.ref o_credits_cells])), (o_credits_cells, .inl (cI, 82, .inl s_credits_cells)), (o_lit, .inl (cI, 96, .inl s_lit)), (o_ends, .inl (cI, 8, .inl s_ends))]) [0, 3, 4, 1, 2] rfl) hK (hD.sub (ws' := [(o, .inr (2, [.ref o_credits, .ref o_light, .ref o_lit, .ref o_whole, .ref o_ends, .ref o_clashes, .int s_clashPairs, .ref o_reach, .ref o_latest])), (o_credits, .inr (0, [.ref o_credits_cells])), (o_credits_cells, .inl (cI, 82, .inl s_credits_cells)), (o_lit, .inl (cI, 96, .inl s_lit)), (o_ends, .inl (cI, 8, .inl s_ends))]) [0, 3, 4, 1, 2] (by decide) rfl) hS dX2_firstClash_22
abbrev rm_X2_noteClash : Room := { frames := 2, cells := 0, slots := 0, locals := 52 }
set_option maxHeartbeats 4000000 in
set_option maxRecDepth 100000 in
theorem c_X2_noteClash (l : Launch) (dC : Nat → ClassId) (dI : Nat → Nat → Nat) (cI cJ : ClassId) (o o_credits o_light o_lit o_whole o_ends o_clashes o_reach o_latest o_credits_cells : Nat) (sz : Nat) (s_credits_cells : Nat → Int32) (s_lit : Nat → Int32) (s_ends : Nat → Int32) (s_clashes : Nat → Int32) (s_clashPairs : Int32) (p0 : Int32) (p1 : Int32) (Q : (Nat → Int32) → Int32 → Prop) (hw : P_X2_noteClash p0 p1 s_credits_cells s_lit s_ends s_clashes s_clashPairs Q) : Met l yX2_noteClash (Cond.code yX2_noteClash cX2_noteClash 6 none :: TBL) rm_X2_noteClash (gPc (dC, dI) vwCl (gTy cI cJ) [.ref o, .int p0, .int p1] [(o, .inr (2, [.ref o_credits, .ref o_light, .ref o_lit, .ref o_whole, .ref o_ends, .ref o_clashes, .int s_clashPairs, .ref o_reach, .ref o_latest])), (o_credits, .inr (0, [.ref o_credits_cells])), (o_credits_cells, .inl (cI, 82, .inl s_credits_cells)), (o_lit, .inl (cI, 96, .inl s_lit)), (o_ends, .inl (cI, 8, .inl s_ends)), (o_clashes, .inl (cI, 200, .inl s_clashes))] sz) (va_Qv (fun (u : (Nat → Int32) × Int32) => Q u.1 u.2) (gB (dC, dI) vwCl (gTy cI cJ) (va_A [(o, .inr (2, [.ref o_credits, .ref o_light, .ref o_lit, .ref o_whole, .ref o_ends, .ref o_clashes, .int s_clashPairs, .ref o_reach, .ref o_latest])), (o_credits, .inr (0, [.ref o_credits_cells])), (o_credits_cells, .inl (cI, 82, .inl s_credits_cells)), (o_lit, .inl (cI, 96, .inl s_lit)), (o_ends, .inl (cI, 8, .inl s_ends)), (o_clashes, .inl (cI, 200, .inl s_clashes))] sz) (fun (u : (Nat → Int32) × Int32) => [(o, .inr (2, [.ref o_credits, .ref o_light, .ref o_lit, .ref o_whole, .ref o_ends, .ref o_clashes, .int u.2, .ref o_reach, .ref o_latest])), (o_credits, .inr (0, [.ref o_credits_cells])), (o_credits_cells, .inl (cI, 82, .inl s_credits_cells)), (o_lit, .inl (cI, 96, .inl s_lit)), (o_ends, .inl (cI, 8, .inl s_ends)), (o_clashes, .inl (cI, 200, .inl u.1))])) (va_A [(o, .inr (2, [.ref o_credits, .ref o_light, .ref o_lit, .ref o_whole, .ref o_ends, .ref o_clashes, .int s_clashPairs, .ref o_reach, .ref o_latest])), (o_credits, .inr (0, [.ref o_credits_cells])), (o_credits_cells, .inl (cI, 82, .inl s_credits_cells)), (o_lit, .inl (cI, 96, .inl s_lit)), (o_ends, .inl (cI, 8, .inl s_ends)), (o_clashes, .inl (cI, 200, .inl s_clashes))] sz)) 0 0 (va_A [(o, .inr (2, [.ref o_credits, .ref o_light, .ref o_lit, .ref o_whole, .ref o_ends, .ref o_clashes, .int s_clashPairs, .ref o_reach, .ref o_latest])), (o_credits, .inr (0, [.ref o_credits_cells])), (o_credits_cells, .inl (cI, 82, .inl s_credits_cells)), (o_lit, .inl (cI, 96, .inl s_lit)), (o_ends, .inl (cI, 8, .inl s_ends)), (o_clashes, .inl (cI, 200, .inl s_clashes))] sz) := by
  refine Met.ofW (cc := cX2_noteClash) (maxL := 6) (ret := none) (by decide) rfl ?_
  intro p e s m args below meth c s₁ B hml hv
  obtain ⟨rfl, hsz, hP, hK, hD0⟩ := hv
  have hx := B.exec
  have hb := B.bytes
  have hr := B.returns
  have hts := atoms_spec (ws := Cond.code yX2_noteClash cX2_noteClash 6 none :: TBL) B.pre
  have ht : ∀ w ∈ TBL, w.before ([.ref o, .int p0, .int p1] : List Value).toArray s = true := fun w h => hts w (List.mem_cons_of_mem _ h)
  clear hts
  have hown : s.vm.findClass RX2 = some m.cls := findClass_of_methodNamed B.named
  have hlocks := B.notSynchronized
  clear B
  subst hsz
  have hD := hD0.self (sz := s.heap.size)
  clear hD0
  generalize hAe : va_A [(o, .inr (2, [.ref o_credits, .ref o_light, .ref o_lit, .ref o_whole, .ref o_ends, .ref o_clashes, .int s_clashPairs, .ref o_reach, .ref o_latest])), (o_credits, .inr (0, [.ref o_credits_cells])), (o_credits_cells, .inl (cI, 82, .inl s_credits_cells)), (o_lit, .inl (cI, 96, .inl s_lit)), (o_ends, .inl (cI, 8, .inl s_ends)), (o_clashes, .inl (cI, 200, .inl s_clashes))] s.heap.size = A at hD ⊢
  have hA : ∀ q : Nat, s.heap.size ≤ q → A q := fun q h => by rw [← hAe]; exact Or.inr h
  clear hAe
  have hS : va_S A s.heap s.heap [] := va_S.rf
  have hP : va_P (dC, dI) vwCl [(o, .inr (2, [.ref o_credits, .ref o_light, .ref o_lit, .ref o_whole, .ref o_ends, .ref o_clashes, .int s_clashPairs, .ref o_reach, .ref o_latest])), (o_credits, .inr (0, [.ref o_credits_cells])), (o_credits_cells, .inl (cI, 82, .inl s_credits_cells)), (o_lit, .inl (cI, 96, .inl s_lit)), (o_ends, .inl (cI, 8, .inl s_ends)), (o_clashes, .inl (cI, 200, .inl s_clashes))] s.heap := hP
  have hl := lv_entry ([.ref o, .int p0, .int p1]) (n := 6) (Nat.le_of_ble_eq_true rfl)
  rw [lg_entry_eq]
  generalize (lg_sl ([.ref o, .int p0, .int p1]) ++ List.replicate (6 - (lg_sl ([.ref o, .int p0, .int p1])).length) Slot.unset).toArray = ls at hl ⊢
  have hl : lv_has ls 6 [(0, .ref o), (1, .int p0), (2, .int p1)] := hl
  generalize hQQ : MQ below _ _ _ 0 0 A = QQ
  show W p l e rm_X2_noteClash s m ([.ref o, .int p0, .int p1] : List Value).toArray below meth c s.heap [] 0 0 QQ (F0 m 0 ls [])
  have L45 : ∀ (x4 : Int32) (s_clashPairs : Int32), ∀ (n : Nat) (x5 : Int32) (s_clashes : Nat → Int32), P_X2_noteClash_L45 x4 s_clashPairs Q n x5 s_clashes → ∀ (H : Heap) (locs : List Loc) (ls : Array Slot), va_P (dC, dI) vwCl [(o, .inr (2, [.ref o_credits, .ref o_light, .ref o_lit, .ref o_whole, .ref o_ends, .ref o_clashes, .int s_clashPairs, .ref o_reach, .ref o_latest])), (o_credits, .inr (0, [.ref o_credits_cells])), (o_credits_cells, .inl (cI, 82, .inl s_credits_cells)), (o_lit, .inl (cI, 96, .inl s_lit)), (o_ends, .inl (cI, 8, .inl s_ends)), (o_clashes, .inl (cI, 200, .inl s_clashes))] H → va_D A [(o, .inr (2, [.ref o_credits, .ref o_light, .ref o_lit, .ref o_whole, .ref o_ends, .ref o_clashes, .int s_clashPairs, .ref o_reach, .ref o_latest])), (o_credits, .inr (0, [.ref o_credits_cells])), (o_credits_cells, .inl (cI, 82, .inl s_credits_cells)), (o_lit, .inl (cI, 96, .inl s_lit)), (o_ends, .inl (cI, 8, .inl s_ends)), (o_clashes, .inl (cI, 200, .inl s_clashes))] → va_S A s.heap H locs → lv_has ls 6 [(0, .ref o), (4, .int x4), (5, .int x5)] → W p l e rm_X2_noteClash s m ([.ref o, .int p0, .int p1] : List Value).toArray below meth c H locs 0 0 QQ (F0 m 45 ls []) := by
    intro x4 s_clashPairs
    intro n
    induction n with
    | zero => intro x5 s_clashes hw; rw [P_X2_noteClash_L45_z] at hw; exact hw.elim
    | succ n ih =>
      intro x5 s_clashes hw
      rw [P_X2_noteClash_L45_s] at hw
      generalize hrec : P_X2_noteClash_L45 x4 s_clashPairs Q n = rec45 at ih hw
      intro H locs ls hP hD hS hl
      unfold B_X2_noteClash_L45 at hw
      refine lv_iload hx hb dX2_noteClash_45 (lv_at hl 2 rfl) ?_
      refine lv_iload hx hb dX2_noteClash_47 (lv_at hl 1 rfl) ?_
      refine lv_icmp_ge (tgt := 79) hx hb dX2_noteClash_49 (by decide) (fun hc => ?_) (fun hc => ?_)
      · have hw := hw.1 hc
        rw [← hQQ]
        exact g_retv (u := (s_clashes, s_clashPairs)) hx hb hr hlocks hw hP hK hD hS dX2_noteClash_79
      · have hw := hw.2 hc
        refine lv_iload hx hb dX2_noteClash_52 (lv_at hl 2 rfl) ?_
        refine lv_aload_n hx hb dX2_noteClash_54 rfl (lv_at hl 0 rfl) ?_
        refine va_get (D := (dC, dI)) (ci := 2) (v := .ref o_clashes) (C := RX2) (T := TX2) (N := 9) hx hb ht i_X2 hown hK hP 0 rfl rfl 5 (by decide) (ht _ k_44) (fun _ h9 => h9) rfl dX2_noteClash_55 ?_
        refine va_alen (v := 200) hx hb hK hP 5 0 rfl rfl rfl dX2_noteClash_58 ?_
        refine lv_icmp_ge (tgt := 79) hx hb dX2_noteClash_59 (by decide) (fun hc => ?_) (fun hc => ?_)
        · have hw := hw.1 hc
          rw [← hQQ]
          exact g_retv (u := (s_clashes, s_clashPairs)) hx hb hr hlocks hw hP hK hD hS dX2_noteClash_79
        · have hw := hw.2 hc
          refine lv_aload_n hx hb dX2_noteClash_62 rfl (lv_at hl 0 rfl) ?_
          refine va_get (D := (dC, dI)) (ci := 2) (v := .ref o_clashes) (C := RX2) (T := TX2) (N := 9) hx hb ht i_X2 hown hK hP 0 rfl rfl 5 (by decide) (ht _ k_44) (fun _ h9 => h9) rfl dX2_noteClash_63 ?_
          refine lv_iload hx hb dX2_noteClash_66 (lv_at hl 2 rfl) ?_
          refine lv_dup2_11 hx hb dX2_noteClash_68 rfl rfl ?_
          obtain ⟨hi_1, hw⟩ := hw
          refine gv_iald hx hb hK hP 5 0 rfl rfl rfl hi_1 dX2_noteClash_69 ?_
          refine lv_iconst (v := 1) hx hb dX2_noteClash_70 (by decide) ?_
          refine lv_iadd hx hb dX2_noteClash_71 ?_
          obtain ⟨hi_2, hw⟩ := hw
          refine gv_iast hx hb hK hP hD hS 5 0 rfl rfl rfl hi_2 dX2_noteClash_72 (fun H locs hP hD hS => ?_)
          have hP : va_P (dC, dI) vwCl [(o, .inr (2, [.ref o_credits, .ref o_light, .ref o_lit, .ref o_whole, .ref o_ends, .ref o_clashes, .int s_clashPairs, .ref o_reach, .ref o_latest])), (o_credits, .inr (0, [.ref o_credits_cells])), (o_credits_cells, .inl (cI, 82, .inl s_credits_cells)), (o_lit, .inl (cI, 96, .inl s_lit)), (o_ends, .inl (cI, 8, .inl s_ends)), (o_clashes, .inl (cI, 200, .inl (upd s_clashes x5.toNatClampNeg ((s_clashes x5.toNatClampNeg) + 1))))] H := hP
          have hD : va_D A [(o, .inr (2, [.ref o_credits, .ref o_light, .ref o_lit, .ref o_whole, .ref o_ends, .ref o_clashes, .int s_clashPairs, .ref o_reach, .ref o_latest])), (o_credits, .inr (0, [.ref o_credits_cells])), (o_credits_cells, .inl (cI, 82, .inl s_credits_cells)), (o_lit, .inl (cI, 96, .inl s_lit)), (o_ends, .inl (cI, 8, .inl s_ends)), (o_clashes, .inl (cI, 200, .inl (upd s_clashes x5.toNatClampNeg ((s_clashes x5.toNatClampNeg) + 1))))] := hD
          refine lv_iinc (v := (x5 + 1)) (lv' := [(5, .int (x5 + 1)), (0, .ref o), (4, .int x4)]) hx hb dX2_noteClash_73 hl (k := 2) rfl rfl (by decide) rfl (fun ls hl => ?_)
          refine lv_goto (tgt := 45) hx hb dX2_noteClash_76 (by decide) ?_
          exact ih (x5 + 1) (upd s_clashes x5.toNatClampNeg ((s_clashes x5.toNatClampNeg) + 1)) hw H locs ls hP hD hS (lv_sub (l' := [(0, .ref o), (4, .int x4), (5, .int (x5 + 1))]) hl [1, 2, 0] rfl)
  obtain ⟨H, hHH⟩ : ∃ H, H = s.heap := ⟨_, rfl⟩
  rw [← hHH] at hP ⊢
  have hS : va_S A s.heap H [] := by rw [hHH]; exact hS
  clear hHH
  generalize ([] : List Loc) = locs at hS ⊢
  unfold P_X2_noteClash at hw
  refine lv_aload_n hx hb dX2_noteClash_0 rfl (lv_at hl 0 rfl) ?_
  refine lv_iload_n hx hb dX2_noteClash_1 rfl (lv_at hl 1 rfl) ?_
  refine lv_iload_n hx hb dX2_noteClash_2 rfl (lv_at hl 2 rfl) ?_
  refine gc_Vi (As := [.int p0, .int p1]) (rest := []) (wr := [(o_clashes, .inl (cI, 200, .inl s_clashes))]) ⟨hx, hb, hml, hown, ht⟩ (c_X2_firstClash l dC dI cI cJ o o_credits o_light o_lit o_whole o_ends o_clashes o_reach o_latest o_credits_cells H.size s_credits_cells s_lit s_ends s_clashPairs p0 p1 _ hw) (cwV 2 ht (g_V k_403 k_405 k_s14 k_3 k_406) rfl rfl rfl (by decide +kernel) ⟨(Nat.le_of_ble_eq_true rfl), (Nat.le_of_ble_eq_true rfl)⟩) hK hP hD hS hA [0, 1, 2, 3, 4] [5] rfl rfl (by decide) 0 rfl rfl rfl rfl hl.1 rfl (Nat.le_of_ble_eq_true rfl) ⟨(Nat.le_of_ble_eq_true rfl), (Nat.le_of_ble_eq_true rfl)⟩ dX2_noteClash_3 (fun r_3 u H locs hw hP hD hS => ?_)
  try dsimp only at hw
  have hP : va_P (dC, dI) vwCl [(o_clashes, .inl (cI, 200, .inl s_clashes)), (o, .inr (2, [.ref o_credits, .ref o_light, .ref o_lit, .ref o_whole, .ref o_ends, .ref o_clashes, .int s_clashPairs, .ref o_reach, .ref o_latest])), (o_credits, .inr (0, [.ref o_credits_cells])), (o_credits_cells, .inl (cI, 82, .inl s_credits_cells)), (o_lit, .inl (cI, 96, .inl s_lit)), (o_ends, .inl (cI, 8, .inl s_ends))] H := hP
  have hD : va_D A [(o_clashes, .inl (cI, 200, .inl s_clashes)), (o, .inr (2, [.ref o_credits, .ref o_light, .ref o_lit, .ref o_whole, .ref o_ends, .ref o_clashes, .int s_clashPairs, .ref o_reach, .ref o_latest])), (o_credits, .inr (0, [.ref o_credits_cells])), (o_credits_cells, .inl (cI, 82, .inl s_credits_cells)), (o_lit, .inl (cI, 96, .inl s_lit)), (o_ends, .inl (cI, 8, .inl s_ends))] := hD
  refine lv_istore_n (lv' := [(3, .int r_3), (0, .ref o), (1, .int p0), (2, .int p1)]) hx hb dX2_noteClash_6 rfl hl (by decide) rfl (fun ls hl => ?_)
  refine lv_iload_n hx hb dX2_noteClash_7 rfl (lv_at hl 0 rfl) ?_
  refine lv_iconst (v := (-1)) hx hb dX2_noteClash_8 (by decide) ?_
  refine lv_icmp_ne (tgt := 13) hx hb dX2_noteClash_9 (by decide) (fun hc => ?_) (fun hc => ?_)
  · have hw := hw.1 hc
    refine lv_aload_n hx hb dX2_noteClash_13 rfl (lv_at hl 1 rfl) ?_
    refine lv_dup hx hb dX2_noteClash_14 rfl ?_
    refine va_get (D := (dC, dI)) (ci := 2) (v := .int s_clashPairs) (C := RX2) (T := TX2) (N := 9) hx hb ht i_X2 hown hK hP 1 rfl rfl 6 (by decide) (ht _ k_45) (fun _ h9 => h9) rfl dX2_noteClash_15 ?_
    refine lv_iconst (v := 1) hx hb dX2_noteClash_18 (by decide) ?_
    refine lv_iadd hx hb dX2_noteClash_19 ?_
    refine va_put (D := (dC, dI)) (ci := 2) (v := .int (s_clashPairs + 1)) (ty := .int) (C := RX2) (T := TX2) (N := 9) hx hb ht i_X2 tyX2 tyX2_ok nmX2 hown hK hP hD hS 1 rfl rfl 6 (by decide) (ht _ k_45) (fun _ h9 => h9) rfl (by decide +kernel) rfl rfl (Nat.le_of_ble_eq_true rfl) dX2_noteClash_20 (fun H locs hP hD hS => ?_)
    have hP : va_P (dC, dI) vwCl [(o_clashes, .inl (cI, 200, .inl s_clashes)), (o, .inr (2, [.ref o_credits, .ref o_light, .ref o_lit, .ref o_whole, .ref o_ends, .ref o_clashes, .int (s_clashPairs + 1), .ref o_reach, .ref o_latest])), (o_credits, .inr (0, [.ref o_credits_cells])), (o_credits_cells, .inl (cI, 82, .inl s_credits_cells)), (o_lit, .inl (cI, 96, .inl s_lit)), (o_ends, .inl (cI, 8, .inl s_ends))] H := hP
    have hD : va_D A [(o_clashes, .inl (cI, 200, .inl s_clashes)), (o, .inr (2, [.ref o_credits, .ref o_light, .ref o_lit, .ref o_whole, .ref o_ends, .ref o_clashes, .int (s_clashPairs + 1), .ref o_reach, .ref o_latest])), (o_credits, .inr (0, [.ref o_credits_cells])), (o_credits_cells, .inl (cI, 82, .inl s_credits_cells)), (o_lit, .inl (cI, 96, .inl s_lit)), (o_ends, .inl (cI, 8, .inl s_ends))] := hD
    refine lv_aload_n hx hb dX2_noteClash_23 rfl (lv_at hl 1 rfl) ?_
    refine lv_iload_n hx hb dX2_noteClash_24 rfl (lv_at hl 2 rfl) ?_
    refine gc_Vi (As := [.int p0]) (rest := []) (wr := [(o_clashes, .inl (cI, 200, .inl s_clashes)), (o_credits, .inr (0, [.ref o_credits_cells])), (o_credits_cells, .inl (cI, 82, .inl s_credits_cells)), (o_lit, .inl (cI, 96, .inl s_lit))]) ⟨hx, hb, hml, hown, ht⟩ (c_X2_endOf l dC dI cI cJ o o_credits o_light o_lit o_whole o_ends o_clashes o_reach o_latest H.size s_ends (s_clashPairs + 1) p0 _ hw) (cwV 1 ht (g_V k_250 k_252 k_s2 k_3 k_253) rfl rfl rfl (by decide +kernel) ⟨(Nat.le_of_ble_eq_true rfl), (Nat.le_of_ble_eq_true rfl)⟩) hK hP hD hS hA [1, 5] [0, 2, 3, 4] rfl rfl (by decide) 1 rfl rfl rfl rfl hl.1 rfl (Nat.le_of_ble_eq_true rfl) ⟨(Nat.le_of_ble_eq_true rfl), (Nat.le_of_ble_eq_true rfl)⟩ dX2_noteClash_25 (fun r_4 u H locs hw hP hD hS => ?_)
    try dsimp only at hw
    have hP : va_P (dC, dI) vwCl [(o_clashes, .inl (cI, 200, .inl s_clashes)), (o_credits, .inr (0, [.ref o_credits_cells])), (o_credits_cells, .inl (cI, 82, .inl s_credits_cells)), (o_lit, .inl (cI, 96, .inl s_lit)), (o, .inr (2, [.ref o_credits, .ref o_light, .ref o_lit, .ref o_whole, .ref o_ends, .ref o_clashes, .int (s_clashPairs + 1), .ref o_reach, .ref o_latest])), (o_ends, .inl (cI, 8, .inl s_ends))] H := hP
    have hD : va_D A [(o_clashes, .inl (cI, 200, .inl s_clashes)), (o_credits, .inr (0, [.ref o_credits_cells])), (o_credits_cells, .inl (cI, 82, .inl s_credits_cells)), (o_lit, .inl (cI, 96, .inl s_lit)), (o, .inr (2, [.ref o_credits, .ref o_light, .ref o_lit, .ref o_whole, .ref o_ends, .ref o_clashes, .int (s_clashPairs + 1), .ref o_reach, .ref o_latest])), (o_ends, .inl (cI, 8, .inl s_ends))] := hD
    refine lv_aload_n hx hb dX2_noteClash_28 rfl (lv_at hl 1 rfl) ?_
    refine lv_iload_n hx hb dX2_noteClash_29 rfl (lv_at hl 3 rfl) ?_
    refine gc_Vi (As := [.int p1]) (rest := [.int r_4]) (wr := [(o_clashes, .inl (cI, 200, .inl s_clashes)), (o_credits, .inr (0, [.ref o_credits_cells])), (o_credits_cells, .inl (cI, 82, .inl s_credits_cells)), (o_lit, .inl (cI, 96, .inl s_lit))]) ⟨hx, hb, hml, hown, ht⟩ (c_X2_endOf l dC dI cI cJ o o_credits o_light o_lit o_whole o_ends o_clashes o_reach o_latest H.size s_ends (s_clashPairs + 1) p1 _ hw) (cwV 1 ht (g_V k_250 k_252 k_s2 k_3 k_253) rfl rfl rfl (by decide +kernel) ⟨(Nat.le_of_ble_eq_true rfl), (Nat.le_of_ble_eq_true rfl)⟩) hK hP hD hS hA [4, 5] [0, 1, 2, 3] rfl rfl (by decide) 4 rfl rfl rfl rfl hl.1 rfl (Nat.le_of_ble_eq_true rfl) ⟨(Nat.le_of_ble_eq_true rfl), (Nat.le_of_ble_eq_true rfl)⟩ dX2_noteClash_30 (fun r_5 u H locs hw hP hD hS => ?_)
    try dsimp only at hw
    have hP : va_P (dC, dI) vwCl [(o_clashes, .inl (cI, 200, .inl s_clashes)), (o_credits, .inr (0, [.ref o_credits_cells])), (o_credits_cells, .inl (cI, 82, .inl s_credits_cells)), (o_lit, .inl (cI, 96, .inl s_lit)), (o, .inr (2, [.ref o_credits, .ref o_light, .ref o_lit, .ref o_whole, .ref o_ends, .ref o_clashes, .int (s_clashPairs + 1), .ref o_reach, .ref o_latest])), (o_ends, .inl (cI, 8, .inl s_ends))] H := hP
    have hD : va_D A [(o_clashes, .inl (cI, 200, .inl s_clashes)), (o_credits, .inr (0, [.ref o_credits_cells])), (o_credits_cells, .inl (cI, 82, .inl s_credits_cells)), (o_lit, .inl (cI, 96, .inl s_lit)), (o, .inr (2, [.ref o_credits, .ref o_light, .ref o_lit, .ref o_whole, .ref o_ends, .ref o_clashes, .int (s_clashPairs + 1), .ref o_reach, .ref o_latest])), (o_ends, .inl (cI, 8, .inl s_ends))] := hD
    refine va_mmin hx hb (hml.trans hl.1.symm) hown (ht _ k_407) (ht _ k_347) (ht _ k_9) (ht _ k_348) (Nat.le_of_ble_eq_true rfl) (Nat.le_of_ble_eq_true rfl) (Nat.zero_le _) (Nat.zero_le _) dX2_noteClash_33 ?_
    refine lv_istore (lv' := [(4, .int (if r_5 < r_4 then r_5 else r_4)), (3, .int r_3), (0, .ref o), (1, .int p0), (2, .int p1)]) hx hb dX2_noteClash_36 hl (by decide) rfl (fun ls hl => ?_)
    refine lv_iload_n hx hb dX2_noteClash_38 rfl (lv_at hl 1 rfl) ?_
    refine lv_iconst (v := 0) hx hb dX2_noteClash_39 (by decide) ?_
    refine va_mmax hx hb (hml.trans hl.1.symm) hown (ht _ k_231) (ht _ k_232) (ht _ k_9) (ht _ k_233) (Nat.le_of_ble_eq_true rfl) (Nat.le_of_ble_eq_true rfl) (Nat.zero_le _) (Nat.zero_le _) dX2_noteClash_40 ?_
    refine lv_istore (lv' := [(5, .int (if r_3 < 0 then 0 else r_3)), (4, .int (if r_5 < r_4 then r_5 else r_4)), (3, .int r_3), (0, .ref o), (1, .int p0), (2, .int p1)]) hx hb dX2_noteClash_43 hl (by decide) rfl (fun ls hl => ?_)
    obtain ⟨n, hw⟩ := hw
    exact L45 (if r_5 < r_4 then r_5 else r_4) (s_clashPairs + 1) n (if r_3 < 0 then 0 else r_3) s_clashes hw H locs ls (hP.sub (ws' := [(o, .inr (2, [.ref o_credits, .ref o_light, .ref o_lit, .ref o_whole, .ref o_ends, .ref o_clashes, .int (s_clashPairs + 1), .ref o_reach, .ref o_latest])), (o_credits, .inr (0, [.ref o_credits_cells])), (o_credits_cells, .inl (cI, 82, .inl s_credits_cells)), (o_lit, .inl (cI, 96, .inl s_lit)), (o_ends, .inl (cI, 8, .inl s_ends)), (o_clashes, .inl (cI, 200, .inl s_clashes))]) [4, 1, 2, 3, 5, 0] rfl) (hD.sub (ws' := [(o, .inr (2, [.ref o_credits, .ref o_light, .ref o_lit, .ref o_whole, .ref o_ends, .ref o_clashes, .int (s_clashPairs + 1), .ref o_reach, .ref o_latest])), (o_credits, .inr (0, [.ref o_credits_cells])), (o_credits_cells, .inl (cI, 82, .inl s_credits_cells)), (o_lit, .inl (cI, 96, .inl s_lit)), (o_ends, .inl (cI, 8, .inl s_ends)), (o_clashes, .inl (cI, 200, .inl s_clashes))]) [4, 1, 2, 3, 5, 0] (by decide) rfl) hS (lv_sub (l' := [(0, .ref o), (4, .int (if r_5 < r_4 then r_5 else r_4)), (5, .int (if r_3 < 0 then 0 else r_3))]) hl [3, 1, 0] rfl)
  · have hw := hw.2 hc
    rw [← hQQ]
    exact g_retv (u := (s_clashes, s_clashPairs)) hx hb hr hlocks hw (hP.sub (ws' := [(o, .inr (2, [.ref o_credits, .ref o_light, .ref o_lit, .ref o_whole, .ref o_ends, .ref o_clashes, .int s_clashPairs, .ref o_reach, .ref o_latest])), (o_credits, .inr (0, [.ref o_credits_cells])), (o_credits_cells, .inl (cI, 82, .inl s_credits_cells)), (o_lit, .inl (cI, 96, .inl s_lit)), (o_ends, .inl (cI, 8, .inl s_ends)), (o_clashes, .inl (cI, 200, .inl s_clashes))]) [1, 2, 3, 4, 5, 0] rfl) hK (hD.sub (ws' := [(o, .inr (2, [.ref o_credits, .ref o_light, .ref o_lit, .ref o_whole, .ref o_ends, .ref o_clashes, .int s_clashPairs, .ref o_reach, .ref o_latest])), (o_credits, .inr (0, [.ref o_credits_cells])), (o_credits_cells, .inl (cI, 82, .inl s_credits_cells)), (o_lit, .inl (cI, 96, .inl s_lit)), (o_ends, .inl (cI, 8, .inl s_ends)), (o_clashes, .inl (cI, 200, .inl s_clashes))]) [1, 2, 3, 4, 5, 0] (by decide) rfl) hS dX2_noteClash_12
abbrev rm_X2_findClashes : Room := { frames := 3, cells := 0, slots := 0, locals := 77 }
set_option maxHeartbeats 4000000 in
set_option maxRecDepth 100000 in
theorem c_X2_findClashes (l : Launch) (dC : Nat → ClassId) (dI : Nat → Nat → Nat) (cI cJ : ClassId) (o o_credits o_light o_lit o_whole o_ends o_clashes o_reach o_latest o_credits_cells : Nat) (sz : Nat) (s_credits_cells : Nat → Int32) (s_lit : Nat → Int32) (s_ends : Nat → Int32) (s_clashes : Nat → Int32) (s_clashPairs : Int32)  (Q : (Nat → Int32) → Int32 → Prop) (hw : P_X2_findClashes s_credits_cells s_lit s_ends s_clashes s_clashPairs Q) : Met l yX2_findClashes (Cond.code yX2_findClashes cX2_findClashes 3 none :: TBL) rm_X2_findClashes (gPc (dC, dI) vwCl (gTy cI cJ) [.ref o] [(o, .inr (2, [.ref o_credits, .ref o_light, .ref o_lit, .ref o_whole, .ref o_ends, .ref o_clashes, .int s_clashPairs, .ref o_reach, .ref o_latest])), (o_credits, .inr (0, [.ref o_credits_cells])), (o_credits_cells, .inl (cI, 82, .inl s_credits_cells)), (o_lit, .inl (cI, 96, .inl s_lit)), (o_ends, .inl (cI, 8, .inl s_ends)), (o_clashes, .inl (cI, 200, .inl s_clashes))] sz) (va_Qv (fun (u : (Nat → Int32) × Int32) => Q u.1 u.2) (gB (dC, dI) vwCl (gTy cI cJ) (va_A [(o, .inr (2, [.ref o_credits, .ref o_light, .ref o_lit, .ref o_whole, .ref o_ends, .ref o_clashes, .int s_clashPairs, .ref o_reach, .ref o_latest])), (o_credits, .inr (0, [.ref o_credits_cells])), (o_credits_cells, .inl (cI, 82, .inl s_credits_cells)), (o_lit, .inl (cI, 96, .inl s_lit)), (o_ends, .inl (cI, 8, .inl s_ends)), (o_clashes, .inl (cI, 200, .inl s_clashes))] sz) (fun (u : (Nat → Int32) × Int32) => [(o, .inr (2, [.ref o_credits, .ref o_light, .ref o_lit, .ref o_whole, .ref o_ends, .ref o_clashes, .int u.2, .ref o_reach, .ref o_latest])), (o_credits, .inr (0, [.ref o_credits_cells])), (o_credits_cells, .inl (cI, 82, .inl s_credits_cells)), (o_lit, .inl (cI, 96, .inl s_lit)), (o_ends, .inl (cI, 8, .inl s_ends)), (o_clashes, .inl (cI, 200, .inl u.1))])) (va_A [(o, .inr (2, [.ref o_credits, .ref o_light, .ref o_lit, .ref o_whole, .ref o_ends, .ref o_clashes, .int s_clashPairs, .ref o_reach, .ref o_latest])), (o_credits, .inr (0, [.ref o_credits_cells])), (o_credits_cells, .inl (cI, 82, .inl s_credits_cells)), (o_lit, .inl (cI, 96, .inl s_lit)), (o_ends, .inl (cI, 8, .inl s_ends)), (o_clashes, .inl (cI, 200, .inl s_clashes))] sz)) 0 0 (va_A [(o, .inr (2, [.ref o_credits, .ref o_light, .ref o_lit, .ref o_whole, .ref o_ends, .ref o_clashes, .int s_clashPairs, .ref o_reach, .ref o_latest])), (o_credits, .inr (0, [.ref o_credits_cells])), (o_credits_cells, .inl (cI, 82, .inl s_credits_cells)), (o_lit, .inl (cI, 96, .inl s_lit)), (o_ends, .inl (cI, 8, .inl s_ends)), (o_clashes, .inl (cI, 200, .inl s_clashes))] sz) := by
  refine Met.ofW (cc := cX2_findClashes) (maxL := 3) (ret := none) (by decide) rfl ?_
  intro p e s m args below meth c s₁ B hml hv
  obtain ⟨rfl, hsz, hP, hK, hD0⟩ := hv
  have hx := B.exec
  have hb := B.bytes
  have hr := B.returns
  have hts := atoms_spec (ws := Cond.code yX2_findClashes cX2_findClashes 3 none :: TBL) B.pre
  have ht : ∀ w ∈ TBL, w.before ([.ref o] : List Value).toArray s = true := fun w h => hts w (List.mem_cons_of_mem _ h)
  clear hts
  have hown : s.vm.findClass RX2 = some m.cls := findClass_of_methodNamed B.named
  have hlocks := B.notSynchronized
  clear B
  subst hsz
  have hD := hD0.self (sz := s.heap.size)
  clear hD0
  generalize hAe : va_A [(o, .inr (2, [.ref o_credits, .ref o_light, .ref o_lit, .ref o_whole, .ref o_ends, .ref o_clashes, .int s_clashPairs, .ref o_reach, .ref o_latest])), (o_credits, .inr (0, [.ref o_credits_cells])), (o_credits_cells, .inl (cI, 82, .inl s_credits_cells)), (o_lit, .inl (cI, 96, .inl s_lit)), (o_ends, .inl (cI, 8, .inl s_ends)), (o_clashes, .inl (cI, 200, .inl s_clashes))] s.heap.size = A at hD ⊢
  have hA : ∀ q : Nat, s.heap.size ≤ q → A q := fun q h => by rw [← hAe]; exact Or.inr h
  clear hAe
  have hS : va_S A s.heap s.heap [] := va_S.rf
  have hP : va_P (dC, dI) vwCl [(o, .inr (2, [.ref o_credits, .ref o_light, .ref o_lit, .ref o_whole, .ref o_ends, .ref o_clashes, .int s_clashPairs, .ref o_reach, .ref o_latest])), (o_credits, .inr (0, [.ref o_credits_cells])), (o_credits_cells, .inl (cI, 82, .inl s_credits_cells)), (o_lit, .inl (cI, 96, .inl s_lit)), (o_ends, .inl (cI, 8, .inl s_ends)), (o_clashes, .inl (cI, 200, .inl s_clashes))] s.heap := hP
  have hl := lv_entry ([.ref o]) (n := 3) (Nat.le_of_ble_eq_true rfl)
  rw [lg_entry_eq]
  generalize (lg_sl ([.ref o]) ++ List.replicate (3 - (lg_sl ([.ref o])).length) Slot.unset).toArray = ls at hl ⊢
  have hl : lv_has ls 3 [(0, .ref o)] := hl
  generalize hQQ : MQ below _ _ _ 0 0 A = QQ
  show W p l e rm_X2_findClashes s m ([.ref o] : List Value).toArray below meth c s.heap [] 0 0 QQ (F0 m 0 ls [])
  have L15 : ∀ (n : Nat) (x1 : Int32) (s_clashes : Nat → Int32) (s_clashPairs : Int32), P_X2_findClashes_L15 s_credits_cells s_lit s_ends Q n x1 s_clashes s_clashPairs → ∀ (H : Heap) (locs : List Loc) (ls : Array Slot), va_P (dC, dI) vwCl [(o, .inr (2, [.ref o_credits, .ref o_light, .ref o_lit, .ref o_whole, .ref o_ends, .ref o_clashes, .int s_clashPairs, .ref o_reach, .ref o_latest])), (o_credits, .inr (0, [.ref o_credits_cells])), (o_credits_cells, .inl (cI, 82, .inl s_credits_cells)), (o_lit, .inl (cI, 96, .inl s_lit)), (o_ends, .inl (cI, 8, .inl s_ends)), (o_clashes, .inl (cI, 200, .inl s_clashes))] H → va_D A [(o, .inr (2, [.ref o_credits, .ref o_light, .ref o_lit, .ref o_whole, .ref o_ends, .ref o_clashes, .int s_clashPairs, .ref o_reach, .ref o_latest])), (o_credits, .inr (0, [.ref o_credits_cells])), (o_credits_cells, .inl (cI, 82, .inl s_credits_cells)), (o_lit, .inl (cI, 96, .inl s_lit)), (o_ends, .inl (cI, 8, .inl s_ends)), (o_clashes, .inl (cI, 200, .inl s_clashes))] → va_S A s.heap H locs → lv_has ls 3 [(0, .ref o), (1, .int x1)] → W p l e rm_X2_findClashes s m ([.ref o] : List Value).toArray below meth c H locs 0 0 QQ (F0 m 15 ls []) := by
    intro n
    induction n with
    | zero => intro x1 s_clashes s_clashPairs hw; rw [P_X2_findClashes_L15_z] at hw; exact hw.elim
    | succ n ih =>
      intro x1 s_clashes s_clashPairs hw
      rw [P_X2_findClashes_L15_s] at hw
      generalize hrec : P_X2_findClashes_L15 s_credits_cells s_lit s_ends Q n = rec15 at ih hw
      have L30 : ∀ (x1 : Int32) (K30_53 : (Nat → Int32) → Int32 → Prop), (∀ (s_clashes : Nat → Int32) (s_clashPairs : Int32), K30_53 s_clashes s_clashPairs → ∀ (H : Heap) (locs : List Loc) (ls : Array Slot), va_P (dC, dI) vwCl [(o, .inr (2, [.ref o_credits, .ref o_light, .ref o_lit, .ref o_whole, .ref o_ends, .ref o_clashes, .int s_clashPairs, .ref o_reach, .ref o_latest])), (o_credits, .inr (0, [.ref o_credits_cells])), (o_credits_cells, .inl (cI, 82, .inl s_credits_cells)), (o_lit, .inl (cI, 96, .inl s_lit)), (o_ends, .inl (cI, 8, .inl s_ends)), (o_clashes, .inl (cI, 200, .inl s_clashes))] H → va_D A [(o, .inr (2, [.ref o_credits, .ref o_light, .ref o_lit, .ref o_whole, .ref o_ends, .ref o_clashes, .int s_clashPairs, .ref o_reach, .ref o_latest])), (o_credits, .inr (0, [.ref o_credits_cells])), (o_credits_cells, .inl (cI, 82, .inl s_credits_cells)), (o_lit, .inl (cI, 96, .inl s_lit)), (o_ends, .inl (cI, 8, .inl s_ends)), (o_clashes, .inl (cI, 200, .inl s_clashes))] → va_S A s.heap H locs → lv_has ls 3 [(0, .ref o), (1, .int x1)] → W p l e rm_X2_findClashes s m ([.ref o] : List Value).toArray below meth c H locs 0 0 QQ (F0 m 53 ls [])) → ∀ (n : Nat) (x2 : Int32) (s_clashes : Nat → Int32) (s_clashPairs : Int32), P_X2_findClashes_L30 x1 s_credits_cells s_lit s_ends K30_53 n x2 s_clashes s_clashPairs → ∀ (H : Heap) (locs : List Loc) (ls : Array Slot), va_P (dC, dI) vwCl [(o, .inr (2, [.ref o_credits, .ref o_light, .ref o_lit, .ref o_whole, .ref o_ends, .ref o_clashes, .int s_clashPairs, .ref o_reach, .ref o_latest])), (o_credits, .inr (0, [.ref o_credits_cells])), (o_credits_cells, .inl (cI, 82, .inl s_credits_cells)), (o_lit, .inl (cI, 96, .inl s_lit)), (o_ends, .inl (cI, 8, .inl s_ends)), (o_clashes, .inl (cI, 200, .inl s_clashes))] H → va_D A [(o, .inr (2, [.ref o_credits, .ref o_light, .ref o_lit, .ref o_whole, .ref o_ends, .ref o_clashes, .int s_clashPairs, .ref o_reach, .ref o_latest])), (o_credits, .inr (0, [.ref o_credits_cells])), (o_credits_cells, .inl (cI, 82, .inl s_credits_cells)), (o_lit, .inl (cI, 96, .inl s_lit)), (o_ends, .inl (cI, 8, .inl s_ends)), (o_clashes, .inl (cI, 200, .inl s_clashes))] → va_S A s.heap H locs → lv_has ls 3 [(0, .ref o), (1, .int x1), (2, .int x2)] → W p l e rm_X2_findClashes s m ([.ref o] : List Value).toArray below meth c H locs 0 0 QQ (F0 m 30 ls []) := by
        intro x1 K30_53 hK30_53
        intro n
        induction n with
        | zero => intro x2 s_clashes s_clashPairs hw; rw [P_X2_findClashes_L30_z] at hw; exact hw.elim
        | succ n ih =>
          intro x2 s_clashes s_clashPairs hw
          rw [P_X2_findClashes_L30_s] at hw
          generalize hrec : P_X2_findClashes_L30 x1 s_credits_cells s_lit s_ends K30_53 n = rec30 at ih hw
          intro H locs ls hP hD hS hl
          unfold B_X2_findClashes_L30 at hw
          refine lv_iload_n hx hb dX2_findClashes_30 rfl (lv_at hl 2 rfl) ?_
          refine lv_aload_n hx hb dX2_findClashes_31 rfl (lv_at hl 0 rfl) ?_
          refine va_get (D := (dC, dI)) (ci := 2) (v := .ref o_credits) (C := RX2) (T := TX2) (N := 9) hx hb ht i_X2 hown hK hP 0 rfl rfl 0 (by decide) (ht _ k_39) (fun _ h9 => h9) rfl dX2_findClashes_32 ?_
          refine gc_Vi (As := []) (rest := [.int x2]) (wr := [(o, .inr (2, [.ref o_credits, .ref o_light, .ref o_lit, .ref o_whole, .ref o_ends, .ref o_clashes, .int s_clashPairs, .ref o_reach, .ref o_latest])), (o_lit, .inl (cI, 96, .inl s_lit)), (o_ends, .inl (cI, 8, .inl s_ends)), (o_clashes, .inl (cI, 200, .inl s_clashes))]) ⟨hx, hb, hml, hown, ht⟩ (c_X0_words l dC dI cI cJ o_credits o_credits_cells H.size s_credits_cells _ hw) (cwV 0 ht (g_V k_209 k_189 k_190 k_2 k_191) rfl rfl rfl (by decide +kernel) ⟨(Nat.le_of_ble_eq_true rfl), (Nat.le_of_ble_eq_true rfl)⟩) hK hP hD hS hA [1, 2] [0, 3, 4, 5] rfl rfl (by decide) 1 rfl rfl rfl rfl hl.1 rfl (Nat.le_of_ble_eq_true rfl) ⟨(Nat.le_of_ble_eq_true rfl), (Nat.le_of_ble_eq_true rfl)⟩ dX2_findClashes_35 (fun r_1 u H locs hw hP hD hS => ?_)
          try dsimp only at hw
          have hP : va_P (dC, dI) vwCl [(o, .inr (2, [.ref o_credits, .ref o_light, .ref o_lit, .ref o_whole, .ref o_ends, .ref o_clashes, .int s_clashPairs, .ref o_reach, .ref o_latest])), (o_lit, .inl (cI, 96, .inl s_lit)), (o_ends, .inl (cI, 8, .inl s_ends)), (o_clashes, .inl (cI, 200, .inl s_clashes)), (o_credits, .inr (0, [.ref o_credits_cells])), (o_credits_cells, .inl (cI, 82, .inl s_credits_cells))] H := hP
          have hD : va_D A [(o, .inr (2, [.ref o_credits, .ref o_light, .ref o_lit, .ref o_whole, .ref o_ends, .ref o_clashes, .int s_clashPairs, .ref o_reach, .ref o_latest])), (o_lit, .inl (cI, 96, .inl s_lit)), (o_ends, .inl (cI, 8, .inl s_ends)), (o_clashes, .inl (cI, 200, .inl s_clashes)), (o_credits, .inr (0, [.ref o_credits_cells])), (o_credits_cells, .inl (cI, 82, .inl s_credits_cells))] := hD
          refine lv_icmp_ge (tgt := 53) hx hb dX2_findClashes_38 (by decide) (fun hc => ?_) (fun hc => ?_)
          · have hw := hw.1 hc
            exact hK30_53 s_clashes s_clashPairs hw H locs ls (hP.sub (ws' := [(o, .inr (2, [.ref o_credits, .ref o_light, .ref o_lit, .ref o_whole, .ref o_ends, .ref o_clashes, .int s_clashPairs, .ref o_reach, .ref o_latest])), (o_credits, .inr (0, [.ref o_credits_cells])), (o_credits_cells, .inl (cI, 82, .inl s_credits_cells)), (o_lit, .inl (cI, 96, .inl s_lit)), (o_ends, .inl (cI, 8, .inl s_ends)), (o_clashes, .inl (cI, 200, .inl s_clashes))]) [0, 4, 5, 1, 2, 3] rfl) (hD.sub (ws' := [(o, .inr (2, [.ref o_credits, .ref o_light, .ref o_lit, .ref o_whole, .ref o_ends, .ref o_clashes, .int s_clashPairs, .ref o_reach, .ref o_latest])), (o_credits, .inr (0, [.ref o_credits_cells])), (o_credits_cells, .inl (cI, 82, .inl s_credits_cells)), (o_lit, .inl (cI, 96, .inl s_lit)), (o_ends, .inl (cI, 8, .inl s_ends)), (o_clashes, .inl (cI, 200, .inl s_clashes))]) [0, 4, 5, 1, 2, 3] (by decide) rfl) hS (lv_sub (l' := [(0, .ref o), (1, .int x1)]) hl [0, 1] rfl)
          · have hw := hw.2 hc
            refine lv_aload_n hx hb dX2_findClashes_41 rfl (lv_at hl 0 rfl) ?_
            refine lv_iload_n hx hb dX2_findClashes_42 rfl (lv_at hl 1 rfl) ?_
            refine lv_iload_n hx hb dX2_findClashes_43 rfl (lv_at hl 2 rfl) ?_
            refine gc_Vv (As := [.int x1, .int x2]) (rest := []) (wr := []) ⟨hx, hb, hml, hown, ht⟩ (c_X2_noteClash l dC dI cI cJ o o_credits o_light o_lit o_whole o_ends o_clashes o_reach o_latest o_credits_cells H.size s_credits_cells s_lit s_ends s_clashes s_clashPairs x1 x2 _ hw) (cwV 2 ht (g_V k_399 k_401 k_s13 k_3 k_402) rfl rfl rfl (by decide +kernel) ⟨(Nat.le_of_ble_eq_true rfl), (Nat.le_of_ble_eq_true rfl)⟩) hK hP hD hS hA [0, 4, 5, 1, 2, 3] [] rfl rfl (by decide) 0 rfl rfl rfl rfl hl.1 rfl (Nat.le_of_ble_eq_true rfl) ⟨(Nat.le_of_ble_eq_true rfl), (Nat.le_of_ble_eq_true rfl)⟩ dX2_findClashes_44 (fun u H locs hw hP hD hS => ?_)
            obtain ⟨s_clashes_2, s_clashPairs_3⟩ := u
            try dsimp only at hw
            have hP : va_P (dC, dI) vwCl [(o, .inr (2, [.ref o_credits, .ref o_light, .ref o_lit, .ref o_whole, .ref o_ends, .ref o_clashes, .int s_clashPairs_3, .ref o_reach, .ref o_latest])), (o_credits, .inr (0, [.ref o_credits_cells])), (o_credits_cells, .inl (cI, 82, .inl s_credits_cells)), (o_lit, .inl (cI, 96, .inl s_lit)), (o_ends, .inl (cI, 8, .inl s_ends)), (o_clashes, .inl (cI, 200, .inl s_clashes_2))] H := hP
            have hD : va_D A [(o, .inr (2, [.ref o_credits, .ref o_light, .ref o_lit, .ref o_whole, .ref o_ends, .ref o_clashes, .int s_clashPairs_3, .ref o_reach, .ref o_latest])), (o_credits, .inr (0, [.ref o_credits_cells])), (o_credits_cells, .inl (cI, 82, .inl s_credits_cells)), (o_lit, .inl (cI, 96, .inl s_lit)), (o_ends, .inl (cI, 8, .inl s_ends)), (o_clashes, .inl (cI, 200, .inl s_clashes_2))] := hD
            refine lv_iinc (v := (x2 + 1)) (lv' := [(2, .int (x2 + 1)), (0, .ref o), (1, .int x1)]) hx hb dX2_findClashes_47 hl (k := 2) rfl rfl (by decide) rfl (fun ls hl => ?_)
            refine lv_goto (tgt := 30) hx hb dX2_findClashes_50 (by decide) ?_
            exact ih (x2 + 1) s_clashes_2 s_clashPairs_3 hw H locs ls hP hD hS (lv_sub (l' := [(0, .ref o), (1, .int x1), (2, .int (x2 + 1))]) hl [1, 2, 0] rfl)
      intro H locs ls hP hD hS hl
      unfold B_X2_findClashes_L15 at hw
      refine lv_iload_n hx hb dX2_findClashes_15 rfl (lv_at hl 1 rfl) ?_
      refine lv_aload_n hx hb dX2_findClashes_16 rfl (lv_at hl 0 rfl) ?_
      refine va_get (D := (dC, dI)) (ci := 2) (v := .ref o_credits) (C := RX2) (T := TX2) (N := 9) hx hb ht i_X2 hown hK hP 0 rfl rfl 0 (by decide) (ht _ k_39) (fun _ h9 => h9) rfl dX2_findClashes_17 ?_
      refine gc_Vi (As := []) (rest := [.int x1]) (wr := [(o, .inr (2, [.ref o_credits, .ref o_light, .ref o_lit, .ref o_whole, .ref o_ends, .ref o_clashes, .int s_clashPairs, .ref o_reach, .ref o_latest])), (o_lit, .inl (cI, 96, .inl s_lit)), (o_ends, .inl (cI, 8, .inl s_ends)), (o_clashes, .inl (cI, 200, .inl s_clashes))]) ⟨hx, hb, hml, hown, ht⟩ (c_X0_words l dC dI cI cJ o_credits o_credits_cells H.size s_credits_cells _ hw) (cwV 0 ht (g_V k_209 k_189 k_190 k_2 k_191) rfl rfl rfl (by decide +kernel) ⟨(Nat.le_of_ble_eq_true rfl), (Nat.le_of_ble_eq_true rfl)⟩) hK hP hD hS hA [1, 2] [0, 3, 4, 5] rfl rfl (by decide) 1 rfl rfl rfl rfl hl.1 rfl (Nat.le_of_ble_eq_true rfl) ⟨(Nat.le_of_ble_eq_true rfl), (Nat.le_of_ble_eq_true rfl)⟩ dX2_findClashes_20 (fun r_4 u H locs hw hP hD hS => ?_)
      try dsimp only at hw
      have hP : va_P (dC, dI) vwCl [(o, .inr (2, [.ref o_credits, .ref o_light, .ref o_lit, .ref o_whole, .ref o_ends, .ref o_clashes, .int s_clashPairs, .ref o_reach, .ref o_latest])), (o_lit, .inl (cI, 96, .inl s_lit)), (o_ends, .inl (cI, 8, .inl s_ends)), (o_clashes, .inl (cI, 200, .inl s_clashes)), (o_credits, .inr (0, [.ref o_credits_cells])), (o_credits_cells, .inl (cI, 82, .inl s_credits_cells))] H := hP
      have hD : va_D A [(o, .inr (2, [.ref o_credits, .ref o_light, .ref o_lit, .ref o_whole, .ref o_ends, .ref o_clashes, .int s_clashPairs, .ref o_reach, .ref o_latest])), (o_lit, .inl (cI, 96, .inl s_lit)), (o_ends, .inl (cI, 8, .inl s_ends)), (o_clashes, .inl (cI, 200, .inl s_clashes)), (o_credits, .inr (0, [.ref o_credits_cells])), (o_credits_cells, .inl (cI, 82, .inl s_credits_cells))] := hD
      refine lv_icmp_ge (tgt := 59) hx hb dX2_findClashes_23 (by decide) (fun hc => ?_) (fun hc => ?_)
      · have hw := hw.1 hc
        rw [← hQQ]
        exact g_retv (u := (s_clashes, s_clashPairs)) hx hb hr hlocks hw (hP.sub (ws' := [(o, .inr (2, [.ref o_credits, .ref o_light, .ref o_lit, .ref o_whole, .ref o_ends, .ref o_clashes, .int s_clashPairs, .ref o_reach, .ref o_latest])), (o_credits, .inr (0, [.ref o_credits_cells])), (o_credits_cells, .inl (cI, 82, .inl s_credits_cells)), (o_lit, .inl (cI, 96, .inl s_lit)), (o_ends, .inl (cI, 8, .inl s_ends)), (o_clashes, .inl (cI, 200, .inl s_clashes))]) [0, 4, 5, 1, 2, 3] rfl) hK (hD.sub (ws' := [(o, .inr (2, [.ref o_credits, .ref o_light, .ref o_lit, .ref o_whole, .ref o_ends, .ref o_clashes, .int s_clashPairs, .ref o_reach, .ref o_latest])), (o_credits, .inr (0, [.ref o_credits_cells])), (o_credits_cells, .inl (cI, 82, .inl s_credits_cells)), (o_lit, .inl (cI, 96, .inl s_lit)), (o_ends, .inl (cI, 8, .inl s_ends)), (o_clashes, .inl (cI, 200, .inl s_clashes))]) [0, 4, 5, 1, 2, 3] (by decide) rfl) hS dX2_findClashes_59
      · have hw := hw.2 hc
        refine lv_iload_n hx hb dX2_findClashes_26 rfl (lv_at hl 1 rfl) ?_
        refine lv_iconst (v := 1) hx hb dX2_findClashes_27 (by decide) ?_
        refine lv_iadd hx hb dX2_findClashes_28 ?_
        refine lv_istore_n (lv' := [(2, .int (x1 + 1)), (0, .ref o), (1, .int x1)]) hx hb dX2_findClashes_29 rfl hl (by decide) rfl (fun ls hl => ?_)
        obtain ⟨n, hw⟩ := hw
        refine L30 x1 _ (fun s_clashes_5 s_clashPairs_6 hw H locs ls hP hD hS hl => ?_) n (x1 + 1) s_clashes s_clashPairs hw H locs ls (hP.sub (ws' := [(o, .inr (2, [.ref o_credits, .ref o_light, .ref o_lit, .ref o_whole, .ref o_ends, .ref o_clashes, .int s_clashPairs, .ref o_reach, .ref o_latest])), (o_credits, .inr (0, [.ref o_credits_cells])), (o_credits_cells, .inl (cI, 82, .inl s_credits_cells)), (o_lit, .inl (cI, 96, .inl s_lit)), (o_ends, .inl (cI, 8, .inl s_ends)), (o_clashes, .inl (cI, 200, .inl s_clashes))]) [0, 4, 5, 1, 2, 3] rfl) (hD.sub (ws' := [(o, .inr (2, [.ref o_credits, .ref o_light, .ref o_lit, .ref o_whole, .ref o_ends, .ref o_clashes, .int s_clashPairs, .ref o_reach, .ref o_latest])), (o_credits, .inr (0, [.ref o_credits_cells])), (o_credits_cells, .inl (cI, 82, .inl s_credits_cells)), (o_lit, .inl (cI, 96, .inl s_lit)), (o_ends, .inl (cI, 8, .inl s_ends)), (o_clashes, .inl (cI, 200, .inl s_clashes))]) [0, 4, 5, 1, 2, 3] (by decide) rfl) hS (lv_sub (l' := [(0, .ref o), (1, .int x1), (2, .int (x1 + 1))]) hl [1, 2, 0] rfl)
        refine lv_iinc (v := (x1 + 1)) (lv' := [(1, .int (x1 + 1)), (0, .ref o)]) hx hb dX2_findClashes_53 hl (k := 1) rfl rfl (by decide) rfl (fun ls hl => ?_)
        refine lv_goto (tgt := 15) hx hb dX2_findClashes_56 (by decide) ?_
        exact ih (x1 + 1) s_clashes_5 s_clashPairs_6 hw H locs ls hP hD hS (lv_sub (l' := [(0, .ref o), (1, .int (x1 + 1))]) hl [1, 0] rfl)
  obtain ⟨H, hHH⟩ : ∃ H, H = s.heap := ⟨_, rfl⟩
  rw [← hHH] at hP ⊢
  have hS : va_S A s.heap H [] := by rw [hHH]; exact hS
  clear hHH
  generalize ([] : List Loc) = locs at hS ⊢
  unfold P_X2_findClashes at hw
  refine lv_aload_n hx hb dX2_findClashes_0 rfl (lv_at hl 0 rfl) ?_
  refine va_get (D := (dC, dI)) (ci := 2) (v := .ref o_clashes) (C := RX2) (T := TX2) (N := 9) hx hb ht i_X2 hown hK hP 0 rfl rfl 5 (by decide) (ht _ k_44) (fun _ h9 => h9) rfl dX2_findClashes_1 ?_
  refine lv_iconst (v := 0) hx hb dX2_findClashes_4 (by decide) ?_
  refine gc_Sv (As := [.ref o_clashes, .int 0]) (rest := []) (wr := [(o, .inr (2, [.ref o_credits, .ref o_light, .ref o_lit, .ref o_whole, .ref o_ends, .ref o_clashes, .int s_clashPairs, .ref o_reach, .ref o_latest])), (o_credits, .inr (0, [.ref o_credits_cells])), (o_credits_cells, .inl (cI, 82, .inl s_credits_cells)), (o_lit, .inl (cI, 96, .inl s_lit)), (o_ends, .inl (cI, 8, .inl s_ends))]) ⟨hx, hb, hml, hown, ht⟩ (c_J7_fill_53178 l dC dI cI cJ o_clashes 200 H.size s_clashes 0 _ hw) (va_cwS 2 ht (g_S k_377 k_378 k_12 k_379) rfl rfl rfl (by decide +kernel) ⟨(Nat.le_of_ble_eq_true rfl), (Nat.le_of_ble_eq_true rfl)⟩) hK hP hD hS hA [5] [0, 1, 2, 3, 4] rfl rfl (by decide) rfl hl.1 rfl (Nat.le_of_ble_eq_true rfl) ⟨(Nat.le_of_ble_eq_true rfl), (Nat.le_of_ble_eq_true rfl)⟩ dX2_findClashes_5 (fun u H locs hw hP hD hS => ?_)
  obtain ⟨s_clashes_7, rfl⟩ : ∃ z, z = u := ⟨_, rfl⟩
  try dsimp only at hw
  have hP : va_P (dC, dI) vwCl [(o, .inr (2, [.ref o_credits, .ref o_light, .ref o_lit, .ref o_whole, .ref o_ends, .ref o_clashes, .int s_clashPairs, .ref o_reach, .ref o_latest])), (o_credits, .inr (0, [.ref o_credits_cells])), (o_credits_cells, .inl (cI, 82, .inl s_credits_cells)), (o_lit, .inl (cI, 96, .inl s_lit)), (o_ends, .inl (cI, 8, .inl s_ends)), (o_clashes, .inl (cI, 200, .inl s_clashes_7))] H := hP
  have hD : va_D A [(o, .inr (2, [.ref o_credits, .ref o_light, .ref o_lit, .ref o_whole, .ref o_ends, .ref o_clashes, .int s_clashPairs, .ref o_reach, .ref o_latest])), (o_credits, .inr (0, [.ref o_credits_cells])), (o_credits_cells, .inl (cI, 82, .inl s_credits_cells)), (o_lit, .inl (cI, 96, .inl s_lit)), (o_ends, .inl (cI, 8, .inl s_ends)), (o_clashes, .inl (cI, 200, .inl s_clashes_7))] := hD
  refine lv_aload_n hx hb dX2_findClashes_8 rfl (lv_at hl 0 rfl) ?_
  refine lv_iconst (v := 0) hx hb dX2_findClashes_9 (by decide) ?_
  refine va_put (D := (dC, dI)) (ci := 2) (v := .int 0) (ty := .int) (C := RX2) (T := TX2) (N := 9) hx hb ht i_X2 tyX2 tyX2_ok nmX2 hown hK hP hD hS 0 rfl rfl 6 (by decide) (ht _ k_45) (fun _ h9 => h9) rfl (by decide +kernel) rfl rfl (Nat.le_of_ble_eq_true rfl) dX2_findClashes_10 (fun H locs hP hD hS => ?_)
  have hP : va_P (dC, dI) vwCl [(o, .inr (2, [.ref o_credits, .ref o_light, .ref o_lit, .ref o_whole, .ref o_ends, .ref o_clashes, .int 0, .ref o_reach, .ref o_latest])), (o_credits, .inr (0, [.ref o_credits_cells])), (o_credits_cells, .inl (cI, 82, .inl s_credits_cells)), (o_lit, .inl (cI, 96, .inl s_lit)), (o_ends, .inl (cI, 8, .inl s_ends)), (o_clashes, .inl (cI, 200, .inl s_clashes_7))] H := hP
  have hD : va_D A [(o, .inr (2, [.ref o_credits, .ref o_light, .ref o_lit, .ref o_whole, .ref o_ends, .ref o_clashes, .int 0, .ref o_reach, .ref o_latest])), (o_credits, .inr (0, [.ref o_credits_cells])), (o_credits_cells, .inl (cI, 82, .inl s_credits_cells)), (o_lit, .inl (cI, 96, .inl s_lit)), (o_ends, .inl (cI, 8, .inl s_ends)), (o_clashes, .inl (cI, 200, .inl s_clashes_7))] := hD
  refine lv_iconst (v := 0) hx hb dX2_findClashes_13 (by decide) ?_
  refine lv_istore_n (lv' := [(1, .int 0), (0, .ref o)]) hx hb dX2_findClashes_14 rfl hl (by decide) rfl (fun ls hl => ?_)
  obtain ⟨n, hw⟩ := hw
  exact L15  n 0 s_clashes_7 0 hw H locs ls hP hD hS (lv_sub (l' := [(0, .ref o), (1, .int 0)]) hl [1, 0] rfl)
abbrev rm_X2_clashesIn : Room := { frames := 0, cells := 0, slots := 0, locals := 0 }
set_option maxHeartbeats 4000000 in
set_option maxRecDepth 100000 in
theorem c_X2_clashesIn (l : Launch) (dC : Nat → ClassId) (dI : Nat → Nat → Nat) (cI cJ : ClassId) (o o_credits o_light o_lit o_whole o_ends o_clashes o_reach o_latest : Nat) (sz : Nat) (s_clashes : Nat → Int32) (s_clashPairs : Int32) (p0 : Int32) (Q : Int32 → Prop) (hw : P_X2_clashesIn p0 s_clashes Q) : Met l yX2_clashesIn (Cond.code yX2_clashesIn cX2_clashesIn 2 (some .int) :: TBL) rm_X2_clashesIn (gPc (dC, dI) vwCl (gTy cI cJ) [.ref o, .int p0] [(o, .inr (2, [.ref o_credits, .ref o_light, .ref o_lit, .ref o_whole, .ref o_ends, .ref o_clashes, .int s_clashPairs, .ref o_reach, .ref o_latest])), (o_clashes, .inl (cI, 200, .inl s_clashes))] sz) (va_Qi (fun (r : Int32) (u : Unit) => Q r ) (gB (dC, dI) vwCl (gTy cI cJ) (va_A [(o, .inr (2, [.ref o_credits, .ref o_light, .ref o_lit, .ref o_whole, .ref o_ends, .ref o_clashes, .int s_clashPairs, .ref o_reach, .ref o_latest])), (o_clashes, .inl (cI, 200, .inl s_clashes))] sz) (fun (u : Unit) => [(o, .inr (2, [.ref o_credits, .ref o_light, .ref o_lit, .ref o_whole, .ref o_ends, .ref o_clashes, .int s_clashPairs, .ref o_reach, .ref o_latest])), (o_clashes, .inl (cI, 200, .inl s_clashes))])) (va_A [(o, .inr (2, [.ref o_credits, .ref o_light, .ref o_lit, .ref o_whole, .ref o_ends, .ref o_clashes, .int s_clashPairs, .ref o_reach, .ref o_latest])), (o_clashes, .inl (cI, 200, .inl s_clashes))] sz)) 0 0 (va_A [(o, .inr (2, [.ref o_credits, .ref o_light, .ref o_lit, .ref o_whole, .ref o_ends, .ref o_clashes, .int s_clashPairs, .ref o_reach, .ref o_latest])), (o_clashes, .inl (cI, 200, .inl s_clashes))] sz) := by
  refine Met.ofW (cc := cX2_clashesIn) (maxL := 2) (ret := (some .int)) (by decide) rfl ?_
  intro p e s m args below meth c s₁ B hml hv
  obtain ⟨rfl, hsz, hP, hK, hD0⟩ := hv
  have hx := B.exec
  have hb := B.bytes
  have hr := B.returns
  have hts := atoms_spec (ws := Cond.code yX2_clashesIn cX2_clashesIn 2 (some .int) :: TBL) B.pre
  have ht : ∀ w ∈ TBL, w.before ([.ref o, .int p0] : List Value).toArray s = true := fun w h => hts w (List.mem_cons_of_mem _ h)
  clear hts
  have hown : s.vm.findClass RX2 = some m.cls := findClass_of_methodNamed B.named
  have hlocks := B.notSynchronized
  clear B
  subst hsz
  have hD := hD0.self (sz := s.heap.size)
  clear hD0
  generalize hAe : va_A [(o, .inr (2, [.ref o_credits, .ref o_light, .ref o_lit, .ref o_whole, .ref o_ends, .ref o_clashes, .int s_clashPairs, .ref o_reach, .ref o_latest])), (o_clashes, .inl (cI, 200, .inl s_clashes))] s.heap.size = A at hD ⊢
  have hA : ∀ q : Nat, s.heap.size ≤ q → A q := fun q h => by rw [← hAe]; exact Or.inr h
  clear hAe
  have hS : va_S A s.heap s.heap [] := va_S.rf
  have hP : va_P (dC, dI) vwCl [(o, .inr (2, [.ref o_credits, .ref o_light, .ref o_lit, .ref o_whole, .ref o_ends, .ref o_clashes, .int s_clashPairs, .ref o_reach, .ref o_latest])), (o_clashes, .inl (cI, 200, .inl s_clashes))] s.heap := hP
  have hl := lv_entry ([.ref o, .int p0]) (n := 2) (Nat.le_of_ble_eq_true rfl)
  rw [lg_entry_eq]
  generalize (lg_sl ([.ref o, .int p0]) ++ List.replicate (2 - (lg_sl ([.ref o, .int p0])).length) Slot.unset).toArray = ls at hl ⊢
  have hl : lv_has ls 2 [(0, .ref o), (1, .int p0)] := hl
  generalize hQQ : MQ below _ _ _ 0 0 A = QQ
  show W p l e rm_X2_clashesIn s m ([.ref o, .int p0] : List Value).toArray below meth c s.heap [] 0 0 QQ (F0 m 0 ls [])
  obtain ⟨H, hHH⟩ : ∃ H, H = s.heap := ⟨_, rfl⟩
  rw [← hHH] at hP ⊢
  have hS : va_S A s.heap H [] := by rw [hHH]; exact hS
  clear hHH
  generalize ([] : List Loc) = locs at hS ⊢
  unfold P_X2_clashesIn at hw
  refine lv_iload_n hx hb dX2_clashesIn_0 rfl (lv_at hl 1 rfl) ?_
  refine lv_if_lt (tgt := 22) hx hb dX2_clashesIn_1 (by decide) (fun hc => ?_) (fun hc => ?_)
  · have hw := hw.1 hc
    refine lv_iconst (v := 0) hx hb dX2_clashesIn_22 (by decide) ?_
    rw [← hQQ]
    exact g_reti (v := 0) (u := ()) hx hb hr rfl hlocks hw hP hK hD hS dX2_clashesIn_23
  · have hw := hw.2 hc
    refine lv_iload_n hx hb dX2_clashesIn_4 rfl (lv_at hl 1 rfl) ?_
    refine lv_aload_n hx hb dX2_clashesIn_5 rfl (lv_at hl 0 rfl) ?_
    refine va_get (D := (dC, dI)) (ci := 2) (v := .ref o_clashes) (C := RX2) (T := TX2) (N := 9) hx hb ht i_X2 hown hK hP 0 rfl rfl 5 (by decide) (ht _ k_44) (fun _ h9 => h9) rfl dX2_clashesIn_6 ?_
    refine va_alen (v := 200) hx hb hK hP 1 0 rfl rfl rfl dX2_clashesIn_9 ?_
    refine lv_icmp_ge (tgt := 22) hx hb dX2_clashesIn_10 (by decide) (fun hc => ?_) (fun hc => ?_)
    · have hw := hw.1 hc
      refine lv_iconst (v := 0) hx hb dX2_clashesIn_22 (by decide) ?_
      rw [← hQQ]
      exact g_reti (v := 0) (u := ()) hx hb hr rfl hlocks hw hP hK hD hS dX2_clashesIn_23
    · have hw := hw.2 hc
      refine lv_aload_n hx hb dX2_clashesIn_13 rfl (lv_at hl 0 rfl) ?_
      refine va_get (D := (dC, dI)) (ci := 2) (v := .ref o_clashes) (C := RX2) (T := TX2) (N := 9) hx hb ht i_X2 hown hK hP 0 rfl rfl 5 (by decide) (ht _ k_44) (fun _ h9 => h9) rfl dX2_clashesIn_14 ?_
      refine lv_iload_n hx hb dX2_clashesIn_17 rfl (lv_at hl 1 rfl) ?_
      obtain ⟨hi_1, hw⟩ := hw
      refine gv_iald hx hb hK hP 1 0 rfl rfl rfl hi_1 dX2_clashesIn_18 ?_
      refine lv_goto (tgt := 23) hx hb dX2_clashesIn_19 (by decide) ?_
      rw [← hQQ]
      exact g_reti (v := (s_clashes p0.toNatClampNeg)) (u := ()) hx hb hr rfl hlocks hw hP hK hD hS dX2_clashesIn_23
abbrev rm_X2_clashBeats : Room := { frames := 1, cells := 0, slots := 0, locals := 21 }
set_option maxHeartbeats 4000000 in
set_option maxRecDepth 100000 in
theorem c_X2_clashBeats (l : Launch) (dC : Nat → ClassId) (dI : Nat → Nat → Nat) (cI cJ : ClassId) (o o_credits o_light o_lit o_whole o_ends o_clashes o_reach o_latest : Nat) (sz : Nat) (s_clashes : Nat → Int32) (s_clashPairs : Int32)  (Q : Int32 → Prop) (hw : P_X2_clashBeats s_clashes Q) : Met l yX2_clashBeats (Cond.code yX2_clashBeats cX2_clashBeats 3 (some .int) :: TBL) rm_X2_clashBeats (gPc (dC, dI) vwCl (gTy cI cJ) [.ref o] [(o, .inr (2, [.ref o_credits, .ref o_light, .ref o_lit, .ref o_whole, .ref o_ends, .ref o_clashes, .int s_clashPairs, .ref o_reach, .ref o_latest])), (o_clashes, .inl (cI, 200, .inl s_clashes))] sz) (va_Qi (fun (r : Int32) (u : Unit) => Q r ) (gB (dC, dI) vwCl (gTy cI cJ) (va_A [(o, .inr (2, [.ref o_credits, .ref o_light, .ref o_lit, .ref o_whole, .ref o_ends, .ref o_clashes, .int s_clashPairs, .ref o_reach, .ref o_latest])), (o_clashes, .inl (cI, 200, .inl s_clashes))] sz) (fun (u : Unit) => [(o, .inr (2, [.ref o_credits, .ref o_light, .ref o_lit, .ref o_whole, .ref o_ends, .ref o_clashes, .int s_clashPairs, .ref o_reach, .ref o_latest])), (o_clashes, .inl (cI, 200, .inl s_clashes))])) (va_A [(o, .inr (2, [.ref o_credits, .ref o_light, .ref o_lit, .ref o_whole, .ref o_ends, .ref o_clashes, .int s_clashPairs, .ref o_reach, .ref o_latest])), (o_clashes, .inl (cI, 200, .inl s_clashes))] sz)) 0 0 (va_A [(o, .inr (2, [.ref o_credits, .ref o_light, .ref o_lit, .ref o_whole, .ref o_ends, .ref o_clashes, .int s_clashPairs, .ref o_reach, .ref o_latest])), (o_clashes, .inl (cI, 200, .inl s_clashes))] sz) := by
  refine Met.ofW (cc := cX2_clashBeats) (maxL := 3) (ret := (some .int)) (by decide) rfl ?_
  intro p e s m args below meth c s₁ B hml hv
  obtain ⟨rfl, hsz, hP, hK, hD0⟩ := hv
  have hx := B.exec
  have hb := B.bytes
  have hr := B.returns
  have hts := atoms_spec (ws := Cond.code yX2_clashBeats cX2_clashBeats 3 (some .int) :: TBL) B.pre
  have ht : ∀ w ∈ TBL, w.before ([.ref o] : List Value).toArray s = true := fun w h => hts w (List.mem_cons_of_mem _ h)
  clear hts
  have hown : s.vm.findClass RX2 = some m.cls := findClass_of_methodNamed B.named
  have hlocks := B.notSynchronized
  clear B
  subst hsz
  have hD := hD0.self (sz := s.heap.size)
  clear hD0
  generalize hAe : va_A [(o, .inr (2, [.ref o_credits, .ref o_light, .ref o_lit, .ref o_whole, .ref o_ends, .ref o_clashes, .int s_clashPairs, .ref o_reach, .ref o_latest])), (o_clashes, .inl (cI, 200, .inl s_clashes))] s.heap.size = A at hD ⊢
  have hA : ∀ q : Nat, s.heap.size ≤ q → A q := fun q h => by rw [← hAe]; exact Or.inr h
  clear hAe
  have hS : va_S A s.heap s.heap [] := va_S.rf
  have hP : va_P (dC, dI) vwCl [(o, .inr (2, [.ref o_credits, .ref o_light, .ref o_lit, .ref o_whole, .ref o_ends, .ref o_clashes, .int s_clashPairs, .ref o_reach, .ref o_latest])), (o_clashes, .inl (cI, 200, .inl s_clashes))] s.heap := hP
  have hl := lv_entry ([.ref o]) (n := 3) (Nat.le_of_ble_eq_true rfl)
  rw [lg_entry_eq]
  generalize (lg_sl ([.ref o]) ++ List.replicate (3 - (lg_sl ([.ref o])).length) Slot.unset).toArray = ls at hl ⊢
  have hl : lv_has ls 3 [(0, .ref o)] := hl
  generalize hQQ : MQ below _ _ _ 0 0 A = QQ
  show W p l e rm_X2_clashBeats s m ([.ref o] : List Value).toArray below meth c s.heap [] 0 0 QQ (F0 m 0 ls [])
  have L4 : ∀ (n : Nat) (x1 : Int32) (x2 : Int32), P_X2_clashBeats_L4 s_clashes Q n x1 x2 → ∀ (H : Heap) (locs : List Loc) (ls : Array Slot), va_P (dC, dI) vwCl [(o, .inr (2, [.ref o_credits, .ref o_light, .ref o_lit, .ref o_whole, .ref o_ends, .ref o_clashes, .int s_clashPairs, .ref o_reach, .ref o_latest])), (o_clashes, .inl (cI, 200, .inl s_clashes))] H → va_D A [(o, .inr (2, [.ref o_credits, .ref o_light, .ref o_lit, .ref o_whole, .ref o_ends, .ref o_clashes, .int s_clashPairs, .ref o_reach, .ref o_latest])), (o_clashes, .inl (cI, 200, .inl s_clashes))] → va_S A s.heap H locs → lv_has ls 3 [(0, .ref o), (1, .int x1), (2, .int x2)] → W p l e rm_X2_clashBeats s m ([.ref o] : List Value).toArray below meth c H locs 0 0 QQ (F0 m 4 ls []) := by
    intro n
    induction n with
    | zero => intro x1 x2 hw; rw [P_X2_clashBeats_L4_z] at hw; exact hw.elim
    | succ n ih =>
      intro x1 x2 hw
      rw [P_X2_clashBeats_L4_s] at hw
      generalize hrec : P_X2_clashBeats_L4 s_clashes Q n = rec4 at ih hw
      have J22 : ∀ (x1 : Int32) (x2 : Int32), P_X2_clashBeats_J22 rec4 x1 x2 → ∀ (H : Heap) (locs : List Loc) (ls : Array Slot), va_P (dC, dI) vwCl [(o, .inr (2, [.ref o_credits, .ref o_light, .ref o_lit, .ref o_whole, .ref o_ends, .ref o_clashes, .int s_clashPairs, .ref o_reach, .ref o_latest])), (o_clashes, .inl (cI, 200, .inl s_clashes))] H → va_D A [(o, .inr (2, [.ref o_credits, .ref o_light, .ref o_lit, .ref o_whole, .ref o_ends, .ref o_clashes, .int s_clashPairs, .ref o_reach, .ref o_latest])), (o_clashes, .inl (cI, 200, .inl s_clashes))] → va_S A s.heap H locs → lv_has ls 3 [(0, .ref o), (1, .int x1), (2, .int x2)] → W p l e rm_X2_clashBeats s m ([.ref o] : List Value).toArray below meth c H locs 0 0 QQ (F0 m 22 ls []) := by
        intro x1 x2 hw H locs ls hP hD hS hl
        unfold P_X2_clashBeats_J22 at hw
        refine lv_iinc (v := (x2 + 1)) (lv' := [(2, .int (x2 + 1)), (0, .ref o), (1, .int x1)]) hx hb dX2_clashBeats_22 hl (k := 2) rfl rfl (by decide) rfl (fun ls hl => ?_)
        refine lv_goto (tgt := 4) hx hb dX2_clashBeats_25 (by decide) ?_
        exact ih x1 (x2 + 1) hw H locs ls hP hD hS (lv_sub (l' := [(0, .ref o), (1, .int x1), (2, .int (x2 + 1))]) hl [1, 2, 0] rfl)
      intro H locs ls hP hD hS hl
      unfold B_X2_clashBeats_L4 at hw
      refine lv_iload_n hx hb dX2_clashBeats_4 rfl (lv_at hl 2 rfl) ?_
      refine lv_sipush (v := 200) hx hb dX2_clashBeats_5 (by decide) ?_
      refine lv_icmp_ge (tgt := 28) hx hb dX2_clashBeats_8 (by decide) (fun hc => ?_) (fun hc => ?_)
      · have hw := hw.1 hc
        refine lv_iload_n hx hb dX2_clashBeats_28 rfl (lv_at hl 1 rfl) ?_
        rw [← hQQ]
        exact g_reti (v := x1) (u := ()) hx hb hr rfl hlocks hw hP hK hD hS dX2_clashBeats_29
      · have hw := hw.2 hc
        refine lv_aload_n hx hb dX2_clashBeats_11 rfl (lv_at hl 0 rfl) ?_
        refine lv_iload_n hx hb dX2_clashBeats_12 rfl (lv_at hl 2 rfl) ?_
        refine gc_Vi (As := [.int x2]) (rest := []) (wr := []) ⟨hx, hb, hml, hown, ht⟩ (c_X2_clashesIn l dC dI cI cJ o o_credits o_light o_lit o_whole o_ends o_clashes o_reach o_latest H.size s_clashes s_clashPairs x2 _ hw) (cwV 1 ht (g_V k_258 k_259 k_260 k_3 k_261) rfl rfl rfl (by decide +kernel) ⟨(Nat.le_of_ble_eq_true rfl), (Nat.le_of_ble_eq_true rfl)⟩) hK hP hD hS hA [0, 1] [] rfl rfl (by decide) 0 rfl rfl rfl rfl hl.1 rfl (Nat.le_of_ble_eq_true rfl) ⟨(Nat.le_of_ble_eq_true rfl), (Nat.le_of_ble_eq_true rfl)⟩ dX2_clashBeats_13 (fun r_1 u H locs hw hP hD hS => ?_)
        try dsimp only at hw
        have hP : va_P (dC, dI) vwCl [(o, .inr (2, [.ref o_credits, .ref o_light, .ref o_lit, .ref o_whole, .ref o_ends, .ref o_clashes, .int s_clashPairs, .ref o_reach, .ref o_latest])), (o_clashes, .inl (cI, 200, .inl s_clashes))] H := hP
        have hD : va_D A [(o, .inr (2, [.ref o_credits, .ref o_light, .ref o_lit, .ref o_whole, .ref o_ends, .ref o_clashes, .int s_clashPairs, .ref o_reach, .ref o_latest])), (o_clashes, .inl (cI, 200, .inl s_clashes))] := hD
        refine lv_if_le (tgt := 22) hx hb dX2_clashBeats_16 (by decide) (fun hc => ?_) (fun hc => ?_)
        · have hw := hw.1 hc
          exact J22 x1 x2 hw H locs ls hP hD hS hl
        · have hw := hw.2 hc
          refine lv_iinc (v := (x1 + 1)) (lv' := [(1, .int (x1 + 1)), (0, .ref o), (2, .int x2)]) hx hb dX2_clashBeats_19 hl (k := 1) rfl rfl (by decide) rfl (fun ls hl => ?_)
          exact J22 (x1 + 1) x2 hw H locs ls hP hD hS (lv_sub (l' := [(0, .ref o), (1, .int (x1 + 1)), (2, .int x2)]) hl [1, 0, 2] rfl)
  obtain ⟨H, hHH⟩ : ∃ H, H = s.heap := ⟨_, rfl⟩
  rw [← hHH] at hP ⊢
  have hS : va_S A s.heap H [] := by rw [hHH]; exact hS
  clear hHH
  generalize ([] : List Loc) = locs at hS ⊢
  unfold P_X2_clashBeats at hw
  refine lv_iconst (v := 0) hx hb dX2_clashBeats_0 (by decide) ?_
  refine lv_istore_n (lv' := [(1, .int 0), (0, .ref o)]) hx hb dX2_clashBeats_1 rfl hl (by decide) rfl (fun ls hl => ?_)
  refine lv_iconst (v := 0) hx hb dX2_clashBeats_2 (by decide) ?_
  refine lv_istore_n (lv' := [(2, .int 0), (1, .int 0), (0, .ref o)]) hx hb dX2_clashBeats_3 rfl hl (by decide) rfl (fun ls hl => ?_)
  obtain ⟨n, hw⟩ := hw
  exact L4  n 0 0 hw H locs ls hP hD hS (lv_sub (l' := [(0, .ref o), (1, .int 0), (2, .int 0)]) hl [2, 1, 0] rfl)
abbrev rm_X2_clashPairs : Room := { frames := 0, cells := 0, slots := 0, locals := 0 }
set_option maxHeartbeats 4000000 in
set_option maxRecDepth 100000 in
theorem c_X2_clashPairs (l : Launch) (dC : Nat → ClassId) (dI : Nat → Nat → Nat) (cI cJ : ClassId) (o o_credits o_light o_lit o_whole o_ends o_clashes o_reach o_latest : Nat) (sz : Nat) (s_clashPairs : Int32)  (Q : Int32 → Prop) (hw : P_X2_clashPairs s_clashPairs Q) : Met l yX2_clashPairs (Cond.code yX2_clashPairs cX2_clashPairs 1 (some .int) :: TBL) rm_X2_clashPairs (gPc (dC, dI) vwCl (gTy cI cJ) [.ref o] [(o, .inr (2, [.ref o_credits, .ref o_light, .ref o_lit, .ref o_whole, .ref o_ends, .ref o_clashes, .int s_clashPairs, .ref o_reach, .ref o_latest]))] sz) (va_Qi (fun (r : Int32) (u : Unit) => Q r ) (gB (dC, dI) vwCl (gTy cI cJ) (va_A [(o, .inr (2, [.ref o_credits, .ref o_light, .ref o_lit, .ref o_whole, .ref o_ends, .ref o_clashes, .int s_clashPairs, .ref o_reach, .ref o_latest]))] sz) (fun (u : Unit) => [(o, .inr (2, [.ref o_credits, .ref o_light, .ref o_lit, .ref o_whole, .ref o_ends, .ref o_clashes, .int s_clashPairs, .ref o_reach, .ref o_latest]))])) (va_A [(o, .inr (2, [.ref o_credits, .ref o_light, .ref o_lit, .ref o_whole, .ref o_ends, .ref o_clashes, .int s_clashPairs, .ref o_reach, .ref o_latest]))] sz)) 0 0 (va_A [(o, .inr (2, [.ref o_credits, .ref o_light, .ref o_lit, .ref o_whole, .ref o_ends, .ref o_clashes, .int s_clashPairs, .ref o_reach, .ref o_latest]))] sz) := by
  refine Met.ofW (cc := cX2_clashPairs) (maxL := 1) (ret := (some .int)) (by decide) rfl ?_
  intro p e s m args below meth c s₁ B hml hv
  obtain ⟨rfl, hsz, hP, hK, hD0⟩ := hv
  have hx := B.exec
  have hb := B.bytes
  have hr := B.returns
  have hts := atoms_spec (ws := Cond.code yX2_clashPairs cX2_clashPairs 1 (some .int) :: TBL) B.pre
  have ht : ∀ w ∈ TBL, w.before ([.ref o] : List Value).toArray s = true := fun w h => hts w (List.mem_cons_of_mem _ h)
  clear hts
  have hown : s.vm.findClass RX2 = some m.cls := findClass_of_methodNamed B.named
  have hlocks := B.notSynchronized
  clear B
  subst hsz
  have hD := hD0.self (sz := s.heap.size)
  clear hD0
  generalize hAe : va_A [(o, .inr (2, [.ref o_credits, .ref o_light, .ref o_lit, .ref o_whole, .ref o_ends, .ref o_clashes, .int s_clashPairs, .ref o_reach, .ref o_latest]))] s.heap.size = A at hD ⊢
  have hA : ∀ q : Nat, s.heap.size ≤ q → A q := fun q h => by rw [← hAe]; exact Or.inr h
  clear hAe
  have hS : va_S A s.heap s.heap [] := va_S.rf
  have hP : va_P (dC, dI) vwCl [(o, .inr (2, [.ref o_credits, .ref o_light, .ref o_lit, .ref o_whole, .ref o_ends, .ref o_clashes, .int s_clashPairs, .ref o_reach, .ref o_latest]))] s.heap := hP
  have hl := lv_entry ([.ref o]) (n := 1) (Nat.le_of_ble_eq_true rfl)
  rw [lg_entry_eq]
  generalize (lg_sl ([.ref o]) ++ List.replicate (1 - (lg_sl ([.ref o])).length) Slot.unset).toArray = ls at hl ⊢
  have hl : lv_has ls 1 [(0, .ref o)] := hl
  generalize hQQ : MQ below _ _ _ 0 0 A = QQ
  show W p l e rm_X2_clashPairs s m ([.ref o] : List Value).toArray below meth c s.heap [] 0 0 QQ (F0 m 0 ls [])
  obtain ⟨H, hHH⟩ : ∃ H, H = s.heap := ⟨_, rfl⟩
  rw [← hHH] at hP ⊢
  have hS : va_S A s.heap H [] := by rw [hHH]; exact hS
  clear hHH
  generalize ([] : List Loc) = locs at hS ⊢
  unfold P_X2_clashPairs at hw
  refine lv_aload_n hx hb dX2_clashPairs_0 rfl (lv_at hl 0 rfl) ?_
  refine va_get (D := (dC, dI)) (ci := 2) (v := .int s_clashPairs) (C := RX2) (T := TX2) (N := 9) hx hb ht i_X2 hown hK hP 0 rfl rfl 6 (by decide) (ht _ k_45) (fun _ h9 => h9) rfl dX2_clashPairs_1 ?_
  rw [← hQQ]
  exact g_reti (v := s_clashPairs) (u := ()) hx hb hr rfl hlocks hw hP hK hD hS dX2_clashPairs_4
