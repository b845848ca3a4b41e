theorem k_15 : Cond.instantiable RX3 8 ∈ TBL := mem_T (i := 15) (by decide +kernel) (by decide +kernel)
theorem k_14 : Cond.classLink RL 10 RX3 ∈ TBL := mem_T (i := 14) (by decide +kernel) (by decide +kernel)
theorem k_18 : Cond.code yX3_init cX3_init 1 none ∈ TBL := mem_T (i := 18) (by decide +kernel) (by decide +kernel)
theorem k_16 : Cond.methodLink RL 88 yX3_init ∈ TBL := mem_T (i := 16) (by decide +kernel) (by decide +kernel)
theorem k_17 : Cond.instanceMethod yX3_init ∈ TBL := mem_T (i := 17) (by decide +kernel) (by decide +kernel)
def R_law : String := "CreditBeamsLaw"
def lw_P (b : Addr) (xs : List Int32) (args : Array Value) (s : State) : Prop := args = #[.ref b] ∧ s.IntsAt b xs ∧ xs.length ≤ 260 ∧ (Jvm.Cond.and given_1 narrow_1).before args s = true
/-- what a walk over the start with the record d0 says of its end, said of the start itself -/
theorem lw_closed {s t : State} {o : Outcome} {d0 : Drawn} {L : List Loc} {k n : Nat} (hd0 : s.drawn.sameBut d0 lw_cs) (hv : ∃ v, o = .returned v) (hW : (s.setDrawn d0).WarmedH t.vm) (hs : (s.setDrawn d0).sameButNew ({ t with vm := s.vm } : State) L k n) : State.butDraws s t lw_cs (fun t1 => Framed s o t1 L k n) := by
  have h2 : t.drawn = d0 := congrArg State.drawn hs.1
  refine ⟨⟨hv, hW, State.sameButNew.setDrawn hs s.drawn⟩, ?_, by decide⟩
  rw [h2]
  exact hd0
def lw_Q (_ : Array Value) (s : State) (o : Outcome) (t : State) : Prop := o = .returned (some (.int 1)) ∧ State.butDraws s t lw_cs (fun t1 => Framed s o t1 [] 131 5739)
def lw_Z (below : List Frame) (a : Array Value) (s : State) : State → Prop := fun t => ∃ o, t.status = .running ∧ Ended t below o ∧ lw_Q a s o t
/-- the law's own end, with 1 on the stack, nothing written that was there before, its room as the claim has it; d0: the record of draws at this point (at the entry s.drawn: begin with 'refine W.base ?_' and 'have hd0 := Drawn.sameBut.refl s.drawn lw_cs') -/
theorem lw_ret {p : Program} {l : Launch} {e : Env} {s : State} {m : MethodId} {below : List Frame} {meth : Method} {c : Code} {b : Nat} {d0 : Drawn} (hd0 : s.drawn.sameBut d0 lw_cs) (hx : p.tables.exec = Jvm.exec) (hb : c.code = code) (hr : meth.sig.returnType = ret) (hlocks : meth.locks = false) {pc : Nat} {H : Heap} {ls : Array Slot} (hdg : decode code pc = .ok (.ireturn, 1)) : W p l e room_1 (s.setDrawn d0) m #[Value.ref b] below meth c H [] 131 5739 (lw_Z below #[Value.ref b] s) (F0 m pc ls [.int 1]) := by
  intro T hT X
  obtain ⟨fs, hret, hrun, hended, hW, hframe⟩ := X.leave (v := some (.int 1)) (hlocks := hlocks) (fun h => by rw [hr] at h; cases h)
  have hmeth' : T.vm.method? m = some meth := X.method'
  refine ⟨T.setFrames fs, ?_, .returned (some (.int 1)), hrun, hended, rfl, lw_closed hd0 ⟨_, rfl⟩ hW hframe⟩
  jvm_step X.here [X.here.top, hx, hb, hdg, hmeth', hr, ret, narrow_b1]
  (try refine ⟨rfl, ?_⟩); (try refine ⟨rfl, ?_⟩)
  first | (intro acts; rw [hret _ acts rfl rfl rfl]) | rw [hret _ _ rfl rfl rfl]
  exact Steps.refl _
/-- what holds at the law's entry: the machine, the code, the tables' words (any of lw_tbl by 'hts w (by decide +kernel)'), the script of L ints xs at the cell b, what the Statement gives of the start (any of its parts by flat_of_before) -/
def lw_At (p : Program) (s : State) (m : MethodId) (meth : Method) (c : Code) (b L : Nat) (xs : Nat → Int32) : Prop :=
  p.tables.exec = Jvm.exec ∧ c.code = code ∧ meth.sig.returnType = ret ∧ c.maxLocals = 10 ∧ s.vm.findClass R_law = some m.cls ∧ (∀ w ∈ lw_tbl, w.before #[Value.ref b] s = true) ∧ va_X b L xs s s.heap ∧ b < s.heap.size ∧ meth.locks = false ∧ (Jvm.Cond.and given_1 narrow_1).before #[Value.ref b] s = true

theorem g_arr {args : Array Value} {s : State} {ty : FieldType} (h : (Cond.arrayClass ty).before args s = true) : ∃ cA, ArrOfT s cA ty ∧ s.vm.findClass ("[" ++ ty.toString) = some cA := by
  obtain ⟨c, k, comp, h1, h2, h3⟩ := Cond.arrayClass_spec h
  exact ⟨c, fun n z => ⟨fun k h => (by cases h), k, h2, comp, h3⟩, h1⟩
theorem gStrs_in : ∀ q ∈ gStrs, Cond.stringRef RX3 q.1 q.2 ∈ tables_1 := by decide +kernel
theorem gStrs_ge : ∀ q ∈ gStrs, 4 ≤ q.1 ∧ q.1 < 1000 := by decide +kernel
theorem gNgs_in : ∀ w ∈ gNgs, w ∈ tables_1 := by decide +kernel

set_option maxHeartbeats 4000000 in
set_option maxRecDepth 100000 in
theorem g_E {s : State} {b L : Nat} {xs : Nat → Int32} {A : Nat → Prop} (hA : ∀ a : Nat, a < s.heap.size → ¬ A a) (hX : va_X b L xs s s.heap) (hbl : b < s.heap.size) (hts : ∀ w ∈ lw_tbl, w.before #[Value.ref b] s = true) (hgv : (Jvm.Cond.and given_1 narrow_1).before #[Value.ref b] s = true) : ∃ z : Nat → Nat, z 0 = b ∧ z 1 = L ∧ gE z A s s.heap := by
  have hn := flat_of_before _ hgv
  have htb : ∀ w ∈ tables_1, w.before #[Value.ref b] s = true := fun w h => hts w (List.mem_append_right _ h)
  obtain ⟨cX, iX, hKX⟩ := u_known (C := RX3) (T := TX3) (N := 8) (n := 8) hts (fun w h => (List.mem_filter.mp (i_X3 w h)).1) (hts (.instantiable RX3 8) (by decide +kernel))
  obtain ⟨zs, hzs⟩ : ∃ zs : Nat → Nat, zs = fun k => match (Term.string RX3 k).eval #[Value.ref b] s none [] s with | some (.ref a) => a | _ => 0 := ⟨_, rfl⟩
  obtain ⟨z, hz⟩ : ∃ z : Nat → Nat, z = fun k => if k = 0 then b else if k = 1 then L else if k < 1000 then zs k else (xs (k - 1000)).toBitVec.toNat := ⟨_, rfl⟩
  have z0 : z 0 = b := by rw [hz]; rfl
  have z1 : z 1 = L := by rw [hz]; rfl
  have zx : xZ z = xs := by
    funext j
    unfold xZ
    rw [hz]
    show Int32.ofNat (if j + 1000 = 0 then b else if j + 1000 = 1 then L else if j + 1000 < 1000 then zs (j + 1000) else (xs (j + 1000 - 1000)).toBitVec.toNat) = xs j
    rw [if_neg (by omega), if_neg (by omega), if_neg (by omega), Nat.add_sub_cancel]
    apply Int32.toBitVec_inj.mp
    rw [Int32.toBitVec_ofNat']
    rw [BitVec.ofNat_toNat]
    exact BitVec.setWidth_eq _
  refine ⟨z, z0, z1, ⟨by rw [z0, z1, zx]; exact hX, by rw [z0]; exact hbl, by rw [z0]; exact hA b hbl⟩, ⟨vx_Zqof (htb (.laysStatic Bundle.tN "UNASSIGNED_STACK" Bundle.steD) (by decide +kernel)) (htb (.initialized Bundle.tN) (by decide +kernel)) (hn (.isRef (.static Bundle.tN "UNASSIGNED_STACK" Bundle.steD)) (by decide +kernel)) hA, vx_Zqof (htb (.laysStatic Bundle.tN "SUPPRESSED_SENTINEL" Bundle.listD) (by decide +kernel)) (htb (.initialized Bundle.tN) (by decide +kernel)) (hn (.isRef (.static Bundle.tN "SUPPRESSED_SENTINEL" Bundle.listD)) (by decide +kernel)) hA⟩, ?_, ⟨va_Nc.of (hn (.not (.castable xS xI)) (by decide +kernel)), va_Nc.of (hn (.not (.castable xS xI)) (by decide +kernel))⟩, fun w hw => va_Nw.of (gNgs_on w hw) (htb w (gNgs_in w hw))⟩
  intro q hq
  have h4 := gStrs_ge q hq
  have hs := htb _ (gStrs_in q hq)
  obtain ⟨k, cf, i, a, -, -, -, -, -, ha⟩ := Cond.stringRef_spec hKX.2.1 hs
  have e : z q.1 = a := by
    rw [hz]
    show (if q.1 = 0 then b else if q.1 = 1 then L else if q.1 < 1000 then zs q.1 else (xs (q.1 - 1000)).toBitVec.toNat) = a
    rw [if_neg (by omega), if_neg (by omega), if_pos (by omega), hzs]
    show (match (Term.string RX3 q.1).eval #[Value.ref b] s none [] s with | some (.ref a) => a | _ => 0) = a
    rw [show (Term.string RX3 q.1).eval #[Value.ref b] s none [] s = some (.ref a) from ha]
  rw [e]
  exact vk_R.of hs ha
set_option maxHeartbeats 8000000 in
set_option maxRecDepth 100000 in
/-- the law from its entry, if the pure claim about its loop holds -/
theorem whole_start_open {p : Program} {e : Env} {s : State} {m : MethodId} {below : List Frame} {meth : Method} {c : Code} (l : Launch) (hflags : l.flags = flags0) {b L : Nat} {xs : Nat → Int32} (hL : L ≤ 260) (C0 : lw_At p s m meth c b L xs) (hlaw : ∀ (z : Nat → Nat) (x3 : Int32), z 1 ≤ 260 → ((24 < Int32.ofNat (z 1) / 4 ∧ x3 = 24) ∨ (Int32.ofNat (z 1) / 4 ≤ 24 ∧ x3 = Int32.ofNat (z 1) / 4)) → ∃ n, n ≤ 100 ∧ P_law_L z x3 n 1 0 (upd (upd (fun _ => 0) 78 4) 79 4) (fun _ => 0) (fun _ => 0) (fun _ => 0) (fun _ => 0) (fun _ => 0) 0 (fun _ => 0) (fun _ => 0) (fun _ => 0) (fun _ => 0) (fun _ => 0) (fun _ => 0) (fun _ => 0) (fun _ => 0) (fun _ => 0) 0) : W p l e room_1 s m #[Value.ref b] below meth c s.heap [] 0 0 (lw_Z below #[Value.ref b] s) (entryFrame m ([Value.ref b] : List Value).toArray 10) := by
  obtain ⟨hx, hb, hr, hml, hown, hts, hX, hbl, hlocks, hgv⟩ := id C0
  have hb : c.code = cL_law := hb
  have hown : s.vm.findClass RL = some m.cls := hown
  have hst : l.stackTraces = false := by unfold Launch.stackTraces; rw [hflags]; decide +kernel
  obtain ⟨A, hAe⟩ : ∃ A : Nat → Prop, A = fun q : Nat => s.heap.size ≤ q := ⟨_, rfl⟩
  have hA : ∀ q : Nat, s.heap.size ≤ q → A q := fun q h => by rw [hAe]; exact h
  have hAl : ∀ q, A q → s.heap.size ≤ q := fun q h => by rw [hAe] at h; exact h
  obtain ⟨z, z0, z1, hE⟩ := g_E (A := A) (fun a h1 h2 => absurd (hAl a h2) (Nat.not_le.mpr h1)) hX hbl hts hgv
  clear hAe hX C0 hgv
  subst z0
  subst z1
  have ht : ∀ w ∈ TBL, w.before #[Value.ref (z 0)] s = true := fun w h => hts w (List.mem_filter.mp h).1
  obtain ⟨c0, iS0, hKn0⟩ := u_known (C := RX0) (T := TX0) (N := 1) (n := 1) ht i_X0 (ht (.instantiable RX0 1) k_23)
  obtain ⟨c1, iS1, hKn1⟩ := u_known (C := RX1) (T := TX1) (N := 6) (n := 6) ht i_X1 (ht (.instantiable RX1 6) k_69)
  obtain ⟨c2, iS2, hKn2⟩ := u_known (C := RX2) (T := TX2) (N := 9) (n := 9) ht i_X2 (ht (.instantiable RX2 9) k_34)
  obtain ⟨c3, iS3, hKn3⟩ := u_known (C := RX3) (T := TX3) (N := 8) (n := 8) ht i_X3 (ht (.instantiable RX3 8) k_15)
  obtain ⟨dC, dI, hKc⟩ : ∃ (dC : Nat → ClassId) (dI : Nat → Nat → Nat), ∀ (k : Nat) (q : vw_C), vwCl[k]? = some q → u_Kn s q.1 q.2.1 q.2.2 (dC k) (dI k) := by
    refine ⟨fun k => match k with | 0 => c0 | 1 => c1 | 2 => c2 | _ => c3, fun k => match k with | 0 => iS0 | 1 => iS1 | 2 => iS2 | _ => iS3, ?_⟩
    intro k q hq
    match k, hq with
    | 0, hq => cases hq; exact hKn0
    | 1, hq => cases hq; exact hKn1
    | 2, hq => cases hq; exact hKn2
    | 3, hq => cases hq; exact hKn3
    | k + 4, hq => simp [vwCl] at hq
  obtain ⟨cI, hI1, hI2⟩ := g_arr (ht (.arrayClass .int) k_32)
  obtain ⟨cJ, hJ1, hJ2⟩ := g_arr (ht (.arrayClass .long) k_67)
  have hK : va_K (dC, dI) vwCl (gTy cI cJ) s := by
    refine ⟨hKc, fun k q h => ?_⟩
    match k, h with
    | 0, h => cases h; exact ⟨hI1, hI2⟩
    | 1, h => cases h; exact ⟨hJ1, hJ2⟩
    | k + 2, h => simp [gTy] at h
  have hS : va_S A s.heap s.heap [] := va_S.rf
  have hP : va_P (dC, dI) vwCl [] s.heap := fun k q h => by simp at h
  have hD : va_D A [] := ⟨fun i j p q h => by simp at h, fun k q h => by simp at h⟩
  have hl := lv_entry ([.ref (z 0)]) (n := 10) (Nat.le_of_ble_eq_true rfl)
  rw [lg_entry_eq]
  generalize (lg_sl ([.ref (z 0)]) ++ List.replicate (10 - (lg_sl ([.ref (z 0)])).length) Slot.unset).toArray = ls at hl ⊢
  have hl : lv_has ls 10 [(0, .ref (z 0))] := hl
  have hend : ∀ (v : Int32) (cells slots : Nat) (H : Heap) (locs : List Loc) (ls : Array Slot), v = 1 → cells ≤ 131 → slots ≤ 5739 → va_S A s.heap H locs → W p l e room_1 s m #[Value.ref (z 0)] below meth c H locs cells slots (lw_Z below #[Value.ref (z 0)] s) (F0 m 258 ls [.int v]) := by
    intro v cells slots H locs ls hv h1 h2 hS
    subst hv
    refine va_forget (fun q hq => hAl _ (hS.2.2 q hq)) ?_
    refine W.widen (k := 131) (n := 5739) h1 h2 ?_
    exact lw_ret (d0 := s.drawn) (Drawn.sameBut.refl s.drawn lw_cs) hx hb hr hlocks dL_law_258
  generalize lw_Z below #[Value.ref (z 0)] s = QQ at hend ⊢
  obtain ⟨H, hHH⟩ : ∃ H, H = s.heap := ⟨_, rfl⟩
  rw [← hHH] at hP ⊢
  have hS : va_S A s.heap H [] := by rw [hHH]; exact hS
  clear hHH
  generalize ([] : List Loc) = locs at hS ⊢
  refine va_new (ci := 3) (fs := [.null, .null, .null, .null, .null, .int 0, .null, .int 0]) (C := RX3) (T := TX3) (N := 8) hx hb ht i_X3 tyX3 tyX3_ok hown (ht _ k_14) (ht _ k_15) (ht _ k_1) hK hP hD hS hA rfl (fun j hj => by rcases (show j = 0 ∨ j = 1 ∨ j = 2 ∨ j = 3 ∨ j = 4 ∨ j = 5 ∨ j = 6 ∨ j = 7 by omega) with rfl | rfl | rfl | rfl | rfl | rfl | rfl | rfl <;> rfl) (Nat.le_of_ble_eq_true rfl) (Nat.le_of_ble_eq_true rfl) dL_law_0 (fun rx H hP hD hS => ?_)
  have hP : va_P (dC, dI) vwCl [(rx, .inr (3, [.null, .null, .null, .null, .null, .int 0, .null, .int 0]))] H := hP
  have hD : va_D A [(rx, .inr (3, [.null, .null, .null, .null, .null, .int 0, .null, .int 0]))] := hD
  refine lv_dup hx hb dL_law_3 rfl ?_
  refine gcE_Iv (As := []) (rest := [.ref rx]) (wr := []) ⟨hx, hb, hml, hown, ht⟩ (i_c_X3_init l dC dI cI cJ z rx H.size) (cwI 0 ht (goodIn_T k_18) rfl rfl rfl (ht _ k_1) (ht _ k_16) (ht _ k_17) rfl (by decide +kernel) ⟨(Nat.le_of_ble_eq_true rfl), (Nat.le_of_ble_eq_true rfl)⟩) hK hP hD hS hA hE [0] [] rfl rfl (by decide) rfl hl.1 rfl (Nat.le_of_ble_eq_true rfl) ⟨(Nat.le_of_ble_eq_true rfl), (Nat.le_of_ble_eq_true rfl)⟩ dL_law_4 (fun u H locs hw hP hD hS => ?_)
  obtain ⟨rx_credits, rx_credits_cells, rx_shown, rx_shown_light, rx_shown_lit, rx_shown_whole, rx_shown_ends, rx_shown_clashes, rx_shown_reach, rx_shown_latest, rx_trial, rx_trial_light, rx_trial_lit, rx_trial_whole, rx_trial_ends, rx_trial_clashes, rx_trial_reach, rx_trial_latest, rx_reader, rx_reader_numbers, rx_saved, rx_buffer⟩ := u
  have hP : va_P (dC, dI) vwCl [(rx, .inr (3, [.ref rx_credits, .ref rx_shown, .ref rx_trial, .ref rx_reader, .ref rx_saved, .int 0, .ref rx_buffer, .int 0])), (rx_credits, .inr (0, [.ref rx_credits_cells])), (rx_credits_cells, .inl (cI, 82, .inl (upd (upd (fun _ => 0) 78 4) 79 4))), (rx_shown, .inr (2, [.ref rx_credits, .ref rx_shown_light, .ref rx_shown_lit, .ref rx_shown_whole, .ref rx_shown_ends, .ref rx_shown_clashes, .int 0, .ref rx_shown_reach, .ref rx_shown_latest])), (rx_shown_light, .inl (cJ, 1600, .inr (.inl (fun _ => 0)))), (rx_shown_lit, .inl (cI, 96, .inl (fun _ => 0))), (rx_shown_whole, .inl (cI, 8, .inl (fun _ => 0))), (rx_shown_ends, .inl (cI, 8, .inl (fun _ => 0))), (rx_shown_clashes, .inl (cI, 200, .inl (fun _ => 0))), (rx_shown_reach, .inl (cI, 200, .inl (fun _ => 0))), (rx_shown_latest, .inl (cI, 12, .inl (fun _ => 0))), (rx_trial, .inr (2, [.ref rx_credits, .ref rx_trial_light, .ref rx_trial_lit, .ref rx_trial_whole, .ref rx_trial_ends, .ref rx_trial_clashes, .int 0, .ref rx_trial_reach, .ref rx_trial_latest])), (rx_trial_light, .inl (cJ, 1600, .inr (.inl (fun _ => 0)))), (rx_trial_lit, .inl (cI, 96, .inl (fun _ => 0))), (rx_trial_whole, .inl (cI, 8, .inl (fun _ => 0))), (rx_trial_ends, .inl (cI, 8, .inl (fun _ => 0))), (rx_trial_clashes, .inl (cI, 200, .inl (fun _ => 0))), (rx_trial_reach, .inl (cI, 200, .inl (fun _ => 0))), (rx_trial_latest, .inl (cI, 12, .inl (fun _ => 0))), (rx_reader, .inr (1, [.ref rx_reader_numbers, .int 0, .int 0, .int 0, .int 0, .int 0])), (rx_reader_numbers, .inl (cI, 4, .inl (fun _ => 0))), (rx_saved, .inl (cI, 492, .inl (fun _ => 0))), (rx_buffer, .inl (cI, 60, .inl (fun _ => 0)))] H := hP
  have hD : va_D A [(rx, .inr (3, [.ref rx_credits, .ref rx_shown, .ref rx_trial, .ref rx_reader, .ref rx_saved, .int 0, .ref rx_buffer, .int 0])), (rx_credits, .inr (0, [.ref rx_credits_cells])), (rx_credits_cells, .inl (cI, 82, .inl (upd (upd (fun _ => 0) 78 4) 79 4))), (rx_shown, .inr (2, [.ref rx_credits, .ref rx_shown_light, .ref rx_shown_lit, .ref rx_shown_whole, .ref rx_shown_ends, .ref rx_shown_clashes, .int 0, .ref rx_shown_reach, .ref rx_shown_latest])), (rx_shown_light, .inl (cJ, 1600, .inr (.inl (fun _ => 0)))), (rx_shown_lit, .inl (cI, 96, .inl (fun _ => 0))), (rx_shown_whole, .inl (cI, 8, .inl (fun _ => 0))), (rx_shown_ends, .inl (cI, 8, .inl (fun _ => 0))), (rx_shown_clashes, .inl (cI, 200, .inl (fun _ => 0))), (rx_shown_reach, .inl (cI, 200, .inl (fun _ => 0))), (rx_shown_latest, .inl (cI, 12, .inl (fun _ => 0))), (rx_trial, .inr (2, [.ref rx_credits, .ref rx_trial_light, .ref rx_trial_lit, .ref rx_trial_whole, .ref rx_trial_ends, .ref rx_trial_clashes, .int 0, .ref rx_trial_reach, .ref rx_trial_latest])), (rx_trial_light, .inl (cJ, 1600, .inr (.inl (fun _ => 0)))), (rx_trial_lit, .inl (cI, 96, .inl (fun _ => 0))), (rx_trial_whole, .inl (cI, 8, .inl (fun _ => 0))), (rx_trial_ends, .inl (cI, 8, .inl (fun _ => 0))), (rx_trial_clashes, .inl (cI, 200, .inl (fun _ => 0))), (rx_trial_reach, .inl (cI, 200, .inl (fun _ => 0))), (rx_trial_latest, .inl (cI, 12, .inl (fun _ => 0))), (rx_reader, .inr (1, [.ref rx_reader_numbers, .int 0, .int 0, .int 0, .int 0, .int 0])), (rx_reader_numbers, .inl (cI, 4, .inl (fun _ => 0))), (rx_saved, .inl (cI, 492, .inl (fun _ => 0))), (rx_buffer, .inl (cI, 60, .inl (fun _ => 0)))] := hD
  have hP := hP.sub (ws' := [(rx, .inr (3, [.ref rx_credits, .ref rx_shown, .ref rx_trial, .ref rx_reader, .ref rx_saved, .int 0, .ref rx_buffer, .int 0])), (rx_credits, .inr (0, [.ref rx_credits_cells])), (rx_credits_cells, .inl (cI, 82, .inl (upd (upd (fun _ => 0) 78 4) 79 4))), (rx_shown, .inr (2, [.ref rx_credits, .ref rx_shown_light, .ref rx_shown_lit, .ref rx_shown_whole, .ref rx_shown_ends, .ref rx_shown_clashes, .int 0, .ref rx_shown_reach, .ref rx_shown_latest])), (rx_shown_light, .inl (cJ, 1600, .inr (.inl (fun _ => 0)))), (rx_shown_lit, .inl (cI, 96, .inl (fun _ => 0))), (rx_shown_whole, .inl (cI, 8, .inl (fun _ => 0))), (rx_shown_ends, .inl (cI, 8, .inl (fun _ => 0))), (rx_shown_clashes, .inl (cI, 200, .inl (fun _ => 0))), (rx_shown_reach, .inl (cI, 200, .inl (fun _ => 0))), (rx_shown_latest, .inl (cI, 12, .inl (fun _ => 0))), (rx_trial, .inr (2, [.ref rx_credits, .ref rx_trial_light, .ref rx_trial_lit, .ref rx_trial_whole, .ref rx_trial_ends, .ref rx_trial_clashes, .int 0, .ref rx_trial_reach, .ref rx_trial_latest])), (rx_trial_light, .inl (cJ, 1600, .inr (.inl (fun _ => 0)))), (rx_trial_lit, .inl (cI, 96, .inl (fun _ => 0))), (rx_trial_whole, .inl (cI, 8, .inl (fun _ => 0))), (rx_trial_ends, .inl (cI, 8, .inl (fun _ => 0))), (rx_trial_reach, .inl (cI, 200, .inl (fun _ => 0))), (rx_trial_latest, .inl (cI, 12, .inl (fun _ => 0))), (rx_saved, .inl (cI, 492, .inl (fun _ => 0)))]) [0, 1, 2, 3, 4, 5, 6, 7, 8, 9, 10, 11, 12, 13, 14, 15, 17, 18, 21] rfl
  have hD := hD.sub (ws' := [(rx, .inr (3, [.ref rx_credits, .ref rx_shown, .ref rx_trial, .ref rx_reader, .ref rx_saved, .int 0, .ref rx_buffer, .int 0])), (rx_credits, .inr (0, [.ref rx_credits_cells])), (rx_credits_cells, .inl (cI, 82, .inl (upd (upd (fun _ => 0) 78 4) 79 4))), (rx_shown, .inr (2, [.ref rx_credits, .ref rx_shown_light, .ref rx_shown_lit, .ref rx_shown_whole, .ref rx_shown_ends, .ref rx_shown_clashes, .int 0, .ref rx_shown_reach, .ref rx_shown_latest])), (rx_shown_light, .inl (cJ, 1600, .inr (.inl (fun _ => 0)))), (rx_shown_lit, .inl (cI, 96, .inl (fun _ => 0))), (rx_shown_whole, .inl (cI, 8, .inl (fun _ => 0))), (rx_shown_ends, .inl (cI, 8, .inl (fun _ => 0))), (rx_shown_clashes, .inl (cI, 200, .inl (fun _ => 0))), (rx_shown_reach, .inl (cI, 200, .inl (fun _ => 0))), (rx_shown_latest, .inl (cI, 12, .inl (fun _ => 0))), (rx_trial, .inr (2, [.ref rx_credits, .ref rx_trial_light, .ref rx_trial_lit, .ref rx_trial_whole, .ref rx_trial_ends, .ref rx_trial_clashes, .int 0, .ref rx_trial_reach, .ref rx_trial_latest])), (rx_trial_light, .inl (cJ, 1600, .inr (.inl (fun _ => 0)))), (rx_trial_lit, .inl (cI, 96, .inl (fun _ => 0))), (rx_trial_whole, .inl (cI, 8, .inl (fun _ => 0))), (rx_trial_ends, .inl (cI, 8, .inl (fun _ => 0))), (rx_trial_reach, .inl (cI, 200, .inl (fun _ => 0))), (rx_trial_latest, .inl (cI, 12, .inl (fun _ => 0))), (rx_saved, .inl (cI, 492, .inl (fun _ => 0)))]) [0, 1, 2, 3, 4, 5, 6, 7, 8, 9, 10, 11, 12, 13, 14, 15, 17, 18, 21] (by decide) rfl
  refine lv_astore_n (lv' := [(1, .ref rx), (0, .ref (z 0))]) hx hb dL_law_7 rfl hl (by decide) rfl (fun ls hl => ?_)
  refine lv_iconst (v := 1) hx hb dL_law_8 (by decide) ?_
  refine lv_istore_n (lv' := [(2, .int 1), (1, .ref rx), (0, .ref (z 0))]) hx hb dL_law_9 rfl hl (by decide) rfl (fun ls hl => ?_)
  refine lv_aload_n hx hb dL_law_10 rfl (lv_at hl 2 rfl) ?_
  refine va_slen hx hb hE.1.1 hE.1.2.1 hE.1.2.2 hS dL_law_11 ?_
  refine lv_iconst (v := 4) hx hb dL_law_12 (by decide) ?_
  refine lv_idiv hx hb dL_law_13 (by decide) ?_
  refine lv_bipush (v := 24) hx hb dL_law_14 (by decide) ?_
  refine lv_icmp_le (tgt := 24) hx hb dL_law_16 (by decide) (fun hc9 => ?_) (fun hc9 => ?_)
  · obtain ⟨n, hn, hlw⟩ := hlaw z _ hL (Or.inr ⟨hc9, rfl⟩)
    refine lv_aload_n hx hb dL_law_24 rfl (lv_at hl 2 rfl) ?_
    refine va_slen hx hb hE.1.1 hE.1.2.1 hE.1.2.2 hS dL_law_25 ?_
    refine lv_iconst (v := 4) hx hb dL_law_26 (by decide) ?_
    refine lv_idiv hx hb dL_law_27 (by decide) ?_
    refine lv_istore_n (lv' := [(3, .int (Int32.ofNat (z 1) / 4)), (2, .int 1), (1, .ref rx), (0, .ref (z 0))]) hx hb dL_law_28 rfl hl (by decide) rfl (fun ls hl => ?_)
    refine lv_iconst (v := 0) hx hb dL_law_29 (by decide) ?_
    refine lv_istore (lv' := [(4, .int 0), (3, .int (Int32.ofNat (z 1) / 4)), (2, .int 1), (1, .ref rx), (0, .ref (z 0))]) hx hb dL_law_30 hl (by decide) rfl (fun ls hl => ?_)
    exact c_law_L hx hb hml hown ht hA hK hE hst hend n _ _ (by omega) (by omega) 1 0 (upd (upd (fun _ => 0) 78 4) 79 4) (fun _ => 0) (fun _ => 0) (fun _ => 0) (fun _ => 0) (fun _ => 0) 0 (fun _ => 0) (fun _ => 0) (fun _ => 0) (fun _ => 0) (fun _ => 0) (fun _ => 0) (fun _ => 0) (fun _ => 0) (fun _ => 0) 0 hlw H locs ls hP hD hS (lv_sub (l' := [(0, .ref (z 0)), (1, .ref rx), (2, .int 1), (3, .int (Int32.ofNat (z 1) / 4)), (4, .int 0)]) hl [4, 3, 2, 1, 0] rfl)
  · obtain ⟨n, hn, hlw⟩ := hlaw z _ hL (Or.inl ⟨Int32.not_le.mp hc9, rfl⟩)
    refine lv_bipush (v := 24) hx hb dL_law_19 (by decide) ?_
    refine lv_goto (tgt := 28) hx hb dL_law_21 (by decide) ?_
    refine lv_istore_n (lv' := [(3, .int 24), (2, .int 1), (1, .ref rx), (0, .ref (z 0))]) hx hb dL_law_28 rfl hl (by decide) rfl (fun ls hl => ?_)
    refine lv_iconst (v := 0) hx hb dL_law_29 (by decide) ?_
    refine lv_istore (lv' := [(4, .int 0), (3, .int 24), (2, .int 1), (1, .ref rx), (0, .ref (z 0))]) hx hb dL_law_30 hl (by decide) rfl (fun ls hl => ?_)
    exact c_law_L hx hb hml hown ht hA hK hE hst hend n _ _ (by omega) (by omega) 1 0 (upd (upd (fun _ => 0) 78 4) 79 4) (fun _ => 0) (fun _ => 0) (fun _ => 0) (fun _ => 0) (fun _ => 0) 0 (fun _ => 0) (fun _ => 0) (fun _ => 0) (fun _ => 0) (fun _ => 0) (fun _ => 0) (fun _ => 0) (fun _ => 0) (fun _ => 0) 0 hlw H locs ls hP hD hS (lv_sub (l' := [(0, .ref (z 0)), (1, .ref rx), (2, .int 1), (3, .int 24), (4, .int 0)]) hl [4, 3, 2, 1, 0] rfl)
