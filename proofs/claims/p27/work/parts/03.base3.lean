def gStrs : List (Nat × String) := [(55, "no such place, length or cue"), (66, "there are 8 words"), (85, "no such word"), (92, "no such rule or hold"), (105, "no such cue"), (114, "no such beam can be"), (119, "there are 6 beams"), (128, "no such beam"), (142, "no such setting"), (144, "no such value"), (176, "there is no saved state"), (182, "no such property"), (196, "no such word or letter"), (213, "no such beat or number"), (230, "no such beat or place"), (235, "no such number")]
def xI : String := "java/lang/IllegalArgumentException"
def xS : String := "java/lang/IllegalStateException"
def xB : String := "java/lang/IndexOutOfBoundsException"
def gX : Nat → String := fun k => match k with | 1 => xI | 2 => xS | _ => xB
def gNgs : List Cond := [.declares ⟨"java/lang/RuntimeException", "<init>", "(Ljava/lang/String;)V"⟩, .declares ⟨"java/lang/Exception", "<init>", "(Ljava/lang/String;)V"⟩, .declares ⟨"java/lang/Throwable", "<init>", "(Ljava/lang/String;)V"⟩, .castable xI xI, .castable xS xS, .castable xB xB, .methodLinkNest RX3 30 yX1_init RX3]
theorem gNgs_on : ∀ w ∈ gNgs, w.onTables = true := by decide +kernel
theorem gNgs_warm {u U : State} (hW : u.WarmedH U.vm) (h : ∀ w ∈ gNgs, va_Nw w u) : ∀ w ∈ gNgs, va_Nw w U := by
  intro w hw
  have h := h w hw
  simp only [gNgs, List.mem_cons, List.not_mem_nil, or_false] at hw
  rcases hw with rfl | rfl | rfl | rfl | rfl | rfl | rfl
  · exact va_Nw.warmD hW h
  · exact va_Nw.warmD hW h
  · exact va_Nw.warmD hW h
  · exact va_Nw.warmC hW h
  · exact va_Nw.warmC hW h
  · exact va_Nw.warmC hW h
  · exact va_Nw.warmM hW h
def xZ (z : Nat → Nat) : Nat → Int32 := fun j => Int32.ofNat (z (j + 1000))
/-- the script: its place, its length, its ints, in the numbers z -/
def gZ1 (z : Nat → Nat) (A : Nat → Prop) (U : State) (H : Heap) : Prop := va_X (z 0) (z 1) (xZ z) U H ∧ z 0 < H.size ∧ ¬ A (z 0)
/-- what the methods take of the class' statics, of Throwable's, of the texts, of the classes of exceptions -/
def gE (z : Nat → Nat) (A : Nat → Prop) (U : State) (H : Heap) : Prop :=
  gZ1 z A U H ∧
  (vx_Zq Bundle.tN "UNASSIGNED_STACK" Bundle.steD A U H ∧ vx_Zq Bundle.tN "SUPPRESSED_SENTINEL" Bundle.listD A U H) ∧
  (∀ q ∈ gStrs, vk_R RX3 q.1 q.2 (z q.1) U) ∧ (va_Nc xS xI U ∧ va_Nc xS xI U) ∧ (∀ w ∈ gNgs, va_Nw w U)
theorem gZ1.moved {z : Nat → Nat} {A : Nat → Prop} {u U : State} {H : Heap} (hv : u.vm.Alike U.vm) (h : gZ1 z A u H) : gZ1 z A U H := ⟨va_X.moved hv h.1, h.2⟩
theorem gZ1.kept {z : Nat → Nat} {A : Nat → Prop} {U : State} {H H1 : Heap} (h : gZ1 z A U H) (hq : ∀ a : Nat, a < H.size → ¬ A a → H1[a]? = H[a]?) : gZ1 z A U H1 := by
  obtain ⟨h1, h2, h3⟩ := h
  have e := hq _ h2 h3
  refine ⟨va_X.kept h1 e, ?_, h3⟩
  rw [Array.getElem?_eq_getElem h2] at e
  exact (Array.getElem?_eq_some_iff.mp e).1
theorem gZ1.narrow {z : Nat → Nat} {A B : Nat → Prop} {U : State} {H : Heap} (h : gZ1 z A U H) (hAB : ∀ q, B q → A q) : gZ1 z B U H := ⟨h.1, h.2.1, fun x => h.2.2 (hAB _ x)⟩
theorem gE.warm {z : Nat → Nat} {A : Nat → Prop} {u U : State} {H : Heap} (hW : u.WarmedH U.vm) (h : gE z A u H) : gE z A U H := by
  obtain ⟨h1, ⟨h5, h6⟩, h7, ⟨h8, h9⟩, h10⟩ := h
  exact ⟨h1.moved hW.alike, ⟨vx_Zq.moved hW.alike h5, vx_Zq.moved hW.alike h6⟩, fun q hq => vk_R.warm hW (h7 q hq), ⟨va_Nc.moved hW.alike h8, va_Nc.moved hW.alike h9⟩, gNgs_warm hW h10⟩
theorem gE.same {z : Nat → Nat} {A : Nat → Prop} {u U : State} {H : Heap} (hv : U.vm = u.vm) (h : gE z A u H) : gE z A U H := by
  obtain ⟨h1, ⟨h5, h6⟩, h7, ⟨h8, h9⟩, h10⟩ := h
  have hA : u.vm.Alike U.vm := by rw [hv]; exact Vm.Alike.refl _
  exact ⟨h1.moved hA, ⟨vx_Zq.moved hA h5, vx_Zq.moved hA h6⟩, fun q hq => vk_R.same hv (h7 q hq), ⟨va_Nc.moved hA h8, va_Nc.moved hA h9⟩, fun w hw => va_Nw.same (gNgs_on w hw) hv.symm (h10 w hw)⟩
theorem gE.kept {z : Nat → Nat} {A : Nat → Prop} {U : State} {H H1 : Heap} (h : gE z A U H) (hq : ∀ a : Nat, a < H.size → ¬ A a → H1[a]? = H[a]?) : gE z A U H1 := by
  obtain ⟨h1, ⟨h5, h6⟩, h7, ⟨h8, h9⟩, h10⟩ := h
  exact ⟨h1.kept hq, ⟨vx_Zq.kept h5 hq, vx_Zq.kept h6 hq⟩, h7, ⟨h8, h9⟩, h10⟩
theorem gE.narrow {z : Nat → Nat} {A B : Nat → Prop} {U : State} {H : Heap} (h : gE z A U H) (hAB : ∀ q, B q → A q) : gE z B U H := by
  obtain ⟨h1, ⟨h5, h6⟩, h7, ⟨h8, h9⟩, h10⟩ := h
  exact ⟨h1.narrow hAB, ⟨vx_Zq.narrow h5 hAB, vx_Zq.narrow h6 hAB⟩, h7, ⟨h8, h9⟩, h10⟩
def gPcE (z : Nat → Nat) (D : va_G) (cl : List vw_C) (tys : List (ClassId × FieldType)) (av : List Value) (ws : va_W) (sz : Nat) : Array Value → State → Prop := va_Pc av (fun U => (U.heap.size = sz ∧ va_P D cl ws U.heap ∧ va_K D cl tys U ∧ va_D (fun _ => True) ws) ∧ gE z (va_A ws sz) U U.heap)
theorem g_blindE {z : Nat → Nat} {D : va_G} {cl : List vw_C} {tys : List (ClassId × FieldType)} {av : List Value} {ws : va_W} {sz : Nat} : FrameBlind (gPcE z D cl tys av ws sz) := fun a U g mk q => by
  obtain ⟨q0, ⟨q1, qP, qK, qD⟩, qE⟩ := q
  exact ⟨q0, ⟨q1, qP, va_K.moved (u := U) (U := U.calling g mk a) (Vm.Alike.refl U.vm) qK, qD⟩, gE.same (u := U) (U := U.calling g mk a) rfl qE⟩
theorem g_preE {z : Nat → Nat} {D : va_G} {cl : List vw_C} {tys : List (ClassId × FieldType)} {av : List Value} {wc : va_W} {s : State} {H : Heap} {A : Nat → Prop} {locs : List Loc} (hP : va_P D cl wc H) (hK : va_K D cl tys s) (hD : va_D A wc) (hE : gE z A s s.heap) (hS : va_S A s.heap H locs) (hF : ∀ q, va_A wc H.size q → A q) : ∀ U : State, U.heap = H → s.WarmedH U.vm → gPcE z D cl tys av wc H.size av.toArray U :=
  fun U hU hW => ⟨rfl, ⟨by rw [hU], by rw [hU]; exact hP, va_K.moved hW.alike hK, hD.weaken (fun _ _ _ _ => trivial)⟩, by rw [hU]; exact gE.warm hW ((hE.kept hS.2.1).narrow hF)⟩
theorem gcE_Vi {p : Program} {l : Launch} {e : Env} {R : Room} {s : State} {m : MethodId} {args : Array Value} {below : List Frame} {meth : Method} {c : Code} {cc : ByteArray} {H : Heap} {locs : List Loc} {cells slots nL n index maxL pc : Nat} {Q : State → Prop} {ls : Array Slot} {st0 rest As : List Value} {b : Nat} {own C : String} {y : MethodName} {bytes : ByteArray} {ret : Option FieldType} {wsy Ts : List Cond} {rm : Room} {D : va_G} {cl : List vw_C} {tys : List (ClassId × FieldType)} {ws wc wr : va_W} {A : Nat → Prop} {S : Type} {z : Nat → Nat} {post : Int32 → S → Prop} {w1 : S → va_W}
    (fix : CallFix p m c cc nL s args Ts own) (hM : Met l y wsy rm (gPcE z D cl tys (.ref b :: As) wc H.size) (va_Qi post (gB D cl tys (va_A wc H.size) w1) (va_A wc H.size)) 0 0 (va_A wc H.size)) (cw : CallW R s args own C index y bytes maxL ret wsy rm 0 0 n) (hK : va_K D cl tys s) (hP : va_P D cl ws H) (hD : va_D A ws) (hS : va_S A s.heap H locs) (hA : ∀ q, s.heap.size ≤ q → A q) (hE : gE z A s s.heap)
    (isC isR : List Nat) (hC : isC.map (fun i => ws[i]?) = wc.map some) (hR : isR.map (fun i => ws[i]?) = wr.map some) (hnd : (va_nd isR && va_nd isC && isR.all (fun i => !isC.contains i)) = true) (q0 : Nat) {ci : Nat} {fs : List Value} {qc : vw_C} (he : ws[q0]? = some (b, .inr (ci, fs))) (hc : cl[ci]? = some qc) (hqC : qc.1 = C)
    (hn : As.length = n) (hsize : ls.size = nL) (hstack : st0 = As.reverse ++ .ref b :: rest) (hW : (rest.map fun v => v.category).sum ≤ 8) (hf : cells ≤ R.cells ∧ slots ≤ R.slots) (hdg : decode cc pc = .ok (.invokevirtual index, 3))
    (kk : ∀ (r : Int32) (u : S) (H1 : Heap) (locs1 : List Loc), post r u → va_P D cl (wr ++ w1 u) H1 → va_D A (wr ++ w1 u) → va_S A s.heap H1 locs1 → W p l e R s m args below meth c H1 locs1 cells slots Q (F0 m (pc + 3) ls (.int r :: rest))) : W p l e R s m args below meth c H locs cells slots Q (F0 m pc ls st0) := by
  simp only [Bool.and_eq_true, List.all_eq_true, Bool.not_eq_true', List.contains_eq_mem, decide_eq_false_iff_not] at hnd
  obtain ⟨⟨hn1, hn2⟩, hn3⟩ := hnd
  have hPc := g_subP hP isC hC
  have hDc := hD.sub isC hn2 hC
  have hFc := va_free (wc := wc) hD hS hA isC hC
  refine va_calli (va_runV (As := As) (rest := rest) fix hM cw ⟨g_blindE, by rw [← hqC]; exact va_recv hK hP hc he, g_preE hPc hK hDc hE hS hFc⟩ rfl hn hsize hstack (lv_room hW) hdg ⟨hf.1, hf.2⟩) hS (fun q _ h => hFc q h) hFc (fun r u t H1 locs1 ht hvm hw hB hz1 hk1 hS => ?_)
  obtain ⟨hP1, hK1, hD1⟩ := hB
  rw [ht] at hP1
  obtain ⟨hP, hD⟩ := va_join (wr := wr) (w1 := w1 u) hP hD isC isR hC hR hn1 hn3 hk1 hFc hP1 hD1
  exact kk r u H1 locs1 hw hP hD hS
theorem gcW_Si {p : Program} {l : Launch} {e : Env} {R : Room} {s : State} {m : MethodId} {args : Array Value} {below : List Frame} {meth : Method} {c : Code} {cc : ByteArray} {H : Heap} {locs : List Loc} {cells slots nL n index maxL pc : Nat} {Q : State → Prop} {ls : Array Slot} {st0 rest As : List Value} {own : String} {y : MethodName} {bytes : ByteArray} {ret : Option FieldType} {wsy Ts : List Cond} {rm : Room} {D : va_G} {cl : List vw_C} {tys : List (ClassId × FieldType)} {ws wc wr : va_W} {A : Nat → Prop} {S : Type} {z : Nat → Nat} {hh : List (Nat × Nat × Nat × Nat)} {post : Int32 → S → Prop} {w1 : S → va_W}
    (fix : CallFix p m c cc nL s args Ts own) (hM : Met l y wsy rm (gPcE z D cl tys As wc H.size) (va_Qi post (gB D cl tys (va_A wc H.size) w1) (va_A wc H.size)) 1 6 (va_A wc H.size)) (cw : vx_CSW R s args own index y bytes maxL ret hh wsy rm 1 6 n) (hK : va_K D cl tys s) (hP : va_P D cl ws H) (hD : va_D A ws) (hS : va_S A s.heap H locs) (hA : ∀ q, s.heap.size ≤ q → A q) (hE : gE z A s s.heap)
    (isC isR : List Nat) (hC : isC.map (fun i => ws[i]?) = wc.map some) (hR : isR.map (fun i => ws[i]?) = wr.map some) (hnd : (va_nd isR && va_nd isC && isR.all (fun i => !isC.contains i)) = true)
    (hn : As.length = n) (hsize : ls.size = nL) (hstack : st0 = As.reverse ++ rest) (hW : (rest.map fun v => v.category).sum ≤ 8) (hf : cells + 1 ≤ R.cells ∧ slots + 6 ≤ R.slots) (hdg : decode cc pc = .ok (.invokestatic index, 3))
    (kk : ∀ (r : Int32) (u : S) (H1 : Heap) (locs1 : List Loc), post r u → va_P D cl (wr ++ w1 u) H1 → va_D A (wr ++ w1 u) → va_S A s.heap H1 locs1 → W p l e R s m args below meth c H1 locs1 (cells + 1) (slots + 6) Q (F0 m (pc + 3) ls (.int r :: rest))) : W p l e R s m args below meth c H locs cells slots Q (F0 m pc ls st0) := by
  simp only [Bool.and_eq_true, List.all_eq_true, Bool.not_eq_true', List.contains_eq_mem, decide_eq_false_iff_not] at hnd
  obtain ⟨⟨hn1, hn2⟩, hn3⟩ := hnd
  have hPc := g_subP hP isC hC
  have hDc := hD.sub isC hn2 hC
  have hFc := va_free (wc := wc) hD hS hA isC hC
  refine va_calli (vx_runSW (As := As) (rest := rest) fix hM cw ⟨g_blindE, g_preE hPc hK hDc hE hS hFc⟩ rfl hn hsize hstack (lv_room hW) hdg ⟨hf.1, hf.2⟩) hS (fun q _ h => hFc q h) hFc (fun r u t H1 locs1 ht hvm hw hB hz1 hk1 hS => ?_)
  obtain ⟨hP1, hK1, hD1⟩ := hB
  rw [ht] at hP1
  obtain ⟨hP, hD⟩ := va_join (wr := wr) (w1 := w1 u) hP hD isC isR hC hR hn1 hn3 hk1 hFc hP1 hD1
  exact kk r u H1 locs1 hw hP hD hS
theorem gcA_Si {p : Program} {l : Launch} {e : Env} {R : Room} {s : State} {m : MethodId} {args : Array Value} {below : List Frame} {meth : Method} {c : Code} {cc : ByteArray} {H : Heap} {locs : List Loc} {cells slots nL n index maxL pc : Nat} {Q : State → Prop} {ls : Array Slot} {st0 rest As : List Value} {own : String} {y : MethodName} {bytes : ByteArray} {ret : Option FieldType} {wsy Ts : List Cond} {rm : Room} {D : va_G} {cl : List vw_C} {tys : List (ClassId × FieldType)} {ws wc wr : va_W} {A : Nat → Prop} {S : Type} {z : Nat → Nat} {post : Int32 → S → Prop} {w1 : S → va_W}
    (fix : CallFix p m c cc nL s args Ts own) (hM : Met l y wsy rm (gPcE z D cl tys As wc H.size) (va_Qi post (gB D cl tys (va_A wc H.size) w1) (va_A wc H.size)) 1 6 (va_A wc H.size)) (cw : CallB R s args own index y bytes maxL ret wsy rm 1 6 n ∧ (Cond.static y).before args s = true) (hK : va_K D cl tys s) (hP : va_P D cl ws H) (hD : va_D A ws) (hS : va_S A s.heap H locs) (hA : ∀ q, s.heap.size ≤ q → A q) (hE : gE z A s s.heap)
    (isC isR : List Nat) (hC : isC.map (fun i => ws[i]?) = wc.map some) (hR : isR.map (fun i => ws[i]?) = wr.map some) (hnd : (va_nd isR && va_nd isC && isR.all (fun i => !isC.contains i)) = true)
    (hn : As.length = n) (hsize : ls.size = nL) (hstack : st0 = As.reverse ++ rest) (hW : (rest.map fun v => v.category).sum ≤ 8) (hf : cells + 1 ≤ R.cells ∧ slots + 6 ≤ R.slots) (hdg : decode cc pc = .ok (.invokestatic index, 3))
    (kk : ∀ (r : Int32) (u : S) (H1 : Heap) (locs1 : List Loc), post r u → va_P D cl (wr ++ w1 u) H1 → va_D A (wr ++ w1 u) → va_S A s.heap H1 locs1 → W p l e R s m args below meth c H1 locs1 (cells + 1) (slots + 6) Q (F0 m (pc + 3) ls (.int r :: rest))) : W p l e R s m args below meth c H locs cells slots Q (F0 m pc ls st0) := by
  simp only [Bool.and_eq_true, List.all_eq_true, Bool.not_eq_true', List.contains_eq_mem, decide_eq_false_iff_not] at hnd
  obtain ⟨⟨hn1, hn2⟩, hn3⟩ := hnd
  have hPc := g_subP hP isC hC
  have hDc := hD.sub isC hn2 hC
  have hFc := va_free (wc := wc) hD hS hA isC hC
  refine va_calli (va_runS (As := As) (rest := rest) fix hM cw ⟨g_blindE, g_preE hPc hK hDc hE hS hFc⟩ rfl hn hsize hstack (lv_room hW) hdg ⟨hf.1, hf.2⟩) hS (fun q _ h => hFc q h) hFc (fun r u t H1 locs1 ht hvm hw hB hz1 hk1 hS => ?_)
  obtain ⟨hP1, hK1, hD1⟩ := hB
  rw [ht] at hP1
  obtain ⟨hP, hD⟩ := va_join (wr := wr) (w1 := w1 u) hP hD isC isR hC hR hn1 hn3 hk1 hFc hP1 hD1
  exact kk r u H1 locs1 hw hP hD hS
theorem gcE_Si {p : Program} {l : Launch} {e : Env} {R : Room} {s : State} {m : MethodId} {args : Array Value} {below : List Frame} {meth : Method} {c : Code} {cc : ByteArray} {H : Heap} {locs : List Loc} {cells slots nL n index maxL pc : Nat} {Q : State → Prop} {ls : Array Slot} {st0 rest As : List Value} {own : String} {y : MethodName} {bytes : ByteArray} {ret : Option FieldType} {wsy Ts : List Cond} {rm : Room} {D : va_G} {cl : List vw_C} {tys : List (ClassId × FieldType)} {ws wc wr : va_W} {A : Nat → Prop} {S : Type} {z : Nat → Nat} {post : Int32 → S → Prop} {w1 : S → va_W}
    (fix : CallFix p m c cc nL s args Ts own) (hM : Met l y wsy rm (gPcE z D cl tys As wc H.size) (va_Qi post (gB D cl tys (va_A wc H.size) w1) (va_A wc H.size)) 0 0 (va_A wc H.size)) (cw : CallB R s args own index y bytes maxL ret wsy rm 0 0 n ∧ (Cond.static y).before args s = true) (hK : va_K D cl tys s) (hP : va_P D cl ws H) (hD : va_D A ws) (hS : va_S A s.heap H locs) (hA : ∀ q, s.heap.size ≤ q → A q) (hE : gE z A s s.heap)
    (isC isR : List Nat) (hC : isC.map (fun i => ws[i]?) = wc.map some) (hR : isR.map (fun i => ws[i]?) = wr.map some) (hnd : (va_nd isR && va_nd isC && isR.all (fun i => !isC.contains i)) = true)
    (hn : As.length = n) (hsize : ls.size = nL) (hstack : st0 = As.reverse ++ rest) (hW : (rest.map fun v => v.category).sum ≤ 8) (hf : cells ≤ R.cells ∧ slots ≤ R.slots) (hdg : decode cc pc = .ok (.invokestatic index, 3))
    (kk : ∀ (r : Int32) (u : S) (H1 : Heap) (locs1 : List Loc), post r u → va_P D cl (wr ++ w1 u) H1 → va_D A (wr ++ w1 u) → va_S A s.heap H1 locs1 → W p l e R s m args below meth c H1 locs1 cells slots Q (F0 m (pc + 3) ls (.int r :: rest))) : W p l e R s m args below meth c H locs cells slots Q (F0 m pc ls st0) := by
  simp only [Bool.and_eq_true, List.all_eq_true, Bool.not_eq_true', List.contains_eq_mem, decide_eq_false_iff_not] at hnd
  obtain ⟨⟨hn1, hn2⟩, hn3⟩ := hnd
  have hPc := g_subP hP isC hC
  have hDc := hD.sub isC hn2 hC
  have hFc := va_free (wc := wc) hD hS hA isC hC
  refine va_calli (va_runS (As := As) (rest := rest) fix hM cw ⟨g_blindE, g_preE hPc hK hDc hE hS hFc⟩ rfl hn hsize hstack (lv_room hW) hdg ⟨hf.1, hf.2⟩) hS (fun q _ h => hFc q h) hFc (fun r u t H1 locs1 ht hvm hw hB hz1 hk1 hS => ?_)
  obtain ⟨hP1, hK1, hD1⟩ := hB
  rw [ht] at hP1
  obtain ⟨hP, hD⟩ := va_join (wr := wr) (w1 := w1 u) hP hD isC isR hC hR hn1 hn3 hk1 hFc hP1 hD1
  exact kk r u H1 locs1 hw hP hD hS
def gBX {SX : Type} (D : va_G) (cl : List vw_C) (tys : List (ClassId × FieldType)) (A : Nat → Prop) (wx : SX → va_W) (E : Nat → SX → Prop) : String → SX → State → Prop := fun E' u t => (∃ k, E k u ∧ gX k = E') ∧ va_P D cl (wx u) t.heap ∧ va_K D cl tys t ∧ va_D A (wx u)
theorem gcX_Vi {p : Program} {l : Launch} {e : Env} {R : Room} {s : State} {m : MethodId} {args : Array Value} {below : List Frame} {meth : Method} {c : Code} {cc : ByteArray} {H : Heap} {locs : List Loc} {cells slots nL n index maxL pc : Nat} {Q : State → Prop} {ls : Array Slot} {st0 rest As : List Value} {b : Nat} {own C : String} {y : MethodName} {bytes : ByteArray} {ret : Option FieldType} {wsy Ts : List Cond} {rm : Room} {D : va_G} {cl : List vw_C} {tys : List (ClassId × FieldType)} {ws wc wr : va_W} {A : Nat → Prop} {S SX : Type} {z : Nat → Nat} {wx : SX → va_W} {E : Nat → SX → Prop} {post : Int32 → S → Prop} {w1 : S → va_W}
    (fix : CallFix p m c cc nL s args Ts own) (hM : vx_Met l y wsy rm (gPcE z D cl tys (.ref b :: As) wc H.size) (va_Qi post (gB D cl tys (va_A wc H.size) w1) (va_A wc H.size)) (vx_X (fun _ : SX => True) (gBX D cl tys (va_A wc H.size) wx E) (va_A wc H.size)) 1 6 (va_A wc H.size)) (cw : CallW R s args own C index y bytes maxL ret wsy rm 1 6 n) (hK : va_K D cl tys s) (hP : va_P D cl ws H) (hD : va_D A ws) (hS : va_S A s.heap H locs) (hA : ∀ q, s.heap.size ≤ q → A q) (hE : gE z A s s.heap)
    (isC isR : List Nat) (hC : isC.map (fun i => ws[i]?) = wc.map some) (hR : isR.map (fun i => ws[i]?) = wr.map some) (hnd : (va_nd isR && va_nd isC && isR.all (fun i => !isC.contains i)) = true) (q0 : Nat) {ci : Nat} {fs : List Value} {qc : vw_C} (he : ws[q0]? = some (b, .inr (ci, fs))) (hc : cl[ci]? = some qc) (hqC : qc.1 = C)
    (hn : As.length = n) (hsize : ls.size = nL) (hstack : st0 = As.reverse ++ .ref b :: rest) (hW : (rest.map fun v => v.category).sum ≤ 8) (hf : cells + 1 ≤ R.cells ∧ slots + 6 ≤ R.slots) (hdg : decode cc pc = .ok (.invokevirtual index, 3))
    (kx : ∀ (k : Nat) (u : SX) (ce : Cell) (q9 : Addr) (H1 : Heap) (locs1 : List Loc), E k u → va_P D cl (wr ++ wx u) H1 → va_D A (wr ++ wx u) → va_S A s.heap H1 locs1 → H1[q9]? = some ce → ce.vm = .none → s.vm.findClass (gX k) = some ce.cls → vx_W p l e R s m args below meth c H1 locs1 (cells + 1) (slots + 6) Q (F0 m pc ls rest) q9)
    (kk : ∀ (r : Int32) (u : S) (H1 : Heap) (locs1 : List Loc), post r u → va_P D cl (wr ++ w1 u) H1 → va_D A (wr ++ w1 u) → va_S A s.heap H1 locs1 → W p l e R s m args below meth c H1 locs1 (cells + 1) (slots + 6) Q (F0 m (pc + 3) ls (.int r :: rest))) : W p l e R s m args below meth c H locs cells slots Q (F0 m pc ls st0) := by
  simp only [Bool.and_eq_true, List.all_eq_true, Bool.not_eq_true', List.contains_eq_mem, decide_eq_false_iff_not] at hnd
  obtain ⟨⟨hn1, hn2⟩, hn3⟩ := hnd
  have hPc := g_subP hP isC hC
  have hDc := hD.sub isC hn2 hC
  have hFc := va_free (wc := wc) hD hS hA isC hC
  refine vx_calli (vx_runV (As := As) (rest := rest) fix hM cw ⟨g_blindE, by rw [← hqC]; exact va_recv hK hP hc he, g_preE hPc hK hDc hE hS hFc⟩ rfl hn hsize hstack (lv_room hW) hdg ⟨hf.1, hf.2⟩) hS (fun q _ h => hFc q h) hFc (fun q _ h => hFc q h) (fun E1 ce q9 u t H1 locs1 ht hvm hw hB hz1 hk1 hS hc1 hc2 hc3 => ?_) (fun r u t H1 locs1 ht hvm hw hB hz1 hk1 hS => ?_)
  · obtain ⟨⟨k, hk, hkE⟩, hP1, hK1, hD1⟩ := hB
    rw [ht] at hP1
    obtain ⟨hP, hD⟩ := va_join (wr := wr) (w1 := wx u) hP hD isC isR hC hR hn1 hn3 hk1 hFc hP1 hD1
    exact kx k u ce q9 H1 locs1 hk hP hD hS hc1 hc2 (by rw [hkE]; exact hc3)
  · obtain ⟨hP1, hK1, hD1⟩ := hB
    rw [ht] at hP1
    obtain ⟨hP, hD⟩ := va_join (wr := wr) (w1 := w1 u) hP hD isC isR hC hR hn1 hn3 hk1 hFc hP1 hD1
    exact kk r u H1 locs1 hw hP hD hS

theorem g_throw {p : Program} {l : Launch} {e : Env} {R : Room} {s : State} {m : MethodId} {args : Array Value} {below : List Frame} {meth : Method} {c : Code} {cc : ByteArray} {H : Heap} {locs : List Loc} {cells slots pc : Nat} {ls : Array Slot} {Qc : Array Value → State → Outcome → State → Prop} {D : va_G} {cl : List vw_C} {tys : List (ClassId × FieldType)} {A : Nat → Prop} {SX : Type} {wx : SX → va_W} {E : Nat → SX → Prop} {u : SX} {z : Nat → Nat} {ik is ic : Nat} {tx : String} {rest : List Value} (k : Nat) (hx : p.tables.exec = Jvm.exec) (hb : c.code = cc) (hl : l.stackTraces = false) (hown : s.vm.findClass RX3 = some m.cls)
    (hk : (Cond.classLink RX3 ik (gX k)).before args s = true) (hini : (Cond.initialized (gX k)).before args s = true) (hfit : Bundle.fit (gX k) = true) (hat : ∀ w ∈ vx_atS RX3 ic (gX k) ["java/lang/RuntimeException", "java/lang/Exception"], w ∈ TBL ∨ w ∈ gNgs) (ht : ∀ w ∈ TBL, w.before args s = true) (hm1 : Cond.classLink RX3 ik (gX k) ∈ TBL) (hm2 : Cond.initialized (gX k) ∈ TBL)
    (hq : (is, tx) ∈ gStrs) (hE : gE z A s s.heap) (hS : va_S A s.heap H locs) (hsize : ls.size = c.maxLocals) (d0 : decode cc pc = .ok (.new ik, 3)) (d3 : decode cc (pc + 3) = .ok (.dup, 1)) (d4 : decode cc (pc + 4) = .ok (.ldc is, 2)) (d6 : decode cc (pc + 6) = .ok (.invokespecial ic, 3)) (d9 : decode cc (pc + 9) = .ok (.athrow, 1))
    (hout : ∀ x ∈ c.exceptionTable.toList, False) (hRf : 5 < R.frames) (hRl : (rest.map fun v => v.category).sum + 82 ≤ R.locals) (hRc : cells + 1 ≤ R.cells) (hRs : slots + 6 ≤ R.slots) (hlocks : meth.locks = false)
    (hw : E k u) (hP : va_P D cl (wx u) H) (hK : va_K D cl tys s) (hD : va_D A (wx u)) (hc : cells + 1 ≤ 1) (hs : slots + 6 ≤ 6) :
    W p l e R s m args below meth c H locs cells slots (vx_MQ below Qc (vx_X (fun _ : SX => True) (gBX D cl tys A wx E) A) args s 1 6 A) (F0 m pc ls rest) := by
  refine vx_throwS (names := ["java/lang/RuntimeException", "java/lang/Exception"]) (text := tx) (sa := z is) (A := A) hx hb hl hown hfit (by decide +kernel) hk hini (hE.2.2.1 (is, tx) hq) (fun w h => (hat w h).elim (ht w) (fun h => va_Nw.use (gNgs_on w h) (hE.2.2.2.2 w h))) ?_ hE.2.1.1 hE.2.1.2 hS hsize d0 d3 d4 d6 d9 (fun x h => (hout x h).elim) hRf hRl hRc hRs hlocks ?_ hS.2.2 hc hs
  · intro w h
    have hg : ∀ w ∈ TBL, vx_ot w = true := fun w h => by unfold vx_ot; rw [(List.mem_filter.mp h).2]; exact Bool.or_true _
    rcases List.mem_cons.mp h with rfl | h
    · exact hg _ hm1
    rcases List.mem_cons.mp h with rfl | h
    · exact hg _ hm2
    rcases hat w h with h | h
    · exact hg _ h
    · unfold vx_ot; rw [gNgs_on w h]; rfl
  · intro t hv hz hq
    refine ⟨u, trivial, ⟨⟨k, hw, rfl⟩, ?_, va_K.moved hv hK, hD⟩, ?_⟩
    · exact hP.kept (fun j q h => hq _ (vx_lt hP h))
    · refine ⟨Nat.le_trans hS.1 hz, fun q h1 h2 => ?_⟩
      rw [hq q (Nat.lt_of_lt_of_le h1 hS.1)]
      exact hS.2.1 q h1 h2
theorem g_throwW {p : Program} {l : Launch} {e : Env} {R : Room} {s : State} {m : MethodId} {args : Array Value} {below : List Frame} {meth : Method} {c : Code} {cc : ByteArray} {H : Heap} {locs : List Loc} {cells slots pc : Nat} {ls : Array Slot} {Qc : Array Value → State → Outcome → State → Prop} {D : va_G} {cl : List vw_C} {tys : List (ClassId × FieldType)} {A : Nat → Prop} {SX : Type} {wx : SX → va_W} {E : Nat → SX → Prop} {u : SX} {z : Nat → Nat} {ik is ic : Nat} {tx : String} {rest : List Value} (k : Nat) (hx : p.tables.exec = Jvm.exec) (hb : c.code = cc) (hl : l.stackTraces = false) (hown : s.vm.findClass RX3 = some m.cls)
    (hk : (Cond.classLink RX3 ik (gX k)).before args s = true) (hini : (Cond.initialized (gX k)).before args s = true) (hfit : Bundle.fit (gX k) = true) (hat : ∀ w ∈ vx_atS RX3 ic (gX k) ["java/lang/RuntimeException", "java/lang/Exception"], w ∈ TBL ∨ w ∈ gNgs) (ht : ∀ w ∈ TBL, w.before args s = true) (hm1 : Cond.classLink RX3 ik (gX k) ∈ TBL) (hm2 : Cond.initialized (gX k) ∈ TBL)
    (hq : (is, tx) ∈ gStrs) (hE : gE z A s s.heap) (hS : va_S A s.heap H locs) (hsize : ls.size = c.maxLocals) (d0 : decode cc pc = .ok (.new ik, 3)) (d3 : decode cc (pc + 3) = .ok (.dup, 1)) (d4 : decode cc (pc + 4) = .ok (.ldc_w is, 3)) (d6 : decode cc (pc + 7) = .ok (.invokespecial ic, 3)) (d9 : decode cc (pc + 10) = .ok (.athrow, 1))
    (hout : ∀ x ∈ c.exceptionTable.toList, False) (hRf : 5 < R.frames) (hRl : (rest.map fun v => v.category).sum + 82 ≤ R.locals) (hRc : cells + 1 ≤ R.cells) (hRs : slots + 6 ≤ R.slots) (hlocks : meth.locks = false)
    (hw : E k u) (hP : va_P D cl (wx u) H) (hK : va_K D cl tys s) (hD : va_D A (wx u)) (hc : cells + 1 ≤ 1) (hs : slots + 6 ≤ 6) :
    W p l e R s m args below meth c H locs cells slots (vx_MQ below Qc (vx_X (fun _ : SX => True) (gBX D cl tys A wx E) A) args s 1 6 A) (F0 m pc ls rest) := by
  refine vx_throwSW (names := ["java/lang/RuntimeException", "java/lang/Exception"]) (text := tx) (sa := z is) (A := A) hx hb hl hown hfit (by decide +kernel) hk hini (hE.2.2.1 (is, tx) hq) (fun w h => (hat w h).elim (ht w) (fun h => va_Nw.use (gNgs_on w h) (hE.2.2.2.2 w h))) ?_ hE.2.1.1 hE.2.1.2 hS hsize d0 d3 d4 d6 d9 (fun x h => (hout x h).elim) hRf hRl hRc hRs hlocks ?_ hS.2.2 hc hs
  · intro w h
    have hg : ∀ w ∈ TBL, vx_ot w = true := fun w h => by unfold vx_ot; rw [(List.mem_filter.mp h).2]; exact Bool.or_true _
    rcases List.mem_cons.mp h with rfl | h
    · exact hg _ hm1
    rcases List.mem_cons.mp h with rfl | h
    · exact hg _ hm2
    rcases hat w h with h | h
    · exact hg _ h
    · unfold vx_ot; rw [gNgs_on w h]; rfl
  · intro t hv hz hq
    refine ⟨u, trivial, ⟨⟨k, hw, rfl⟩, ?_, va_K.moved hv hK, hD⟩, ?_⟩
    · exact hP.kept (fun j q h => hq _ (vx_lt hP h))
    · refine ⟨Nat.le_trans hS.1 hz, fun q h1 h2 => ?_⟩
      rw [hq q (Nat.lt_of_lt_of_le h1 hS.1)]
      exact hS.2.1 q h1 h2
theorem gStr_mem (k : Nat) {q : Nat × String} (h : gStrs[k]? = some q) : q ∈ gStrs := List.mem_of_getElem? h
