/-! methods that throw: what stands in the state for it, the throw itself, the call of a method that may throw -/
abbrev xN : List String := ["java/lang/RuntimeException", "java/lang/Exception"]
def xW : List Cond := [.declares (Bundle.initS "java/lang/RuntimeException"), .declares (Bundle.initS "java/lang/Exception"), .declares (Bundle.initS Bundle.tN), .castable "java/lang/IndexOutOfBoundsException" "java/lang/IndexOutOfBoundsException", .castable "java/lang/IllegalArgumentException" "java/lang/IllegalArgumentException", .castable "java/lang/IllegalStateException" "java/lang/IllegalStateException", .castable "java/util/NoSuchElementException" "java/util/NoSuchElementException", .castable "java/lang/UnsupportedOperationException" "java/lang/UnsupportedOperationException"]
def xS : List (Nat × String) := [(58, "a number is out of range"), (67, "a mail has this date"), (71, "the box is full"), (78, "the mail is full"), (87, "the mail has no lines"), (98, "the mail has no parent"), (124, "the line has no partner"), (162, "the line is not in the talk"), (186, "no such mail"), (189, "no such line"), (191, "the line is not new"), (193, "the line answers none")]
def NL (U : State) : Prop := va_Nw (.methodLinkNest RX0 23 yX1_isWithin RX1) U
theorem NL.warm {s U : State} (hW : s.WarmedH U.vm) (h : NL s) : NL U := va_Nw.warmM hW h
theorem NL.same {s U : State} (hv : s.vm = U.vm) (h : NL s) : NL U := va_Nw.same rfl hv h
def EV (A : Nat → Prop) (U : State) (H : Heap) : Prop := vx_Zq Bundle.tN "UNASSIGNED_STACK" Bundle.steD A U H ∧ vx_Zq Bundle.tN "SUPPRESSED_SENTINEL" Bundle.listD A U H ∧ (∀ w ∈ xW, va_Nw w U) ∧ (∀ q ∈ xS, ∃ a, vk_R RX1 q.1 q.2 a U) ∧ NL U
theorem EV.warm {A : Nat → Prop} {s U : State} {H : Heap} (hW : s.WarmedH U.vm) (h : EV A s H) : EV A U H := by
  obtain ⟨h1, h2, h3, h4, h5⟩ := h
  refine ⟨h1.moved hW.alike, h2.moved hW.alike, fun w hw => ?_, fun q hq => ?_, h5.warm hW⟩
  · have h5 := h3 w hw
    simp only [xW, List.mem_cons, List.not_mem_nil, or_false] at hw
    rcases hw with rfl | rfl | rfl | rfl | rfl | rfl | rfl | rfl
    · exact va_Nw.warmD hW h5
    · exact va_Nw.warmD hW h5
    · exact va_Nw.warmD hW h5
    all_goals exact va_Nw.warmC hW h5
  · obtain ⟨a, ha⟩ := h4 q hq
    exact ⟨a, vk_R.warm hW ha⟩
theorem EV.same {A : Nat → Prop} {s U : State} {H : Heap} (hv : s.vm = U.vm) (h : EV A s H) : EV A U H := by
  obtain ⟨h1, h2, h3, h4, h5⟩ := h
  refine ⟨h1.moved (by rw [hv]; exact Vm.Alike.refl _), h2.moved (by rw [hv]; exact Vm.Alike.refl _), fun w hw => ?_, fun q hq => ?_, h5.same hv⟩
  · have h5 := h3 w hw
    simp only [xW, List.mem_cons, List.not_mem_nil, or_false] at hw
    rcases hw with rfl | rfl | rfl | rfl | rfl | rfl | rfl | rfl
    all_goals exact va_Nw.same rfl hv h5
  · obtain ⟨a, ha⟩ := h4 q hq
    exact ⟨a, vk_R.same hv.symm ha⟩
theorem EV.kept {A : Nat → Prop} {U : State} {H H1 : Heap} (h : EV A U H) (hq : ∀ a : Nat, a < H.size → ¬ A a → H1[a]? = H[a]?) : EV A U H1 := ⟨h.1.kept hq, h.2.1.kept hq, h.2.2⟩
theorem EV.narrow {A B : Nat → Prop} {U : State} {H : Heap} (h : EV A U H) (hAB : ∀ q, B q → A q) : EV B U H := ⟨h.1.narrow hAB, h.2.1.narrow hAB, h.2.2⟩
def PcX (D : va_G) (tys : List (ClassId × FieldType)) (w : va_W) (av : List Value) : Array Value → State → Prop := va_Pc av (fun U => va_P D vwCl w U.heap ∧ va_K D vwCl tys U ∧ EV (va_A w U.heap.size) U U.heap)
theorem PcX_blind (D : va_G) (tys : List (ClassId × FieldType)) (w : va_W) (av : List Value) : FrameBlind (PcX D tys w av) := fun a U g mk q => ⟨q.1, q.2.1, va_K.moved (u := U) (U := U.calling g mk a) (Vm.Alike.refl U.vm) q.2.2.1, EV.same (s := U) (U := U.calling g mk a) rfl q.2.2.2⟩
def PcXM (D : va_G) (tys : List (ClassId × FieldType)) (w : va_W) (sz : Nat) (av : List Value) : Array Value → State → Prop := va_Pc av (fun U => U.heap.size = sz ∧ va_P D vwCl w U.heap ∧ va_K D vwCl tys U ∧ va_D (fun _ => True) w ∧ EV (va_A w U.heap.size) U U.heap)
theorem PcXM_blind (D : va_G) (tys : List (ClassId × FieldType)) (w : va_W) (sz : Nat) (av : List Value) : FrameBlind (PcXM D tys w sz av) := fun a U g mk q => ⟨q.1, q.2.1, q.2.2.1, va_K.moved (u := U) (U := U.calling g mk a) (Vm.Alike.refl U.vm) q.2.2.2.1, q.2.2.2.2.1, EV.same (s := U) (U := U.calling g mk a) rfl q.2.2.2.2.2⟩
/-- thrown: which, and nothing that was there has changed -/
def XCf (F : String → Prop) : String → State → State → Prop := fun E st t => F E ∧ st.heap.size ≤ t.heap.size ∧ ∀ q : Nat, q < st.heap.size → t.heap[q]? = st.heap[q]?
theorem xb_IOB : ∀ w ∈ (vx_atS RX1 188 "java/lang/IndexOutOfBoundsException" xN).filter (fun w => !goodWord w), w ∈ xW := by decide +kernel
theorem xf_IOB : Bundle.fit "java/lang/IndexOutOfBoundsException" = true := by decide +kernel
theorem xb_IAE : ∀ w ∈ (vx_atS RX1 60 "java/lang/IllegalArgumentException" xN).filter (fun w => !goodWord w), w ∈ xW := by decide +kernel
theorem xf_IAE : Bundle.fit "java/lang/IllegalArgumentException" = true := by decide +kernel
theorem xb_ISE : ∀ w ∈ (vx_atS RX1 73 "java/lang/IllegalStateException" xN).filter (fun w => !goodWord w), w ∈ xW := by decide +kernel
theorem xf_ISE : Bundle.fit "java/lang/IllegalStateException" = true := by decide +kernel
theorem xb_NSE : ∀ w ∈ wsNSE.filter (fun w => !goodWord w), w ∈ xW := by decide +kernel
theorem xf_NSE : Bundle.fit "java/util/NoSuchElementException" = true := by decide +kernel
theorem xb_UOE : ∀ w ∈ (vx_atS RX1 164 "java/lang/UnsupportedOperationException" xN).filter (fun w => !goodWord w), w ∈ xW := by decide +kernel
theorem xf_UOE : Bundle.fit "java/lang/UnsupportedOperationException" = true := by decide +kernel
theorem xf_N : ∀ n ∈ xN, Bundle.fit n = true := by decide +kernel
section XT
variable {p : Program} {l : Launch} {e : Env} {R : Room} {s : State} {m : MethodId} {args : Array Value} {below : List Frame} {meth : Method} {c : Code} {H : Heap} {locs : List Loc} {cells slots : Nat} {Q : State → Prop} {cc : ByteArray} {pc : Nat} {ls : Array Slot} {rest : List Value}
theorem x_thr {Qc : Array Value → State → Outcome → State → Prop} {F : String → Prop} {mc ms : Nat} {free : Addr → Prop} (hexec : p.tables.exec = Jvm.exec) (hb : c.code = cc) (hl : l.stackTraces = false) {cls text : String} {ik is ic : Nat} {A : Nat → Prop} (hown : s.vm.findClass RX1 = some m.cls) (hcls : Bundle.fit cls = true) (hk : (Cond.classLink RX1 ik cls).before args s = true) (hini : (Cond.initialized cls).before args s = true) (hgood : ∀ w ∈ (vx_atS RX1 ic cls xN).filter goodWord, w.before args s = true) (hbad : ∀ w ∈ (vx_atS RX1 ic cls xN).filter (fun w => !goodWord w), w ∈ xW) (hot : (Cond.classLink RX1 ik cls :: Cond.initialized cls :: vx_atS RX1 ic cls xN).all vx_ot = true) (hE : EV A s s.heap) (hstr : (is, text) ∈ xS) (hsize : ls.size = c.maxLocals)
    (d0 : decode cc pc = .ok (.new ik, 3)) (d3 : decode cc (pc + 3) = .ok (.dup, 1)) (d4 : decode cc (pc + 4) = .ok (.ldc is, 2)) (d6 : decode cc (pc + 6) = .ok (.invokespecial ic, 3)) (d9 : decode cc (pc + 9) = .ok (.athrow, 1))
    (hout : ∀ x ∈ c.exceptionTable.toList, False) (hRframes : 5 < R.frames) (hRlocals : (rest.map fun v => v.category).sum + 82 ≤ R.locals) (hRcells : cells + 1 ≤ R.cells) (hRslots : slots + 6 ≤ R.slots) (hlocks : meth.locks = false) (hF : F cls) (hc : cells + 1 ≤ mc) (hs : slots + 6 ≤ ms) : W p l e R s m args below meth c s.heap [] cells slots (vx_MQ below Qc (XCf F) args s mc ms free) (F0 m pc ls rest) := by
  obtain ⟨h1, h2, h3, h4, -⟩ := hE
  obtain ⟨sa, hsa⟩ := h4 _ hstr
  refine vx_throwS (A := A) (names := xN) hexec hb hl hown hcls xf_N hk hini hsa (vx_hat hgood hbad (fun w hw => ?_)) (fun w hw => List.all_eq_true.mp hot w hw) h1 h2 va_S.rf hsize d0 d3 d4 d6 d9 (fun x hx => (hout x hx).elim) hRframes hRlocals hRcells hRslots hlocks (fun t _ h5 h6 => ⟨hF, h5, h6⟩) (fun _ h => nomatch h) hc hs
  have h5 := h3 w hw
  simp only [xW, List.mem_cons, List.not_mem_nil, or_false] at hw
  rcases hw with rfl | rfl | rfl | rfl | rfl | rfl | rfl | rfl
  all_goals exact va_Nw.use rfl h5
theorem x_thrN {Qc : Array Value → State → Outcome → State → Prop} {F : String → Prop} {mc ms : Nat} {free : Addr → Prop} (hexec : p.tables.exec = Jvm.exec) (hb : c.code = cc) (hl : l.stackTraces = false) {text : String} {ik is : Nat} {A : Nat → Prop} (hown : s.vm.findClass RX1 = some m.cls) (hcls : Bundle.fit sNSE = true) (hk : (Cond.classLink RX1 ik sNSE).before args s = true) (hini : (Cond.initialized sNSE).before args s = true) (hgood : ∀ w ∈ wsNSE.filter goodWord, w.before args s = true) (hbad : ∀ w ∈ wsNSE.filter (fun w => !goodWord w), w ∈ xW) (hot : (Cond.classLink RX1 ik sNSE :: Cond.initialized sNSE :: wsNSE).all vx_ot = true) (hE : EV A s s.heap) (hstr : (is, text) ∈ xS) (hsize : ls.size = c.maxLocals)
    (d0 : decode cc pc = .ok (.new ik, 3)) (d3 : decode cc (pc + 3) = .ok (.dup, 1)) (d4 : decode cc (pc + 4) = .ok (.ldc is, 2)) (d6 : decode cc (pc + 6) = .ok (.invokespecial 100, 3)) (d9 : decode cc (pc + 9) = .ok (.athrow, 1))
    (hout : ∀ x ∈ c.exceptionTable.toList, False) (hRframes : 5 < R.frames) (hRlocals : (rest.map fun v => v.category).sum + 82 ≤ R.locals) (hRcells : cells + 1 ≤ R.cells) (hRslots : slots + 6 ≤ R.slots) (hlocks : meth.locks = false) (hF : F sNSE) (hc : cells + 1 ≤ mc) (hs : slots + 6 ≤ ms) : W p l e R s m args below meth c s.heap [] cells slots (vx_MQ below Qc (XCf F) args s mc ms free) (F0 m pc ls rest) := by
  obtain ⟨h1, h2, h3, h4, -⟩ := hE
  obtain ⟨sa, hsa⟩ := h4 _ hstr
  refine throwN (A := A) hexec hb hl hown hk hini hsa (vx_hat hgood hbad (fun w hw => ?_)) (fun w hw => List.all_eq_true.mp hot w hw) h1 h2 va_S.rf hsize d0 d3 d4 d6 d9 (fun x hx => (hout x hx).elim) hRframes hRlocals hRcells hRslots hlocks (fun t _ h5 h6 => ⟨hF, h5, h6⟩) (fun _ h => nomatch h) hc hs
  have h5 := h3 w hw
  simp only [xW, List.mem_cons, List.not_mem_nil, or_false] at hw
  rcases hw with rfl | rfl | rfl | rfl | rfl | rfl | rfl | rfl
  all_goals exact va_Nw.use rfl h5
theorem xr_Vv {y : MethodName} {bytes : ByteArray} {maxL nL k index : Nat} {ret : Option FieldType} {ws : List Cond} {rm : Room} {Ts : List Cond} {own C : String} {b : Nat} {As stk : List Value} {D : va_G} {tys : List (ClassId × FieldType)} {w : va_W} {q0 ci : Nat} {fs : List Value} {cq : vw_C} {F F' : String → Prop} {C9 : Prop} {mc ms mc' ms' : Nat} {Qc : Array Value → State → Outcome → State → Prop} {free : Addr → Prop} (S : CallFix p m c cc nL s args Ts own) (hM : vx_Met l y ws rm (PcX D tys w (.ref b :: As)) (va_Sv (fun _ => C9)) (XCf F) mc ms (fun _ => False)) (cw : CallW R s args own C index y bytes maxL ret ws rm mc ms k) (hK : va_K D vwCl tys s) (hP : va_P D vwCl w s.heap) (hE : EV (va_A w s.heap.size) s s.heap) (hc : vwCl[ci]? = some cq) (he : w[q0]? = some (b, .inr (ci, fs))) (hC : cq.1 = C) (hn : As.length = k) (hsize : ls.size = nL) (hstk : stk = As.reverse ++ .ref b :: rest) (hW : (rest.map fun v => v.category).sum ≤ 8) (hdg : decode cc pc = .ok (.invokevirtual index, 3)) (hf : cells + mc ≤ R.cells ∧ slots + ms ≤ R.slots) (hout : ∀ x ∈ c.exceptionTable.toList, False) (hlocks : meth.locks = false) (hFF : ∀ E, F E → F' E) (hmc : cells + mc ≤ mc') (hms : slots + ms ≤ ms') (kk : C9 → W p l e R s m args below meth c s.heap [] (cells + mc) (slots + ms) (vx_MQ below Qc (XCf F') args s mc' ms' free) (F0 m (pc + 3) ls (rest))) : W p l e R s m args below meth c s.heap [] cells slots (vx_MQ below Qc (XCf F') args s mc' ms' free) (F0 m pc ls stk) := by
  have hr := vx_runV (As := As) (rest := rest) (H := s.heap) (locs := []) (cells := cells) (slots := slots) (below := below) (meth := meth) (e := e) (g := F0 m pc ls stk) S hM cw ⟨PcX_blind _ _ _ _, hC ▸ va_recv hK hP hc he, fun U hU hW9 => ⟨rfl, by rw [hU]; exact hP, va_K.moved hW9.alike hK, by rw [hU]; exact EV.warm hW9 hE⟩⟩ rfl hn hsize hstk (lv_room hW) hdg hf
  intro T hT X
  rcases hr T hT X with ⟨v, st₀, t, T', L, h0, X', hL, e1, e2, ⟨hv, hp, hh⟩, st⟩ | ⟨q, st₀, t, T', L, E, ce, h0, X', hL, e1, e2, ⟨hF, hz, hk⟩, hce, hcv, hcl, st⟩
  · cases hv
    obtain ⟨t2, a1, b1⟩ := kk hp T' (by rw [e1, hh, h0]) (Stand.forget X' (fun q h => (hL q h).elim))
    exact ⟨t2, st t2 a1, b1⟩
  · rw [h0] at hz hk
    obtain ⟨t2, a1, b1⟩ := vx_out (H := T'.heap) (locs := []) (pc := pc) (ls := ls) (rest := rest) (Qc := Qc) (XC := XCf F') (free := free) (E := E) (ce := ce) (q := q) (fun x hx => (hout x hx).elim) hlocks (by rw [e1]; exact hce) hcv hcl (fun t9 h9 _ => ⟨hFF E hF, by rw [h9, e1]; exact hz, fun q hq => by rw [h9, e1]; exact hk q hq⟩) (fun _ h => nomatch h) hmc hms T' rfl (Stand.forget X' (fun q h => (hL q h).elim))
    exact ⟨t2, st.trans a1, b1⟩
theorem xr_Vi {y : MethodName} {bytes : ByteArray} {maxL nL k index : Nat} {ret : Option FieldType} {ws : List Cond} {rm : Room} {Ts : List Cond} {own C : String} {b : Nat} {As stk : List Value} {D : va_G} {tys : List (ClassId × FieldType)} {w : va_W} {q0 ci : Nat} {fs : List Value} {cq : vw_C} {F F' : String → Prop} {C9 : Prop} {mc ms mc' ms' : Nat} {Qc : Array Value → State → Outcome → State → Prop} {free : Addr → Prop} {v9 : Int32} (S : CallFix p m c cc nL s args Ts own) (hM : vx_Met l y ws rm (PcX D tys w (.ref b :: As)) (vp_Si (fun r => r = v9 ∧ C9)) (XCf F) mc ms (fun _ => False)) (cw : CallW R s args own C index y bytes maxL ret ws rm mc ms k) (hK : va_K D vwCl tys s) (hP : va_P D vwCl w s.heap) (hE : EV (va_A w s.heap.size) s s.heap) (hc : vwCl[ci]? = some cq) (he : w[q0]? = some (b, .inr (ci, fs))) (hC : cq.1 = C) (hn : As.length = k) (hsize : ls.size = nL) (hstk : stk = As.reverse ++ .ref b :: rest) (hW : (rest.map fun v => v.category).sum ≤ 8) (hdg : decode cc pc = .ok (.invokevirtual index, 3)) (hf : cells + mc ≤ R.cells ∧ slots + ms ≤ R.slots) (hout : ∀ x ∈ c.exceptionTable.toList, False) (hlocks : meth.locks = false) (hFF : ∀ E, F E → F' E) (hmc : cells + mc ≤ mc') (hms : slots + ms ≤ ms') (kk : C9 → W p l e R s m args below meth c s.heap [] (cells + mc) (slots + ms) (vx_MQ below Qc (XCf F') args s mc' ms' free) (F0 m (pc + 3) ls (.int v9 :: rest))) : W p l e R s m args below meth c s.heap [] cells slots (vx_MQ below Qc (XCf F') args s mc' ms' free) (F0 m pc ls stk) := by
  have hr := vx_runV (As := As) (rest := rest) (H := s.heap) (locs := []) (cells := cells) (slots := slots) (below := below) (meth := meth) (e := e) (g := F0 m pc ls stk) S hM cw ⟨PcX_blind _ _ _ _, hC ▸ va_recv hK hP hc he, fun U hU hW9 => ⟨rfl, by rw [hU]; exact hP, va_K.moved hW9.alike hK, by rw [hU]; exact EV.warm hW9 hE⟩⟩ rfl hn hsize hstk (lv_room hW) hdg hf
  intro T hT X
  rcases hr T hT X with ⟨v, st₀, t, T', L, h0, X', hL, e1, e2, ⟨r, hv, ⟨hr9, hp⟩, hh⟩, st⟩ | ⟨q, st₀, t, T', L, E, ce, h0, X', hL, e1, e2, ⟨hF, hz, hk⟩, hce, hcv, hcl, st⟩
  · cases hv; subst hr9
    obtain ⟨t2, a1, b1⟩ := kk hp T' (by rw [e1, hh, h0]) (Stand.forget X' (fun q h => (hL q h).elim))
    exact ⟨t2, st t2 a1, b1⟩
  · rw [h0] at hz hk
    obtain ⟨t2, a1, b1⟩ := vx_out (H := T'.heap) (locs := []) (pc := pc) (ls := ls) (rest := rest) (Qc := Qc) (XC := XCf F') (free := free) (E := E) (ce := ce) (q := q) (fun x hx => (hout x hx).elim) hlocks (by rw [e1]; exact hce) hcv hcl (fun t9 h9 _ => ⟨hFF E hF, by rw [h9, e1]; exact hz, fun q hq => by rw [h9, e1]; exact hk q hq⟩) (fun _ h => nomatch h) hmc hms T' rfl (Stand.forget X' (fun q h => (hL q h).elim))
    exact ⟨t2, st.trans a1, b1⟩
/-- a start with the nest's link at hand -/
def PcMN (D : va_G) (tys : List (ClassId × FieldType)) (w : va_W) (sz : Nat) (av : List Value) : Array Value → State → Prop := va_Pc av (fun U => U.heap.size = sz ∧ va_P D vwCl w U.heap ∧ va_K D vwCl tys U ∧ va_D (fun _ => True) w ∧ NL U)
theorem PcMN_blind (D : va_G) (tys : List (ClassId × FieldType)) (w : va_W) (sz : Nat) (av : List Value) : FrameBlind (PcMN D tys w sz av) := fun a U g mk q => ⟨q.1, q.2.1, q.2.2.1, va_K.moved (u := U) (U := U.calling g mk a) (Vm.Alike.refl U.vm) q.2.2.2.1, q.2.2.2.2.1, NL.same (s := U) (U := U.calling g mk a) rfl q.2.2.2.2.2⟩
def PcRN (D : va_G) (tys : List (ClassId × FieldType)) (w : va_W) (av : List Value) : Array Value → State → Prop := va_Pc av (fun U => va_P D vwCl w U.heap ∧ va_K D vwCl tys U ∧ NL U)
theorem PcRN_blind (D : va_G) (tys : List (ClassId × FieldType)) (w : va_W) (av : List Value) : FrameBlind (PcRN D tys w av) := fun a U g mk q => ⟨q.1, q.2.1, va_K.moved (u := U) (U := U.calling g mk a) (Vm.Alike.refl U.vm) q.2.2.1, NL.same (s := U) (U := U.calling g mk a) rfl q.2.2.2⟩
theorem preM {D : va_G} {tys : List (ClassId × FieldType)} {w wr : va_W} {A : Nat → Prop} {b q0 ci : Nat} {C : String} {cq : vw_C} {fs As : List Value} (hK : va_K D vwCl tys s) (hP : va_P D vwCl (wr ++ w) H) (hD : va_D A (wr ++ w)) (hc : vwCl[ci]? = some cq) (he : (wr ++ w)[q0]? = some (b, .inr (ci, fs))) (hC : cq.1 = C) : PreV s H C b (PcM D tys w H.size (.ref b :: As)) As :=
  ⟨PcM_blind _ _ _ _ _, hC ▸ va_recv hK hP hc he, fun U hU hW9 => ⟨rfl, by rw [hU], by rw [hU]; exact (va_apP hP).2, va_K.moved hW9.alike hK, (va_apD hD).2.1.weaken (fun _ _ _ _ => trivial)⟩⟩
theorem preMN {D : va_G} {tys : List (ClassId × FieldType)} {w wr : va_W} {A : Nat → Prop} {b q0 ci : Nat} {C : String} {cq : vw_C} {fs As : List Value} (hN : NL s) (hK : va_K D vwCl tys s) (hP : va_P D vwCl (wr ++ w) H) (hD : va_D A (wr ++ w)) (hc : vwCl[ci]? = some cq) (he : (wr ++ w)[q0]? = some (b, .inr (ci, fs))) (hC : cq.1 = C) : PreV s H C b (PcMN D tys w H.size (.ref b :: As)) As :=
  ⟨PcMN_blind _ _ _ _ _, hC ▸ va_recv hK hP hc he, fun U hU hW9 => ⟨rfl, by rw [hU], by rw [hU]; exact (va_apP hP).2, va_K.moved hW9.alike hK, (va_apD hD).2.1.weaken (fun _ _ _ _ => trivial), hN.warm hW9⟩⟩
theorem preR {D : va_G} {tys : List (ClassId × FieldType)} {w wr : va_W} {b q0 ci : Nat} {C : String} {cq : vw_C} {fs As : List Value} (hK : va_K D vwCl tys s) (hP : va_P D vwCl (wr ++ w) H) (hc : vwCl[ci]? = some cq) (he : (wr ++ w)[q0]? = some (b, .inr (ci, fs))) (hC : cq.1 = C) : PreV s H C b (PcR D tys w (.ref b :: As)) As :=
  ⟨PcR_blind _ _ _ _, hC ▸ va_recv hK hP hc he, fun U hU hW9 => ⟨rfl, by rw [hU]; exact (va_apP hP).2, va_K.moved hW9.alike hK⟩⟩
theorem preRN {D : va_G} {tys : List (ClassId × FieldType)} {w wr : va_W} {b q0 ci : Nat} {C : String} {cq : vw_C} {fs As : List Value} (hN : NL s) (hK : va_K D vwCl tys s) (hP : va_P D vwCl (wr ++ w) H) (hc : vwCl[ci]? = some cq) (he : (wr ++ w)[q0]? = some (b, .inr (ci, fs))) (hC : cq.1 = C) : PreV s H C b (PcRN D tys w (.ref b :: As)) As :=
  ⟨PcRN_blind _ _ _ _, hC ▸ va_recv hK hP hc he, fun U hU hW9 => ⟨rfl, by rw [hU]; exact (va_apP hP).2, va_K.moved hW9.alike hK, hN.warm hW9⟩⟩
theorem mo2_V {y : MethodName} {bytes : ByteArray} {maxL nL k index : Nat} {ret : Option FieldType} {ws : List Cond} {rm : Room} {Ts : List Cond} {own C : String} {b : Nat} {As stk : List Value} {Pc : Array Value → State → Prop} {D : va_G} {tys : List (ClassId × FieldType)} {w wr : va_W} {S : Type} {post : Int32 → S → Prop} {w' : S → va_W} {A : Nat → Prop} {H0 : Heap} {mc ms : Nat} (S0 : CallFix p m c cc nL s args Ts own) (hM : Met l y ws rm Pc (va_Qi post (fun u t => AtW D tys (va_A w H.size) (w' u) t) (va_A w H.size)) mc ms (va_A w H.size)) (cw : CallW R s args own C index y bytes maxL ret ws rm mc ms k) (hp : PreV s H C b Pc As) (hP : va_P D vwCl (wr ++ w) H) (hD : va_D A (wr ++ w)) (hS : va_S A H0 H locs) (hA : ∀ q, H0.size ≤ q → A q) (hn : As.length = k) (hsize : ls.size = nL) (hstk : stk = As.reverse ++ .ref b :: rest) (hW : (rest.map fun v => v.category).sum ≤ 8) (hdg : decode cc pc = .ok (.invokevirtual index, 3)) (hf : cells + mc ≤ R.cells ∧ slots + ms ≤ R.slots) (kk : ∀ (r : Int32) (u : S) (H1 : Heap) (locs1 : List Loc), post r u → va_P D vwCl (wr ++ w' u) H1 → va_D A (wr ++ w' u) → va_S A H0 H1 locs1 → W p l e R s m args below meth c H1 locs1 (cells + mc) (slots + ms) Q (F0 m (pc + 3) ls (.int r :: rest))) : W p l e R s m args below meth c H locs cells slots Q (F0 m pc ls stk) := by
  refine va_calli (va_runV (As := As) (rest := rest) S0 hM cw hp rfl hn hsize hstk (lv_room hW) hdg hf) hS (fun q _ h => va_sub2 hD hS hA q h) (va_sub2 hD hS hA) (fun r u t H1 locs1 ht hvm hw hB hz hk hS1 => ?_)
  obtain ⟨b1, b2, b3⟩ := hB
  rw [ht] at b1
  obtain ⟨j1, j2⟩ := va_join2 hP hD hk (va_sub2 hD hS hA) b1 b3
  exact kk r u H1 locs1 hw j1 j2 hS1
theorem mo2_Vv {y : MethodName} {bytes : ByteArray} {maxL nL k index : Nat} {ret : Option FieldType} {ws : List Cond} {rm : Room} {Ts : List Cond} {own C : String} {b : Nat} {As stk : List Value} {Pc : Array Value → State → Prop} {D : va_G} {tys : List (ClassId × FieldType)} {w wr : va_W} {S : Type} {post : S → Prop} {w' : S → va_W} {A : Nat → Prop} {H0 : Heap} {mc ms : Nat} (S0 : CallFix p m c cc nL s args Ts own) (hM : Met l y ws rm Pc (va_Qv post (fun u t => AtW D tys (va_A w H.size) (w' u) t) (va_A w H.size)) mc ms (va_A w H.size)) (cw : CallW R s args own C index y bytes maxL ret ws rm mc ms k) (hp : PreV s H C b Pc As) (hP : va_P D vwCl (wr ++ w) H) (hD : va_D A (wr ++ w)) (hS : va_S A H0 H locs) (hA : ∀ q, H0.size ≤ q → A q) (hn : As.length = k) (hsize : ls.size = nL) (hstk : stk = As.reverse ++ .ref b :: rest) (hW : (rest.map fun v => v.category).sum ≤ 8) (hdg : decode cc pc = .ok (.invokevirtual index, 3)) (hf : cells + mc ≤ R.cells ∧ slots + ms ≤ R.slots) (kk : ∀ (u : S) (H1 : Heap) (locs1 : List Loc), post u → va_P D vwCl (wr ++ w' u) H1 → va_D A (wr ++ w' u) → va_S A H0 H1 locs1 → W p l e R s m args below meth c H1 locs1 (cells + mc) (slots + ms) Q (F0 m (pc + 3) ls (rest))) : W p l e R s m args below meth c H locs cells slots Q (F0 m pc ls stk) := by
  refine va_callv (va_runV (As := As) (rest := rest) S0 hM cw hp rfl hn hsize hstk (lv_room hW) hdg hf) hS (fun q _ h => va_sub2 hD hS hA q h) (va_sub2 hD hS hA) (fun u t H1 locs1 ht hvm hw hB hz hk hS1 => ?_)
  obtain ⟨b1, b2, b3⟩ := hB
  rw [ht] at b1
  obtain ⟨j1, j2⟩ := va_join2 hP hD hk (va_sub2 hD hS hA) b1 b3
  exact kk u H1 locs1 hw j1 j2 hS1
theorem ro2_V {y : MethodName} {bytes : ByteArray} {maxL nL k index : Nat} {ret : Option FieldType} {ws : List Cond} {rm : Room} {Ts : List Cond} {own C : String} {b : Nat} {As stk : List Value} {Pc : Array Value → State → Prop} {v : Int32} (S : CallFix p m c cc nL s args Ts own) (hM : Met l y ws rm Pc (vp_Si (fun r => r = v)) 0 0 (fun _ => False)) (cw : CallW R s args own C index y bytes maxL ret ws rm 0 0 k) (hp : PreV s H C b Pc As) (hn : As.length = k) (hsize : ls.size = nL) (hstk : stk = As.reverse ++ .ref b :: rest) (hW : (rest.map fun v => v.category).sum ≤ 8) (hdg : decode cc pc = .ok (.invokevirtual index, 3)) (hf : cells ≤ R.cells ∧ slots ≤ R.slots) (kk : W p l e R s m args below meth c H locs cells slots Q (F0 m (pc + 3) ls (.int v :: rest))) : W p l e R s m args below meth c H locs cells slots Q (F0 m pc ls stk) :=
  vp_callSi (va_Run.run (va_runV (As := As) (rest := rest) S hM cw hp rfl hn hsize hstk (lv_room hW) hdg hf)) (fun r hr => by rw [hr]; exact kk)
theorem ro2_S {y : MethodName} {bytes : ByteArray} {maxL nL k index : Nat} {ret : Option FieldType} {ws : List Cond} {rm : Room} {Ts : List Cond} {own : String} {As stk : List Value} {Pc : Array Value → State → Prop} {v : Int32} (S : CallFix p m c cc nL s args Ts own) (hM : Met l y ws rm Pc (vp_Si (fun r => r = v)) 0 0 (fun _ => False)) (cw : CallB R s args own index y bytes maxL ret ws rm 0 0 k ∧ (Cond.static y).before args s = true) (hp : PreS s H Pc As) (hn : As.length = k) (hsize : ls.size = nL) (hstk : stk = As.reverse ++ rest) (hW : (rest.map fun v => v.category).sum ≤ 8) (hdg : decode cc pc = .ok (.invokestatic index, 3)) (hf : cells ≤ R.cells ∧ slots ≤ R.slots) (kk : W p l e R s m args below meth c H locs cells slots Q (F0 m (pc + 3) ls (.int v :: rest))) : W p l e R s m args below meth c H locs cells slots Q (F0 m pc ls stk) :=
  vp_callSi (va_Run.run (va_runS (As := As) (rest := rest) S hM cw hp rfl hn hsize hstk (lv_room hW) hdg hf)) (fun r hr => by rw [hr]; exact kk)
theorem ro_SN {y : MethodName} {bytes : ByteArray} {maxL nL k index : Nat} {ret : Option FieldType} {ws : List Cond} {rm : Room} {Ts : List Cond} {own host : String} {As stk : List Value} {v : Int32} (S : CallFix p m c cc nL s args Ts own) (hM : Met l y ws rm (PcS As) (vp_Si (fun r => r = v)) 0 0 (fun _ => False)) (cw : va_CN R s args own index y host bytes maxL ret ws rm 0 0 k ∧ (Cond.static y).before args s = true ∧ True) (hn : As.length = k) (hsize : ls.size = nL) (hstk : stk = As.reverse ++ rest) (hW : (rest.map fun v => v.category).sum ≤ 8) (hdg : decode cc pc = .ok (.invokestatic index, 3)) (hf : cells ≤ R.cells ∧ slots ≤ R.slots) (kk : W p l e R s m args below meth c H locs cells slots Q (F0 m (pc + 3) ls (.int v :: rest))) : W p l e R s m args below meth c H locs cells slots Q (F0 m pc ls stk) :=
  vp_callSi (va_Run.run (va_runSN (As := As) (rest := rest) S hM cw ⟨PcS_blind _, fun U hU hW9 => ⟨rfl, trivial⟩⟩ rfl hn hsize hstk (lv_room hW) hdg hf)) (fun r hr => by rw [hr]; exact kk)
theorem wA_row (cI cA : ClassId) (ax : Nat → Nat) (wd qf : Nat → Option Nat) (T : Nat → Nat → Nat) {i : Nat} (h : i < 9) : (wA cI cA ax wd qf T)[4 + i]? = some (ax (15 + i), .inl (cI, 9, .inl (fun k => nI (T i k)))) := by
  match i, h with
  | 0, _ => rfl
  | 1, _ => rfl
  | 2, _ => rfl
  | 3, _ => rfl
  | 4, _ => rfl
  | 5, _ => rfl
  | 6, _ => rfl
  | 7, _ => rfl
  | 8, _ => rfl
def T_up (T : Nat → Nat → Nat) (i j v : Nat) : Nat → Nat → Nat := fun x => if x = i then va_up (T i) j v else T x
theorem wA_set (cI cA : ClassId) (ax : Nat → Nat) (wd qf : Nat → Option Nat) (T : Nat → Nat → Nat) {i : Nat} (h : i < 9) (j v : Nat) : (wA cI cA ax wd qf T).set (4 + i) (ax (15 + i), .inl (cI, 9, .inl (fun k => nI (va_up (T i) j v k)))) = wA cI cA ax wd qf (T_up T i j v) := by
  match i, h with
  | 0, _ => rfl
  | 1, _ => rfl
  | 2, _ => rfl
  | 3, _ => rfl
  | 4, _ => rfl
  | 5, _ => rfl
  | 6, _ => rfl
  | 7, _ => rfl
  | 8, _ => rfl
theorem g_aald (hexec : p.tables.exec = Jvm.exec) (hb : c.code = cc) {D : va_G} {cI cZ cA : ClassId} {ax : Nat → Nat} {wd qf : Nat → Option Nat} {T : Nat → Nat → Nat} (hK : va_K D vwCl [(cI, .int), (cZ, .boolean), (cA, .array .int)] s) (hP : va_P D vwCl (wA cI cA ax wd qf T) H) {i : Nat} (hi : i < 9) (hdg : decode cc pc = .ok (.aaload, 1)) (kk : W p l e R s m args below meth c H locs cells slots Q (F0 m (pc + 1) ls (.ref (ax (15 + i)) :: rest))) : W p l e R s m args below meth c H locs cells slots Q (F0 m pc ls (.int (nI i) :: .ref (ax 14) :: rest)) := by
  have hin : vp_in (nI i) 9 := vp_in_nI hi (by decide)
  refine W.aald (v := .ref (ax (15 + i))) (ty := .array .int) hexec hb (hP 3 _ rfl) ((hK.2 2 _ rfl).1 9 (fun j => va_rf (some (ax (15 + j))))) rfl (fun q => by cases q) (by show ¬ (nI i < 0 ∨ (arrV _ _ _).slots.size ≤ _); rw [arrV_size]; exact hin) (by show (arrV _ _ _).slots[_]? = _; rw [nI_clamp (by omega), arrV_read _ _ hi]; rfl) rfl rfl hdg kk
theorem g_iald (hexec : p.tables.exec = Jvm.exec) (hb : c.code = cc) {D : va_G} {cI cZ cA : ClassId} {ax : Nat → Nat} {wd qf : Nat → Option Nat} {T : Nat → Nat → Nat} (hK : va_K D vwCl [(cI, .int), (cZ, .boolean), (cA, .array .int)] s) (hP : va_P D vwCl (wA cI cA ax wd qf T) H) {i j : Nat} (hi : i < 9) (hj : j < 9) (hdg : decode cc pc = .ok (.iaload, 1)) (kk : W p l e R s m args below meth c H locs cells slots Q (F0 m (pc + 1) ls (.int (nI (T i j)) :: rest))) : W p l e R s m args below meth c H locs cells slots Q (F0 m pc ls (.int (nI j) :: .ref (ax (15 + i)) :: rest)) :=
  n_iald hexec hb hK hP (4 + i) 0 (wA_row cI cA ax wd qf T hi) rfl hj (by decide) hdg kk
theorem g_iast (hexec : p.tables.exec = Jvm.exec) (hb : c.code = cc) {D : va_G} {cI cZ cA : ClassId} {ax : Nat → Nat} {wd qf : Nat → Option Nat} {T : Nat → Nat → Nat} {A : Nat → Prop} {H0 : Heap} (hK : va_K D vwCl [(cI, .int), (cZ, .boolean), (cA, .array .int)] s) (hP : va_P D vwCl (wA cI cA ax wd qf T) H) (hD : va_D A (wA cI cA ax wd qf T)) (hS : va_S A H0 H locs) {i j v : Nat} (hi : i < 9) (hj : j < 9) (hdg : decode cc pc = .ok (.iastore, 1)) (kk : ∀ (H1 : Heap) (locs1 : List Loc), va_P D vwCl (wA cI cA ax wd qf (T_up T i j v)) H1 → va_D A (wA cI cA ax wd qf (T_up T i j v)) → va_S A H0 H1 locs1 → W p l e R s m args below meth c H1 locs1 cells slots Q (F0 m (pc + 1) ls rest)) : W p l e R s m args below meth c H locs cells slots Q (F0 m pc ls (.int (nI v) :: .int (nI j) :: .ref (ax (15 + i)) :: rest)) :=
  r_iast hexec hb hK hP hD hS (4 + i) 0 (wA_row cI cA ax wd qf T hi) rfl hj (by decide) hdg (nI_upd _ _ _) (wA_set cI cA ax wd qf T hi j v) kk
def s_fq (wd qf : Nat → Option Nat) (i j : Nat) : Bool := match wd i with
  | none => false
  | some k => decide (qf j = some k)
theorem s_fq_t {wd qf : Nat → Option Nat} {i j : Nat} : s_fq wd qf i j = true ↔ ∃ k, wd i = some k ∧ qf j = some k := by
  unfold s_fq
  cases h : wd i with
  | none => exact ⟨fun q => (nomatch q), fun ⟨_, q, _⟩ => (nomatch q)⟩
  | some k => exact ⟨fun q => ⟨k, rfl, of_decide_eq_true q⟩, fun ⟨x, q, r⟩ => by cases q; exact decide_eq_true r⟩
def BD (wd qf : Nat → Option Nat) : Prop := (∀ i k, i < 8 → wd i = some k → k < 1000) ∧ ∀ i k, i < 8 → qf i = some k → k < 1000
theorem oq_ne (hexec : p.tables.exec = Jvm.exec) (hb : c.code = cc) {wd qf : Nat → Option Nat} {i j : Nat} (hB : BD wd qf) (hi : i < 8) (hj : j < 8) {off : Int} {tgt : Nat} (hdg : decode cc pc = .ok (.if_icmp .ne off, 3)) (ht : (pc : Int) + off = (tgt : Int)) (kt : s_fq wd qf i j = false → W p l e R s m args below meth c H locs cells slots Q (F0 m tgt ls rest)) (kf : s_fq wd qf i j = true → W p l e R s m args below meth c H locs cells slots Q (F0 m (pc + 3) ls rest)) : W p l e R s m args below meth c H locs cells slots Q (F0 m pc ls (.int (qI (qf j)) :: .int (oI (wd i)) :: rest)) :=
  have e := oqI (a := wd i) (b := qf j) (fun k h => by have := hB.1 i k hi h; omega) (fun k h => by have := hB.2 j k hj h; omega)
  lv_icmp_ne hexec hb hdg ht (fun q => kt (by cases hq : s_fq wd qf i j with | false => rfl | true => exact absurd (e.mpr (s_fq_t.mp hq)) q)) (fun q => kf (s_fq_t.mpr (e.mp q)))
end XT
