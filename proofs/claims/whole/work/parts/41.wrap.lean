abbrev tyL (cI cZ cA cL : ClassId) : List (ClassId × FieldType) := [(cI, .int), (cZ, .boolean), (cA, .array .int), (cL, .long)]
abbrev oL (o : Nat) (cL : ClassId) (v : Int64) : Nat × va_E := (o, .inl (cL, 1, .inr (.inl (fun _ => v))))
theorem oL_set {D : va_G} {A : Nat → Prop} {H : Heap} {o : Nat} {cL : ClassId} {v0 v : Int64} {w : va_W} (hP : va_P D vwCl (([oL o cL v0] ++ w).set 0 (o, .inl (cL, 1, .inr (.inl (vp_updL (fun _ => v0) (nI 0).toNatClampNeg v))))) H) (hD : va_D A (([oL o cL v0] ++ w).set 0 (o, .inl (cL, 1, .inr (.inl (vp_updL (fun _ => v0) (nI 0).toNatClampNeg v)))))) : va_P D vwCl ([oL o cL v] ++ w) H ∧ va_D A ([oL o cL v] ++ w) := by
  have e5 : (([oL o cL v0] ++ w).set 0 (o, .inl (cL, 1, .inr (.inl (vp_updL (fun _ => v0) (nI 0).toNatClampNeg v)))))[0]? = some (o, .inl (cL, 1, .inr (.inl (vp_updL (fun _ => v0) (nI 0).toNatClampNeg v)))) := rfl
  have h9 := hP 0 _ e5
  have hP2 := hP.set hD e5 (e := .inl (cL, 1, .inr (.inl (fun _ => v)))) (H1 := H) (by
    have e6 : vp_cell cL (1, .inr (.inl (vp_updL (fun _ => v0) (nI 0).toNatClampNeg v))) = vp_cell cL (1, .inr (.inl (fun _ => v))) := by
      rw [vp_cell_l, vp_cell_l]
      unfold arrV
      congr 1
      all_goals (refine congrArg Array.ofFn (funext fun j => ?_); have hj : j.1 = 0 := by omega; rw [hj]; rfl)
    show H[o]? = some (vp_cell cL _)
    rw [← e6]
    exact h9) (fun _ _ => rfl)
  exact ⟨hP2, hD.set e5⟩
set_option maxHeartbeats 4000000 in
set_option maxRecDepth 100000 in
theorem kL_lines (l : Launch) (hfl : l.stackTraces = false) (D : va_G) (cI cZ cA : ClassId) (ax : Nat → Nat) (n : Nat) (B : Nat → Nat → Nat) (Q : Nat → Option Nat) (cn : Nat → Bool) (rt : Nat → Nat) (wd : Nat → Option Nat) (qf : Nat → Option Nat) (T : Nat → Nat → Nat) (o : Nat) (cL : ClassId) (v0 : Int64) (sz : Nat) (u : Int32) (hB : Bok n B) : vx_Met l yL_lines wsL_lines ({ frames := 8, cells := 1, slots := 6, locals := 124 }) (PcW D (tyL cI cZ cA cL) ([oL o cL v0] ++ (wX cI cZ cA ax n B Q cn rt wd qf T)) sz [.ref (ax 0), .int u, .ref o]) (va_Qi (fun (r : Int32) (v9 : Int64) => r = nI (s_lines n B u).1 ∧ ((s_lines n B u).1 = 0 → v9 = ((nI ((s_lines n B u).2))).toInt64)) (fun v9 t => AtW D (tyL cI cZ cA cL) (va_A ([oL o cL v0] ++ (wX cI cZ cA ax n B Q cn rt wd qf T)) sz) ([oL o cL v9] ++ (wX cI cZ cA ax n B Q cn rt wd qf T)) t) (va_A ([oL o cL v0] ++ (wX cI cZ cA ax n B Q cn rt wd qf T)) sz)) (fun _ _ _ => False) 1 6 (va_A ([oL o cL v0] ++ (wX cI cZ cA ax n B Q cn rt wd qf T)) sz) := by
  refine vx_ofWH (cc := cL_lines) (maxL := 4) (ret := (some .int)) (hh := [(0, 9, 12, 21)]) (by decide) rfl ?_
  intro p e s m args below meth c s₁ BL hml hv
  obtain ⟨rfl, hsz, hP, hK, hD0, hE, hNC⟩ := hv
  have hx := BL.exec
  have hb := BL.bytes
  have hr := BL.returns
  have hts := atoms_spec (ws := wsL_lines) BL.pre
  have hown : s.vm.findClass RL = some m.cls := findClass_of_methodNamed BL.named
  have hlocks := BL.notSynchronized
  have htab := vx_table (x := yL_lines) BL (hts _ List.mem_cons_self)
  subst hsz
  have hD := hD0.self (sz := s.heap.size)
  generalize hAe : va_A ([oL o cL v0] ++ (wX cI cZ cA ax n B Q cn rt wd qf T)) s.heap.size = A at hD ⊢
  have hA : ∀ q : Nat, s.heap.size ≤ q → A q := fun q h => by rw [← hAe]; exact Or.inr h
  have hS : va_S A s.heap s.heap [] := va_S.rf
  have hP : va_P D vwCl ([oL o cL v0] ++ (wX cI cZ cA ax n B Q cn rt wd qf T)) s.heap := hP
  have hD : va_D A ([oL o cL v0] ++ (wX cI cZ cA ax n B Q cn rt wd qf T)) := hD
  have hl := lv_entry ([.ref (ax 0), .int u, .ref o]) (n := 4) (Nat.le_of_ble_eq_true rfl)
  rw [lg_entry_eq]
  generalize (lg_sl ([.ref (ax 0), .int u, .ref o]) ++ List.replicate (4 - (lg_sl ([.ref (ax 0), .int u, .ref o])).length) Slot.unset).toArray = ls at hl ⊢
  have hl : lv_has ls 4 [(0, .ref (ax 0)), (1, .int u), (2, .ref o)] := hl
  refine lv_aload_n hx hb dL_lines_0 rfl (lv_at hl 2 rfl) ?_
  refine lv_iconst (v := nI 0) hx hb dL_lines_1 (by decide +kernel) ?_
  refine lv_aload_n hx hb dL_lines_2 rfl (lv_at hl 0 rfl) ?_
  refine lv_iload_n hx hb dL_lines_3 rfl (lv_at hl 1 rfl) ?_
  refine xl_Vi (wr := [oL o cL v0]) (As := [.int u]) (tys0 := [(cI, .int), (cZ, .boolean), (cA, .array .int)]) ⟨hx, hb, hml, hown, hts⟩ (kX1_lines l hfl D cI cZ cA ax n B Q cn rt wd qf T u hB) (cwV 1 hts gL_lines_X1_lines rfl rfl rfl hdX1_lines ⟨Nat.le_of_ble_eq_true rfl, Nat.le_of_ble_eq_true rfl⟩) hK (hK.sub [0, 1, 2] rfl) hP hE (ci := 3) rfl (q0 := 1) rfl rfl rfl hl.1 rfl (Nat.le_of_ble_eq_true rfl) dL_lines_4 ⟨Nat.le_of_ble_eq_true rfl, Nat.le_of_ble_eq_true rfl⟩ (fun E ce q9 H1 hF hz hk hce hcv hcl => ?_) (fun hc9 => ?_)
  · have hP1 := hP.kept (H1 := H1) (fun k x hx => hk x.1 ((hP k x hx).lt))
    have hS1 : va_S A s.heap H1 [] := ⟨hz, fun q h1 _ => hk q h1, fun _ h => nomatch h⟩
    rcases hF with ⟨rfl, hcd⟩
    · refine vx_catch (name := "java/lang/IndexOutOfBoundsException") hown [] ⟨0, 9, 12, 21⟩ [] (by rw [htab]; rfl) (fun z hz => nomatch hz) rfl (by decide) (hts (.classLink RL 21 "java/lang/IndexOutOfBoundsException") (by decide +kernel)) (va_Nw.use rfl (hE.2.2.1 (.castable "java/lang/IndexOutOfBoundsException" "java/lang/IndexOutOfBoundsException") (by decide +kernel))) hce hcv hcl ?_
      refine lv_astore_n (lv' := [(3, .ref q9), (0, .ref (ax 0)), (1, .int u), (2, .ref o)]) hx hb dL_lines_12 rfl hl (by decide) rfl (fun ls hl => ?_)
      refine lv_iconst (v := nI 1) hx hb dL_lines_13 (by decide +kernel) ?_
      refine vx_ret ?_
      refine W.widen (k := 1) (n := 6) (Nat.le_of_ble_eq_true rfl) (Nat.le_of_ble_eq_true rfl) ?_
      exact W.iret (v := nI 1) hx hb hr (fun t ht hW => ⟨⟨_, v0, rfl, ⟨by rw [hcd], fun q => absurd (hcd.symm.trans q) (by decide)⟩, by rw [ht]; exact hP1, va_K.moved hW.alike hK, hD⟩, hS1.F ht⟩) hS1.2.2 dL_lines_14
  refine lv_i2l (v := ((nI ((s_lines n B u).2))).toInt64) hx hb dL_lines_7 rfl ?_
  refine va_last hx hb hK hP hD hS 0 3 rfl rfl (vp_in_nI (by decide) (by decide)) dL_lines_8 (fun H1 locs1 hP hD hS => ?_)
  refine lv_goto (tgt := 15) hx hb dL_lines_9 (by decide) ?_
  refine lv_iconst (v := nI 0) hx hb dL_lines_15 (by decide +kernel) ?_
  have e9 : (vp_updL (fun _ => v0) (nI 0).toNatClampNeg ((nI ((s_lines n B u).2))).toInt64) = (fun _ => v0) ∨ True := Or.inr trivial
  refine vx_ret ?_
  refine W.widen (k := 1) (n := 6) (Nat.le_of_ble_eq_true rfl) (Nat.le_of_ble_eq_true rfl) ?_
  obtain ⟨hP, hD⟩ := oL_set hP hD
  exact W.iret (v := nI 0) hx hb hr (fun t ht hW => ⟨⟨_, ((nI ((s_lines n B u).2))).toInt64, rfl, ⟨by rw [hc9], fun _ => rfl⟩, by rw [ht]; exact hP, va_K.moved hW.alike hK, hD⟩, hS.F ht⟩) hS.2.2 dL_lines_16
set_option maxHeartbeats 4000000 in
set_option maxRecDepth 100000 in
theorem kL_word (l : Launch) (hfl : l.stackTraces = false) (D : va_G) (cI cZ cA : ClassId) (ax : Nat → Nat) (n : Nat) (B : Nat → Nat → Nat) (Q : Nat → Option Nat) (cn : Nat → Bool) (rt : Nat → Nat) (wd : Nat → Option Nat) (qf : Nat → Option Nat) (T : Nat → Nat → Nat) (o : Nat) (cL : ClassId) (v0 : Int64) (sz : Nat) (u : Int32) (w : Int32) (hB : Bok n B) : vx_Met l yL_word wsL_word ({ frames := 9, cells := 2, slots := 12, locals := 147 }) (PcW D (tyL cI cZ cA cL) ([oL o cL v0] ++ (wX cI cZ cA ax n B Q cn rt wd qf T)) sz [.ref (ax 0), .int u, .int w, .ref o]) (va_Qi (fun (r : Int32) (v9 : Int64) => r = nI (s_word n B u w).1 ∧ ((s_word n B u w).1 = 0 → v9 = ((nI ((s_word n B u w).2))).toInt64)) (fun v9 t => AtW D (tyL cI cZ cA cL) (va_A ([oL o cL v0] ++ (wX cI cZ cA ax n B Q cn rt wd qf T)) sz) ([oL o cL v9] ++ (wX cI cZ cA ax n B Q cn rt wd qf T)) t) (va_A ([oL o cL v0] ++ (wX cI cZ cA ax n B Q cn rt wd qf T)) sz)) (fun _ _ _ => False) 2 12 (va_A ([oL o cL v0] ++ (wX cI cZ cA ax n B Q cn rt wd qf T)) sz) := by
  refine vx_ofWH (cc := cL_word) (maxL := 5) (ret := (some .int)) (hh := [(0, 10, 13, 21)]) (by decide) rfl ?_
  intro p e s m args below meth c s₁ BL hml hv
  obtain ⟨rfl, hsz, hP, hK, hD0, hE, hNC⟩ := hv
  have hx := BL.exec
  have hb := BL.bytes
  have hr := BL.returns
  have hts := atoms_spec (ws := wsL_word) BL.pre
  have hown : s.vm.findClass RL = some m.cls := findClass_of_methodNamed BL.named
  have hlocks := BL.notSynchronized
  have htab := vx_table (x := yL_word) BL (hts _ List.mem_cons_self)
  subst hsz
  have hD := hD0.self (sz := s.heap.size)
  generalize hAe : va_A ([oL o cL v0] ++ (wX cI cZ cA ax n B Q cn rt wd qf T)) s.heap.size = A at hD ⊢
  have hA : ∀ q : Nat, s.heap.size ≤ q → A q := fun q h => by rw [← hAe]; exact Or.inr h
  have hS : va_S A s.heap s.heap [] := va_S.rf
  have hP : va_P D vwCl ([oL o cL v0] ++ (wX cI cZ cA ax n B Q cn rt wd qf T)) s.heap := hP
  have hD : va_D A ([oL o cL v0] ++ (wX cI cZ cA ax n B Q cn rt wd qf T)) := hD
  have hl := lv_entry ([.ref (ax 0), .int u, .int w, .ref o]) (n := 5) (Nat.le_of_ble_eq_true rfl)
  rw [lg_entry_eq]
  generalize (lg_sl ([.ref (ax 0), .int u, .int w, .ref o]) ++ List.replicate (5 - (lg_sl ([.ref (ax 0), .int u, .int w, .ref o])).length) Slot.unset).toArray = ls at hl ⊢
  have hl : lv_has ls 5 [(0, .ref (ax 0)), (1, .int u), (2, .int w), (3, .ref o)] := hl
  refine lv_aload_n hx hb dL_word_0 rfl (lv_at hl 3 rfl) ?_
  refine lv_iconst (v := nI 0) hx hb dL_word_1 (by decide +kernel) ?_
  refine lv_aload_n hx hb dL_word_2 rfl (lv_at hl 0 rfl) ?_
  refine lv_iload_n hx hb dL_word_3 rfl (lv_at hl 1 rfl) ?_
  refine lv_iload_n hx hb dL_word_4 rfl (lv_at hl 2 rfl) ?_
  refine xl_Vi (wr := [oL o cL v0]) (As := [.int u, .int w]) (tys0 := [(cI, .int), (cZ, .boolean), (cA, .array .int)]) ⟨hx, hb, hml, hown, hts⟩ (kX1_word l hfl D cI cZ cA ax n B Q cn rt wd qf T u w hB) (cwV 2 hts gL_word_X1_word rfl rfl rfl hdX1_word ⟨Nat.le_of_ble_eq_true rfl, Nat.le_of_ble_eq_true rfl⟩) hK (hK.sub [0, 1, 2] rfl) hP hE (ci := 3) rfl (q0 := 1) rfl rfl rfl hl.1 rfl (Nat.le_of_ble_eq_true rfl) dL_word_5 ⟨Nat.le_of_ble_eq_true rfl, Nat.le_of_ble_eq_true rfl⟩ (fun E ce q9 H1 hF hz hk hce hcv hcl => ?_) (fun hc9 => ?_)
  · have hP1 := hP.kept (H1 := H1) (fun k x hx => hk x.1 ((hP k x hx).lt))
    have hS1 : va_S A s.heap H1 [] := ⟨hz, fun q h1 _ => hk q h1, fun _ h => nomatch h⟩
    rcases hF with ⟨rfl, hcd⟩
    · refine vx_catch (name := "java/lang/IndexOutOfBoundsException") hown [] ⟨0, 10, 13, 21⟩ [] (by rw [htab]; rfl) (fun z hz => nomatch hz) rfl (by decide) (hts (.classLink RL 21 "java/lang/IndexOutOfBoundsException") (by decide +kernel)) (va_Nw.use rfl (hE.2.2.1 (.castable "java/lang/IndexOutOfBoundsException" "java/lang/IndexOutOfBoundsException") (by decide +kernel))) hce hcv hcl ?_
      refine lv_astore (lv' := [(4, .ref q9), (0, .ref (ax 0)), (1, .int u), (2, .int w), (3, .ref o)]) hx hb dL_word_13 hl (by decide) rfl (fun ls hl => ?_)
      refine lv_iconst (v := nI 1) hx hb dL_word_15 (by decide +kernel) ?_
      refine vx_ret ?_
      refine W.widen (k := 2) (n := 12) (Nat.le_of_ble_eq_true rfl) (Nat.le_of_ble_eq_true rfl) ?_
      exact W.iret (v := nI 1) hx hb hr (fun t ht hW => ⟨⟨_, v0, rfl, ⟨by rw [hcd], fun q => absurd (hcd.symm.trans q) (by decide)⟩, by rw [ht]; exact hP1, va_K.moved hW.alike hK, hD⟩, hS1.F ht⟩) hS1.2.2 dL_word_16
  refine lv_i2l (v := ((nI ((s_word n B u w).2))).toInt64) hx hb dL_word_8 rfl ?_
  refine va_last hx hb hK hP hD hS 0 3 rfl rfl (vp_in_nI (by decide) (by decide)) dL_word_9 (fun H1 locs1 hP hD hS => ?_)
  refine lv_goto (tgt := 17) hx hb dL_word_10 (by decide) ?_
  refine lv_iconst (v := nI 0) hx hb dL_word_17 (by decide +kernel) ?_
  have e9 : (vp_updL (fun _ => v0) (nI 0).toNatClampNeg ((nI ((s_word n B u w).2))).toInt64) = (fun _ => v0) ∨ True := Or.inr trivial
  refine vx_ret ?_
  refine W.widen (k := 2) (n := 12) (Nat.le_of_ble_eq_true rfl) (Nat.le_of_ble_eq_true rfl) ?_
  obtain ⟨hP, hD⟩ := oL_set hP hD
  exact W.iret (v := nI 0) hx hb hr (fun t ht hW => ⟨⟨_, ((nI ((s_word n B u w).2))).toInt64, rfl, ⟨by rw [hc9], fun _ => rfl⟩, by rw [ht]; exact hP, va_K.moved hW.alike hK, hD⟩, hS.F ht⟩) hS.2.2 dL_word_18
set_option maxHeartbeats 4000000 in
set_option maxRecDepth 100000 in
theorem kL_parent (l : Launch) (hfl : l.stackTraces = false) (D : va_G) (cI cZ cA : ClassId) (ax : Nat → Nat) (n : Nat) (B : Nat → Nat → Nat) (Q : Nat → Option Nat) (cn : Nat → Bool) (rt : Nat → Nat) (wd : Nat → Option Nat) (qf : Nat → Option Nat) (T : Nat → Nat → Nat) (o : Nat) (cL : ClassId) (v0 : Int64) (sz : Nat) (u : Int32) (hB : Bok n B) : vx_Met l yL_parent wsL_parent ({ frames := 8, cells := 2, slots := 12, locals := 125 }) (PcW D (tyL cI cZ cA cL) ([oL o cL v0] ++ (wX cI cZ cA ax n B Q cn rt wd qf T)) sz [.ref (ax 0), .int u, .ref o]) (va_Qi (fun (r : Int32) (v9 : Int64) => r = nI (s_parent n B u).1 ∧ ((s_parent n B u).1 = 0 → v9 = ((nI ((s_parent n B u).2))).toInt64)) (fun v9 t => AtW D (tyL cI cZ cA cL) (va_A ([oL o cL v0] ++ (wX cI cZ cA ax n B Q cn rt wd qf T)) sz) ([oL o cL v9] ++ (wX cI cZ cA ax n B Q cn rt wd qf T)) t) (va_A ([oL o cL v0] ++ (wX cI cZ cA ax n B Q cn rt wd qf T)) sz)) (fun _ _ _ => False) 2 12 (va_A ([oL o cL v0] ++ (wX cI cZ cA ax n B Q cn rt wd qf T)) sz) := by
  refine vx_ofWH (cc := cL_parent) (maxL := 4) (ret := (some .int)) (hh := [(0, 9, 12, 21), (0, 9, 15, 37)]) (by decide) rfl ?_
  intro p e s m args below meth c s₁ BL hml hv
  obtain ⟨rfl, hsz, hP, hK, hD0, hE, hNC⟩ := hv
  have hx := BL.exec
  have hb := BL.bytes
  have hr := BL.returns
  have hts := atoms_spec (ws := wsL_parent) BL.pre
  have hown : s.vm.findClass RL = some m.cls := findClass_of_methodNamed BL.named
  have hlocks := BL.notSynchronized
  have htab := vx_table (x := yL_parent) BL (hts _ List.mem_cons_self)
  subst hsz
  have hD := hD0.self (sz := s.heap.size)
  generalize hAe : va_A ([oL o cL v0] ++ (wX cI cZ cA ax n B Q cn rt wd qf T)) s.heap.size = A at hD ⊢
  have hA : ∀ q : Nat, s.heap.size ≤ q → A q := fun q h => by rw [← hAe]; exact Or.inr h
  have hS : va_S A s.heap s.heap [] := va_S.rf
  have hP : va_P D vwCl ([oL o cL v0] ++ (wX cI cZ cA ax n B Q cn rt wd qf T)) s.heap := hP
  have hD : va_D A ([oL o cL v0] ++ (wX cI cZ cA ax n B Q cn rt wd qf T)) := hD
  have hl := lv_entry ([.ref (ax 0), .int u, .ref o]) (n := 4) (Nat.le_of_ble_eq_true rfl)
  rw [lg_entry_eq]
  generalize (lg_sl ([.ref (ax 0), .int u, .ref o]) ++ List.replicate (4 - (lg_sl ([.ref (ax 0), .int u, .ref o])).length) Slot.unset).toArray = ls at hl ⊢
  have hl : lv_has ls 4 [(0, .ref (ax 0)), (1, .int u), (2, .ref o)] := hl
  refine lv_aload_n hx hb dL_parent_0 rfl (lv_at hl 2 rfl) ?_
  refine lv_iconst (v := nI 0) hx hb dL_parent_1 (by decide +kernel) ?_
  refine lv_aload_n hx hb dL_parent_2 rfl (lv_at hl 0 rfl) ?_
  refine lv_iload_n hx hb dL_parent_3 rfl (lv_at hl 1 rfl) ?_
  refine xl_Vi (wr := [oL o cL v0]) (As := [.int u]) (tys0 := [(cI, .int), (cZ, .boolean), (cA, .array .int)]) ⟨hx, hb, hml, hown, hts⟩ (kX1_parent l hfl D cI cZ cA ax n B Q cn rt wd qf T u hB) (cwV 1 hts gL_parent_X1_parent rfl rfl rfl hdX1_parent ⟨Nat.le_of_ble_eq_true rfl, Nat.le_of_ble_eq_true rfl⟩) hK (hK.sub [0, 1, 2] rfl) hP hE (ci := 3) rfl (q0 := 1) rfl rfl rfl hl.1 rfl (Nat.le_of_ble_eq_true rfl) dL_parent_4 ⟨Nat.le_of_ble_eq_true rfl, Nat.le_of_ble_eq_true rfl⟩ (fun E ce q9 H1 hF hz hk hce hcv hcl => ?_) (fun hc9 => ?_)
  · have hP1 := hP.kept (H1 := H1) (fun k x hx => hk x.1 ((hP k x hx).lt))
    have hS1 : va_S A s.heap H1 [] := ⟨hz, fun q h1 _ => hk q h1, fun _ h => nomatch h⟩
    rcases hF with ⟨rfl, hcd⟩ | ⟨rfl, hcd⟩
    · refine vx_catch (name := "java/lang/IndexOutOfBoundsException") hown [] ⟨0, 9, 12, 21⟩ [⟨0, 9, 15, 37⟩] (by rw [htab]; rfl) (fun z hz => nomatch hz) rfl (by decide) (hts (.classLink RL 21 "java/lang/IndexOutOfBoundsException") (by decide +kernel)) (va_Nw.use rfl (hE.2.2.1 (.castable "java/lang/IndexOutOfBoundsException" "java/lang/IndexOutOfBoundsException") (by decide +kernel))) hce hcv hcl ?_
      refine lv_astore_n (lv' := [(3, .ref q9), (0, .ref (ax 0)), (1, .int u), (2, .ref o)]) hx hb dL_parent_12 rfl hl (by decide) rfl (fun ls hl => ?_)
      refine lv_iconst (v := nI 1) hx hb dL_parent_13 (by decide +kernel) ?_
      refine vx_ret ?_
      refine W.widen (k := 2) (n := 12) (Nat.le_of_ble_eq_true rfl) (Nat.le_of_ble_eq_true rfl) ?_
      exact W.iret (v := nI 1) hx hb hr (fun t ht hW => ⟨⟨_, v0, rfl, ⟨by rw [hcd], fun q => absurd (hcd.symm.trans q) (by decide)⟩, by rw [ht]; exact hP1, va_K.moved hW.alike hK, hD⟩, hS1.F ht⟩) hS1.2.2 dL_parent_14
    · refine vx_catch (name := "java/util/NoSuchElementException") hown [⟨0, 9, 12, 21⟩] ⟨0, 9, 15, 37⟩ [] (by rw [htab]; rfl) (fun z hz => by simp only [List.mem_cons, List.not_mem_nil, or_false] at hz; rcases hz with rfl; exact Or.inr ⟨by decide, "java/lang/IndexOutOfBoundsException", hts (.classLink RL 21 "java/lang/IndexOutOfBoundsException") (by decide +kernel), hNC ("java/util/NoSuchElementException", "java/lang/IndexOutOfBoundsException") (by decide +kernel)⟩) rfl (by decide) (hts (.classLink RL 37 "java/util/NoSuchElementException") (by decide +kernel)) (va_Nw.use rfl (hE.2.2.1 (.castable "java/util/NoSuchElementException" "java/util/NoSuchElementException") (by decide +kernel))) hce hcv hcl ?_
      refine lv_astore_n (lv' := [(3, .ref q9), (0, .ref (ax 0)), (1, .int u), (2, .ref o)]) hx hb dL_parent_15 rfl hl (by decide) rfl (fun ls hl => ?_)
      refine lv_iconst (v := nI 2) hx hb dL_parent_16 (by decide +kernel) ?_
      refine vx_ret ?_
      refine W.widen (k := 2) (n := 12) (Nat.le_of_ble_eq_true rfl) (Nat.le_of_ble_eq_true rfl) ?_
      exact W.iret (v := nI 2) hx hb hr (fun t ht hW => ⟨⟨_, v0, rfl, ⟨by rw [hcd], fun q => absurd (hcd.symm.trans q) (by decide)⟩, by rw [ht]; exact hP1, va_K.moved hW.alike hK, hD⟩, hS1.F ht⟩) hS1.2.2 dL_parent_17
  refine lv_i2l (v := ((nI ((s_parent n B u).2))).toInt64) hx hb dL_parent_7 rfl ?_
  refine va_last hx hb hK hP hD hS 0 3 rfl rfl (vp_in_nI (by decide) (by decide)) dL_parent_8 (fun H1 locs1 hP hD hS => ?_)
  refine lv_goto (tgt := 18) hx hb dL_parent_9 (by decide) ?_
  refine lv_iconst (v := nI 0) hx hb dL_parent_18 (by decide +kernel) ?_
  have e9 : (vp_updL (fun _ => v0) (nI 0).toNatClampNeg ((nI ((s_parent n B u).2))).toInt64) = (fun _ => v0) ∨ True := Or.inr trivial
  refine vx_ret ?_
  refine W.widen (k := 2) (n := 12) (Nat.le_of_ble_eq_true rfl) (Nat.le_of_ble_eq_true rfl) ?_
  obtain ⟨hP, hD⟩ := oL_set hP hD
  exact W.iret (v := nI 0) hx hb hr (fun t ht hW => ⟨⟨_, ((nI ((s_parent n B u).2))).toInt64, rfl, ⟨by rw [hc9], fun _ => rfl⟩, by rw [ht]; exact hP, va_K.moved hW.alike hK, hD⟩, hS.F ht⟩) hS.2.2 dL_parent_19
set_option maxHeartbeats 4000000 in
set_option maxRecDepth 100000 in
theorem kL_partner (l : Launch) (hfl : l.stackTraces = false) (D : va_G) (cI cZ cA : ClassId) (ax : Nat → Nat) (n : Nat) (B : Nat → Nat → Nat) (Q : Nat → Option Nat) (cn : Nat → Bool) (rt : Nat → Nat) (wd : Nat → Option Nat) (qf : Nat → Option Nat) (T : Nat → Nat → Nat) (o : Nat) (cL : ClassId) (v0 : Int64) (sz : Nat) (u : Int32) (w : Int32) (hB : Bok n B) (hQ : QA n B Q) : vx_Met l yL_partner wsL_partner ({ frames := 9, cells := 3, slots := 18, locals := 148 }) (PcW D (tyL cI cZ cA cL) ([oL o cL v0] ++ (wX cI cZ cA ax n B Q cn rt wd qf T)) sz [.ref (ax 0), .int u, .int w, .ref o]) (va_Qi (fun (r : Int32) (v9 : Int64) => r = nI (s_pr n B u w).1 ∧ ((s_pr n B u w).1 = 0 → v9 = ((nI ((s_pr n B u w).2))).toInt64)) (fun v9 t => AtW D (tyL cI cZ cA cL) (va_A ([oL o cL v0] ++ (wX cI cZ cA ax n B Q cn rt wd qf T)) sz) ([oL o cL v9] ++ (wX cI cZ cA ax n B Q cn rt wd qf T)) t) (va_A ([oL o cL v0] ++ (wX cI cZ cA ax n B Q cn rt wd qf T)) sz)) (fun _ _ _ => False) 3 18 (va_A ([oL o cL v0] ++ (wX cI cZ cA ax n B Q cn rt wd qf T)) sz) := by
  refine vx_ofWH (cc := cL_partner) (maxL := 5) (ret := (some .int)) (hh := [(0, 10, 13, 21), (0, 10, 17, 37)]) (by decide) rfl ?_
  intro p e s m args below meth c s₁ BL hml hv
  obtain ⟨rfl, hsz, hP, hK, hD0, hE, hNC⟩ := hv
  have hx := BL.exec
  have hb := BL.bytes
  have hr := BL.returns
  have hts := atoms_spec (ws := wsL_partner) BL.pre
  have hown : s.vm.findClass RL = some m.cls := findClass_of_methodNamed BL.named
  have hlocks := BL.notSynchronized
  have htab := vx_table (x := yL_partner) BL (hts _ List.mem_cons_self)
  subst hsz
  have hD := hD0.self (sz := s.heap.size)
  generalize hAe : va_A ([oL o cL v0] ++ (wX cI cZ cA ax n B Q cn rt wd qf T)) s.heap.size = A at hD ⊢
  have hA : ∀ q : Nat, s.heap.size ≤ q → A q := fun q h => by rw [← hAe]; exact Or.inr h
  have hS : va_S A s.heap s.heap [] := va_S.rf
  have hP : va_P D vwCl ([oL o cL v0] ++ (wX cI cZ cA ax n B Q cn rt wd qf T)) s.heap := hP
  have hD : va_D A ([oL o cL v0] ++ (wX cI cZ cA ax n B Q cn rt wd qf T)) := hD
  have hl := lv_entry ([.ref (ax 0), .int u, .int w, .ref o]) (n := 5) (Nat.le_of_ble_eq_true rfl)
  rw [lg_entry_eq]
  generalize (lg_sl ([.ref (ax 0), .int u, .int w, .ref o]) ++ List.replicate (5 - (lg_sl ([.ref (ax 0), .int u, .int w, .ref o])).length) Slot.unset).toArray = ls at hl ⊢
  have hl : lv_has ls 5 [(0, .ref (ax 0)), (1, .int u), (2, .int w), (3, .ref o)] := hl
  refine lv_aload_n hx hb dL_partner_0 rfl (lv_at hl 3 rfl) ?_
  refine lv_iconst (v := nI 0) hx hb dL_partner_1 (by decide +kernel) ?_
  refine lv_aload_n hx hb dL_partner_2 rfl (lv_at hl 0 rfl) ?_
  refine lv_iload_n hx hb dL_partner_3 rfl (lv_at hl 1 rfl) ?_
  refine lv_iload_n hx hb dL_partner_4 rfl (lv_at hl 2 rfl) ?_
  refine xl_Vi (wr := [oL o cL v0]) (As := [.int u, .int w]) (tys0 := [(cI, .int), (cZ, .boolean), (cA, .array .int)]) ⟨hx, hb, hml, hown, hts⟩ (kX1_partner l hfl D cI cZ cA ax n B Q cn rt wd qf T u w hB hQ) (cwV 2 hts gL_partner_X1_partner rfl rfl rfl hdX1_partner ⟨Nat.le_of_ble_eq_true rfl, Nat.le_of_ble_eq_true rfl⟩) hK (hK.sub [0, 1, 2] rfl) hP hE (ci := 3) rfl (q0 := 1) rfl rfl rfl hl.1 rfl (Nat.le_of_ble_eq_true rfl) dL_partner_5 ⟨Nat.le_of_ble_eq_true rfl, Nat.le_of_ble_eq_true rfl⟩ (fun E ce q9 H1 hF hz hk hce hcv hcl => ?_) (fun hc9 => ?_)
  · have hP1 := hP.kept (H1 := H1) (fun k x hx => hk x.1 ((hP k x hx).lt))
    have hS1 : va_S A s.heap H1 [] := ⟨hz, fun q h1 _ => hk q h1, fun _ h => nomatch h⟩
    rcases hF with ⟨rfl, hcd⟩ | ⟨rfl, hcd⟩
    · refine vx_catch (name := "java/lang/IndexOutOfBoundsException") hown [] ⟨0, 10, 13, 21⟩ [⟨0, 10, 17, 37⟩] (by rw [htab]; rfl) (fun z hz => nomatch hz) rfl (by decide) (hts (.classLink RL 21 "java/lang/IndexOutOfBoundsException") (by decide +kernel)) (va_Nw.use rfl (hE.2.2.1 (.castable "java/lang/IndexOutOfBoundsException" "java/lang/IndexOutOfBoundsException") (by decide +kernel))) hce hcv hcl ?_
      refine lv_astore (lv' := [(4, .ref q9), (0, .ref (ax 0)), (1, .int u), (2, .int w), (3, .ref o)]) hx hb dL_partner_13 hl (by decide) rfl (fun ls hl => ?_)
      refine lv_iconst (v := nI 1) hx hb dL_partner_15 (by decide +kernel) ?_
      refine vx_ret ?_
      refine W.widen (k := 3) (n := 18) (Nat.le_of_ble_eq_true rfl) (Nat.le_of_ble_eq_true rfl) ?_
      exact W.iret (v := nI 1) hx hb hr (fun t ht hW => ⟨⟨_, v0, rfl, ⟨by rw [hcd], fun q => absurd (hcd.symm.trans q) (by decide)⟩, by rw [ht]; exact hP1, va_K.moved hW.alike hK, hD⟩, hS1.F ht⟩) hS1.2.2 dL_partner_16
    · refine vx_catch (name := "java/util/NoSuchElementException") hown [⟨0, 10, 13, 21⟩] ⟨0, 10, 17, 37⟩ [] (by rw [htab]; rfl) (fun z hz => by simp only [List.mem_cons, List.not_mem_nil, or_false] at hz; rcases hz with rfl; exact Or.inr ⟨by decide, "java/lang/IndexOutOfBoundsException", hts (.classLink RL 21 "java/lang/IndexOutOfBoundsException") (by decide +kernel), hNC ("java/util/NoSuchElementException", "java/lang/IndexOutOfBoundsException") (by decide +kernel)⟩) rfl (by decide) (hts (.classLink RL 37 "java/util/NoSuchElementException") (by decide +kernel)) (va_Nw.use rfl (hE.2.2.1 (.castable "java/util/NoSuchElementException" "java/util/NoSuchElementException") (by decide +kernel))) hce hcv hcl ?_
      refine lv_astore (lv' := [(4, .ref q9), (0, .ref (ax 0)), (1, .int u), (2, .int w), (3, .ref o)]) hx hb dL_partner_17 hl (by decide) rfl (fun ls hl => ?_)
      refine lv_iconst (v := nI 2) hx hb dL_partner_19 (by decide +kernel) ?_
      refine vx_ret ?_
      refine W.widen (k := 3) (n := 18) (Nat.le_of_ble_eq_true rfl) (Nat.le_of_ble_eq_true rfl) ?_
      exact W.iret (v := nI 2) hx hb hr (fun t ht hW => ⟨⟨_, v0, rfl, ⟨by rw [hcd], fun q => absurd (hcd.symm.trans q) (by decide)⟩, by rw [ht]; exact hP1, va_K.moved hW.alike hK, hD⟩, hS1.F ht⟩) hS1.2.2 dL_partner_20
  refine lv_i2l (v := ((nI ((s_pr n B u w).2))).toInt64) hx hb dL_partner_8 rfl ?_
  refine va_last hx hb hK hP hD hS 0 3 rfl rfl (vp_in_nI (by decide) (by decide)) dL_partner_9 (fun H1 locs1 hP hD hS => ?_)
  refine lv_goto (tgt := 21) hx hb dL_partner_10 (by decide) ?_
  refine lv_iconst (v := nI 0) hx hb dL_partner_21 (by decide +kernel) ?_
  have e9 : (vp_updL (fun _ => v0) (nI 0).toNatClampNeg ((nI ((s_pr n B u w).2))).toInt64) = (fun _ => v0) ∨ True := Or.inr trivial
  refine vx_ret ?_
  refine W.widen (k := 3) (n := 18) (Nat.le_of_ble_eq_true rfl) (Nat.le_of_ble_eq_true rfl) ?_
  obtain ⟨hP, hD⟩ := oL_set hP hD
  exact W.iret (v := nI 0) hx hb hr (fun t ht hW => ⟨⟨_, ((nI ((s_pr n B u w).2))).toInt64, rfl, ⟨by rw [hc9], fun _ => rfl⟩, by rw [ht]; exact hP, va_K.moved hW.alike hK, hD⟩, hS.F ht⟩) hS.2.2 dL_partner_22
set_option maxHeartbeats 4000000 in
set_option maxRecDepth 100000 in
theorem kL_originMail (l : Launch) (hfl : l.stackTraces = false) (D : va_G) (cI cZ cA : ClassId) (ax : Nat → Nat) (n : Nat) (B : Nat → Nat → Nat) (Q : Nat → Option Nat) (cn : Nat → Bool) (rt : Nat → Nat) (wd : Nat → Option Nat) (qf : Nat → Option Nat) (T : Nat → Nat → Nat) (o : Nat) (cL : ClassId) (v0 : Int64) (sz : Nat) (u : Int32) (w : Int32) (hB : Bok n B) (hQ : QA n B Q) : vx_Met l yL_originMail wsL_originMail ({ frames := 9, cells := 2, slots := 12, locals := 147 }) (PcW D (tyL cI cZ cA cL) ([oL o cL v0] ++ (wX cI cZ cA ax n B Q cn rt wd qf T)) sz [.ref (ax 0), .int u, .int w, .ref o]) (va_Qi (fun (r : Int32) (v9 : Int64) => r = nI (s_orc n B u w).1 ∧ ((s_orc n B u w).1 = 0 → v9 = ((nI ((s_orc n B u w).2 / 8))).toInt64)) (fun v9 t => AtW D (tyL cI cZ cA cL) (va_A ([oL o cL v0] ++ (wX cI cZ cA ax n B Q cn rt wd qf T)) sz) ([oL o cL v9] ++ (wX cI cZ cA ax n B Q cn rt wd qf T)) t) (va_A ([oL o cL v0] ++ (wX cI cZ cA ax n B Q cn rt wd qf T)) sz)) (fun _ _ _ => False) 2 12 (va_A ([oL o cL v0] ++ (wX cI cZ cA ax n B Q cn rt wd qf T)) sz) := by
  refine vx_ofWH (cc := cL_originMail) (maxL := 5) (ret := (some .int)) (hh := [(0, 10, 13, 21)]) (by decide) rfl ?_
  intro p e s m args below meth c s₁ BL hml hv
  obtain ⟨rfl, hsz, hP, hK, hD0, hE, hNC⟩ := hv
  have hx := BL.exec
  have hb := BL.bytes
  have hr := BL.returns
  have hts := atoms_spec (ws := wsL_originMail) BL.pre
  have hown : s.vm.findClass RL = some m.cls := findClass_of_methodNamed BL.named
  have hlocks := BL.notSynchronized
  have htab := vx_table (x := yL_originMail) BL (hts _ List.mem_cons_self)
  subst hsz
  have hD := hD0.self (sz := s.heap.size)
  generalize hAe : va_A ([oL o cL v0] ++ (wX cI cZ cA ax n B Q cn rt wd qf T)) s.heap.size = A at hD ⊢
  have hA : ∀ q : Nat, s.heap.size ≤ q → A q := fun q h => by rw [← hAe]; exact Or.inr h
  have hS : va_S A s.heap s.heap [] := va_S.rf
  have hP : va_P D vwCl ([oL o cL v0] ++ (wX cI cZ cA ax n B Q cn rt wd qf T)) s.heap := hP
  have hD : va_D A ([oL o cL v0] ++ (wX cI cZ cA ax n B Q cn rt wd qf T)) := hD
  have hl := lv_entry ([.ref (ax 0), .int u, .int w, .ref o]) (n := 5) (Nat.le_of_ble_eq_true rfl)
  rw [lg_entry_eq]
  generalize (lg_sl ([.ref (ax 0), .int u, .int w, .ref o]) ++ List.replicate (5 - (lg_sl ([.ref (ax 0), .int u, .int w, .ref o])).length) Slot.unset).toArray = ls at hl ⊢
  have hl : lv_has ls 5 [(0, .ref (ax 0)), (1, .int u), (2, .int w), (3, .ref o)] := hl
  refine lv_aload_n hx hb dL_originMail_0 rfl (lv_at hl 3 rfl) ?_
  refine lv_iconst (v := nI 0) hx hb dL_originMail_1 (by decide +kernel) ?_
  refine lv_aload_n hx hb dL_originMail_2 rfl (lv_at hl 0 rfl) ?_
  refine lv_iload_n hx hb dL_originMail_3 rfl (lv_at hl 1 rfl) ?_
  refine lv_iload_n hx hb dL_originMail_4 rfl (lv_at hl 2 rfl) ?_
  refine xl_Vi (wr := [oL o cL v0]) (As := [.int u, .int w]) (tys0 := [(cI, .int), (cZ, .boolean), (cA, .array .int)]) ⟨hx, hb, hml, hown, hts⟩ (kX1_originMail l hfl D cI cZ cA ax n B Q cn rt wd qf T u w hB hQ) (cwV 2 hts gL_originMail_X1_originMail rfl rfl rfl hdX1_originMail ⟨Nat.le_of_ble_eq_true rfl, Nat.le_of_ble_eq_true rfl⟩) hK (hK.sub [0, 1, 2] rfl) hP hE (ci := 3) rfl (q0 := 1) rfl rfl rfl hl.1 rfl (Nat.le_of_ble_eq_true rfl) dL_originMail_5 ⟨Nat.le_of_ble_eq_true rfl, Nat.le_of_ble_eq_true rfl⟩ (fun E ce q9 H1 hF hz hk hce hcv hcl => ?_) (fun hc9 => ?_)
  · have hP1 := hP.kept (H1 := H1) (fun k x hx => hk x.1 ((hP k x hx).lt))
    have hS1 : va_S A s.heap H1 [] := ⟨hz, fun q h1 _ => hk q h1, fun _ h => nomatch h⟩
    rcases hF with ⟨rfl, hcd⟩
    · refine vx_catch (name := "java/lang/IndexOutOfBoundsException") hown [] ⟨0, 10, 13, 21⟩ [] (by rw [htab]; rfl) (fun z hz => nomatch hz) rfl (by decide) (hts (.classLink RL 21 "java/lang/IndexOutOfBoundsException") (by decide +kernel)) (va_Nw.use rfl (hE.2.2.1 (.castable "java/lang/IndexOutOfBoundsException" "java/lang/IndexOutOfBoundsException") (by decide +kernel))) hce hcv hcl ?_
      refine lv_astore (lv' := [(4, .ref q9), (0, .ref (ax 0)), (1, .int u), (2, .int w), (3, .ref o)]) hx hb dL_originMail_13 hl (by decide) rfl (fun ls hl => ?_)
      refine lv_iconst (v := nI 1) hx hb dL_originMail_15 (by decide +kernel) ?_
      refine vx_ret ?_
      refine W.widen (k := 2) (n := 12) (Nat.le_of_ble_eq_true rfl) (Nat.le_of_ble_eq_true rfl) ?_
      exact W.iret (v := nI 1) hx hb hr (fun t ht hW => ⟨⟨_, v0, rfl, ⟨by rw [hcd], fun q => absurd (hcd.symm.trans q) (by decide)⟩, by rw [ht]; exact hP1, va_K.moved hW.alike hK, hD⟩, hS1.F ht⟩) hS1.2.2 dL_originMail_16
  refine lv_i2l (v := ((nI ((s_orc n B u w).2 / 8))).toInt64) hx hb dL_originMail_8 rfl ?_
  refine va_last hx hb hK hP hD hS 0 3 rfl rfl (vp_in_nI (by decide) (by decide)) dL_originMail_9 (fun H1 locs1 hP hD hS => ?_)
  refine lv_goto (tgt := 17) hx hb dL_originMail_10 (by decide) ?_
  refine lv_iconst (v := nI 0) hx hb dL_originMail_17 (by decide +kernel) ?_
  have e9 : (vp_updL (fun _ => v0) (nI 0).toNatClampNeg ((nI ((s_orc n B u w).2 / 8))).toInt64) = (fun _ => v0) ∨ True := Or.inr trivial
  refine vx_ret ?_
  refine W.widen (k := 2) (n := 12) (Nat.le_of_ble_eq_true rfl) (Nat.le_of_ble_eq_true rfl) ?_
  obtain ⟨hP, hD⟩ := oL_set hP hD
  exact W.iret (v := nI 0) hx hb hr (fun t ht hW => ⟨⟨_, ((nI ((s_orc n B u w).2 / 8))).toInt64, rfl, ⟨by rw [hc9], fun _ => rfl⟩, by rw [ht]; exact hP, va_K.moved hW.alike hK, hD⟩, hS.F ht⟩) hS.2.2 dL_originMail_18
set_option maxHeartbeats 4000000 in
set_option maxRecDepth 100000 in
theorem kL_originLine (l : Launch) (hfl : l.stackTraces = false) (D : va_G) (cI cZ cA : ClassId) (ax : Nat → Nat) (n : Nat) (B : Nat → Nat → Nat) (Q : Nat → Option Nat) (cn : Nat → Bool) (rt : Nat → Nat) (wd : Nat → Option Nat) (qf : Nat → Option Nat) (T : Nat → Nat → Nat) (o : Nat) (cL : ClassId) (v0 : Int64) (sz : Nat) (u : Int32) (w : Int32) (hB : Bok n B) (hQ : QA n B Q) : vx_Met l yL_originLine wsL_originLine ({ frames := 9, cells := 2, slots := 12, locals := 147 }) (PcW D (tyL cI cZ cA cL) ([oL o cL v0] ++ (wX cI cZ cA ax n B Q cn rt wd qf T)) sz [.ref (ax 0), .int u, .int w, .ref o]) (va_Qi (fun (r : Int32) (v9 : Int64) => r = nI (s_orc n B u w).1 ∧ ((s_orc n B u w).1 = 0 → v9 = ((nI ((s_orc n B u w).2 % 8))).toInt64)) (fun v9 t => AtW D (tyL cI cZ cA cL) (va_A ([oL o cL v0] ++ (wX cI cZ cA ax n B Q cn rt wd qf T)) sz) ([oL o cL v9] ++ (wX cI cZ cA ax n B Q cn rt wd qf T)) t) (va_A ([oL o cL v0] ++ (wX cI cZ cA ax n B Q cn rt wd qf T)) sz)) (fun _ _ _ => False) 2 12 (va_A ([oL o cL v0] ++ (wX cI cZ cA ax n B Q cn rt wd qf T)) sz) := by
  refine vx_ofWH (cc := cL_originLine) (maxL := 5) (ret := (some .int)) (hh := [(0, 10, 13, 21)]) (by decide) rfl ?_
  intro p e s m args below meth c s₁ BL hml hv
  obtain ⟨rfl, hsz, hP, hK, hD0, hE, hNC⟩ := hv
  have hx := BL.exec
  have hb := BL.bytes
  have hr := BL.returns
  have hts := atoms_spec (ws := wsL_originLine) BL.pre
  have hown : s.vm.findClass RL = some m.cls := findClass_of_methodNamed BL.named
  have hlocks := BL.notSynchronized
  have htab := vx_table (x := yL_originLine) BL (hts _ List.mem_cons_self)
  subst hsz
  have hD := hD0.self (sz := s.heap.size)
  generalize hAe : va_A ([oL o cL v0] ++ (wX cI cZ cA ax n B Q cn rt wd qf T)) s.heap.size = A at hD ⊢
  have hA : ∀ q : Nat, s.heap.size ≤ q → A q := fun q h => by rw [← hAe]; exact Or.inr h
  have hS : va_S A s.heap s.heap [] := va_S.rf
  have hP : va_P D vwCl ([oL o cL v0] ++ (wX cI cZ cA ax n B Q cn rt wd qf T)) s.heap := hP
  have hD : va_D A ([oL o cL v0] ++ (wX cI cZ cA ax n B Q cn rt wd qf T)) := hD
  have hl := lv_entry ([.ref (ax 0), .int u, .int w, .ref o]) (n := 5) (Nat.le_of_ble_eq_true rfl)
  rw [lg_entry_eq]
  generalize (lg_sl ([.ref (ax 0), .int u, .int w, .ref o]) ++ List.replicate (5 - (lg_sl ([.ref (ax 0), .int u, .int w, .ref o])).length) Slot.unset).toArray = ls at hl ⊢
  have hl : lv_has ls 5 [(0, .ref (ax 0)), (1, .int u), (2, .int w), (3, .ref o)] := hl
  refine lv_aload_n hx hb dL_originLine_0 rfl (lv_at hl 3 rfl) ?_
  refine lv_iconst (v := nI 0) hx hb dL_originLine_1 (by decide +kernel) ?_
  refine lv_aload_n hx hb dL_originLine_2 rfl (lv_at hl 0 rfl) ?_
  refine lv_iload_n hx hb dL_originLine_3 rfl (lv_at hl 1 rfl) ?_
  refine lv_iload_n hx hb dL_originLine_4 rfl (lv_at hl 2 rfl) ?_
  refine xl_Vi (wr := [oL o cL v0]) (As := [.int u, .int w]) (tys0 := [(cI, .int), (cZ, .boolean), (cA, .array .int)]) ⟨hx, hb, hml, hown, hts⟩ (kX1_originLine l hfl D cI cZ cA ax n B Q cn rt wd qf T u w hB hQ) (cwV 2 hts gL_originLine_X1_originLine rfl rfl rfl hdX1_originLine ⟨Nat.le_of_ble_eq_true rfl, Nat.le_of_ble_eq_true rfl⟩) hK (hK.sub [0, 1, 2] rfl) hP hE (ci := 3) rfl (q0 := 1) rfl rfl rfl hl.1 rfl (Nat.le_of_ble_eq_true rfl) dL_originLine_5 ⟨Nat.le_of_ble_eq_true rfl, Nat.le_of_ble_eq_true rfl⟩ (fun E ce q9 H1 hF hz hk hce hcv hcl => ?_) (fun hc9 => ?_)
  · have hP1 := hP.kept (H1 := H1) (fun k x hx => hk x.1 ((hP k x hx).lt))
    have hS1 : va_S A s.heap H1 [] := ⟨hz, fun q h1 _ => hk q h1, fun _ h => nomatch h⟩
    rcases hF with ⟨rfl, hcd⟩
    · refine vx_catch (name := "java/lang/IndexOutOfBoundsException") hown [] ⟨0, 10, 13, 21⟩ [] (by rw [htab]; rfl) (fun z hz => nomatch hz) rfl (by decide) (hts (.classLink RL 21 "java/lang/IndexOutOfBoundsException") (by decide +kernel)) (va_Nw.use rfl (hE.2.2.1 (.castable "java/lang/IndexOutOfBoundsException" "java/lang/IndexOutOfBoundsException") (by decide +kernel))) hce hcv hcl ?_
      refine lv_astore (lv' := [(4, .ref q9), (0, .ref (ax 0)), (1, .int u), (2, .int w), (3, .ref o)]) hx hb dL_originLine_13 hl (by decide) rfl (fun ls hl => ?_)
      refine lv_iconst (v := nI 1) hx hb dL_originLine_15 (by decide +kernel) ?_
      refine vx_ret ?_
      refine W.widen (k := 2) (n := 12) (Nat.le_of_ble_eq_true rfl) (Nat.le_of_ble_eq_true rfl) ?_
      exact W.iret (v := nI 1) hx hb hr (fun t ht hW => ⟨⟨_, v0, rfl, ⟨by rw [hcd], fun q => absurd (hcd.symm.trans q) (by decide)⟩, by rw [ht]; exact hP1, va_K.moved hW.alike hK, hD⟩, hS1.F ht⟩) hS1.2.2 dL_originLine_16
  refine lv_i2l (v := ((nI ((s_orc n B u w).2 % 8))).toInt64) hx hb dL_originLine_8 rfl ?_
  refine va_last hx hb hK hP hD hS 0 3 rfl rfl (vp_in_nI (by decide) (by decide)) dL_originLine_9 (fun H1 locs1 hP hD hS => ?_)
  refine lv_goto (tgt := 17) hx hb dL_originLine_10 (by decide) ?_
  refine lv_iconst (v := nI 0) hx hb dL_originLine_17 (by decide +kernel) ?_
  have e9 : (vp_updL (fun _ => v0) (nI 0).toNatClampNeg ((nI ((s_orc n B u w).2 % 8))).toInt64) = (fun _ => v0) ∨ True := Or.inr trivial
  refine vx_ret ?_
  refine W.widen (k := 2) (n := 12) (Nat.le_of_ble_eq_true rfl) (Nat.le_of_ble_eq_true rfl) ?_
  obtain ⟨hP, hD⟩ := oL_set hP hD
  exact W.iret (v := nI 0) hx hb hr (fun t ht hW => ⟨⟨_, ((nI ((s_orc n B u w).2 % 8))).toInt64, rfl, ⟨by rw [hc9], fun _ => rfl⟩, by rw [ht]; exact hP, va_K.moved hW.alike hK, hD⟩, hS.F ht⟩) hS.2.2 dL_originLine_18
set_option maxHeartbeats 4000000 in
set_option maxRecDepth 100000 in
theorem kL_kind (l : Launch) (hfl : l.stackTraces = false) (D : va_G) (cI cZ cA : ClassId) (ax : Nat → Nat) (n : Nat) (B : Nat → Nat → Nat) (Q : Nat → Option Nat) (cn : Nat → Bool) (rt : Nat → Nat) (wd : Nat → Option Nat) (qf : Nat → Option Nat) (T : Nat → Nat → Nat) (o : Nat) (cL : ClassId) (v0 : Int64) (sz : Nat) (u : Int32) (w : Int32) (hB : Bok n B) (hQ : QA n B Q) : vx_Met l yL_kind wsL_kind ({ frames := 9, cells := 2, slots := 12, locals := 147 }) (PcW D (tyL cI cZ cA cL) ([oL o cL v0] ++ (wX cI cZ cA ax n B Q cn rt wd qf T)) sz [.ref (ax 0), .int u, .int w, .ref o]) (va_Qi (fun (r : Int32) (v9 : Int64) => r = nI (s_kd n B u w).1 ∧ ((s_kd n B u w).1 = 0 → v9 = ((nI ((s_kd n B u w).2))).toInt64)) (fun v9 t => AtW D (tyL cI cZ cA cL) (va_A ([oL o cL v0] ++ (wX cI cZ cA ax n B Q cn rt wd qf T)) sz) ([oL o cL v9] ++ (wX cI cZ cA ax n B Q cn rt wd qf T)) t) (va_A ([oL o cL v0] ++ (wX cI cZ cA ax n B Q cn rt wd qf T)) sz)) (fun _ _ _ => False) 2 12 (va_A ([oL o cL v0] ++ (wX cI cZ cA ax n B Q cn rt wd qf T)) sz) := by
  refine vx_ofWH (cc := cL_kind) (maxL := 5) (ret := (some .int)) (hh := [(0, 10, 13, 21)]) (by decide) rfl ?_
  intro p e s m args below meth c s₁ BL hml hv
  obtain ⟨rfl, hsz, hP, hK, hD0, hE, hNC⟩ := hv
  have hx := BL.exec
  have hb := BL.bytes
  have hr := BL.returns
  have hts := atoms_spec (ws := wsL_kind) BL.pre
  have hown : s.vm.findClass RL = some m.cls := findClass_of_methodNamed BL.named
  have hlocks := BL.notSynchronized
  have htab := vx_table (x := yL_kind) BL (hts _ List.mem_cons_self)
  subst hsz
  have hD := hD0.self (sz := s.heap.size)
  generalize hAe : va_A ([oL o cL v0] ++ (wX cI cZ cA ax n B Q cn rt wd qf T)) s.heap.size = A at hD ⊢
  have hA : ∀ q : Nat, s.heap.size ≤ q → A q := fun q h => by rw [← hAe]; exact Or.inr h
  have hS : va_S A s.heap s.heap [] := va_S.rf
  have hP : va_P D vwCl ([oL o cL v0] ++ (wX cI cZ cA ax n B Q cn rt wd qf T)) s.heap := hP
  have hD : va_D A ([oL o cL v0] ++ (wX cI cZ cA ax n B Q cn rt wd qf T)) := hD
  have hl := lv_entry ([.ref (ax 0), .int u, .int w, .ref o]) (n := 5) (Nat.le_of_ble_eq_true rfl)
  rw [lg_entry_eq]
  generalize (lg_sl ([.ref (ax 0), .int u, .int w, .ref o]) ++ List.replicate (5 - (lg_sl ([.ref (ax 0), .int u, .int w, .ref o])).length) Slot.unset).toArray = ls at hl ⊢
  have hl : lv_has ls 5 [(0, .ref (ax 0)), (1, .int u), (2, .int w), (3, .ref o)] := hl
  refine lv_aload_n hx hb dL_kind_0 rfl (lv_at hl 3 rfl) ?_
  refine lv_iconst (v := nI 0) hx hb dL_kind_1 (by decide +kernel) ?_
  refine lv_aload_n hx hb dL_kind_2 rfl (lv_at hl 0 rfl) ?_
  refine lv_iload_n hx hb dL_kind_3 rfl (lv_at hl 1 rfl) ?_
  refine lv_iload_n hx hb dL_kind_4 rfl (lv_at hl 2 rfl) ?_
  refine xl_Vi (wr := [oL o cL v0]) (As := [.int u, .int w]) (tys0 := [(cI, .int), (cZ, .boolean), (cA, .array .int)]) ⟨hx, hb, hml, hown, hts⟩ (kX1_kind l hfl D cI cZ cA ax n B Q cn rt wd qf T u w hB hQ) (cwV 2 hts gL_kind_X1_kind rfl rfl rfl hdX1_kind ⟨Nat.le_of_ble_eq_true rfl, Nat.le_of_ble_eq_true rfl⟩) hK (hK.sub [0, 1, 2] rfl) hP hE (ci := 3) rfl (q0 := 1) rfl rfl rfl hl.1 rfl (Nat.le_of_ble_eq_true rfl) dL_kind_5 ⟨Nat.le_of_ble_eq_true rfl, Nat.le_of_ble_eq_true rfl⟩ (fun E ce q9 H1 hF hz hk hce hcv hcl => ?_) (fun hc9 => ?_)
  · have hP1 := hP.kept (H1 := H1) (fun k x hx => hk x.1 ((hP k x hx).lt))
    have hS1 : va_S A s.heap H1 [] := ⟨hz, fun q h1 _ => hk q h1, fun _ h => nomatch h⟩
    rcases hF with ⟨rfl, hcd⟩
    · refine vx_catch (name := "java/lang/IndexOutOfBoundsException") hown [] ⟨0, 10, 13, 21⟩ [] (by rw [htab]; rfl) (fun z hz => nomatch hz) rfl (by decide) (hts (.classLink RL 21 "java/lang/IndexOutOfBoundsException") (by decide +kernel)) (va_Nw.use rfl (hE.2.2.1 (.castable "java/lang/IndexOutOfBoundsException" "java/lang/IndexOutOfBoundsException") (by decide +kernel))) hce hcv hcl ?_
      refine lv_astore (lv' := [(4, .ref q9), (0, .ref (ax 0)), (1, .int u), (2, .int w), (3, .ref o)]) hx hb dL_kind_13 hl (by decide) rfl (fun ls hl => ?_)
      refine lv_iconst (v := nI 1) hx hb dL_kind_15 (by decide +kernel) ?_
      refine vx_ret ?_
      refine W.widen (k := 2) (n := 12) (Nat.le_of_ble_eq_true rfl) (Nat.le_of_ble_eq_true rfl) ?_
      exact W.iret (v := nI 1) hx hb hr (fun t ht hW => ⟨⟨_, v0, rfl, ⟨by rw [hcd], fun q => absurd (hcd.symm.trans q) (by decide)⟩, by rw [ht]; exact hP1, va_K.moved hW.alike hK, hD⟩, hS1.F ht⟩) hS1.2.2 dL_kind_16
  refine lv_i2l (v := ((nI ((s_kd n B u w).2))).toInt64) hx hb dL_kind_8 rfl ?_
  refine va_last hx hb hK hP hD hS 0 3 rfl rfl (vp_in_nI (by decide) (by decide)) dL_kind_9 (fun H1 locs1 hP hD hS => ?_)
  refine lv_goto (tgt := 17) hx hb dL_kind_10 (by decide) ?_
  refine lv_iconst (v := nI 0) hx hb dL_kind_17 (by decide +kernel) ?_
  have e9 : (vp_updL (fun _ => v0) (nI 0).toNatClampNeg ((nI ((s_kd n B u w).2))).toInt64) = (fun _ => v0) ∨ True := Or.inr trivial
  refine vx_ret ?_
  refine W.widen (k := 2) (n := 12) (Nat.le_of_ble_eq_true rfl) (Nat.le_of_ble_eq_true rfl) ?_
  obtain ⟨hP, hD⟩ := oL_set hP hD
  exact W.iret (v := nI 0) hx hb hr (fun t ht hW => ⟨⟨_, ((nI ((s_kd n B u w).2))).toInt64, rfl, ⟨by rw [hc9], fun _ => rfl⟩, by rw [ht]; exact hP, va_K.moved hW.alike hK, hD⟩, hS.F ht⟩) hS.2.2 dL_kind_18
set_option maxHeartbeats 4000000 in
set_option maxRecDepth 100000 in
theorem kL_signature (l : Launch) (hfl : l.stackTraces = false) (D : va_G) (cI cZ cA : ClassId) (ax : Nat → Nat) (n : Nat) (B : Nat → Nat → Nat) (Q : Nat → Option Nat) (cn : Nat → Bool) (rt : Nat → Nat) (wd : Nat → Option Nat) (qf : Nat → Option Nat) (T : Nat → Nat → Nat) (o : Nat) (cL : ClassId) (v0 : Int64) (sz : Nat) (u : Int32) (hB : Bok n B) : vx_Met l yL_signature wsL_signature ({ frames := 8, cells := 1, slots := 6, locals := 124 }) (PcW D (tyL cI cZ cA cL) ([oL o cL v0] ++ (wX cI cZ cA ax n B Q cn rt wd qf T)) sz [.ref (ax 0), .int u, .ref o]) (va_Qi (fun (r : Int32) (v9 : Int64) => r = nI (s_sgc n B u).1 ∧ ((s_sgc n B u).1 = 0 → v9 = ((nI ((s_sgc n B u).2))).toInt64)) (fun v9 t => AtW D (tyL cI cZ cA cL) (va_A ([oL o cL v0] ++ (wX cI cZ cA ax n B Q cn rt wd qf T)) sz) ([oL o cL v9] ++ (wX cI cZ cA ax n B Q cn rt wd qf T)) t) (va_A ([oL o cL v0] ++ (wX cI cZ cA ax n B Q cn rt wd qf T)) sz)) (fun _ _ _ => False) 1 6 (va_A ([oL o cL v0] ++ (wX cI cZ cA ax n B Q cn rt wd qf T)) sz) := by
  refine vx_ofWH (cc := cL_signature) (maxL := 4) (ret := (some .int)) (hh := [(0, 9, 12, 21)]) (by decide) rfl ?_
  intro p e s m args below meth c s₁ BL hml hv
  obtain ⟨rfl, hsz, hP, hK, hD0, hE, hNC⟩ := hv
  have hx := BL.exec
  have hb := BL.bytes
  have hr := BL.returns
  have hts := atoms_spec (ws := wsL_signature) BL.pre
  have hown : s.vm.findClass RL = some m.cls := findClass_of_methodNamed BL.named
  have hlocks := BL.notSynchronized
  have htab := vx_table (x := yL_signature) BL (hts _ List.mem_cons_self)
  subst hsz
  have hD := hD0.self (sz := s.heap.size)
  generalize hAe : va_A ([oL o cL v0] ++ (wX cI cZ cA ax n B Q cn rt wd qf T)) s.heap.size = A at hD ⊢
  have hA : ∀ q : Nat, s.heap.size ≤ q → A q := fun q h => by rw [← hAe]; exact Or.inr h
  have hS : va_S A s.heap s.heap [] := va_S.rf
  have hP : va_P D vwCl ([oL o cL v0] ++ (wX cI cZ cA ax n B Q cn rt wd qf T)) s.heap := hP
  have hD : va_D A ([oL o cL v0] ++ (wX cI cZ cA ax n B Q cn rt wd qf T)) := hD
  have hl := lv_entry ([.ref (ax 0), .int u, .ref o]) (n := 4) (Nat.le_of_ble_eq_true rfl)
  rw [lg_entry_eq]
  generalize (lg_sl ([.ref (ax 0), .int u, .ref o]) ++ List.replicate (4 - (lg_sl ([.ref (ax 0), .int u, .ref o])).length) Slot.unset).toArray = ls at hl ⊢
  have hl : lv_has ls 4 [(0, .ref (ax 0)), (1, .int u), (2, .ref o)] := hl
  refine lv_aload_n hx hb dL_signature_0 rfl (lv_at hl 2 rfl) ?_
  refine lv_iconst (v := nI 0) hx hb dL_signature_1 (by decide +kernel) ?_
  refine lv_aload_n hx hb dL_signature_2 rfl (lv_at hl 0 rfl) ?_
  refine lv_iload_n hx hb dL_signature_3 rfl (lv_at hl 1 rfl) ?_
  refine xl_Vi (wr := [oL o cL v0]) (As := [.int u]) (tys0 := [(cI, .int), (cZ, .boolean), (cA, .array .int)]) ⟨hx, hb, hml, hown, hts⟩ (kX1_signature l hfl D cI cZ cA ax n B Q cn rt wd qf T u hB) (cwV 1 hts gL_signature_X1_signature rfl rfl rfl hdX1_signature ⟨Nat.le_of_ble_eq_true rfl, Nat.le_of_ble_eq_true rfl⟩) hK (hK.sub [0, 1, 2] rfl) hP hE (ci := 3) rfl (q0 := 1) rfl rfl rfl hl.1 rfl (Nat.le_of_ble_eq_true rfl) dL_signature_4 ⟨Nat.le_of_ble_eq_true rfl, Nat.le_of_ble_eq_true rfl⟩ (fun E ce q9 H1 hF hz hk hce hcv hcl => ?_) (fun hc9 => ?_)
  · have hP1 := hP.kept (H1 := H1) (fun k x hx => hk x.1 ((hP k x hx).lt))
    have hS1 : va_S A s.heap H1 [] := ⟨hz, fun q h1 _ => hk q h1, fun _ h => nomatch h⟩
    rcases hF with ⟨rfl, hcd⟩
    · refine vx_catch (name := "java/lang/IndexOutOfBoundsException") hown [] ⟨0, 9, 12, 21⟩ [] (by rw [htab]; rfl) (fun z hz => nomatch hz) rfl (by decide) (hts (.classLink RL 21 "java/lang/IndexOutOfBoundsException") (by decide +kernel)) (va_Nw.use rfl (hE.2.2.1 (.castable "java/lang/IndexOutOfBoundsException" "java/lang/IndexOutOfBoundsException") (by decide +kernel))) hce hcv hcl ?_
      refine lv_astore_n (lv' := [(3, .ref q9), (0, .ref (ax 0)), (1, .int u), (2, .ref o)]) hx hb dL_signature_12 rfl hl (by decide) rfl (fun ls hl => ?_)
      refine lv_iconst (v := nI 1) hx hb dL_signature_13 (by decide +kernel) ?_
      refine vx_ret ?_
      refine W.widen (k := 1) (n := 6) (Nat.le_of_ble_eq_true rfl) (Nat.le_of_ble_eq_true rfl) ?_
      exact W.iret (v := nI 1) hx hb hr (fun t ht hW => ⟨⟨_, v0, rfl, ⟨by rw [hcd], fun q => absurd (hcd.symm.trans q) (by decide)⟩, by rw [ht]; exact hP1, va_K.moved hW.alike hK, hD⟩, hS1.F ht⟩) hS1.2.2 dL_signature_14
  refine lv_i2l (v := ((nI ((s_sgc n B u).2))).toInt64) hx hb dL_signature_7 rfl ?_
  refine va_last hx hb hK hP hD hS 0 3 rfl rfl (vp_in_nI (by decide) (by decide)) dL_signature_8 (fun H1 locs1 hP hD hS => ?_)
  refine lv_goto (tgt := 15) hx hb dL_signature_9 (by decide) ?_
  refine lv_iconst (v := nI 0) hx hb dL_signature_15 (by decide +kernel) ?_
  have e9 : (vp_updL (fun _ => v0) (nI 0).toNatClampNeg ((nI ((s_sgc n B u).2))).toInt64) = (fun _ => v0) ∨ True := Or.inr trivial
  refine vx_ret ?_
  refine W.widen (k := 1) (n := 6) (Nat.le_of_ble_eq_true rfl) (Nat.le_of_ble_eq_true rfl) ?_
  obtain ⟨hP, hD⟩ := oL_set hP hD
  exact W.iret (v := nI 0) hx hb hr (fun t ht hW => ⟨⟨_, ((nI ((s_sgc n B u).2))).toInt64, rfl, ⟨by rw [hc9], fun _ => rfl⟩, by rw [ht]; exact hP, va_K.moved hW.alike hK, hD⟩, hS.F ht⟩) hS.2.2 dL_signature_16
set_option maxHeartbeats 4000000 in
set_option maxRecDepth 100000 in
theorem kL_answersMail (l : Launch) (hfl : l.stackTraces = false) (D : va_G) (cI cZ cA : ClassId) (ax : Nat → Nat) (n : Nat) (B : Nat → Nat → Nat) (Q : Nat → Option Nat) (cn : Nat → Bool) (rt : Nat → Nat) (wd : Nat → Option Nat) (qf : Nat → Option Nat) (T : Nat → Nat → Nat) (o : Nat) (cL : ClassId) (v0 : Int64) (sz : Nat) (u : Int32) (w : Int32) (hB : Bok n B) (hQ : QA n B Q) : vx_Met l yL_answersMail wsL_answersMail ({ frames := 9, cells := 3, slots := 18, locals := 158 }) (PcW D (tyL cI cZ cA cL) ([oL o cL v0] ++ (wX cI cZ cA ax n B Q cn rt wd qf T)) sz [.ref (ax 0), .int u, .int w, .ref o]) (va_Qi (fun (r : Int32) (v9 : Int64) => r = nI (s_ans n B u w).1 ∧ ((s_ans n B u w).1 = 0 → v9 = ((nI ((s_ans n B u w).2 / 8))).toInt64)) (fun v9 t => AtW D (tyL cI cZ cA cL) (va_A ([oL o cL v0] ++ (wX cI cZ cA ax n B Q cn rt wd qf T)) sz) ([oL o cL v9] ++ (wX cI cZ cA ax n B Q cn rt wd qf T)) t) (va_A ([oL o cL v0] ++ (wX cI cZ cA ax n B Q cn rt wd qf T)) sz)) (fun _ _ _ => False) 3 18 (va_A ([oL o cL v0] ++ (wX cI cZ cA ax n B Q cn rt wd qf T)) sz) := by
  refine vx_ofWH (cc := cL_answersMail) (maxL := 5) (ret := (some .int)) (hh := [(0, 10, 13, 21), (0, 10, 17, 64), (0, 10, 21, 37)]) (by decide) rfl ?_
  intro p e s m args below meth c s₁ BL hml hv
  obtain ⟨rfl, hsz, hP, hK, hD0, hE, hNC⟩ := hv
  have hx := BL.exec
  have hb := BL.bytes
  have hr := BL.returns
  have hts := atoms_spec (ws := wsL_answersMail) BL.pre
  have hown : s.vm.findClass RL = some m.cls := findClass_of_methodNamed BL.named
  have hlocks := BL.notSynchronized
  have htab := vx_table (x := yL_answersMail) BL (hts _ List.mem_cons_self)
  subst hsz
  have hD := hD0.self (sz := s.heap.size)
  generalize hAe : va_A ([oL o cL v0] ++ (wX cI cZ cA ax n B Q cn rt wd qf T)) s.heap.size = A at hD ⊢
  have hA : ∀ q : Nat, s.heap.size ≤ q → A q := fun q h => by rw [← hAe]; exact Or.inr h
  have hS : va_S A s.heap s.heap [] := va_S.rf
  have hP : va_P D vwCl ([oL o cL v0] ++ (wX cI cZ cA ax n B Q cn rt wd qf T)) s.heap := hP
  have hD : va_D A ([oL o cL v0] ++ (wX cI cZ cA ax n B Q cn rt wd qf T)) := hD
  have hl := lv_entry ([.ref (ax 0), .int u, .int w, .ref o]) (n := 5) (Nat.le_of_ble_eq_true rfl)
  rw [lg_entry_eq]
  generalize (lg_sl ([.ref (ax 0), .int u, .int w, .ref o]) ++ List.replicate (5 - (lg_sl ([.ref (ax 0), .int u, .int w, .ref o])).length) Slot.unset).toArray = ls at hl ⊢
  have hl : lv_has ls 5 [(0, .ref (ax 0)), (1, .int u), (2, .int w), (3, .ref o)] := hl
  refine lv_aload_n hx hb dL_answersMail_0 rfl (lv_at hl 3 rfl) ?_
  refine lv_iconst (v := nI 0) hx hb dL_answersMail_1 (by decide +kernel) ?_
  refine lv_aload_n hx hb dL_answersMail_2 rfl (lv_at hl 0 rfl) ?_
  refine lv_iload_n hx hb dL_answersMail_3 rfl (lv_at hl 1 rfl) ?_
  refine lv_iload_n hx hb dL_answersMail_4 rfl (lv_at hl 2 rfl) ?_
  refine xl_Vi (wr := [oL o cL v0]) (As := [.int u, .int w]) (tys0 := [(cI, .int), (cZ, .boolean), (cA, .array .int)]) ⟨hx, hb, hml, hown, hts⟩ (kX1_answersMail l hfl D cI cZ cA ax n B Q cn rt wd qf T u w hB hQ) (cwV 2 hts gL_answersMail_X1_answersMail rfl rfl rfl hdX1_answersMail ⟨Nat.le_of_ble_eq_true rfl, Nat.le_of_ble_eq_true rfl⟩) hK (hK.sub [0, 1, 2] rfl) hP hE (ci := 3) rfl (q0 := 1) rfl rfl rfl hl.1 rfl (Nat.le_of_ble_eq_true rfl) dL_answersMail_5 ⟨Nat.le_of_ble_eq_true rfl, Nat.le_of_ble_eq_true rfl⟩ (fun E ce q9 H1 hF hz hk hce hcv hcl => ?_) (fun hc9 => ?_)
  · have hP1 := hP.kept (H1 := H1) (fun k x hx => hk x.1 ((hP k x hx).lt))
    have hS1 : va_S A s.heap H1 [] := ⟨hz, fun q h1 _ => hk q h1, fun _ h => nomatch h⟩
    rcases hF with ⟨rfl, hcd⟩ | ⟨rfl, hcd⟩ | ⟨rfl, hcd⟩
    · refine vx_catch (name := "java/lang/IndexOutOfBoundsException") hown [] ⟨0, 10, 13, 21⟩ [⟨0, 10, 17, 64⟩, ⟨0, 10, 21, 37⟩] (by rw [htab]; rfl) (fun z hz => nomatch hz) rfl (by decide) (hts (.classLink RL 21 "java/lang/IndexOutOfBoundsException") (by decide +kernel)) (va_Nw.use rfl (hE.2.2.1 (.castable "java/lang/IndexOutOfBoundsException" "java/lang/IndexOutOfBoundsException") (by decide +kernel))) hce hcv hcl ?_
      refine lv_astore (lv' := [(4, .ref q9), (0, .ref (ax 0)), (1, .int u), (2, .int w), (3, .ref o)]) hx hb dL_answersMail_13 hl (by decide) rfl (fun ls hl => ?_)
      refine lv_iconst (v := nI 1) hx hb dL_answersMail_15 (by decide +kernel) ?_
      refine vx_ret ?_
      refine W.widen (k := 3) (n := 18) (Nat.le_of_ble_eq_true rfl) (Nat.le_of_ble_eq_true rfl) ?_
      exact W.iret (v := nI 1) hx hb hr (fun t ht hW => ⟨⟨_, v0, rfl, ⟨by rw [hcd], fun q => absurd (hcd.symm.trans q) (by decide)⟩, by rw [ht]; exact hP1, va_K.moved hW.alike hK, hD⟩, hS1.F ht⟩) hS1.2.2 dL_answersMail_16
    · refine vx_catch (name := "java/lang/UnsupportedOperationException") hown [⟨0, 10, 13, 21⟩] ⟨0, 10, 17, 64⟩ [⟨0, 10, 21, 37⟩] (by rw [htab]; rfl) (fun z hz => by simp only [List.mem_cons, List.not_mem_nil, or_false] at hz; rcases hz with rfl; exact Or.inr ⟨by decide, "java/lang/IndexOutOfBoundsException", hts (.classLink RL 21 "java/lang/IndexOutOfBoundsException") (by decide +kernel), hNC ("java/lang/UnsupportedOperationException", "java/lang/IndexOutOfBoundsException") (by decide +kernel)⟩) rfl (by decide) (hts (.classLink RL 64 "java/lang/UnsupportedOperationException") (by decide +kernel)) (va_Nw.use rfl (hE.2.2.1 (.castable "java/lang/UnsupportedOperationException" "java/lang/UnsupportedOperationException") (by decide +kernel))) hce hcv hcl ?_
      refine lv_astore (lv' := [(4, .ref q9), (0, .ref (ax 0)), (1, .int u), (2, .int w), (3, .ref o)]) hx hb dL_answersMail_17 hl (by decide) rfl (fun ls hl => ?_)
      refine lv_iconst (v := nI 2) hx hb dL_answersMail_19 (by decide +kernel) ?_
      refine vx_ret ?_
      refine W.widen (k := 3) (n := 18) (Nat.le_of_ble_eq_true rfl) (Nat.le_of_ble_eq_true rfl) ?_
      exact W.iret (v := nI 2) hx hb hr (fun t ht hW => ⟨⟨_, v0, rfl, ⟨by rw [hcd], fun q => absurd (hcd.symm.trans q) (by decide)⟩, by rw [ht]; exact hP1, va_K.moved hW.alike hK, hD⟩, hS1.F ht⟩) hS1.2.2 dL_answersMail_20
    · refine vx_catch (name := "java/util/NoSuchElementException") hown [⟨0, 10, 13, 21⟩, ⟨0, 10, 17, 64⟩] ⟨0, 10, 21, 37⟩ [] (by rw [htab]; rfl) (fun z hz => by simp only [List.mem_cons, List.not_mem_nil, or_false] at hz; rcases hz with rfl | rfl; (exact Or.inr ⟨by decide, "java/lang/IndexOutOfBoundsException", hts (.classLink RL 21 "java/lang/IndexOutOfBoundsException") (by decide +kernel), hNC ("java/util/NoSuchElementException", "java/lang/IndexOutOfBoundsException") (by decide +kernel)⟩); (exact Or.inr ⟨by decide, "java/lang/UnsupportedOperationException", hts (.classLink RL 64 "java/lang/UnsupportedOperationException") (by decide +kernel), hNC ("java/util/NoSuchElementException", "java/lang/UnsupportedOperationException") (by decide +kernel)⟩)) rfl (by decide) (hts (.classLink RL 37 "java/util/NoSuchElementException") (by decide +kernel)) (va_Nw.use rfl (hE.2.2.1 (.castable "java/util/NoSuchElementException" "java/util/NoSuchElementException") (by decide +kernel))) hce hcv hcl ?_
      refine lv_astore (lv' := [(4, .ref q9), (0, .ref (ax 0)), (1, .int u), (2, .int w), (3, .ref o)]) hx hb dL_answersMail_21 hl (by decide) rfl (fun ls hl => ?_)
      refine lv_iconst (v := nI 3) hx hb dL_answersMail_23 (by decide +kernel) ?_
      refine vx_ret ?_
      refine W.widen (k := 3) (n := 18) (Nat.le_of_ble_eq_true rfl) (Nat.le_of_ble_eq_true rfl) ?_
      exact W.iret (v := nI 3) hx hb hr (fun t ht hW => ⟨⟨_, v0, rfl, ⟨by rw [hcd], fun q => absurd (hcd.symm.trans q) (by decide)⟩, by rw [ht]; exact hP1, va_K.moved hW.alike hK, hD⟩, hS1.F ht⟩) hS1.2.2 dL_answersMail_24
  refine lv_i2l (v := ((nI ((s_ans n B u w).2 / 8))).toInt64) hx hb dL_answersMail_8 rfl ?_
  refine va_last hx hb hK hP hD hS 0 3 rfl rfl (vp_in_nI (by decide) (by decide)) dL_answersMail_9 (fun H1 locs1 hP hD hS => ?_)
  refine lv_goto (tgt := 25) hx hb dL_answersMail_10 (by decide) ?_
  refine lv_iconst (v := nI 0) hx hb dL_answersMail_25 (by decide +kernel) ?_
  have e9 : (vp_updL (fun _ => v0) (nI 0).toNatClampNeg ((nI ((s_ans n B u w).2 / 8))).toInt64) = (fun _ => v0) ∨ True := Or.inr trivial
  refine vx_ret ?_
  refine W.widen (k := 3) (n := 18) (Nat.le_of_ble_eq_true rfl) (Nat.le_of_ble_eq_true rfl) ?_
  obtain ⟨hP, hD⟩ := oL_set hP hD
  exact W.iret (v := nI 0) hx hb hr (fun t ht hW => ⟨⟨_, ((nI ((s_ans n B u w).2 / 8))).toInt64, rfl, ⟨by rw [hc9], fun _ => rfl⟩, by rw [ht]; exact hP, va_K.moved hW.alike hK, hD⟩, hS.F ht⟩) hS.2.2 dL_answersMail_26
set_option maxHeartbeats 4000000 in
set_option maxRecDepth 100000 in
theorem kL_answersLine (l : Launch) (hfl : l.stackTraces = false) (D : va_G) (cI cZ cA : ClassId) (ax : Nat → Nat) (n : Nat) (B : Nat → Nat → Nat) (Q : Nat → Option Nat) (cn : Nat → Bool) (rt : Nat → Nat) (wd : Nat → Option Nat) (qf : Nat → Option Nat) (T : Nat → Nat → Nat) (o : Nat) (cL : ClassId) (v0 : Int64) (sz : Nat) (u : Int32) (w : Int32) (hB : Bok n B) (hQ : QA n B Q) : vx_Met l yL_answersLine wsL_answersLine ({ frames := 9, cells := 3, slots := 18, locals := 158 }) (PcW D (tyL cI cZ cA cL) ([oL o cL v0] ++ (wX cI cZ cA ax n B Q cn rt wd qf T)) sz [.ref (ax 0), .int u, .int w, .ref o]) (va_Qi (fun (r : Int32) (v9 : Int64) => r = nI (s_ans n B u w).1 ∧ ((s_ans n B u w).1 = 0 → v9 = ((nI ((s_ans n B u w).2 % 8))).toInt64)) (fun v9 t => AtW D (tyL cI cZ cA cL) (va_A ([oL o cL v0] ++ (wX cI cZ cA ax n B Q cn rt wd qf T)) sz) ([oL o cL v9] ++ (wX cI cZ cA ax n B Q cn rt wd qf T)) t) (va_A ([oL o cL v0] ++ (wX cI cZ cA ax n B Q cn rt wd qf T)) sz)) (fun _ _ _ => False) 3 18 (va_A ([oL o cL v0] ++ (wX cI cZ cA ax n B Q cn rt wd qf T)) sz) := by
  refine vx_ofWH (cc := cL_answersLine) (maxL := 5) (ret := (some .int)) (hh := [(0, 10, 13, 21), (0, 10, 17, 64), (0, 10, 21, 37)]) (by decide) rfl ?_
  intro p e s m args below meth c s₁ BL hml hv
  obtain ⟨rfl, hsz, hP, hK, hD0, hE, hNC⟩ := hv
  have hx := BL.exec
  have hb := BL.bytes
  have hr := BL.returns
  have hts := atoms_spec (ws := wsL_answersLine) BL.pre
  have hown : s.vm.findClass RL = some m.cls := findClass_of_methodNamed BL.named
  have hlocks := BL.notSynchronized
  have htab := vx_table (x := yL_answersLine) BL (hts _ List.mem_cons_self)
  subst hsz
  have hD := hD0.self (sz := s.heap.size)
  generalize hAe : va_A ([oL o cL v0] ++ (wX cI cZ cA ax n B Q cn rt wd qf T)) s.heap.size = A at hD ⊢
  have hA : ∀ q : Nat, s.heap.size ≤ q → A q := fun q h => by rw [← hAe]; exact Or.inr h
  have hS : va_S A s.heap s.heap [] := va_S.rf
  have hP : va_P D vwCl ([oL o cL v0] ++ (wX cI cZ cA ax n B Q cn rt wd qf T)) s.heap := hP
  have hD : va_D A ([oL o cL v0] ++ (wX cI cZ cA ax n B Q cn rt wd qf T)) := hD
  have hl := lv_entry ([.ref (ax 0), .int u, .int w, .ref o]) (n := 5) (Nat.le_of_ble_eq_true rfl)
  rw [lg_entry_eq]
  generalize (lg_sl ([.ref (ax 0), .int u, .int w, .ref o]) ++ List.replicate (5 - (lg_sl ([.ref (ax 0), .int u, .int w, .ref o])).length) Slot.unset).toArray = ls at hl ⊢
  have hl : lv_has ls 5 [(0, .ref (ax 0)), (1, .int u), (2, .int w), (3, .ref o)] := hl
  refine lv_aload_n hx hb dL_answersLine_0 rfl (lv_at hl 3 rfl) ?_
  refine lv_iconst (v := nI 0) hx hb dL_answersLine_1 (by decide +kernel) ?_
  refine lv_aload_n hx hb dL_answersLine_2 rfl (lv_at hl 0 rfl) ?_
  refine lv_iload_n hx hb dL_answersLine_3 rfl (lv_at hl 1 rfl) ?_
  refine lv_iload_n hx hb dL_answersLine_4 rfl (lv_at hl 2 rfl) ?_
  refine xl_Vi (wr := [oL o cL v0]) (As := [.int u, .int w]) (tys0 := [(cI, .int), (cZ, .boolean), (cA, .array .int)]) ⟨hx, hb, hml, hown, hts⟩ (kX1_answersLine l hfl D cI cZ cA ax n B Q cn rt wd qf T u w hB hQ) (cwV 2 hts gL_answersLine_X1_answersLine rfl rfl rfl hdX1_answersLine ⟨Nat.le_of_ble_eq_true rfl, Nat.le_of_ble_eq_true rfl⟩) hK (hK.sub [0, 1, 2] rfl) hP hE (ci := 3) rfl (q0 := 1) rfl rfl rfl hl.1 rfl (Nat.le_of_ble_eq_true rfl) dL_answersLine_5 ⟨Nat.le_of_ble_eq_true rfl, Nat.le_of_ble_eq_true rfl⟩ (fun E ce q9 H1 hF hz hk hce hcv hcl => ?_) (fun hc9 => ?_)
  · have hP1 := hP.kept (H1 := H1) (fun k x hx => hk x.1 ((hP k x hx).lt))
    have hS1 : va_S A s.heap H1 [] := ⟨hz, fun q h1 _ => hk q h1, fun _ h => nomatch h⟩
    rcases hF with ⟨rfl, hcd⟩ | ⟨rfl, hcd⟩ | ⟨rfl, hcd⟩
    · refine vx_catch (name := "java/lang/IndexOutOfBoundsException") hown [] ⟨0, 10, 13, 21⟩ [⟨0, 10, 17, 64⟩, ⟨0, 10, 21, 37⟩] (by rw [htab]; rfl) (fun z hz => nomatch hz) rfl (by decide) (hts (.classLink RL 21 "java/lang/IndexOutOfBoundsException") (by decide +kernel)) (va_Nw.use rfl (hE.2.2.1 (.castable "java/lang/IndexOutOfBoundsException" "java/lang/IndexOutOfBoundsException") (by decide +kernel))) hce hcv hcl ?_
      refine lv_astore (lv' := [(4, .ref q9), (0, .ref (ax 0)), (1, .int u), (2, .int w), (3, .ref o)]) hx hb dL_answersLine_13 hl (by decide) rfl (fun ls hl => ?_)
      refine lv_iconst (v := nI 1) hx hb dL_answersLine_15 (by decide +kernel) ?_
      refine vx_ret ?_
      refine W.widen (k := 3) (n := 18) (Nat.le_of_ble_eq_true rfl) (Nat.le_of_ble_eq_true rfl) ?_
      exact W.iret (v := nI 1) hx hb hr (fun t ht hW => ⟨⟨_, v0, rfl, ⟨by rw [hcd], fun q => absurd (hcd.symm.trans q) (by decide)⟩, by rw [ht]; exact hP1, va_K.moved hW.alike hK, hD⟩, hS1.F ht⟩) hS1.2.2 dL_answersLine_16
    · refine vx_catch (name := "java/lang/UnsupportedOperationException") hown [⟨0, 10, 13, 21⟩] ⟨0, 10, 17, 64⟩ [⟨0, 10, 21, 37⟩] (by rw [htab]; rfl) (fun z hz => by simp only [List.mem_cons, List.not_mem_nil, or_false] at hz; rcases hz with rfl; exact Or.inr ⟨by decide, "java/lang/IndexOutOfBoundsException", hts (.classLink RL 21 "java/lang/IndexOutOfBoundsException") (by decide +kernel), hNC ("java/lang/UnsupportedOperationException", "java/lang/IndexOutOfBoundsException") (by decide +kernel)⟩) rfl (by decide) (hts (.classLink RL 64 "java/lang/UnsupportedOperationException") (by decide +kernel)) (va_Nw.use rfl (hE.2.2.1 (.castable "java/lang/UnsupportedOperationException" "java/lang/UnsupportedOperationException") (by decide +kernel))) hce hcv hcl ?_
      refine lv_astore (lv' := [(4, .ref q9), (0, .ref (ax 0)), (1, .int u), (2, .int w), (3, .ref o)]) hx hb dL_answersLine_17 hl (by decide) rfl (fun ls hl => ?_)
      refine lv_iconst (v := nI 2) hx hb dL_answersLine_19 (by decide +kernel) ?_
      refine vx_ret ?_
      refine W.widen (k := 3) (n := 18) (Nat.le_of_ble_eq_true rfl) (Nat.le_of_ble_eq_true rfl) ?_
      exact W.iret (v := nI 2) hx hb hr (fun t ht hW => ⟨⟨_, v0, rfl, ⟨by rw [hcd], fun q => absurd (hcd.symm.trans q) (by decide)⟩, by rw [ht]; exact hP1, va_K.moved hW.alike hK, hD⟩, hS1.F ht⟩) hS1.2.2 dL_answersLine_20
    · refine vx_catch (name := "java/util/NoSuchElementException") hown [⟨0, 10, 13, 21⟩, ⟨0, 10, 17, 64⟩] ⟨0, 10, 21, 37⟩ [] (by rw [htab]; rfl) (fun z hz => by simp only [List.mem_cons, List.not_mem_nil, or_false] at hz; rcases hz with rfl | rfl; (exact Or.inr ⟨by decide, "java/lang/IndexOutOfBoundsException", hts (.classLink RL 21 "java/lang/IndexOutOfBoundsException") (by decide +kernel), hNC ("java/util/NoSuchElementException", "java/lang/IndexOutOfBoundsException") (by decide +kernel)⟩); (exact Or.inr ⟨by decide, "java/lang/UnsupportedOperationException", hts (.classLink RL 64 "java/lang/UnsupportedOperationException") (by decide +kernel), hNC ("java/util/NoSuchElementException", "java/lang/UnsupportedOperationException") (by decide +kernel)⟩)) rfl (by decide) (hts (.classLink RL 37 "java/util/NoSuchElementException") (by decide +kernel)) (va_Nw.use rfl (hE.2.2.1 (.castable "java/util/NoSuchElementException" "java/util/NoSuchElementException") (by decide +kernel))) hce hcv hcl ?_
      refine lv_astore (lv' := [(4, .ref q9), (0, .ref (ax 0)), (1, .int u), (2, .int w), (3, .ref o)]) hx hb dL_answersLine_21 hl (by decide) rfl (fun ls hl => ?_)
      refine lv_iconst (v := nI 3) hx hb dL_answersLine_23 (by decide +kernel) ?_
      refine vx_ret ?_
      refine W.widen (k := 3) (n := 18) (Nat.le_of_ble_eq_true rfl) (Nat.le_of_ble_eq_true rfl) ?_
      exact W.iret (v := nI 3) hx hb hr (fun t ht hW => ⟨⟨_, v0, rfl, ⟨by rw [hcd], fun q => absurd (hcd.symm.trans q) (by decide)⟩, by rw [ht]; exact hP1, va_K.moved hW.alike hK, hD⟩, hS1.F ht⟩) hS1.2.2 dL_answersLine_24
  refine lv_i2l (v := ((nI ((s_ans n B u w).2 % 8))).toInt64) hx hb dL_answersLine_8 rfl ?_
  refine va_last hx hb hK hP hD hS 0 3 rfl rfl (vp_in_nI (by decide) (by decide)) dL_answersLine_9 (fun H1 locs1 hP hD hS => ?_)
  refine lv_goto (tgt := 25) hx hb dL_answersLine_10 (by decide) ?_
  refine lv_iconst (v := nI 0) hx hb dL_answersLine_25 (by decide +kernel) ?_
  have e9 : (vp_updL (fun _ => v0) (nI 0).toNatClampNeg ((nI ((s_ans n B u w).2 % 8))).toInt64) = (fun _ => v0) ∨ True := Or.inr trivial
  refine vx_ret ?_
  refine W.widen (k := 3) (n := 18) (Nat.le_of_ble_eq_true rfl) (Nat.le_of_ble_eq_true rfl) ?_
  obtain ⟨hP, hD⟩ := oL_set hP hD
  exact W.iret (v := nI 0) hx hb hr (fun t ht hW => ⟨⟨_, ((nI ((s_ans n B u w).2 % 8))).toInt64, rfl, ⟨by rw [hc9], fun _ => rfl⟩, by rw [ht]; exact hP, va_K.moved hW.alike hK, hD⟩, hS.F ht⟩) hS.2.2 dL_answersLine_26
set_option maxHeartbeats 4000000 in
set_option maxRecDepth 100000 in
theorem kL_answers (l : Launch) (hfl : l.stackTraces = false) (D : va_G) (cI cZ cA : ClassId) (ax : Nat → Nat) (n : Nat) (B : Nat → Nat → Nat) (Q : Nat → Option Nat) (cn : Nat → Bool) (rt : Nat → Nat) (wd : Nat → Option Nat) (qf : Nat → Option Nat) (T : Nat → Nat → Nat) (o : Nat) (cL : ClassId) (v0 : Int64) (sz : Nat) (u : Int32) (w : Int32) (hB : Bok n B) (hQ : QA n B Q) : vx_Met l yL_answers wsL_answers ({ frames := 9, cells := 2, slots := 12, locals := 150 }) (PcW D (tyL cI cZ cA cL) ([oL o cL v0] ++ (wX cI cZ cA ax n B Q cn rt wd qf T)) sz [.ref (ax 0), .int u, .int w, .ref o]) (va_Qi (fun (r : Int32) (v9 : Int64) => r = nI (s_asn n B u w).1 ∧ ((s_asn n B u w).1 = 0 → v9 = ((nI ((s_asn n B u w).2))).toInt64)) (fun v9 t => AtW D (tyL cI cZ cA cL) (va_A ([oL o cL v0] ++ (wX cI cZ cA ax n B Q cn rt wd qf T)) sz) ([oL o cL v9] ++ (wX cI cZ cA ax n B Q cn rt wd qf T)) t) (va_A ([oL o cL v0] ++ (wX cI cZ cA ax n B Q cn rt wd qf T)) sz)) (fun _ _ _ => False) 2 12 (va_A ([oL o cL v0] ++ (wX cI cZ cA ax n B Q cn rt wd qf T)) sz) := by
  refine vx_ofWH (cc := cL_answers) (maxL := 5) (ret := (some .int)) (hh := [(0, 10, 13, 21)]) (by decide) rfl ?_
  intro p e s m args below meth c s₁ BL hml hv
  obtain ⟨rfl, hsz, hP, hK, hD0, hE, hNC⟩ := hv
  have hx := BL.exec
  have hb := BL.bytes
  have hr := BL.returns
  have hts := atoms_spec (ws := wsL_answers) BL.pre
  have hown : s.vm.findClass RL = some m.cls := findClass_of_methodNamed BL.named
  have hlocks := BL.notSynchronized
  have htab := vx_table (x := yL_answers) BL (hts _ List.mem_cons_self)
  subst hsz
  have hD := hD0.self (sz := s.heap.size)
  generalize hAe : va_A ([oL o cL v0] ++ (wX cI cZ cA ax n B Q cn rt wd qf T)) s.heap.size = A at hD ⊢
  have hA : ∀ q : Nat, s.heap.size ≤ q → A q := fun q h => by rw [← hAe]; exact Or.inr h
  have hS : va_S A s.heap s.heap [] := va_S.rf
  have hP : va_P D vwCl ([oL o cL v0] ++ (wX cI cZ cA ax n B Q cn rt wd qf T)) s.heap := hP
  have hD : va_D A ([oL o cL v0] ++ (wX cI cZ cA ax n B Q cn rt wd qf T)) := hD
  have hl := lv_entry ([.ref (ax 0), .int u, .int w, .ref o]) (n := 5) (Nat.le_of_ble_eq_true rfl)
  rw [lg_entry_eq]
  generalize (lg_sl ([.ref (ax 0), .int u, .int w, .ref o]) ++ List.replicate (5 - (lg_sl ([.ref (ax 0), .int u, .int w, .ref o])).length) Slot.unset).toArray = ls at hl ⊢
  have hl : lv_has ls 5 [(0, .ref (ax 0)), (1, .int u), (2, .int w), (3, .ref o)] := hl
  refine lv_aload_n hx hb dL_answers_0 rfl (lv_at hl 3 rfl) ?_
  refine lv_iconst (v := nI 0) hx hb dL_answers_1 (by decide +kernel) ?_
  refine lv_aload_n hx hb dL_answers_2 rfl (lv_at hl 0 rfl) ?_
  refine lv_iload_n hx hb dL_answers_3 rfl (lv_at hl 1 rfl) ?_
  refine lv_iload_n hx hb dL_answers_4 rfl (lv_at hl 2 rfl) ?_
  refine xl_Vi (wr := [oL o cL v0]) (As := [.int u, .int w]) (tys0 := [(cI, .int), (cZ, .boolean), (cA, .array .int)]) ⟨hx, hb, hml, hown, hts⟩ (kX1_answers l hfl D cI cZ cA ax n B Q cn rt wd qf T u w hB hQ) (cwV 2 hts gL_answers_X1_answers rfl rfl rfl hdX1_answers ⟨Nat.le_of_ble_eq_true rfl, Nat.le_of_ble_eq_true rfl⟩) hK (hK.sub [0, 1, 2] rfl) hP hE (ci := 3) rfl (q0 := 1) rfl rfl rfl hl.1 rfl (Nat.le_of_ble_eq_true rfl) dL_answers_5 ⟨Nat.le_of_ble_eq_true rfl, Nat.le_of_ble_eq_true rfl⟩ (fun E ce q9 H1 hF hz hk hce hcv hcl => ?_) (fun hc9 => ?_)
  · have hP1 := hP.kept (H1 := H1) (fun k x hx => hk x.1 ((hP k x hx).lt))
    have hS1 : va_S A s.heap H1 [] := ⟨hz, fun q h1 _ => hk q h1, fun _ h => nomatch h⟩
    rcases hF with ⟨rfl, hcd⟩
    · refine vx_catch (name := "java/lang/IndexOutOfBoundsException") hown [] ⟨0, 10, 13, 21⟩ [] (by rw [htab]; rfl) (fun z hz => nomatch hz) rfl (by decide) (hts (.classLink RL 21 "java/lang/IndexOutOfBoundsException") (by decide +kernel)) (va_Nw.use rfl (hE.2.2.1 (.castable "java/lang/IndexOutOfBoundsException" "java/lang/IndexOutOfBoundsException") (by decide +kernel))) hce hcv hcl ?_
      refine lv_astore (lv' := [(4, .ref q9), (0, .ref (ax 0)), (1, .int u), (2, .int w), (3, .ref o)]) hx hb dL_answers_13 hl (by decide) rfl (fun ls hl => ?_)
      refine lv_iconst (v := nI 1) hx hb dL_answers_15 (by decide +kernel) ?_
      refine vx_ret ?_
      refine W.widen (k := 2) (n := 12) (Nat.le_of_ble_eq_true rfl) (Nat.le_of_ble_eq_true rfl) ?_
      exact W.iret (v := nI 1) hx hb hr (fun t ht hW => ⟨⟨_, v0, rfl, ⟨by rw [hcd], fun q => absurd (hcd.symm.trans q) (by decide)⟩, by rw [ht]; exact hP1, va_K.moved hW.alike hK, hD⟩, hS1.F ht⟩) hS1.2.2 dL_answers_16
  refine lv_i2l (v := ((nI ((s_asn n B u w).2))).toInt64) hx hb dL_answers_8 rfl ?_
  refine va_last hx hb hK hP hD hS 0 3 rfl rfl (vp_in_nI (by decide) (by decide)) dL_answers_9 (fun H1 locs1 hP hD hS => ?_)
  refine lv_goto (tgt := 17) hx hb dL_answers_10 (by decide) ?_
  refine lv_iconst (v := nI 0) hx hb dL_answers_17 (by decide +kernel) ?_
  have e9 : (vp_updL (fun _ => v0) (nI 0).toNatClampNeg ((nI ((s_asn n B u w).2))).toInt64) = (fun _ => v0) ∨ True := Or.inr trivial
  refine vx_ret ?_
  refine W.widen (k := 2) (n := 12) (Nat.le_of_ble_eq_true rfl) (Nat.le_of_ble_eq_true rfl) ?_
  obtain ⟨hP, hD⟩ := oL_set hP hD
  exact W.iret (v := nI 0) hx hb hr (fun t ht hW => ⟨⟨_, ((nI ((s_asn n B u w).2))).toInt64, rfl, ⟨by rw [hc9], fun _ => rfl⟩, by rw [ht]; exact hP, va_K.moved hW.alike hK, hD⟩, hS.F ht⟩) hS.2.2 dL_answers_18
set_option maxHeartbeats 4000000 in
set_option maxRecDepth 100000 in
theorem kL_copies (l : Launch) (hfl : l.stackTraces = false) (D : va_G) (cI cZ cA : ClassId) (ax : Nat → Nat) (n : Nat) (B : Nat → Nat → Nat) (Q : Nat → Option Nat) (cn : Nat → Bool) (rt : Nat → Nat) (wd : Nat → Option Nat) (qf : Nat → Option Nat) (T : Nat → Nat → Nat) (o : Nat) (cL : ClassId) (v0 : Int64) (sz : Nat) (u : Int32) (w : Int32) (hB : Bok n B) (hQ : QA n B Q) : vx_Met l yL_copies wsL_copies ({ frames := 9, cells := 3, slots := 18, locals := 150 }) (PcW D (tyL cI cZ cA cL) ([oL o cL v0] ++ (wX cI cZ cA ax n B Q cn rt wd qf T)) sz [.ref (ax 0), .int u, .int w, .ref o]) (va_Qi (fun (r : Int32) (v9 : Int64) => r = nI (s_cop n B u w).1 ∧ ((s_cop n B u w).1 = 0 → v9 = ((nI ((s_cop n B u w).2))).toInt64)) (fun v9 t => AtW D (tyL cI cZ cA cL) (va_A ([oL o cL v0] ++ (wX cI cZ cA ax n B Q cn rt wd qf T)) sz) ([oL o cL v9] ++ (wX cI cZ cA ax n B Q cn rt wd qf T)) t) (va_A ([oL o cL v0] ++ (wX cI cZ cA ax n B Q cn rt wd qf T)) sz)) (fun _ _ _ => False) 3 18 (va_A ([oL o cL v0] ++ (wX cI cZ cA ax n B Q cn rt wd qf T)) sz) := by
  refine vx_ofWH (cc := cL_copies) (maxL := 5) (ret := (some .int)) (hh := [(0, 10, 13, 21), (0, 10, 17, 64)]) (by decide) rfl ?_
  intro p e s m args below meth c s₁ BL hml hv
  obtain ⟨rfl, hsz, hP, hK, hD0, hE, hNC⟩ := hv
  have hx := BL.exec
  have hb := BL.bytes
  have hr := BL.returns
  have hts := atoms_spec (ws := wsL_copies) BL.pre
  have hown : s.vm.findClass RL = some m.cls := findClass_of_methodNamed BL.named
  have hlocks := BL.notSynchronized
  have htab := vx_table (x := yL_copies) BL (hts _ List.mem_cons_self)
  subst hsz
  have hD := hD0.self (sz := s.heap.size)
  generalize hAe : va_A ([oL o cL v0] ++ (wX cI cZ cA ax n B Q cn rt wd qf T)) s.heap.size = A at hD ⊢
  have hA : ∀ q : Nat, s.heap.size ≤ q → A q := fun q h => by rw [← hAe]; exact Or.inr h
  have hS : va_S A s.heap s.heap [] := va_S.rf
  have hP : va_P D vwCl ([oL o cL v0] ++ (wX cI cZ cA ax n B Q cn rt wd qf T)) s.heap := hP
  have hD : va_D A ([oL o cL v0] ++ (wX cI cZ cA ax n B Q cn rt wd qf T)) := hD
  have hl := lv_entry ([.ref (ax 0), .int u, .int w, .ref o]) (n := 5) (Nat.le_of_ble_eq_true rfl)
  rw [lg_entry_eq]
  generalize (lg_sl ([.ref (ax 0), .int u, .int w, .ref o]) ++ List.replicate (5 - (lg_sl ([.ref (ax 0), .int u, .int w, .ref o])).length) Slot.unset).toArray = ls at hl ⊢
  have hl : lv_has ls 5 [(0, .ref (ax 0)), (1, .int u), (2, .int w), (3, .ref o)] := hl
  refine lv_aload_n hx hb dL_copies_0 rfl (lv_at hl 3 rfl) ?_
  refine lv_iconst (v := nI 0) hx hb dL_copies_1 (by decide +kernel) ?_
  refine lv_aload_n hx hb dL_copies_2 rfl (lv_at hl 0 rfl) ?_
  refine lv_iload_n hx hb dL_copies_3 rfl (lv_at hl 1 rfl) ?_
  refine lv_iload_n hx hb dL_copies_4 rfl (lv_at hl 2 rfl) ?_
  refine xl_Vi (wr := [oL o cL v0]) (As := [.int u, .int w]) (tys0 := [(cI, .int), (cZ, .boolean), (cA, .array .int)]) ⟨hx, hb, hml, hown, hts⟩ (kX1_copies l hfl D cI cZ cA ax n B Q cn rt wd qf T u w hB hQ) (cwV 2 hts gL_copies_X1_copies rfl rfl rfl hdX1_copies ⟨Nat.le_of_ble_eq_true rfl, Nat.le_of_ble_eq_true rfl⟩) hK (hK.sub [0, 1, 2] rfl) hP hE (ci := 3) rfl (q0 := 1) rfl rfl rfl hl.1 rfl (Nat.le_of_ble_eq_true rfl) dL_copies_5 ⟨Nat.le_of_ble_eq_true rfl, Nat.le_of_ble_eq_true rfl⟩ (fun E ce q9 H1 hF hz hk hce hcv hcl => ?_) (fun hc9 => ?_)
  · have hP1 := hP.kept (H1 := H1) (fun k x hx => hk x.1 ((hP k x hx).lt))
    have hS1 : va_S A s.heap H1 [] := ⟨hz, fun q h1 _ => hk q h1, fun _ h => nomatch h⟩
    rcases hF with ⟨rfl, hcd⟩ | ⟨rfl, hcd⟩
    · refine vx_catch (name := "java/lang/IndexOutOfBoundsException") hown [] ⟨0, 10, 13, 21⟩ [⟨0, 10, 17, 64⟩] (by rw [htab]; rfl) (fun z hz => nomatch hz) rfl (by decide) (hts (.classLink RL 21 "java/lang/IndexOutOfBoundsException") (by decide +kernel)) (va_Nw.use rfl (hE.2.2.1 (.castable "java/lang/IndexOutOfBoundsException" "java/lang/IndexOutOfBoundsException") (by decide +kernel))) hce hcv hcl ?_
      refine lv_astore (lv' := [(4, .ref q9), (0, .ref (ax 0)), (1, .int u), (2, .int w), (3, .ref o)]) hx hb dL_copies_13 hl (by decide) rfl (fun ls hl => ?_)
      refine lv_iconst (v := nI 1) hx hb dL_copies_15 (by decide +kernel) ?_
      refine vx_ret ?_
      refine W.widen (k := 3) (n := 18) (Nat.le_of_ble_eq_true rfl) (Nat.le_of_ble_eq_true rfl) ?_
      exact W.iret (v := nI 1) hx hb hr (fun t ht hW => ⟨⟨_, v0, rfl, ⟨by rw [hcd], fun q => absurd (hcd.symm.trans q) (by decide)⟩, by rw [ht]; exact hP1, va_K.moved hW.alike hK, hD⟩, hS1.F ht⟩) hS1.2.2 dL_copies_16
    · refine vx_catch (name := "java/lang/UnsupportedOperationException") hown [⟨0, 10, 13, 21⟩] ⟨0, 10, 17, 64⟩ [] (by rw [htab]; rfl) (fun z hz => by simp only [List.mem_cons, List.not_mem_nil, or_false] at hz; rcases hz with rfl; exact Or.inr ⟨by decide, "java/lang/IndexOutOfBoundsException", hts (.classLink RL 21 "java/lang/IndexOutOfBoundsException") (by decide +kernel), hNC ("java/lang/UnsupportedOperationException", "java/lang/IndexOutOfBoundsException") (by decide +kernel)⟩) rfl (by decide) (hts (.classLink RL 64 "java/lang/UnsupportedOperationException") (by decide +kernel)) (va_Nw.use rfl (hE.2.2.1 (.castable "java/lang/UnsupportedOperationException" "java/lang/UnsupportedOperationException") (by decide +kernel))) hce hcv hcl ?_
      refine lv_astore (lv' := [(4, .ref q9), (0, .ref (ax 0)), (1, .int u), (2, .int w), (3, .ref o)]) hx hb dL_copies_17 hl (by decide) rfl (fun ls hl => ?_)
      refine lv_iconst (v := nI 2) hx hb dL_copies_19 (by decide +kernel) ?_
      refine vx_ret ?_
      refine W.widen (k := 3) (n := 18) (Nat.le_of_ble_eq_true rfl) (Nat.le_of_ble_eq_true rfl) ?_
      exact W.iret (v := nI 2) hx hb hr (fun t ht hW => ⟨⟨_, v0, rfl, ⟨by rw [hcd], fun q => absurd (hcd.symm.trans q) (by decide)⟩, by rw [ht]; exact hP1, va_K.moved hW.alike hK, hD⟩, hS1.F ht⟩) hS1.2.2 dL_copies_20
  refine lv_i2l (v := ((nI ((s_cop n B u w).2))).toInt64) hx hb dL_copies_8 rfl ?_
  refine va_last hx hb hK hP hD hS 0 3 rfl rfl (vp_in_nI (by decide) (by decide)) dL_copies_9 (fun H1 locs1 hP hD hS => ?_)
  refine lv_goto (tgt := 21) hx hb dL_copies_10 (by decide) ?_
  refine lv_iconst (v := nI 0) hx hb dL_copies_21 (by decide +kernel) ?_
  have e9 : (vp_updL (fun _ => v0) (nI 0).toNatClampNeg ((nI ((s_cop n B u w).2))).toInt64) = (fun _ => v0) ∨ True := Or.inr trivial
  refine vx_ret ?_
  refine W.widen (k := 3) (n := 18) (Nat.le_of_ble_eq_true rfl) (Nat.le_of_ble_eq_true rfl) ?_
  obtain ⟨hP, hD⟩ := oL_set hP hD
  exact W.iret (v := nI 0) hx hb hr (fun t ht hW => ⟨⟨_, ((nI ((s_cop n B u w).2))).toInt64, rfl, ⟨by rw [hc9], fun _ => rfl⟩, by rw [ht]; exact hP, va_K.moved hW.alike hK, hD⟩, hS.F ht⟩) hS.2.2 dL_copies_22
set_option maxHeartbeats 4000000 in
set_option maxRecDepth 100000 in
theorem kL_root (l : Launch) (hfl : l.stackTraces = false) (D : va_G) (cI cZ cA : ClassId) (ax : Nat → Nat) (n : Nat) (B : Nat → Nat → Nat) (Q : Nat → Option Nat) (cn : Nat → Bool) (rt : Nat → Nat) (wd : Nat → Option Nat) (qf : Nat → Option Nat) (T : Nat → Nat → Nat) (o : Nat) (cL : ClassId) (v0 : Int64) (sz : Nat) (u : Int32) (hB : Bok n B) : vx_Met l yL_root wsL_root ({ frames := 8, cells := 1, slots := 6, locals := 124 }) (PcW D (tyL cI cZ cA cL) ([oL o cL v0] ++ (wX cI cZ cA ax n B Q cn rt wd qf T)) sz [.ref (ax 0), .int u, .ref o]) (va_Qi (fun (r : Int32) (v9 : Int64) => r = nI (s_rtc n B u).1 ∧ ((s_rtc n B u).1 = 0 → v9 = ((nI ((s_rtc n B u).2))).toInt64)) (fun v9 t => AtW D (tyL cI cZ cA cL) (va_A ([oL o cL v0] ++ (wX cI cZ cA ax n B Q cn rt wd qf T)) sz) ([oL o cL v9] ++ (wX cI cZ cA ax n B Q cn rt wd qf T)) t) (va_A ([oL o cL v0] ++ (wX cI cZ cA ax n B Q cn rt wd qf T)) sz)) (fun _ _ _ => False) 1 6 (va_A ([oL o cL v0] ++ (wX cI cZ cA ax n B Q cn rt wd qf T)) sz) := by
  refine vx_ofWH (cc := cL_root) (maxL := 4) (ret := (some .int)) (hh := [(0, 9, 12, 21)]) (by decide) rfl ?_
  intro p e s m args below meth c s₁ BL hml hv
  obtain ⟨rfl, hsz, hP, hK, hD0, hE, hNC⟩ := hv
  have hx := BL.exec
  have hb := BL.bytes
  have hr := BL.returns
  have hts := atoms_spec (ws := wsL_root) BL.pre
  have hown : s.vm.findClass RL = some m.cls := findClass_of_methodNamed BL.named
  have hlocks := BL.notSynchronized
  have htab := vx_table (x := yL_root) BL (hts _ List.mem_cons_self)
  subst hsz
  have hD := hD0.self (sz := s.heap.size)
  generalize hAe : va_A ([oL o cL v0] ++ (wX cI cZ cA ax n B Q cn rt wd qf T)) s.heap.size = A at hD ⊢
  have hA : ∀ q : Nat, s.heap.size ≤ q → A q := fun q h => by rw [← hAe]; exact Or.inr h
  have hS : va_S A s.heap s.heap [] := va_S.rf
  have hP : va_P D vwCl ([oL o cL v0] ++ (wX cI cZ cA ax n B Q cn rt wd qf T)) s.heap := hP
  have hD : va_D A ([oL o cL v0] ++ (wX cI cZ cA ax n B Q cn rt wd qf T)) := hD
  have hl := lv_entry ([.ref (ax 0), .int u, .ref o]) (n := 4) (Nat.le_of_ble_eq_true rfl)
  rw [lg_entry_eq]
  generalize (lg_sl ([.ref (ax 0), .int u, .ref o]) ++ List.replicate (4 - (lg_sl ([.ref (ax 0), .int u, .ref o])).length) Slot.unset).toArray = ls at hl ⊢
  have hl : lv_has ls 4 [(0, .ref (ax 0)), (1, .int u), (2, .ref o)] := hl
  refine lv_aload_n hx hb dL_root_0 rfl (lv_at hl 2 rfl) ?_
  refine lv_iconst (v := nI 0) hx hb dL_root_1 (by decide +kernel) ?_
  refine lv_aload_n hx hb dL_root_2 rfl (lv_at hl 0 rfl) ?_
  refine lv_iload_n hx hb dL_root_3 rfl (lv_at hl 1 rfl) ?_
  refine xl_Vi (wr := [oL o cL v0]) (As := [.int u]) (tys0 := [(cI, .int), (cZ, .boolean), (cA, .array .int)]) ⟨hx, hb, hml, hown, hts⟩ (kX1_root l hfl D cI cZ cA ax n B Q cn rt wd qf T u hB) (cwV 1 hts gL_root_X1_root rfl rfl rfl hdX1_root ⟨Nat.le_of_ble_eq_true rfl, Nat.le_of_ble_eq_true rfl⟩) hK (hK.sub [0, 1, 2] rfl) hP hE (ci := 3) rfl (q0 := 1) rfl rfl rfl hl.1 rfl (Nat.le_of_ble_eq_true rfl) dL_root_4 ⟨Nat.le_of_ble_eq_true rfl, Nat.le_of_ble_eq_true rfl⟩ (fun E ce q9 H1 hF hz hk hce hcv hcl => ?_) (fun hc9 => ?_)
  · have hP1 := hP.kept (H1 := H1) (fun k x hx => hk x.1 ((hP k x hx).lt))
    have hS1 : va_S A s.heap H1 [] := ⟨hz, fun q h1 _ => hk q h1, fun _ h => nomatch h⟩
    rcases hF with ⟨rfl, hcd⟩
    · refine vx_catch (name := "java/lang/IndexOutOfBoundsException") hown [] ⟨0, 9, 12, 21⟩ [] (by rw [htab]; rfl) (fun z hz => nomatch hz) rfl (by decide) (hts (.classLink RL 21 "java/lang/IndexOutOfBoundsException") (by decide +kernel)) (va_Nw.use rfl (hE.2.2.1 (.castable "java/lang/IndexOutOfBoundsException" "java/lang/IndexOutOfBoundsException") (by decide +kernel))) hce hcv hcl ?_
      refine lv_astore_n (lv' := [(3, .ref q9), (0, .ref (ax 0)), (1, .int u), (2, .ref o)]) hx hb dL_root_12 rfl hl (by decide) rfl (fun ls hl => ?_)
      refine lv_iconst (v := nI 1) hx hb dL_root_13 (by decide +kernel) ?_
      refine vx_ret ?_
      refine W.widen (k := 1) (n := 6) (Nat.le_of_ble_eq_true rfl) (Nat.le_of_ble_eq_true rfl) ?_
      exact W.iret (v := nI 1) hx hb hr (fun t ht hW => ⟨⟨_, v0, rfl, ⟨by rw [hcd], fun q => absurd (hcd.symm.trans q) (by decide)⟩, by rw [ht]; exact hP1, va_K.moved hW.alike hK, hD⟩, hS1.F ht⟩) hS1.2.2 dL_root_14
  refine lv_i2l (v := ((nI ((s_rtc n B u).2))).toInt64) hx hb dL_root_7 rfl ?_
  refine va_last hx hb hK hP hD hS 0 3 rfl rfl (vp_in_nI (by decide) (by decide)) dL_root_8 (fun H1 locs1 hP hD hS => ?_)
  refine lv_goto (tgt := 15) hx hb dL_root_9 (by decide) ?_
  refine lv_iconst (v := nI 0) hx hb dL_root_15 (by decide +kernel) ?_
  have e9 : (vp_updL (fun _ => v0) (nI 0).toNatClampNeg ((nI ((s_rtc n B u).2))).toInt64) = (fun _ => v0) ∨ True := Or.inr trivial
  refine vx_ret ?_
  refine W.widen (k := 1) (n := 6) (Nat.le_of_ble_eq_true rfl) (Nat.le_of_ble_eq_true rfl) ?_
  obtain ⟨hP, hD⟩ := oL_set hP hD
  exact W.iret (v := nI 0) hx hb hr (fun t ht hW => ⟨⟨_, ((nI ((s_rtc n B u).2))).toInt64, rfl, ⟨by rw [hc9], fun _ => rfl⟩, by rw [ht]; exact hP, va_K.moved hW.alike hK, hD⟩, hS.F ht⟩) hS.2.2 dL_root_16
set_option maxHeartbeats 4000000 in
set_option maxRecDepth 100000 in
theorem kL_size (l : Launch) (hfl : l.stackTraces = false) (D : va_G) (cI cZ cA : ClassId) (ax : Nat → Nat) (n : Nat) (B : Nat → Nat → Nat) (Q : Nat → Option Nat) (cn : Nat → Bool) (rt : Nat → Nat) (wd : Nat → Option Nat) (qf : Nat → Option Nat) (T : Nat → Nat → Nat) (o : Nat) (cL : ClassId) (v0 : Int64) (sz : Nat) (u : Int32) (hB : Bok n B) : vx_Met l yL_size wsL_size ({ frames := 8, cells := 1, slots := 6, locals := 127 }) (PcW D (tyL cI cZ cA cL) ([oL o cL v0] ++ (wX cI cZ cA ax n B Q cn rt wd qf T)) sz [.ref (ax 0), .int u, .ref o]) (va_Qi (fun (r : Int32) (v9 : Int64) => r = nI (s_sz n B u).1 ∧ ((s_sz n B u).1 = 0 → v9 = ((nI ((s_sz n B u).2))).toInt64)) (fun v9 t => AtW D (tyL cI cZ cA cL) (va_A ([oL o cL v0] ++ (wX cI cZ cA ax n B Q cn rt wd qf T)) sz) ([oL o cL v9] ++ (wX cI cZ cA ax n B Q cn rt wd qf T)) t) (va_A ([oL o cL v0] ++ (wX cI cZ cA ax n B Q cn rt wd qf T)) sz)) (fun _ _ _ => False) 1 6 (va_A ([oL o cL v0] ++ (wX cI cZ cA ax n B Q cn rt wd qf T)) sz) := by
  refine vx_ofWH (cc := cL_size) (maxL := 4) (ret := (some .int)) (hh := [(0, 9, 12, 21)]) (by decide) rfl ?_
  intro p e s m args below meth c s₁ BL hml hv
  obtain ⟨rfl, hsz, hP, hK, hD0, hE, hNC⟩ := hv
  have hx := BL.exec
  have hb := BL.bytes
  have hr := BL.returns
  have hts := atoms_spec (ws := wsL_size) BL.pre
  have hown : s.vm.findClass RL = some m.cls := findClass_of_methodNamed BL.named
  have hlocks := BL.notSynchronized
  have htab := vx_table (x := yL_size) BL (hts _ List.mem_cons_self)
  subst hsz
  have hD := hD0.self (sz := s.heap.size)
  generalize hAe : va_A ([oL o cL v0] ++ (wX cI cZ cA ax n B Q cn rt wd qf T)) s.heap.size = A at hD ⊢
  have hA : ∀ q : Nat, s.heap.size ≤ q → A q := fun q h => by rw [← hAe]; exact Or.inr h
  have hS : va_S A s.heap s.heap [] := va_S.rf
  have hP : va_P D vwCl ([oL o cL v0] ++ (wX cI cZ cA ax n B Q cn rt wd qf T)) s.heap := hP
  have hD : va_D A ([oL o cL v0] ++ (wX cI cZ cA ax n B Q cn rt wd qf T)) := hD
  have hl := lv_entry ([.ref (ax 0), .int u, .ref o]) (n := 4) (Nat.le_of_ble_eq_true rfl)
  rw [lg_entry_eq]
  generalize (lg_sl ([.ref (ax 0), .int u, .ref o]) ++ List.replicate (4 - (lg_sl ([.ref (ax 0), .int u, .ref o])).length) Slot.unset).toArray = ls at hl ⊢
  have hl : lv_has ls 4 [(0, .ref (ax 0)), (1, .int u), (2, .ref o)] := hl
  refine lv_aload_n hx hb dL_size_0 rfl (lv_at hl 2 rfl) ?_
  refine lv_iconst (v := nI 0) hx hb dL_size_1 (by decide +kernel) ?_
  refine lv_aload_n hx hb dL_size_2 rfl (lv_at hl 0 rfl) ?_
  refine lv_iload_n hx hb dL_size_3 rfl (lv_at hl 1 rfl) ?_
  refine xl_Vi (wr := [oL o cL v0]) (As := [.int u]) (tys0 := [(cI, .int), (cZ, .boolean), (cA, .array .int)]) ⟨hx, hb, hml, hown, hts⟩ (kX1_size l hfl D cI cZ cA ax n B Q cn rt wd qf T u hB) (cwV 1 hts gL_size_X1_size rfl rfl rfl hdX1_size ⟨Nat.le_of_ble_eq_true rfl, Nat.le_of_ble_eq_true rfl⟩) hK (hK.sub [0, 1, 2] rfl) hP hE (ci := 3) rfl (q0 := 1) rfl rfl rfl hl.1 rfl (Nat.le_of_ble_eq_true rfl) dL_size_4 ⟨Nat.le_of_ble_eq_true rfl, Nat.le_of_ble_eq_true rfl⟩ (fun E ce q9 H1 hF hz hk hce hcv hcl => ?_) (fun hc9 => ?_)
  · have hP1 := hP.kept (H1 := H1) (fun k x hx => hk x.1 ((hP k x hx).lt))
    have hS1 : va_S A s.heap H1 [] := ⟨hz, fun q h1 _ => hk q h1, fun _ h => nomatch h⟩
    rcases hF with ⟨rfl, hcd⟩
    · refine vx_catch (name := "java/lang/IndexOutOfBoundsException") hown [] ⟨0, 9, 12, 21⟩ [] (by rw [htab]; rfl) (fun z hz => nomatch hz) rfl (by decide) (hts (.classLink RL 21 "java/lang/IndexOutOfBoundsException") (by decide +kernel)) (va_Nw.use rfl (hE.2.2.1 (.castable "java/lang/IndexOutOfBoundsException" "java/lang/IndexOutOfBoundsException") (by decide +kernel))) hce hcv hcl ?_
      refine lv_astore_n (lv' := [(3, .ref q9), (0, .ref (ax 0)), (1, .int u), (2, .ref o)]) hx hb dL_size_12 rfl hl (by decide) rfl (fun ls hl => ?_)
      refine lv_iconst (v := nI 1) hx hb dL_size_13 (by decide +kernel) ?_
      refine vx_ret ?_
      refine W.widen (k := 1) (n := 6) (Nat.le_of_ble_eq_true rfl) (Nat.le_of_ble_eq_true rfl) ?_
      exact W.iret (v := nI 1) hx hb hr (fun t ht hW => ⟨⟨_, v0, rfl, ⟨by rw [hcd], fun q => absurd (hcd.symm.trans q) (by decide)⟩, by rw [ht]; exact hP1, va_K.moved hW.alike hK, hD⟩, hS1.F ht⟩) hS1.2.2 dL_size_14
  refine lv_i2l (v := ((nI ((s_sz n B u).2))).toInt64) hx hb dL_size_7 rfl ?_
  refine va_last hx hb hK hP hD hS 0 3 rfl rfl (vp_in_nI (by decide) (by decide)) dL_size_8 (fun H1 locs1 hP hD hS => ?_)
  refine lv_goto (tgt := 15) hx hb dL_size_9 (by decide) ?_
  refine lv_iconst (v := nI 0) hx hb dL_size_15 (by decide +kernel) ?_
  have e9 : (vp_updL (fun _ => v0) (nI 0).toNatClampNeg ((nI ((s_sz n B u).2))).toInt64) = (fun _ => v0) ∨ True := Or.inr trivial
  refine vx_ret ?_
  refine W.widen (k := 1) (n := 6) (Nat.le_of_ble_eq_true rfl) (Nat.le_of_ble_eq_true rfl) ?_
  obtain ⟨hP, hD⟩ := oL_set hP hD
  exact W.iret (v := nI 0) hx hb hr (fun t ht hW => ⟨⟨_, ((nI ((s_sz n B u).2))).toInt64, rfl, ⟨by rw [hc9], fun _ => rfl⟩, by rw [ht]; exact hP, va_K.moved hW.alike hK, hD⟩, hS.F ht⟩) hS.2.2 dL_size_16
