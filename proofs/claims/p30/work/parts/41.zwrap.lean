set_option maxHeartbeats 4000000 in
set_option maxRecDepth 100000 in
theorem zL_lines (l : Launch) (hfl : l.stackTraces = false) (D : va_G) (cI cZ cA : ClassId) (ax : Nat → Nat) (A : Nat → Prop) (n : Nat) (B : Nat → Nat → Nat) (u : Int32) (hB : Bok n B) : vx_Met l yL_lines wsL_lines ({ frames := 8, cells := 1, slots := 6, locals := 124 }) (PcZ D cI cZ cA ax A n B [.ref (ax 0), .int u]) (QZ D cI cZ cA ax A (rI ((s_lines n B u).1) ((nI ((s_lines n B u).2)))) (n) (B)) (fun _ _ _ => False) 1 6 A := by
  refine vx_ofWH (cc := cL_lines) (maxL := 3) (ret := (some .int)) (hh := [(0, 5, 6, 22)]) (by decide) rfl ?_
  intro p e s m args below meth c s₁ BL hml hv
  obtain ⟨rfl, hW, hK, hE, hNC, hA⟩ := hv
  obtain ⟨Q, cn, rt, wd, qf, T, hQ, h_T, hP, hD⟩ := hW
  have hx := BL.exec
  have hb := BL.bytes
  have hr := BL.returns
  have hts := atoms_spec (ws := wsL_lines) BL.pre
  have hown : s.vm.findClass RL = some m.cls := findClass_of_methodNamed BL.named
  have hlocks := BL.notSynchronized
  have htab := vx_table (x := yL_lines) BL (hts _ List.mem_cons_self)
  have hS : va_S A s.heap s.heap [] := va_S.rf
  have hP : va_P D vwCl ([] ++ (wX cI cZ cA ax n B Q cn rt wd qf T)) s.heap := hP
  have hD : va_D A ([] ++ (wX cI cZ cA ax n B Q cn rt wd qf T)) := hD
  have hE9 : EV (va_A ([] ++ (wX cI cZ cA ax n B Q cn rt wd qf T)) s.heap.size) s s.heap := hE.narrow (va_A_in hD hA)
  have hl := lv_entry ([.ref (ax 0), .int u]) (n := 3) (Nat.le_of_ble_eq_true rfl)
  rw [lg_entry_eq]
  generalize (lg_sl ([.ref (ax 0), .int u]) ++ List.replicate (3 - (lg_sl ([.ref (ax 0), .int u])).length) Slot.unset).toArray = ls at hl ⊢
  have hl : lv_has ls 3 [(0, .ref (ax 0)), (1, .int u)] := hl
  refine lv_aload_n hx hb dL_lines_0 rfl (lv_at hl 0 rfl) ?_
  refine lv_iload_n hx hb dL_lines_1 rfl (lv_at hl 1 rfl) ?_
  refine xl_Vi (wr := []) (As := [.int u]) (tys0 := tyZ cI cZ cA) ⟨hx, hb, hml, hown, hts⟩ (kX1_lines l hfl D cI cZ cA ax n B Q cn rt wd qf T u hB) (cwV 1 hts gL_lines_X1_lines rfl rfl rfl hdX1_lines ⟨Nat.le_of_ble_eq_true rfl, Nat.le_of_ble_eq_true rfl⟩) hK hK hP hE9 (ci := 3) rfl (q0 := 0) rfl rfl rfl hl.1 rfl (Nat.le_of_ble_eq_true rfl) dL_lines_2 ⟨Nat.le_of_ble_eq_true rfl, Nat.le_of_ble_eq_true rfl⟩ (fun E ce q9 H1 hF hz hk hce hcv hcl => ?_) (fun hc9 => ?_)
  · have hP1 := hP.kept (H1 := H1) (fun k x hx => hk x.1 ((hP k x hx).lt))
    have hS1 : va_S A s.heap H1 [] := ⟨hz, fun q h1 _ => hk q h1, fun _ h => nomatch h⟩
    rcases hF with ⟨rfl, hcd⟩
    · refine vx_catch (name := "java/lang/IndexOutOfBoundsException") hown [] ⟨0, 5, 6, 22⟩ [] (by rw [htab]; rfl) (fun z hz => nomatch hz) rfl (by decide) (hts (.classLink RL 22 "java/lang/IndexOutOfBoundsException") (by decide +kernel)) (va_Nw.use rfl (hE.2.2.1 (.castable "java/lang/IndexOutOfBoundsException" "java/lang/IndexOutOfBoundsException") (by decide +kernel))) hce hcv hcl ?_
      refine lv_astore_n (lv' := [(2, .ref q9), (0, .ref (ax 0)), (1, .int u)]) hx hb dL_lines_6 rfl hl (by decide) rfl (fun ls hl => ?_)
      refine lv_sipush (v := xI 1) hx hb dL_lines_7 (by decide +kernel) ?_
      refine vx_ret ?_
      exact W.iret (v := xI 1) hx hb hr (fun t ht hW => ⟨⟨_, (), rfl, (by rw [hcd]; rfl), (by show LWh D cI cZ cA ax A _ _ t.heap; rw [ht]; exact ⟨Q, cn, rt, wd, qf, T, hQ, h_T, hP1, hD⟩)⟩, hS1.F ht⟩) hS1.2.2 dL_lines_10
  refine vx_ret ?_
  exact W.iret (v := (nI ((s_lines n B u).2))) hx hb hr (fun t ht hW => ⟨⟨_, (), rfl, (by rw [hc9]; rfl), (by show LWh D cI cZ cA ax A _ _ t.heap; rw [ht]; exact ⟨Q, cn, rt, wd, qf, T, hQ, h_T, hP, hD⟩)⟩, hS.F ht⟩) hS.2.2 dL_lines_5
set_option maxHeartbeats 4000000 in
set_option maxRecDepth 100000 in
theorem zL_word (l : Launch) (hfl : l.stackTraces = false) (D : va_G) (cI cZ cA : ClassId) (ax : Nat → Nat) (A : Nat → Prop) (n : Nat) (B : Nat → Nat → Nat) (u : Int32) (w : Int32) (hB : Bok n B) : vx_Met l yL_word wsL_word ({ frames := 9, cells := 2, slots := 12, locals := 147 }) (PcZ D cI cZ cA ax A n B [.ref (ax 0), .int u, .int w]) (QZ D cI cZ cA ax A (rI ((s_word n B u w).1) ((nI ((s_word n B u w).2)))) (n) (B)) (fun _ _ _ => False) 2 12 A := by
  refine vx_ofWH (cc := cL_word) (maxL := 4) (ret := (some .int)) (hh := [(0, 6, 7, 22)]) (by decide) rfl ?_
  intro p e s m args below meth c s₁ BL hml hv
  obtain ⟨rfl, hW, hK, hE, hNC, hA⟩ := hv
  obtain ⟨Q, cn, rt, wd, qf, T, hQ, h_T, hP, hD⟩ := hW
  have hx := BL.exec
  have hb := BL.bytes
  have hr := BL.returns
  have hts := atoms_spec (ws := wsL_word) BL.pre
  have hown : s.vm.findClass RL = some m.cls := findClass_of_methodNamed BL.named
  have hlocks := BL.notSynchronized
  have htab := vx_table (x := yL_word) BL (hts _ List.mem_cons_self)
  have hS : va_S A s.heap s.heap [] := va_S.rf
  have hP : va_P D vwCl ([] ++ (wX cI cZ cA ax n B Q cn rt wd qf T)) s.heap := hP
  have hD : va_D A ([] ++ (wX cI cZ cA ax n B Q cn rt wd qf T)) := hD
  have hE9 : EV (va_A ([] ++ (wX cI cZ cA ax n B Q cn rt wd qf T)) s.heap.size) s s.heap := hE.narrow (va_A_in hD hA)
  have hl := lv_entry ([.ref (ax 0), .int u, .int w]) (n := 4) (Nat.le_of_ble_eq_true rfl)
  rw [lg_entry_eq]
  generalize (lg_sl ([.ref (ax 0), .int u, .int w]) ++ List.replicate (4 - (lg_sl ([.ref (ax 0), .int u, .int w])).length) Slot.unset).toArray = ls at hl ⊢
  have hl : lv_has ls 4 [(0, .ref (ax 0)), (1, .int u), (2, .int w)] := hl
  refine lv_aload_n hx hb dL_word_0 rfl (lv_at hl 0 rfl) ?_
  refine lv_iload_n hx hb dL_word_1 rfl (lv_at hl 1 rfl) ?_
  refine lv_iload_n hx hb dL_word_2 rfl (lv_at hl 2 rfl) ?_
  refine xl_Vi (wr := []) (As := [.int u, .int w]) (tys0 := tyZ cI cZ cA) ⟨hx, hb, hml, hown, hts⟩ (kX1_word l hfl D cI cZ cA ax n B Q cn rt wd qf T u w hB) (cwV 2 hts gL_word_X1_word rfl rfl rfl hdX1_word ⟨Nat.le_of_ble_eq_true rfl, Nat.le_of_ble_eq_true rfl⟩) hK hK hP hE9 (ci := 3) rfl (q0 := 0) rfl rfl rfl hl.1 rfl (Nat.le_of_ble_eq_true rfl) dL_word_3 ⟨Nat.le_of_ble_eq_true rfl, Nat.le_of_ble_eq_true rfl⟩ (fun E ce q9 H1 hF hz hk hce hcv hcl => ?_) (fun hc9 => ?_)
  · have hP1 := hP.kept (H1 := H1) (fun k x hx => hk x.1 ((hP k x hx).lt))
    have hS1 : va_S A s.heap H1 [] := ⟨hz, fun q h1 _ => hk q h1, fun _ h => nomatch h⟩
    rcases hF with ⟨rfl, hcd⟩
    · refine vx_catch (name := "java/lang/IndexOutOfBoundsException") hown [] ⟨0, 6, 7, 22⟩ [] (by rw [htab]; rfl) (fun z hz => nomatch hz) rfl (by decide) (hts (.classLink RL 22 "java/lang/IndexOutOfBoundsException") (by decide +kernel)) (va_Nw.use rfl (hE.2.2.1 (.castable "java/lang/IndexOutOfBoundsException" "java/lang/IndexOutOfBoundsException") (by decide +kernel))) hce hcv hcl ?_
      refine lv_astore_n (lv' := [(3, .ref q9), (0, .ref (ax 0)), (1, .int u), (2, .int w)]) hx hb dL_word_7 rfl hl (by decide) rfl (fun ls hl => ?_)
      refine lv_sipush (v := xI 1) hx hb dL_word_8 (by decide +kernel) ?_
      refine vx_ret ?_
      exact W.iret (v := xI 1) hx hb hr (fun t ht hW => ⟨⟨_, (), rfl, (by rw [hcd]; rfl), (by show LWh D cI cZ cA ax A _ _ t.heap; rw [ht]; exact ⟨Q, cn, rt, wd, qf, T, hQ, h_T, hP1, hD⟩)⟩, hS1.F ht⟩) hS1.2.2 dL_word_11
  refine vx_ret ?_
  exact W.iret (v := (nI ((s_word n B u w).2))) hx hb hr (fun t ht hW => ⟨⟨_, (), rfl, (by rw [hc9]; rfl), (by show LWh D cI cZ cA ax A _ _ t.heap; rw [ht]; exact ⟨Q, cn, rt, wd, qf, T, hQ, h_T, hP, hD⟩)⟩, hS.F ht⟩) hS.2.2 dL_word_6
set_option maxHeartbeats 4000000 in
set_option maxRecDepth 100000 in
theorem zL_parent (l : Launch) (hfl : l.stackTraces = false) (D : va_G) (cI cZ cA : ClassId) (ax : Nat → Nat) (A : Nat → Prop) (n : Nat) (B : Nat → Nat → Nat) (u : Int32) (hB : Bok n B) : vx_Met l yL_parent wsL_parent ({ frames := 8, cells := 2, slots := 12, locals := 125 }) (PcZ D cI cZ cA ax A n B [.ref (ax 0), .int u]) (QZ D cI cZ cA ax A (rI ((s_parent n B u).1) ((nI ((s_parent n B u).2)))) (n) (B)) (fun _ _ _ => False) 2 12 A := by
  refine vx_ofWH (cc := cL_parent) (maxL := 3) (ret := (some .int)) (hh := [(0, 5, 6, 22), (0, 5, 11, 38)]) (by decide) rfl ?_
  intro p e s m args below meth c s₁ BL hml hv
  obtain ⟨rfl, hW, hK, hE, hNC, hA⟩ := hv
  obtain ⟨Q, cn, rt, wd, qf, T, hQ, h_T, hP, hD⟩ := hW
  have hx := BL.exec
  have hb := BL.bytes
  have hr := BL.returns
  have hts := atoms_spec (ws := wsL_parent) BL.pre
  have hown : s.vm.findClass RL = some m.cls := findClass_of_methodNamed BL.named
  have hlocks := BL.notSynchronized
  have htab := vx_table (x := yL_parent) BL (hts _ List.mem_cons_self)
  have hS : va_S A s.heap s.heap [] := va_S.rf
  have hP : va_P D vwCl ([] ++ (wX cI cZ cA ax n B Q cn rt wd qf T)) s.heap := hP
  have hD : va_D A ([] ++ (wX cI cZ cA ax n B Q cn rt wd qf T)) := hD
  have hE9 : EV (va_A ([] ++ (wX cI cZ cA ax n B Q cn rt wd qf T)) s.heap.size) s s.heap := hE.narrow (va_A_in hD hA)
  have hl := lv_entry ([.ref (ax 0), .int u]) (n := 3) (Nat.le_of_ble_eq_true rfl)
  rw [lg_entry_eq]
  generalize (lg_sl ([.ref (ax 0), .int u]) ++ List.replicate (3 - (lg_sl ([.ref (ax 0), .int u])).length) Slot.unset).toArray = ls at hl ⊢
  have hl : lv_has ls 3 [(0, .ref (ax 0)), (1, .int u)] := hl
  refine lv_aload_n hx hb dL_parent_0 rfl (lv_at hl 0 rfl) ?_
  refine lv_iload_n hx hb dL_parent_1 rfl (lv_at hl 1 rfl) ?_
  refine xl_Vi (wr := []) (As := [.int u]) (tys0 := tyZ cI cZ cA) ⟨hx, hb, hml, hown, hts⟩ (kX1_parent l hfl D cI cZ cA ax n B Q cn rt wd qf T u hB) (cwV 1 hts gL_parent_X1_parent rfl rfl rfl hdX1_parent ⟨Nat.le_of_ble_eq_true rfl, Nat.le_of_ble_eq_true rfl⟩) hK hK hP hE9 (ci := 3) rfl (q0 := 0) rfl rfl rfl hl.1 rfl (Nat.le_of_ble_eq_true rfl) dL_parent_2 ⟨Nat.le_of_ble_eq_true rfl, Nat.le_of_ble_eq_true rfl⟩ (fun E ce q9 H1 hF hz hk hce hcv hcl => ?_) (fun hc9 => ?_)
  · have hP1 := hP.kept (H1 := H1) (fun k x hx => hk x.1 ((hP k x hx).lt))
    have hS1 : va_S A s.heap H1 [] := ⟨hz, fun q h1 _ => hk q h1, fun _ h => nomatch h⟩
    rcases hF with ⟨rfl, hcd⟩ | ⟨rfl, hcd⟩
    · refine vx_catch (name := "java/lang/IndexOutOfBoundsException") hown [] ⟨0, 5, 6, 22⟩ [⟨0, 5, 11, 38⟩] (by rw [htab]; rfl) (fun z hz => nomatch hz) rfl (by decide) (hts (.classLink RL 22 "java/lang/IndexOutOfBoundsException") (by decide +kernel)) (va_Nw.use rfl (hE.2.2.1 (.castable "java/lang/IndexOutOfBoundsException" "java/lang/IndexOutOfBoundsException") (by decide +kernel))) hce hcv hcl ?_
      refine lv_astore_n (lv' := [(2, .ref q9), (0, .ref (ax 0)), (1, .int u)]) hx hb dL_parent_6 rfl hl (by decide) rfl (fun ls hl => ?_)
      refine lv_sipush (v := xI 1) hx hb dL_parent_7 (by decide +kernel) ?_
      refine vx_ret ?_
      exact W.iret (v := xI 1) hx hb hr (fun t ht hW => ⟨⟨_, (), rfl, (by rw [hcd]; rfl), (by show LWh D cI cZ cA ax A _ _ t.heap; rw [ht]; exact ⟨Q, cn, rt, wd, qf, T, hQ, h_T, hP1, hD⟩)⟩, hS1.F ht⟩) hS1.2.2 dL_parent_10
    · refine vx_catch (name := "java/util/NoSuchElementException") hown [⟨0, 5, 6, 22⟩] ⟨0, 5, 11, 38⟩ [] (by rw [htab]; rfl) (fun z hz => by simp only [List.mem_cons, List.not_mem_nil, or_false] at hz; rcases hz with rfl; exact Or.inr ⟨by decide, "java/lang/IndexOutOfBoundsException", hts (.classLink RL 22 "java/lang/IndexOutOfBoundsException") (by decide +kernel), hNC ("java/util/NoSuchElementException", "java/lang/IndexOutOfBoundsException") (by decide +kernel)⟩) rfl (by decide) (hts (.classLink RL 38 "java/util/NoSuchElementException") (by decide +kernel)) (va_Nw.use rfl (hE.2.2.1 (.castable "java/util/NoSuchElementException" "java/util/NoSuchElementException") (by decide +kernel))) hce hcv hcl ?_
      refine lv_astore_n (lv' := [(2, .ref q9), (0, .ref (ax 0)), (1, .int u)]) hx hb dL_parent_11 rfl hl (by decide) rfl (fun ls hl => ?_)
      refine lv_sipush (v := xI 2) hx hb dL_parent_12 (by decide +kernel) ?_
      refine vx_ret ?_
      exact W.iret (v := xI 2) hx hb hr (fun t ht hW => ⟨⟨_, (), rfl, (by rw [hcd]; rfl), (by show LWh D cI cZ cA ax A _ _ t.heap; rw [ht]; exact ⟨Q, cn, rt, wd, qf, T, hQ, h_T, hP1, hD⟩)⟩, hS1.F ht⟩) hS1.2.2 dL_parent_15
  refine vx_ret ?_
  exact W.iret (v := (nI ((s_parent n B u).2))) hx hb hr (fun t ht hW => ⟨⟨_, (), rfl, (by rw [hc9]; rfl), (by show LWh D cI cZ cA ax A _ _ t.heap; rw [ht]; exact ⟨Q, cn, rt, wd, qf, T, hQ, h_T, hP, hD⟩)⟩, hS.F ht⟩) hS.2.2 dL_parent_5
set_option maxHeartbeats 4000000 in
set_option maxRecDepth 100000 in
theorem zL_partner (l : Launch) (hfl : l.stackTraces = false) (D : va_G) (cI cZ cA : ClassId) (ax : Nat → Nat) (A : Nat → Prop) (n : Nat) (B : Nat → Nat → Nat) (u : Int32) (w : Int32) (hB : Bok n B) : vx_Met l yL_partner wsL_partner ({ frames := 9, cells := 3, slots := 18, locals := 148 }) (PcZ D cI cZ cA ax A n B [.ref (ax 0), .int u, .int w]) (QZ D cI cZ cA ax A (rI ((s_pr n B u w).1) ((nI ((s_pr n B u w).2)))) (n) (B)) (fun _ _ _ => False) 3 18 A := by
  refine vx_ofWH (cc := cL_partner) (maxL := 4) (ret := (some .int)) (hh := [(0, 6, 7, 22), (0, 6, 12, 38)]) (by decide) rfl ?_
  intro p e s m args below meth c s₁ BL hml hv
  obtain ⟨rfl, hW, hK, hE, hNC, hA⟩ := hv
  obtain ⟨Q, cn, rt, wd, qf, T, hQ, h_T, hP, hD⟩ := hW
  have hx := BL.exec
  have hb := BL.bytes
  have hr := BL.returns
  have hts := atoms_spec (ws := wsL_partner) BL.pre
  have hown : s.vm.findClass RL = some m.cls := findClass_of_methodNamed BL.named
  have hlocks := BL.notSynchronized
  have htab := vx_table (x := yL_partner) BL (hts _ List.mem_cons_self)
  have hS : va_S A s.heap s.heap [] := va_S.rf
  have hP : va_P D vwCl ([] ++ (wX cI cZ cA ax n B Q cn rt wd qf T)) s.heap := hP
  have hD : va_D A ([] ++ (wX cI cZ cA ax n B Q cn rt wd qf T)) := hD
  have hE9 : EV (va_A ([] ++ (wX cI cZ cA ax n B Q cn rt wd qf T)) s.heap.size) s s.heap := hE.narrow (va_A_in hD hA)
  have hl := lv_entry ([.ref (ax 0), .int u, .int w]) (n := 4) (Nat.le_of_ble_eq_true rfl)
  rw [lg_entry_eq]
  generalize (lg_sl ([.ref (ax 0), .int u, .int w]) ++ List.replicate (4 - (lg_sl ([.ref (ax 0), .int u, .int w])).length) Slot.unset).toArray = ls at hl ⊢
  have hl : lv_has ls 4 [(0, .ref (ax 0)), (1, .int u), (2, .int w)] := hl
  refine lv_aload_n hx hb dL_partner_0 rfl (lv_at hl 0 rfl) ?_
  refine lv_iload_n hx hb dL_partner_1 rfl (lv_at hl 1 rfl) ?_
  refine lv_iload_n hx hb dL_partner_2 rfl (lv_at hl 2 rfl) ?_
  refine xl_Vi (wr := []) (As := [.int u, .int w]) (tys0 := tyZ cI cZ cA) ⟨hx, hb, hml, hown, hts⟩ (kX1_partner l hfl D cI cZ cA ax n B Q cn rt wd qf T u w hB hQ) (cwV 2 hts gL_partner_X1_partner rfl rfl rfl hdX1_partner ⟨Nat.le_of_ble_eq_true rfl, Nat.le_of_ble_eq_true rfl⟩) hK hK hP hE9 (ci := 3) rfl (q0 := 0) rfl rfl rfl hl.1 rfl (Nat.le_of_ble_eq_true rfl) dL_partner_3 ⟨Nat.le_of_ble_eq_true rfl, Nat.le_of_ble_eq_true rfl⟩ (fun E ce q9 H1 hF hz hk hce hcv hcl => ?_) (fun hc9 => ?_)
  · have hP1 := hP.kept (H1 := H1) (fun k x hx => hk x.1 ((hP k x hx).lt))
    have hS1 : va_S A s.heap H1 [] := ⟨hz, fun q h1 _ => hk q h1, fun _ h => nomatch h⟩
    rcases hF with ⟨rfl, hcd⟩ | ⟨rfl, hcd⟩
    · refine vx_catch (name := "java/lang/IndexOutOfBoundsException") hown [] ⟨0, 6, 7, 22⟩ [⟨0, 6, 12, 38⟩] (by rw [htab]; rfl) (fun z hz => nomatch hz) rfl (by decide) (hts (.classLink RL 22 "java/lang/IndexOutOfBoundsException") (by decide +kernel)) (va_Nw.use rfl (hE.2.2.1 (.castable "java/lang/IndexOutOfBoundsException" "java/lang/IndexOutOfBoundsException") (by decide +kernel))) hce hcv hcl ?_
      refine lv_astore_n (lv' := [(3, .ref q9), (0, .ref (ax 0)), (1, .int u), (2, .int w)]) hx hb dL_partner_7 rfl hl (by decide) rfl (fun ls hl => ?_)
      refine lv_sipush (v := xI 1) hx hb dL_partner_8 (by decide +kernel) ?_
      refine vx_ret ?_
      exact W.iret (v := xI 1) hx hb hr (fun t ht hW => ⟨⟨_, (), rfl, (by rw [hcd]; rfl), (by show LWh D cI cZ cA ax A _ _ t.heap; rw [ht]; exact ⟨Q, cn, rt, wd, qf, T, hQ, h_T, hP1, hD⟩)⟩, hS1.F ht⟩) hS1.2.2 dL_partner_11
    · refine vx_catch (name := "java/util/NoSuchElementException") hown [⟨0, 6, 7, 22⟩] ⟨0, 6, 12, 38⟩ [] (by rw [htab]; rfl) (fun z hz => by simp only [List.mem_cons, List.not_mem_nil, or_false] at hz; rcases hz with rfl; exact Or.inr ⟨by decide, "java/lang/IndexOutOfBoundsException", hts (.classLink RL 22 "java/lang/IndexOutOfBoundsException") (by decide +kernel), hNC ("java/util/NoSuchElementException", "java/lang/IndexOutOfBoundsException") (by decide +kernel)⟩) rfl (by decide) (hts (.classLink RL 38 "java/util/NoSuchElementException") (by decide +kernel)) (va_Nw.use rfl (hE.2.2.1 (.castable "java/util/NoSuchElementException" "java/util/NoSuchElementException") (by decide +kernel))) hce hcv hcl ?_
      refine lv_astore_n (lv' := [(3, .ref q9), (0, .ref (ax 0)), (1, .int u), (2, .int w)]) hx hb dL_partner_12 rfl hl (by decide) rfl (fun ls hl => ?_)
      refine lv_sipush (v := xI 2) hx hb dL_partner_13 (by decide +kernel) ?_
      refine vx_ret ?_
      exact W.iret (v := xI 2) hx hb hr (fun t ht hW => ⟨⟨_, (), rfl, (by rw [hcd]; rfl), (by show LWh D cI cZ cA ax A _ _ t.heap; rw [ht]; exact ⟨Q, cn, rt, wd, qf, T, hQ, h_T, hP1, hD⟩)⟩, hS1.F ht⟩) hS1.2.2 dL_partner_16
  refine vx_ret ?_
  exact W.iret (v := (nI ((s_pr n B u w).2))) hx hb hr (fun t ht hW => ⟨⟨_, (), rfl, (by rw [hc9]; rfl), (by show LWh D cI cZ cA ax A _ _ t.heap; rw [ht]; exact ⟨Q, cn, rt, wd, qf, T, hQ, h_T, hP, hD⟩)⟩, hS.F ht⟩) hS.2.2 dL_partner_6
set_option maxHeartbeats 4000000 in
set_option maxRecDepth 100000 in
theorem zL_originMail (l : Launch) (hfl : l.stackTraces = false) (D : va_G) (cI cZ cA : ClassId) (ax : Nat → Nat) (A : Nat → Prop) (n : Nat) (B : Nat → Nat → Nat) (u : Int32) (w : Int32) (hB : Bok n B) : vx_Met l yL_originMail wsL_originMail ({ frames := 9, cells := 2, slots := 12, locals := 147 }) (PcZ D cI cZ cA ax A n B [.ref (ax 0), .int u, .int w]) (QZ D cI cZ cA ax A (rI ((s_orc n B u w).1) ((nI ((s_orc n B u w).2 / 8)))) (n) (B)) (fun _ _ _ => False) 2 12 A := by
  refine vx_ofWH (cc := cL_originMail) (maxL := 4) (ret := (some .int)) (hh := [(0, 6, 7, 22)]) (by decide) rfl ?_
  intro p e s m args below meth c s₁ BL hml hv
  obtain ⟨rfl, hW, hK, hE, hNC, hA⟩ := hv
  obtain ⟨Q, cn, rt, wd, qf, T, hQ, h_T, hP, hD⟩ := hW
  have hx := BL.exec
  have hb := BL.bytes
  have hr := BL.returns
  have hts := atoms_spec (ws := wsL_originMail) BL.pre
  have hown : s.vm.findClass RL = some m.cls := findClass_of_methodNamed BL.named
  have hlocks := BL.notSynchronized
  have htab := vx_table (x := yL_originMail) BL (hts _ List.mem_cons_self)
  have hS : va_S A s.heap s.heap [] := va_S.rf
  have hP : va_P D vwCl ([] ++ (wX cI cZ cA ax n B Q cn rt wd qf T)) s.heap := hP
  have hD : va_D A ([] ++ (wX cI cZ cA ax n B Q cn rt wd qf T)) := hD
  have hE9 : EV (va_A ([] ++ (wX cI cZ cA ax n B Q cn rt wd qf T)) s.heap.size) s s.heap := hE.narrow (va_A_in hD hA)
  have hl := lv_entry ([.ref (ax 0), .int u, .int w]) (n := 4) (Nat.le_of_ble_eq_true rfl)
  rw [lg_entry_eq]
  generalize (lg_sl ([.ref (ax 0), .int u, .int w]) ++ List.replicate (4 - (lg_sl ([.ref (ax 0), .int u, .int w])).length) Slot.unset).toArray = ls at hl ⊢
  have hl : lv_has ls 4 [(0, .ref (ax 0)), (1, .int u), (2, .int w)] := hl
  refine lv_aload_n hx hb dL_originMail_0 rfl (lv_at hl 0 rfl) ?_
  refine lv_iload_n hx hb dL_originMail_1 rfl (lv_at hl 1 rfl) ?_
  refine lv_iload_n hx hb dL_originMail_2 rfl (lv_at hl 2 rfl) ?_
  refine xl_Vi (wr := []) (As := [.int u, .int w]) (tys0 := tyZ cI cZ cA) ⟨hx, hb, hml, hown, hts⟩ (kX1_originMail l hfl D cI cZ cA ax n B Q cn rt wd qf T u w hB hQ) (cwV 2 hts gL_originMail_X1_originMail rfl rfl rfl hdX1_originMail ⟨Nat.le_of_ble_eq_true rfl, Nat.le_of_ble_eq_true rfl⟩) hK hK hP hE9 (ci := 3) rfl (q0 := 0) rfl rfl rfl hl.1 rfl (Nat.le_of_ble_eq_true rfl) dL_originMail_3 ⟨Nat.le_of_ble_eq_true rfl, Nat.le_of_ble_eq_true rfl⟩ (fun E ce q9 H1 hF hz hk hce hcv hcl => ?_) (fun hc9 => ?_)
  · have hP1 := hP.kept (H1 := H1) (fun k x hx => hk x.1 ((hP k x hx).lt))
    have hS1 : va_S A s.heap H1 [] := ⟨hz, fun q h1 _ => hk q h1, fun _ h => nomatch h⟩
    rcases hF with ⟨rfl, hcd⟩
    · refine vx_catch (name := "java/lang/IndexOutOfBoundsException") hown [] ⟨0, 6, 7, 22⟩ [] (by rw [htab]; rfl) (fun z hz => nomatch hz) rfl (by decide) (hts (.classLink RL 22 "java/lang/IndexOutOfBoundsException") (by decide +kernel)) (va_Nw.use rfl (hE.2.2.1 (.castable "java/lang/IndexOutOfBoundsException" "java/lang/IndexOutOfBoundsException") (by decide +kernel))) hce hcv hcl ?_
      refine lv_astore_n (lv' := [(3, .ref q9), (0, .ref (ax 0)), (1, .int u), (2, .int w)]) hx hb dL_originMail_7 rfl hl (by decide) rfl (fun ls hl => ?_)
      refine lv_sipush (v := xI 1) hx hb dL_originMail_8 (by decide +kernel) ?_
      refine vx_ret ?_
      exact W.iret (v := xI 1) hx hb hr (fun t ht hW => ⟨⟨_, (), rfl, (by rw [hcd]; rfl), (by show LWh D cI cZ cA ax A _ _ t.heap; rw [ht]; exact ⟨Q, cn, rt, wd, qf, T, hQ, h_T, hP1, hD⟩)⟩, hS1.F ht⟩) hS1.2.2 dL_originMail_11
  refine vx_ret ?_
  exact W.iret (v := (nI ((s_orc n B u w).2 / 8))) hx hb hr (fun t ht hW => ⟨⟨_, (), rfl, (by rw [hc9]; rfl), (by show LWh D cI cZ cA ax A _ _ t.heap; rw [ht]; exact ⟨Q, cn, rt, wd, qf, T, hQ, h_T, hP, hD⟩)⟩, hS.F ht⟩) hS.2.2 dL_originMail_6
set_option maxHeartbeats 4000000 in
set_option maxRecDepth 100000 in
theorem zL_originLine (l : Launch) (hfl : l.stackTraces = false) (D : va_G) (cI cZ cA : ClassId) (ax : Nat → Nat) (A : Nat → Prop) (n : Nat) (B : Nat → Nat → Nat) (u : Int32) (w : Int32) (hB : Bok n B) : vx_Met l yL_originLine wsL_originLine ({ frames := 9, cells := 2, slots := 12, locals := 147 }) (PcZ D cI cZ cA ax A n B [.ref (ax 0), .int u, .int w]) (QZ D cI cZ cA ax A (rI ((s_orc n B u w).1) ((nI ((s_orc n B u w).2 % 8)))) (n) (B)) (fun _ _ _ => False) 2 12 A := by
  refine vx_ofWH (cc := cL_originLine) (maxL := 4) (ret := (some .int)) (hh := [(0, 6, 7, 22)]) (by decide) rfl ?_
  intro p e s m args below meth c s₁ BL hml hv
  obtain ⟨rfl, hW, hK, hE, hNC, hA⟩ := hv
  obtain ⟨Q, cn, rt, wd, qf, T, hQ, h_T, hP, hD⟩ := hW
  have hx := BL.exec
  have hb := BL.bytes
  have hr := BL.returns
  have hts := atoms_spec (ws := wsL_originLine) BL.pre
  have hown : s.vm.findClass RL = some m.cls := findClass_of_methodNamed BL.named
  have hlocks := BL.notSynchronized
  have htab := vx_table (x := yL_originLine) BL (hts _ List.mem_cons_self)
  have hS : va_S A s.heap s.heap [] := va_S.rf
  have hP : va_P D vwCl ([] ++ (wX cI cZ cA ax n B Q cn rt wd qf T)) s.heap := hP
  have hD : va_D A ([] ++ (wX cI cZ cA ax n B Q cn rt wd qf T)) := hD
  have hE9 : EV (va_A ([] ++ (wX cI cZ cA ax n B Q cn rt wd qf T)) s.heap.size) s s.heap := hE.narrow (va_A_in hD hA)
  have hl := lv_entry ([.ref (ax 0), .int u, .int w]) (n := 4) (Nat.le_of_ble_eq_true rfl)
  rw [lg_entry_eq]
  generalize (lg_sl ([.ref (ax 0), .int u, .int w]) ++ List.replicate (4 - (lg_sl ([.ref (ax 0), .int u, .int w])).length) Slot.unset).toArray = ls at hl ⊢
  have hl : lv_has ls 4 [(0, .ref (ax 0)), (1, .int u), (2, .int w)] := hl
  refine lv_aload_n hx hb dL_originLine_0 rfl (lv_at hl 0 rfl) ?_
  refine lv_iload_n hx hb dL_originLine_1 rfl (lv_at hl 1 rfl) ?_
  refine lv_iload_n hx hb dL_originLine_2 rfl (lv_at hl 2 rfl) ?_
  refine xl_Vi (wr := []) (As := [.int u, .int w]) (tys0 := tyZ cI cZ cA) ⟨hx, hb, hml, hown, hts⟩ (kX1_originLine l hfl D cI cZ cA ax n B Q cn rt wd qf T u w hB hQ) (cwV 2 hts gL_originLine_X1_originLine rfl rfl rfl hdX1_originLine ⟨Nat.le_of_ble_eq_true rfl, Nat.le_of_ble_eq_true rfl⟩) hK hK hP hE9 (ci := 3) rfl (q0 := 0) rfl rfl rfl hl.1 rfl (Nat.le_of_ble_eq_true rfl) dL_originLine_3 ⟨Nat.le_of_ble_eq_true rfl, Nat.le_of_ble_eq_true rfl⟩ (fun E ce q9 H1 hF hz hk hce hcv hcl => ?_) (fun hc9 => ?_)
  · have hP1 := hP.kept (H1 := H1) (fun k x hx => hk x.1 ((hP k x hx).lt))
    have hS1 : va_S A s.heap H1 [] := ⟨hz, fun q h1 _ => hk q h1, fun _ h => nomatch h⟩
    rcases hF with ⟨rfl, hcd⟩
    · refine vx_catch (name := "java/lang/IndexOutOfBoundsException") hown [] ⟨0, 6, 7, 22⟩ [] (by rw [htab]; rfl) (fun z hz => nomatch hz) rfl (by decide) (hts (.classLink RL 22 "java/lang/IndexOutOfBoundsException") (by decide +kernel)) (va_Nw.use rfl (hE.2.2.1 (.castable "java/lang/IndexOutOfBoundsException" "java/lang/IndexOutOfBoundsException") (by decide +kernel))) hce hcv hcl ?_
      refine lv_astore_n (lv' := [(3, .ref q9), (0, .ref (ax 0)), (1, .int u), (2, .int w)]) hx hb dL_originLine_7 rfl hl (by decide) rfl (fun ls hl => ?_)
      refine lv_sipush (v := xI 1) hx hb dL_originLine_8 (by decide +kernel) ?_
      refine vx_ret ?_
      exact W.iret (v := xI 1) hx hb hr (fun t ht hW => ⟨⟨_, (), rfl, (by rw [hcd]; rfl), (by show LWh D cI cZ cA ax A _ _ t.heap; rw [ht]; exact ⟨Q, cn, rt, wd, qf, T, hQ, h_T, hP1, hD⟩)⟩, hS1.F ht⟩) hS1.2.2 dL_originLine_11
  refine vx_ret ?_
  exact W.iret (v := (nI ((s_orc n B u w).2 % 8))) hx hb hr (fun t ht hW => ⟨⟨_, (), rfl, (by rw [hc9]; rfl), (by show LWh D cI cZ cA ax A _ _ t.heap; rw [ht]; exact ⟨Q, cn, rt, wd, qf, T, hQ, h_T, hP, hD⟩)⟩, hS.F ht⟩) hS.2.2 dL_originLine_6
set_option maxHeartbeats 4000000 in
set_option maxRecDepth 100000 in
theorem zL_kind (l : Launch) (hfl : l.stackTraces = false) (D : va_G) (cI cZ cA : ClassId) (ax : Nat → Nat) (A : Nat → Prop) (n : Nat) (B : Nat → Nat → Nat) (u : Int32) (w : Int32) (hB : Bok n B) : vx_Met l yL_kind wsL_kind ({ frames := 9, cells := 2, slots := 12, locals := 147 }) (PcZ D cI cZ cA ax A n B [.ref (ax 0), .int u, .int w]) (QZ D cI cZ cA ax A (rI ((s_kd n B u w).1) ((nI ((s_kd n B u w).2)))) (n) (B)) (fun _ _ _ => False) 2 12 A := by
  refine vx_ofWH (cc := cL_kind) (maxL := 4) (ret := (some .int)) (hh := [(0, 6, 7, 22)]) (by decide) rfl ?_
  intro p e s m args below meth c s₁ BL hml hv
  obtain ⟨rfl, hW, hK, hE, hNC, hA⟩ := hv
  obtain ⟨Q, cn, rt, wd, qf, T, hQ, h_T, hP, hD⟩ := hW
  have hx := BL.exec
  have hb := BL.bytes
  have hr := BL.returns
  have hts := atoms_spec (ws := wsL_kind) BL.pre
  have hown : s.vm.findClass RL = some m.cls := findClass_of_methodNamed BL.named
  have hlocks := BL.notSynchronized
  have htab := vx_table (x := yL_kind) BL (hts _ List.mem_cons_self)
  have hS : va_S A s.heap s.heap [] := va_S.rf
  have hP : va_P D vwCl ([] ++ (wX cI cZ cA ax n B Q cn rt wd qf T)) s.heap := hP
  have hD : va_D A ([] ++ (wX cI cZ cA ax n B Q cn rt wd qf T)) := hD
  have hE9 : EV (va_A ([] ++ (wX cI cZ cA ax n B Q cn rt wd qf T)) s.heap.size) s s.heap := hE.narrow (va_A_in hD hA)
  have hl := lv_entry ([.ref (ax 0), .int u, .int w]) (n := 4) (Nat.le_of_ble_eq_true rfl)
  rw [lg_entry_eq]
  generalize (lg_sl ([.ref (ax 0), .int u, .int w]) ++ List.replicate (4 - (lg_sl ([.ref (ax 0), .int u, .int w])).length) Slot.unset).toArray = ls at hl ⊢
  have hl : lv_has ls 4 [(0, .ref (ax 0)), (1, .int u), (2, .int w)] := hl
  refine lv_aload_n hx hb dL_kind_0 rfl (lv_at hl 0 rfl) ?_
  refine lv_iload_n hx hb dL_kind_1 rfl (lv_at hl 1 rfl) ?_
  refine lv_iload_n hx hb dL_kind_2 rfl (lv_at hl 2 rfl) ?_
  refine xl_Vi (wr := []) (As := [.int u, .int w]) (tys0 := tyZ cI cZ cA) ⟨hx, hb, hml, hown, hts⟩ (kX1_kind l hfl D cI cZ cA ax n B Q cn rt wd qf T u w hB hQ) (cwV 2 hts gL_kind_X1_kind rfl rfl rfl hdX1_kind ⟨Nat.le_of_ble_eq_true rfl, Nat.le_of_ble_eq_true rfl⟩) hK hK hP hE9 (ci := 3) rfl (q0 := 0) rfl rfl rfl hl.1 rfl (Nat.le_of_ble_eq_true rfl) dL_kind_3 ⟨Nat.le_of_ble_eq_true rfl, Nat.le_of_ble_eq_true rfl⟩ (fun E ce q9 H1 hF hz hk hce hcv hcl => ?_) (fun hc9 => ?_)
  · have hP1 := hP.kept (H1 := H1) (fun k x hx => hk x.1 ((hP k x hx).lt))
    have hS1 : va_S A s.heap H1 [] := ⟨hz, fun q h1 _ => hk q h1, fun _ h => nomatch h⟩
    rcases hF with ⟨rfl, hcd⟩
    · refine vx_catch (name := "java/lang/IndexOutOfBoundsException") hown [] ⟨0, 6, 7, 22⟩ [] (by rw [htab]; rfl) (fun z hz => nomatch hz) rfl (by decide) (hts (.classLink RL 22 "java/lang/IndexOutOfBoundsException") (by decide +kernel)) (va_Nw.use rfl (hE.2.2.1 (.castable "java/lang/IndexOutOfBoundsException" "java/lang/IndexOutOfBoundsException") (by decide +kernel))) hce hcv hcl ?_
      refine lv_astore_n (lv' := [(3, .ref q9), (0, .ref (ax 0)), (1, .int u), (2, .int w)]) hx hb dL_kind_7 rfl hl (by decide) rfl (fun ls hl => ?_)
      refine lv_sipush (v := xI 1) hx hb dL_kind_8 (by decide +kernel) ?_
      refine vx_ret ?_
      exact W.iret (v := xI 1) hx hb hr (fun t ht hW => ⟨⟨_, (), rfl, (by rw [hcd]; rfl), (by show LWh D cI cZ cA ax A _ _ t.heap; rw [ht]; exact ⟨Q, cn, rt, wd, qf, T, hQ, h_T, hP1, hD⟩)⟩, hS1.F ht⟩) hS1.2.2 dL_kind_11
  refine vx_ret ?_
  exact W.iret (v := (nI ((s_kd n B u w).2))) hx hb hr (fun t ht hW => ⟨⟨_, (), rfl, (by rw [hc9]; rfl), (by show LWh D cI cZ cA ax A _ _ t.heap; rw [ht]; exact ⟨Q, cn, rt, wd, qf, T, hQ, h_T, hP, hD⟩)⟩, hS.F ht⟩) hS.2.2 dL_kind_6
set_option maxHeartbeats 4000000 in
set_option maxRecDepth 100000 in
theorem zL_signature (l : Launch) (hfl : l.stackTraces = false) (D : va_G) (cI cZ cA : ClassId) (ax : Nat → Nat) (A : Nat → Prop) (n : Nat) (B : Nat → Nat → Nat) (u : Int32) (hB : Bok n B) : vx_Met l yL_signature wsL_signature ({ frames := 8, cells := 1, slots := 6, locals := 124 }) (PcZ D cI cZ cA ax A n B [.ref (ax 0), .int u]) (QZ D cI cZ cA ax A (rI ((s_sgc n B u).1) ((nI ((s_sgc n B u).2)))) (n) (B)) (fun _ _ _ => False) 1 6 A := by
  refine vx_ofWH (cc := cL_signature) (maxL := 3) (ret := (some .int)) (hh := [(0, 5, 6, 22)]) (by decide) rfl ?_
  intro p e s m args below meth c s₁ BL hml hv
  obtain ⟨rfl, hW, hK, hE, hNC, hA⟩ := hv
  obtain ⟨Q, cn, rt, wd, qf, T, hQ, h_T, hP, hD⟩ := hW
  have hx := BL.exec
  have hb := BL.bytes
  have hr := BL.returns
  have hts := atoms_spec (ws := wsL_signature) BL.pre
  have hown : s.vm.findClass RL = some m.cls := findClass_of_methodNamed BL.named
  have hlocks := BL.notSynchronized
  have htab := vx_table (x := yL_signature) BL (hts _ List.mem_cons_self)
  have hS : va_S A s.heap s.heap [] := va_S.rf
  have hP : va_P D vwCl ([] ++ (wX cI cZ cA ax n B Q cn rt wd qf T)) s.heap := hP
  have hD : va_D A ([] ++ (wX cI cZ cA ax n B Q cn rt wd qf T)) := hD
  have hE9 : EV (va_A ([] ++ (wX cI cZ cA ax n B Q cn rt wd qf T)) s.heap.size) s s.heap := hE.narrow (va_A_in hD hA)
  have hl := lv_entry ([.ref (ax 0), .int u]) (n := 3) (Nat.le_of_ble_eq_true rfl)
  rw [lg_entry_eq]
  generalize (lg_sl ([.ref (ax 0), .int u]) ++ List.replicate (3 - (lg_sl ([.ref (ax 0), .int u])).length) Slot.unset).toArray = ls at hl ⊢
  have hl : lv_has ls 3 [(0, .ref (ax 0)), (1, .int u)] := hl
  refine lv_aload_n hx hb dL_signature_0 rfl (lv_at hl 0 rfl) ?_
  refine lv_iload_n hx hb dL_signature_1 rfl (lv_at hl 1 rfl) ?_
  refine xl_Vi (wr := []) (As := [.int u]) (tys0 := tyZ cI cZ cA) ⟨hx, hb, hml, hown, hts⟩ (kX1_signature l hfl D cI cZ cA ax n B Q cn rt wd qf T u hB) (cwV 1 hts gL_signature_X1_signature rfl rfl rfl hdX1_signature ⟨Nat.le_of_ble_eq_true rfl, Nat.le_of_ble_eq_true rfl⟩) hK hK hP hE9 (ci := 3) rfl (q0 := 0) rfl rfl rfl hl.1 rfl (Nat.le_of_ble_eq_true rfl) dL_signature_2 ⟨Nat.le_of_ble_eq_true rfl, Nat.le_of_ble_eq_true rfl⟩ (fun E ce q9 H1 hF hz hk hce hcv hcl => ?_) (fun hc9 => ?_)
  · have hP1 := hP.kept (H1 := H1) (fun k x hx => hk x.1 ((hP k x hx).lt))
    have hS1 : va_S A s.heap H1 [] := ⟨hz, fun q h1 _ => hk q h1, fun _ h => nomatch h⟩
    rcases hF with ⟨rfl, hcd⟩
    · refine vx_catch (name := "java/lang/IndexOutOfBoundsException") hown [] ⟨0, 5, 6, 22⟩ [] (by rw [htab]; rfl) (fun z hz => nomatch hz) rfl (by decide) (hts (.classLink RL 22 "java/lang/IndexOutOfBoundsException") (by decide +kernel)) (va_Nw.use rfl (hE.2.2.1 (.castable "java/lang/IndexOutOfBoundsException" "java/lang/IndexOutOfBoundsException") (by decide +kernel))) hce hcv hcl ?_
      refine lv_astore_n (lv' := [(2, .ref q9), (0, .ref (ax 0)), (1, .int u)]) hx hb dL_signature_6 rfl hl (by decide) rfl (fun ls hl => ?_)
      refine lv_sipush (v := xI 1) hx hb dL_signature_7 (by decide +kernel) ?_
      refine vx_ret ?_
      exact W.iret (v := xI 1) hx hb hr (fun t ht hW => ⟨⟨_, (), rfl, (by rw [hcd]; rfl), (by show LWh D cI cZ cA ax A _ _ t.heap; rw [ht]; exact ⟨Q, cn, rt, wd, qf, T, hQ, h_T, hP1, hD⟩)⟩, hS1.F ht⟩) hS1.2.2 dL_signature_10
  refine vx_ret ?_
  exact W.iret (v := (nI ((s_sgc n B u).2))) hx hb hr (fun t ht hW => ⟨⟨_, (), rfl, (by rw [hc9]; rfl), (by show LWh D cI cZ cA ax A _ _ t.heap; rw [ht]; exact ⟨Q, cn, rt, wd, qf, T, hQ, h_T, hP, hD⟩)⟩, hS.F ht⟩) hS.2.2 dL_signature_5
set_option maxHeartbeats 4000000 in
set_option maxRecDepth 100000 in
theorem zL_answersMail (l : Launch) (hfl : l.stackTraces = false) (D : va_G) (cI cZ cA : ClassId) (ax : Nat → Nat) (A : Nat → Prop) (n : Nat) (B : Nat → Nat → Nat) (u : Int32) (w : Int32) (hB : Bok n B) : vx_Met l yL_answersMail wsL_answersMail ({ frames := 9, cells := 3, slots := 18, locals := 158 }) (PcZ D cI cZ cA ax A n B [.ref (ax 0), .int u, .int w]) (QZ D cI cZ cA ax A (rI ((s_ans n B u w).1) ((nI ((s_ans n B u w).2 / 8)))) (n) (B)) (fun _ _ _ => False) 3 18 A := by
  refine vx_ofWH (cc := cL_answersMail) (maxL := 4) (ret := (some .int)) (hh := [(0, 6, 7, 22), (0, 6, 12, 65), (0, 6, 17, 38)]) (by decide) rfl ?_
  intro p e s m args below meth c s₁ BL hml hv
  obtain ⟨rfl, hW, hK, hE, hNC, hA⟩ := hv
  obtain ⟨Q, cn, rt, wd, qf, T, hQ, h_T, hP, hD⟩ := hW
  have hx := BL.exec
  have hb := BL.bytes
  have hr := BL.returns
  have hts := atoms_spec (ws := wsL_answersMail) BL.pre
  have hown : s.vm.findClass RL = some m.cls := findClass_of_methodNamed BL.named
  have hlocks := BL.notSynchronized
  have htab := vx_table (x := yL_answersMail) BL (hts _ List.mem_cons_self)
  have hS : va_S A s.heap s.heap [] := va_S.rf
  have hP : va_P D vwCl ([] ++ (wX cI cZ cA ax n B Q cn rt wd qf T)) s.heap := hP
  have hD : va_D A ([] ++ (wX cI cZ cA ax n B Q cn rt wd qf T)) := hD
  have hE9 : EV (va_A ([] ++ (wX cI cZ cA ax n B Q cn rt wd qf T)) s.heap.size) s s.heap := hE.narrow (va_A_in hD hA)
  have hl := lv_entry ([.ref (ax 0), .int u, .int w]) (n := 4) (Nat.le_of_ble_eq_true rfl)
  rw [lg_entry_eq]
  generalize (lg_sl ([.ref (ax 0), .int u, .int w]) ++ List.replicate (4 - (lg_sl ([.ref (ax 0), .int u, .int w])).length) Slot.unset).toArray = ls at hl ⊢
  have hl : lv_has ls 4 [(0, .ref (ax 0)), (1, .int u), (2, .int w)] := hl
  refine lv_aload_n hx hb dL_answersMail_0 rfl (lv_at hl 0 rfl) ?_
  refine lv_iload_n hx hb dL_answersMail_1 rfl (lv_at hl 1 rfl) ?_
  refine lv_iload_n hx hb dL_answersMail_2 rfl (lv_at hl 2 rfl) ?_
  refine xl_Vi (wr := []) (As := [.int u, .int w]) (tys0 := tyZ cI cZ cA) ⟨hx, hb, hml, hown, hts⟩ (kX1_answersMail l hfl D cI cZ cA ax n B Q cn rt wd qf T u w hB hQ) (cwV 2 hts gL_answersMail_X1_answersMail rfl rfl rfl hdX1_answersMail ⟨Nat.le_of_ble_eq_true rfl, Nat.le_of_ble_eq_true rfl⟩) hK hK hP hE9 (ci := 3) rfl (q0 := 0) rfl rfl rfl hl.1 rfl (Nat.le_of_ble_eq_true rfl) dL_answersMail_3 ⟨Nat.le_of_ble_eq_true rfl, Nat.le_of_ble_eq_true rfl⟩ (fun E ce q9 H1 hF hz hk hce hcv hcl => ?_) (fun hc9 => ?_)
  · have hP1 := hP.kept (H1 := H1) (fun k x hx => hk x.1 ((hP k x hx).lt))
    have hS1 : va_S A s.heap H1 [] := ⟨hz, fun q h1 _ => hk q h1, fun _ h => nomatch h⟩
    rcases hF with ⟨rfl, hcd⟩ | ⟨rfl, hcd⟩ | ⟨rfl, hcd⟩
    · refine vx_catch (name := "java/lang/IndexOutOfBoundsException") hown [] ⟨0, 6, 7, 22⟩ [⟨0, 6, 12, 65⟩, ⟨0, 6, 17, 38⟩] (by rw [htab]; rfl) (fun z hz => nomatch hz) rfl (by decide) (hts (.classLink RL 22 "java/lang/IndexOutOfBoundsException") (by decide +kernel)) (va_Nw.use rfl (hE.2.2.1 (.castable "java/lang/IndexOutOfBoundsException" "java/lang/IndexOutOfBoundsException") (by decide +kernel))) hce hcv hcl ?_
      refine lv_astore_n (lv' := [(3, .ref q9), (0, .ref (ax 0)), (1, .int u), (2, .int w)]) hx hb dL_answersMail_7 rfl hl (by decide) rfl (fun ls hl => ?_)
      refine lv_sipush (v := xI 1) hx hb dL_answersMail_8 (by decide +kernel) ?_
      refine vx_ret ?_
      exact W.iret (v := xI 1) hx hb hr (fun t ht hW => ⟨⟨_, (), rfl, (by rw [hcd]; rfl), (by show LWh D cI cZ cA ax A _ _ t.heap; rw [ht]; exact ⟨Q, cn, rt, wd, qf, T, hQ, h_T, hP1, hD⟩)⟩, hS1.F ht⟩) hS1.2.2 dL_answersMail_11
    · refine vx_catch (name := "java/lang/UnsupportedOperationException") hown [⟨0, 6, 7, 22⟩] ⟨0, 6, 12, 65⟩ [⟨0, 6, 17, 38⟩] (by rw [htab]; rfl) (fun z hz => by simp only [List.mem_cons, List.not_mem_nil, or_false] at hz; rcases hz with rfl; exact Or.inr ⟨by decide, "java/lang/IndexOutOfBoundsException", hts (.classLink RL 22 "java/lang/IndexOutOfBoundsException") (by decide +kernel), hNC ("java/lang/UnsupportedOperationException", "java/lang/IndexOutOfBoundsException") (by decide +kernel)⟩) rfl (by decide) (hts (.classLink RL 65 "java/lang/UnsupportedOperationException") (by decide +kernel)) (va_Nw.use rfl (hE.2.2.1 (.castable "java/lang/UnsupportedOperationException" "java/lang/UnsupportedOperationException") (by decide +kernel))) hce hcv hcl ?_
      refine lv_astore_n (lv' := [(3, .ref q9), (0, .ref (ax 0)), (1, .int u), (2, .int w)]) hx hb dL_answersMail_12 rfl hl (by decide) rfl (fun ls hl => ?_)
      refine lv_sipush (v := xI 2) hx hb dL_answersMail_13 (by decide +kernel) ?_
      refine vx_ret ?_
      exact W.iret (v := xI 2) hx hb hr (fun t ht hW => ⟨⟨_, (), rfl, (by rw [hcd]; rfl), (by show LWh D cI cZ cA ax A _ _ t.heap; rw [ht]; exact ⟨Q, cn, rt, wd, qf, T, hQ, h_T, hP1, hD⟩)⟩, hS1.F ht⟩) hS1.2.2 dL_answersMail_16
    · refine vx_catch (name := "java/util/NoSuchElementException") hown [⟨0, 6, 7, 22⟩, ⟨0, 6, 12, 65⟩] ⟨0, 6, 17, 38⟩ [] (by rw [htab]; rfl) (fun z hz => by simp only [List.mem_cons, List.not_mem_nil, or_false] at hz; rcases hz with rfl | rfl; (exact Or.inr ⟨by decide, "java/lang/IndexOutOfBoundsException", hts (.classLink RL 22 "java/lang/IndexOutOfBoundsException") (by decide +kernel), hNC ("java/util/NoSuchElementException", "java/lang/IndexOutOfBoundsException") (by decide +kernel)⟩); (exact Or.inr ⟨by decide, "java/lang/UnsupportedOperationException", hts (.classLink RL 65 "java/lang/UnsupportedOperationException") (by decide +kernel), hNC ("java/util/NoSuchElementException", "java/lang/UnsupportedOperationException") (by decide +kernel)⟩)) rfl (by decide) (hts (.classLink RL 38 "java/util/NoSuchElementException") (by decide +kernel)) (va_Nw.use rfl (hE.2.2.1 (.castable "java/util/NoSuchElementException" "java/util/NoSuchElementException") (by decide +kernel))) hce hcv hcl ?_
      refine lv_astore_n (lv' := [(3, .ref q9), (0, .ref (ax 0)), (1, .int u), (2, .int w)]) hx hb dL_answersMail_17 rfl hl (by decide) rfl (fun ls hl => ?_)
      refine lv_sipush (v := xI 3) hx hb dL_answersMail_18 (by decide +kernel) ?_
      refine vx_ret ?_
      exact W.iret (v := xI 3) hx hb hr (fun t ht hW => ⟨⟨_, (), rfl, (by rw [hcd]; rfl), (by show LWh D cI cZ cA ax A _ _ t.heap; rw [ht]; exact ⟨Q, cn, rt, wd, qf, T, hQ, h_T, hP1, hD⟩)⟩, hS1.F ht⟩) hS1.2.2 dL_answersMail_21
  refine vx_ret ?_
  exact W.iret (v := (nI ((s_ans n B u w).2 / 8))) hx hb hr (fun t ht hW => ⟨⟨_, (), rfl, (by rw [hc9]; rfl), (by show LWh D cI cZ cA ax A _ _ t.heap; rw [ht]; exact ⟨Q, cn, rt, wd, qf, T, hQ, h_T, hP, hD⟩)⟩, hS.F ht⟩) hS.2.2 dL_answersMail_6
set_option maxHeartbeats 4000000 in
set_option maxRecDepth 100000 in
theorem zL_answersLine (l : Launch) (hfl : l.stackTraces = false) (D : va_G) (cI cZ cA : ClassId) (ax : Nat → Nat) (A : Nat → Prop) (n : Nat) (B : Nat → Nat → Nat) (u : Int32) (w : Int32) (hB : Bok n B) : vx_Met l yL_answersLine wsL_answersLine ({ frames := 9, cells := 3, slots := 18, locals := 158 }) (PcZ D cI cZ cA ax A n B [.ref (ax 0), .int u, .int w]) (QZ D cI cZ cA ax A (rI ((s_ans n B u w).1) ((nI ((s_ans n B u w).2 % 8)))) (n) (B)) (fun _ _ _ => False) 3 18 A := by
  refine vx_ofWH (cc := cL_answersLine) (maxL := 4) (ret := (some .int)) (hh := [(0, 6, 7, 22), (0, 6, 12, 65), (0, 6, 17, 38)]) (by decide) rfl ?_
  intro p e s m args below meth c s₁ BL hml hv
  obtain ⟨rfl, hW, hK, hE, hNC, hA⟩ := hv
  obtain ⟨Q, cn, rt, wd, qf, T, hQ, h_T, hP, hD⟩ := hW
  have hx := BL.exec
  have hb := BL.bytes
  have hr := BL.returns
  have hts := atoms_spec (ws := wsL_answersLine) BL.pre
  have hown : s.vm.findClass RL = some m.cls := findClass_of_methodNamed BL.named
  have hlocks := BL.notSynchronized
  have htab := vx_table (x := yL_answersLine) BL (hts _ List.mem_cons_self)
  have hS : va_S A s.heap s.heap [] := va_S.rf
  have hP : va_P D vwCl ([] ++ (wX cI cZ cA ax n B Q cn rt wd qf T)) s.heap := hP
  have hD : va_D A ([] ++ (wX cI cZ cA ax n B Q cn rt wd qf T)) := hD
  have hE9 : EV (va_A ([] ++ (wX cI cZ cA ax n B Q cn rt wd qf T)) s.heap.size) s s.heap := hE.narrow (va_A_in hD hA)
  have hl := lv_entry ([.ref (ax 0), .int u, .int w]) (n := 4) (Nat.le_of_ble_eq_true rfl)
  rw [lg_entry_eq]
  generalize (lg_sl ([.ref (ax 0), .int u, .int w]) ++ List.replicate (4 - (lg_sl ([.ref (ax 0), .int u, .int w])).length) Slot.unset).toArray = ls at hl ⊢
  have hl : lv_has ls 4 [(0, .ref (ax 0)), (1, .int u), (2, .int w)] := hl
  refine lv_aload_n hx hb dL_answersLine_0 rfl (lv_at hl 0 rfl) ?_
  refine lv_iload_n hx hb dL_answersLine_1 rfl (lv_at hl 1 rfl) ?_
  refine lv_iload_n hx hb dL_answersLine_2 rfl (lv_at hl 2 rfl) ?_
  refine xl_Vi (wr := []) (As := [.int u, .int w]) (tys0 := tyZ cI cZ cA) ⟨hx, hb, hml, hown, hts⟩ (kX1_answersLine l hfl D cI cZ cA ax n B Q cn rt wd qf T u w hB hQ) (cwV 2 hts gL_answersLine_X1_answersLine rfl rfl rfl hdX1_answersLine ⟨Nat.le_of_ble_eq_true rfl, Nat.le_of_ble_eq_true rfl⟩) hK hK hP hE9 (ci := 3) rfl (q0 := 0) rfl rfl rfl hl.1 rfl (Nat.le_of_ble_eq_true rfl) dL_answersLine_3 ⟨Nat.le_of_ble_eq_true rfl, Nat.le_of_ble_eq_true rfl⟩ (fun E ce q9 H1 hF hz hk hce hcv hcl => ?_) (fun hc9 => ?_)
  · have hP1 := hP.kept (H1 := H1) (fun k x hx => hk x.1 ((hP k x hx).lt))
    have hS1 : va_S A s.heap H1 [] := ⟨hz, fun q h1 _ => hk q h1, fun _ h => nomatch h⟩
    rcases hF with ⟨rfl, hcd⟩ | ⟨rfl, hcd⟩ | ⟨rfl, hcd⟩
    · refine vx_catch (name := "java/lang/IndexOutOfBoundsException") hown [] ⟨0, 6, 7, 22⟩ [⟨0, 6, 12, 65⟩, ⟨0, 6, 17, 38⟩] (by rw [htab]; rfl) (fun z hz => nomatch hz) rfl (by decide) (hts (.classLink RL 22 "java/lang/IndexOutOfBoundsException") (by decide +kernel)) (va_Nw.use rfl (hE.2.2.1 (.castable "java/lang/IndexOutOfBoundsException" "java/lang/IndexOutOfBoundsException") (by decide +kernel))) hce hcv hcl ?_
      refine lv_astore_n (lv' := [(3, .ref q9), (0, .ref (ax 0)), (1, .int u), (2, .int w)]) hx hb dL_answersLine_7 rfl hl (by decide) rfl (fun ls hl => ?_)
      refine lv_sipush (v := xI 1) hx hb dL_answersLine_8 (by decide +kernel) ?_
      refine vx_ret ?_
      exact W.iret (v := xI 1) hx hb hr (fun t ht hW => ⟨⟨_, (), rfl, (by rw [hcd]; rfl), (by show LWh D cI cZ cA ax A _ _ t.heap; rw [ht]; exact ⟨Q, cn, rt, wd, qf, T, hQ, h_T, hP1, hD⟩)⟩, hS1.F ht⟩) hS1.2.2 dL_answersLine_11
    · refine vx_catch (name := "java/lang/UnsupportedOperationException") hown [⟨0, 6, 7, 22⟩] ⟨0, 6, 12, 65⟩ [⟨0, 6, 17, 38⟩] (by rw [htab]; rfl) (fun z hz => by simp only [List.mem_cons, List.not_mem_nil, or_false] at hz; rcases hz with rfl; exact Or.inr ⟨by decide, "java/lang/IndexOutOfBoundsException", hts (.classLink RL 22 "java/lang/IndexOutOfBoundsException") (by decide +kernel), hNC ("java/lang/UnsupportedOperationException", "java/lang/IndexOutOfBoundsException") (by decide +kernel)⟩) rfl (by decide) (hts (.classLink RL 65 "java/lang/UnsupportedOperationException") (by decide +kernel)) (va_Nw.use rfl (hE.2.2.1 (.castable "java/lang/UnsupportedOperationException" "java/lang/UnsupportedOperationException") (by decide +kernel))) hce hcv hcl ?_
      refine lv_astore_n (lv' := [(3, .ref q9), (0, .ref (ax 0)), (1, .int u), (2, .int w)]) hx hb dL_answersLine_12 rfl hl (by decide) rfl (fun ls hl => ?_)
      refine lv_sipush (v := xI 2) hx hb dL_answersLine_13 (by decide +kernel) ?_
      refine vx_ret ?_
      exact W.iret (v := xI 2) hx hb hr (fun t ht hW => ⟨⟨_, (), rfl, (by rw [hcd]; rfl), (by show LWh D cI cZ cA ax A _ _ t.heap; rw [ht]; exact ⟨Q, cn, rt, wd, qf, T, hQ, h_T, hP1, hD⟩)⟩, hS1.F ht⟩) hS1.2.2 dL_answersLine_16
    · refine vx_catch (name := "java/util/NoSuchElementException") hown [⟨0, 6, 7, 22⟩, ⟨0, 6, 12, 65⟩] ⟨0, 6, 17, 38⟩ [] (by rw [htab]; rfl) (fun z hz => by simp only [List.mem_cons, List.not_mem_nil, or_false] at hz; rcases hz with rfl | rfl; (exact Or.inr ⟨by decide, "java/lang/IndexOutOfBoundsException", hts (.classLink RL 22 "java/lang/IndexOutOfBoundsException") (by decide +kernel), hNC ("java/util/NoSuchElementException", "java/lang/IndexOutOfBoundsException") (by decide +kernel)⟩); (exact Or.inr ⟨by decide, "java/lang/UnsupportedOperationException", hts (.classLink RL 65 "java/lang/UnsupportedOperationException") (by decide +kernel), hNC ("java/util/NoSuchElementException", "java/lang/UnsupportedOperationException") (by decide +kernel)⟩)) rfl (by decide) (hts (.classLink RL 38 "java/util/NoSuchElementException") (by decide +kernel)) (va_Nw.use rfl (hE.2.2.1 (.castable "java/util/NoSuchElementException" "java/util/NoSuchElementException") (by decide +kernel))) hce hcv hcl ?_
      refine lv_astore_n (lv' := [(3, .ref q9), (0, .ref (ax 0)), (1, .int u), (2, .int w)]) hx hb dL_answersLine_17 rfl hl (by decide) rfl (fun ls hl => ?_)
      refine lv_sipush (v := xI 3) hx hb dL_answersLine_18 (by decide +kernel) ?_
      refine vx_ret ?_
      exact W.iret (v := xI 3) hx hb hr (fun t ht hW => ⟨⟨_, (), rfl, (by rw [hcd]; rfl), (by show LWh D cI cZ cA ax A _ _ t.heap; rw [ht]; exact ⟨Q, cn, rt, wd, qf, T, hQ, h_T, hP1, hD⟩)⟩, hS1.F ht⟩) hS1.2.2 dL_answersLine_21
  refine vx_ret ?_
  exact W.iret (v := (nI ((s_ans n B u w).2 % 8))) hx hb hr (fun t ht hW => ⟨⟨_, (), rfl, (by rw [hc9]; rfl), (by show LWh D cI cZ cA ax A _ _ t.heap; rw [ht]; exact ⟨Q, cn, rt, wd, qf, T, hQ, h_T, hP, hD⟩)⟩, hS.F ht⟩) hS.2.2 dL_answersLine_6
set_option maxHeartbeats 4000000 in
set_option maxRecDepth 100000 in
theorem zL_answers (l : Launch) (hfl : l.stackTraces = false) (D : va_G) (cI cZ cA : ClassId) (ax : Nat → Nat) (A : Nat → Prop) (n : Nat) (B : Nat → Nat → Nat) (u : Int32) (w : Int32) (hB : Bok n B) : vx_Met l yL_answers wsL_answers ({ frames := 9, cells := 2, slots := 12, locals := 150 }) (PcZ D cI cZ cA ax A n B [.ref (ax 0), .int u, .int w]) (QZ D cI cZ cA ax A (rI ((s_asn n B u w).1) ((nI ((s_asn n B u w).2)))) (n) (B)) (fun _ _ _ => False) 2 12 A := by
  refine vx_ofWH (cc := cL_answers) (maxL := 4) (ret := (some .int)) (hh := [(0, 6, 7, 22)]) (by decide) rfl ?_
  intro p e s m args below meth c s₁ BL hml hv
  obtain ⟨rfl, hW, hK, hE, hNC, hA⟩ := hv
  obtain ⟨Q, cn, rt, wd, qf, T, hQ, h_T, hP, hD⟩ := hW
  have hx := BL.exec
  have hb := BL.bytes
  have hr := BL.returns
  have hts := atoms_spec (ws := wsL_answers) BL.pre
  have hown : s.vm.findClass RL = some m.cls := findClass_of_methodNamed BL.named
  have hlocks := BL.notSynchronized
  have htab := vx_table (x := yL_answers) BL (hts _ List.mem_cons_self)
  have hS : va_S A s.heap s.heap [] := va_S.rf
  have hP : va_P D vwCl ([] ++ (wX cI cZ cA ax n B Q cn rt wd qf T)) s.heap := hP
  have hD : va_D A ([] ++ (wX cI cZ cA ax n B Q cn rt wd qf T)) := hD
  have hE9 : EV (va_A ([] ++ (wX cI cZ cA ax n B Q cn rt wd qf T)) s.heap.size) s s.heap := hE.narrow (va_A_in hD hA)
  have hl := lv_entry ([.ref (ax 0), .int u, .int w]) (n := 4) (Nat.le_of_ble_eq_true rfl)
  rw [lg_entry_eq]
  generalize (lg_sl ([.ref (ax 0), .int u, .int w]) ++ List.replicate (4 - (lg_sl ([.ref (ax 0), .int u, .int w])).length) Slot.unset).toArray = ls at hl ⊢
  have hl : lv_has ls 4 [(0, .ref (ax 0)), (1, .int u), (2, .int w)] := hl
  refine lv_aload_n hx hb dL_answers_0 rfl (lv_at hl 0 rfl) ?_
  refine lv_iload_n hx hb dL_answers_1 rfl (lv_at hl 1 rfl) ?_
  refine lv_iload_n hx hb dL_answers_2 rfl (lv_at hl 2 rfl) ?_
  refine xl_Vi (wr := []) (As := [.int u, .int w]) (tys0 := tyZ cI cZ cA) ⟨hx, hb, hml, hown, hts⟩ (kX1_answers l hfl D cI cZ cA ax n B Q cn rt wd qf T u w hB hQ) (cwV 2 hts gL_answers_X1_answers rfl rfl rfl hdX1_answers ⟨Nat.le_of_ble_eq_true rfl, Nat.le_of_ble_eq_true rfl⟩) hK hK hP hE9 (ci := 3) rfl (q0 := 0) rfl rfl rfl hl.1 rfl (Nat.le_of_ble_eq_true rfl) dL_answers_3 ⟨Nat.le_of_ble_eq_true rfl, Nat.le_of_ble_eq_true rfl⟩ (fun E ce q9 H1 hF hz hk hce hcv hcl => ?_) (fun hc9 => ?_)
  · have hP1 := hP.kept (H1 := H1) (fun k x hx => hk x.1 ((hP k x hx).lt))
    have hS1 : va_S A s.heap H1 [] := ⟨hz, fun q h1 _ => hk q h1, fun _ h => nomatch h⟩
    rcases hF with ⟨rfl, hcd⟩
    · refine vx_catch (name := "java/lang/IndexOutOfBoundsException") hown [] ⟨0, 6, 7, 22⟩ [] (by rw [htab]; rfl) (fun z hz => nomatch hz) rfl (by decide) (hts (.classLink RL 22 "java/lang/IndexOutOfBoundsException") (by decide +kernel)) (va_Nw.use rfl (hE.2.2.1 (.castable "java/lang/IndexOutOfBoundsException" "java/lang/IndexOutOfBoundsException") (by decide +kernel))) hce hcv hcl ?_
      refine lv_astore_n (lv' := [(3, .ref q9), (0, .ref (ax 0)), (1, .int u), (2, .int w)]) hx hb dL_answers_7 rfl hl (by decide) rfl (fun ls hl => ?_)
      refine lv_sipush (v := xI 1) hx hb dL_answers_8 (by decide +kernel) ?_
      refine vx_ret ?_
      exact W.iret (v := xI 1) hx hb hr (fun t ht hW => ⟨⟨_, (), rfl, (by rw [hcd]; rfl), (by show LWh D cI cZ cA ax A _ _ t.heap; rw [ht]; exact ⟨Q, cn, rt, wd, qf, T, hQ, h_T, hP1, hD⟩)⟩, hS1.F ht⟩) hS1.2.2 dL_answers_11
  refine vx_ret ?_
  exact W.iret (v := (nI ((s_asn n B u w).2))) hx hb hr (fun t ht hW => ⟨⟨_, (), rfl, (by rw [hc9]; rfl), (by show LWh D cI cZ cA ax A _ _ t.heap; rw [ht]; exact ⟨Q, cn, rt, wd, qf, T, hQ, h_T, hP, hD⟩)⟩, hS.F ht⟩) hS.2.2 dL_answers_6
set_option maxHeartbeats 4000000 in
set_option maxRecDepth 100000 in
theorem zL_copies (l : Launch) (hfl : l.stackTraces = false) (D : va_G) (cI cZ cA : ClassId) (ax : Nat → Nat) (A : Nat → Prop) (n : Nat) (B : Nat → Nat → Nat) (u : Int32) (w : Int32) (hB : Bok n B) : vx_Met l yL_copies wsL_copies ({ frames := 9, cells := 3, slots := 18, locals := 150 }) (PcZ D cI cZ cA ax A n B [.ref (ax 0), .int u, .int w]) (QZ D cI cZ cA ax A (rI ((s_cop n B u w).1) ((nI ((s_cop n B u w).2)))) (n) (B)) (fun _ _ _ => False) 3 18 A := by
  refine vx_ofWH (cc := cL_copies) (maxL := 4) (ret := (some .int)) (hh := [(0, 6, 7, 22), (0, 6, 12, 65)]) (by decide) rfl ?_
  intro p e s m args below meth c s₁ BL hml hv
  obtain ⟨rfl, hW, hK, hE, hNC, hA⟩ := hv
  obtain ⟨Q, cn, rt, wd, qf, T, hQ, h_T, hP, hD⟩ := hW
  have hx := BL.exec
  have hb := BL.bytes
  have hr := BL.returns
  have hts := atoms_spec (ws := wsL_copies) BL.pre
  have hown : s.vm.findClass RL = some m.cls := findClass_of_methodNamed BL.named
  have hlocks := BL.notSynchronized
  have htab := vx_table (x := yL_copies) BL (hts _ List.mem_cons_self)
  have hS : va_S A s.heap s.heap [] := va_S.rf
  have hP : va_P D vwCl ([] ++ (wX cI cZ cA ax n B Q cn rt wd qf T)) s.heap := hP
  have hD : va_D A ([] ++ (wX cI cZ cA ax n B Q cn rt wd qf T)) := hD
  have hE9 : EV (va_A ([] ++ (wX cI cZ cA ax n B Q cn rt wd qf T)) s.heap.size) s s.heap := hE.narrow (va_A_in hD hA)
  have hl := lv_entry ([.ref (ax 0), .int u, .int w]) (n := 4) (Nat.le_of_ble_eq_true rfl)
  rw [lg_entry_eq]
  generalize (lg_sl ([.ref (ax 0), .int u, .int w]) ++ List.replicate (4 - (lg_sl ([.ref (ax 0), .int u, .int w])).length) Slot.unset).toArray = ls at hl ⊢
  have hl : lv_has ls 4 [(0, .ref (ax 0)), (1, .int u), (2, .int w)] := hl
  refine lv_aload_n hx hb dL_copies_0 rfl (lv_at hl 0 rfl) ?_
  refine lv_iload_n hx hb dL_copies_1 rfl (lv_at hl 1 rfl) ?_
  refine lv_iload_n hx hb dL_copies_2 rfl (lv_at hl 2 rfl) ?_
  refine xl_Vi (wr := []) (As := [.int u, .int w]) (tys0 := tyZ cI cZ cA) ⟨hx, hb, hml, hown, hts⟩ (kX1_copies l hfl D cI cZ cA ax n B Q cn rt wd qf T u w hB hQ) (cwV 2 hts gL_copies_X1_copies rfl rfl rfl hdX1_copies ⟨Nat.le_of_ble_eq_true rfl, Nat.le_of_ble_eq_true rfl⟩) hK hK hP hE9 (ci := 3) rfl (q0 := 0) rfl rfl rfl hl.1 rfl (Nat.le_of_ble_eq_true rfl) dL_copies_3 ⟨Nat.le_of_ble_eq_true rfl, Nat.le_of_ble_eq_true rfl⟩ (fun E ce q9 H1 hF hz hk hce hcv hcl => ?_) (fun hc9 => ?_)
  · have hP1 := hP.kept (H1 := H1) (fun k x hx => hk x.1 ((hP k x hx).lt))
    have hS1 : va_S A s.heap H1 [] := ⟨hz, fun q h1 _ => hk q h1, fun _ h => nomatch h⟩
    rcases hF with ⟨rfl, hcd⟩ | ⟨rfl, hcd⟩
    · refine vx_catch (name := "java/lang/IndexOutOfBoundsException") hown [] ⟨0, 6, 7, 22⟩ [⟨0, 6, 12, 65⟩] (by rw [htab]; rfl) (fun z hz => nomatch hz) rfl (by decide) (hts (.classLink RL 22 "java/lang/IndexOutOfBoundsException") (by decide +kernel)) (va_Nw.use rfl (hE.2.2.1 (.castable "java/lang/IndexOutOfBoundsException" "java/lang/IndexOutOfBoundsException") (by decide +kernel))) hce hcv hcl ?_
      refine lv_astore_n (lv' := [(3, .ref q9), (0, .ref (ax 0)), (1, .int u), (2, .int w)]) hx hb dL_copies_7 rfl hl (by decide) rfl (fun ls hl => ?_)
      refine lv_sipush (v := xI 1) hx hb dL_copies_8 (by decide +kernel) ?_
      refine vx_ret ?_
      exact W.iret (v := xI 1) hx hb hr (fun t ht hW => ⟨⟨_, (), rfl, (by rw [hcd]; rfl), (by show LWh D cI cZ cA ax A _ _ t.heap; rw [ht]; exact ⟨Q, cn, rt, wd, qf, T, hQ, h_T, hP1, hD⟩)⟩, hS1.F ht⟩) hS1.2.2 dL_copies_11
    · refine vx_catch (name := "java/lang/UnsupportedOperationException") hown [⟨0, 6, 7, 22⟩] ⟨0, 6, 12, 65⟩ [] (by rw [htab]; rfl) (fun z hz => by simp only [List.mem_cons, List.not_mem_nil, or_false] at hz; rcases hz with rfl; exact Or.inr ⟨by decide, "java/lang/IndexOutOfBoundsException", hts (.classLink RL 22 "java/lang/IndexOutOfBoundsException") (by decide +kernel), hNC ("java/lang/UnsupportedOperationException", "java/lang/IndexOutOfBoundsException") (by decide +kernel)⟩) rfl (by decide) (hts (.classLink RL 65 "java/lang/UnsupportedOperationException") (by decide +kernel)) (va_Nw.use rfl (hE.2.2.1 (.castable "java/lang/UnsupportedOperationException" "java/lang/UnsupportedOperationException") (by decide +kernel))) hce hcv hcl ?_
      refine lv_astore_n (lv' := [(3, .ref q9), (0, .ref (ax 0)), (1, .int u), (2, .int w)]) hx hb dL_copies_12 rfl hl (by decide) rfl (fun ls hl => ?_)
      refine lv_sipush (v := xI 2) hx hb dL_copies_13 (by decide +kernel) ?_
      refine vx_ret ?_
      exact W.iret (v := xI 2) hx hb hr (fun t ht hW => ⟨⟨_, (), rfl, (by rw [hcd]; rfl), (by show LWh D cI cZ cA ax A _ _ t.heap; rw [ht]; exact ⟨Q, cn, rt, wd, qf, T, hQ, h_T, hP1, hD⟩)⟩, hS1.F ht⟩) hS1.2.2 dL_copies_16
  refine vx_ret ?_
  exact W.iret (v := (nI ((s_cop n B u w).2))) hx hb hr (fun t ht hW => ⟨⟨_, (), rfl, (by rw [hc9]; rfl), (by show LWh D cI cZ cA ax A _ _ t.heap; rw [ht]; exact ⟨Q, cn, rt, wd, qf, T, hQ, h_T, hP, hD⟩)⟩, hS.F ht⟩) hS.2.2 dL_copies_6
set_option maxHeartbeats 4000000 in
set_option maxRecDepth 100000 in
theorem zL_root (l : Launch) (hfl : l.stackTraces = false) (D : va_G) (cI cZ cA : ClassId) (ax : Nat → Nat) (A : Nat → Prop) (n : Nat) (B : Nat → Nat → Nat) (u : Int32) (hB : Bok n B) : vx_Met l yL_root wsL_root ({ frames := 8, cells := 1, slots := 6, locals := 124 }) (PcZ D cI cZ cA ax A n B [.ref (ax 0), .int u]) (QZ D cI cZ cA ax A (rI ((s_rtc n B u).1) ((nI ((s_rtc n B u).2)))) (n) (B)) (fun _ _ _ => False) 1 6 A := by
  refine vx_ofWH (cc := cL_root) (maxL := 3) (ret := (some .int)) (hh := [(0, 5, 6, 22)]) (by decide) rfl ?_
  intro p e s m args below meth c s₁ BL hml hv
  obtain ⟨rfl, hW, hK, hE, hNC, hA⟩ := hv
  obtain ⟨Q, cn, rt, wd, qf, T, hQ, h_T, hP, hD⟩ := hW
  have hx := BL.exec
  have hb := BL.bytes
  have hr := BL.returns
  have hts := atoms_spec (ws := wsL_root) BL.pre
  have hown : s.vm.findClass RL = some m.cls := findClass_of_methodNamed BL.named
  have hlocks := BL.notSynchronized
  have htab := vx_table (x := yL_root) BL (hts _ List.mem_cons_self)
  have hS : va_S A s.heap s.heap [] := va_S.rf
  have hP : va_P D vwCl ([] ++ (wX cI cZ cA ax n B Q cn rt wd qf T)) s.heap := hP
  have hD : va_D A ([] ++ (wX cI cZ cA ax n B Q cn rt wd qf T)) := hD
  have hE9 : EV (va_A ([] ++ (wX cI cZ cA ax n B Q cn rt wd qf T)) s.heap.size) s s.heap := hE.narrow (va_A_in hD hA)
  have hl := lv_entry ([.ref (ax 0), .int u]) (n := 3) (Nat.le_of_ble_eq_true rfl)
  rw [lg_entry_eq]
  generalize (lg_sl ([.ref (ax 0), .int u]) ++ List.replicate (3 - (lg_sl ([.ref (ax 0), .int u])).length) Slot.unset).toArray = ls at hl ⊢
  have hl : lv_has ls 3 [(0, .ref (ax 0)), (1, .int u)] := hl
  refine lv_aload_n hx hb dL_root_0 rfl (lv_at hl 0 rfl) ?_
  refine lv_iload_n hx hb dL_root_1 rfl (lv_at hl 1 rfl) ?_
  refine xl_Vi (wr := []) (As := [.int u]) (tys0 := tyZ cI cZ cA) ⟨hx, hb, hml, hown, hts⟩ (kX1_root l hfl D cI cZ cA ax n B Q cn rt wd qf T u hB) (cwV 1 hts gL_root_X1_root rfl rfl rfl hdX1_root ⟨Nat.le_of_ble_eq_true rfl, Nat.le_of_ble_eq_true rfl⟩) hK hK hP hE9 (ci := 3) rfl (q0 := 0) rfl rfl rfl hl.1 rfl (Nat.le_of_ble_eq_true rfl) dL_root_2 ⟨Nat.le_of_ble_eq_true rfl, Nat.le_of_ble_eq_true rfl⟩ (fun E ce q9 H1 hF hz hk hce hcv hcl => ?_) (fun hc9 => ?_)
  · have hP1 := hP.kept (H1 := H1) (fun k x hx => hk x.1 ((hP k x hx).lt))
    have hS1 : va_S A s.heap H1 [] := ⟨hz, fun q h1 _ => hk q h1, fun _ h => nomatch h⟩
    rcases hF with ⟨rfl, hcd⟩
    · refine vx_catch (name := "java/lang/IndexOutOfBoundsException") hown [] ⟨0, 5, 6, 22⟩ [] (by rw [htab]; rfl) (fun z hz => nomatch hz) rfl (by decide) (hts (.classLink RL 22 "java/lang/IndexOutOfBoundsException") (by decide +kernel)) (va_Nw.use rfl (hE.2.2.1 (.castable "java/lang/IndexOutOfBoundsException" "java/lang/IndexOutOfBoundsException") (by decide +kernel))) hce hcv hcl ?_
      refine lv_astore_n (lv' := [(2, .ref q9), (0, .ref (ax 0)), (1, .int u)]) hx hb dL_root_6 rfl hl (by decide) rfl (fun ls hl => ?_)
      refine lv_sipush (v := xI 1) hx hb dL_root_7 (by decide +kernel) ?_
      refine vx_ret ?_
      exact W.iret (v := xI 1) hx hb hr (fun t ht hW => ⟨⟨_, (), rfl, (by rw [hcd]; rfl), (by show LWh D cI cZ cA ax A _ _ t.heap; rw [ht]; exact ⟨Q, cn, rt, wd, qf, T, hQ, h_T, hP1, hD⟩)⟩, hS1.F ht⟩) hS1.2.2 dL_root_10
  refine vx_ret ?_
  exact W.iret (v := (nI ((s_rtc n B u).2))) hx hb hr (fun t ht hW => ⟨⟨_, (), rfl, (by rw [hc9]; rfl), (by show LWh D cI cZ cA ax A _ _ t.heap; rw [ht]; exact ⟨Q, cn, rt, wd, qf, T, hQ, h_T, hP, hD⟩)⟩, hS.F ht⟩) hS.2.2 dL_root_5
set_option maxHeartbeats 4000000 in
set_option maxRecDepth 100000 in
theorem zL_size (l : Launch) (hfl : l.stackTraces = false) (D : va_G) (cI cZ cA : ClassId) (ax : Nat → Nat) (A : Nat → Prop) (n : Nat) (B : Nat → Nat → Nat) (u : Int32) (hB : Bok n B) : vx_Met l yL_size wsL_size ({ frames := 8, cells := 1, slots := 6, locals := 127 }) (PcZ D cI cZ cA ax A n B [.ref (ax 0), .int u]) (QZ D cI cZ cA ax A (rI ((s_sz n B u).1) ((nI ((s_sz n B u).2)))) (n) (B)) (fun _ _ _ => False) 1 6 A := by
  refine vx_ofWH (cc := cL_size) (maxL := 3) (ret := (some .int)) (hh := [(0, 5, 6, 22)]) (by decide) rfl ?_
  intro p e s m args below meth c s₁ BL hml hv
  obtain ⟨rfl, hW, hK, hE, hNC, hA⟩ := hv
  obtain ⟨Q, cn, rt, wd, qf, T, hQ, h_T, hP, hD⟩ := hW
  have hx := BL.exec
  have hb := BL.bytes
  have hr := BL.returns
  have hts := atoms_spec (ws := wsL_size) BL.pre
  have hown : s.vm.findClass RL = some m.cls := findClass_of_methodNamed BL.named
  have hlocks := BL.notSynchronized
  have htab := vx_table (x := yL_size) BL (hts _ List.mem_cons_self)
  have hS : va_S A s.heap s.heap [] := va_S.rf
  have hP : va_P D vwCl ([] ++ (wX cI cZ cA ax n B Q cn rt wd qf T)) s.heap := hP
  have hD : va_D A ([] ++ (wX cI cZ cA ax n B Q cn rt wd qf T)) := hD
  have hE9 : EV (va_A ([] ++ (wX cI cZ cA ax n B Q cn rt wd qf T)) s.heap.size) s s.heap := hE.narrow (va_A_in hD hA)
  have hl := lv_entry ([.ref (ax 0), .int u]) (n := 3) (Nat.le_of_ble_eq_true rfl)
  rw [lg_entry_eq]
  generalize (lg_sl ([.ref (ax 0), .int u]) ++ List.replicate (3 - (lg_sl ([.ref (ax 0), .int u])).length) Slot.unset).toArray = ls at hl ⊢
  have hl : lv_has ls 3 [(0, .ref (ax 0)), (1, .int u)] := hl
  refine lv_aload_n hx hb dL_size_0 rfl (lv_at hl 0 rfl) ?_
  refine lv_iload_n hx hb dL_size_1 rfl (lv_at hl 1 rfl) ?_
  refine xl_Vi (wr := []) (As := [.int u]) (tys0 := tyZ cI cZ cA) ⟨hx, hb, hml, hown, hts⟩ (kX1_size l hfl D cI cZ cA ax n B Q cn rt wd qf T u hB) (cwV 1 hts gL_size_X1_size rfl rfl rfl hdX1_size ⟨Nat.le_of_ble_eq_true rfl, Nat.le_of_ble_eq_true rfl⟩) hK hK hP hE9 (ci := 3) rfl (q0 := 0) rfl rfl rfl hl.1 rfl (Nat.le_of_ble_eq_true rfl) dL_size_2 ⟨Nat.le_of_ble_eq_true rfl, Nat.le_of_ble_eq_true rfl⟩ (fun E ce q9 H1 hF hz hk hce hcv hcl => ?_) (fun hc9 => ?_)
  · have hP1 := hP.kept (H1 := H1) (fun k x hx => hk x.1 ((hP k x hx).lt))
    have hS1 : va_S A s.heap H1 [] := ⟨hz, fun q h1 _ => hk q h1, fun _ h => nomatch h⟩
    rcases hF with ⟨rfl, hcd⟩
    · refine vx_catch (name := "java/lang/IndexOutOfBoundsException") hown [] ⟨0, 5, 6, 22⟩ [] (by rw [htab]; rfl) (fun z hz => nomatch hz) rfl (by decide) (hts (.classLink RL 22 "java/lang/IndexOutOfBoundsException") (by decide +kernel)) (va_Nw.use rfl (hE.2.2.1 (.castable "java/lang/IndexOutOfBoundsException" "java/lang/IndexOutOfBoundsException") (by decide +kernel))) hce hcv hcl ?_
      refine lv_astore_n (lv' := [(2, .ref q9), (0, .ref (ax 0)), (1, .int u)]) hx hb dL_size_6 rfl hl (by decide) rfl (fun ls hl => ?_)
      refine lv_sipush (v := xI 1) hx hb dL_size_7 (by decide +kernel) ?_
      refine vx_ret ?_
      exact W.iret (v := xI 1) hx hb hr (fun t ht hW => ⟨⟨_, (), rfl, (by rw [hcd]; rfl), (by show LWh D cI cZ cA ax A _ _ t.heap; rw [ht]; exact ⟨Q, cn, rt, wd, qf, T, hQ, h_T, hP1, hD⟩)⟩, hS1.F ht⟩) hS1.2.2 dL_size_10
  refine vx_ret ?_
  exact W.iret (v := (nI ((s_sz n B u).2))) hx hb hr (fun t ht hW => ⟨⟨_, (), rfl, (by rw [hc9]; rfl), (by show LWh D cI cZ cA ax A _ _ t.heap; rw [ht]; exact ⟨Q, cn, rt, wd, qf, T, hQ, h_T, hP, hD⟩)⟩, hS.F ht⟩) hS.2.2 dL_size_5
set_option maxHeartbeats 4000000 in
set_option maxRecDepth 100000 in
theorem zL_arrive (l : Launch) (hfl : l.stackTraces = false) (D : va_G) (cI cZ cA : ClassId) (ax : Nat → Nat) (A : Nat → Prop) (n : Nat) (B : Nat → Nat → Nat) (d : Int32) (x : Int32) (y : Int32) (g : Int32) (hB : Bok n B) : vx_Met l yL_arrive wsL_arrive ({ frames := 7, cells := 1, slots := 6, locals := 107 }) (PcZ D cI cZ cA ax A n B [.ref (ax 0), .int d, .int x, .int y, .int g]) (QZ D cI cZ cA ax A (rI (s_arc n B d x y g) ((nI (s_arv n B d x y g)))) (s_arn n B d x y g) (s_arB n B d x y g)) (fun _ _ _ => False) 1 6 A := by
  refine vx_ofWH (cc := cL_arrive) (maxL := 6) (ret := (some .int)) (hh := [(0, 9, 10, 14), (0, 9, 16, 16)]) (by decide) rfl ?_
  intro p e s m args below meth c s₁ BL hml hv
  obtain ⟨rfl, hW, hK, hE, hNC, hA⟩ := hv
  obtain ⟨Q, cn, rt, wd, qf, T, hQ, h_T, hP, hD⟩ := hW
  have hx := BL.exec
  have hb := BL.bytes
  have hr := BL.returns
  have hts := atoms_spec (ws := wsL_arrive) BL.pre
  have hown : s.vm.findClass RL = some m.cls := findClass_of_methodNamed BL.named
  have hlocks := BL.notSynchronized
  have htab := vx_table (x := yL_arrive) BL (hts _ List.mem_cons_self)
  have hS : va_S A s.heap s.heap [] := va_S.rf
  have hP : va_P D vwCl ([] ++ (wX cI cZ cA ax n B Q cn rt wd qf T)) s.heap := hP
  have hD : va_D A ([] ++ (wX cI cZ cA ax n B Q cn rt wd qf T)) := hD
  have hE9 : EV (va_A ([] ++ (wX cI cZ cA ax n B Q cn rt wd qf T)) s.heap.size) s s.heap := hE.narrow (va_A_in hD hA)
  have hl := lv_entry ([.ref (ax 0), .int d, .int x, .int y, .int g]) (n := 6) (Nat.le_of_ble_eq_true rfl)
  rw [lg_entry_eq]
  generalize (lg_sl ([.ref (ax 0), .int d, .int x, .int y, .int g]) ++ List.replicate (6 - (lg_sl ([.ref (ax 0), .int d, .int x, .int y, .int g])).length) Slot.unset).toArray = ls at hl ⊢
  have hl : lv_has ls 6 [(0, .ref (ax 0)), (1, .int d), (2, .int x), (3, .int y), (4, .int g)] := hl
  refine lv_aload_n hx hb dL_arrive_0 rfl (lv_at hl 0 rfl) ?_
  refine lv_iload_n hx hb dL_arrive_1 rfl (lv_at hl 1 rfl) ?_
  refine lv_iload_n hx hb dL_arrive_2 rfl (lv_at hl 2 rfl) ?_
  refine lv_iload_n hx hb dL_arrive_3 rfl (lv_at hl 3 rfl) ?_
  refine lv_iload hx hb dL_arrive_4 (lv_at hl 4 rfl) ?_
  refine xm_Vi (wr := []) (As := [.int d, .int x, .int y, .int g]) (tys0 := tyZ cI cZ cA) (A := A) ⟨hx, hb, hml, hown, hts⟩ (kX1_arrive l hfl D cI cZ cA ax n B Q cn rt wd qf T s.heap.size d x y g hB) (cwV 4 hts gL_arrive_X1_arrive rfl rfl rfl hdX1_arrive ⟨Nat.le_of_ble_eq_true rfl, Nat.le_of_ble_eq_true rfl⟩) hK hK hP hE9 (ci := 3) rfl (q0 := 0) rfl rfl rfl hl.1 rfl (Nat.le_of_ble_eq_true rfl) dL_arrive_6 ⟨Nat.le_of_ble_eq_true rfl, Nat.le_of_ble_eq_true rfl⟩ hD hA (fun E ce q9 H1 locs1 hF hz hk hS1 hce hcv hcl => ?_) (fun r1 u1 H1 locs1 hp1 hP hD hS => ?_)
  · have hP1 := hP.kept (H1 := H1) (fun k x hx => hk x.1 ((hP k x hx).lt))
    rcases hF with ⟨rfl, hcd⟩ | ⟨rfl, hcd⟩
    · refine vx_catch (name := "java/lang/IllegalArgumentException") hown [] ⟨0, 9, 10, 14⟩ [⟨0, 9, 16, 16⟩] (by rw [htab]; rfl) (fun z hz => nomatch hz) rfl (by decide) (hts (.classLink RL 14 "java/lang/IllegalArgumentException") (by decide +kernel)) (va_Nw.use rfl (hE.2.2.1 (.castable "java/lang/IllegalArgumentException" "java/lang/IllegalArgumentException") (by decide +kernel))) hce hcv hcl ?_
      refine lv_astore (lv' := [(5, .ref q9), (0, .ref (ax 0)), (1, .int d), (2, .int x), (3, .int y), (4, .int g)]) hx hb dL_arrive_10 hl (by decide) rfl (fun ls hl => ?_)
      refine lv_sipush (v := xI 1) hx hb dL_arrive_12 (by decide +kernel) ?_
      refine vx_ret ?_
      have eN : s_arn n B d x y g = n := if_neg (by rw [hcd]; decide)
      have eB : s_arB n B d x y g = B := if_neg (by rw [hcd]; decide)
      exact W.iret (v := xI 1) hx hb hr (fun t ht hW => ⟨⟨_, (), rfl, (by rw [hcd]; rfl), (by show LWh D cI cZ cA ax A _ _ t.heap; rw [ht]; rw [eN, eB]; exact ⟨Q, cn, rt, wd, qf, T, hQ, h_T, hP1, hD⟩)⟩, hS1.F ht⟩) hS1.2.2 dL_arrive_15
    · refine vx_catch (name := "java/lang/IllegalStateException") hown [⟨0, 9, 10, 14⟩] ⟨0, 9, 16, 16⟩ [] (by rw [htab]; rfl) (fun z hz => by simp only [List.mem_cons, List.not_mem_nil, or_false] at hz; rcases hz with rfl; exact Or.inr ⟨by decide, "java/lang/IllegalArgumentException", hts (.classLink RL 14 "java/lang/IllegalArgumentException") (by decide +kernel), hNC ("java/lang/IllegalStateException", "java/lang/IllegalArgumentException") (by decide +kernel)⟩) rfl (by decide) (hts (.classLink RL 16 "java/lang/IllegalStateException") (by decide +kernel)) (va_Nw.use rfl (hE.2.2.1 (.castable "java/lang/IllegalStateException" "java/lang/IllegalStateException") (by decide +kernel))) hce hcv hcl ?_
      refine lv_astore (lv' := [(5, .ref q9), (0, .ref (ax 0)), (1, .int d), (2, .int x), (3, .int y), (4, .int g)]) hx hb dL_arrive_16 hl (by decide) rfl (fun ls hl => ?_)
      refine lv_sipush (v := xI 2) hx hb dL_arrive_18 (by decide +kernel) ?_
      refine vx_ret ?_
      have eN : s_arn n B d x y g = n := if_neg (by rw [hcd]; decide)
      have eB : s_arB n B d x y g = B := if_neg (by rw [hcd]; decide)
      exact W.iret (v := xI 2) hx hb hr (fun t ht hW => ⟨⟨_, (), rfl, (by rw [hcd]; rfl), (by show LWh D cI cZ cA ax A _ _ t.heap; rw [ht]; rw [eN, eB]; exact ⟨Q, cn, rt, wd, qf, T, hQ, h_T, hP1, hD⟩)⟩, hS1.F ht⟩) hS1.2.2 dL_arrive_21
  obtain ⟨rfl, hc9⟩ := hp1
  refine vx_ret ?_
  exact W.iret (v := (nI (s_arv n B d x y g))) hx hb hr (fun t ht hW => ⟨⟨_, (), rfl, (by rw [hc9]; rfl), (by show LWh D cI cZ cA ax A _ _ t.heap; rw [ht]; exact ⟨Q, cn, rt, wd, qf, T, (ar_all hB hQ d x y g).2, h_T, hP, hD⟩)⟩, hS.F ht⟩) hS.2.2 dL_arrive_9
set_option maxHeartbeats 4000000 in
set_option maxRecDepth 100000 in
theorem zL_addLine (l : Launch) (hfl : l.stackTraces = false) (D : va_G) (cI cZ cA : ClassId) (ax : Nat → Nat) (A : Nat → Prop) (n : Nat) (B : Nat → Nat → Nat) (u : Int32) (k : Int32) (w : Int32) (hB : Bok n B) : vx_Met l yL_addLine wsL_addLine ({ frames := 8, cells := 2, slots := 12, locals := 140 }) (PcZ D cI cZ cA ax A n B [.ref (ax 0), .int u, .int k, .int w]) (QZ D cI cZ cA ax A (rI (s_adc n B u k w) ((nI (s_adv n B u k w)))) (n) (s_adB n B u k w)) (fun _ _ _ => False) 2 12 A := by
  refine vx_ofWH (cc := cL_addLine) (maxL := 5) (ret := (some .int)) (hh := [(0, 7, 8, 22), (0, 7, 14, 14), (0, 7, 20, 16)]) (by decide) rfl ?_
  intro p e s m args below meth c s₁ BL hml hv
  obtain ⟨rfl, hW, hK, hE, hNC, hA⟩ := hv
  obtain ⟨Q, cn, rt, wd, qf, T, hQ, h_T, hP, hD⟩ := hW
  have hx := BL.exec
  have hb := BL.bytes
  have hr := BL.returns
  have hts := atoms_spec (ws := wsL_addLine) BL.pre
  have hown : s.vm.findClass RL = some m.cls := findClass_of_methodNamed BL.named
  have hlocks := BL.notSynchronized
  have htab := vx_table (x := yL_addLine) BL (hts _ List.mem_cons_self)
  have hS : va_S A s.heap s.heap [] := va_S.rf
  have hP : va_P D vwCl ([] ++ (wX cI cZ cA ax n B Q cn rt wd qf T)) s.heap := hP
  have hD : va_D A ([] ++ (wX cI cZ cA ax n B Q cn rt wd qf T)) := hD
  have hE9 : EV (va_A ([] ++ (wX cI cZ cA ax n B Q cn rt wd qf T)) s.heap.size) s s.heap := hE.narrow (va_A_in hD hA)
  have hl := lv_entry ([.ref (ax 0), .int u, .int k, .int w]) (n := 5) (Nat.le_of_ble_eq_true rfl)
  rw [lg_entry_eq]
  generalize (lg_sl ([.ref (ax 0), .int u, .int k, .int w]) ++ List.replicate (5 - (lg_sl ([.ref (ax 0), .int u, .int k, .int w])).length) Slot.unset).toArray = ls at hl ⊢
  have hl : lv_has ls 5 [(0, .ref (ax 0)), (1, .int u), (2, .int k), (3, .int w)] := hl
  refine lv_aload_n hx hb dL_addLine_0 rfl (lv_at hl 0 rfl) ?_
  refine lv_iload_n hx hb dL_addLine_1 rfl (lv_at hl 1 rfl) ?_
  refine lv_iload_n hx hb dL_addLine_2 rfl (lv_at hl 2 rfl) ?_
  refine lv_iload_n hx hb dL_addLine_3 rfl (lv_at hl 3 rfl) ?_
  refine xm_Vi (wr := []) (As := [.int u, .int k, .int w]) (tys0 := tyZ cI cZ cA) (A := A) ⟨hx, hb, hml, hown, hts⟩ (kX1_addLine l hfl D cI cZ cA ax n B Q cn rt wd qf T s.heap.size u k w hB hQ h_T) (cwV 3 hts gL_addLine_X1_addLine rfl rfl rfl hdX1_addLine ⟨Nat.le_of_ble_eq_true rfl, Nat.le_of_ble_eq_true rfl⟩) hK hK hP hE9 (ci := 3) rfl (q0 := 0) rfl rfl rfl hl.1 rfl (Nat.le_of_ble_eq_true rfl) dL_addLine_4 ⟨Nat.le_of_ble_eq_true rfl, Nat.le_of_ble_eq_true rfl⟩ hD hA (fun E ce q9 H1 locs1 hF hz hk hS1 hce hcv hcl => ?_) (fun r1 u1 H1 locs1 hp1 hP hD hS => ?_)
  · have hP1 := hP.kept (H1 := H1) (fun k x hx => hk x.1 ((hP k x hx).lt))
    rcases hF with ⟨rfl, hcd⟩ | ⟨rfl, hcd⟩ | ⟨rfl, hcd⟩
    · refine vx_catch (name := "java/lang/IndexOutOfBoundsException") hown [] ⟨0, 7, 8, 22⟩ [⟨0, 7, 14, 14⟩, ⟨0, 7, 20, 16⟩] (by rw [htab]; rfl) (fun z hz => nomatch hz) rfl (by decide) (hts (.classLink RL 22 "java/lang/IndexOutOfBoundsException") (by decide +kernel)) (va_Nw.use rfl (hE.2.2.1 (.castable "java/lang/IndexOutOfBoundsException" "java/lang/IndexOutOfBoundsException") (by decide +kernel))) hce hcv hcl ?_
      refine lv_astore (lv' := [(4, .ref q9), (0, .ref (ax 0)), (1, .int u), (2, .int k), (3, .int w)]) hx hb dL_addLine_8 hl (by decide) rfl (fun ls hl => ?_)
      refine lv_sipush (v := xI 1) hx hb dL_addLine_10 (by decide +kernel) ?_
      refine vx_ret ?_
      have eB : s_adB n B u k w = B := if_neg (by rw [hcd]; decide)
      exact W.iret (v := xI 1) hx hb hr (fun t ht hW => ⟨⟨_, (), rfl, (by rw [hcd]; rfl), (by show LWh D cI cZ cA ax A _ _ t.heap; rw [ht]; rw [eB]; exact ⟨Q, cn, rt, wd, qf, T, hQ, h_T, hP1, hD⟩)⟩, hS1.F ht⟩) hS1.2.2 dL_addLine_13
    · refine vx_catch (name := "java/lang/IllegalArgumentException") hown [⟨0, 7, 8, 22⟩] ⟨0, 7, 14, 14⟩ [⟨0, 7, 20, 16⟩] (by rw [htab]; rfl) (fun z hz => by simp only [List.mem_cons, List.not_mem_nil, or_false] at hz; rcases hz with rfl; exact Or.inr ⟨by decide, "java/lang/IndexOutOfBoundsException", hts (.classLink RL 22 "java/lang/IndexOutOfBoundsException") (by decide +kernel), hNC ("java/lang/IllegalArgumentException", "java/lang/IndexOutOfBoundsException") (by decide +kernel)⟩) rfl (by decide) (hts (.classLink RL 14 "java/lang/IllegalArgumentException") (by decide +kernel)) (va_Nw.use rfl (hE.2.2.1 (.castable "java/lang/IllegalArgumentException" "java/lang/IllegalArgumentException") (by decide +kernel))) hce hcv hcl ?_
      refine lv_astore (lv' := [(4, .ref q9), (0, .ref (ax 0)), (1, .int u), (2, .int k), (3, .int w)]) hx hb dL_addLine_14 hl (by decide) rfl (fun ls hl => ?_)
      refine lv_sipush (v := xI 2) hx hb dL_addLine_16 (by decide +kernel) ?_
      refine vx_ret ?_
      have eB : s_adB n B u k w = B := if_neg (by rw [hcd]; decide)
      exact W.iret (v := xI 2) hx hb hr (fun t ht hW => ⟨⟨_, (), rfl, (by rw [hcd]; rfl), (by show LWh D cI cZ cA ax A _ _ t.heap; rw [ht]; rw [eB]; exact ⟨Q, cn, rt, wd, qf, T, hQ, h_T, hP1, hD⟩)⟩, hS1.F ht⟩) hS1.2.2 dL_addLine_19
    · refine vx_catch (name := "java/lang/IllegalStateException") hown [⟨0, 7, 8, 22⟩, ⟨0, 7, 14, 14⟩] ⟨0, 7, 20, 16⟩ [] (by rw [htab]; rfl) (fun z hz => by simp only [List.mem_cons, List.not_mem_nil, or_false] at hz; rcases hz with rfl | rfl; (exact Or.inr ⟨by decide, "java/lang/IndexOutOfBoundsException", hts (.classLink RL 22 "java/lang/IndexOutOfBoundsException") (by decide +kernel), hNC ("java/lang/IllegalStateException", "java/lang/IndexOutOfBoundsException") (by decide +kernel)⟩); (exact Or.inr ⟨by decide, "java/lang/IllegalArgumentException", hts (.classLink RL 14 "java/lang/IllegalArgumentException") (by decide +kernel), hNC ("java/lang/IllegalStateException", "java/lang/IllegalArgumentException") (by decide +kernel)⟩)) rfl (by decide) (hts (.classLink RL 16 "java/lang/IllegalStateException") (by decide +kernel)) (va_Nw.use rfl (hE.2.2.1 (.castable "java/lang/IllegalStateException" "java/lang/IllegalStateException") (by decide +kernel))) hce hcv hcl ?_
      refine lv_astore (lv' := [(4, .ref q9), (0, .ref (ax 0)), (1, .int u), (2, .int k), (3, .int w)]) hx hb dL_addLine_20 hl (by decide) rfl (fun ls hl => ?_)
      refine lv_sipush (v := xI 3) hx hb dL_addLine_22 (by decide +kernel) ?_
      refine vx_ret ?_
      have eB : s_adB n B u k w = B := if_neg (by rw [hcd]; decide)
      exact W.iret (v := xI 3) hx hb hr (fun t ht hW => ⟨⟨_, (), rfl, (by rw [hcd]; rfl), (by show LWh D cI cZ cA ax A _ _ t.heap; rw [ht]; rw [eB]; exact ⟨Q, cn, rt, wd, qf, T, hQ, h_T, hP1, hD⟩)⟩, hS1.F ht⟩) hS1.2.2 dL_addLine_25
  obtain ⟨rfl, hc9, hq0, hq1, hq2⟩ := hp1
  refine vx_ret ?_
  exact W.iret (v := (nI (s_adv n B u k w))) hx hb hr (fun t ht hW => ⟨⟨_, (), rfl, (by rw [hc9]; rfl), (by show LWh D cI cZ cA ax A _ _ t.heap; rw [ht]; exact ⟨u1.1, cn, rt, u1.2.1, u1.2.2.1, u1.2.2.2, hq1, hq2, hP, hD⟩)⟩, hS.F ht⟩) hS.2.2 dL_addLine_7
set_option maxHeartbeats 4000000 in
set_option maxRecDepth 100000 in
theorem zL_removeLine (l : Launch) (hfl : l.stackTraces = false) (D : va_G) (cI cZ cA : ClassId) (ax : Nat → Nat) (A : Nat → Prop) (n : Nat) (B : Nat → Nat → Nat) (u : Int32) (hB : Bok n B) : vx_Met l yL_removeLine wsL_removeLine ({ frames := 8, cells := 2, slots := 12, locals := 137 }) (PcZ D cI cZ cA ax A n B [.ref (ax 0), .int u]) (QZ D cI cZ cA ax A (rI (s_rmc n B u) ((nI (s_rmv n B u)))) (n) (s_rmB n B u)) (fun _ _ _ => False) 2 12 A := by
  refine vx_ofWH (cc := cL_removeLine) (maxL := 3) (ret := (some .int)) (hh := [(0, 5, 6, 22), (0, 5, 11, 16)]) (by decide) rfl ?_
  intro p e s m args below meth c s₁ BL hml hv
  obtain ⟨rfl, hW, hK, hE, hNC, hA⟩ := hv
  obtain ⟨Q, cn, rt, wd, qf, T, hQ, h_T, hP, hD⟩ := hW
  have hx := BL.exec
  have hb := BL.bytes
  have hr := BL.returns
  have hts := atoms_spec (ws := wsL_removeLine) BL.pre
  have hown : s.vm.findClass RL = some m.cls := findClass_of_methodNamed BL.named
  have hlocks := BL.notSynchronized
  have htab := vx_table (x := yL_removeLine) BL (hts _ List.mem_cons_self)
  have hS : va_S A s.heap s.heap [] := va_S.rf
  have hP : va_P D vwCl ([] ++ (wX cI cZ cA ax n B Q cn rt wd qf T)) s.heap := hP
  have hD : va_D A ([] ++ (wX cI cZ cA ax n B Q cn rt wd qf T)) := hD
  have hE9 : EV (va_A ([] ++ (wX cI cZ cA ax n B Q cn rt wd qf T)) s.heap.size) s s.heap := hE.narrow (va_A_in hD hA)
  have hl := lv_entry ([.ref (ax 0), .int u]) (n := 3) (Nat.le_of_ble_eq_true rfl)
  rw [lg_entry_eq]
  generalize (lg_sl ([.ref (ax 0), .int u]) ++ List.replicate (3 - (lg_sl ([.ref (ax 0), .int u])).length) Slot.unset).toArray = ls at hl ⊢
  have hl : lv_has ls 3 [(0, .ref (ax 0)), (1, .int u)] := hl
  refine lv_aload_n hx hb dL_removeLine_0 rfl (lv_at hl 0 rfl) ?_
  refine lv_iload_n hx hb dL_removeLine_1 rfl (lv_at hl 1 rfl) ?_
  refine xm_Vi (wr := []) (As := [.int u]) (tys0 := tyZ cI cZ cA) (A := A) ⟨hx, hb, hml, hown, hts⟩ (kX1_removeLine l hfl D cI cZ cA ax n B Q cn rt wd qf T s.heap.size u hB hQ h_T) (cwV 1 hts gL_removeLine_X1_removeLine rfl rfl rfl hdX1_removeLine ⟨Nat.le_of_ble_eq_true rfl, Nat.le_of_ble_eq_true rfl⟩) hK hK hP hE9 (ci := 3) rfl (q0 := 0) rfl rfl rfl hl.1 rfl (Nat.le_of_ble_eq_true rfl) dL_removeLine_2 ⟨Nat.le_of_ble_eq_true rfl, Nat.le_of_ble_eq_true rfl⟩ hD hA (fun E ce q9 H1 locs1 hF hz hk hS1 hce hcv hcl => ?_) (fun r1 u1 H1 locs1 hp1 hP hD hS => ?_)
  · have hP1 := hP.kept (H1 := H1) (fun k x hx => hk x.1 ((hP k x hx).lt))
    rcases hF with ⟨rfl, hcd⟩ | ⟨rfl, hcd⟩
    · refine vx_catch (name := "java/lang/IndexOutOfBoundsException") hown [] ⟨0, 5, 6, 22⟩ [⟨0, 5, 11, 16⟩] (by rw [htab]; rfl) (fun z hz => nomatch hz) rfl (by decide) (hts (.classLink RL 22 "java/lang/IndexOutOfBoundsException") (by decide +kernel)) (va_Nw.use rfl (hE.2.2.1 (.castable "java/lang/IndexOutOfBoundsException" "java/lang/IndexOutOfBoundsException") (by decide +kernel))) hce hcv hcl ?_
      refine lv_astore_n (lv' := [(2, .ref q9), (0, .ref (ax 0)), (1, .int u)]) hx hb dL_removeLine_6 rfl hl (by decide) rfl (fun ls hl => ?_)
      refine lv_sipush (v := xI 1) hx hb dL_removeLine_7 (by decide +kernel) ?_
      refine vx_ret ?_
      have eB : s_rmB n B u = B := if_neg (by rw [hcd]; decide)
      exact W.iret (v := xI 1) hx hb hr (fun t ht hW => ⟨⟨_, (), rfl, (by rw [hcd]; rfl), (by show LWh D cI cZ cA ax A _ _ t.heap; rw [ht]; rw [eB]; exact ⟨Q, cn, rt, wd, qf, T, hQ, h_T, hP1, hD⟩)⟩, hS1.F ht⟩) hS1.2.2 dL_removeLine_10
    · refine vx_catch (name := "java/lang/IllegalStateException") hown [⟨0, 5, 6, 22⟩] ⟨0, 5, 11, 16⟩ [] (by rw [htab]; rfl) (fun z hz => by simp only [List.mem_cons, List.not_mem_nil, or_false] at hz; rcases hz with rfl; exact Or.inr ⟨by decide, "java/lang/IndexOutOfBoundsException", hts (.classLink RL 22 "java/lang/IndexOutOfBoundsException") (by decide +kernel), hNC ("java/lang/IllegalStateException", "java/lang/IndexOutOfBoundsException") (by decide +kernel)⟩) rfl (by decide) (hts (.classLink RL 16 "java/lang/IllegalStateException") (by decide +kernel)) (va_Nw.use rfl (hE.2.2.1 (.castable "java/lang/IllegalStateException" "java/lang/IllegalStateException") (by decide +kernel))) hce hcv hcl ?_
      refine lv_astore_n (lv' := [(2, .ref q9), (0, .ref (ax 0)), (1, .int u)]) hx hb dL_removeLine_11 rfl hl (by decide) rfl (fun ls hl => ?_)
      refine lv_sipush (v := xI 2) hx hb dL_removeLine_12 (by decide +kernel) ?_
      refine vx_ret ?_
      have eB : s_rmB n B u = B := if_neg (by rw [hcd]; decide)
      exact W.iret (v := xI 2) hx hb hr (fun t ht hW => ⟨⟨_, (), rfl, (by rw [hcd]; rfl), (by show LWh D cI cZ cA ax A _ _ t.heap; rw [ht]; rw [eB]; exact ⟨Q, cn, rt, wd, qf, T, hQ, h_T, hP1, hD⟩)⟩, hS1.F ht⟩) hS1.2.2 dL_removeLine_15
  obtain ⟨rfl, hc9, hq0, hq1, hq2⟩ := hp1
  refine vx_ret ?_
  exact W.iret (v := (nI (s_rmv n B u))) hx hb hr (fun t ht hW => ⟨⟨_, (), rfl, (by rw [hc9]; rfl), (by show LWh D cI cZ cA ax A _ _ t.heap; rw [ht]; exact ⟨u1.1, cn, rt, u1.2.1, u1.2.2.1, u1.2.2.2, hq1, hq2, hP, hD⟩)⟩, hS.F ht⟩) hS.2.2 dL_removeLine_5
set_option maxHeartbeats 4000000 in
set_option maxRecDepth 100000 in
theorem zL_aligned (l : Launch) (hfl : l.stackTraces = false) (D : va_G) (cI cZ cA : ClassId) (ax : Nat → Nat) (A : Nat → Prop) (n : Nat) (B : Nat → Nat → Nat) (u : Int32) (hB : Bok n B) : vx_Met l yL_aligned wsL_aligned ({ frames := 8, cells := 1, slots := 6, locals := 124 }) (PcZ D cI cZ cA ax A n B [.ref (ax 0), .int u]) (QZ D cI cZ cA ax A (rI ((s_alc n B u).1) ((nI ((s_alc n B u).2)))) (n) (B)) (fun _ _ _ => False) 1 6 A := by
  refine vx_ofWH (cc := cL_aligned) (maxL := 3) (ret := (some .int)) (hh := [(0, 5, 6, 22)]) (by decide) rfl ?_
  intro p e s m args below meth c s₁ BL hml hv
  obtain ⟨rfl, hW, hK, hE, hNC, hA⟩ := hv
  obtain ⟨Q, cn, rt, wd, qf, T, hQ, h_T, hP, hD⟩ := hW
  have hx := BL.exec
  have hb := BL.bytes
  have hr := BL.returns
  have hts := atoms_spec (ws := wsL_aligned) BL.pre
  have hown : s.vm.findClass RL = some m.cls := findClass_of_methodNamed BL.named
  have hlocks := BL.notSynchronized
  have htab := vx_table (x := yL_aligned) BL (hts _ List.mem_cons_self)
  have hS : va_S A s.heap s.heap [] := va_S.rf
  have hP : va_P D vwCl ([] ++ (wX cI cZ cA ax n B Q cn rt wd qf T)) s.heap := hP
  have hD : va_D A ([] ++ (wX cI cZ cA ax n B Q cn rt wd qf T)) := hD
  have hE9 : EV (va_A ([] ++ (wX cI cZ cA ax n B Q cn rt wd qf T)) s.heap.size) s s.heap := hE.narrow (va_A_in hD hA)
  have hl := lv_entry ([.ref (ax 0), .int u]) (n := 3) (Nat.le_of_ble_eq_true rfl)
  rw [lg_entry_eq]
  generalize (lg_sl ([.ref (ax 0), .int u]) ++ List.replicate (3 - (lg_sl ([.ref (ax 0), .int u])).length) Slot.unset).toArray = ls at hl ⊢
  have hl : lv_has ls 3 [(0, .ref (ax 0)), (1, .int u)] := hl
  refine lv_aload_n hx hb dL_aligned_0 rfl (lv_at hl 0 rfl) ?_
  refine lv_iload_n hx hb dL_aligned_1 rfl (lv_at hl 1 rfl) ?_
  refine xm_Vi (wr := []) (As := [.int u]) (tys0 := tyZ cI cZ cA) (A := A) ⟨hx, hb, hml, hown, hts⟩ (kX1_aligned l hfl D cI cZ cA ax n B Q cn rt wd qf T s.heap.size u hB h_T) (cwV 1 hts gL_aligned_X1_aligned rfl rfl rfl hdX1_aligned ⟨Nat.le_of_ble_eq_true rfl, Nat.le_of_ble_eq_true rfl⟩) hK hK hP hE9 (ci := 3) rfl (q0 := 0) rfl rfl rfl hl.1 rfl (Nat.le_of_ble_eq_true rfl) dL_aligned_2 ⟨Nat.le_of_ble_eq_true rfl, Nat.le_of_ble_eq_true rfl⟩ hD hA (fun E ce q9 H1 locs1 hF hz hk hS1 hce hcv hcl => ?_) (fun r1 u1 H1 locs1 hp1 hP hD hS => ?_)
  · have hP1 := hP.kept (H1 := H1) (fun k x hx => hk x.1 ((hP k x hx).lt))
    rcases hF with ⟨rfl, hcd⟩
    · refine vx_catch (name := "java/lang/IndexOutOfBoundsException") hown [] ⟨0, 5, 6, 22⟩ [] (by rw [htab]; rfl) (fun z hz => nomatch hz) rfl (by decide) (hts (.classLink RL 22 "java/lang/IndexOutOfBoundsException") (by decide +kernel)) (va_Nw.use rfl (hE.2.2.1 (.castable "java/lang/IndexOutOfBoundsException" "java/lang/IndexOutOfBoundsException") (by decide +kernel))) hce hcv hcl ?_
      refine lv_astore_n (lv' := [(2, .ref q9), (0, .ref (ax 0)), (1, .int u)]) hx hb dL_aligned_6 rfl hl (by decide) rfl (fun ls hl => ?_)
      refine lv_sipush (v := xI 1) hx hb dL_aligned_7 (by decide +kernel) ?_
      refine vx_ret ?_
      exact W.iret (v := xI 1) hx hb hr (fun t ht hW => ⟨⟨_, (), rfl, (by rw [hcd]; rfl), (by show LWh D cI cZ cA ax A _ _ t.heap; rw [ht]; exact ⟨Q, cn, rt, wd, qf, T, hQ, h_T, hP1, hD⟩)⟩, hS1.F ht⟩) hS1.2.2 dL_aligned_10
  obtain ⟨rfl, hc9, hq0⟩ := hp1
  refine vx_ret ?_
  exact W.iret (v := (nI ((s_alc n B u).2))) hx hb hr (fun t ht hW => ⟨⟨_, (), rfl, (by rw [hc9]; rfl), (by show LWh D cI cZ cA ax A _ _ t.heap; rw [ht]; exact ⟨Q, cn, rt, u1.1, u1.2.1, u1.2.2, hQ, hq0, hP, hD⟩)⟩, hS.F ht⟩) hS.2.2 dL_aligned_5
set_option maxHeartbeats 4000000 in
set_option maxRecDepth 100000 in
theorem zL_alignedByTrying (l : Launch) (hfl : l.stackTraces = false) (D : va_G) (cI cZ cA : ClassId) (ax : Nat → Nat) (A : Nat → Prop) (n : Nat) (B : Nat → Nat → Nat) (u : Int32) (hB : Bok n B) : vx_Met l yL_alignedByTrying wsL_alignedByTrying ({ frames := 11, cells := 1, slots := 6, locals := 266 }) (PcZ D cI cZ cA ax A n B [.ref (ax 0), .int u]) (QZ D cI cZ cA ax A (rI ((s_alc n B u).1) ((nI ((s_alc n B u).2)))) (n) (B)) (fun _ _ _ => False) 1 6 A := by
  refine vx_ofWH (cc := cL_alignedByTrying) (maxL := 3) (ret := (some .int)) (hh := [(0, 5, 6, 22)]) (by decide) rfl ?_
  intro p e s m args below meth c s₁ BL hml hv
  obtain ⟨rfl, hW, hK, hE, hNC, hA⟩ := hv
  obtain ⟨Q, cn, rt, wd, qf, T, hQ, h_T, hP, hD⟩ := hW
  have hx := BL.exec
  have hb := BL.bytes
  have hr := BL.returns
  have hts := atoms_spec (ws := wsL_alignedByTrying) BL.pre
  have hown : s.vm.findClass RL = some m.cls := findClass_of_methodNamed BL.named
  have hlocks := BL.notSynchronized
  have htab := vx_table (x := yL_alignedByTrying) BL (hts _ List.mem_cons_self)
  have hS : va_S A s.heap s.heap [] := va_S.rf
  have hP : va_P D vwCl ([] ++ (wX cI cZ cA ax n B Q cn rt wd qf T)) s.heap := hP
  have hD : va_D A ([] ++ (wX cI cZ cA ax n B Q cn rt wd qf T)) := hD
  have hE9 : EV (va_A ([] ++ (wX cI cZ cA ax n B Q cn rt wd qf T)) s.heap.size) s s.heap := hE.narrow (va_A_in hD hA)
  have hl := lv_entry ([.ref (ax 0), .int u]) (n := 3) (Nat.le_of_ble_eq_true rfl)
  rw [lg_entry_eq]
  generalize (lg_sl ([.ref (ax 0), .int u]) ++ List.replicate (3 - (lg_sl ([.ref (ax 0), .int u])).length) Slot.unset).toArray = ls at hl ⊢
  have hl : lv_has ls 3 [(0, .ref (ax 0)), (1, .int u)] := hl
  refine lv_aload_n hx hb dL_alignedByTrying_0 rfl (lv_at hl 0 rfl) ?_
  refine lv_iload_n hx hb dL_alignedByTrying_1 rfl (lv_at hl 1 rfl) ?_
  refine xm_Vi (wr := []) (As := [.int u]) (tys0 := tyZ cI cZ cA) (A := A) ⟨hx, hb, hml, hown, hts⟩ (kX1_alignedByTrying l hfl D cI cZ cA ax n B Q cn rt wd qf T s.heap.size u hB) (cwV 1 hts gL_alignedByTrying_X1_alignedByTrying rfl rfl rfl hdX1_alignedByTrying ⟨Nat.le_of_ble_eq_true rfl, Nat.le_of_ble_eq_true rfl⟩) hK hK hP hE9 (ci := 3) rfl (q0 := 0) rfl rfl rfl hl.1 rfl (Nat.le_of_ble_eq_true rfl) dL_alignedByTrying_2 ⟨Nat.le_of_ble_eq_true rfl, Nat.le_of_ble_eq_true rfl⟩ hD hA (fun E ce q9 H1 locs1 hF hz hk hS1 hce hcv hcl => ?_) (fun r1 u1 H1 locs1 hp1 hP hD hS => ?_)
  · have hP1 := hP.kept (H1 := H1) (fun k x hx => hk x.1 ((hP k x hx).lt))
    rcases hF with ⟨rfl, hcd⟩
    · refine vx_catch (name := "java/lang/IndexOutOfBoundsException") hown [] ⟨0, 5, 6, 22⟩ [] (by rw [htab]; rfl) (fun z hz => nomatch hz) rfl (by decide) (hts (.classLink RL 22 "java/lang/IndexOutOfBoundsException") (by decide +kernel)) (va_Nw.use rfl (hE.2.2.1 (.castable "java/lang/IndexOutOfBoundsException" "java/lang/IndexOutOfBoundsException") (by decide +kernel))) hce hcv hcl ?_
      refine lv_astore_n (lv' := [(2, .ref q9), (0, .ref (ax 0)), (1, .int u)]) hx hb dL_alignedByTrying_6 rfl hl (by decide) rfl (fun ls hl => ?_)
      refine lv_sipush (v := xI 1) hx hb dL_alignedByTrying_7 (by decide +kernel) ?_
      refine vx_ret ?_
      exact W.iret (v := xI 1) hx hb hr (fun t ht hW => ⟨⟨_, (), rfl, (by rw [hcd]; rfl), (by show LWh D cI cZ cA ax A _ _ t.heap; rw [ht]; exact ⟨Q, cn, rt, wd, qf, T, hQ, h_T, hP1, hD⟩)⟩, hS1.F ht⟩) hS1.2.2 dL_alignedByTrying_10
  obtain ⟨rfl, hc9⟩ := hp1
  refine vx_ret ?_
  exact W.iret (v := (nI ((s_alc n B u).2))) hx hb hr (fun t ht hW => ⟨⟨_, (), rfl, (by rw [hc9]; rfl), (by show LWh D cI cZ cA ax A _ _ t.heap; rw [ht]; exact ⟨Q, cn, rt, u1.1, u1.2, T, hQ, h_T, hP, hD⟩)⟩, hS.F ht⟩) hS.2.2 dL_alignedByTrying_5
set_option maxHeartbeats 4000000 in
set_option maxRecDepth 100000 in
theorem zL_rootByRounds (l : Launch) (hfl : l.stackTraces = false) (D : va_G) (cI cZ cA : ClassId) (ax : Nat → Nat) (A : Nat → Prop) (n : Nat) (B : Nat → Nat → Nat) (u : Int32) (hB : Bok n B) : vx_Met l yL_rootByRounds wsL_rootByRounds ({ frames := 8, cells := 1, slots := 6, locals := 125 }) (PcZ D cI cZ cA ax A n B [.ref (ax 0), .int u]) (QZ D cI cZ cA ax A (rI ((s_rtc n B u).1) ((nI ((s_rtc n B u).2)))) (n) (B)) (fun _ _ _ => False) 1 6 A := by
  refine vx_ofWH (cc := cL_rootByRounds) (maxL := 3) (ret := (some .int)) (hh := [(0, 5, 6, 22)]) (by decide) rfl ?_
  intro p e s m args below meth c s₁ BL hml hv
  obtain ⟨rfl, hW, hK, hE, hNC, hA⟩ := hv
  obtain ⟨Q, cn, rt, wd, qf, T, hQ, h_T, hP, hD⟩ := hW
  have hx := BL.exec
  have hb := BL.bytes
  have hr := BL.returns
  have hts := atoms_spec (ws := wsL_rootByRounds) BL.pre
  have hown : s.vm.findClass RL = some m.cls := findClass_of_methodNamed BL.named
  have hlocks := BL.notSynchronized
  have htab := vx_table (x := yL_rootByRounds) BL (hts _ List.mem_cons_self)
  have hS : va_S A s.heap s.heap [] := va_S.rf
  have hP : va_P D vwCl ([] ++ (wX cI cZ cA ax n B Q cn rt wd qf T)) s.heap := hP
  have hD : va_D A ([] ++ (wX cI cZ cA ax n B Q cn rt wd qf T)) := hD
  have hE9 : EV (va_A ([] ++ (wX cI cZ cA ax n B Q cn rt wd qf T)) s.heap.size) s s.heap := hE.narrow (va_A_in hD hA)
  have hl := lv_entry ([.ref (ax 0), .int u]) (n := 3) (Nat.le_of_ble_eq_true rfl)
  rw [lg_entry_eq]
  generalize (lg_sl ([.ref (ax 0), .int u]) ++ List.replicate (3 - (lg_sl ([.ref (ax 0), .int u])).length) Slot.unset).toArray = ls at hl ⊢
  have hl : lv_has ls 3 [(0, .ref (ax 0)), (1, .int u)] := hl
  refine lv_aload_n hx hb dL_rootByRounds_0 rfl (lv_at hl 0 rfl) ?_
  refine lv_iload_n hx hb dL_rootByRounds_1 rfl (lv_at hl 1 rfl) ?_
  refine xm_Vi (wr := []) (As := [.int u]) (tys0 := tyZ cI cZ cA) (A := A) ⟨hx, hb, hml, hown, hts⟩ (kX1_rootByRounds l hfl D cI cZ cA ax n B Q cn rt wd qf T s.heap.size u hB) (cwV 1 hts gL_rootByRounds_X1_rootByRounds rfl rfl rfl hdX1_rootByRounds ⟨Nat.le_of_ble_eq_true rfl, Nat.le_of_ble_eq_true rfl⟩) hK hK hP hE9 (ci := 3) rfl (q0 := 0) rfl rfl rfl hl.1 rfl (Nat.le_of_ble_eq_true rfl) dL_rootByRounds_2 ⟨Nat.le_of_ble_eq_true rfl, Nat.le_of_ble_eq_true rfl⟩ hD hA (fun E ce q9 H1 locs1 hF hz hk hS1 hce hcv hcl => ?_) (fun r1 u1 H1 locs1 hp1 hP hD hS => ?_)
  · have hP1 := hP.kept (H1 := H1) (fun k x hx => hk x.1 ((hP k x hx).lt))
    rcases hF with ⟨rfl, hcd⟩
    · refine vx_catch (name := "java/lang/IndexOutOfBoundsException") hown [] ⟨0, 5, 6, 22⟩ [] (by rw [htab]; rfl) (fun z hz => nomatch hz) rfl (by decide) (hts (.classLink RL 22 "java/lang/IndexOutOfBoundsException") (by decide +kernel)) (va_Nw.use rfl (hE.2.2.1 (.castable "java/lang/IndexOutOfBoundsException" "java/lang/IndexOutOfBoundsException") (by decide +kernel))) hce hcv hcl ?_
      refine lv_astore_n (lv' := [(2, .ref q9), (0, .ref (ax 0)), (1, .int u)]) hx hb dL_rootByRounds_6 rfl hl (by decide) rfl (fun ls hl => ?_)
      refine lv_sipush (v := xI 1) hx hb dL_rootByRounds_7 (by decide +kernel) ?_
      refine vx_ret ?_
      exact W.iret (v := xI 1) hx hb hr (fun t ht hW => ⟨⟨_, (), rfl, (by rw [hcd]; rfl), (by show LWh D cI cZ cA ax A _ _ t.heap; rw [ht]; exact ⟨Q, cn, rt, wd, qf, T, hQ, h_T, hP1, hD⟩)⟩, hS1.F ht⟩) hS1.2.2 dL_rootByRounds_10
  obtain ⟨rfl, hc9⟩ := hp1
  refine vx_ret ?_
  exact W.iret (v := (nI ((s_rtc n B u).2))) hx hb hr (fun t ht hW => ⟨⟨_, (), rfl, (by rw [hc9]; rfl), (by show LWh D cI cZ cA ax A _ _ t.heap; rw [ht]; exact ⟨Q, cn, u1, wd, qf, T, hQ, h_T, hP, hD⟩)⟩, hS.F ht⟩) hS.2.2 dL_rootByRounds_5
