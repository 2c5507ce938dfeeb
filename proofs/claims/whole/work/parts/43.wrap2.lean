set_option maxHeartbeats 4000000 in
set_option maxRecDepth 100000 in
theorem kL_arrive (l : Launch) (hfl : l.stackTraces = false) (D : va_G) (cI cZ cA : ClassId) (ax : Nat → Nat) (n : Nat) (B : Nat → Nat → Nat) (Q : Nat → Option Nat) (cn : Nat → Bool) (rt : Nat → Nat) (wd : Nat → Option Nat) (qf : Nat → Option Nat) (T : Nat → Nat → Nat) (o : Nat) (cL : ClassId) (v0 : Int64) (sz : Nat) (d : Int32) (x : Int32) (y : Int32) (g : Int32) (hB : Bok n B) : vx_Met l yL_arrive wsL_arrive ({ frames := 7, cells := 1, slots := 6, locals := 107 }) (PcW D (tyL cI cZ cA cL) ([oL o cL v0] ++ (wX cI cZ cA ax n B Q cn rt wd qf T)) sz [.ref (ax 0), .int d, .int x, .int y, .int g, .ref o]) (va_Qi (fun (r : Int32) (u9 : Int64) => r = nI (s_arc n B d x y g) ∧ (s_arc n B d x y g = 0 → (u9) = ((nI (s_arv n B d x y g))).toInt64)) (fun (u9 : Int64) t => AtW D (tyL cI cZ cA cL) (va_A ([oL o cL v0] ++ (wX cI cZ cA ax n B Q cn rt wd qf T)) sz) ([oL o cL (u9)] ++ (wX cI cZ cA ax (s_arn n B d x y g) (s_arB n B d x y g) Q cn rt wd qf T)) t) (va_A ([oL o cL v0] ++ (wX cI cZ cA ax n B Q cn rt wd qf T)) sz)) (fun _ _ _ => False) 1 6 (va_A ([oL o cL v0] ++ (wX cI cZ cA ax n B Q cn rt wd qf T)) sz) := by
  refine vx_ofWH (cc := cL_arrive) (maxL := 7) (ret := (some .int)) (hh := [(0, 14, 17, 13), (0, 14, 21, 15)]) (by decide) rfl ?_
  intro p e s m args below meth c s₁ BL hml hv
  obtain ⟨rfl, hsz, hP, hK, hD0, hE, hNC⟩ := hv
  have hx := BL.exec
  have hb := BL.bytes
  have hr := BL.returns
  have hts := atoms_spec (ws := wsL_arrive) BL.pre
  have hown : s.vm.findClass RL = some m.cls := findClass_of_methodNamed BL.named
  have hlocks := BL.notSynchronized
  have htab := vx_table (x := yL_arrive) BL (hts _ List.mem_cons_self)
  subst hsz
  have hD := hD0.self (sz := s.heap.size)
  generalize hAe : va_A ([oL o cL v0] ++ (wX cI cZ cA ax n B Q cn rt wd qf T)) s.heap.size = A at hD ⊢
  have hA : ∀ q : Nat, s.heap.size ≤ q → A q := fun q h => by rw [← hAe]; exact Or.inr h
  have hS : va_S A s.heap s.heap [] := va_S.rf
  have hP : va_P D vwCl ([oL o cL v0] ++ (wX cI cZ cA ax n B Q cn rt wd qf T)) s.heap := hP
  have hD : va_D A ([oL o cL v0] ++ (wX cI cZ cA ax n B Q cn rt wd qf T)) := hD
  have hl := lv_entry ([.ref (ax 0), .int d, .int x, .int y, .int g, .ref o]) (n := 7) (Nat.le_of_ble_eq_true rfl)
  rw [lg_entry_eq]
  generalize (lg_sl ([.ref (ax 0), .int d, .int x, .int y, .int g, .ref o]) ++ List.replicate (7 - (lg_sl ([.ref (ax 0), .int d, .int x, .int y, .int g, .ref o])).length) Slot.unset).toArray = ls at hl ⊢
  have hl : lv_has ls 7 [(0, .ref (ax 0)), (1, .int d), (2, .int x), (3, .int y), (4, .int g), (5, .ref o)] := hl
  refine lv_aload hx hb dL_arrive_0 (lv_at hl 5 rfl) ?_
  refine lv_iconst (v := nI 0) hx hb dL_arrive_2 (by decide +kernel) ?_
  refine lv_aload_n hx hb dL_arrive_3 rfl (lv_at hl 0 rfl) ?_
  refine lv_iload_n hx hb dL_arrive_4 rfl (lv_at hl 1 rfl) ?_
  refine lv_iload_n hx hb dL_arrive_5 rfl (lv_at hl 2 rfl) ?_
  refine lv_iload_n hx hb dL_arrive_6 rfl (lv_at hl 3 rfl) ?_
  refine lv_iload hx hb dL_arrive_7 (lv_at hl 4 rfl) ?_
  refine xm_Vi (wr := [oL o cL v0]) (As := [.int d, .int x, .int y, .int g]) (tys0 := [(cI, .int), (cZ, .boolean), (cA, .array .int)]) (A := A) ⟨hx, hb, hml, hown, hts⟩ (kX1_arrive l hfl D cI cZ cA ax n B Q cn rt wd qf T s.heap.size d x y g hB) (cwV 4 hts gL_arrive_X1_arrive rfl rfl rfl hdX1_arrive ⟨Nat.le_of_ble_eq_true rfl, Nat.le_of_ble_eq_true rfl⟩) hK (hK.sub [0, 1, 2] rfl) hP hE (ci := 3) rfl (q0 := 1) rfl rfl rfl hl.1 rfl (Nat.le_of_ble_eq_true rfl) dL_arrive_9 ⟨Nat.le_of_ble_eq_true rfl, Nat.le_of_ble_eq_true rfl⟩ hD hA (fun E ce q9 H1 locs1 hF hz hk hS1 hce hcv hcl => ?_) (fun r1 u1 H1 locs1 hp1 hP hD hS => ?_)
  · have hP1 := hP.kept (H1 := H1) (fun k x hx => hk x.1 ((hP k x hx).lt))
    rcases hF with ⟨rfl, hcd⟩ | ⟨rfl, hcd⟩
    · refine vx_catch (name := "java/lang/IllegalArgumentException") hown [] ⟨0, 14, 17, 13⟩ [⟨0, 14, 21, 15⟩] (by rw [htab]; rfl) (fun z hz => nomatch hz) rfl (by decide) (hts (.classLink RL 13 "java/lang/IllegalArgumentException") (by decide +kernel)) (va_Nw.use rfl (hE.2.2.1 (.castable "java/lang/IllegalArgumentException" "java/lang/IllegalArgumentException") (by decide +kernel))) hce hcv hcl ?_
      refine lv_astore (lv' := [(6, .ref q9), (0, .ref (ax 0)), (1, .int d), (2, .int x), (3, .int y), (4, .int g), (5, .ref o)]) hx hb dL_arrive_17 hl (by decide) rfl (fun ls hl => ?_)
      refine lv_iconst (v := nI 1) hx hb dL_arrive_19 (by decide +kernel) ?_
      refine vx_ret ?_
      refine W.widen (k := 1) (n := 6) (Nat.le_of_ble_eq_true rfl) (Nat.le_of_ble_eq_true rfl) ?_
      have eN : s_arn n B d x y g = n := if_neg (by rw [hcd]; decide)
      have eB : s_arB n B d x y g = B := if_neg (by rw [hcd]; decide)
      exact W.iret (v := nI 1) hx hb hr (fun t ht hW => ⟨⟨_, v0, rfl, ⟨by rw [hcd], fun q => absurd (hcd.symm.trans q) (by decide)⟩, ⟨by rw [ht]; rw [eN, eB]; exact hP1, va_K.moved hW.alike hK, by rw [eN, eB]; exact hD⟩⟩, hS1.F ht⟩) hS1.2.2 dL_arrive_20
    · refine vx_catch (name := "java/lang/IllegalStateException") hown [⟨0, 14, 17, 13⟩] ⟨0, 14, 21, 15⟩ [] (by rw [htab]; rfl) (fun z hz => by simp only [List.mem_cons, List.not_mem_nil, or_false] at hz; rcases hz with rfl; exact Or.inr ⟨by decide, "java/lang/IllegalArgumentException", hts (.classLink RL 13 "java/lang/IllegalArgumentException") (by decide +kernel), hNC ("java/lang/IllegalStateException", "java/lang/IllegalArgumentException") (by decide +kernel)⟩) rfl (by decide) (hts (.classLink RL 15 "java/lang/IllegalStateException") (by decide +kernel)) (va_Nw.use rfl (hE.2.2.1 (.castable "java/lang/IllegalStateException" "java/lang/IllegalStateException") (by decide +kernel))) hce hcv hcl ?_
      refine lv_astore (lv' := [(6, .ref q9), (0, .ref (ax 0)), (1, .int d), (2, .int x), (3, .int y), (4, .int g), (5, .ref o)]) hx hb dL_arrive_21 hl (by decide) rfl (fun ls hl => ?_)
      refine lv_iconst (v := nI 2) hx hb dL_arrive_23 (by decide +kernel) ?_
      refine vx_ret ?_
      refine W.widen (k := 1) (n := 6) (Nat.le_of_ble_eq_true rfl) (Nat.le_of_ble_eq_true rfl) ?_
      have eN : s_arn n B d x y g = n := if_neg (by rw [hcd]; decide)
      have eB : s_arB n B d x y g = B := if_neg (by rw [hcd]; decide)
      exact W.iret (v := nI 2) hx hb hr (fun t ht hW => ⟨⟨_, v0, rfl, ⟨by rw [hcd], fun q => absurd (hcd.symm.trans q) (by decide)⟩, ⟨by rw [ht]; rw [eN, eB]; exact hP1, va_K.moved hW.alike hK, by rw [eN, eB]; exact hD⟩⟩, hS1.F ht⟩) hS1.2.2 dL_arrive_24
  obtain ⟨rfl, hc9⟩ := hp1
  refine lv_i2l (v := ((nI (s_arv n B d x y g))).toInt64) hx hb dL_arrive_12 rfl ?_
  refine va_last hx hb hK hP hD hS 0 3 rfl rfl (vp_in_nI (by decide) (by decide)) dL_arrive_13 (fun H1 locs1 hP hD hS => ?_)
  refine lv_goto (tgt := 25) hx hb dL_arrive_14 (by decide) ?_
  refine lv_iconst (v := nI 0) hx hb dL_arrive_25 (by decide +kernel) ?_
  refine vx_ret ?_
  refine W.widen (k := 1) (n := 6) (Nat.le_of_ble_eq_true rfl) (Nat.le_of_ble_eq_true rfl) ?_
  obtain ⟨hP, hD⟩ := oL_set hP hD
  exact W.iret (v := nI 0) hx hb hr (fun t ht hW => ⟨⟨_, ((nI (s_arv n B d x y g))).toInt64, rfl, ⟨by rw [hc9], fun _ => rfl⟩, by rw [ht]; exact hP, va_K.moved hW.alike hK, hD⟩, hS.F ht⟩) hS.2.2 dL_arrive_26
set_option maxHeartbeats 4000000 in
set_option maxRecDepth 100000 in
theorem kL_addLine (l : Launch) (hfl : l.stackTraces = false) (D : va_G) (cI cZ cA : ClassId) (ax : Nat → Nat) (n : Nat) (B : Nat → Nat → Nat) (Q : Nat → Option Nat) (cn : Nat → Bool) (rt : Nat → Nat) (wd : Nat → Option Nat) (qf : Nat → Option Nat) (T : Nat → Nat → Nat) (o : Nat) (cL : ClassId) (v0 : Int64) (sz : Nat) (u : Int32) (k : Int32) (w : Int32) (hB : Bok n B) (hQ : QA n B Q) (h_T : TB T) : vx_Met l yL_addLine wsL_addLine ({ frames := 8, cells := 2, slots := 12, locals := 140 }) (PcW D (tyL cI cZ cA cL) ([oL o cL v0] ++ (wX cI cZ cA ax n B Q cn rt wd qf T)) sz [.ref (ax 0), .int u, .int k, .int w, .ref o]) (va_Qi (fun (r : Int32) (u9 : Int64 × (Nat → Option Nat) × (Nat → Option Nat) × (Nat → Option Nat) × (Nat → Nat → Nat)) => r = nI (s_adc n B u k w) ∧ (s_adc n B u k w = 0 → (u9.1) = ((nI (s_adv n B u k w))).toInt64) ∧ Bok n (s_adB n B u k w) ∧ QA n (s_adB n B u k w) u9.2.1 ∧ TB u9.2.2.2.2) (fun (u9 : Int64 × (Nat → Option Nat) × (Nat → Option Nat) × (Nat → Option Nat) × (Nat → Nat → Nat)) t => AtW D (tyL cI cZ cA cL) (va_A ([oL o cL v0] ++ (wX cI cZ cA ax n B Q cn rt wd qf T)) sz) ([oL o cL (u9.1)] ++ (wX cI cZ cA ax n (s_adB n B u k w) u9.2.1 cn rt u9.2.2.1 u9.2.2.2.1 u9.2.2.2.2)) t) (va_A ([oL o cL v0] ++ (wX cI cZ cA ax n B Q cn rt wd qf T)) sz)) (fun _ _ _ => False) 2 12 (va_A ([oL o cL v0] ++ (wX cI cZ cA ax n B Q cn rt wd qf T)) sz) := by
  refine vx_ofWH (cc := cL_addLine) (maxL := 6) (ret := (some .int)) (hh := [(0, 12, 15, 21), (0, 12, 19, 13), (0, 12, 23, 15)]) (by decide) rfl ?_
  intro p e s m args below meth c s₁ BL hml hv
  obtain ⟨rfl, hsz, hP, hK, hD0, hE, hNC⟩ := hv
  have hx := BL.exec
  have hb := BL.bytes
  have hr := BL.returns
  have hts := atoms_spec (ws := wsL_addLine) BL.pre
  have hown : s.vm.findClass RL = some m.cls := findClass_of_methodNamed BL.named
  have hlocks := BL.notSynchronized
  have htab := vx_table (x := yL_addLine) BL (hts _ List.mem_cons_self)
  subst hsz
  have hD := hD0.self (sz := s.heap.size)
  generalize hAe : va_A ([oL o cL v0] ++ (wX cI cZ cA ax n B Q cn rt wd qf T)) s.heap.size = A at hD ⊢
  have hA : ∀ q : Nat, s.heap.size ≤ q → A q := fun q h => by rw [← hAe]; exact Or.inr h
  have hS : va_S A s.heap s.heap [] := va_S.rf
  have hP : va_P D vwCl ([oL o cL v0] ++ (wX cI cZ cA ax n B Q cn rt wd qf T)) s.heap := hP
  have hD : va_D A ([oL o cL v0] ++ (wX cI cZ cA ax n B Q cn rt wd qf T)) := hD
  have hl := lv_entry ([.ref (ax 0), .int u, .int k, .int w, .ref o]) (n := 6) (Nat.le_of_ble_eq_true rfl)
  rw [lg_entry_eq]
  generalize (lg_sl ([.ref (ax 0), .int u, .int k, .int w, .ref o]) ++ List.replicate (6 - (lg_sl ([.ref (ax 0), .int u, .int k, .int w, .ref o])).length) Slot.unset).toArray = ls at hl ⊢
  have hl : lv_has ls 6 [(0, .ref (ax 0)), (1, .int u), (2, .int k), (3, .int w), (4, .ref o)] := hl
  refine lv_aload hx hb dL_addLine_0 (lv_at hl 4 rfl) ?_
  refine lv_iconst (v := nI 0) hx hb dL_addLine_2 (by decide +kernel) ?_
  refine lv_aload_n hx hb dL_addLine_3 rfl (lv_at hl 0 rfl) ?_
  refine lv_iload_n hx hb dL_addLine_4 rfl (lv_at hl 1 rfl) ?_
  refine lv_iload_n hx hb dL_addLine_5 rfl (lv_at hl 2 rfl) ?_
  refine lv_iload_n hx hb dL_addLine_6 rfl (lv_at hl 3 rfl) ?_
  refine xm_Vi (wr := [oL o cL v0]) (As := [.int u, .int k, .int w]) (tys0 := [(cI, .int), (cZ, .boolean), (cA, .array .int)]) (A := A) ⟨hx, hb, hml, hown, hts⟩ (kX1_addLine l hfl D cI cZ cA ax n B Q cn rt wd qf T s.heap.size u k w hB hQ h_T) (cwV 3 hts gL_addLine_X1_addLine rfl rfl rfl hdX1_addLine ⟨Nat.le_of_ble_eq_true rfl, Nat.le_of_ble_eq_true rfl⟩) hK (hK.sub [0, 1, 2] rfl) hP hE (ci := 3) rfl (q0 := 1) rfl rfl rfl hl.1 rfl (Nat.le_of_ble_eq_true rfl) dL_addLine_7 ⟨Nat.le_of_ble_eq_true rfl, Nat.le_of_ble_eq_true rfl⟩ hD hA (fun E ce q9 H1 locs1 hF hz hk hS1 hce hcv hcl => ?_) (fun r1 u1 H1 locs1 hp1 hP hD hS => ?_)
  · have hP1 := hP.kept (H1 := H1) (fun k x hx => hk x.1 ((hP k x hx).lt))
    rcases hF with ⟨rfl, hcd⟩ | ⟨rfl, hcd⟩ | ⟨rfl, hcd⟩
    · refine vx_catch (name := "java/lang/IndexOutOfBoundsException") hown [] ⟨0, 12, 15, 21⟩ [⟨0, 12, 19, 13⟩, ⟨0, 12, 23, 15⟩] (by rw [htab]; rfl) (fun z hz => nomatch hz) rfl (by decide) (hts (.classLink RL 21 "java/lang/IndexOutOfBoundsException") (by decide +kernel)) (va_Nw.use rfl (hE.2.2.1 (.castable "java/lang/IndexOutOfBoundsException" "java/lang/IndexOutOfBoundsException") (by decide +kernel))) hce hcv hcl ?_
      refine lv_astore (lv' := [(5, .ref q9), (0, .ref (ax 0)), (1, .int u), (2, .int k), (3, .int w), (4, .ref o)]) hx hb dL_addLine_15 hl (by decide) rfl (fun ls hl => ?_)
      refine lv_iconst (v := nI 1) hx hb dL_addLine_17 (by decide +kernel) ?_
      refine vx_ret ?_
      refine W.widen (k := 2) (n := 12) (Nat.le_of_ble_eq_true rfl) (Nat.le_of_ble_eq_true rfl) ?_
      have eB : s_adB n B u k w = B := if_neg (by rw [hcd]; decide)
      exact W.iret (v := nI 1) hx hb hr (fun t ht hW => ⟨⟨_, (v0, Q, wd, qf, T), rfl, ⟨by rw [hcd], fun q => absurd (hcd.symm.trans q) (by decide), by rw [eB]; exact hB, by rw [eB]; exact hQ, h_T⟩, ⟨by rw [ht]; rw [eB]; exact hP1, va_K.moved hW.alike hK, by rw [eB]; exact hD⟩⟩, hS1.F ht⟩) hS1.2.2 dL_addLine_18
    · refine vx_catch (name := "java/lang/IllegalArgumentException") hown [⟨0, 12, 15, 21⟩] ⟨0, 12, 19, 13⟩ [⟨0, 12, 23, 15⟩] (by rw [htab]; rfl) (fun z hz => by simp only [List.mem_cons, List.not_mem_nil, or_false] at hz; rcases hz with rfl; exact Or.inr ⟨by decide, "java/lang/IndexOutOfBoundsException", hts (.classLink RL 21 "java/lang/IndexOutOfBoundsException") (by decide +kernel), hNC ("java/lang/IllegalArgumentException", "java/lang/IndexOutOfBoundsException") (by decide +kernel)⟩) rfl (by decide) (hts (.classLink RL 13 "java/lang/IllegalArgumentException") (by decide +kernel)) (va_Nw.use rfl (hE.2.2.1 (.castable "java/lang/IllegalArgumentException" "java/lang/IllegalArgumentException") (by decide +kernel))) hce hcv hcl ?_
      refine lv_astore (lv' := [(5, .ref q9), (0, .ref (ax 0)), (1, .int u), (2, .int k), (3, .int w), (4, .ref o)]) hx hb dL_addLine_19 hl (by decide) rfl (fun ls hl => ?_)
      refine lv_iconst (v := nI 2) hx hb dL_addLine_21 (by decide +kernel) ?_
      refine vx_ret ?_
      refine W.widen (k := 2) (n := 12) (Nat.le_of_ble_eq_true rfl) (Nat.le_of_ble_eq_true rfl) ?_
      have eB : s_adB n B u k w = B := if_neg (by rw [hcd]; decide)
      exact W.iret (v := nI 2) hx hb hr (fun t ht hW => ⟨⟨_, (v0, Q, wd, qf, T), rfl, ⟨by rw [hcd], fun q => absurd (hcd.symm.trans q) (by decide), by rw [eB]; exact hB, by rw [eB]; exact hQ, h_T⟩, ⟨by rw [ht]; rw [eB]; exact hP1, va_K.moved hW.alike hK, by rw [eB]; exact hD⟩⟩, hS1.F ht⟩) hS1.2.2 dL_addLine_22
    · refine vx_catch (name := "java/lang/IllegalStateException") hown [⟨0, 12, 15, 21⟩, ⟨0, 12, 19, 13⟩] ⟨0, 12, 23, 15⟩ [] (by rw [htab]; rfl) (fun z hz => by simp only [List.mem_cons, List.not_mem_nil, or_false] at hz; rcases hz with rfl | rfl; (exact Or.inr ⟨by decide, "java/lang/IndexOutOfBoundsException", hts (.classLink RL 21 "java/lang/IndexOutOfBoundsException") (by decide +kernel), hNC ("java/lang/IllegalStateException", "java/lang/IndexOutOfBoundsException") (by decide +kernel)⟩); (exact Or.inr ⟨by decide, "java/lang/IllegalArgumentException", hts (.classLink RL 13 "java/lang/IllegalArgumentException") (by decide +kernel), hNC ("java/lang/IllegalStateException", "java/lang/IllegalArgumentException") (by decide +kernel)⟩)) rfl (by decide) (hts (.classLink RL 15 "java/lang/IllegalStateException") (by decide +kernel)) (va_Nw.use rfl (hE.2.2.1 (.castable "java/lang/IllegalStateException" "java/lang/IllegalStateException") (by decide +kernel))) hce hcv hcl ?_
      refine lv_astore (lv' := [(5, .ref q9), (0, .ref (ax 0)), (1, .int u), (2, .int k), (3, .int w), (4, .ref o)]) hx hb dL_addLine_23 hl (by decide) rfl (fun ls hl => ?_)
      refine lv_iconst (v := nI 3) hx hb dL_addLine_25 (by decide +kernel) ?_
      refine vx_ret ?_
      refine W.widen (k := 2) (n := 12) (Nat.le_of_ble_eq_true rfl) (Nat.le_of_ble_eq_true rfl) ?_
      have eB : s_adB n B u k w = B := if_neg (by rw [hcd]; decide)
      exact W.iret (v := nI 3) hx hb hr (fun t ht hW => ⟨⟨_, (v0, Q, wd, qf, T), rfl, ⟨by rw [hcd], fun q => absurd (hcd.symm.trans q) (by decide), by rw [eB]; exact hB, by rw [eB]; exact hQ, h_T⟩, ⟨by rw [ht]; rw [eB]; exact hP1, va_K.moved hW.alike hK, by rw [eB]; exact hD⟩⟩, hS1.F ht⟩) hS1.2.2 dL_addLine_26
  obtain ⟨rfl, hc9, hp0, hp1, hp2⟩ := hp1
  refine lv_i2l (v := ((nI (s_adv n B u k w))).toInt64) hx hb dL_addLine_10 rfl ?_
  refine va_last hx hb hK hP hD hS 0 3 rfl rfl (vp_in_nI (by decide) (by decide)) dL_addLine_11 (fun H1 locs1 hP hD hS => ?_)
  refine lv_goto (tgt := 27) hx hb dL_addLine_12 (by decide) ?_
  refine lv_iconst (v := nI 0) hx hb dL_addLine_27 (by decide +kernel) ?_
  refine vx_ret ?_
  refine W.widen (k := 2) (n := 12) (Nat.le_of_ble_eq_true rfl) (Nat.le_of_ble_eq_true rfl) ?_
  obtain ⟨hP, hD⟩ := oL_set hP hD
  exact W.iret (v := nI 0) hx hb hr (fun t ht hW => ⟨⟨_, (((nI (s_adv n B u k w))).toInt64, u1), rfl, ⟨by rw [hc9], fun _ => rfl, hp0, hp1, hp2⟩, by rw [ht]; exact hP, va_K.moved hW.alike hK, hD⟩, hS.F ht⟩) hS.2.2 dL_addLine_28
set_option maxHeartbeats 4000000 in
set_option maxRecDepth 100000 in
theorem kL_removeLine (l : Launch) (hfl : l.stackTraces = false) (D : va_G) (cI cZ cA : ClassId) (ax : Nat → Nat) (n : Nat) (B : Nat → Nat → Nat) (Q : Nat → Option Nat) (cn : Nat → Bool) (rt : Nat → Nat) (wd : Nat → Option Nat) (qf : Nat → Option Nat) (T : Nat → Nat → Nat) (o : Nat) (cL : ClassId) (v0 : Int64) (sz : Nat) (u : Int32) (hB : Bok n B) (hQ : QA n B Q) (h_T : TB T) : vx_Met l yL_removeLine wsL_removeLine ({ frames := 8, cells := 2, slots := 12, locals := 137 }) (PcW D (tyL cI cZ cA cL) ([oL o cL v0] ++ (wX cI cZ cA ax n B Q cn rt wd qf T)) sz [.ref (ax 0), .int u, .ref o]) (va_Qi (fun (r : Int32) (u9 : Int64 × (Nat → Option Nat) × (Nat → Option Nat) × (Nat → Option Nat) × (Nat → Nat → Nat)) => r = nI (s_rmc n B u) ∧ (s_rmc n B u = 0 → (u9.1) = ((nI (s_rmv n B u))).toInt64) ∧ Bok n (s_rmB n B u) ∧ QA n (s_rmB n B u) u9.2.1 ∧ TB u9.2.2.2.2) (fun (u9 : Int64 × (Nat → Option Nat) × (Nat → Option Nat) × (Nat → Option Nat) × (Nat → Nat → Nat)) t => AtW D (tyL cI cZ cA cL) (va_A ([oL o cL v0] ++ (wX cI cZ cA ax n B Q cn rt wd qf T)) sz) ([oL o cL (u9.1)] ++ (wX cI cZ cA ax n (s_rmB n B u) u9.2.1 cn rt u9.2.2.1 u9.2.2.2.1 u9.2.2.2.2)) t) (va_A ([oL o cL v0] ++ (wX cI cZ cA ax n B Q cn rt wd qf T)) sz)) (fun _ _ _ => False) 2 12 (va_A ([oL o cL v0] ++ (wX cI cZ cA ax n B Q cn rt wd qf T)) sz) := by
  refine vx_ofWH (cc := cL_removeLine) (maxL := 4) (ret := (some .int)) (hh := [(0, 9, 12, 21), (0, 9, 15, 15)]) (by decide) rfl ?_
  intro p e s m args below meth c s₁ BL hml hv
  obtain ⟨rfl, hsz, hP, hK, hD0, hE, hNC⟩ := hv
  have hx := BL.exec
  have hb := BL.bytes
  have hr := BL.returns
  have hts := atoms_spec (ws := wsL_removeLine) BL.pre
  have hown : s.vm.findClass RL = some m.cls := findClass_of_methodNamed BL.named
  have hlocks := BL.notSynchronized
  have htab := vx_table (x := yL_removeLine) BL (hts _ List.mem_cons_self)
  subst hsz
  have hD := hD0.self (sz := s.heap.size)
  generalize hAe : va_A ([oL o cL v0] ++ (wX cI cZ cA ax n B Q cn rt wd qf T)) s.heap.size = A at hD ⊢
  have hA : ∀ q : Nat, s.heap.size ≤ q → A q := fun q h => by rw [← hAe]; exact Or.inr h
  have hS : va_S A s.heap s.heap [] := va_S.rf
  have hP : va_P D vwCl ([oL o cL v0] ++ (wX cI cZ cA ax n B Q cn rt wd qf T)) s.heap := hP
  have hD : va_D A ([oL o cL v0] ++ (wX cI cZ cA ax n B Q cn rt wd qf T)) := hD
  have hl := lv_entry ([.ref (ax 0), .int u, .ref o]) (n := 4) (Nat.le_of_ble_eq_true rfl)
  rw [lg_entry_eq]
  generalize (lg_sl ([.ref (ax 0), .int u, .ref o]) ++ List.replicate (4 - (lg_sl ([.ref (ax 0), .int u, .ref o])).length) Slot.unset).toArray = ls at hl ⊢
  have hl : lv_has ls 4 [(0, .ref (ax 0)), (1, .int u), (2, .ref o)] := hl
  refine lv_aload_n hx hb dL_removeLine_0 rfl (lv_at hl 2 rfl) ?_
  refine lv_iconst (v := nI 0) hx hb dL_removeLine_1 (by decide +kernel) ?_
  refine lv_aload_n hx hb dL_removeLine_2 rfl (lv_at hl 0 rfl) ?_
  refine lv_iload_n hx hb dL_removeLine_3 rfl (lv_at hl 1 rfl) ?_
  refine xm_Vi (wr := [oL o cL v0]) (As := [.int u]) (tys0 := [(cI, .int), (cZ, .boolean), (cA, .array .int)]) (A := A) ⟨hx, hb, hml, hown, hts⟩ (kX1_removeLine l hfl D cI cZ cA ax n B Q cn rt wd qf T s.heap.size u hB hQ h_T) (cwV 1 hts gL_removeLine_X1_removeLine rfl rfl rfl hdX1_removeLine ⟨Nat.le_of_ble_eq_true rfl, Nat.le_of_ble_eq_true rfl⟩) hK (hK.sub [0, 1, 2] rfl) hP hE (ci := 3) rfl (q0 := 1) rfl rfl rfl hl.1 rfl (Nat.le_of_ble_eq_true rfl) dL_removeLine_4 ⟨Nat.le_of_ble_eq_true rfl, Nat.le_of_ble_eq_true rfl⟩ hD hA (fun E ce q9 H1 locs1 hF hz hk hS1 hce hcv hcl => ?_) (fun r1 u1 H1 locs1 hp1 hP hD hS => ?_)
  · have hP1 := hP.kept (H1 := H1) (fun k x hx => hk x.1 ((hP k x hx).lt))
    rcases hF with ⟨rfl, hcd⟩ | ⟨rfl, hcd⟩
    · refine vx_catch (name := "java/lang/IndexOutOfBoundsException") hown [] ⟨0, 9, 12, 21⟩ [⟨0, 9, 15, 15⟩] (by rw [htab]; rfl) (fun z hz => nomatch hz) rfl (by decide) (hts (.classLink RL 21 "java/lang/IndexOutOfBoundsException") (by decide +kernel)) (va_Nw.use rfl (hE.2.2.1 (.castable "java/lang/IndexOutOfBoundsException" "java/lang/IndexOutOfBoundsException") (by decide +kernel))) hce hcv hcl ?_
      refine lv_astore_n (lv' := [(3, .ref q9), (0, .ref (ax 0)), (1, .int u), (2, .ref o)]) hx hb dL_removeLine_12 rfl hl (by decide) rfl (fun ls hl => ?_)
      refine lv_iconst (v := nI 1) hx hb dL_removeLine_13 (by decide +kernel) ?_
      refine vx_ret ?_
      refine W.widen (k := 2) (n := 12) (Nat.le_of_ble_eq_true rfl) (Nat.le_of_ble_eq_true rfl) ?_
      have eB : s_rmB n B u = B := if_neg (by rw [hcd]; decide)
      exact W.iret (v := nI 1) hx hb hr (fun t ht hW => ⟨⟨_, (v0, Q, wd, qf, T), rfl, ⟨by rw [hcd], fun q => absurd (hcd.symm.trans q) (by decide), by rw [eB]; exact hB, by rw [eB]; exact hQ, h_T⟩, ⟨by rw [ht]; rw [eB]; exact hP1, va_K.moved hW.alike hK, by rw [eB]; exact hD⟩⟩, hS1.F ht⟩) hS1.2.2 dL_removeLine_14
    · refine vx_catch (name := "java/lang/IllegalStateException") hown [⟨0, 9, 12, 21⟩] ⟨0, 9, 15, 15⟩ [] (by rw [htab]; rfl) (fun z hz => by simp only [List.mem_cons, List.not_mem_nil, or_false] at hz; rcases hz with rfl; exact Or.inr ⟨by decide, "java/lang/IndexOutOfBoundsException", hts (.classLink RL 21 "java/lang/IndexOutOfBoundsException") (by decide +kernel), hNC ("java/lang/IllegalStateException", "java/lang/IndexOutOfBoundsException") (by decide +kernel)⟩) rfl (by decide) (hts (.classLink RL 15 "java/lang/IllegalStateException") (by decide +kernel)) (va_Nw.use rfl (hE.2.2.1 (.castable "java/lang/IllegalStateException" "java/lang/IllegalStateException") (by decide +kernel))) hce hcv hcl ?_
      refine lv_astore_n (lv' := [(3, .ref q9), (0, .ref (ax 0)), (1, .int u), (2, .ref o)]) hx hb dL_removeLine_15 rfl hl (by decide) rfl (fun ls hl => ?_)
      refine lv_iconst (v := nI 2) hx hb dL_removeLine_16 (by decide +kernel) ?_
      refine vx_ret ?_
      refine W.widen (k := 2) (n := 12) (Nat.le_of_ble_eq_true rfl) (Nat.le_of_ble_eq_true rfl) ?_
      have eB : s_rmB n B u = B := if_neg (by rw [hcd]; decide)
      exact W.iret (v := nI 2) hx hb hr (fun t ht hW => ⟨⟨_, (v0, Q, wd, qf, T), rfl, ⟨by rw [hcd], fun q => absurd (hcd.symm.trans q) (by decide), by rw [eB]; exact hB, by rw [eB]; exact hQ, h_T⟩, ⟨by rw [ht]; rw [eB]; exact hP1, va_K.moved hW.alike hK, by rw [eB]; exact hD⟩⟩, hS1.F ht⟩) hS1.2.2 dL_removeLine_17
  obtain ⟨rfl, hc9, hp0, hp1, hp2⟩ := hp1
  refine lv_i2l (v := ((nI (s_rmv n B u))).toInt64) hx hb dL_removeLine_7 rfl ?_
  refine va_last hx hb hK hP hD hS 0 3 rfl rfl (vp_in_nI (by decide) (by decide)) dL_removeLine_8 (fun H1 locs1 hP hD hS => ?_)
  refine lv_goto (tgt := 18) hx hb dL_removeLine_9 (by decide) ?_
  refine lv_iconst (v := nI 0) hx hb dL_removeLine_18 (by decide +kernel) ?_
  refine vx_ret ?_
  refine W.widen (k := 2) (n := 12) (Nat.le_of_ble_eq_true rfl) (Nat.le_of_ble_eq_true rfl) ?_
  obtain ⟨hP, hD⟩ := oL_set hP hD
  exact W.iret (v := nI 0) hx hb hr (fun t ht hW => ⟨⟨_, (((nI (s_rmv n B u))).toInt64, u1), rfl, ⟨by rw [hc9], fun _ => rfl, hp0, hp1, hp2⟩, by rw [ht]; exact hP, va_K.moved hW.alike hK, hD⟩, hS.F ht⟩) hS.2.2 dL_removeLine_19
set_option maxHeartbeats 4000000 in
set_option maxRecDepth 100000 in
theorem kL_aligned (l : Launch) (hfl : l.stackTraces = false) (D : va_G) (cI cZ cA : ClassId) (ax : Nat → Nat) (n : Nat) (B : Nat → Nat → Nat) (Q : Nat → Option Nat) (cn : Nat → Bool) (rt : Nat → Nat) (wd : Nat → Option Nat) (qf : Nat → Option Nat) (T : Nat → Nat → Nat) (o : Nat) (cL : ClassId) (v0 : Int64) (sz : Nat) (u : Int32) (hB : Bok n B) (h_T : TB T) : vx_Met l yL_aligned wsL_aligned ({ frames := 8, cells := 1, slots := 6, locals := 124 }) (PcW D (tyL cI cZ cA cL) ([oL o cL v0] ++ (wX cI cZ cA ax n B Q cn rt wd qf T)) sz [.ref (ax 0), .int u, .ref o]) (va_Qi (fun (r : Int32) (u9 : Int64 × (Nat → Option Nat) × (Nat → Option Nat) × (Nat → Nat → Nat)) => r = nI ((s_alc n B u).1) ∧ ((s_alc n B u).1 = 0 → (u9.1) = ((nI ((s_alc n B u).2))).toInt64) ∧ TB u9.2.2.2) (fun (u9 : Int64 × (Nat → Option Nat) × (Nat → Option Nat) × (Nat → Nat → Nat)) t => AtW D (tyL cI cZ cA cL) (va_A ([oL o cL v0] ++ (wX cI cZ cA ax n B Q cn rt wd qf T)) sz) ([oL o cL (u9.1)] ++ (wX cI cZ cA ax n B Q cn rt u9.2.1 u9.2.2.1 u9.2.2.2)) t) (va_A ([oL o cL v0] ++ (wX cI cZ cA ax n B Q cn rt wd qf T)) sz)) (fun _ _ _ => False) 1 6 (va_A ([oL o cL v0] ++ (wX cI cZ cA ax n B Q cn rt wd qf T)) sz) := by
  refine vx_ofWH (cc := cL_aligned) (maxL := 4) (ret := (some .int)) (hh := [(0, 9, 12, 21)]) (by decide) rfl ?_
  intro p e s m args below meth c s₁ BL hml hv
  obtain ⟨rfl, hsz, hP, hK, hD0, hE, hNC⟩ := hv
  have hx := BL.exec
  have hb := BL.bytes
  have hr := BL.returns
  have hts := atoms_spec (ws := wsL_aligned) BL.pre
  have hown : s.vm.findClass RL = some m.cls := findClass_of_methodNamed BL.named
  have hlocks := BL.notSynchronized
  have htab := vx_table (x := yL_aligned) BL (hts _ List.mem_cons_self)
  subst hsz
  have hD := hD0.self (sz := s.heap.size)
  generalize hAe : va_A ([oL o cL v0] ++ (wX cI cZ cA ax n B Q cn rt wd qf T)) s.heap.size = A at hD ⊢
  have hA : ∀ q : Nat, s.heap.size ≤ q → A q := fun q h => by rw [← hAe]; exact Or.inr h
  have hS : va_S A s.heap s.heap [] := va_S.rf
  have hP : va_P D vwCl ([oL o cL v0] ++ (wX cI cZ cA ax n B Q cn rt wd qf T)) s.heap := hP
  have hD : va_D A ([oL o cL v0] ++ (wX cI cZ cA ax n B Q cn rt wd qf T)) := hD
  have hl := lv_entry ([.ref (ax 0), .int u, .ref o]) (n := 4) (Nat.le_of_ble_eq_true rfl)
  rw [lg_entry_eq]
  generalize (lg_sl ([.ref (ax 0), .int u, .ref o]) ++ List.replicate (4 - (lg_sl ([.ref (ax 0), .int u, .ref o])).length) Slot.unset).toArray = ls at hl ⊢
  have hl : lv_has ls 4 [(0, .ref (ax 0)), (1, .int u), (2, .ref o)] := hl
  refine lv_aload_n hx hb dL_aligned_0 rfl (lv_at hl 2 rfl) ?_
  refine lv_iconst (v := nI 0) hx hb dL_aligned_1 (by decide +kernel) ?_
  refine lv_aload_n hx hb dL_aligned_2 rfl (lv_at hl 0 rfl) ?_
  refine lv_iload_n hx hb dL_aligned_3 rfl (lv_at hl 1 rfl) ?_
  refine xm_Vi (wr := [oL o cL v0]) (As := [.int u]) (tys0 := [(cI, .int), (cZ, .boolean), (cA, .array .int)]) (A := A) ⟨hx, hb, hml, hown, hts⟩ (kX1_aligned l hfl D cI cZ cA ax n B Q cn rt wd qf T s.heap.size u hB h_T) (cwV 1 hts gL_aligned_X1_aligned rfl rfl rfl hdX1_aligned ⟨Nat.le_of_ble_eq_true rfl, Nat.le_of_ble_eq_true rfl⟩) hK (hK.sub [0, 1, 2] rfl) hP hE (ci := 3) rfl (q0 := 1) rfl rfl rfl hl.1 rfl (Nat.le_of_ble_eq_true rfl) dL_aligned_4 ⟨Nat.le_of_ble_eq_true rfl, Nat.le_of_ble_eq_true rfl⟩ hD hA (fun E ce q9 H1 locs1 hF hz hk hS1 hce hcv hcl => ?_) (fun r1 u1 H1 locs1 hp1 hP hD hS => ?_)
  · have hP1 := hP.kept (H1 := H1) (fun k x hx => hk x.1 ((hP k x hx).lt))
    rcases hF with ⟨rfl, hcd⟩
    · refine vx_catch (name := "java/lang/IndexOutOfBoundsException") hown [] ⟨0, 9, 12, 21⟩ [] (by rw [htab]; rfl) (fun z hz => nomatch hz) rfl (by decide) (hts (.classLink RL 21 "java/lang/IndexOutOfBoundsException") (by decide +kernel)) (va_Nw.use rfl (hE.2.2.1 (.castable "java/lang/IndexOutOfBoundsException" "java/lang/IndexOutOfBoundsException") (by decide +kernel))) hce hcv hcl ?_
      refine lv_astore_n (lv' := [(3, .ref q9), (0, .ref (ax 0)), (1, .int u), (2, .ref o)]) hx hb dL_aligned_12 rfl hl (by decide) rfl (fun ls hl => ?_)
      refine lv_iconst (v := nI 1) hx hb dL_aligned_13 (by decide +kernel) ?_
      refine vx_ret ?_
      refine W.widen (k := 1) (n := 6) (Nat.le_of_ble_eq_true rfl) (Nat.le_of_ble_eq_true rfl) ?_
      exact W.iret (v := nI 1) hx hb hr (fun t ht hW => ⟨⟨_, (v0, wd, qf, T), rfl, ⟨by rw [hcd], fun q => absurd (hcd.symm.trans q) (by decide), h_T⟩, ⟨by rw [ht]; exact hP1, va_K.moved hW.alike hK, by exact hD⟩⟩, hS1.F ht⟩) hS1.2.2 dL_aligned_14
  obtain ⟨rfl, hc9, hp0⟩ := hp1
  refine lv_i2l (v := ((nI ((s_alc n B u).2))).toInt64) hx hb dL_aligned_7 rfl ?_
  refine va_last hx hb hK hP hD hS 0 3 rfl rfl (vp_in_nI (by decide) (by decide)) dL_aligned_8 (fun H1 locs1 hP hD hS => ?_)
  refine lv_goto (tgt := 15) hx hb dL_aligned_9 (by decide) ?_
  refine lv_iconst (v := nI 0) hx hb dL_aligned_15 (by decide +kernel) ?_
  refine vx_ret ?_
  refine W.widen (k := 1) (n := 6) (Nat.le_of_ble_eq_true rfl) (Nat.le_of_ble_eq_true rfl) ?_
  obtain ⟨hP, hD⟩ := oL_set hP hD
  exact W.iret (v := nI 0) hx hb hr (fun t ht hW => ⟨⟨_, (((nI ((s_alc n B u).2))).toInt64, u1), rfl, ⟨by rw [hc9], fun _ => rfl, hp0⟩, by rw [ht]; exact hP, va_K.moved hW.alike hK, hD⟩, hS.F ht⟩) hS.2.2 dL_aligned_16
set_option maxHeartbeats 4000000 in
set_option maxRecDepth 100000 in
theorem kL_alignedByTrying (l : Launch) (hfl : l.stackTraces = false) (D : va_G) (cI cZ cA : ClassId) (ax : Nat → Nat) (n : Nat) (B : Nat → Nat → Nat) (Q : Nat → Option Nat) (cn : Nat → Bool) (rt : Nat → Nat) (wd : Nat → Option Nat) (qf : Nat → Option Nat) (T : Nat → Nat → Nat) (o : Nat) (cL : ClassId) (v0 : Int64) (sz : Nat) (u : Int32) (hB : Bok n B) : vx_Met l yL_alignedByTrying wsL_alignedByTrying ({ frames := 11, cells := 1, slots := 6, locals := 266 }) (PcW D (tyL cI cZ cA cL) ([oL o cL v0] ++ (wX cI cZ cA ax n B Q cn rt wd qf T)) sz [.ref (ax 0), .int u, .ref o]) (va_Qi (fun (r : Int32) (u9 : Int64 × (Nat → Option Nat) × (Nat → Option Nat)) => r = nI ((s_alc n B u).1) ∧ ((s_alc n B u).1 = 0 → (u9.1) = ((nI ((s_alc n B u).2))).toInt64)) (fun (u9 : Int64 × (Nat → Option Nat) × (Nat → Option Nat)) t => AtW D (tyL cI cZ cA cL) (va_A ([oL o cL v0] ++ (wX cI cZ cA ax n B Q cn rt wd qf T)) sz) ([oL o cL (u9.1)] ++ (wX cI cZ cA ax n B Q cn rt u9.2.1 u9.2.2 T)) t) (va_A ([oL o cL v0] ++ (wX cI cZ cA ax n B Q cn rt wd qf T)) sz)) (fun _ _ _ => False) 1 6 (va_A ([oL o cL v0] ++ (wX cI cZ cA ax n B Q cn rt wd qf T)) sz) := by
  refine vx_ofWH (cc := cL_alignedByTrying) (maxL := 4) (ret := (some .int)) (hh := [(0, 9, 12, 21)]) (by decide) rfl ?_
  intro p e s m args below meth c s₁ BL hml hv
  obtain ⟨rfl, hsz, hP, hK, hD0, hE, hNC⟩ := hv
  have hx := BL.exec
  have hb := BL.bytes
  have hr := BL.returns
  have hts := atoms_spec (ws := wsL_alignedByTrying) BL.pre
  have hown : s.vm.findClass RL = some m.cls := findClass_of_methodNamed BL.named
  have hlocks := BL.notSynchronized
  have htab := vx_table (x := yL_alignedByTrying) BL (hts _ List.mem_cons_self)
  subst hsz
  have hD := hD0.self (sz := s.heap.size)
  generalize hAe : va_A ([oL o cL v0] ++ (wX cI cZ cA ax n B Q cn rt wd qf T)) s.heap.size = A at hD ⊢
  have hA : ∀ q : Nat, s.heap.size ≤ q → A q := fun q h => by rw [← hAe]; exact Or.inr h
  have hS : va_S A s.heap s.heap [] := va_S.rf
  have hP : va_P D vwCl ([oL o cL v0] ++ (wX cI cZ cA ax n B Q cn rt wd qf T)) s.heap := hP
  have hD : va_D A ([oL o cL v0] ++ (wX cI cZ cA ax n B Q cn rt wd qf T)) := hD
  have hl := lv_entry ([.ref (ax 0), .int u, .ref o]) (n := 4) (Nat.le_of_ble_eq_true rfl)
  rw [lg_entry_eq]
  generalize (lg_sl ([.ref (ax 0), .int u, .ref o]) ++ List.replicate (4 - (lg_sl ([.ref (ax 0), .int u, .ref o])).length) Slot.unset).toArray = ls at hl ⊢
  have hl : lv_has ls 4 [(0, .ref (ax 0)), (1, .int u), (2, .ref o)] := hl
  refine lv_aload_n hx hb dL_alignedByTrying_0 rfl (lv_at hl 2 rfl) ?_
  refine lv_iconst (v := nI 0) hx hb dL_alignedByTrying_1 (by decide +kernel) ?_
  refine lv_aload_n hx hb dL_alignedByTrying_2 rfl (lv_at hl 0 rfl) ?_
  refine lv_iload_n hx hb dL_alignedByTrying_3 rfl (lv_at hl 1 rfl) ?_
  refine xm_Vi (wr := [oL o cL v0]) (As := [.int u]) (tys0 := [(cI, .int), (cZ, .boolean), (cA, .array .int)]) (A := A) ⟨hx, hb, hml, hown, hts⟩ (kX1_alignedByTrying l hfl D cI cZ cA ax n B Q cn rt wd qf T s.heap.size u hB) (cwV 1 hts gL_alignedByTrying_X1_alignedByTrying rfl rfl rfl hdX1_alignedByTrying ⟨Nat.le_of_ble_eq_true rfl, Nat.le_of_ble_eq_true rfl⟩) hK (hK.sub [0, 1, 2] rfl) hP hE (ci := 3) rfl (q0 := 1) rfl rfl rfl hl.1 rfl (Nat.le_of_ble_eq_true rfl) dL_alignedByTrying_4 ⟨Nat.le_of_ble_eq_true rfl, Nat.le_of_ble_eq_true rfl⟩ hD hA (fun E ce q9 H1 locs1 hF hz hk hS1 hce hcv hcl => ?_) (fun r1 u1 H1 locs1 hp1 hP hD hS => ?_)
  · have hP1 := hP.kept (H1 := H1) (fun k x hx => hk x.1 ((hP k x hx).lt))
    rcases hF with ⟨rfl, hcd⟩
    · refine vx_catch (name := "java/lang/IndexOutOfBoundsException") hown [] ⟨0, 9, 12, 21⟩ [] (by rw [htab]; rfl) (fun z hz => nomatch hz) rfl (by decide) (hts (.classLink RL 21 "java/lang/IndexOutOfBoundsException") (by decide +kernel)) (va_Nw.use rfl (hE.2.2.1 (.castable "java/lang/IndexOutOfBoundsException" "java/lang/IndexOutOfBoundsException") (by decide +kernel))) hce hcv hcl ?_
      refine lv_astore_n (lv' := [(3, .ref q9), (0, .ref (ax 0)), (1, .int u), (2, .ref o)]) hx hb dL_alignedByTrying_12 rfl hl (by decide) rfl (fun ls hl => ?_)
      refine lv_iconst (v := nI 1) hx hb dL_alignedByTrying_13 (by decide +kernel) ?_
      refine vx_ret ?_
      refine W.widen (k := 1) (n := 6) (Nat.le_of_ble_eq_true rfl) (Nat.le_of_ble_eq_true rfl) ?_
      exact W.iret (v := nI 1) hx hb hr (fun t ht hW => ⟨⟨_, (v0, wd, qf), rfl, ⟨by rw [hcd], fun q => absurd (hcd.symm.trans q) (by decide)⟩, ⟨by rw [ht]; exact hP1, va_K.moved hW.alike hK, by exact hD⟩⟩, hS1.F ht⟩) hS1.2.2 dL_alignedByTrying_14
  obtain ⟨rfl, hc9⟩ := hp1
  refine lv_i2l (v := ((nI ((s_alc n B u).2))).toInt64) hx hb dL_alignedByTrying_7 rfl ?_
  refine va_last hx hb hK hP hD hS 0 3 rfl rfl (vp_in_nI (by decide) (by decide)) dL_alignedByTrying_8 (fun H1 locs1 hP hD hS => ?_)
  refine lv_goto (tgt := 15) hx hb dL_alignedByTrying_9 (by decide) ?_
  refine lv_iconst (v := nI 0) hx hb dL_alignedByTrying_15 (by decide +kernel) ?_
  refine vx_ret ?_
  refine W.widen (k := 1) (n := 6) (Nat.le_of_ble_eq_true rfl) (Nat.le_of_ble_eq_true rfl) ?_
  obtain ⟨hP, hD⟩ := oL_set hP hD
  exact W.iret (v := nI 0) hx hb hr (fun t ht hW => ⟨⟨_, (((nI ((s_alc n B u).2))).toInt64, u1), rfl, ⟨by rw [hc9], fun _ => rfl⟩, by rw [ht]; exact hP, va_K.moved hW.alike hK, hD⟩, hS.F ht⟩) hS.2.2 dL_alignedByTrying_16
set_option maxHeartbeats 4000000 in
set_option maxRecDepth 100000 in
theorem kL_rootByRounds (l : Launch) (hfl : l.stackTraces = false) (D : va_G) (cI cZ cA : ClassId) (ax : Nat → Nat) (n : Nat) (B : Nat → Nat → Nat) (Q : Nat → Option Nat) (cn : Nat → Bool) (rt : Nat → Nat) (wd : Nat → Option Nat) (qf : Nat → Option Nat) (T : Nat → Nat → Nat) (o : Nat) (cL : ClassId) (v0 : Int64) (sz : Nat) (u : Int32) (hB : Bok n B) : vx_Met l yL_rootByRounds wsL_rootByRounds ({ frames := 8, cells := 1, slots := 6, locals := 125 }) (PcW D (tyL cI cZ cA cL) ([oL o cL v0] ++ (wX cI cZ cA ax n B Q cn rt wd qf T)) sz [.ref (ax 0), .int u, .ref o]) (va_Qi (fun (r : Int32) (u9 : Int64 × (Nat → Nat)) => r = nI ((s_rtc n B u).1) ∧ ((s_rtc n B u).1 = 0 → (u9.1) = ((nI ((s_rtc n B u).2))).toInt64)) (fun (u9 : Int64 × (Nat → Nat)) t => AtW D (tyL cI cZ cA cL) (va_A ([oL o cL v0] ++ (wX cI cZ cA ax n B Q cn rt wd qf T)) sz) ([oL o cL (u9.1)] ++ (wX cI cZ cA ax n B Q cn u9.2 wd qf T)) t) (va_A ([oL o cL v0] ++ (wX cI cZ cA ax n B Q cn rt wd qf T)) sz)) (fun _ _ _ => False) 1 6 (va_A ([oL o cL v0] ++ (wX cI cZ cA ax n B Q cn rt wd qf T)) sz) := by
  refine vx_ofWH (cc := cL_rootByRounds) (maxL := 4) (ret := (some .int)) (hh := [(0, 9, 12, 21)]) (by decide) rfl ?_
  intro p e s m args below meth c s₁ BL hml hv
  obtain ⟨rfl, hsz, hP, hK, hD0, hE, hNC⟩ := hv
  have hx := BL.exec
  have hb := BL.bytes
  have hr := BL.returns
  have hts := atoms_spec (ws := wsL_rootByRounds) BL.pre
  have hown : s.vm.findClass RL = some m.cls := findClass_of_methodNamed BL.named
  have hlocks := BL.notSynchronized
  have htab := vx_table (x := yL_rootByRounds) BL (hts _ List.mem_cons_self)
  subst hsz
  have hD := hD0.self (sz := s.heap.size)
  generalize hAe : va_A ([oL o cL v0] ++ (wX cI cZ cA ax n B Q cn rt wd qf T)) s.heap.size = A at hD ⊢
  have hA : ∀ q : Nat, s.heap.size ≤ q → A q := fun q h => by rw [← hAe]; exact Or.inr h
  have hS : va_S A s.heap s.heap [] := va_S.rf
  have hP : va_P D vwCl ([oL o cL v0] ++ (wX cI cZ cA ax n B Q cn rt wd qf T)) s.heap := hP
  have hD : va_D A ([oL o cL v0] ++ (wX cI cZ cA ax n B Q cn rt wd qf T)) := hD
  have hl := lv_entry ([.ref (ax 0), .int u, .ref o]) (n := 4) (Nat.le_of_ble_eq_true rfl)
  rw [lg_entry_eq]
  generalize (lg_sl ([.ref (ax 0), .int u, .ref o]) ++ List.replicate (4 - (lg_sl ([.ref (ax 0), .int u, .ref o])).length) Slot.unset).toArray = ls at hl ⊢
  have hl : lv_has ls 4 [(0, .ref (ax 0)), (1, .int u), (2, .ref o)] := hl
  refine lv_aload_n hx hb dL_rootByRounds_0 rfl (lv_at hl 2 rfl) ?_
  refine lv_iconst (v := nI 0) hx hb dL_rootByRounds_1 (by decide +kernel) ?_
  refine lv_aload_n hx hb dL_rootByRounds_2 rfl (lv_at hl 0 rfl) ?_
  refine lv_iload_n hx hb dL_rootByRounds_3 rfl (lv_at hl 1 rfl) ?_
  refine xm_Vi (wr := [oL o cL v0]) (As := [.int u]) (tys0 := [(cI, .int), (cZ, .boolean), (cA, .array .int)]) (A := A) ⟨hx, hb, hml, hown, hts⟩ (kX1_rootByRounds l hfl D cI cZ cA ax n B Q cn rt wd qf T s.heap.size u hB) (cwV 1 hts gL_rootByRounds_X1_rootByRounds rfl rfl rfl hdX1_rootByRounds ⟨Nat.le_of_ble_eq_true rfl, Nat.le_of_ble_eq_true rfl⟩) hK (hK.sub [0, 1, 2] rfl) hP hE (ci := 3) rfl (q0 := 1) rfl rfl rfl hl.1 rfl (Nat.le_of_ble_eq_true rfl) dL_rootByRounds_4 ⟨Nat.le_of_ble_eq_true rfl, Nat.le_of_ble_eq_true rfl⟩ hD hA (fun E ce q9 H1 locs1 hF hz hk hS1 hce hcv hcl => ?_) (fun r1 u1 H1 locs1 hp1 hP hD hS => ?_)
  · have hP1 := hP.kept (H1 := H1) (fun k x hx => hk x.1 ((hP k x hx).lt))
    rcases hF with ⟨rfl, hcd⟩
    · refine vx_catch (name := "java/lang/IndexOutOfBoundsException") hown [] ⟨0, 9, 12, 21⟩ [] (by rw [htab]; rfl) (fun z hz => nomatch hz) rfl (by decide) (hts (.classLink RL 21 "java/lang/IndexOutOfBoundsException") (by decide +kernel)) (va_Nw.use rfl (hE.2.2.1 (.castable "java/lang/IndexOutOfBoundsException" "java/lang/IndexOutOfBoundsException") (by decide +kernel))) hce hcv hcl ?_
      refine lv_astore_n (lv' := [(3, .ref q9), (0, .ref (ax 0)), (1, .int u), (2, .ref o)]) hx hb dL_rootByRounds_12 rfl hl (by decide) rfl (fun ls hl => ?_)
      refine lv_iconst (v := nI 1) hx hb dL_rootByRounds_13 (by decide +kernel) ?_
      refine vx_ret ?_
      refine W.widen (k := 1) (n := 6) (Nat.le_of_ble_eq_true rfl) (Nat.le_of_ble_eq_true rfl) ?_
      exact W.iret (v := nI 1) hx hb hr (fun t ht hW => ⟨⟨_, (v0, rt), rfl, ⟨by rw [hcd], fun q => absurd (hcd.symm.trans q) (by decide)⟩, ⟨by rw [ht]; exact hP1, va_K.moved hW.alike hK, by exact hD⟩⟩, hS1.F ht⟩) hS1.2.2 dL_rootByRounds_14
  obtain ⟨rfl, hc9⟩ := hp1
  refine lv_i2l (v := ((nI ((s_rtc n B u).2))).toInt64) hx hb dL_rootByRounds_7 rfl ?_
  refine va_last hx hb hK hP hD hS 0 3 rfl rfl (vp_in_nI (by decide) (by decide)) dL_rootByRounds_8 (fun H1 locs1 hP hD hS => ?_)
  refine lv_goto (tgt := 15) hx hb dL_rootByRounds_9 (by decide) ?_
  refine lv_iconst (v := nI 0) hx hb dL_rootByRounds_15 (by decide +kernel) ?_
  refine vx_ret ?_
  refine W.widen (k := 1) (n := 6) (Nat.le_of_ble_eq_true rfl) (Nat.le_of_ble_eq_true rfl) ?_
  obtain ⟨hP, hD⟩ := oL_set hP hD
  exact W.iret (v := nI 0) hx hb hr (fun t ht hW => ⟨⟨_, (((nI ((s_rtc n B u).2))).toInt64, u1), rfl, ⟨by rw [hc9], fun _ => rfl⟩, by rw [ht]; exact hP, va_K.moved hW.alike hK, hD⟩, hS.F ht⟩) hS.2.2 dL_rootByRounds_16
set_option maxHeartbeats 4000000 in
set_option maxRecDepth 100000 in
theorem kL_newShare (l : Launch) (hfl : l.stackTraces = false) (D : va_G) (cI cZ cA : ClassId) (ax : Nat → Nat) (n : Nat) (B : Nat → Nat → Nat) (Q : Nat → Option Nat) (cn : Nat → Bool) (rt : Nat → Nat) (wd : Nat → Option Nat) (qf : Nat → Option Nat) (T : Nat → Nat → Nat) (o : Nat) (cD : ClassId) (v0 : UInt64) (sz : Nat) (hB : Bok n B) (hQ : QA n B Q) : vx_Met l yL_newShare wsL_newShare ({ frames := 7, cells := 1, slots := 6, locals := 159 }) (PcW D (tyD cI cZ cA cD) ([oD o cD v0] ++ (wX cI cZ cA ax n B Q cn rt wd qf T)) sz [.ref (ax 0), .ref o]) (va_Qi (fun (r : Int32) (v9 : UInt64) => r = nI (if s_sl B n = 0 then 1 else 0) ∧ (¬ s_sl B n = 0 → v9 = (FP.f2d (s_ns n B)))) (fun v9 t => AtW D (tyD cI cZ cA cD) (va_A ([oD o cD v0] ++ (wX cI cZ cA ax n B Q cn rt wd qf T)) sz) ([oD o cD v9] ++ (wX cI cZ cA ax n B Q cn rt wd qf T)) t) (va_A ([oD o cD v0] ++ (wX cI cZ cA ax n B Q cn rt wd qf T)) sz)) (fun _ _ _ => False) 1 6 (va_A ([oD o cD v0] ++ (wX cI cZ cA ax n B Q cn rt wd qf T)) sz) := by
  refine vx_ofWH (cc := cL_newShare) (maxL := 3) (ret := (some .int)) (hh := [(0, 8, 11, 88)]) (by decide) rfl ?_
  intro p e s m args below meth c s₁ BL hml hv
  obtain ⟨rfl, hsz, hP, hK, hD0, hE, hNC⟩ := hv
  have hx := BL.exec
  have hb := BL.bytes
  have hr := BL.returns
  have hts := atoms_spec (ws := wsL_newShare) BL.pre
  have hown : s.vm.findClass RL = some m.cls := findClass_of_methodNamed BL.named
  have hlocks := BL.notSynchronized
  have htab := vx_table (x := yL_newShare) BL (hts _ List.mem_cons_self)
  subst hsz
  have hD := hD0.self (sz := s.heap.size)
  generalize hAe : va_A ([oD o cD v0] ++ (wX cI cZ cA ax n B Q cn rt wd qf T)) s.heap.size = A at hD ⊢
  have hA : ∀ q : Nat, s.heap.size ≤ q → A q := fun q h => by rw [← hAe]; exact Or.inr h
  have hS : va_S A s.heap s.heap [] := va_S.rf
  have hP : va_P D vwCl ([oD o cD v0] ++ (wX cI cZ cA ax n B Q cn rt wd qf T)) s.heap := hP
  have hD : va_D A ([oD o cD v0] ++ (wX cI cZ cA ax n B Q cn rt wd qf T)) := hD
  have hl := lv_entry ([.ref (ax 0), .ref o]) (n := 3) (Nat.le_of_ble_eq_true rfl)
  rw [lg_entry_eq]
  generalize (lg_sl ([.ref (ax 0), .ref o]) ++ List.replicate (3 - (lg_sl ([.ref (ax 0), .ref o])).length) Slot.unset).toArray = ls at hl ⊢
  have hl : lv_has ls 3 [(0, .ref (ax 0)), (1, .ref o)] := hl
  refine lv_aload_n hx hb dL_newShare_0 rfl (lv_at hl 1 rfl) ?_
  refine lv_iconst (v := nI 0) hx hb dL_newShare_1 (by decide +kernel) ?_
  refine lv_aload_n hx hb dL_newShare_2 rfl (lv_at hl 0 rfl) ?_
  refine xl_Vf (wr := [oD o cD v0]) (As := []) (tys0 := [(cI, .int), (cZ, .boolean), (cA, .array .int)]) ⟨hx, hb, hml, hown, hts⟩ (kX1_newShare l hfl D cI cZ cA ax n B Q cn rt wd qf T hB hQ) (cwV 0 hts gL_newShare_X1_newShare rfl rfl rfl hdX1_newShare ⟨Nat.le_of_ble_eq_true rfl, Nat.le_of_ble_eq_true rfl⟩) hK (hK.sub [0, 1, 2] rfl) hP hE (ci := 3) rfl (q0 := 1) rfl rfl rfl hl.1 rfl (Nat.le_of_ble_eq_true rfl) dL_newShare_3 ⟨Nat.le_of_ble_eq_true rfl, Nat.le_of_ble_eq_true rfl⟩ (fun E ce q9 H1 hF hz hk hce hcv hcl => ?_) (fun hc9 => ?_)
  · have hP1 := hP.kept (H1 := H1) (fun k x hx => hk x.1 ((hP k x hx).lt))
    have hS1 : va_S A s.heap H1 [] := ⟨hz, fun q h1 _ => hk q h1, fun _ h => nomatch h⟩
    obtain ⟨rfl, hcd⟩ := hF
    refine vx_catch (name := "java/lang/ArithmeticException") hown [] ⟨0, 8, 11, 88⟩ [] (by rw [htab]; rfl) (fun z hz => nomatch hz) rfl (by decide) (hts (.classLink RL 88 "java/lang/ArithmeticException") (by decide +kernel)) (va_Nw.use rfl (hE.2.2.1 (.castable "java/lang/ArithmeticException" "java/lang/ArithmeticException") (by decide +kernel))) hce hcv hcl ?_
    refine lv_astore_n (lv' := [(2, .ref q9), (0, .ref (ax 0)), (1, .ref o)]) hx hb dL_newShare_11 rfl hl (by decide) rfl (fun ls hl => ?_)
    refine lv_iconst (v := nI 1) hx hb dL_newShare_12 (by decide +kernel) ?_
    refine vx_ret ?_
    refine W.widen (k := 1) (n := 6) (Nat.le_of_ble_eq_true rfl) (Nat.le_of_ble_eq_true rfl) ?_
    exact W.iret (v := nI 1) hx hb hr (fun t ht hW => ⟨⟨_, v0, rfl, ⟨by rw [if_pos hcd], fun q => absurd hcd q⟩, by rw [ht]; exact hP1, va_K.moved hW.alike hK, hD⟩, hS1.F ht⟩) hS1.2.2 dL_newShare_13
  refine lv_f2d hx hb dL_newShare_6 (ns_f2 hB hc9) ?_
  refine va_dast hx hb hK hP hD hS 0 3 rfl rfl (vp_in_nI (by decide) (by decide)) dL_newShare_7 (fun H1 locs1 hP hD hS => ?_)
  refine lv_goto (tgt := 14) hx hb dL_newShare_8 (by decide) ?_
  refine lv_iconst (v := nI 0) hx hb dL_newShare_14 (by decide +kernel) ?_
  refine vx_ret ?_
  refine W.widen (k := 1) (n := 6) (Nat.le_of_ble_eq_true rfl) (Nat.le_of_ble_eq_true rfl) ?_
  obtain ⟨hP, hD⟩ := oD_set hP hD
  exact W.iret (v := nI 0) hx hb hr (fun t ht hW => ⟨⟨_, (FP.f2d (s_ns n B)), rfl, ⟨by rw [if_neg hc9], fun _ => rfl⟩, by rw [ht]; exact hP, va_K.moved hW.alike hK, hD⟩, hS.F ht⟩) hS.2.2 dL_newShare_15
set_option maxHeartbeats 4000000 in
set_option maxRecDepth 100000 in
theorem kL_meanSize (l : Launch) (hfl : l.stackTraces = false) (D : va_G) (cI cZ cA : ClassId) (ax : Nat → Nat) (n : Nat) (B : Nat → Nat → Nat) (Q : Nat → Option Nat) (cn : Nat → Bool) (rt : Nat → Nat) (wd : Nat → Option Nat) (qf : Nat → Option Nat) (T : Nat → Nat → Nat) (o : Nat) (cD : ClassId) (v0 : UInt64) (sz : Nat) (hB : Bok n B) : vx_Met l yL_meanSize wsL_meanSize ({ frames := 7, cells := 1, slots := 6, locals := 133 }) (PcW D (tyD cI cZ cA cD) ([oD o cD v0] ++ (wX cI cZ cA ax n B Q cn rt wd qf T)) sz [.ref (ax 0), .ref o]) (va_Qi (fun (r : Int32) (v9 : UInt64) => r = nI (if n = 0 then 1 else 0) ∧ (¬ n = 0 → v9 = (s_mz n B))) (fun v9 t => AtW D (tyD cI cZ cA cD) (va_A ([oD o cD v0] ++ (wX cI cZ cA ax n B Q cn rt wd qf T)) sz) ([oD o cD v9] ++ (wX cI cZ cA ax n B Q cn rt wd qf T)) t) (va_A ([oD o cD v0] ++ (wX cI cZ cA ax n B Q cn rt wd qf T)) sz)) (fun _ _ _ => False) 1 6 (va_A ([oD o cD v0] ++ (wX cI cZ cA ax n B Q cn rt wd qf T)) sz) := by
  refine vx_ofWH (cc := cL_meanSize) (maxL := 3) (ret := (some .int)) (hh := [(0, 7, 10, 88)]) (by decide) rfl ?_
  intro p e s m args below meth c s₁ BL hml hv
  obtain ⟨rfl, hsz, hP, hK, hD0, hE, hNC⟩ := hv
  have hx := BL.exec
  have hb := BL.bytes
  have hr := BL.returns
  have hts := atoms_spec (ws := wsL_meanSize) BL.pre
  have hown : s.vm.findClass RL = some m.cls := findClass_of_methodNamed BL.named
  have hlocks := BL.notSynchronized
  have htab := vx_table (x := yL_meanSize) BL (hts _ List.mem_cons_self)
  subst hsz
  have hD := hD0.self (sz := s.heap.size)
  generalize hAe : va_A ([oD o cD v0] ++ (wX cI cZ cA ax n B Q cn rt wd qf T)) s.heap.size = A at hD ⊢
  have hA : ∀ q : Nat, s.heap.size ≤ q → A q := fun q h => by rw [← hAe]; exact Or.inr h
  have hS : va_S A s.heap s.heap [] := va_S.rf
  have hP : va_P D vwCl ([oD o cD v0] ++ (wX cI cZ cA ax n B Q cn rt wd qf T)) s.heap := hP
  have hD : va_D A ([oD o cD v0] ++ (wX cI cZ cA ax n B Q cn rt wd qf T)) := hD
  have hl := lv_entry ([.ref (ax 0), .ref o]) (n := 3) (Nat.le_of_ble_eq_true rfl)
  rw [lg_entry_eq]
  generalize (lg_sl ([.ref (ax 0), .ref o]) ++ List.replicate (3 - (lg_sl ([.ref (ax 0), .ref o])).length) Slot.unset).toArray = ls at hl ⊢
  have hl : lv_has ls 3 [(0, .ref (ax 0)), (1, .ref o)] := hl
  refine lv_aload_n hx hb dL_meanSize_0 rfl (lv_at hl 1 rfl) ?_
  refine lv_iconst (v := nI 0) hx hb dL_meanSize_1 (by decide +kernel) ?_
  refine lv_aload_n hx hb dL_meanSize_2 rfl (lv_at hl 0 rfl) ?_
  refine xl_Vd (wr := [oD o cD v0]) (As := []) (tys0 := [(cI, .int), (cZ, .boolean), (cA, .array .int)]) ⟨hx, hb, hml, hown, hts⟩ (kX1_meanSize l hfl D cI cZ cA ax n B Q cn rt wd qf T hB) (cwV 0 hts gL_meanSize_X1_meanSize rfl rfl rfl hdX1_meanSize ⟨Nat.le_of_ble_eq_true rfl, Nat.le_of_ble_eq_true rfl⟩) hK (hK.sub [0, 1, 2] rfl) hP hE (ci := 3) rfl (q0 := 1) rfl rfl rfl hl.1 rfl (Nat.le_of_ble_eq_true rfl) dL_meanSize_3 ⟨Nat.le_of_ble_eq_true rfl, Nat.le_of_ble_eq_true rfl⟩ (fun E ce q9 H1 hF hz hk hce hcv hcl => ?_) (fun hc9 => ?_)
  · have hP1 := hP.kept (H1 := H1) (fun k x hx => hk x.1 ((hP k x hx).lt))
    have hS1 : va_S A s.heap H1 [] := ⟨hz, fun q h1 _ => hk q h1, fun _ h => nomatch h⟩
    obtain ⟨rfl, hcd⟩ := hF
    refine vx_catch (name := "java/lang/ArithmeticException") hown [] ⟨0, 7, 10, 88⟩ [] (by rw [htab]; rfl) (fun z hz => nomatch hz) rfl (by decide) (hts (.classLink RL 88 "java/lang/ArithmeticException") (by decide +kernel)) (va_Nw.use rfl (hE.2.2.1 (.castable "java/lang/ArithmeticException" "java/lang/ArithmeticException") (by decide +kernel))) hce hcv hcl ?_
    refine lv_astore_n (lv' := [(2, .ref q9), (0, .ref (ax 0)), (1, .ref o)]) hx hb dL_meanSize_10 rfl hl (by decide) rfl (fun ls hl => ?_)
    refine lv_iconst (v := nI 1) hx hb dL_meanSize_11 (by decide +kernel) ?_
    refine vx_ret ?_
    refine W.widen (k := 1) (n := 6) (Nat.le_of_ble_eq_true rfl) (Nat.le_of_ble_eq_true rfl) ?_
    exact W.iret (v := nI 1) hx hb hr (fun t ht hW => ⟨⟨_, v0, rfl, ⟨by rw [if_pos hcd], fun q => absurd hcd q⟩, by rw [ht]; exact hP1, va_K.moved hW.alike hK, hD⟩, hS1.F ht⟩) hS1.2.2 dL_meanSize_12
  refine va_dast hx hb hK hP hD hS 0 3 rfl rfl (vp_in_nI (by decide) (by decide)) dL_meanSize_6 (fun H1 locs1 hP hD hS => ?_)
  refine lv_goto (tgt := 13) hx hb dL_meanSize_7 (by decide) ?_
  refine lv_iconst (v := nI 0) hx hb dL_meanSize_13 (by decide +kernel) ?_
  refine vx_ret ?_
  refine W.widen (k := 1) (n := 6) (Nat.le_of_ble_eq_true rfl) (Nat.le_of_ble_eq_true rfl) ?_
  obtain ⟨hP, hD⟩ := oD_set hP hD
  exact W.iret (v := nI 0) hx hb hr (fun t ht hW => ⟨⟨_, (s_mz n B), rfl, ⟨by rw [if_neg hc9], fun _ => rfl⟩, by rw [ht]; exact hP, va_K.moved hW.alike hK, hD⟩, hS.F ht⟩) hS.2.2 dL_meanSize_14
