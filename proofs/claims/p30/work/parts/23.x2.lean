set_option maxHeartbeats 4000000 in
set_option maxRecDepth 100000 in
theorem kX1_requireMail (l : Launch) (hfl : l.stackTraces = false) (D : va_G) (cI cZ cA : ClassId) (ax : Nat → Nat) (n : Nat) (B : Nat → Nat → Nat) (Q : Nat → Option Nat) (cn : Nat → Bool) (rt : Nat → Nat) (wd : Nat → Option Nat) (qf : Nat → Option Nat) (T : Nat → Nat → Nat) (u : Int32) (hB : Bok n B) : vx_Met l yX1_requireMail wsX1_requireMail ({ frames := 6, cells := 1, slots := 6, locals := 82 }) (PcX D [(cI, .int), (cZ, .boolean), (cA, .array .int)] (wX cI cZ cA ax n B Q cn rt wd qf T) [.ref (ax 0), .int (u)]) (va_Sv (fun _ => s_ism n u = true)) (XCf (fun E => E = "java/lang/IndexOutOfBoundsException" ∧ s_ism n u = false)) 1 6 (fun _ => False) := by
  refine vx_ofW (cc := cX1_requireMail) (maxL := 2) (ret := none) (by decide) rfl ?_
  intro p e s m args below meth c s₁ BL hml hno hv
  obtain ⟨rfl, hP, hK, hE⟩ := hv
  have hx := BL.exec
  have hb := BL.bytes
  have hr := BL.returns
  have hts := atoms_spec (ws := wsX1_requireMail) BL.pre
  have hown : s.vm.findClass RX1 = some m.cls := findClass_of_methodNamed BL.named
  have hlocks := BL.notSynchronized
  have hin : ∀ w ∈ wsX10, w ∈ wsX1_requireMail := by decide +kernel
  have hf_9 := hts (.fieldLink RX1 9 "TalkRebuilder" "mailCount" "I") (by decide +kernel)
  have hk_184 := hts (.classLink RX1 184 "java/lang/IndexOutOfBoundsException") (by decide +kernel)
  have hi_184 := hts (.initialized "java/lang/IndexOutOfBoundsException") (by decide +kernel)
  have hg_184 : ∀ w ∈ (vx_atS RX1 188 "java/lang/IndexOutOfBoundsException" xN).filter goodWord, w.before _ s = true := fun w h => hts w (List.mem_cons_of_mem _ (List.mem_append_right _ h))
  have hl := lv_entry ([.ref (ax 0), .int (u)]) (n := 2) (Nat.le_of_ble_eq_true rfl)
  rw [lg_entry_eq]
  generalize (lg_sl ([.ref (ax 0), .int (u)]) ++ List.replicate (2 - (lg_sl ([.ref (ax 0), .int (u)])).length) Slot.unset).toArray = ls at hl ⊢
  have hl : lv_has ls 2 [(0, .ref (ax 0)), (1, .int (u))] := hl
  have hn10 := hB.1
  refine lv_iload_n hx hb dX1_requireMail_0 rfl (lv_at hl 1 rfl) ?_
  refine lv_iconst (v := (nI (0))) hx hb dX1_requireMail_1 (by decide +kernel) ?_
  refine lv_aload_n hx hb dX1_requireMail_2 rfl (lv_at hl 0 rfl) ?_
  refine va_get (D := D) (ci := 3) (v := .int (nI (n))) (C := RX1) (T := TX1) (N := 12) hx hb hts hin hown hK hP 0 rfl rfl 0 (by decide) hf_9 (fun _ h9 => h9) rfl dX1_requireMail_3 ?_
  refine lv_iconst (v := (nI (1))) hx hb dX1_requireMail_6 (by decide +kernel) ?_
  refine lv_isub hx hb dX1_requireMail_7 ?_
  refine n_top (y := (nI (n) - 1)) (by rw [nI_one]) ?_
  refine ro_S (As := [.int (u), .int (nI (0)), .int (nI (n) - 1)]) (v := (bI (s_in u (nI (0)) (nI (n) - 1)))) ⟨hx, hb, hml, hown, hts⟩ (kX1_isWithin l (u) (nI (0)) (nI (n) - 1) ) (va_cwS 3 hts gX1_requireMail_X1_isWithin rfl rfl rfl hsX1_isWithin ⟨Nat.le_of_ble_eq_true rfl, Nat.le_of_ble_eq_true rfl⟩) rfl hl.1 rfl (Nat.le_of_ble_eq_true rfl) dX1_requireMail_8 ⟨Nat.le_of_ble_eq_true rfl, Nat.le_of_ble_eq_true rfl⟩ ?_
  refine y_ne (tgt := 24) hx hb dX1_requireMail_11 (by decide) (fun c_1 => ?_) (fun c_1 => ?_)
  · refine vx_ret ?_
    refine W.widen (k := 1) (n := 6) (Nat.le_of_ble_eq_true rfl) (Nat.le_of_ble_eq_true rfl) ?_
    exact W.vret hx hb hr (fun t ht hW => ⟨rfl, (c_1), ht⟩) (fun _ h => nomatch h) dX1_requireMail_24
  exact x_thr hx hb hfl hown xf_IOB hk_184 hi_184 hg_184 xb_IOB (by decide +kernel) hE (is := 186) (text := "no such mail") (by decide +kernel) (hl.1.trans hml.symm) dX1_requireMail_14 dX1_requireMail_17 dX1_requireMail_18 dX1_requireMail_20 dX1_requireMail_23 hno (Nat.le_of_ble_eq_true rfl) (Nat.le_of_ble_eq_true rfl) (Nat.le_of_ble_eq_true rfl) (Nat.le_of_ble_eq_true rfl) hlocks (⟨rfl, c_1⟩) (Nat.le_of_ble_eq_true rfl) (Nat.le_of_ble_eq_true rfl)
theorem hdX1_requireMail : yX1_requireMail.cls = RX1 ∧ yX1_requireMail.cls ≠ "java/lang/invoke/MethodHandle" ∧ yX1_requireMail.cls ≠ "java/lang/invoke/VarHandle" ∧ (parseMethodDescriptor yX1_requireMail.desc).map (fun d => d.parameters.length) = some 1 := by decide +kernel
set_option maxHeartbeats 4000000 in
set_option maxRecDepth 100000 in
theorem kX1_requireLine (l : Launch) (hfl : l.stackTraces = false) (D : va_G) (cI cZ cA : ClassId) (ax : Nat → Nat) (n : Nat) (B : Nat → Nat → Nat) (Q : Nat → Option Nat) (cn : Nat → Bool) (rt : Nat → Nat) (wd : Nat → Option Nat) (qf : Nat → Option Nat) (T : Nat → Nat → Nat) (u : Int32) (w : Int32) (hB : Bok n B) : vx_Met l yX1_requireLine wsX1_requireLine ({ frames := 7, cells := 2, slots := 12, locals := 103 }) (PcX D [(cI, .int), (cZ, .boolean), (cA, .array .int)] (wX cI cZ cA ax n B Q cn rt wd qf T) [.ref (ax 0), .int (u), .int (w)]) (va_Sv (fun _ => s_isl n B u w = true)) (XCf (fun E => E = "java/lang/IndexOutOfBoundsException" ∧ s_isl n B u w = false)) 2 12 (fun _ => False) := by
  refine vx_ofW (cc := cX1_requireLine) (maxL := 3) (ret := none) (by decide) rfl ?_
  intro p e s m args below meth c s₁ BL hml hno hv
  obtain ⟨rfl, hP, hK, hE⟩ := hv
  have hx := BL.exec
  have hb := BL.bytes
  have hr := BL.returns
  have hts := atoms_spec (ws := wsX1_requireLine) BL.pre
  have hown : s.vm.findClass RX1 = some m.cls := findClass_of_methodNamed BL.named
  have hlocks := BL.notSynchronized
  have hin : ∀ w ∈ wsX10, w ∈ wsX1_requireLine := by decide +kernel
  have hf_26 := hts (.fieldLink RX1 26 "TalkRebuilder" "lineCounts" "[I") (by decide +kernel)
  have hk_184 := hts (.classLink RX1 184 "java/lang/IndexOutOfBoundsException") (by decide +kernel)
  have hi_184 := hts (.initialized "java/lang/IndexOutOfBoundsException") (by decide +kernel)
  have hg_184 : ∀ w ∈ (vx_atS RX1 188 "java/lang/IndexOutOfBoundsException" xN).filter goodWord, w.before _ s = true := fun w h => hts w (List.mem_cons_of_mem _ (List.mem_append_right _ h))
  have hl := lv_entry ([.ref (ax 0), .int (u), .int (w)]) (n := 3) (Nat.le_of_ble_eq_true rfl)
  rw [lg_entry_eq]
  generalize (lg_sl ([.ref (ax 0), .int (u), .int (w)]) ++ List.replicate (3 - (lg_sl ([.ref (ax 0), .int (u), .int (w)])).length) Slot.unset).toArray = ls at hl ⊢
  have hl : lv_has ls 3 [(0, .ref (ax 0)), (1, .int (u)), (2, .int (w))] := hl
  have hn10 := hB.1
  refine lv_aload_n hx hb dX1_requireLine_0 rfl (lv_at hl 0 rfl) ?_
  refine lv_iload_n hx hb dX1_requireLine_1 rfl (lv_at hl 1 rfl) ?_
  refine xr_Vv (As := [.int (u)]) ⟨hx, hb, hml, hown, hts⟩ (kX1_requireMail l hfl D cI cZ cA ax n B Q cn rt wd qf T (u) hB) (cwV 1 hts gX1_requireLine_X1_requireMail rfl rfl rfl hdX1_requireMail ⟨Nat.le_of_ble_eq_true rfl, Nat.le_of_ble_eq_true rfl⟩) hK hP hE (ci := 3) rfl (q0 := 0) rfl rfl rfl hl.1 rfl (Nat.le_of_ble_eq_true rfl) dX1_requireLine_2 ⟨Nat.le_of_ble_eq_true rfl, Nat.le_of_ble_eq_true rfl⟩ hno hlocks (fun E h => ⟨h.1, by unfold s_isl; rw [h.2]; rfl⟩) (Nat.le_of_ble_eq_true rfl) (Nat.le_of_ble_eq_true rfl) (fun h_1 => ?_)
  obtain ⟨k_u, hk_u, rfl⟩ := s_ism_t hB.1 h_1
  have h8_u := hB.2.2.1 k_u
  have hc_k_u : (nI k_u).toNatClampNeg = k_u := nI_clamp (by omega)
  have hio := s_isl_o (B := B) hB.1 hk_u w
  refine lv_iload_n hx hb dX1_requireLine_5 rfl (lv_at hl 2 rfl) ?_
  refine lv_iconst (v := (nI (0))) hx hb dX1_requireLine_6 (by decide +kernel) ?_
  refine lv_aload_n hx hb dX1_requireLine_7 rfl (lv_at hl 0 rfl) ?_
  refine va_get (D := D) (ci := 3) (v := .ref (ax 5)) (C := RX1) (T := TX1) (N := 12) hx hb hts hin hown hK hP 0 rfl rfl 5 (by decide) hf_26 (fun _ h9 => h9) rfl dX1_requireLine_8 ?_
  refine lv_iload_n hx hb dX1_requireLine_11 rfl (lv_at hl 1 rfl) ?_
  refine n_iald hx hb hK hP 5 0 rfl rfl (i := k_u) (by omega) (by decide) dX1_requireLine_12 ?_
  have hq_2 := hB.2.2.1 k_u
  refine lv_iconst (v := (nI (1))) hx hb dX1_requireLine_13 (by decide +kernel) ?_
  refine lv_isub hx hb dX1_requireLine_14 ?_
  refine n_top (y := (nI (B 4 k_u) - 1)) (by rw [nI_one]) ?_
  refine ro_S (As := [.int (w), .int (nI (0)), .int (nI (B 4 k_u) - 1)]) (v := (bI (s_in w (nI (0)) (nI (B 4 k_u) - 1)))) ⟨hx, hb, hml, hown, hts⟩ (kX1_isWithin l (w) (nI (0)) (nI (B 4 k_u) - 1) ) (va_cwS 3 hts gX1_requireLine_X1_isWithin rfl rfl rfl hsX1_isWithin ⟨Nat.le_of_ble_eq_true rfl, Nat.le_of_ble_eq_true rfl⟩) rfl hl.1 rfl (Nat.le_of_ble_eq_true rfl) dX1_requireLine_15 ⟨Nat.le_of_ble_eq_true rfl, Nat.le_of_ble_eq_true rfl⟩ ?_
  refine y_ne (tgt := 31) hx hb dX1_requireLine_18 (by decide) (fun c_3 => ?_) (fun c_3 => ?_)
  · refine vx_ret ?_
    refine W.widen (k := 2) (n := 12) (Nat.le_of_ble_eq_true rfl) (Nat.le_of_ble_eq_true rfl) ?_
    exact W.vret hx hb hr (fun t ht hW => ⟨rfl, (by rw [hio]; exact c_3), ht⟩) (fun _ h => nomatch h) dX1_requireLine_31
  exact x_thr hx hb hfl hown xf_IOB hk_184 hi_184 hg_184 xb_IOB (by decide +kernel) hE (is := 189) (text := "no such line") (by decide +kernel) (hl.1.trans hml.symm) dX1_requireLine_21 dX1_requireLine_24 dX1_requireLine_25 dX1_requireLine_27 dX1_requireLine_30 hno (Nat.le_of_ble_eq_true rfl) (Nat.le_of_ble_eq_true rfl) (Nat.le_of_ble_eq_true rfl) (Nat.le_of_ble_eq_true rfl) hlocks (⟨rfl, by rw [hio]; exact c_3⟩) (Nat.le_of_ble_eq_true rfl) (Nat.le_of_ble_eq_true rfl)
theorem hdX1_requireLine : yX1_requireLine.cls = RX1 ∧ yX1_requireLine.cls ≠ "java/lang/invoke/MethodHandle" ∧ yX1_requireLine.cls ≠ "java/lang/invoke/VarHandle" ∧ (parseMethodDescriptor yX1_requireLine.desc).map (fun d => d.parameters.length) = some 2 := by decide +kernel
