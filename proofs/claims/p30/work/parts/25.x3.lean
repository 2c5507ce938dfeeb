set_option maxHeartbeats 4000000 in
set_option maxRecDepth 100000 in
theorem kX1_mails (l : Launch) (D : va_G) (cI cZ cA : ClassId) (ax : Nat → Nat) (n : Nat) (B : Nat → Nat → Nat) (Q : Nat → Option Nat) (cn : Nat → Bool) (rt : Nat → Nat) (wd : Nat → Option Nat) (qf : Nat → Option Nat) (T : Nat → Nat → Nat) : Met l yX1_mails wsX1_mails ({ frames := 0, cells := 0, slots := 0, locals := 0 }) (PcR D [(cI, .int), (cZ, .boolean), (cA, .array .int)] (wX cI cZ cA ax n B Q cn rt wd qf T) [.ref (ax 0)]) (vp_Si (fun r => r = (nI (n)))) 0 0 (fun _ => False) := by
  refine Met.ofW (cc := cX1_mails) (maxL := 1) (ret := (some .int)) (by decide) rfl ?_
  intro p e s m args below meth c s₁ BL hml hv
  obtain ⟨rfl, hP, hK⟩ := hv
  have hx := BL.exec
  have hb := BL.bytes
  have hr := BL.returns
  have hts := atoms_spec (ws := wsX1_mails) BL.pre
  have hown : s.vm.findClass RX1 = some m.cls := findClass_of_methodNamed BL.named
  have hlocks := BL.notSynchronized
  have hin : ∀ w ∈ wsX10, w ∈ wsX1_mails := by decide +kernel
  have hf_9 := hts (.fieldLink RX1 9 "TalkRebuilder" "mailCount" "I") (by decide +kernel)
  have hl := lv_entry ([.ref (ax 0)]) (n := 1) (Nat.le_of_ble_eq_true rfl)
  rw [lg_entry_eq]
  generalize (lg_sl ([.ref (ax 0)]) ++ List.replicate (1 - (lg_sl ([.ref (ax 0)])).length) Slot.unset).toArray = ls at hl ⊢
  have hl : lv_has ls 1 [(0, .ref (ax 0))] := hl
  refine lv_aload_n hx hb dX1_mails_0 rfl (lv_at hl 0 rfl) ?_
  refine va_get (D := D) (ci := 3) (v := .int (nI (n))) (C := RX1) (T := TX1) (N := 12) hx hb hts hin hown hK hP 0 rfl rfl 0 (by decide) hf_9 (fun _ h9 => h9) rfl dX1_mails_1 ?_
  exact W.iret (v := (nI (n))) hx hb hr (fun t ht hW => ⟨_, rfl, rfl, ht⟩) (fun _ h => nomatch h) dX1_mails_4
theorem hdX1_mails : yX1_mails.cls = RX1 ∧ yX1_mails.cls ≠ "java/lang/invoke/MethodHandle" ∧ yX1_mails.cls ≠ "java/lang/invoke/VarHandle" ∧ (parseMethodDescriptor yX1_mails.desc).map (fun d => d.parameters.length) = some 0 := by decide +kernel
set_option maxHeartbeats 4000000 in
set_option maxRecDepth 100000 in
theorem kX1_lines (l : Launch) (hfl : l.stackTraces = false) (D : va_G) (cI cZ cA : ClassId) (ax : Nat → Nat) (n : Nat) (B : Nat → Nat → Nat) (Q : Nat → Option Nat) (cn : Nat → Bool) (rt : Nat → Nat) (wd : Nat → Option Nat) (qf : Nat → Option Nat) (T : Nat → Nat → Nat) (u : Int32) (hB : Bok n B) : vx_Met l yX1_lines wsX1_lines ({ frames := 7, cells := 1, slots := 6, locals := 103 }) (PcX D [(cI, .int), (cZ, .boolean), (cA, .array .int)] (wX cI cZ cA ax n B Q cn rt wd qf T) [.ref (ax 0), .int (u)]) (vp_Si (fun r => r = (nI ((s_lines n B u).2)) ∧ (s_lines n B u).1 = 0)) (XCf (fun E => (E = "java/lang/IndexOutOfBoundsException" ∧ (s_lines n B u).1 = 1))) 1 6 (fun _ => False) := by
  refine vx_ofW (cc := cX1_lines) (maxL := 2) (ret := (some .int)) (by decide) rfl ?_
  intro p e s m args below meth c s₁ BL hml hno hv
  obtain ⟨rfl, hP, hK, hE⟩ := hv
  have hx := BL.exec
  have hb := BL.bytes
  have hr := BL.returns
  have hts := atoms_spec (ws := wsX1_lines) BL.pre
  have hown : s.vm.findClass RX1 = some m.cls := findClass_of_methodNamed BL.named
  have hlocks := BL.notSynchronized
  have hin : ∀ w ∈ wsX10, w ∈ wsX1_lines := by decide +kernel
  have hf_26 := hts (.fieldLink RX1 26 "TalkRebuilder" "lineCounts" "[I") (by decide +kernel)
  have hl := lv_entry ([.ref (ax 0), .int (u)]) (n := 2) (Nat.le_of_ble_eq_true rfl)
  rw [lg_entry_eq]
  generalize (lg_sl ([.ref (ax 0), .int (u)]) ++ List.replicate (2 - (lg_sl ([.ref (ax 0), .int (u)])).length) Slot.unset).toArray = ls at hl ⊢
  have hl : lv_has ls 2 [(0, .ref (ax 0)), (1, .int (u))] := hl
  have hn10 := hB.1
  refine lv_aload_n hx hb dX1_lines_0 rfl (lv_at hl 0 rfl) ?_
  refine lv_iload_n hx hb dX1_lines_1 rfl (lv_at hl 1 rfl) ?_
  refine xr_Vv (As := [.int (u)]) ⟨hx, hb, hml, hown, hts⟩ (kX1_requireMail l hfl D cI cZ cA ax n B Q cn rt wd qf T (u) hB) (cwV 1 hts gX1_lines_X1_requireMail rfl rfl rfl hdX1_requireMail ⟨Nat.le_of_ble_eq_true rfl, Nat.le_of_ble_eq_true rfl⟩) hK hP hE (ci := 3) rfl (q0 := 0) rfl rfl rfl hl.1 rfl (Nat.le_of_ble_eq_true rfl) dX1_lines_2 ⟨Nat.le_of_ble_eq_true rfl, Nat.le_of_ble_eq_true rfl⟩ hno hlocks (fun E h => ⟨h.1, by simp [s_lines, h.2]⟩) (Nat.le_of_ble_eq_true rfl) (Nat.le_of_ble_eq_true rfl) (fun h_1 => ?_)
  obtain ⟨k_u, hk_u, rfl⟩ := s_ism_t hB.1 h_1
  have h8_u := hB.2.2.1 k_u
  have hc_k_u : (nI k_u).toNatClampNeg = k_u := nI_clamp (by omega)
  refine lv_aload_n hx hb dX1_lines_5 rfl (lv_at hl 0 rfl) ?_
  refine va_get (D := D) (ci := 3) (v := .ref (ax 5)) (C := RX1) (T := TX1) (N := 12) hx hb hts hin hown hK hP 0 rfl rfl 5 (by decide) hf_26 (fun _ h9 => h9) rfl dX1_lines_6 ?_
  refine lv_iload_n hx hb dX1_lines_9 rfl (lv_at hl 1 rfl) ?_
  refine n_iald hx hb hK hP 5 0 rfl rfl (i := k_u) (by omega) (by decide) dX1_lines_10 ?_
  have hq_2 := hB.2.2.1 k_u
  refine vx_ret ?_
  refine W.widen (k := 1) (n := 6) (Nat.le_of_ble_eq_true rfl) (Nat.le_of_ble_eq_true rfl) ?_
  exact W.iret (v := (nI (B 4 k_u))) hx hb hr (fun t ht hW => ⟨_, rfl, ⟨(by first | rfl | (simp [oI_s, bI_t, bI_f, s_lines, s_ocode, h_1, hc_k_u]; done) | (simp [oI_s, bI_t, bI_f, s_lines, s_ocode, h_1, hc_k_u]; omega) | (simp only [s_lines, s_ocode]; (repeat' split) <;> first | rfl | omega | (simp_all; done) | (simp_all; omega))), (by simp [s_lines, s_ocode, h_1, hc_k_u])⟩, ht⟩) (fun _ h => nomatch h) dX1_lines_11
theorem hdX1_lines : yX1_lines.cls = RX1 ∧ yX1_lines.cls ≠ "java/lang/invoke/MethodHandle" ∧ yX1_lines.cls ≠ "java/lang/invoke/VarHandle" ∧ (parseMethodDescriptor yX1_lines.desc).map (fun d => d.parameters.length) = some 1 := by decide +kernel
set_option maxHeartbeats 4000000 in
set_option maxRecDepth 100000 in
theorem kX1_word (l : Launch) (hfl : l.stackTraces = false) (D : va_G) (cI cZ cA : ClassId) (ax : Nat → Nat) (n : Nat) (B : Nat → Nat → Nat) (Q : Nat → Option Nat) (cn : Nat → Bool) (rt : Nat → Nat) (wd : Nat → Option Nat) (qf : Nat → Option Nat) (T : Nat → Nat → Nat) (u : Int32) (w : Int32) (hB : Bok n B) : vx_Met l yX1_word wsX1_word ({ frames := 8, cells := 2, slots := 12, locals := 125 }) (PcX D [(cI, .int), (cZ, .boolean), (cA, .array .int)] (wX cI cZ cA ax n B Q cn rt wd qf T) [.ref (ax 0), .int (u), .int (w)]) (vp_Si (fun r => r = (nI ((s_word n B u w).2)) ∧ (s_word n B u w).1 = 0)) (XCf (fun E => (E = "java/lang/IndexOutOfBoundsException" ∧ (s_word n B u w).1 = 1))) 2 12 (fun _ => False) := by
  refine vx_ofW (cc := cX1_word) (maxL := 3) (ret := (some .int)) (by decide) rfl ?_
  intro p e s m args below meth c s₁ BL hml hno hv
  obtain ⟨rfl, hP, hK, hE⟩ := hv
  have hx := BL.exec
  have hb := BL.bytes
  have hr := BL.returns
  have hts := atoms_spec (ws := wsX1_word) BL.pre
  have hown : s.vm.findClass RX1 = some m.cls := findClass_of_methodNamed BL.named
  have hlocks := BL.notSynchronized
  have hin : ∀ w ∈ wsX10, w ∈ wsX1_word := by decide +kernel
  have hf_32 := hts (.fieldLink RX1 32 "TalkRebuilder" "wordsAt" "[I") (by decide +kernel)
  have hl := lv_entry ([.ref (ax 0), .int (u), .int (w)]) (n := 3) (Nat.le_of_ble_eq_true rfl)
  rw [lg_entry_eq]
  generalize (lg_sl ([.ref (ax 0), .int (u), .int (w)]) ++ List.replicate (3 - (lg_sl ([.ref (ax 0), .int (u), .int (w)])).length) Slot.unset).toArray = ls at hl ⊢
  have hl : lv_has ls 3 [(0, .ref (ax 0)), (1, .int (u)), (2, .int (w))] := hl
  have hn10 := hB.1
  refine lv_aload_n hx hb dX1_word_0 rfl (lv_at hl 0 rfl) ?_
  refine lv_iload_n hx hb dX1_word_1 rfl (lv_at hl 1 rfl) ?_
  refine lv_iload_n hx hb dX1_word_2 rfl (lv_at hl 2 rfl) ?_
  refine xr_Vv (As := [.int (u), .int (w)]) ⟨hx, hb, hml, hown, hts⟩ (kX1_requireLine l hfl D cI cZ cA ax n B Q cn rt wd qf T (u) (w) hB) (cwV 2 hts gX1_word_X1_requireLine rfl rfl rfl hdX1_requireLine ⟨Nat.le_of_ble_eq_true rfl, Nat.le_of_ble_eq_true rfl⟩) hK hP hE (ci := 3) rfl (q0 := 0) rfl rfl rfl hl.1 rfl (Nat.le_of_ble_eq_true rfl) dX1_word_3 ⟨Nat.le_of_ble_eq_true rfl, Nat.le_of_ble_eq_true rfl⟩ hno hlocks (fun E h => ⟨h.1, by simp [s_word, h.2]⟩) (Nat.le_of_ble_eq_true rfl) (Nat.le_of_ble_eq_true rfl) (fun h_1 => ?_)
  obtain ⟨k_u, k_w, hk_u, hk_w, rfl, rfl⟩ := s_isl_t hB h_1
  have h8_u := hB.2.2.1 k_u
  have hc_k_u : (nI k_u).toNatClampNeg = k_u := nI_clamp (by omega)
  have hc_k_w : (nI k_w).toNatClampNeg = k_w := nI_clamp (by omega)
  have hd8 : (8 * k_u + k_w) / 8 = k_u := by omega
  have hm8 : (8 * k_u + k_w) % 8 = k_w := by omega
  have hll : s_ln B (8 * k_u + k_w) = true := by unfold s_ln; rw [hd8, hm8]; exact decide_eq_true hk_w
  refine lv_aload_n hx hb dX1_word_6 rfl (lv_at hl 0 rfl) ?_
  refine va_get (D := D) (ci := 3) (v := .ref (ax 7)) (C := RX1) (T := TX1) (N := 12) hx hb hts hin hown hK hP 0 rfl rfl 7 (by decide) hf_32 (fun _ h9 => h9) rfl dX1_word_7 ?_
  refine lv_iload_n hx hb dX1_word_10 rfl (lv_at hl 1 rfl) ?_
  refine lv_iload_n hx hb dX1_word_11 rfl (lv_at hl 2 rfl) ?_
  refine ro_S (As := [.int (nI (k_u)), .int (nI (k_w))]) (v := (nI (8 * k_u + k_w))) ⟨hx, hb, hml, hown, hts⟩ (kX1_placeOf l k_u k_w (by omega) (by omega)) (va_cwS 2 hts gX1_word_X1_placeOf rfl rfl rfl hsX1_placeOf ⟨Nat.le_of_ble_eq_true rfl, Nat.le_of_ble_eq_true rfl⟩) rfl hl.1 rfl (Nat.le_of_ble_eq_true rfl) dX1_word_12 ⟨Nat.le_of_ble_eq_true rfl, Nat.le_of_ble_eq_true rfl⟩ ?_
  refine n_iald hx hb hK hP 7 0 rfl rfl (i := 8 * k_u + k_w) (by omega) (by decide) dX1_word_15 ?_
  have hq_2 := hB.2.1 6 (8 * k_u + k_w)
  refine vx_ret ?_
  refine W.widen (k := 2) (n := 12) (Nat.le_of_ble_eq_true rfl) (Nat.le_of_ble_eq_true rfl) ?_
  exact W.iret (v := (nI (B 6 (8 * k_u + k_w)))) hx hb hr (fun t ht hW => ⟨_, rfl, ⟨(by first | rfl | (simp [oI_s, bI_t, bI_f, s_word, s_ocode, h_1, hc_k_u, hc_k_w, hd8, hm8]; done) | (simp [oI_s, bI_t, bI_f, s_word, s_ocode, h_1, hc_k_u, hc_k_w, hd8, hm8]; omega) | (simp only [s_word, s_ocode]; (repeat' split) <;> first | rfl | omega | (simp_all; done) | (simp_all; omega))), (by simp [s_word, s_ocode, h_1, hc_k_u, hc_k_w, hd8, hm8])⟩, ht⟩) (fun _ h => nomatch h) dX1_word_16
theorem hdX1_word : yX1_word.cls = RX1 ∧ yX1_word.cls ≠ "java/lang/invoke/MethodHandle" ∧ yX1_word.cls ≠ "java/lang/invoke/VarHandle" ∧ (parseMethodDescriptor yX1_word.desc).map (fun d => d.parameters.length) = some 2 := by decide +kernel
set_option maxHeartbeats 4000000 in
set_option maxRecDepth 100000 in
theorem kX1_parent (l : Launch) (hfl : l.stackTraces = false) (D : va_G) (cI cZ cA : ClassId) (ax : Nat → Nat) (n : Nat) (B : Nat → Nat → Nat) (Q : Nat → Option Nat) (cn : Nat → Bool) (rt : Nat → Nat) (wd : Nat → Option Nat) (qf : Nat → Option Nat) (T : Nat → Nat → Nat) (u : Int32) (hB : Bok n B) : vx_Met l yX1_parent wsX1_parent ({ frames := 7, cells := 2, slots := 12, locals := 103 }) (PcX D [(cI, .int), (cZ, .boolean), (cA, .array .int)] (wX cI cZ cA ax n B Q cn rt wd qf T) [.ref (ax 0), .int (u)]) (vp_Si (fun r => r = (nI ((s_parent n B u).2)) ∧ (s_parent n B u).1 = 0)) (XCf (fun E => (E = "java/lang/IndexOutOfBoundsException" ∧ (s_parent n B u).1 = 1) ∨ (E = "java/util/NoSuchElementException" ∧ (s_parent n B u).1 = 2))) 2 12 (fun _ => False) := by
  refine vx_ofW (cc := cX1_parent) (maxL := 3) (ret := (some .int)) (by decide) rfl ?_
  intro p e s m args below meth c s₁ BL hml hno hv
  obtain ⟨rfl, hP, hK, hE⟩ := hv
  have hx := BL.exec
  have hb := BL.bytes
  have hr := BL.returns
  have hts := atoms_spec (ws := wsX1_parent) BL.pre
  have hown : s.vm.findClass RX1 = some m.cls := findClass_of_methodNamed BL.named
  have hlocks := BL.notSynchronized
  have hk_96 := hts (.classLink RX1 96 "java/util/NoSuchElementException") (by decide +kernel)
  have hi_96 := hts (.initialized "java/util/NoSuchElementException") (by decide +kernel)
  have hg_96 : ∀ w ∈ wsNSE.filter goodWord, w.before _ s = true := fun w h => hts w (List.mem_cons_of_mem _ (List.mem_append_left _ (List.mem_append_left _ (List.mem_append_right _ h))))
  have hl := lv_entry ([.ref (ax 0), .int (u)]) (n := 3) (Nat.le_of_ble_eq_true rfl)
  rw [lg_entry_eq]
  generalize (lg_sl ([.ref (ax 0), .int (u)]) ++ List.replicate (3 - (lg_sl ([.ref (ax 0), .int (u)])).length) Slot.unset).toArray = ls at hl ⊢
  have hl : lv_has ls 3 [(0, .ref (ax 0)), (1, .int (u))] := hl
  have hn10 := hB.1
  refine lv_aload_n hx hb dX1_parent_0 rfl (lv_at hl 0 rfl) ?_
  refine lv_iload_n hx hb dX1_parent_1 rfl (lv_at hl 1 rfl) ?_
  refine xr_Vv (As := [.int (u)]) ⟨hx, hb, hml, hown, hts⟩ (kX1_requireMail l hfl D cI cZ cA ax n B Q cn rt wd qf T (u) hB) (cwV 1 hts gX1_parent_X1_requireMail rfl rfl rfl hdX1_requireMail ⟨Nat.le_of_ble_eq_true rfl, Nat.le_of_ble_eq_true rfl⟩) hK hP hE (ci := 3) rfl (q0 := 0) rfl rfl rfl hl.1 rfl (Nat.le_of_ble_eq_true rfl) dX1_parent_2 ⟨Nat.le_of_ble_eq_true rfl, Nat.le_of_ble_eq_true rfl⟩ hno hlocks (fun E h => Or.inl ⟨h.1, by simp [s_parent, h.2]⟩) (Nat.le_of_ble_eq_true rfl) (Nat.le_of_ble_eq_true rfl) (fun h_1 => ?_)
  obtain ⟨k_u, hk_u, rfl⟩ := s_ism_t hB.1 h_1
  have h8_u := hB.2.2.1 k_u
  have hc_k_u : (nI k_u).toNatClampNeg = k_u := nI_clamp (by omega)
  refine lv_aload_n hx hb dX1_parent_5 rfl (lv_at hl 0 rfl) ?_
  refine lv_iload_n hx hb dX1_parent_6 rfl (lv_at hl 1 rfl) ?_
  refine ro_V (As := [.int (nI (k_u))]) (v := (oI (s_par n B k_u))) ⟨hx, hb, hml, hown, hts⟩ (kX1_parentOf l D cI cZ cA ax n B Q cn rt wd qf T k_u hB (by omega)) (cwV 1 hts gX1_parent_X1_parentOf rfl rfl rfl hdX1_parentOf ⟨Nat.le_of_ble_eq_true rfl, Nat.le_of_ble_eq_true rfl⟩) hK hP (ci := 3) rfl (q0 := 0) rfl rfl rfl hl.1 rfl (Nat.le_of_ble_eq_true rfl) dX1_parent_7 ⟨Nat.le_of_ble_eq_true rfl, Nat.le_of_ble_eq_true rfl⟩ ?_
  refine lv_istore_n (lv' := [(2, .int (oI (s_par n B k_u))), (0, .ref (ax 0)), (1, .int (nI (k_u)))]) hx hb dX1_parent_10 rfl hl (by decide) rfl (fun ls hl => ?_)
  refine lv_iload_n hx hb dX1_parent_11 rfl (lv_at hl 0 rfl) ?_
  refine lv_iconst (v := (oI (none))) hx hb dX1_parent_12 (by decide +kernel) ?_
  refine o_ne (tgt := 26) hx hb (s_par_b hn10) dX1_parent_13 (by decide) (fun kc_2 c_2 => ?_) (fun c_2 => ?_)
  · rw [c_2] at hl
    have hl : lv_has ls 3 [(2, .int (nI (kc_2))), (0, .ref (ax 0)), (1, .int (nI (k_u)))] := hl
    refine lv_iload_n hx hb dX1_parent_26 rfl (lv_at hl 0 rfl) ?_
    refine vx_ret ?_
    refine W.widen (k := 2) (n := 12) (Nat.le_of_ble_eq_true rfl) (Nat.le_of_ble_eq_true rfl) ?_
    exact W.iret (v := (nI (kc_2))) hx hb hr (fun t ht hW => ⟨_, rfl, ⟨(by first | rfl | (simp [oI_s, bI_t, bI_f, s_parent, s_ocode, h_1, hc_k_u, c_2]; done) | (simp [oI_s, bI_t, bI_f, s_parent, s_ocode, h_1, hc_k_u, c_2]; omega) | (simp only [s_parent, s_ocode]; (repeat' split) <;> first | rfl | omega | (simp_all; done) | (simp_all; omega))), (by simp [s_parent, s_ocode, h_1, hc_k_u, c_2])⟩, ht⟩) (fun _ h => nomatch h) dX1_parent_27
  rw [c_2] at hl
  have hl : lv_has ls 3 [(2, .int (oI (none))), (0, .ref (ax 0)), (1, .int (nI (k_u)))] := hl
  exact x_thrN hx hb hfl hown xf_NSE hk_96 hi_96 hg_96 xb_NSE (by decide +kernel) hE (is := 98) (text := "the mail has no parent") (by decide +kernel) (hl.1.trans hml.symm) dX1_parent_16 dX1_parent_19 dX1_parent_20 dX1_parent_22 dX1_parent_25 hno (Nat.le_of_ble_eq_true rfl) (Nat.le_of_ble_eq_true rfl) (Nat.le_of_ble_eq_true rfl) (Nat.le_of_ble_eq_true rfl) hlocks (by simp [s_parent, s_ocode, h_1, hc_k_u, c_2]) (Nat.le_of_ble_eq_true rfl) (Nat.le_of_ble_eq_true rfl)
theorem hdX1_parent : yX1_parent.cls = RX1 ∧ yX1_parent.cls ≠ "java/lang/invoke/MethodHandle" ∧ yX1_parent.cls ≠ "java/lang/invoke/VarHandle" ∧ (parseMethodDescriptor yX1_parent.desc).map (fun d => d.parameters.length) = some 1 := by decide +kernel
set_option maxHeartbeats 4000000 in
set_option maxRecDepth 100000 in
theorem kX1_partner (l : Launch) (hfl : l.stackTraces = false) (D : va_G) (cI cZ cA : ClassId) (ax : Nat → Nat) (n : Nat) (B : Nat → Nat → Nat) (Q : Nat → Option Nat) (cn : Nat → Bool) (rt : Nat → Nat) (wd : Nat → Option Nat) (qf : Nat → Option Nat) (T : Nat → Nat → Nat) (u : Int32) (w : Int32) (hB : Bok n B) (hQ : QA n B Q) : vx_Met l yX1_partner wsX1_partner ({ frames := 8, cells := 3, slots := 18, locals := 125 }) (PcX D [(cI, .int), (cZ, .boolean), (cA, .array .int)] (wX cI cZ cA ax n B Q cn rt wd qf T) [.ref (ax 0), .int (u), .int (w)]) (vp_Si (fun r => r = (nI ((s_pr n B u w).2)) ∧ (s_pr n B u w).1 = 0)) (XCf (fun E => (E = "java/lang/IndexOutOfBoundsException" ∧ (s_pr n B u w).1 = 1) ∨ (E = "java/util/NoSuchElementException" ∧ (s_pr n B u w).1 = 2))) 3 18 (fun _ => False) := by
  refine vx_ofW (cc := cX1_partner) (maxL := 4) (ret := (some .int)) (by decide) rfl ?_
  intro p e s m args below meth c s₁ BL hml hno hv
  obtain ⟨rfl, hP, hK, hE⟩ := hv
  have hx := BL.exec
  have hb := BL.bytes
  have hr := BL.returns
  have hts := atoms_spec (ws := wsX1_partner) BL.pre
  have hown : s.vm.findClass RX1 = some m.cls := findClass_of_methodNamed BL.named
  have hlocks := BL.notSynchronized
  have hin : ∀ w ∈ wsX10, w ∈ wsX1_partner := by decide +kernel
  have hf_35 := hts (.fieldLink RX1 35 "TalkRebuilder" "partnersAt" "[I") (by decide +kernel)
  have hk_96 := hts (.classLink RX1 96 "java/util/NoSuchElementException") (by decide +kernel)
  have hi_96 := hts (.initialized "java/util/NoSuchElementException") (by decide +kernel)
  have hg_96 : ∀ w ∈ wsNSE.filter goodWord, w.before _ s = true := fun w h => hts w (List.mem_cons_of_mem _ (List.mem_append_left _ (List.mem_append_left _ (List.mem_append_right _ h))))
  have hl := lv_entry ([.ref (ax 0), .int (u), .int (w)]) (n := 4) (Nat.le_of_ble_eq_true rfl)
  rw [lg_entry_eq]
  generalize (lg_sl ([.ref (ax 0), .int (u), .int (w)]) ++ List.replicate (4 - (lg_sl ([.ref (ax 0), .int (u), .int (w)])).length) Slot.unset).toArray = ls at hl ⊢
  have hl : lv_has ls 4 [(0, .ref (ax 0)), (1, .int (u)), (2, .int (w))] := hl
  have hn10 := hB.1
  refine lv_aload_n hx hb dX1_partner_0 rfl (lv_at hl 0 rfl) ?_
  refine lv_iload_n hx hb dX1_partner_1 rfl (lv_at hl 1 rfl) ?_
  refine lv_iload_n hx hb dX1_partner_2 rfl (lv_at hl 2 rfl) ?_
  refine xr_Vv (As := [.int (u), .int (w)]) ⟨hx, hb, hml, hown, hts⟩ (kX1_requireLine l hfl D cI cZ cA ax n B Q cn rt wd qf T (u) (w) hB) (cwV 2 hts gX1_partner_X1_requireLine rfl rfl rfl hdX1_requireLine ⟨Nat.le_of_ble_eq_true rfl, Nat.le_of_ble_eq_true rfl⟩) hK hP hE (ci := 3) rfl (q0 := 0) rfl rfl rfl hl.1 rfl (Nat.le_of_ble_eq_true rfl) dX1_partner_3 ⟨Nat.le_of_ble_eq_true rfl, Nat.le_of_ble_eq_true rfl⟩ hno hlocks (fun E h => Or.inl ⟨h.1, by simp [s_pr, h.2]⟩) (Nat.le_of_ble_eq_true rfl) (Nat.le_of_ble_eq_true rfl) (fun h_1 => ?_)
  obtain ⟨k_u, k_w, hk_u, hk_w, rfl, rfl⟩ := s_isl_t hB h_1
  have h8_u := hB.2.2.1 k_u
  have hc_k_u : (nI k_u).toNatClampNeg = k_u := nI_clamp (by omega)
  have hc_k_w : (nI k_w).toNatClampNeg = k_w := nI_clamp (by omega)
  have hd8 : (8 * k_u + k_w) / 8 = k_u := by omega
  have hm8 : (8 * k_u + k_w) % 8 = k_w := by omega
  have hll : s_ln B (8 * k_u + k_w) = true := by unfold s_ln; rw [hd8, hm8]; exact decide_eq_true hk_w
  refine lv_iload_n hx hb dX1_partner_6 rfl (lv_at hl 1 rfl) ?_
  refine lv_iload_n hx hb dX1_partner_7 rfl (lv_at hl 2 rfl) ?_
  refine ro_S (As := [.int (nI (k_u)), .int (nI (k_w))]) (v := (nI (8 * k_u + k_w))) ⟨hx, hb, hml, hown, hts⟩ (kX1_placeOf l k_u k_w (by omega) (by omega)) (va_cwS 2 hts gX1_partner_X1_placeOf rfl rfl rfl hsX1_placeOf ⟨Nat.le_of_ble_eq_true rfl, Nat.le_of_ble_eq_true rfl⟩) rfl hl.1 rfl (Nat.le_of_ble_eq_true rfl) dX1_partner_8 ⟨Nat.le_of_ble_eq_true rfl, Nat.le_of_ble_eq_true rfl⟩ ?_
  refine lv_istore_n (lv' := [(3, .int (nI (8 * k_u + k_w))), (0, .ref (ax 0)), (1, .int (nI (k_u))), (2, .int (nI (k_w)))]) hx hb dX1_partner_11 rfl hl (by decide) rfl (fun ls hl => ?_)
  refine lv_aload_n hx hb dX1_partner_12 rfl (lv_at hl 1 rfl) ?_
  refine lv_iload_n hx hb dX1_partner_13 rfl (lv_at hl 0 rfl) ?_
  refine ro_V (As := [.int (nI (8 * k_u + k_w))]) (v := (bI (s_hp n B (8 * k_u + k_w)))) ⟨hx, hb, hml, hown, hts⟩ (kX1_hasPartner l D cI cZ cA ax n B Q cn rt wd qf T (8 * k_u + k_w) hB hQ (by omega)) (cwV 1 hts gX1_partner_X1_hasPartner rfl rfl rfl hdX1_hasPartner ⟨Nat.le_of_ble_eq_true rfl, Nat.le_of_ble_eq_true rfl⟩) hK hP (ci := 3) rfl (q0 := 0) rfl rfl rfl hl.1 rfl (Nat.le_of_ble_eq_true rfl) dX1_partner_14 ⟨Nat.le_of_ble_eq_true rfl, Nat.le_of_ble_eq_true rfl⟩ ?_
  refine y_ne (tgt := 30) hx hb dX1_partner_17 (by decide) (fun c_2 => ?_) (fun c_2 => ?_)
  · obtain ⟨y1, hy1⟩ := s_hp_t c_2
    obtain ⟨q1, j1, hpa1, hpr1, hy8, hym, hq1, hj1, -, -, hy80, hyl⟩ := s_q_some hB hy1
    rw [hd8, hm8] at hpa1
    refine lv_aload_n hx hb dX1_partner_30 rfl (lv_at hl 1 rfl) ?_
    refine va_get (D := D) (ci := 3) (v := .ref (ax 8)) (C := RX1) (T := TX1) (N := 12) hx hb hts hin hown hK hP 0 rfl rfl 8 (by decide) hf_35 (fun _ h9 => h9) rfl dX1_partner_31 ?_
    refine lv_iload_n hx hb dX1_partner_34 rfl (lv_at hl 0 rfl) ?_
    refine n_iald hx hb hK hP 8 0 rfl rfl (i := 8 * k_u + k_w) (by omega) (by decide) dX1_partner_35 ?_
    refine n_top (y := (nI (y1))) (by rw [hQ _ (by omega), hy1]; rfl) ?_
    refine ro_S (As := [.int (nI (y1))]) (v := (nI (y1 % 8))) ⟨hx, hb, hml, hown, hts⟩ (kX1_lineAt l y1 (by omega)) (va_cwS 1 hts gX1_partner_X1_lineAt rfl rfl rfl hsX1_lineAt ⟨Nat.le_of_ble_eq_true rfl, Nat.le_of_ble_eq_true rfl⟩) rfl hl.1 rfl (Nat.le_of_ble_eq_true rfl) dX1_partner_36 ⟨Nat.le_of_ble_eq_true rfl, Nat.le_of_ble_eq_true rfl⟩ ?_
    refine vx_ret ?_
    refine W.widen (k := 3) (n := 18) (Nat.le_of_ble_eq_true rfl) (Nat.le_of_ble_eq_true rfl) ?_
    exact W.iret (v := (nI (y1 % 8))) hx hb hr (fun t ht hW => ⟨_, rfl, ⟨(by first | rfl | (simp [oI_s, bI_t, bI_f, s_pr, s_ocode, h_1, hc_k_u, hc_k_w, hd8, hm8, c_2, hpa1, hym]; done) | (simp [oI_s, bI_t, bI_f, s_pr, s_ocode, h_1, hc_k_u, hc_k_w, hd8, hm8, c_2, hpa1, hym]; omega) | (simp only [s_pr, s_ocode]; (repeat' split) <;> first | rfl | omega | (simp_all; done) | (simp_all; omega))), (by simp [s_pr, s_ocode, h_1, hc_k_u, hc_k_w, hd8, hm8, c_2, hpa1, hym])⟩, ht⟩) (fun _ h => nomatch h) dX1_partner_39
  have hpa0 := s_q_pa hll (s_hp_f c_2)
  rw [hd8, hm8] at hpa0
  exact x_thrN hx hb hfl hown xf_NSE hk_96 hi_96 hg_96 xb_NSE (by decide +kernel) hE (is := 124) (text := "the line has no partner") (by decide +kernel) (hl.1.trans hml.symm) dX1_partner_20 dX1_partner_23 dX1_partner_24 dX1_partner_26 dX1_partner_29 hno (Nat.le_of_ble_eq_true rfl) (Nat.le_of_ble_eq_true rfl) (Nat.le_of_ble_eq_true rfl) (Nat.le_of_ble_eq_true rfl) hlocks (by simp [s_pr, s_ocode, h_1, hc_k_u, hc_k_w, hd8, hm8, c_2, hpa0]) (Nat.le_of_ble_eq_true rfl) (Nat.le_of_ble_eq_true rfl)
theorem hdX1_partner : yX1_partner.cls = RX1 ∧ yX1_partner.cls ≠ "java/lang/invoke/MethodHandle" ∧ yX1_partner.cls ≠ "java/lang/invoke/VarHandle" ∧ (parseMethodDescriptor yX1_partner.desc).map (fun d => d.parameters.length) = some 2 := by decide +kernel
set_option maxHeartbeats 4000000 in
set_option maxRecDepth 100000 in
theorem kX1_originMail (l : Launch) (hfl : l.stackTraces = false) (D : va_G) (cI cZ cA : ClassId) (ax : Nat → Nat) (n : Nat) (B : Nat → Nat → Nat) (Q : Nat → Option Nat) (cn : Nat → Bool) (rt : Nat → Nat) (wd : Nat → Option Nat) (qf : Nat → Option Nat) (T : Nat → Nat → Nat) (u : Int32) (w : Int32) (hB : Bok n B) (hQ : QA n B Q) : vx_Met l yX1_originMail wsX1_originMail ({ frames := 8, cells := 2, slots := 12, locals := 125 }) (PcX D [(cI, .int), (cZ, .boolean), (cA, .array .int)] (wX cI cZ cA ax n B Q cn rt wd qf T) [.ref (ax 0), .int (u), .int (w)]) (vp_Si (fun r => r = (nI ((s_orc n B u w).2 / 8)) ∧ (s_orc n B u w).1 = 0)) (XCf (fun E => (E = "java/lang/IndexOutOfBoundsException" ∧ (s_orc n B u w).1 = 1))) 2 12 (fun _ => False) := by
  refine vx_ofW (cc := cX1_originMail) (maxL := 3) (ret := (some .int)) (by decide) rfl ?_
  intro p e s m args below meth c s₁ BL hml hno hv
  obtain ⟨rfl, hP, hK, hE⟩ := hv
  have hx := BL.exec
  have hb := BL.bytes
  have hr := BL.returns
  have hts := atoms_spec (ws := wsX1_originMail) BL.pre
  have hown : s.vm.findClass RX1 = some m.cls := findClass_of_methodNamed BL.named
  have hlocks := BL.notSynchronized
  have hl := lv_entry ([.ref (ax 0), .int (u), .int (w)]) (n := 3) (Nat.le_of_ble_eq_true rfl)
  rw [lg_entry_eq]
  generalize (lg_sl ([.ref (ax 0), .int (u), .int (w)]) ++ List.replicate (3 - (lg_sl ([.ref (ax 0), .int (u), .int (w)])).length) Slot.unset).toArray = ls at hl ⊢
  have hl : lv_has ls 3 [(0, .ref (ax 0)), (1, .int (u)), (2, .int (w))] := hl
  have hn10 := hB.1
  refine lv_aload_n hx hb dX1_originMail_0 rfl (lv_at hl 0 rfl) ?_
  refine lv_iload_n hx hb dX1_originMail_1 rfl (lv_at hl 1 rfl) ?_
  refine lv_iload_n hx hb dX1_originMail_2 rfl (lv_at hl 2 rfl) ?_
  refine xr_Vv (As := [.int (u), .int (w)]) ⟨hx, hb, hml, hown, hts⟩ (kX1_requireLine l hfl D cI cZ cA ax n B Q cn rt wd qf T (u) (w) hB) (cwV 2 hts gX1_originMail_X1_requireLine rfl rfl rfl hdX1_requireLine ⟨Nat.le_of_ble_eq_true rfl, Nat.le_of_ble_eq_true rfl⟩) hK hP hE (ci := 3) rfl (q0 := 0) rfl rfl rfl hl.1 rfl (Nat.le_of_ble_eq_true rfl) dX1_originMail_3 ⟨Nat.le_of_ble_eq_true rfl, Nat.le_of_ble_eq_true rfl⟩ hno hlocks (fun E h => ⟨h.1, by simp [s_orc, h.2]⟩) (Nat.le_of_ble_eq_true rfl) (Nat.le_of_ble_eq_true rfl) (fun h_1 => ?_)
  obtain ⟨k_u, k_w, hk_u, hk_w, rfl, rfl⟩ := s_isl_t hB h_1
  have h8_u := hB.2.2.1 k_u
  have hc_k_u : (nI k_u).toNatClampNeg = k_u := nI_clamp (by omega)
  have hc_k_w : (nI k_w).toNatClampNeg = k_w := nI_clamp (by omega)
  have hd8 : (8 * k_u + k_w) / 8 = k_u := by omega
  have hm8 : (8 * k_u + k_w) % 8 = k_w := by omega
  have hll : s_ln B (8 * k_u + k_w) = true := by unfold s_ln; rw [hd8, hm8]; exact decide_eq_true hk_w
  refine lv_aload_n hx hb dX1_originMail_6 rfl (lv_at hl 0 rfl) ?_
  refine lv_iload_n hx hb dX1_originMail_7 rfl (lv_at hl 1 rfl) ?_
  refine lv_iload_n hx hb dX1_originMail_8 rfl (lv_at hl 2 rfl) ?_
  have hol : s_org n B k_u k_w < 8 * n := s_or_lt hB.2.2.1 (k := 4) hk_u hk_w
  refine ro_S (As := [.int (nI (k_u)), .int (nI (k_w))]) (v := (nI (8 * k_u + k_w))) ⟨hx, hb, hml, hown, hts⟩ (kX1_placeOf l k_u k_w (by omega) (by omega)) (va_cwS 2 hts gX1_originMail_X1_placeOf rfl rfl rfl hsX1_placeOf ⟨Nat.le_of_ble_eq_true rfl, Nat.le_of_ble_eq_true rfl⟩) rfl hl.1 rfl (Nat.le_of_ble_eq_true rfl) dX1_originMail_9 ⟨Nat.le_of_ble_eq_true rfl, Nat.le_of_ble_eq_true rfl⟩ ?_
  refine ro_V (As := [.int (nI (8 * k_u + k_w))]) (v := (nI (s_org n B ((8 * k_u + k_w) / 8) ((8 * k_u + k_w) % 8)))) ⟨hx, hb, hml, hown, hts⟩ (kX1_originOf l D cI cZ cA ax n B Q cn rt wd qf T (8 * k_u + k_w) hB hQ (by omega) (by omega)) (cwV 1 hts gX1_originMail_X1_originOf rfl rfl rfl hdX1_originOf ⟨Nat.le_of_ble_eq_true rfl, Nat.le_of_ble_eq_true rfl⟩) hK hP (ci := 3) rfl (q0 := 0) rfl rfl rfl hl.1 rfl (Nat.le_of_ble_eq_true rfl) dX1_originMail_12 ⟨Nat.le_of_ble_eq_true rfl, Nat.le_of_ble_eq_true rfl⟩ ?_
  refine n_top (y := (nI (s_org n B k_u k_w))) (by rw [hd8, hm8]) ?_
  refine ro_S (As := [.int (nI (s_org n B k_u k_w))]) (v := (nI ((s_org n B k_u k_w) / 8))) ⟨hx, hb, hml, hown, hts⟩ (kX1_mailAt l (s_org n B k_u k_w) (by omega)) (va_cwS 1 hts gX1_originMail_X1_mailAt rfl rfl rfl hsX1_mailAt ⟨Nat.le_of_ble_eq_true rfl, Nat.le_of_ble_eq_true rfl⟩) rfl hl.1 rfl (Nat.le_of_ble_eq_true rfl) dX1_originMail_15 ⟨Nat.le_of_ble_eq_true rfl, Nat.le_of_ble_eq_true rfl⟩ ?_
  refine vx_ret ?_
  refine W.widen (k := 2) (n := 12) (Nat.le_of_ble_eq_true rfl) (Nat.le_of_ble_eq_true rfl) ?_
  exact W.iret (v := (nI ((s_org n B k_u k_w) / 8))) hx hb hr (fun t ht hW => ⟨_, rfl, ⟨(by first | rfl | (simp [oI_s, bI_t, bI_f, s_orc, s_ocode, h_1, hc_k_u, hc_k_w, hd8, hm8]; done) | (simp [oI_s, bI_t, bI_f, s_orc, s_ocode, h_1, hc_k_u, hc_k_w, hd8, hm8]; omega) | (simp only [s_orc, s_ocode]; (repeat' split) <;> first | rfl | omega | (simp_all; done) | (simp_all; omega))), (by simp [s_orc, s_ocode, h_1, hc_k_u, hc_k_w, hd8, hm8])⟩, ht⟩) (fun _ h => nomatch h) dX1_originMail_18
theorem hdX1_originMail : yX1_originMail.cls = RX1 ∧ yX1_originMail.cls ≠ "java/lang/invoke/MethodHandle" ∧ yX1_originMail.cls ≠ "java/lang/invoke/VarHandle" ∧ (parseMethodDescriptor yX1_originMail.desc).map (fun d => d.parameters.length) = some 2 := by decide +kernel
set_option maxHeartbeats 4000000 in
set_option maxRecDepth 100000 in
theorem kX1_originLine (l : Launch) (hfl : l.stackTraces = false) (D : va_G) (cI cZ cA : ClassId) (ax : Nat → Nat) (n : Nat) (B : Nat → Nat → Nat) (Q : Nat → Option Nat) (cn : Nat → Bool) (rt : Nat → Nat) (wd : Nat → Option Nat) (qf : Nat → Option Nat) (T : Nat → Nat → Nat) (u : Int32) (w : Int32) (hB : Bok n B) (hQ : QA n B Q) : vx_Met l yX1_originLine wsX1_originLine ({ frames := 8, cells := 2, slots := 12, locals := 125 }) (PcX D [(cI, .int), (cZ, .boolean), (cA, .array .int)] (wX cI cZ cA ax n B Q cn rt wd qf T) [.ref (ax 0), .int (u), .int (w)]) (vp_Si (fun r => r = (nI ((s_orc n B u w).2 % 8)) ∧ (s_orc n B u w).1 = 0)) (XCf (fun E => (E = "java/lang/IndexOutOfBoundsException" ∧ (s_orc n B u w).1 = 1))) 2 12 (fun _ => False) := by
  refine vx_ofW (cc := cX1_originLine) (maxL := 3) (ret := (some .int)) (by decide) rfl ?_
  intro p e s m args below meth c s₁ BL hml hno hv
  obtain ⟨rfl, hP, hK, hE⟩ := hv
  have hx := BL.exec
  have hb := BL.bytes
  have hr := BL.returns
  have hts := atoms_spec (ws := wsX1_originLine) BL.pre
  have hown : s.vm.findClass RX1 = some m.cls := findClass_of_methodNamed BL.named
  have hlocks := BL.notSynchronized
  have hl := lv_entry ([.ref (ax 0), .int (u), .int (w)]) (n := 3) (Nat.le_of_ble_eq_true rfl)
  rw [lg_entry_eq]
  generalize (lg_sl ([.ref (ax 0), .int (u), .int (w)]) ++ List.replicate (3 - (lg_sl ([.ref (ax 0), .int (u), .int (w)])).length) Slot.unset).toArray = ls at hl ⊢
  have hl : lv_has ls 3 [(0, .ref (ax 0)), (1, .int (u)), (2, .int (w))] := hl
  have hn10 := hB.1
  refine lv_aload_n hx hb dX1_originLine_0 rfl (lv_at hl 0 rfl) ?_
  refine lv_iload_n hx hb dX1_originLine_1 rfl (lv_at hl 1 rfl) ?_
  refine lv_iload_n hx hb dX1_originLine_2 rfl (lv_at hl 2 rfl) ?_
  refine xr_Vv (As := [.int (u), .int (w)]) ⟨hx, hb, hml, hown, hts⟩ (kX1_requireLine l hfl D cI cZ cA ax n B Q cn rt wd qf T (u) (w) hB) (cwV 2 hts gX1_originLine_X1_requireLine rfl rfl rfl hdX1_requireLine ⟨Nat.le_of_ble_eq_true rfl, Nat.le_of_ble_eq_true rfl⟩) hK hP hE (ci := 3) rfl (q0 := 0) rfl rfl rfl hl.1 rfl (Nat.le_of_ble_eq_true rfl) dX1_originLine_3 ⟨Nat.le_of_ble_eq_true rfl, Nat.le_of_ble_eq_true rfl⟩ hno hlocks (fun E h => ⟨h.1, by simp [s_orc, h.2]⟩) (Nat.le_of_ble_eq_true rfl) (Nat.le_of_ble_eq_true rfl) (fun h_1 => ?_)
  obtain ⟨k_u, k_w, hk_u, hk_w, rfl, rfl⟩ := s_isl_t hB h_1
  have h8_u := hB.2.2.1 k_u
  have hc_k_u : (nI k_u).toNatClampNeg = k_u := nI_clamp (by omega)
  have hc_k_w : (nI k_w).toNatClampNeg = k_w := nI_clamp (by omega)
  have hd8 : (8 * k_u + k_w) / 8 = k_u := by omega
  have hm8 : (8 * k_u + k_w) % 8 = k_w := by omega
  have hll : s_ln B (8 * k_u + k_w) = true := by unfold s_ln; rw [hd8, hm8]; exact decide_eq_true hk_w
  refine lv_aload_n hx hb dX1_originLine_6 rfl (lv_at hl 0 rfl) ?_
  refine lv_iload_n hx hb dX1_originLine_7 rfl (lv_at hl 1 rfl) ?_
  refine lv_iload_n hx hb dX1_originLine_8 rfl (lv_at hl 2 rfl) ?_
  have hol : s_org n B k_u k_w < 8 * n := s_or_lt hB.2.2.1 (k := 4) hk_u hk_w
  refine ro_S (As := [.int (nI (k_u)), .int (nI (k_w))]) (v := (nI (8 * k_u + k_w))) ⟨hx, hb, hml, hown, hts⟩ (kX1_placeOf l k_u k_w (by omega) (by omega)) (va_cwS 2 hts gX1_originLine_X1_placeOf rfl rfl rfl hsX1_placeOf ⟨Nat.le_of_ble_eq_true rfl, Nat.le_of_ble_eq_true rfl⟩) rfl hl.1 rfl (Nat.le_of_ble_eq_true rfl) dX1_originLine_9 ⟨Nat.le_of_ble_eq_true rfl, Nat.le_of_ble_eq_true rfl⟩ ?_
  refine ro_V (As := [.int (nI (8 * k_u + k_w))]) (v := (nI (s_org n B ((8 * k_u + k_w) / 8) ((8 * k_u + k_w) % 8)))) ⟨hx, hb, hml, hown, hts⟩ (kX1_originOf l D cI cZ cA ax n B Q cn rt wd qf T (8 * k_u + k_w) hB hQ (by omega) (by omega)) (cwV 1 hts gX1_originLine_X1_originOf rfl rfl rfl hdX1_originOf ⟨Nat.le_of_ble_eq_true rfl, Nat.le_of_ble_eq_true rfl⟩) hK hP (ci := 3) rfl (q0 := 0) rfl rfl rfl hl.1 rfl (Nat.le_of_ble_eq_true rfl) dX1_originLine_12 ⟨Nat.le_of_ble_eq_true rfl, Nat.le_of_ble_eq_true rfl⟩ ?_
  refine n_top (y := (nI (s_org n B k_u k_w))) (by rw [hd8, hm8]) ?_
  refine ro_S (As := [.int (nI (s_org n B k_u k_w))]) (v := (nI ((s_org n B k_u k_w) % 8))) ⟨hx, hb, hml, hown, hts⟩ (kX1_lineAt l (s_org n B k_u k_w) (by omega)) (va_cwS 1 hts gX1_originLine_X1_lineAt rfl rfl rfl hsX1_lineAt ⟨Nat.le_of_ble_eq_true rfl, Nat.le_of_ble_eq_true rfl⟩) rfl hl.1 rfl (Nat.le_of_ble_eq_true rfl) dX1_originLine_15 ⟨Nat.le_of_ble_eq_true rfl, Nat.le_of_ble_eq_true rfl⟩ ?_
  refine vx_ret ?_
  refine W.widen (k := 2) (n := 12) (Nat.le_of_ble_eq_true rfl) (Nat.le_of_ble_eq_true rfl) ?_
  exact W.iret (v := (nI ((s_org n B k_u k_w) % 8))) hx hb hr (fun t ht hW => ⟨_, rfl, ⟨(by first | rfl | (simp [oI_s, bI_t, bI_f, s_orc, s_ocode, h_1, hc_k_u, hc_k_w, hd8, hm8]; done) | (simp [oI_s, bI_t, bI_f, s_orc, s_ocode, h_1, hc_k_u, hc_k_w, hd8, hm8]; omega) | (simp only [s_orc, s_ocode]; (repeat' split) <;> first | rfl | omega | (simp_all; done) | (simp_all; omega))), (by simp [s_orc, s_ocode, h_1, hc_k_u, hc_k_w, hd8, hm8])⟩, ht⟩) (fun _ h => nomatch h) dX1_originLine_18
theorem hdX1_originLine : yX1_originLine.cls = RX1 ∧ yX1_originLine.cls ≠ "java/lang/invoke/MethodHandle" ∧ yX1_originLine.cls ≠ "java/lang/invoke/VarHandle" ∧ (parseMethodDescriptor yX1_originLine.desc).map (fun d => d.parameters.length) = some 2 := by decide +kernel
set_option maxHeartbeats 4000000 in
set_option maxRecDepth 100000 in
theorem kX1_kind (l : Launch) (hfl : l.stackTraces = false) (D : va_G) (cI cZ cA : ClassId) (ax : Nat → Nat) (n : Nat) (B : Nat → Nat → Nat) (Q : Nat → Option Nat) (cn : Nat → Bool) (rt : Nat → Nat) (wd : Nat → Option Nat) (qf : Nat → Option Nat) (T : Nat → Nat → Nat) (u : Int32) (w : Int32) (hB : Bok n B) (hQ : QA n B Q) : vx_Met l yX1_kind wsX1_kind ({ frames := 8, cells := 2, slots := 12, locals := 125 }) (PcX D [(cI, .int), (cZ, .boolean), (cA, .array .int)] (wX cI cZ cA ax n B Q cn rt wd qf T) [.ref (ax 0), .int (u), .int (w)]) (vp_Si (fun r => r = (nI ((s_kd n B u w).2)) ∧ (s_kd n B u w).1 = 0)) (XCf (fun E => (E = "java/lang/IndexOutOfBoundsException" ∧ (s_kd n B u w).1 = 1))) 2 12 (fun _ => False) := by
  refine vx_ofW (cc := cX1_kind) (maxL := 3) (ret := (some .char)) (by decide) rfl ?_
  intro p e s m args below meth c s₁ BL hml hno hv
  obtain ⟨rfl, hP, hK, hE⟩ := hv
  have hx := BL.exec
  have hb := BL.bytes
  have hr := BL.returns
  have hts := atoms_spec (ws := wsX1_kind) BL.pre
  have hown : s.vm.findClass RX1 = some m.cls := findClass_of_methodNamed BL.named
  have hlocks := BL.notSynchronized
  have hl := lv_entry ([.ref (ax 0), .int (u), .int (w)]) (n := 3) (Nat.le_of_ble_eq_true rfl)
  rw [lg_entry_eq]
  generalize (lg_sl ([.ref (ax 0), .int (u), .int (w)]) ++ List.replicate (3 - (lg_sl ([.ref (ax 0), .int (u), .int (w)])).length) Slot.unset).toArray = ls at hl ⊢
  have hl : lv_has ls 3 [(0, .ref (ax 0)), (1, .int (u)), (2, .int (w))] := hl
  have hn10 := hB.1
  refine lv_aload_n hx hb dX1_kind_0 rfl (lv_at hl 0 rfl) ?_
  refine lv_iload_n hx hb dX1_kind_1 rfl (lv_at hl 1 rfl) ?_
  refine lv_iload_n hx hb dX1_kind_2 rfl (lv_at hl 2 rfl) ?_
  refine xr_Vv (As := [.int (u), .int (w)]) ⟨hx, hb, hml, hown, hts⟩ (kX1_requireLine l hfl D cI cZ cA ax n B Q cn rt wd qf T (u) (w) hB) (cwV 2 hts gX1_kind_X1_requireLine rfl rfl rfl hdX1_requireLine ⟨Nat.le_of_ble_eq_true rfl, Nat.le_of_ble_eq_true rfl⟩) hK hP hE (ci := 3) rfl (q0 := 0) rfl rfl rfl hl.1 rfl (Nat.le_of_ble_eq_true rfl) dX1_kind_3 ⟨Nat.le_of_ble_eq_true rfl, Nat.le_of_ble_eq_true rfl⟩ hno hlocks (fun E h => ⟨h.1, by simp [s_kd, h.2]⟩) (Nat.le_of_ble_eq_true rfl) (Nat.le_of_ble_eq_true rfl) (fun h_1 => ?_)
  obtain ⟨k_u, k_w, hk_u, hk_w, rfl, rfl⟩ := s_isl_t hB h_1
  have h8_u := hB.2.2.1 k_u
  have hc_k_u : (nI k_u).toNatClampNeg = k_u := nI_clamp (by omega)
  have hc_k_w : (nI k_w).toNatClampNeg = k_w := nI_clamp (by omega)
  have hd8 : (8 * k_u + k_w) / 8 = k_u := by omega
  have hm8 : (8 * k_u + k_w) % 8 = k_w := by omega
  have hll : s_ln B (8 * k_u + k_w) = true := by unfold s_ln; rw [hd8, hm8]; exact decide_eq_true hk_w
  refine lv_aload_n hx hb dX1_kind_6 rfl (lv_at hl 0 rfl) ?_
  refine lv_iload_n hx hb dX1_kind_7 rfl (lv_at hl 1 rfl) ?_
  refine lv_iload_n hx hb dX1_kind_8 rfl (lv_at hl 2 rfl) ?_
  refine ro_S (As := [.int (nI (k_u)), .int (nI (k_w))]) (v := (nI (8 * k_u + k_w))) ⟨hx, hb, hml, hown, hts⟩ (kX1_placeOf l k_u k_w (by omega) (by omega)) (va_cwS 2 hts gX1_kind_X1_placeOf rfl rfl rfl hsX1_placeOf ⟨Nat.le_of_ble_eq_true rfl, Nat.le_of_ble_eq_true rfl⟩) rfl hl.1 rfl (Nat.le_of_ble_eq_true rfl) dX1_kind_9 ⟨Nat.le_of_ble_eq_true rfl, Nat.le_of_ble_eq_true rfl⟩ ?_
  refine ro_V (As := [.int (nI (8 * k_u + k_w))]) (v := (nI (s_knd n B ((8 * k_u + k_w) / 8) ((8 * k_u + k_w) % 8)))) ⟨hx, hb, hml, hown, hts⟩ (kX1_kindAt l D cI cZ cA ax n B Q cn rt wd qf T (8 * k_u + k_w) hB hQ (by omega) (by omega)) (cwV 1 hts gX1_kind_X1_kindAt rfl rfl rfl hdX1_kindAt ⟨Nat.le_of_ble_eq_true rfl, Nat.le_of_ble_eq_true rfl⟩) hK hP (ci := 3) rfl (q0 := 0) rfl rfl rfl hl.1 rfl (Nat.le_of_ble_eq_true rfl) dX1_kind_12 ⟨Nat.le_of_ble_eq_true rfl, Nat.le_of_ble_eq_true rfl⟩ ?_
  refine n_top (y := (nI (s_knd n B k_u k_w))) (by rw [hd8, hm8]) ?_
  refine vx_ret ?_
  refine W.widen (k := 2) (n := 12) (Nat.le_of_ble_eq_true rfl) (Nat.le_of_ble_eq_true rfl) ?_
  exact W.zret (v := (nI (s_knd n B k_u k_w))) hx hb hr (s_nar (Nat.le_trans (s_knd_b n B k_u k_w) (by decide))) (fun t ht hW => ⟨_, rfl, ⟨(by first | rfl | (simp [oI_s, bI_t, bI_f, s_kd, s_ocode, h_1, hc_k_u, hc_k_w, hd8, hm8]; done) | (simp [oI_s, bI_t, bI_f, s_kd, s_ocode, h_1, hc_k_u, hc_k_w, hd8, hm8]; omega) | (simp only [s_kd, s_ocode]; (repeat' split) <;> first | rfl | omega | (simp_all; done) | (simp_all; omega))), (by simp [s_kd, s_ocode, h_1, hc_k_u, hc_k_w, hd8, hm8])⟩, ht⟩) (fun _ h => nomatch h) dX1_kind_15
theorem hdX1_kind : yX1_kind.cls = RX1 ∧ yX1_kind.cls ≠ "java/lang/invoke/MethodHandle" ∧ yX1_kind.cls ≠ "java/lang/invoke/VarHandle" ∧ (parseMethodDescriptor yX1_kind.desc).map (fun d => d.parameters.length) = some 2 := by decide +kernel
set_option maxHeartbeats 4000000 in
set_option maxRecDepth 100000 in
theorem kX1_signature (l : Launch) (hfl : l.stackTraces = false) (D : va_G) (cI cZ cA : ClassId) (ax : Nat → Nat) (n : Nat) (B : Nat → Nat → Nat) (Q : Nat → Option Nat) (cn : Nat → Bool) (rt : Nat → Nat) (wd : Nat → Option Nat) (qf : Nat → Option Nat) (T : Nat → Nat → Nat) (u : Int32) (hB : Bok n B) : vx_Met l yX1_signature wsX1_signature ({ frames := 7, cells := 1, slots := 6, locals := 103 }) (PcX D [(cI, .int), (cZ, .boolean), (cA, .array .int)] (wX cI cZ cA ax n B Q cn rt wd qf T) [.ref (ax 0), .int (u)]) (vp_Si (fun r => r = (nI ((s_sgc n B u).2)) ∧ (s_sgc n B u).1 = 0)) (XCf (fun E => (E = "java/lang/IndexOutOfBoundsException" ∧ (s_sgc n B u).1 = 1))) 1 6 (fun _ => False) := by
  refine vx_ofW (cc := cX1_signature) (maxL := 2) (ret := (some .int)) (by decide) rfl ?_
  intro p e s m args below meth c s₁ BL hml hno hv
  obtain ⟨rfl, hP, hK, hE⟩ := hv
  have hx := BL.exec
  have hb := BL.bytes
  have hr := BL.returns
  have hts := atoms_spec (ws := wsX1_signature) BL.pre
  have hown : s.vm.findClass RX1 = some m.cls := findClass_of_methodNamed BL.named
  have hlocks := BL.notSynchronized
  have hl := lv_entry ([.ref (ax 0), .int (u)]) (n := 2) (Nat.le_of_ble_eq_true rfl)
  rw [lg_entry_eq]
  generalize (lg_sl ([.ref (ax 0), .int (u)]) ++ List.replicate (2 - (lg_sl ([.ref (ax 0), .int (u)])).length) Slot.unset).toArray = ls at hl ⊢
  have hl : lv_has ls 2 [(0, .ref (ax 0)), (1, .int (u))] := hl
  have hn10 := hB.1
  refine lv_aload_n hx hb dX1_signature_0 rfl (lv_at hl 0 rfl) ?_
  refine lv_iload_n hx hb dX1_signature_1 rfl (lv_at hl 1 rfl) ?_
  refine xr_Vv (As := [.int (u)]) ⟨hx, hb, hml, hown, hts⟩ (kX1_requireMail l hfl D cI cZ cA ax n B Q cn rt wd qf T (u) hB) (cwV 1 hts gX1_signature_X1_requireMail rfl rfl rfl hdX1_requireMail ⟨Nat.le_of_ble_eq_true rfl, Nat.le_of_ble_eq_true rfl⟩) hK hP hE (ci := 3) rfl (q0 := 0) rfl rfl rfl hl.1 rfl (Nat.le_of_ble_eq_true rfl) dX1_signature_2 ⟨Nat.le_of_ble_eq_true rfl, Nat.le_of_ble_eq_true rfl⟩ hno hlocks (fun E h => ⟨h.1, by simp [s_sgc, h.2]⟩) (Nat.le_of_ble_eq_true rfl) (Nat.le_of_ble_eq_true rfl) (fun h_1 => ?_)
  obtain ⟨k_u, hk_u, rfl⟩ := s_ism_t hB.1 h_1
  have h8_u := hB.2.2.1 k_u
  have hc_k_u : (nI k_u).toNatClampNeg = k_u := nI_clamp (by omega)
  refine lv_aload_n hx hb dX1_signature_5 rfl (lv_at hl 0 rfl) ?_
  refine lv_iload_n hx hb dX1_signature_6 rfl (lv_at hl 1 rfl) ?_
  refine ro_V (As := [.int (nI (k_u))]) (v := (nI (s_sig n B k_u))) ⟨hx, hb, hml, hown, hts⟩ (kX1_signatureLength l D cI cZ cA ax n B Q cn rt wd qf T k_u hB (by omega)) (cwV 1 hts gX1_signature_X1_signatureLength rfl rfl rfl hdX1_signatureLength ⟨Nat.le_of_ble_eq_true rfl, Nat.le_of_ble_eq_true rfl⟩) hK hP (ci := 3) rfl (q0 := 0) rfl rfl rfl hl.1 rfl (Nat.le_of_ble_eq_true rfl) dX1_signature_7 ⟨Nat.le_of_ble_eq_true rfl, Nat.le_of_ble_eq_true rfl⟩ ?_
  refine vx_ret ?_
  refine W.widen (k := 1) (n := 6) (Nat.le_of_ble_eq_true rfl) (Nat.le_of_ble_eq_true rfl) ?_
  exact W.iret (v := (nI (s_sig n B k_u))) hx hb hr (fun t ht hW => ⟨_, rfl, ⟨(by first | rfl | (simp [oI_s, bI_t, bI_f, s_sgc, s_ocode, h_1, hc_k_u]; done) | (simp [oI_s, bI_t, bI_f, s_sgc, s_ocode, h_1, hc_k_u]; omega) | (simp only [s_sgc, s_ocode]; (repeat' split) <;> first | rfl | omega | (simp_all; done) | (simp_all; omega))), (by simp [s_sgc, s_ocode, h_1, hc_k_u])⟩, ht⟩) (fun _ h => nomatch h) dX1_signature_10
theorem hdX1_signature : yX1_signature.cls = RX1 ∧ yX1_signature.cls ≠ "java/lang/invoke/MethodHandle" ∧ yX1_signature.cls ≠ "java/lang/invoke/VarHandle" ∧ (parseMethodDescriptor yX1_signature.desc).map (fun d => d.parameters.length) = some 1 := by decide +kernel
set_option maxHeartbeats 4000000 in
set_option maxRecDepth 100000 in
theorem kX1_requireAnswered (l : Launch) (hfl : l.stackTraces = false) (D : va_G) (cI cZ cA : ClassId) (ax : Nat → Nat) (n : Nat) (B : Nat → Nat → Nat) (Q : Nat → Option Nat) (cn : Nat → Bool) (rt : Nat → Nat) (wd : Nat → Option Nat) (qf : Nat → Option Nat) (T : Nat → Nat → Nat) (x : Nat) (hB : Bok n B) (hQ : QA n B Q) (h_x : x < 80) (h_l : s_ln B x = true) : vx_Met l yX1_requireAnswered wsX1_requireAnswered ({ frames := 6, cells := 1, slots := 6, locals := 114 }) (PcX D [(cI, .int), (cZ, .boolean), (cA, .array .int)] (wX cI cZ cA ax n B Q cn rt wd qf T) [.ref (ax 0), .int (nI (x))]) (vp_Si (fun r => r = (nI ((s_ocode 3 (s_an n B (x / 8) (x % 8))).2)) ∧ s_knd n B (x / 8) (x % 8) = 110 ∧ (s_ocode 3 (s_an n B (x / 8) (x % 8))).1 = 0)) (XCf (fun E => (E = "java/lang/UnsupportedOperationException" ∧ ¬ s_knd n B (x / 8) (x % 8) = 110) ∨ (E = "java/util/NoSuchElementException" ∧ s_knd n B (x / 8) (x % 8) = 110 ∧ s_an n B (x / 8) (x % 8) = none))) 1 6 (fun _ => False) := by
  refine vx_ofW (cc := cX1_requireAnswered) (maxL := 3) (ret := (some .int)) (by decide) rfl ?_
  intro p e s m args below meth c s₁ BL hml hno hv
  obtain ⟨rfl, hP, hK, hE⟩ := hv
  have hx := BL.exec
  have hb := BL.bytes
  have hr := BL.returns
  have hts := atoms_spec (ws := wsX1_requireAnswered) BL.pre
  have hown : s.vm.findClass RX1 = some m.cls := findClass_of_methodNamed BL.named
  have hlocks := BL.notSynchronized
  have hk_96 := hts (.classLink RX1 96 "java/util/NoSuchElementException") (by decide +kernel)
  have hi_96 := hts (.initialized "java/util/NoSuchElementException") (by decide +kernel)
  have hg_96 : ∀ w ∈ wsNSE.filter goodWord, w.before _ s = true := fun w h => hts w (List.mem_cons_of_mem _ (List.mem_append_left _ (List.mem_append_right _ h)))
  have hk_160 := hts (.classLink RX1 160 "java/lang/UnsupportedOperationException") (by decide +kernel)
  have hi_160 := hts (.initialized "java/lang/UnsupportedOperationException") (by decide +kernel)
  have hg_160 : ∀ w ∈ (vx_atS RX1 164 "java/lang/UnsupportedOperationException" xN).filter goodWord, w.before _ s = true := fun w h => hts w (List.mem_cons_of_mem _ (List.mem_append_left _ (List.mem_append_left _ (List.mem_append_right _ h))))
  have hl := lv_entry ([.ref (ax 0), .int (nI (x))]) (n := 3) (Nat.le_of_ble_eq_true rfl)
  rw [lg_entry_eq]
  generalize (lg_sl ([.ref (ax 0), .int (nI (x))]) ++ List.replicate (3 - (lg_sl ([.ref (ax 0), .int (nI (x))])).length) Slot.unset).toArray = ls at hl ⊢
  have hl : lv_has ls 3 [(0, .ref (ax 0)), (1, .int (nI (x)))] := hl
  have hn10 := hB.1
  obtain ⟨hxm, hxl, -⟩ := s_ln_t hB h_l
  refine lv_aload_n hx hb dX1_requireAnswered_0 rfl (lv_at hl 0 rfl) ?_
  refine lv_iload_n hx hb dX1_requireAnswered_1 rfl (lv_at hl 1 rfl) ?_
  refine ro_V (As := [.int (nI (x))]) (v := (bI (s_nw n B x))) ⟨hx, hb, hml, hown, hts⟩ (kX1_isNew l D cI cZ cA ax n B Q cn rt wd qf T x hB hQ h_x) (cwV 1 hts gX1_requireAnswered_X1_isNew rfl rfl rfl hdX1_isNew ⟨Nat.le_of_ble_eq_true rfl, Nat.le_of_ble_eq_true rfl⟩) hK hP (ci := 3) rfl (q0 := 0) rfl rfl rfl hl.1 rfl (Nat.le_of_ble_eq_true rfl) dX1_requireAnswered_2 ⟨Nat.le_of_ble_eq_true rfl, Nat.le_of_ble_eq_true rfl⟩ ?_
  refine y_ne (tgt := 18) hx hb dX1_requireAnswered_5 (by decide) (fun c_1 => ?_) (fun c_1 => ?_)
  · have hkn : s_knd n B (x / 8) (x % 8) = 110 := by have q := c_1; unfold s_nw at q; simpa [h_l] using q
    refine lv_aload_n hx hb dX1_requireAnswered_18 rfl (lv_at hl 0 rfl) ?_
    refine lv_iload_n hx hb dX1_requireAnswered_19 rfl (lv_at hl 1 rfl) ?_
    refine ro_V (As := [.int (nI (x))]) (v := (oI (s_an n B (x / 8) (x % 8)))) ⟨hx, hb, hml, hown, hts⟩ (kX1_answeredBy l D cI cZ cA ax n B Q cn rt wd qf T x hB hQ h_x h_l) (cwV 1 hts gX1_requireAnswered_X1_answeredBy rfl rfl rfl hdX1_answeredBy ⟨Nat.le_of_ble_eq_true rfl, Nat.le_of_ble_eq_true rfl⟩) hK hP (ci := 3) rfl (q0 := 0) rfl rfl rfl hl.1 rfl (Nat.le_of_ble_eq_true rfl) dX1_requireAnswered_20 ⟨Nat.le_of_ble_eq_true rfl, Nat.le_of_ble_eq_true rfl⟩ ?_
    refine lv_istore_n (lv' := [(2, .int (oI (s_an n B (x / 8) (x % 8)))), (0, .ref (ax 0)), (1, .int (nI (x)))]) hx hb dX1_requireAnswered_23 rfl hl (by decide) rfl (fun ls hl => ?_)
    refine lv_iload_n hx hb dX1_requireAnswered_24 rfl (lv_at hl 0 rfl) ?_
    refine lv_iconst (v := (oI (none))) hx hb dX1_requireAnswered_25 (by decide +kernel) ?_
    refine o_ne (tgt := 39) hx hb (fun k hk => by have := s_an_b hB hxm (by omega) k hk; omega) dX1_requireAnswered_26 (by decide) (fun kc_2 c_2 => ?_) (fun c_2 => ?_)
    · rw [c_2] at hl
      have hl : lv_has ls 3 [(2, .int (nI (kc_2))), (0, .ref (ax 0)), (1, .int (nI (x)))] := hl
      refine lv_iload_n hx hb dX1_requireAnswered_39 rfl (lv_at hl 0 rfl) ?_
      refine vx_ret ?_
      refine W.widen (k := 1) (n := 6) (Nat.le_of_ble_eq_true rfl) (Nat.le_of_ble_eq_true rfl) ?_
      exact W.iret (v := (nI (kc_2))) hx hb hr (fun t ht hW => ⟨_, rfl, ⟨(by first | rfl | (simp [oI_s, bI_t, bI_f, s_ocode, c_1, hkn, c_2]; done) | (simp [oI_s, bI_t, bI_f, s_ocode, c_1, hkn, c_2]; omega) | (simp only [s_ocode]; (repeat' split) <;> first | rfl | omega | (simp_all; done) | (simp_all; omega))), (by simp [s_ocode, c_1, hkn, c_2])⟩, ht⟩) (fun _ h => nomatch h) dX1_requireAnswered_40
    rw [c_2] at hl
    have hl : lv_has ls 3 [(2, .int (oI (none))), (0, .ref (ax 0)), (1, .int (nI (x)))] := hl
    exact x_thrN hx hb hfl hown xf_NSE hk_96 hi_96 hg_96 xb_NSE (by decide +kernel) hE (is := 193) (text := "the line answers none") (by decide +kernel) (hl.1.trans hml.symm) dX1_requireAnswered_29 dX1_requireAnswered_32 dX1_requireAnswered_33 dX1_requireAnswered_35 dX1_requireAnswered_38 hno (Nat.le_of_ble_eq_true rfl) (Nat.le_of_ble_eq_true rfl) (Nat.le_of_ble_eq_true rfl) (Nat.le_of_ble_eq_true rfl) hlocks (by simp [s_ocode, c_1, hkn, c_2]) (Nat.le_of_ble_eq_true rfl) (Nat.le_of_ble_eq_true rfl)
  have hkn : ¬ s_knd n B (x / 8) (x % 8) = 110 := by have q := c_1; unfold s_nw at q; simpa [h_l] using q
  exact x_thr hx hb hfl hown xf_UOE hk_160 hi_160 hg_160 xb_UOE (by decide +kernel) hE (is := 191) (text := "the line is not new") (by decide +kernel) (hl.1.trans hml.symm) dX1_requireAnswered_8 dX1_requireAnswered_11 dX1_requireAnswered_12 dX1_requireAnswered_14 dX1_requireAnswered_17 hno (Nat.le_of_ble_eq_true rfl) (Nat.le_of_ble_eq_true rfl) (Nat.le_of_ble_eq_true rfl) (Nat.le_of_ble_eq_true rfl) hlocks (by simp [s_ocode, c_1, hkn]) (Nat.le_of_ble_eq_true rfl) (Nat.le_of_ble_eq_true rfl)
theorem hdX1_requireAnswered : yX1_requireAnswered.cls = RX1 ∧ yX1_requireAnswered.cls ≠ "java/lang/invoke/MethodHandle" ∧ yX1_requireAnswered.cls ≠ "java/lang/invoke/VarHandle" ∧ (parseMethodDescriptor yX1_requireAnswered.desc).map (fun d => d.parameters.length) = some 1 := by decide +kernel
set_option maxHeartbeats 4000000 in
set_option maxRecDepth 100000 in
theorem kX1_answersMail (l : Launch) (hfl : l.stackTraces = false) (D : va_G) (cI cZ cA : ClassId) (ax : Nat → Nat) (n : Nat) (B : Nat → Nat → Nat) (Q : Nat → Option Nat) (cn : Nat → Bool) (rt : Nat → Nat) (wd : Nat → Option Nat) (qf : Nat → Option Nat) (T : Nat → Nat → Nat) (u : Int32) (w : Int32) (hB : Bok n B) (hQ : QA n B Q) : vx_Met l yX1_answersMail wsX1_answersMail ({ frames := 8, cells := 3, slots := 18, locals := 136 }) (PcX D [(cI, .int), (cZ, .boolean), (cA, .array .int)] (wX cI cZ cA ax n B Q cn rt wd qf T) [.ref (ax 0), .int (u), .int (w)]) (vp_Si (fun r => r = (nI ((s_ans n B u w).2 / 8)) ∧ (s_ans n B u w).1 = 0)) (XCf (fun E => (E = "java/lang/IndexOutOfBoundsException" ∧ (s_ans n B u w).1 = 1) ∨ (E = "java/lang/UnsupportedOperationException" ∧ (s_ans n B u w).1 = 2) ∨ (E = "java/util/NoSuchElementException" ∧ (s_ans n B u w).1 = 3))) 3 18 (fun _ => False) := by
  refine vx_ofW (cc := cX1_answersMail) (maxL := 3) (ret := (some .int)) (by decide) rfl ?_
  intro p e s m args below meth c s₁ BL hml hno hv
  obtain ⟨rfl, hP, hK, hE⟩ := hv
  have hx := BL.exec
  have hb := BL.bytes
  have hr := BL.returns
  have hts := atoms_spec (ws := wsX1_answersMail) BL.pre
  have hown : s.vm.findClass RX1 = some m.cls := findClass_of_methodNamed BL.named
  have hlocks := BL.notSynchronized
  have hl := lv_entry ([.ref (ax 0), .int (u), .int (w)]) (n := 3) (Nat.le_of_ble_eq_true rfl)
  rw [lg_entry_eq]
  generalize (lg_sl ([.ref (ax 0), .int (u), .int (w)]) ++ List.replicate (3 - (lg_sl ([.ref (ax 0), .int (u), .int (w)])).length) Slot.unset).toArray = ls at hl ⊢
  have hl : lv_has ls 3 [(0, .ref (ax 0)), (1, .int (u)), (2, .int (w))] := hl
  have hn10 := hB.1
  refine lv_aload_n hx hb dX1_answersMail_0 rfl (lv_at hl 0 rfl) ?_
  refine lv_iload_n hx hb dX1_answersMail_1 rfl (lv_at hl 1 rfl) ?_
  refine lv_iload_n hx hb dX1_answersMail_2 rfl (lv_at hl 2 rfl) ?_
  refine xr_Vv (As := [.int (u), .int (w)]) ⟨hx, hb, hml, hown, hts⟩ (kX1_requireLine l hfl D cI cZ cA ax n B Q cn rt wd qf T (u) (w) hB) (cwV 2 hts gX1_answersMail_X1_requireLine rfl rfl rfl hdX1_requireLine ⟨Nat.le_of_ble_eq_true rfl, Nat.le_of_ble_eq_true rfl⟩) hK hP hE (ci := 3) rfl (q0 := 0) rfl rfl rfl hl.1 rfl (Nat.le_of_ble_eq_true rfl) dX1_answersMail_3 ⟨Nat.le_of_ble_eq_true rfl, Nat.le_of_ble_eq_true rfl⟩ hno hlocks (fun E h => Or.inl ⟨h.1, by simp [s_ans, h.2]⟩) (Nat.le_of_ble_eq_true rfl) (Nat.le_of_ble_eq_true rfl) (fun h_1 => ?_)
  obtain ⟨k_u, k_w, hk_u, hk_w, rfl, rfl⟩ := s_isl_t hB h_1
  have h8_u := hB.2.2.1 k_u
  have hc_k_u : (nI k_u).toNatClampNeg = k_u := nI_clamp (by omega)
  have hc_k_w : (nI k_w).toNatClampNeg = k_w := nI_clamp (by omega)
  have hd8 : (8 * k_u + k_w) / 8 = k_u := by omega
  have hm8 : (8 * k_u + k_w) % 8 = k_w := by omega
  have hll : s_ln B (8 * k_u + k_w) = true := by unfold s_ln; rw [hd8, hm8]; exact decide_eq_true hk_w
  refine lv_aload_n hx hb dX1_answersMail_6 rfl (lv_at hl 0 rfl) ?_
  refine lv_iload_n hx hb dX1_answersMail_7 rfl (lv_at hl 1 rfl) ?_
  refine lv_iload_n hx hb dX1_answersMail_8 rfl (lv_at hl 2 rfl) ?_
  refine ro_S (As := [.int (nI (k_u)), .int (nI (k_w))]) (v := (nI (8 * k_u + k_w))) ⟨hx, hb, hml, hown, hts⟩ (kX1_placeOf l k_u k_w (by omega) (by omega)) (va_cwS 2 hts gX1_answersMail_X1_placeOf rfl rfl rfl hsX1_placeOf ⟨Nat.le_of_ble_eq_true rfl, Nat.le_of_ble_eq_true rfl⟩) rfl hl.1 rfl (Nat.le_of_ble_eq_true rfl) dX1_answersMail_9 ⟨Nat.le_of_ble_eq_true rfl, Nat.le_of_ble_eq_true rfl⟩ ?_
  refine xr_Vi (As := [.int (nI (8 * k_u + k_w))]) ⟨hx, hb, hml, hown, hts⟩ (kX1_requireAnswered l hfl D cI cZ cA ax n B Q cn rt wd qf T (8 * k_u + k_w) hB hQ (by omega) (by omega)) (cwV 1 hts gX1_answersMail_X1_requireAnswered rfl rfl rfl hdX1_requireAnswered ⟨Nat.le_of_ble_eq_true rfl, Nat.le_of_ble_eq_true rfl⟩) hK hP hE (ci := 3) rfl (q0 := 0) rfl rfl rfl hl.1 rfl (Nat.le_of_ble_eq_true rfl) dX1_answersMail_12 ⟨Nat.le_of_ble_eq_true rfl, Nat.le_of_ble_eq_true rfl⟩ hno hlocks (fun E h => Or.inr (h.elim (fun q => Or.inl ⟨q.1, by have q2 := q.2; rw [hd8, hm8] at q2; simp [s_ans, h_1, hc_k_u, hc_k_w, q2]⟩) (fun q => Or.inr ⟨q.1, by have q2 := q.2; rw [hd8, hm8] at q2; simp [s_ans, s_ocode, h_1, hc_k_u, hc_k_w, q2.1, q2.2]⟩))) (Nat.le_of_ble_eq_true rfl) (Nat.le_of_ble_eq_true rfl) (fun h_2 => ?_)
  have hab := s_ans_b hB (u := nI k_u) (w := nI k_w)
  have hae : (s_ocode 3 (s_an n B ((8 * k_u + k_w) / 8) ((8 * k_u + k_w) % 8))).2 = (s_ans n B (nI k_u) (nI k_w)).2 ∧ (s_ans n B (nI k_u) (nI k_w)).1 = 0 := by have q := h_2; rw [hd8, hm8] at q ⊢; simp [s_ans, h_1, hc_k_u, hc_k_w, q.1, q.2]
  refine ro_S (As := [.int (nI ((s_ocode 3 (s_an n B ((8 * k_u + k_w) / 8) ((8 * k_u + k_w) % 8))).2))]) (v := (nI (((s_ocode 3 (s_an n B ((8 * k_u + k_w) / 8) ((8 * k_u + k_w) % 8))).2) / 8))) ⟨hx, hb, hml, hown, hts⟩ (kX1_mailAt l (s_ocode 3 (s_an n B ((8 * k_u + k_w) / 8) ((8 * k_u + k_w) % 8))).2 (by omega)) (va_cwS 1 hts gX1_answersMail_X1_mailAt rfl rfl rfl hsX1_mailAt ⟨Nat.le_of_ble_eq_true rfl, Nat.le_of_ble_eq_true rfl⟩) rfl hl.1 rfl (Nat.le_of_ble_eq_true rfl) dX1_answersMail_15 ⟨Nat.le_of_ble_eq_true rfl, Nat.le_of_ble_eq_true rfl⟩ ?_
  refine vx_ret ?_
  refine W.widen (k := 3) (n := 18) (Nat.le_of_ble_eq_true rfl) (Nat.le_of_ble_eq_true rfl) ?_
  exact W.iret (v := (nI (((s_ocode 3 (s_an n B ((8 * k_u + k_w) / 8) ((8 * k_u + k_w) % 8))).2) / 8))) hx hb hr (fun t ht hW => ⟨_, rfl, ⟨(by rw [hae.1]), (hae.2)⟩, ht⟩) (fun _ h => nomatch h) dX1_answersMail_18
theorem hdX1_answersMail : yX1_answersMail.cls = RX1 ∧ yX1_answersMail.cls ≠ "java/lang/invoke/MethodHandle" ∧ yX1_answersMail.cls ≠ "java/lang/invoke/VarHandle" ∧ (parseMethodDescriptor yX1_answersMail.desc).map (fun d => d.parameters.length) = some 2 := by decide +kernel
set_option maxHeartbeats 4000000 in
set_option maxRecDepth 100000 in
theorem kX1_answersLine (l : Launch) (hfl : l.stackTraces = false) (D : va_G) (cI cZ cA : ClassId) (ax : Nat → Nat) (n : Nat) (B : Nat → Nat → Nat) (Q : Nat → Option Nat) (cn : Nat → Bool) (rt : Nat → Nat) (wd : Nat → Option Nat) (qf : Nat → Option Nat) (T : Nat → Nat → Nat) (u : Int32) (w : Int32) (hB : Bok n B) (hQ : QA n B Q) : vx_Met l yX1_answersLine wsX1_answersLine ({ frames := 8, cells := 3, slots := 18, locals := 136 }) (PcX D [(cI, .int), (cZ, .boolean), (cA, .array .int)] (wX cI cZ cA ax n B Q cn rt wd qf T) [.ref (ax 0), .int (u), .int (w)]) (vp_Si (fun r => r = (nI ((s_ans n B u w).2 % 8)) ∧ (s_ans n B u w).1 = 0)) (XCf (fun E => (E = "java/lang/IndexOutOfBoundsException" ∧ (s_ans n B u w).1 = 1) ∨ (E = "java/lang/UnsupportedOperationException" ∧ (s_ans n B u w).1 = 2) ∨ (E = "java/util/NoSuchElementException" ∧ (s_ans n B u w).1 = 3))) 3 18 (fun _ => False) := by
  refine vx_ofW (cc := cX1_answersLine) (maxL := 3) (ret := (some .int)) (by decide) rfl ?_
  intro p e s m args below meth c s₁ BL hml hno hv
  obtain ⟨rfl, hP, hK, hE⟩ := hv
  have hx := BL.exec
  have hb := BL.bytes
  have hr := BL.returns
  have hts := atoms_spec (ws := wsX1_answersLine) BL.pre
  have hown : s.vm.findClass RX1 = some m.cls := findClass_of_methodNamed BL.named
  have hlocks := BL.notSynchronized
  have hl := lv_entry ([.ref (ax 0), .int (u), .int (w)]) (n := 3) (Nat.le_of_ble_eq_true rfl)
  rw [lg_entry_eq]
  generalize (lg_sl ([.ref (ax 0), .int (u), .int (w)]) ++ List.replicate (3 - (lg_sl ([.ref (ax 0), .int (u), .int (w)])).length) Slot.unset).toArray = ls at hl ⊢
  have hl : lv_has ls 3 [(0, .ref (ax 0)), (1, .int (u)), (2, .int (w))] := hl
  have hn10 := hB.1
  refine lv_aload_n hx hb dX1_answersLine_0 rfl (lv_at hl 0 rfl) ?_
  refine lv_iload_n hx hb dX1_answersLine_1 rfl (lv_at hl 1 rfl) ?_
  refine lv_iload_n hx hb dX1_answersLine_2 rfl (lv_at hl 2 rfl) ?_
  refine xr_Vv (As := [.int (u), .int (w)]) ⟨hx, hb, hml, hown, hts⟩ (kX1_requireLine l hfl D cI cZ cA ax n B Q cn rt wd qf T (u) (w) hB) (cwV 2 hts gX1_answersLine_X1_requireLine rfl rfl rfl hdX1_requireLine ⟨Nat.le_of_ble_eq_true rfl, Nat.le_of_ble_eq_true rfl⟩) hK hP hE (ci := 3) rfl (q0 := 0) rfl rfl rfl hl.1 rfl (Nat.le_of_ble_eq_true rfl) dX1_answersLine_3 ⟨Nat.le_of_ble_eq_true rfl, Nat.le_of_ble_eq_true rfl⟩ hno hlocks (fun E h => Or.inl ⟨h.1, by simp [s_ans, h.2]⟩) (Nat.le_of_ble_eq_true rfl) (Nat.le_of_ble_eq_true rfl) (fun h_1 => ?_)
  obtain ⟨k_u, k_w, hk_u, hk_w, rfl, rfl⟩ := s_isl_t hB h_1
  have h8_u := hB.2.2.1 k_u
  have hc_k_u : (nI k_u).toNatClampNeg = k_u := nI_clamp (by omega)
  have hc_k_w : (nI k_w).toNatClampNeg = k_w := nI_clamp (by omega)
  have hd8 : (8 * k_u + k_w) / 8 = k_u := by omega
  have hm8 : (8 * k_u + k_w) % 8 = k_w := by omega
  have hll : s_ln B (8 * k_u + k_w) = true := by unfold s_ln; rw [hd8, hm8]; exact decide_eq_true hk_w
  refine lv_aload_n hx hb dX1_answersLine_6 rfl (lv_at hl 0 rfl) ?_
  refine lv_iload_n hx hb dX1_answersLine_7 rfl (lv_at hl 1 rfl) ?_
  refine lv_iload_n hx hb dX1_answersLine_8 rfl (lv_at hl 2 rfl) ?_
  refine ro_S (As := [.int (nI (k_u)), .int (nI (k_w))]) (v := (nI (8 * k_u + k_w))) ⟨hx, hb, hml, hown, hts⟩ (kX1_placeOf l k_u k_w (by omega) (by omega)) (va_cwS 2 hts gX1_answersLine_X1_placeOf rfl rfl rfl hsX1_placeOf ⟨Nat.le_of_ble_eq_true rfl, Nat.le_of_ble_eq_true rfl⟩) rfl hl.1 rfl (Nat.le_of_ble_eq_true rfl) dX1_answersLine_9 ⟨Nat.le_of_ble_eq_true rfl, Nat.le_of_ble_eq_true rfl⟩ ?_
  refine xr_Vi (As := [.int (nI (8 * k_u + k_w))]) ⟨hx, hb, hml, hown, hts⟩ (kX1_requireAnswered l hfl D cI cZ cA ax n B Q cn rt wd qf T (8 * k_u + k_w) hB hQ (by omega) (by omega)) (cwV 1 hts gX1_answersLine_X1_requireAnswered rfl rfl rfl hdX1_requireAnswered ⟨Nat.le_of_ble_eq_true rfl, Nat.le_of_ble_eq_true rfl⟩) hK hP hE (ci := 3) rfl (q0 := 0) rfl rfl rfl hl.1 rfl (Nat.le_of_ble_eq_true rfl) dX1_answersLine_12 ⟨Nat.le_of_ble_eq_true rfl, Nat.le_of_ble_eq_true rfl⟩ hno hlocks (fun E h => Or.inr (h.elim (fun q => Or.inl ⟨q.1, by have q2 := q.2; rw [hd8, hm8] at q2; simp [s_ans, h_1, hc_k_u, hc_k_w, q2]⟩) (fun q => Or.inr ⟨q.1, by have q2 := q.2; rw [hd8, hm8] at q2; simp [s_ans, s_ocode, h_1, hc_k_u, hc_k_w, q2.1, q2.2]⟩))) (Nat.le_of_ble_eq_true rfl) (Nat.le_of_ble_eq_true rfl) (fun h_2 => ?_)
  have hab := s_ans_b hB (u := nI k_u) (w := nI k_w)
  have hae : (s_ocode 3 (s_an n B ((8 * k_u + k_w) / 8) ((8 * k_u + k_w) % 8))).2 = (s_ans n B (nI k_u) (nI k_w)).2 ∧ (s_ans n B (nI k_u) (nI k_w)).1 = 0 := by have q := h_2; rw [hd8, hm8] at q ⊢; simp [s_ans, h_1, hc_k_u, hc_k_w, q.1, q.2]
  refine ro_S (As := [.int (nI ((s_ocode 3 (s_an n B ((8 * k_u + k_w) / 8) ((8 * k_u + k_w) % 8))).2))]) (v := (nI (((s_ocode 3 (s_an n B ((8 * k_u + k_w) / 8) ((8 * k_u + k_w) % 8))).2) % 8))) ⟨hx, hb, hml, hown, hts⟩ (kX1_lineAt l (s_ocode 3 (s_an n B ((8 * k_u + k_w) / 8) ((8 * k_u + k_w) % 8))).2 (by omega)) (va_cwS 1 hts gX1_answersLine_X1_lineAt rfl rfl rfl hsX1_lineAt ⟨Nat.le_of_ble_eq_true rfl, Nat.le_of_ble_eq_true rfl⟩) rfl hl.1 rfl (Nat.le_of_ble_eq_true rfl) dX1_answersLine_15 ⟨Nat.le_of_ble_eq_true rfl, Nat.le_of_ble_eq_true rfl⟩ ?_
  refine vx_ret ?_
  refine W.widen (k := 3) (n := 18) (Nat.le_of_ble_eq_true rfl) (Nat.le_of_ble_eq_true rfl) ?_
  exact W.iret (v := (nI (((s_ocode 3 (s_an n B ((8 * k_u + k_w) / 8) ((8 * k_u + k_w) % 8))).2) % 8))) hx hb hr (fun t ht hW => ⟨_, rfl, ⟨(by rw [hae.1]), (hae.2)⟩, ht⟩) (fun _ h => nomatch h) dX1_answersLine_18
theorem hdX1_answersLine : yX1_answersLine.cls = RX1 ∧ yX1_answersLine.cls ≠ "java/lang/invoke/MethodHandle" ∧ yX1_answersLine.cls ≠ "java/lang/invoke/VarHandle" ∧ (parseMethodDescriptor yX1_answersLine.desc).map (fun d => d.parameters.length) = some 2 := by decide +kernel
set_option maxHeartbeats 4000000 in
set_option maxRecDepth 100000 in
theorem kX1_answers (l : Launch) (hfl : l.stackTraces = false) (D : va_G) (cI cZ cA : ClassId) (ax : Nat → Nat) (n : Nat) (B : Nat → Nat → Nat) (Q : Nat → Option Nat) (cn : Nat → Bool) (rt : Nat → Nat) (wd : Nat → Option Nat) (qf : Nat → Option Nat) (T : Nat → Nat → Nat) (u : Int32) (w : Int32) (hB : Bok n B) (hQ : QA n B Q) : vx_Met l yX1_answers wsX1_answers ({ frames := 8, cells := 2, slots := 12, locals := 125 }) (PcX D [(cI, .int), (cZ, .boolean), (cA, .array .int)] (wX cI cZ cA ax n B Q cn rt wd qf T) [.ref (ax 0), .int (u), .int (w)]) (vp_Si (fun r => r = (nI ((s_asn n B u w).2)) ∧ (s_asn n B u w).1 = 0)) (XCf (fun E => (E = "java/lang/IndexOutOfBoundsException" ∧ (s_asn n B u w).1 = 1))) 2 12 (fun _ => False) := by
  refine vx_ofW (cc := cX1_answers) (maxL := 6) (ret := (some .int)) (by decide) rfl ?_
  intro p e s m args below meth c s₁ BL hml hno hv
  obtain ⟨rfl, hP, hK, hE⟩ := hv
  have hx := BL.exec
  have hb := BL.bytes
  have hr := BL.returns
  have hts := atoms_spec (ws := wsX1_answers) BL.pre
  have hown : s.vm.findClass RX1 = some m.cls := findClass_of_methodNamed BL.named
  have hlocks := BL.notSynchronized
  have hl := lv_entry ([.ref (ax 0), .int (u), .int (w)]) (n := 6) (Nat.le_of_ble_eq_true rfl)
  rw [lg_entry_eq]
  generalize (lg_sl ([.ref (ax 0), .int (u), .int (w)]) ++ List.replicate (6 - (lg_sl ([.ref (ax 0), .int (u), .int (w)])).length) Slot.unset).toArray = ls at hl ⊢
  have hl : lv_has ls 6 [(0, .ref (ax 0)), (1, .int (u)), (2, .int (w))] := hl
  have hn10 := hB.1
  refine lv_aload_n hx hb dX1_answers_0 rfl (lv_at hl 0 rfl) ?_
  refine lv_iload_n hx hb dX1_answers_1 rfl (lv_at hl 1 rfl) ?_
  refine lv_iload_n hx hb dX1_answers_2 rfl (lv_at hl 2 rfl) ?_
  refine xr_Vv (As := [.int (u), .int (w)]) ⟨hx, hb, hml, hown, hts⟩ (kX1_requireLine l hfl D cI cZ cA ax n B Q cn rt wd qf T (u) (w) hB) (cwV 2 hts gX1_answers_X1_requireLine rfl rfl rfl hdX1_requireLine ⟨Nat.le_of_ble_eq_true rfl, Nat.le_of_ble_eq_true rfl⟩) hK hP hE (ci := 3) rfl (q0 := 0) rfl rfl rfl hl.1 rfl (Nat.le_of_ble_eq_true rfl) dX1_answers_3 ⟨Nat.le_of_ble_eq_true rfl, Nat.le_of_ble_eq_true rfl⟩ hno hlocks (fun E h => ⟨h.1, by simp [s_asn, h.2]⟩) (Nat.le_of_ble_eq_true rfl) (Nat.le_of_ble_eq_true rfl) (fun h_1 => ?_)
  obtain ⟨k_u, k_w, hk_u, hk_w, rfl, rfl⟩ := s_isl_t hB h_1
  have h8_u := hB.2.2.1 k_u
  have hc_k_u : (nI k_u).toNatClampNeg = k_u := nI_clamp (by omega)
  have hc_k_w : (nI k_w).toNatClampNeg = k_w := nI_clamp (by omega)
  have hd8 : (8 * k_u + k_w) / 8 = k_u := by omega
  have hm8 : (8 * k_u + k_w) % 8 = k_w := by omega
  have hll : s_ln B (8 * k_u + k_w) = true := by unfold s_ln; rw [hd8, hm8]; exact decide_eq_true hk_w
  refine lv_iload_n hx hb dX1_answers_6 rfl (lv_at hl 1 rfl) ?_
  refine lv_iload_n hx hb dX1_answers_7 rfl (lv_at hl 2 rfl) ?_
  refine ro_S (As := [.int (nI (k_u)), .int (nI (k_w))]) (v := (nI (8 * k_u + k_w))) ⟨hx, hb, hml, hown, hts⟩ (kX1_placeOf l k_u k_w (by omega) (by omega)) (va_cwS 2 hts gX1_answers_X1_placeOf rfl rfl rfl hsX1_placeOf ⟨Nat.le_of_ble_eq_true rfl, Nat.le_of_ble_eq_true rfl⟩) rfl hl.1 rfl (Nat.le_of_ble_eq_true rfl) dX1_answers_8 ⟨Nat.le_of_ble_eq_true rfl, Nat.le_of_ble_eq_true rfl⟩ ?_
  refine lv_istore_n (lv' := [(3, .int (nI (8 * k_u + k_w))), (0, .ref (ax 0)), (1, .int (nI (k_u))), (2, .int (nI (k_w)))]) hx hb dX1_answers_11 rfl hl (by decide) rfl (fun ls hl => ?_)
  refine lv_iconst (v := (nI (0))) hx hb dX1_answers_12 (by decide +kernel) ?_
  refine lv_istore (lv' := [(4, .int (nI (0))), (3, .int (nI (8 * k_u + k_w))), (0, .ref (ax 0)), (1, .int (nI (k_u))), (2, .int (nI (k_w)))]) hx hb dX1_answers_13 hl (by decide) rfl (fun ls hl => ?_)
  refine lv_iconst (v := (nI (0))) hx hb dX1_answers_15 (by decide +kernel) ?_
  refine lv_istore (lv' := [(5, .int (nI (0))), (4, .int (nI (0))), (3, .int (nI (8 * k_u + k_w))), (0, .ref (ax 0)), (1, .int (nI (k_u))), (2, .int (nI (k_w)))]) hx hb dX1_answers_16 hl (by decide) rfl (fun ls hl => ?_)
  have loop_18 : ∀ (N : Nat) (z : Nat), 80 - z < N → (z ≤ 80) → ∀ (ls : Array Slot), lv_has ls 6 [(0, .ref (ax 0)), (1, .int (nI (k_u))), (2, .int (nI (k_w))), (3, .int (nI (8 * k_u + k_w))), (4, .int (nI (ct (s_awp n B (8 * k_u + k_w)) z))), (5, .int (nI (z)))] → W p l e (headSpec wsX1_answers ({ frames := 8, cells := 2, slots := 12, locals := 125 })).room s m ([.ref (ax 0), .int (nI k_u), .int (nI k_w)] : List Value).toArray below meth c s.heap [] 2 12 (vx_MQ below (vp_Si (fun r => r = (nI ((s_asn n B (nI k_u) (nI k_w)).2)) ∧ (s_asn n B (nI k_u) (nI k_w)).1 = 0)) (XCf (fun E => (E = "java/lang/IndexOutOfBoundsException" ∧ (s_asn n B (nI k_u) (nI k_w)).1 = 1))) ([.ref (ax 0), .int (nI k_u), .int (nI k_w)] : List Value).toArray s 2 12 (fun _ => False)) (F0 m 18 ls []) := by
    intro N
    induction N with
    | zero => intro z hmu; exact absurd hmu (Nat.not_lt_zero _)
    | succ N ih_18 =>
      intro z hmu_18 h_z ls hl
      refine lv_iload hx hb dX1_answers_18 (lv_at hl 5 rfl) ?_
      refine lv_bipush (v := (nI (80))) hx hb dX1_answers_20 (by decide +kernel) ?_
      refine n_ge (tgt := 53) hx hb (by omega) (by omega) dX1_answers_22 (by decide) (fun c_2 => ?_) (fun c_2 => ?_)
      · have hz80 : 80 = z := by omega
        refine lv_iload hx hb dX1_answers_53 (lv_at hl 4 rfl) ?_
        refine vx_ret ?_
        refine W.widen (k := 2) (n := 12) (Nat.le_of_ble_eq_true rfl) (Nat.le_of_ble_eq_true rfl) ?_
        exact W.iret (v := (nI (ct (s_awp n B (8 * k_u + k_w)) z))) hx hb hr (fun t ht hW => ⟨_, rfl, ⟨(by simp only [s_asn, h_1, hc_k_u, hc_k_w, hd8, hm8, c_2, Nat.not_lt.mpr c_2, if_true]; rw [← s_awp_s hB, hz80]), (by simp [s_asn, h_1])⟩, ht⟩) (fun _ h => nomatch h) dX1_answers_55
      refine lv_aload_n hx hb dX1_answers_25 rfl (lv_at hl 0 rfl) ?_
      refine lv_iload hx hb dX1_answers_26 (lv_at hl 5 rfl) ?_
      refine ro_V (As := [.int (nI (z))]) (v := (bI (s_nw n B z))) ⟨hx, hb, hml, hown, hts⟩ (kX1_isNew l D cI cZ cA ax n B Q cn rt wd qf T z hB hQ (by omega)) (cwV 1 hts gX1_answers_X1_isNew rfl rfl rfl hdX1_isNew ⟨Nat.le_of_ble_eq_true rfl, Nat.le_of_ble_eq_true rfl⟩) hK hP (ci := 3) rfl (q0 := 0) rfl rfl rfl hl.1 rfl (Nat.le_of_ble_eq_true rfl) dX1_answers_28 ⟨Nat.le_of_ble_eq_true rfl, Nat.le_of_ble_eq_true rfl⟩ ?_
      refine y_eq (tgt := 47) hx hb dX1_answers_31 (by decide) (fun c_3 => ?_) (fun c_3 => ?_)
      · refine lv_iinc (v := (nI (z + 1))) (lv' := [(5, .int (nI (z + 1))), (0, .ref (ax 0)), (1, .int (nI (k_u))), (2, .int (nI (k_w))), (3, .int (nI (8 * k_u + k_w))), (4, .int (nI (ct (s_awp n B (8 * k_u + k_w)) z)))]) hx hb dX1_answers_47 hl (k := 5) rfl (nI_1 _) (by decide) rfl (fun ls hl => ?_)
        refine lv_goto (tgt := 18) hx hb dX1_answers_50 (by decide) ?_
        have e_4 : ((nI (ct (s_awp n B (8 * k_u + k_w)) z)) : Int32) = (nI (ct (s_awp n B (8 * k_u + k_w)) (z + 1))) := by exact congrArg nI (by first | (rw [ct_t (by unfold s_awp; simp [h_1, hc_k_u, hc_k_w, hd8, hm8, c_2, c_3, Nat.not_le.mp c_2])]; done) | (rw [ct_f (by unfold s_awp; simp [h_1, hc_k_u, hc_k_w, hd8, hm8, c_2, c_3, Nat.not_le.mp c_2])]; done))
        exact ih_18 (z + 1) (by omega) (by omega) _ (show lv_has ls 6 [(0, .ref (ax 0)), (1, .int (nI (k_u))), (2, .int (nI (k_w))), (3, .int (nI (8 * k_u + k_w))), (4, .int (nI (ct (s_awp n B (8 * k_u + k_w)) (z + 1)))), (5, .int (nI (z + 1)))] from by rw [← e_4]; exact lv_sub hl [1, 2, 3, 4, 5, 0] rfl)
      obtain ⟨hzm, hzl, -⟩ := s_ln_t hB (x := z) (by have q := c_3; first | exact q | (unfold s_nw at q; simp at q; exact q.1))
      have hzln : s_ln B z = true := by have q := c_3; first | exact q | (unfold s_nw at q; simp at q; exact q.1)
      refine lv_aload_n hx hb dX1_answers_34 rfl (lv_at hl 0 rfl) ?_
      refine lv_iload hx hb dX1_answers_35 (lv_at hl 5 rfl) ?_
      refine ro_V (As := [.int (nI (z))]) (v := (oI (s_an n B (z / 8) (z % 8)))) ⟨hx, hb, hml, hown, hts⟩ (kX1_answeredBy l D cI cZ cA ax n B Q cn rt wd qf T z hB hQ (by omega) (by omega)) (cwV 1 hts gX1_answers_X1_answeredBy rfl rfl rfl hdX1_answeredBy ⟨Nat.le_of_ble_eq_true rfl, Nat.le_of_ble_eq_true rfl⟩) hK hP (ci := 3) rfl (q0 := 0) rfl rfl rfl hl.1 rfl (Nat.le_of_ble_eq_true rfl) dX1_answers_37 ⟨Nat.le_of_ble_eq_true rfl, Nat.le_of_ble_eq_true rfl⟩ ?_
      refine lv_iload_n hx hb dX1_answers_40 rfl (lv_at hl 3 rfl) ?_
      refine p_ne (tgt := 47) hx hb (fun k hk => by have := s_an_b hB hzm (by omega) k hk; omega) (by omega) dX1_answers_41 (by decide) (fun c_5 => ?_) (fun c_5 => ?_)
      · refine lv_iinc (v := (nI (z + 1))) (lv' := [(5, .int (nI (z + 1))), (0, .ref (ax 0)), (1, .int (nI (k_u))), (2, .int (nI (k_w))), (3, .int (nI (8 * k_u + k_w))), (4, .int (nI (ct (s_awp n B (8 * k_u + k_w)) z)))]) hx hb dX1_answers_47 hl (k := 5) rfl (nI_1 _) (by decide) rfl (fun ls hl => ?_)
        refine lv_goto (tgt := 18) hx hb dX1_answers_50 (by decide) ?_
        have e_6 : ((nI (ct (s_awp n B (8 * k_u + k_w)) z)) : Int32) = (nI (ct (s_awp n B (8 * k_u + k_w)) (z + 1))) := by exact congrArg nI (by first | (rw [ct_t (by unfold s_awp; simp [h_1, hc_k_u, hc_k_w, hd8, hm8, c_2, c_3, c_5, Nat.not_le.mp c_2])]; done) | (rw [ct_f (by unfold s_awp; simp [h_1, hc_k_u, hc_k_w, hd8, hm8, c_2, c_3, c_5, Nat.not_le.mp c_2])]; done))
        exact ih_18 (z + 1) (by omega) (by omega) _ (show lv_has ls 6 [(0, .ref (ax 0)), (1, .int (nI (k_u))), (2, .int (nI (k_w))), (3, .int (nI (8 * k_u + k_w))), (4, .int (nI (ct (s_awp n B (8 * k_u + k_w)) (z + 1)))), (5, .int (nI (z + 1)))] from by rw [← e_6]; exact lv_sub hl [1, 2, 3, 4, 5, 0] rfl)
      refine lv_iinc (v := (nI (ct (s_awp n B (8 * k_u + k_w)) z + 1))) (lv' := [(4, .int (nI (ct (s_awp n B (8 * k_u + k_w)) z + 1))), (0, .ref (ax 0)), (1, .int (nI (k_u))), (2, .int (nI (k_w))), (3, .int (nI (8 * k_u + k_w))), (5, .int (nI (z)))]) hx hb dX1_answers_44 hl (k := 4) rfl (nI_1 _) (by decide) rfl (fun ls hl => ?_)
      refine lv_iinc (v := (nI (z + 1))) (lv' := [(5, .int (nI (z + 1))), (4, .int (nI (ct (s_awp n B (8 * k_u + k_w)) z + 1))), (0, .ref (ax 0)), (1, .int (nI (k_u))), (2, .int (nI (k_w))), (3, .int (nI (8 * k_u + k_w)))]) hx hb dX1_answers_47 hl (k := 5) rfl (nI_1 _) (by decide) rfl (fun ls hl => ?_)
      refine lv_goto (tgt := 18) hx hb dX1_answers_50 (by decide) ?_
      have e_7 : ((nI (ct (s_awp n B (8 * k_u + k_w)) z + 1)) : Int32) = (nI (ct (s_awp n B (8 * k_u + k_w)) (z + 1))) := by exact congrArg nI (by first | (rw [ct_t (by unfold s_awp; simp [h_1, hc_k_u, hc_k_w, hd8, hm8, c_2, c_3, c_5, Nat.not_le.mp c_2])]; done) | (rw [ct_f (by unfold s_awp; simp [h_1, hc_k_u, hc_k_w, hd8, hm8, c_2, c_3, c_5, Nat.not_le.mp c_2])]; done))
      exact ih_18 (z + 1) (by omega) (by omega) _ (show lv_has ls 6 [(0, .ref (ax 0)), (1, .int (nI (k_u))), (2, .int (nI (k_w))), (3, .int (nI (8 * k_u + k_w))), (4, .int (nI (ct (s_awp n B (8 * k_u + k_w)) (z + 1)))), (5, .int (nI (z + 1)))] from by rw [← e_7]; exact lv_sub hl [2, 3, 4, 5, 1, 0] rfl)
  have e_8 : ((nI (0)) : Int32) = (nI (ct (s_awp n B (8 * k_u + k_w)) 0)) := by rfl
  exact loop_18 (80 - 0 + 1) 0 (by omega) (by omega) _ (show lv_has ls 6 [(0, .ref (ax 0)), (1, .int (nI (k_u))), (2, .int (nI (k_w))), (3, .int (nI (8 * k_u + k_w))), (4, .int (nI (ct (s_awp n B (8 * k_u + k_w)) 0))), (5, .int (nI (0)))] from by rw [← e_8]; exact lv_sub hl [3, 4, 5, 2, 1, 0] rfl)
theorem hdX1_answers : yX1_answers.cls = RX1 ∧ yX1_answers.cls ≠ "java/lang/invoke/MethodHandle" ∧ yX1_answers.cls ≠ "java/lang/invoke/VarHandle" ∧ (parseMethodDescriptor yX1_answers.desc).map (fun d => d.parameters.length) = some 2 := by decide +kernel
set_option maxHeartbeats 4000000 in
set_option maxRecDepth 100000 in
theorem kX1_talk (l : Launch) (D : va_G) (cI cZ cA : ClassId) (ax : Nat → Nat) (n : Nat) (B : Nat → Nat → Nat) (Q : Nat → Option Nat) (cn : Nat → Bool) (rt : Nat → Nat) (wd : Nat → Option Nat) (qf : Nat → Option Nat) (T : Nat → Nat → Nat) (hB : Bok n B) (hQ : QA n B Q) : Met l yX1_talk wsX1_talk ({ frames := 5, cells := 0, slots := 0, locals := 115 }) (PcR D [(cI, .int), (cZ, .boolean), (cA, .array .int)] (wX cI cZ cA ax n B Q cn rt wd qf T) [.ref (ax 0)]) (vp_Si (fun r => r = (nI (s_tk n B)))) 0 0 (fun _ => False) := by
  refine Met.ofW (cc := cX1_talk) (maxL := 3) (ret := (some .int)) (by decide) rfl ?_
  intro p e s m args below meth c s₁ BL hml hv
  obtain ⟨rfl, hP, hK⟩ := hv
  have hx := BL.exec
  have hb := BL.bytes
  have hr := BL.returns
  have hts := atoms_spec (ws := wsX1_talk) BL.pre
  have hown : s.vm.findClass RX1 = some m.cls := findClass_of_methodNamed BL.named
  have hlocks := BL.notSynchronized
  have hl := lv_entry ([.ref (ax 0)]) (n := 3) (Nat.le_of_ble_eq_true rfl)
  rw [lg_entry_eq]
  generalize (lg_sl ([.ref (ax 0)]) ++ List.replicate (3 - (lg_sl ([.ref (ax 0)])).length) Slot.unset).toArray = ls at hl ⊢
  have hl : lv_has ls 3 [(0, .ref (ax 0))] := hl
  have hn10 := hB.1
  refine lv_iconst (v := (nI (0))) hx hb dX1_talk_0 (by decide +kernel) ?_
  refine lv_istore_n (lv' := [(1, .int (nI (0))), (0, .ref (ax 0))]) hx hb dX1_talk_1 rfl hl (by decide) rfl (fun ls hl => ?_)
  refine lv_iconst (v := (nI (0))) hx hb dX1_talk_2 (by decide +kernel) ?_
  refine lv_istore_n (lv' := [(2, .int (nI (0))), (1, .int (nI (0))), (0, .ref (ax 0))]) hx hb dX1_talk_3 rfl hl (by decide) rfl (fun ls hl => ?_)
  have loop_4 : ∀ (N : Nat) (z : Nat), 80 - z < N → (z ≤ 80) → ∀ (ls : Array Slot), lv_has ls 3 [(0, .ref (ax 0)), (1, .int (nI (ct (s_tl8 n B) z))), (2, .int (nI (z)))] → W p l e (headSpec wsX1_talk ({ frames := 5, cells := 0, slots := 0, locals := 115 })).room s m ([.ref (ax 0)] : List Value).toArray below meth c s.heap [] 0 0 (MQ below (vp_Si (fun r => r = (nI (s_tk n B)))) ([.ref (ax 0)] : List Value).toArray s 0 0 (fun _ => False)) (F0 m 4 ls []) := by
    intro N
    induction N with
    | zero => intro z hmu; exact absurd hmu (Nat.not_lt_zero _)
    | succ N ih_4 =>
      intro z hmu_4 h_z ls hl
      refine lv_iload_n hx hb dX1_talk_4 rfl (lv_at hl 2 rfl) ?_
      refine lv_bipush (v := (nI (80))) hx hb dX1_talk_5 (by decide +kernel) ?_
      refine n_ge (tgt := 27) hx hb (by omega) (by omega) dX1_talk_7 (by decide) (fun c_1 => ?_) (fun c_1 => ?_)
      · refine lv_iload_n hx hb dX1_talk_27 rfl (lv_at hl 1 rfl) ?_
        exact W.iret (v := (nI (ct (s_tl8 n B) z))) hx hb hr (fun t ht hW => ⟨_, rfl, by rw [← s_tl8_s hB, show 80 = z from by omega], ht⟩) (fun _ h => nomatch h) dX1_talk_28
      refine lv_aload_n hx hb dX1_talk_10 rfl (lv_at hl 0 rfl) ?_
      refine lv_iload_n hx hb dX1_talk_11 rfl (lv_at hl 2 rfl) ?_
      refine ro_V (As := [.int (nI (z))]) (v := (bI (s_tl8 n B z))) ⟨hx, hb, hml, hown, hts⟩ (kX1_isInTalk l D cI cZ cA ax n B Q cn rt wd qf T z hB hQ (by omega)) (cwV 1 hts gX1_talk_X1_isInTalk rfl rfl rfl hdX1_isInTalk ⟨Nat.le_of_ble_eq_true rfl, Nat.le_of_ble_eq_true rfl⟩) hK hP (ci := 3) rfl (q0 := 0) rfl rfl rfl hl.1 rfl (Nat.le_of_ble_eq_true rfl) dX1_talk_12 ⟨Nat.zero_le _, Nat.zero_le _⟩ ?_
      refine y_eq (tgt := 21) hx hb dX1_talk_15 (by decide) (fun c_2 => ?_) (fun c_2 => ?_)
      · refine lv_iinc (v := (nI (z + 1))) (lv' := [(2, .int (nI (z + 1))), (0, .ref (ax 0)), (1, .int (nI (ct (s_tl8 n B) z)))]) hx hb dX1_talk_21 hl (k := 2) rfl (nI_1 _) (by decide) rfl (fun ls hl => ?_)
        refine lv_goto (tgt := 4) hx hb dX1_talk_24 (by decide) ?_
        have e_3 : ((nI (ct (s_tl8 n B) z)) : Int32) = (nI (ct (s_tl8 n B) (z + 1))) := by exact congrArg nI (by first | (rw [ct_t c_2]; done) | (rw [ct_f c_2]; done))
        exact ih_4 (z + 1) (by omega) (by omega) _ (show lv_has ls 3 [(0, .ref (ax 0)), (1, .int (nI (ct (s_tl8 n B) (z + 1)))), (2, .int (nI (z + 1)))] from by rw [← e_3]; exact lv_sub hl [1, 2, 0] rfl)
      refine lv_iinc (v := (nI (ct (s_tl8 n B) z + 1))) (lv' := [(1, .int (nI (ct (s_tl8 n B) z + 1))), (0, .ref (ax 0)), (2, .int (nI (z)))]) hx hb dX1_talk_18 hl (k := 1) rfl (nI_1 _) (by decide) rfl (fun ls hl => ?_)
      refine lv_iinc (v := (nI (z + 1))) (lv' := [(2, .int (nI (z + 1))), (1, .int (nI (ct (s_tl8 n B) z + 1))), (0, .ref (ax 0))]) hx hb dX1_talk_21 hl (k := 2) rfl (nI_1 _) (by decide) rfl (fun ls hl => ?_)
      refine lv_goto (tgt := 4) hx hb dX1_talk_24 (by decide) ?_
      have e_4 : ((nI (ct (s_tl8 n B) z + 1)) : Int32) = (nI (ct (s_tl8 n B) (z + 1))) := by exact congrArg nI (by first | (rw [ct_t c_2]; done) | (rw [ct_f c_2]; done))
      exact ih_4 (z + 1) (by omega) (by omega) _ (show lv_has ls 3 [(0, .ref (ax 0)), (1, .int (nI (ct (s_tl8 n B) (z + 1)))), (2, .int (nI (z + 1)))] from by rw [← e_4]; exact lv_sub hl [2, 1, 0] rfl)
  have e_5 : ((nI (0)) : Int32) = (nI (ct (s_tl8 n B) 0)) := by rfl
  exact loop_4 (80 - 0 + 1) 0 (by omega) (by omega) _ (show lv_has ls 3 [(0, .ref (ax 0)), (1, .int (nI (ct (s_tl8 n B) 0))), (2, .int (nI (0)))] from by rw [← e_5]; exact lv_sub hl [2, 1, 0] rfl)
theorem hdX1_talk : yX1_talk.cls = RX1 ∧ yX1_talk.cls ≠ "java/lang/invoke/MethodHandle" ∧ yX1_talk.cls ≠ "java/lang/invoke/VarHandle" ∧ (parseMethodDescriptor yX1_talk.desc).map (fun d => d.parameters.length) = some 0 := by decide +kernel
set_option maxHeartbeats 4000000 in
set_option maxRecDepth 100000 in
theorem kX1_copies (l : Launch) (hfl : l.stackTraces = false) (D : va_G) (cI cZ cA : ClassId) (ax : Nat → Nat) (n : Nat) (B : Nat → Nat → Nat) (Q : Nat → Option Nat) (cn : Nat → Bool) (rt : Nat → Nat) (wd : Nat → Option Nat) (qf : Nat → Option Nat) (T : Nat → Nat → Nat) (u : Int32) (w : Int32) (hB : Bok n B) (hQ : QA n B Q) : vx_Met l yX1_copies wsX1_copies ({ frames := 8, cells := 3, slots := 18, locals := 125 }) (PcX D [(cI, .int), (cZ, .boolean), (cA, .array .int)] (wX cI cZ cA ax n B Q cn rt wd qf T) [.ref (ax 0), .int (u), .int (w)]) (vp_Si (fun r => r = (nI ((s_cop n B u w).2)) ∧ (s_cop n B u w).1 = 0)) (XCf (fun E => (E = "java/lang/IndexOutOfBoundsException" ∧ (s_cop n B u w).1 = 1) ∨ (E = "java/lang/UnsupportedOperationException" ∧ (s_cop n B u w).1 = 2))) 3 18 (fun _ => False) := by
  refine vx_ofW (cc := cX1_copies) (maxL := 6) (ret := (some .int)) (by decide) rfl ?_
  intro p e s m args below meth c s₁ BL hml hno hv
  obtain ⟨rfl, hP, hK, hE⟩ := hv
  have hx := BL.exec
  have hb := BL.bytes
  have hr := BL.returns
  have hts := atoms_spec (ws := wsX1_copies) BL.pre
  have hown : s.vm.findClass RX1 = some m.cls := findClass_of_methodNamed BL.named
  have hlocks := BL.notSynchronized
  have hk_160 := hts (.classLink RX1 160 "java/lang/UnsupportedOperationException") (by decide +kernel)
  have hi_160 := hts (.initialized "java/lang/UnsupportedOperationException") (by decide +kernel)
  have hg_160 : ∀ w ∈ (vx_atS RX1 164 "java/lang/UnsupportedOperationException" xN).filter goodWord, w.before _ s = true := fun w h => hts w (List.mem_cons_of_mem _ (List.mem_append_left _ (List.mem_append_left _ (List.mem_append_right _ h))))
  have hl := lv_entry ([.ref (ax 0), .int (u), .int (w)]) (n := 6) (Nat.le_of_ble_eq_true rfl)
  rw [lg_entry_eq]
  generalize (lg_sl ([.ref (ax 0), .int (u), .int (w)]) ++ List.replicate (6 - (lg_sl ([.ref (ax 0), .int (u), .int (w)])).length) Slot.unset).toArray = ls at hl ⊢
  have hl : lv_has ls 6 [(0, .ref (ax 0)), (1, .int (u)), (2, .int (w))] := hl
  have hn10 := hB.1
  refine lv_aload_n hx hb dX1_copies_0 rfl (lv_at hl 0 rfl) ?_
  refine lv_iload_n hx hb dX1_copies_1 rfl (lv_at hl 1 rfl) ?_
  refine lv_iload_n hx hb dX1_copies_2 rfl (lv_at hl 2 rfl) ?_
  refine xr_Vv (As := [.int (u), .int (w)]) ⟨hx, hb, hml, hown, hts⟩ (kX1_requireLine l hfl D cI cZ cA ax n B Q cn rt wd qf T (u) (w) hB) (cwV 2 hts gX1_copies_X1_requireLine rfl rfl rfl hdX1_requireLine ⟨Nat.le_of_ble_eq_true rfl, Nat.le_of_ble_eq_true rfl⟩) hK hP hE (ci := 3) rfl (q0 := 0) rfl rfl rfl hl.1 rfl (Nat.le_of_ble_eq_true rfl) dX1_copies_3 ⟨Nat.le_of_ble_eq_true rfl, Nat.le_of_ble_eq_true rfl⟩ hno hlocks (fun E h => Or.inl ⟨h.1, by simp [s_cop, h.2]⟩) (Nat.le_of_ble_eq_true rfl) (Nat.le_of_ble_eq_true rfl) (fun h_1 => ?_)
  obtain ⟨k_u, k_w, hk_u, hk_w, rfl, rfl⟩ := s_isl_t hB h_1
  have h8_u := hB.2.2.1 k_u
  have hc_k_u : (nI k_u).toNatClampNeg = k_u := nI_clamp (by omega)
  have hc_k_w : (nI k_w).toNatClampNeg = k_w := nI_clamp (by omega)
  have hd8 : (8 * k_u + k_w) / 8 = k_u := by omega
  have hm8 : (8 * k_u + k_w) % 8 = k_w := by omega
  have hll : s_ln B (8 * k_u + k_w) = true := by unfold s_ln; rw [hd8, hm8]; exact decide_eq_true hk_w
  refine lv_iload_n hx hb dX1_copies_6 rfl (lv_at hl 1 rfl) ?_
  refine lv_iload_n hx hb dX1_copies_7 rfl (lv_at hl 2 rfl) ?_
  refine ro_S (As := [.int (nI (k_u)), .int (nI (k_w))]) (v := (nI (8 * k_u + k_w))) ⟨hx, hb, hml, hown, hts⟩ (kX1_placeOf l k_u k_w (by omega) (by omega)) (va_cwS 2 hts gX1_copies_X1_placeOf rfl rfl rfl hsX1_placeOf ⟨Nat.le_of_ble_eq_true rfl, Nat.le_of_ble_eq_true rfl⟩) rfl hl.1 rfl (Nat.le_of_ble_eq_true rfl) dX1_copies_8 ⟨Nat.le_of_ble_eq_true rfl, Nat.le_of_ble_eq_true rfl⟩ ?_
  refine lv_istore_n (lv' := [(3, .int (nI (8 * k_u + k_w))), (0, .ref (ax 0)), (1, .int (nI (k_u))), (2, .int (nI (k_w)))]) hx hb dX1_copies_11 rfl hl (by decide) rfl (fun ls hl => ?_)
  refine lv_aload_n hx hb dX1_copies_12 rfl (lv_at hl 1 rfl) ?_
  refine lv_iload_n hx hb dX1_copies_13 rfl (lv_at hl 0 rfl) ?_
  refine ro_V (As := [.int (nI (8 * k_u + k_w))]) (v := (bI (s_tl8 n B (8 * k_u + k_w)))) ⟨hx, hb, hml, hown, hts⟩ (kX1_isInTalk l D cI cZ cA ax n B Q cn rt wd qf T (8 * k_u + k_w) hB hQ (by omega)) (cwV 1 hts gX1_copies_X1_isInTalk rfl rfl rfl hdX1_isInTalk ⟨Nat.le_of_ble_eq_true rfl, Nat.le_of_ble_eq_true rfl⟩) hK hP (ci := 3) rfl (q0 := 0) rfl rfl rfl hl.1 rfl (Nat.le_of_ble_eq_true rfl) dX1_copies_14 ⟨Nat.le_of_ble_eq_true rfl, Nat.le_of_ble_eq_true rfl⟩ ?_
  refine y_ne (tgt := 30) hx hb dX1_copies_17 (by decide) (fun c_2 => ?_) (fun c_2 => ?_)
  · have htk : s_talk n B k_u k_w = true := by have q := c_2; unfold s_tl8 at q; rw [hll, hd8, hm8] at q; simpa using q
    refine lv_iconst (v := (nI (0))) hx hb dX1_copies_30 (by decide +kernel) ?_
    refine lv_istore (lv' := [(4, .int (nI (0))), (3, .int (nI (8 * k_u + k_w))), (0, .ref (ax 0)), (1, .int (nI (k_u))), (2, .int (nI (k_w)))]) hx hb dX1_copies_31 hl (by decide) rfl (fun ls hl => ?_)
    refine lv_iconst (v := (nI (0))) hx hb dX1_copies_33 (by decide +kernel) ?_
    refine lv_istore (lv' := [(5, .int (nI (0))), (4, .int (nI (0))), (3, .int (nI (8 * k_u + k_w))), (0, .ref (ax 0)), (1, .int (nI (k_u))), (2, .int (nI (k_w)))]) hx hb dX1_copies_34 hl (by decide) rfl (fun ls hl => ?_)
    have loop_36 : ∀ (N : Nat) (z : Nat), 80 - z < N → (z ≤ 80) → ∀ (ls : Array Slot), lv_has ls 6 [(0, .ref (ax 0)), (1, .int (nI (k_u))), (2, .int (nI (k_w))), (3, .int (nI (8 * k_u + k_w))), (4, .int (nI (ct (s_cpx n B (8 * k_u + k_w)) z))), (5, .int (nI (z)))] → W p l e (headSpec wsX1_copies ({ frames := 8, cells := 3, slots := 18, locals := 125 })).room s m ([.ref (ax 0), .int (nI k_u), .int (nI k_w)] : List Value).toArray below meth c s.heap [] 2 12 (vx_MQ below (vp_Si (fun r => r = (nI ((s_cop n B (nI k_u) (nI k_w)).2)) ∧ (s_cop n B (nI k_u) (nI k_w)).1 = 0)) (XCf (fun E => (E = "java/lang/IndexOutOfBoundsException" ∧ (s_cop n B (nI k_u) (nI k_w)).1 = 1) ∨ (E = "java/lang/UnsupportedOperationException" ∧ (s_cop n B (nI k_u) (nI k_w)).1 = 2))) ([.ref (ax 0), .int (nI k_u), .int (nI k_w)] : List Value).toArray s 3 18 (fun _ => False)) (F0 m 36 ls []) := by
      intro N
      induction N with
      | zero => intro z hmu; exact absurd hmu (Nat.not_lt_zero _)
      | succ N ih_36 =>
        intro z hmu_36 h_z ls hl
        refine lv_iload hx hb dX1_copies_36 (lv_at hl 5 rfl) ?_
        refine lv_bipush (v := (nI (80))) hx hb dX1_copies_38 (by decide +kernel) ?_
        refine n_ge (tgt := 71) hx hb (by omega) (by omega) dX1_copies_40 (by decide) (fun c_3 => ?_) (fun c_3 => ?_)
        · have hz80 : 80 = z := by omega
          refine lv_iload hx hb dX1_copies_71 (lv_at hl 4 rfl) ?_
          refine vx_ret ?_
          refine W.widen (k := 3) (n := 18) (Nat.le_of_ble_eq_true rfl) (Nat.le_of_ble_eq_true rfl) ?_
          exact W.iret (v := (nI (ct (s_cpx n B (8 * k_u + k_w)) z))) hx hb hr (fun t ht hW => ⟨_, rfl, ⟨(by simp only [s_cop, h_1, hc_k_u, hc_k_w, hd8, hm8, c_2, htk, c_3, Nat.not_lt.mpr c_3, if_true]; rw [← s_cpx_s hB, hz80]), (by simp [s_cop, h_1, hc_k_u, hc_k_w, hd8, hm8, c_2, htk, c_3])⟩, ht⟩) (fun _ h => nomatch h) dX1_copies_73
        refine lv_aload_n hx hb dX1_copies_43 rfl (lv_at hl 0 rfl) ?_
        refine lv_iload hx hb dX1_copies_44 (lv_at hl 5 rfl) ?_
        refine ro_V (As := [.int (nI (z))]) (v := (bI (s_ln B z))) ⟨hx, hb, hml, hown, hts⟩ (kX1_isLine l D cI cZ cA ax n B Q cn rt wd qf T z hB (by omega)) (cwV 1 hts gX1_copies_X1_isLine rfl rfl rfl hdX1_isLine ⟨Nat.le_of_ble_eq_true rfl, Nat.le_of_ble_eq_true rfl⟩) hK hP (ci := 3) rfl (q0 := 0) rfl rfl rfl hl.1 rfl (Nat.le_of_ble_eq_true rfl) dX1_copies_46 ⟨Nat.le_of_ble_eq_true rfl, Nat.le_of_ble_eq_true rfl⟩ ?_
        refine y_eq (tgt := 65) hx hb dX1_copies_49 (by decide) (fun c_4 => ?_) (fun c_4 => ?_)
        · refine lv_iinc (v := (nI (z + 1))) (lv' := [(5, .int (nI (z + 1))), (0, .ref (ax 0)), (1, .int (nI (k_u))), (2, .int (nI (k_w))), (3, .int (nI (8 * k_u + k_w))), (4, .int (nI (ct (s_cpx n B (8 * k_u + k_w)) z)))]) hx hb dX1_copies_65 hl (k := 5) rfl (nI_1 _) (by decide) rfl (fun ls hl => ?_)
          refine lv_goto (tgt := 36) hx hb dX1_copies_68 (by decide) ?_
          have e_5 : ((nI (ct (s_cpx n B (8 * k_u + k_w)) z)) : Int32) = (nI (ct (s_cpx n B (8 * k_u + k_w)) (z + 1))) := by exact congrArg nI (by first | (rw [ct_t (by unfold s_cpx; simp [h_1, hc_k_u, hc_k_w, hd8, hm8, c_2, htk, c_3, c_4, Nat.not_le.mp c_3])]; done) | (rw [ct_f (by unfold s_cpx; simp [h_1, hc_k_u, hc_k_w, hd8, hm8, c_2, htk, c_3, c_4, Nat.not_le.mp c_3])]; done))
          exact ih_36 (z + 1) (by omega) (by omega) _ (show lv_has ls 6 [(0, .ref (ax 0)), (1, .int (nI (k_u))), (2, .int (nI (k_w))), (3, .int (nI (8 * k_u + k_w))), (4, .int (nI (ct (s_cpx n B (8 * k_u + k_w)) (z + 1)))), (5, .int (nI (z + 1)))] from by rw [← e_5]; exact lv_sub hl [1, 2, 3, 4, 5, 0] rfl)
        obtain ⟨hzm, hzl, -⟩ := s_ln_t hB (x := z) (by have q := c_4; first | exact q | (unfold s_nw at q; simp at q; exact q.1))
        have hzln : s_ln B z = true := by have q := c_4; first | exact q | (unfold s_nw at q; simp at q; exact q.1)
        refine lv_aload_n hx hb dX1_copies_52 rfl (lv_at hl 0 rfl) ?_
        refine lv_iload hx hb dX1_copies_53 (lv_at hl 5 rfl) ?_
        refine ro_V (As := [.int (nI (z))]) (v := (nI (s_org n B (z / 8) (z % 8)))) ⟨hx, hb, hml, hown, hts⟩ (kX1_originOf l D cI cZ cA ax n B Q cn rt wd qf T z hB hQ (by omega) (by omega)) (cwV 1 hts gX1_copies_X1_originOf rfl rfl rfl hdX1_originOf ⟨Nat.le_of_ble_eq_true rfl, Nat.le_of_ble_eq_true rfl⟩) hK hP (ci := 3) rfl (q0 := 0) rfl rfl rfl hl.1 rfl (Nat.le_of_ble_eq_true rfl) dX1_copies_55 ⟨Nat.le_of_ble_eq_true rfl, Nat.le_of_ble_eq_true rfl⟩ ?_
        have hol : s_org n B (z / 8) (z % 8) < 8 * n := s_or_lt hB.2.2.1 (k := 4) hzm hzl
        refine lv_iload_n hx hb dX1_copies_58 rfl (lv_at hl 3 rfl) ?_
        refine n_ne (tgt := 65) hx hb (by omega) (by omega) dX1_copies_59 (by decide) (fun c_6 => ?_) (fun c_6 => ?_)
        · refine lv_iinc (v := (nI (z + 1))) (lv' := [(5, .int (nI (z + 1))), (0, .ref (ax 0)), (1, .int (nI (k_u))), (2, .int (nI (k_w))), (3, .int (nI (8 * k_u + k_w))), (4, .int (nI (ct (s_cpx n B (8 * k_u + k_w)) z)))]) hx hb dX1_copies_65 hl (k := 5) rfl (nI_1 _) (by decide) rfl (fun ls hl => ?_)
          refine lv_goto (tgt := 36) hx hb dX1_copies_68 (by decide) ?_
          have e_7 : ((nI (ct (s_cpx n B (8 * k_u + k_w)) z)) : Int32) = (nI (ct (s_cpx n B (8 * k_u + k_w)) (z + 1))) := by exact congrArg nI (by first | (rw [ct_t (by unfold s_cpx; simp [h_1, hc_k_u, hc_k_w, hd8, hm8, c_2, htk, c_3, c_4, c_6, Nat.not_le.mp c_3])]; done) | (rw [ct_f (by unfold s_cpx; simp [h_1, hc_k_u, hc_k_w, hd8, hm8, c_2, htk, c_3, c_4, c_6, Nat.not_le.mp c_3])]; done))
          exact ih_36 (z + 1) (by omega) (by omega) _ (show lv_has ls 6 [(0, .ref (ax 0)), (1, .int (nI (k_u))), (2, .int (nI (k_w))), (3, .int (nI (8 * k_u + k_w))), (4, .int (nI (ct (s_cpx n B (8 * k_u + k_w)) (z + 1)))), (5, .int (nI (z + 1)))] from by rw [← e_7]; exact lv_sub hl [1, 2, 3, 4, 5, 0] rfl)
        refine lv_iinc (v := (nI (ct (s_cpx n B (8 * k_u + k_w)) z + 1))) (lv' := [(4, .int (nI (ct (s_cpx n B (8 * k_u + k_w)) z + 1))), (0, .ref (ax 0)), (1, .int (nI (k_u))), (2, .int (nI (k_w))), (3, .int (nI (8 * k_u + k_w))), (5, .int (nI (z)))]) hx hb dX1_copies_62 hl (k := 4) rfl (nI_1 _) (by decide) rfl (fun ls hl => ?_)
        refine lv_iinc (v := (nI (z + 1))) (lv' := [(5, .int (nI (z + 1))), (4, .int (nI (ct (s_cpx n B (8 * k_u + k_w)) z + 1))), (0, .ref (ax 0)), (1, .int (nI (k_u))), (2, .int (nI (k_w))), (3, .int (nI (8 * k_u + k_w)))]) hx hb dX1_copies_65 hl (k := 5) rfl (nI_1 _) (by decide) rfl (fun ls hl => ?_)
        refine lv_goto (tgt := 36) hx hb dX1_copies_68 (by decide) ?_
        have e_8 : ((nI (ct (s_cpx n B (8 * k_u + k_w)) z + 1)) : Int32) = (nI (ct (s_cpx n B (8 * k_u + k_w)) (z + 1))) := by exact congrArg nI (by first | (rw [ct_t (by unfold s_cpx; simp [h_1, hc_k_u, hc_k_w, hd8, hm8, c_2, htk, c_3, c_4, c_6, Nat.not_le.mp c_3])]; done) | (rw [ct_f (by unfold s_cpx; simp [h_1, hc_k_u, hc_k_w, hd8, hm8, c_2, htk, c_3, c_4, c_6, Nat.not_le.mp c_3])]; done))
        exact ih_36 (z + 1) (by omega) (by omega) _ (show lv_has ls 6 [(0, .ref (ax 0)), (1, .int (nI (k_u))), (2, .int (nI (k_w))), (3, .int (nI (8 * k_u + k_w))), (4, .int (nI (ct (s_cpx n B (8 * k_u + k_w)) (z + 1)))), (5, .int (nI (z + 1)))] from by rw [← e_8]; exact lv_sub hl [2, 3, 4, 5, 1, 0] rfl)
    have e_9 : ((nI (0)) : Int32) = (nI (ct (s_cpx n B (8 * k_u + k_w)) 0)) := by rfl
    exact loop_36 (80 - 0 + 1) 0 (by omega) (by omega) _ (show lv_has ls 6 [(0, .ref (ax 0)), (1, .int (nI (k_u))), (2, .int (nI (k_w))), (3, .int (nI (8 * k_u + k_w))), (4, .int (nI (ct (s_cpx n B (8 * k_u + k_w)) 0))), (5, .int (nI (0)))] from by rw [← e_9]; exact lv_sub hl [3, 4, 5, 2, 1, 0] rfl)
  have htk : s_talk n B k_u k_w = false := by have q := c_2; unfold s_tl8 at q; rw [hll, hd8, hm8] at q; simpa using q
  exact x_thr hx hb hfl hown xf_UOE hk_160 hi_160 hg_160 xb_UOE (by decide +kernel) hE (is := 162) (text := "the line is not in the talk") (by decide +kernel) (hl.1.trans hml.symm) dX1_copies_20 dX1_copies_23 dX1_copies_24 dX1_copies_26 dX1_copies_29 hno (Nat.le_of_ble_eq_true rfl) (Nat.le_of_ble_eq_true rfl) (Nat.le_of_ble_eq_true rfl) (Nat.le_of_ble_eq_true rfl) hlocks (by simp [s_cop, h_1, hc_k_u, hc_k_w, hd8, hm8, c_2, htk]) (Nat.le_of_ble_eq_true rfl) (Nat.le_of_ble_eq_true rfl)
theorem hdX1_copies : yX1_copies.cls = RX1 ∧ yX1_copies.cls ≠ "java/lang/invoke/MethodHandle" ∧ yX1_copies.cls ≠ "java/lang/invoke/VarHandle" ∧ (parseMethodDescriptor yX1_copies.desc).map (fun d => d.parameters.length) = some 2 := by decide +kernel
set_option maxHeartbeats 4000000 in
set_option maxRecDepth 100000 in
theorem kX1_root (l : Launch) (hfl : l.stackTraces = false) (D : va_G) (cI cZ cA : ClassId) (ax : Nat → Nat) (n : Nat) (B : Nat → Nat → Nat) (Q : Nat → Option Nat) (cn : Nat → Bool) (rt : Nat → Nat) (wd : Nat → Option Nat) (qf : Nat → Option Nat) (T : Nat → Nat → Nat) (u : Int32) (hB : Bok n B) : vx_Met l yX1_root wsX1_root ({ frames := 7, cells := 1, slots := 6, locals := 103 }) (PcX D [(cI, .int), (cZ, .boolean), (cA, .array .int)] (wX cI cZ cA ax n B Q cn rt wd qf T) [.ref (ax 0), .int (u)]) (vp_Si (fun r => r = (nI ((s_rtc n B u).2)) ∧ (s_rtc n B u).1 = 0)) (XCf (fun E => (E = "java/lang/IndexOutOfBoundsException" ∧ (s_rtc n B u).1 = 1))) 1 6 (fun _ => False) := by
  refine vx_ofW (cc := cX1_root) (maxL := 2) (ret := (some .int)) (by decide) rfl ?_
  intro p e s m args below meth c s₁ BL hml hno hv
  obtain ⟨rfl, hP, hK, hE⟩ := hv
  have hx := BL.exec
  have hb := BL.bytes
  have hr := BL.returns
  have hts := atoms_spec (ws := wsX1_root) BL.pre
  have hown : s.vm.findClass RX1 = some m.cls := findClass_of_methodNamed BL.named
  have hlocks := BL.notSynchronized
  have hl := lv_entry ([.ref (ax 0), .int (u)]) (n := 2) (Nat.le_of_ble_eq_true rfl)
  rw [lg_entry_eq]
  generalize (lg_sl ([.ref (ax 0), .int (u)]) ++ List.replicate (2 - (lg_sl ([.ref (ax 0), .int (u)])).length) Slot.unset).toArray = ls at hl ⊢
  have hl : lv_has ls 2 [(0, .ref (ax 0)), (1, .int (u))] := hl
  have hn10 := hB.1
  refine lv_aload_n hx hb dX1_root_0 rfl (lv_at hl 0 rfl) ?_
  refine lv_iload_n hx hb dX1_root_1 rfl (lv_at hl 1 rfl) ?_
  refine xr_Vv (As := [.int (u)]) ⟨hx, hb, hml, hown, hts⟩ (kX1_requireMail l hfl D cI cZ cA ax n B Q cn rt wd qf T (u) hB) (cwV 1 hts gX1_root_X1_requireMail rfl rfl rfl hdX1_requireMail ⟨Nat.le_of_ble_eq_true rfl, Nat.le_of_ble_eq_true rfl⟩) hK hP hE (ci := 3) rfl (q0 := 0) rfl rfl rfl hl.1 rfl (Nat.le_of_ble_eq_true rfl) dX1_root_2 ⟨Nat.le_of_ble_eq_true rfl, Nat.le_of_ble_eq_true rfl⟩ hno hlocks (fun E h => ⟨h.1, by simp [s_rtc, h.2]⟩) (Nat.le_of_ble_eq_true rfl) (Nat.le_of_ble_eq_true rfl) (fun h_1 => ?_)
  obtain ⟨k_u, hk_u, rfl⟩ := s_ism_t hB.1 h_1
  have h8_u := hB.2.2.1 k_u
  have hc_k_u : (nI k_u).toNatClampNeg = k_u := nI_clamp (by omega)
  refine lv_aload_n hx hb dX1_root_5 rfl (lv_at hl 0 rfl) ?_
  refine lv_iload_n hx hb dX1_root_6 rfl (lv_at hl 1 rfl) ?_
  refine ro_V (As := [.int (nI (k_u))]) (v := (nI (s_root n B k_u))) ⟨hx, hb, hml, hown, hts⟩ (kX1_rootOf l D cI cZ cA ax n B Q cn rt wd qf T k_u hB (by omega)) (cwV 1 hts gX1_root_X1_rootOf rfl rfl rfl hdX1_rootOf ⟨Nat.le_of_ble_eq_true rfl, Nat.le_of_ble_eq_true rfl⟩) hK hP (ci := 3) rfl (q0 := 0) rfl rfl rfl hl.1 rfl (Nat.le_of_ble_eq_true rfl) dX1_root_7 ⟨Nat.le_of_ble_eq_true rfl, Nat.le_of_ble_eq_true rfl⟩ ?_
  refine vx_ret ?_
  refine W.widen (k := 1) (n := 6) (Nat.le_of_ble_eq_true rfl) (Nat.le_of_ble_eq_true rfl) ?_
  exact W.iret (v := (nI (s_root n B k_u))) hx hb hr (fun t ht hW => ⟨_, rfl, ⟨(by first | rfl | (simp [oI_s, bI_t, bI_f, s_rtc, s_ocode, h_1, hc_k_u]; done) | (simp [oI_s, bI_t, bI_f, s_rtc, s_ocode, h_1, hc_k_u]; omega) | (simp only [s_rtc, s_ocode]; (repeat' split) <;> first | rfl | omega | (simp_all; done) | (simp_all; omega))), (by simp [s_rtc, s_ocode, h_1, hc_k_u])⟩, ht⟩) (fun _ h => nomatch h) dX1_root_10
theorem hdX1_root : yX1_root.cls = RX1 ∧ yX1_root.cls ≠ "java/lang/invoke/MethodHandle" ∧ yX1_root.cls ≠ "java/lang/invoke/VarHandle" ∧ (parseMethodDescriptor yX1_root.desc).map (fun d => d.parameters.length) = some 1 := by decide +kernel
set_option maxHeartbeats 4000000 in
set_option maxRecDepth 100000 in
theorem kX1_threads (l : Launch) (D : va_G) (cI cZ cA : ClassId) (ax : Nat → Nat) (n : Nat) (B : Nat → Nat → Nat) (Q : Nat → Option Nat) (cn : Nat → Bool) (rt : Nat → Nat) (wd : Nat → Option Nat) (qf : Nat → Option Nat) (T : Nat → Nat → Nat) (hB : Bok n B) : Met l yX1_threads wsX1_threads ({ frames := 4, cells := 0, slots := 0, locals := 90 }) (PcR D [(cI, .int), (cZ, .boolean), (cA, .array .int)] (wX cI cZ cA ax n B Q cn rt wd qf T) [.ref (ax 0)]) (vp_Si (fun r => r = (nI (s_heads n B)))) 0 0 (fun _ => False) := by
  refine Met.ofW (cc := cX1_threads) (maxL := 3) (ret := (some .int)) (by decide) rfl ?_
  intro p e s m args below meth c s₁ BL hml hv
  obtain ⟨rfl, hP, hK⟩ := hv
  have hx := BL.exec
  have hb := BL.bytes
  have hr := BL.returns
  have hts := atoms_spec (ws := wsX1_threads) BL.pre
  have hown : s.vm.findClass RX1 = some m.cls := findClass_of_methodNamed BL.named
  have hlocks := BL.notSynchronized
  have hin : ∀ w ∈ wsX10, w ∈ wsX1_threads := by decide +kernel
  have hf_9 := hts (.fieldLink RX1 9 "TalkRebuilder" "mailCount" "I") (by decide +kernel)
  have hl := lv_entry ([.ref (ax 0)]) (n := 3) (Nat.le_of_ble_eq_true rfl)
  rw [lg_entry_eq]
  generalize (lg_sl ([.ref (ax 0)]) ++ List.replicate (3 - (lg_sl ([.ref (ax 0)])).length) Slot.unset).toArray = ls at hl ⊢
  have hl : lv_has ls 3 [(0, .ref (ax 0))] := hl
  have hn10 := hB.1
  refine lv_iconst (v := (nI (0))) hx hb dX1_threads_0 (by decide +kernel) ?_
  refine lv_istore_n (lv' := [(1, .int (nI (0))), (0, .ref (ax 0))]) hx hb dX1_threads_1 rfl hl (by decide) rfl (fun ls hl => ?_)
  refine lv_iconst (v := (nI (0))) hx hb dX1_threads_2 (by decide +kernel) ?_
  refine lv_istore_n (lv' := [(2, .int (nI (0))), (1, .int (nI (0))), (0, .ref (ax 0))]) hx hb dX1_threads_3 rfl hl (by decide) rfl (fun ls hl => ?_)
  have loop_4 : ∀ (N : Nat) (z : Nat), n - z < N → (z ≤ n) → ∀ (ls : Array Slot), lv_has ls 3 [(0, .ref (ax 0)), (1, .int (nI (ct (fun m => decide (s_root n B m = m)) z))), (2, .int (nI (z)))] → W p l e (headSpec wsX1_threads ({ frames := 4, cells := 0, slots := 0, locals := 90 })).room s m ([.ref (ax 0)] : List Value).toArray below meth c s.heap [] 0 0 (MQ below (vp_Si (fun r => r = (nI (s_heads n B)))) ([.ref (ax 0)] : List Value).toArray s 0 0 (fun _ => False)) (F0 m 4 ls []) := by
    intro N
    induction N with
    | zero => intro z hmu; exact absurd hmu (Nat.not_lt_zero _)
    | succ N ih_4 =>
      intro z hmu_4 h_z ls hl
      refine lv_iload_n hx hb dX1_threads_4 rfl (lv_at hl 2 rfl) ?_
      refine lv_aload_n hx hb dX1_threads_5 rfl (lv_at hl 0 rfl) ?_
      refine va_get (D := D) (ci := 3) (v := .int (nI (n))) (C := RX1) (T := TX1) (N := 12) hx hb hts hin hown hK hP 0 rfl rfl 0 (by decide) hf_9 (fun _ h9 => h9) rfl dX1_threads_6 ?_
      refine n_ge (tgt := 30) hx hb (by omega) (by omega) dX1_threads_9 (by decide) (fun c_1 => ?_) (fun c_1 => ?_)
      · have hzn : n = z := by omega
        refine lv_iload_n hx hb dX1_threads_30 rfl (lv_at hl 1 rfl) ?_
        exact W.iret (v := (nI (ct (fun m => decide (s_root n B m = m)) z))) hx hb hr (fun t ht hW => ⟨_, rfl, by first | rfl | (simp [oI_s, bI_t, bI_f, s_heads, c_1, hzn, Nat.not_lt.mpr c_1]; done) | (simp [oI_s, bI_t, bI_f, s_heads, c_1, hzn, Nat.not_lt.mpr c_1]; omega) | (simp only [s_heads]; (repeat' split) <;> first | rfl | omega | (simp_all; done) | (simp_all; omega)), ht⟩) (fun _ h => nomatch h) dX1_threads_31
      refine lv_aload_n hx hb dX1_threads_12 rfl (lv_at hl 0 rfl) ?_
      refine lv_iload_n hx hb dX1_threads_13 rfl (lv_at hl 2 rfl) ?_
      refine ro_V (As := [.int (nI (z))]) (v := (nI (s_root n B z))) ⟨hx, hb, hml, hown, hts⟩ (kX1_rootOf l D cI cZ cA ax n B Q cn rt wd qf T z hB (by omega)) (cwV 1 hts gX1_threads_X1_rootOf rfl rfl rfl hdX1_rootOf ⟨Nat.le_of_ble_eq_true rfl, Nat.le_of_ble_eq_true rfl⟩) hK hP (ci := 3) rfl (q0 := 0) rfl rfl rfl hl.1 rfl (Nat.le_of_ble_eq_true rfl) dX1_threads_14 ⟨Nat.zero_le _, Nat.zero_le _⟩ ?_
      have hrt : s_root n B z < n := s_rt_lt (by omega)
      refine lv_iload_n hx hb dX1_threads_17 rfl (lv_at hl 2 rfl) ?_
      refine n_ne (tgt := 24) hx hb (by omega) (by omega) dX1_threads_18 (by decide) (fun c_2 => ?_) (fun c_2 => ?_)
      · refine lv_iinc (v := (nI (z + 1))) (lv' := [(2, .int (nI (z + 1))), (0, .ref (ax 0)), (1, .int (nI (ct (fun m => decide (s_root n B m = m)) z)))]) hx hb dX1_threads_24 hl (k := 2) rfl (nI_1 _) (by decide) rfl (fun ls hl => ?_)
        refine lv_goto (tgt := 4) hx hb dX1_threads_27 (by decide) ?_
        have e_3 : ((nI (ct (fun m => decide (s_root n B m = m)) z)) : Int32) = (nI (ct (fun m => decide (s_root n B m = m)) (z + 1))) := by first | rfl | (simp [oI_s, bI_t, bI_f, ct, c_1, c_2, Nat.not_le.mp c_1]; done) | (simp [oI_s, bI_t, bI_f, ct, c_1, c_2, Nat.not_le.mp c_1]; omega) | (simp only [ct]; (repeat' split) <;> first | rfl | omega | (simp_all; done) | (simp_all; omega))
        exact ih_4 (z + 1) (by omega) (by omega) _ (show lv_has ls 3 [(0, .ref (ax 0)), (1, .int (nI (ct (fun m => decide (s_root n B m = m)) (z + 1)))), (2, .int (nI (z + 1)))] from by rw [← e_3]; exact lv_sub hl [1, 2, 0] rfl)
      refine lv_iinc (v := (nI (ct (fun m => decide (s_root n B m = m)) z + 1))) (lv' := [(1, .int (nI (ct (fun m => decide (s_root n B m = m)) z + 1))), (0, .ref (ax 0)), (2, .int (nI (z)))]) hx hb dX1_threads_21 hl (k := 1) rfl (nI_1 _) (by decide) rfl (fun ls hl => ?_)
      refine lv_iinc (v := (nI (z + 1))) (lv' := [(2, .int (nI (z + 1))), (1, .int (nI (ct (fun m => decide (s_root n B m = m)) z + 1))), (0, .ref (ax 0))]) hx hb dX1_threads_24 hl (k := 2) rfl (nI_1 _) (by decide) rfl (fun ls hl => ?_)
      refine lv_goto (tgt := 4) hx hb dX1_threads_27 (by decide) ?_
      have e_4 : ((nI (ct (fun m => decide (s_root n B m = m)) z + 1)) : Int32) = (nI (ct (fun m => decide (s_root n B m = m)) (z + 1))) := by first | rfl | (simp [oI_s, bI_t, bI_f, ct, c_1, c_2, Nat.not_le.mp c_1]; done) | (simp [oI_s, bI_t, bI_f, ct, c_1, c_2, Nat.not_le.mp c_1]; omega) | (simp only [ct]; (repeat' split) <;> first | rfl | omega | (simp_all; done) | (simp_all; omega))
      exact ih_4 (z + 1) (by omega) (by omega) _ (show lv_has ls 3 [(0, .ref (ax 0)), (1, .int (nI (ct (fun m => decide (s_root n B m = m)) (z + 1)))), (2, .int (nI (z + 1)))] from by rw [← e_4]; exact lv_sub hl [2, 1, 0] rfl)
  have e_5 : ((nI (0)) : Int32) = (nI (ct (fun m => decide (s_root n B m = m)) 0)) := by first | rfl | (simp [oI_s, bI_t, bI_f, ct]; done) | (simp [oI_s, bI_t, bI_f, ct]; omega) | (simp only [ct]; (repeat' split) <;> first | rfl | omega | (simp_all; done) | (simp_all; omega))
  exact loop_4 (n - 0 + 1) 0 (by omega) (by omega) _ (show lv_has ls 3 [(0, .ref (ax 0)), (1, .int (nI (ct (fun m => decide (s_root n B m = m)) 0))), (2, .int (nI (0)))] from by rw [← e_5]; exact lv_sub hl [2, 1, 0] rfl)
theorem hdX1_threads : yX1_threads.cls = RX1 ∧ yX1_threads.cls ≠ "java/lang/invoke/MethodHandle" ∧ yX1_threads.cls ≠ "java/lang/invoke/VarHandle" ∧ (parseMethodDescriptor yX1_threads.desc).map (fun d => d.parameters.length) = some 0 := by decide +kernel
set_option maxHeartbeats 4000000 in
set_option maxRecDepth 100000 in
theorem kX1_size (l : Launch) (hfl : l.stackTraces = false) (D : va_G) (cI cZ cA : ClassId) (ax : Nat → Nat) (n : Nat) (B : Nat → Nat → Nat) (Q : Nat → Option Nat) (cn : Nat → Bool) (rt : Nat → Nat) (wd : Nat → Option Nat) (qf : Nat → Option Nat) (T : Nat → Nat → Nat) (u : Int32) (hB : Bok n B) : vx_Met l yX1_size wsX1_size ({ frames := 7, cells := 1, slots := 6, locals := 103 }) (PcX D [(cI, .int), (cZ, .boolean), (cA, .array .int)] (wX cI cZ cA ax n B Q cn rt wd qf T) [.ref (ax 0), .int (u)]) (vp_Si (fun r => r = (nI ((s_sz n B u).2)) ∧ (s_sz n B u).1 = 0)) (XCf (fun E => (E = "java/lang/IndexOutOfBoundsException" ∧ (s_sz n B u).1 = 1))) 1 6 (fun _ => False) := by
  refine vx_ofW (cc := cX1_size) (maxL := 5) (ret := (some .int)) (by decide) rfl ?_
  intro p e s m args below meth c s₁ BL hml hno hv
  obtain ⟨rfl, hP, hK, hE⟩ := hv
  have hx := BL.exec
  have hb := BL.bytes
  have hr := BL.returns
  have hts := atoms_spec (ws := wsX1_size) BL.pre
  have hown : s.vm.findClass RX1 = some m.cls := findClass_of_methodNamed BL.named
  have hlocks := BL.notSynchronized
  have hin : ∀ w ∈ wsX10, w ∈ wsX1_size := by decide +kernel
  have hf_9 := hts (.fieldLink RX1 9 "TalkRebuilder" "mailCount" "I") (by decide +kernel)
  have hl := lv_entry ([.ref (ax 0), .int (u)]) (n := 5) (Nat.le_of_ble_eq_true rfl)
  rw [lg_entry_eq]
  generalize (lg_sl ([.ref (ax 0), .int (u)]) ++ List.replicate (5 - (lg_sl ([.ref (ax 0), .int (u)])).length) Slot.unset).toArray = ls at hl ⊢
  have hl : lv_has ls 5 [(0, .ref (ax 0)), (1, .int (u))] := hl
  have hn10 := hB.1
  refine lv_aload_n hx hb dX1_size_0 rfl (lv_at hl 0 rfl) ?_
  refine lv_iload_n hx hb dX1_size_1 rfl (lv_at hl 1 rfl) ?_
  refine xr_Vv (As := [.int (u)]) ⟨hx, hb, hml, hown, hts⟩ (kX1_requireMail l hfl D cI cZ cA ax n B Q cn rt wd qf T (u) hB) (cwV 1 hts gX1_size_X1_requireMail rfl rfl rfl hdX1_requireMail ⟨Nat.le_of_ble_eq_true rfl, Nat.le_of_ble_eq_true rfl⟩) hK hP hE (ci := 3) rfl (q0 := 0) rfl rfl rfl hl.1 rfl (Nat.le_of_ble_eq_true rfl) dX1_size_2 ⟨Nat.le_of_ble_eq_true rfl, Nat.le_of_ble_eq_true rfl⟩ hno hlocks (fun E h => ⟨h.1, by simp [s_sz, h.2]⟩) (Nat.le_of_ble_eq_true rfl) (Nat.le_of_ble_eq_true rfl) (fun h_1 => ?_)
  obtain ⟨k_u, hk_u, rfl⟩ := s_ism_t hB.1 h_1
  have h8_u := hB.2.2.1 k_u
  have hc_k_u : (nI k_u).toNatClampNeg = k_u := nI_clamp (by omega)
  refine lv_aload_n hx hb dX1_size_5 rfl (lv_at hl 0 rfl) ?_
  refine lv_iload_n hx hb dX1_size_6 rfl (lv_at hl 1 rfl) ?_
  refine ro_V (As := [.int (nI (k_u))]) (v := (nI (s_root n B k_u))) ⟨hx, hb, hml, hown, hts⟩ (kX1_rootOf l D cI cZ cA ax n B Q cn rt wd qf T k_u hB (by omega)) (cwV 1 hts gX1_size_X1_rootOf rfl rfl rfl hdX1_rootOf ⟨Nat.le_of_ble_eq_true rfl, Nat.le_of_ble_eq_true rfl⟩) hK hP (ci := 3) rfl (q0 := 0) rfl rfl rfl hl.1 rfl (Nat.le_of_ble_eq_true rfl) dX1_size_7 ⟨Nat.le_of_ble_eq_true rfl, Nat.le_of_ble_eq_true rfl⟩ ?_
  have hrt2 : s_root n B k_u < n := s_rt_lt hk_u
  refine lv_istore_n (lv' := [(2, .int (nI (s_root n B k_u))), (0, .ref (ax 0)), (1, .int (nI (k_u)))]) hx hb dX1_size_10 rfl hl (by decide) rfl (fun ls hl => ?_)
  refine lv_iconst (v := (nI (0))) hx hb dX1_size_11 (by decide +kernel) ?_
  refine lv_istore_n (lv' := [(3, .int (nI (0))), (2, .int (nI (s_root n B k_u))), (0, .ref (ax 0)), (1, .int (nI (k_u)))]) hx hb dX1_size_12 rfl hl (by decide) rfl (fun ls hl => ?_)
  refine lv_iconst (v := (nI (0))) hx hb dX1_size_13 (by decide +kernel) ?_
  refine lv_istore (lv' := [(4, .int (nI (0))), (3, .int (nI (0))), (2, .int (nI (s_root n B k_u))), (0, .ref (ax 0)), (1, .int (nI (k_u)))]) hx hb dX1_size_14 hl (by decide) rfl (fun ls hl => ?_)
  have loop_16 : ∀ (N : Nat) (z : Nat), n - z < N → (z ≤ n) → ∀ (ls : Array Slot), lv_has ls 5 [(0, .ref (ax 0)), (1, .int (nI (k_u))), (2, .int (nI (s_root n B k_u))), (3, .int (nI (ct (s_szp n B k_u) z))), (4, .int (nI (z)))] → W p l e (headSpec wsX1_size ({ frames := 7, cells := 1, slots := 6, locals := 103 })).room s m ([.ref (ax 0), .int (nI k_u)] : List Value).toArray below meth c s.heap [] 1 6 (vx_MQ below (vp_Si (fun r => r = (nI ((s_sz n B (nI k_u)).2)) ∧ (s_sz n B (nI k_u)).1 = 0)) (XCf (fun E => (E = "java/lang/IndexOutOfBoundsException" ∧ (s_sz n B (nI k_u)).1 = 1))) ([.ref (ax 0), .int (nI k_u)] : List Value).toArray s 1 6 (fun _ => False)) (F0 m 16 ls []) := by
    intro N
    induction N with
    | zero => intro z hmu; exact absurd hmu (Nat.not_lt_zero _)
    | succ N ih_16 =>
      intro z hmu_16 h_z ls hl
      refine lv_iload hx hb dX1_size_16 (lv_at hl 4 rfl) ?_
      refine lv_aload_n hx hb dX1_size_18 rfl (lv_at hl 0 rfl) ?_
      refine va_get (D := D) (ci := 3) (v := .int (nI (n))) (C := RX1) (T := TX1) (N := 12) hx hb hts hin hown hK hP 0 rfl rfl 0 (by decide) hf_9 (fun _ h9 => h9) rfl dX1_size_19 ?_
      refine n_ge (tgt := 44) hx hb (by omega) (by omega) dX1_size_22 (by decide) (fun c_2 => ?_) (fun c_2 => ?_)
      · have hzn : n = z := by omega
        refine lv_iload_n hx hb dX1_size_44 rfl (lv_at hl 3 rfl) ?_
        refine vx_ret ?_
        refine W.widen (k := 1) (n := 6) (Nat.le_of_ble_eq_true rfl) (Nat.le_of_ble_eq_true rfl) ?_
        exact W.iret (v := (nI (ct (s_szp n B k_u) z))) hx hb hr (fun t ht hW => ⟨_, rfl, ⟨(by first | rfl | (simp [oI_s, bI_t, bI_f, s_sz, s_ocode, h_1, hc_k_u, c_2, hzn, Nat.not_lt.mpr c_2]; done) | (simp [oI_s, bI_t, bI_f, s_sz, s_ocode, h_1, hc_k_u, c_2, hzn, Nat.not_lt.mpr c_2]; omega) | (simp only [s_sz, s_ocode]; (repeat' split) <;> first | rfl | omega | (simp_all; done) | (simp_all; omega))), (by simp [s_sz, h_1])⟩, ht⟩) (fun _ h => nomatch h) dX1_size_45
      refine lv_aload_n hx hb dX1_size_25 rfl (lv_at hl 0 rfl) ?_
      refine lv_iload hx hb dX1_size_26 (lv_at hl 4 rfl) ?_
      refine ro_V (As := [.int (nI (z))]) (v := (nI (s_root n B z))) ⟨hx, hb, hml, hown, hts⟩ (kX1_rootOf l D cI cZ cA ax n B Q cn rt wd qf T z hB (by omega)) (cwV 1 hts gX1_size_X1_rootOf rfl rfl rfl hdX1_rootOf ⟨Nat.le_of_ble_eq_true rfl, Nat.le_of_ble_eq_true rfl⟩) hK hP (ci := 3) rfl (q0 := 0) rfl rfl rfl hl.1 rfl (Nat.le_of_ble_eq_true rfl) dX1_size_28 ⟨Nat.le_of_ble_eq_true rfl, Nat.le_of_ble_eq_true rfl⟩ ?_
      have hrt : s_root n B z < n := s_rt_lt (by omega)
      refine lv_iload_n hx hb dX1_size_31 rfl (lv_at hl 2 rfl) ?_
      refine n_ne (tgt := 38) hx hb (by omega) (by omega) dX1_size_32 (by decide) (fun c_3 => ?_) (fun c_3 => ?_)
      · refine lv_iinc (v := (nI (z + 1))) (lv' := [(4, .int (nI (z + 1))), (0, .ref (ax 0)), (1, .int (nI (k_u))), (2, .int (nI (s_root n B k_u))), (3, .int (nI (ct (s_szp n B k_u) z)))]) hx hb dX1_size_38 hl (k := 4) rfl (nI_1 _) (by decide) rfl (fun ls hl => ?_)
        refine lv_goto (tgt := 16) hx hb dX1_size_41 (by decide) ?_
        have e_4 : ((nI (ct (s_szp n B k_u) z)) : Int32) = (nI (ct (s_szp n B k_u) (z + 1))) := by first | rfl | (simp [oI_s, bI_t, bI_f, ct, s_szp, h_1, hc_k_u, c_2, c_3, Nat.not_le.mp c_2]; done) | (simp [oI_s, bI_t, bI_f, ct, s_szp, h_1, hc_k_u, c_2, c_3, Nat.not_le.mp c_2]; omega) | (simp only [ct, s_szp]; (repeat' split) <;> first | rfl | omega | (simp_all; done) | (simp_all; omega))
        exact ih_16 (z + 1) (by omega) (by omega) _ (show lv_has ls 5 [(0, .ref (ax 0)), (1, .int (nI (k_u))), (2, .int (nI (s_root n B k_u))), (3, .int (nI (ct (s_szp n B k_u) (z + 1)))), (4, .int (nI (z + 1)))] from by rw [← e_4]; exact lv_sub hl [1, 2, 3, 4, 0] rfl)
      refine lv_iinc (v := (nI (ct (s_szp n B k_u) z + 1))) (lv' := [(3, .int (nI (ct (s_szp n B k_u) z + 1))), (0, .ref (ax 0)), (1, .int (nI (k_u))), (2, .int (nI (s_root n B k_u))), (4, .int (nI (z)))]) hx hb dX1_size_35 hl (k := 3) rfl (nI_1 _) (by decide) rfl (fun ls hl => ?_)
      refine lv_iinc (v := (nI (z + 1))) (lv' := [(4, .int (nI (z + 1))), (3, .int (nI (ct (s_szp n B k_u) z + 1))), (0, .ref (ax 0)), (1, .int (nI (k_u))), (2, .int (nI (s_root n B k_u)))]) hx hb dX1_size_38 hl (k := 4) rfl (nI_1 _) (by decide) rfl (fun ls hl => ?_)
      refine lv_goto (tgt := 16) hx hb dX1_size_41 (by decide) ?_
      have e_5 : ((nI (ct (s_szp n B k_u) z + 1)) : Int32) = (nI (ct (s_szp n B k_u) (z + 1))) := by first | rfl | (simp [oI_s, bI_t, bI_f, ct, s_szp, h_1, hc_k_u, c_2, c_3, Nat.not_le.mp c_2]; done) | (simp [oI_s, bI_t, bI_f, ct, s_szp, h_1, hc_k_u, c_2, c_3, Nat.not_le.mp c_2]; omega) | (simp only [ct, s_szp]; (repeat' split) <;> first | rfl | omega | (simp_all; done) | (simp_all; omega))
      exact ih_16 (z + 1) (by omega) (by omega) _ (show lv_has ls 5 [(0, .ref (ax 0)), (1, .int (nI (k_u))), (2, .int (nI (s_root n B k_u))), (3, .int (nI (ct (s_szp n B k_u) (z + 1)))), (4, .int (nI (z + 1)))] from by rw [← e_5]; exact lv_sub hl [2, 3, 4, 1, 0] rfl)
  have e_6 : ((nI (0)) : Int32) = (nI (ct (s_szp n B k_u) 0)) := by first | rfl | (simp [oI_s, bI_t, bI_f, ct, s_szp, h_1, hc_k_u]; done) | (simp [oI_s, bI_t, bI_f, ct, s_szp, h_1, hc_k_u]; omega) | (simp only [ct, s_szp]; (repeat' split) <;> first | rfl | omega | (simp_all; done) | (simp_all; omega))
  exact loop_16 (n - 0 + 1) 0 (by omega) (by omega) _ (show lv_has ls 5 [(0, .ref (ax 0)), (1, .int (nI (k_u))), (2, .int (nI (s_root n B k_u))), (3, .int (nI (ct (s_szp n B k_u) 0))), (4, .int (nI (0)))] from by rw [← e_6]; exact lv_sub hl [3, 4, 2, 1, 0] rfl)
theorem hdX1_size : yX1_size.cls = RX1 ∧ yX1_size.cls ≠ "java/lang/invoke/MethodHandle" ∧ yX1_size.cls ≠ "java/lang/invoke/VarHandle" ∧ (parseMethodDescriptor yX1_size.desc).map (fun d => d.parameters.length) = some 1 := by decide +kernel
