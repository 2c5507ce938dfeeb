set_option maxHeartbeats 4000000 in
set_option maxRecDepth 100000 in
theorem kX1_isWithin (l : Launch) (v : Int32) (lo : Int32) (hi : Int32) : Met l yX1_isWithin wsX1_isWithin ({ frames := 0, cells := 0, slots := 0, locals := 0 }) (PcS [.int (v), .int (lo), .int (hi)]) (vp_Si (fun r => r = (bI (s_in v lo hi)))) 0 0 (fun _ => False) := by
  refine Met.ofW (cc := cX1_isWithin) (maxL := 3) (ret := (some .boolean)) (by decide) rfl ?_
  intro p e s m args below meth c s₁ BL hml hv
  obtain ⟨rfl, -⟩ := hv
  have hx := BL.exec
  have hb := BL.bytes
  have hr := BL.returns
  have hts := atoms_spec (ws := wsX1_isWithin) BL.pre
  have hown : s.vm.findClass RX1 = some m.cls := findClass_of_methodNamed BL.named
  have hlocks := BL.notSynchronized
  have hl := lv_entry ([.int (v), .int (lo), .int (hi)]) (n := 3) (Nat.le_of_ble_eq_true rfl)
  rw [lg_entry_eq]
  generalize (lg_sl ([.int (v), .int (lo), .int (hi)]) ++ List.replicate (3 - (lg_sl ([.int (v), .int (lo), .int (hi)])).length) Slot.unset).toArray = ls at hl ⊢
  have hl : lv_has ls 3 [(0, .int (v)), (1, .int (lo)), (2, .int (hi))] := hl
  refine lv_iload_n hx hb dX1_isWithin_0 rfl (lv_at hl 0 rfl) ?_
  refine lv_iload_n hx hb dX1_isWithin_1 rfl (lv_at hl 1 rfl) ?_
  refine lv_icmp_lt (tgt := 14) hx hb dX1_isWithin_2 (by decide) (fun c_1 => ?_) (fun c_1 => ?_)
  · refine lv_iconst (v := (nI (0))) hx hb dX1_isWithin_14 (by decide +kernel) ?_
    exact W.zret (v := (nI (0))) hx hb hr (by decide +kernel) (fun t ht hW => ⟨_, rfl, by first | rfl | (simp [oI_s, bI_t, bI_f, s_in, c_1]; done) | (simp [oI_s, bI_t, bI_f, s_in, c_1]; omega) | (simp only [s_in]; (repeat' split) <;> first | rfl | omega | (simp_all; done) | (simp_all; omega)), ht⟩) (fun _ h => nomatch h) dX1_isWithin_15
  refine lv_iload_n hx hb dX1_isWithin_5 rfl (lv_at hl 0 rfl) ?_
  refine lv_iload_n hx hb dX1_isWithin_6 rfl (lv_at hl 2 rfl) ?_
  refine lv_icmp_gt (tgt := 14) hx hb dX1_isWithin_7 (by decide) (fun c_2 => ?_) (fun c_2 => ?_)
  · refine lv_iconst (v := (nI (0))) hx hb dX1_isWithin_14 (by decide +kernel) ?_
    exact W.zret (v := (nI (0))) hx hb hr (by decide +kernel) (fun t ht hW => ⟨_, rfl, by first | rfl | (simp [oI_s, bI_t, bI_f, s_in, c_1, c_2]; done) | (simp [oI_s, bI_t, bI_f, s_in, c_1, c_2]; omega) | (simp only [s_in]; (repeat' split) <;> first | rfl | omega | (simp_all; done) | (simp_all; omega)), ht⟩) (fun _ h => nomatch h) dX1_isWithin_15
  refine lv_iconst (v := (nI (1))) hx hb dX1_isWithin_10 (by decide +kernel) ?_
  refine lv_goto (tgt := 15) hx hb dX1_isWithin_11 (by decide) ?_
  exact W.zret (v := (nI (1))) hx hb hr (by decide +kernel) (fun t ht hW => ⟨_, rfl, by first | rfl | (simp [oI_s, bI_t, bI_f, s_in, c_1, c_2]; done) | (simp [oI_s, bI_t, bI_f, s_in, c_1, c_2]; omega) | (simp only [s_in]; (repeat' split) <;> first | rfl | omega | (simp_all; done) | (simp_all; omega)), ht⟩) (fun _ h => nomatch h) dX1_isWithin_15
theorem hsX1_isWithin : yX1_isWithin.cls ≠ "java/lang/invoke/MethodHandle" ∧ yX1_isWithin.cls ≠ "java/lang/invoke/VarHandle" ∧ (parseMethodDescriptor yX1_isWithin.desc).map (fun d => d.parameters.length) = some 3 := by decide +kernel
set_option maxHeartbeats 4000000 in
set_option maxRecDepth 100000 in
theorem kX1_placeOf (l : Launch) (u : Nat) (i : Nat) (h_u : u < 11) (h_i : i < 9) : Met l yX1_placeOf wsX1_placeOf ({ frames := 0, cells := 0, slots := 0, locals := 0 }) (PcS [.int (nI (u)), .int (nI (i))]) (vp_Si (fun r => r = (nI (8 * u + i)))) 0 0 (fun _ => False) := by
  refine Met.ofW (cc := cX1_placeOf) (maxL := 2) (ret := (some .int)) (by decide) rfl ?_
  intro p e s m args below meth c s₁ BL hml hv
  obtain ⟨rfl, -⟩ := hv
  have hx := BL.exec
  have hb := BL.bytes
  have hr := BL.returns
  have hts := atoms_spec (ws := wsX1_placeOf) BL.pre
  have hown : s.vm.findClass RX1 = some m.cls := findClass_of_methodNamed BL.named
  have hlocks := BL.notSynchronized
  have hl := lv_entry ([.int (nI (u)), .int (nI (i))]) (n := 2) (Nat.le_of_ble_eq_true rfl)
  rw [lg_entry_eq]
  generalize (lg_sl ([.int (nI (u)), .int (nI (i))]) ++ List.replicate (2 - (lg_sl ([.int (nI (u)), .int (nI (i))])).length) Slot.unset).toArray = ls at hl ⊢
  have hl : lv_has ls 2 [(0, .int (nI (u))), (1, .int (nI (i)))] := hl
  refine lv_iload_n hx hb dX1_placeOf_0 rfl (lv_at hl 0 rfl) ?_
  refine lv_bipush (v := (nI (8))) hx hb dX1_placeOf_1 (by decide +kernel) ?_
  refine lv_imul hx hb dX1_placeOf_3 ?_
  refine n_top (y := (nI (u * 8))) (pk_mul _ _) ?_
  refine lv_iload_n hx hb dX1_placeOf_4 rfl (lv_at hl 1 rfl) ?_
  refine lv_iadd hx hb dX1_placeOf_5 ?_
  refine n_top (y := (nI (u * 8 + i))) (nI_add _ _) ?_
  exact W.iret (v := (nI (u * 8 + i))) hx hb hr (fun t ht hW => ⟨_, rfl, by exact congrArg nI (by omega), ht⟩) (fun _ h => nomatch h) dX1_placeOf_6
theorem hsX1_placeOf : yX1_placeOf.cls ≠ "java/lang/invoke/MethodHandle" ∧ yX1_placeOf.cls ≠ "java/lang/invoke/VarHandle" ∧ (parseMethodDescriptor yX1_placeOf.desc).map (fun d => d.parameters.length) = some 2 := by decide +kernel
set_option maxHeartbeats 4000000 in
set_option maxRecDepth 100000 in
theorem kX1_mailAt (l : Launch) (x : Nat) (h_x : x < 80) : Met l yX1_mailAt wsX1_mailAt ({ frames := 0, cells := 0, slots := 0, locals := 0 }) (PcS [.int (nI (x))]) (vp_Si (fun r => r = (nI (x / 8)))) 0 0 (fun _ => False) := by
  refine Met.ofW (cc := cX1_mailAt) (maxL := 1) (ret := (some .int)) (by decide) rfl ?_
  intro p e s m args below meth c s₁ BL hml hv
  obtain ⟨rfl, -⟩ := hv
  have hx := BL.exec
  have hb := BL.bytes
  have hr := BL.returns
  have hts := atoms_spec (ws := wsX1_mailAt) BL.pre
  have hown : s.vm.findClass RX1 = some m.cls := findClass_of_methodNamed BL.named
  have hlocks := BL.notSynchronized
  have hl := lv_entry ([.int (nI (x))]) (n := 1) (Nat.le_of_ble_eq_true rfl)
  rw [lg_entry_eq]
  generalize (lg_sl ([.int (nI (x))]) ++ List.replicate (1 - (lg_sl ([.int (nI (x))])).length) Slot.unset).toArray = ls at hl ⊢
  have hl : lv_has ls 1 [(0, .int (nI (x)))] := hl
  refine lv_iload_n hx hb dX1_mailAt_0 rfl (lv_at hl 0 rfl) ?_
  refine lv_bipush (v := (nI (8))) hx hb dX1_mailAt_1 (by decide +kernel) ?_
  refine lv_idiv hx hb dX1_mailAt_3 (nI_ne0 (by omega) (by omega)) ?_
  refine n_top (y := (nI (x / 8))) (pk_div (by omega) (by omega) (by omega)) ?_
  exact W.iret (v := (nI (x / 8))) hx hb hr (fun t ht hW => ⟨_, rfl, rfl, ht⟩) (fun _ h => nomatch h) dX1_mailAt_4
theorem hsX1_mailAt : yX1_mailAt.cls ≠ "java/lang/invoke/MethodHandle" ∧ yX1_mailAt.cls ≠ "java/lang/invoke/VarHandle" ∧ (parseMethodDescriptor yX1_mailAt.desc).map (fun d => d.parameters.length) = some 1 := by decide +kernel
set_option maxHeartbeats 4000000 in
set_option maxRecDepth 100000 in
theorem kX1_lineAt (l : Launch) (x : Nat) (h_x : x < 80) : Met l yX1_lineAt wsX1_lineAt ({ frames := 0, cells := 0, slots := 0, locals := 0 }) (PcS [.int (nI (x))]) (vp_Si (fun r => r = (nI (x % 8)))) 0 0 (fun _ => False) := by
  refine Met.ofW (cc := cX1_lineAt) (maxL := 1) (ret := (some .int)) (by decide) rfl ?_
  intro p e s m args below meth c s₁ BL hml hv
  obtain ⟨rfl, -⟩ := hv
  have hx := BL.exec
  have hb := BL.bytes
  have hr := BL.returns
  have hts := atoms_spec (ws := wsX1_lineAt) BL.pre
  have hown : s.vm.findClass RX1 = some m.cls := findClass_of_methodNamed BL.named
  have hlocks := BL.notSynchronized
  have hl := lv_entry ([.int (nI (x))]) (n := 1) (Nat.le_of_ble_eq_true rfl)
  rw [lg_entry_eq]
  generalize (lg_sl ([.int (nI (x))]) ++ List.replicate (1 - (lg_sl ([.int (nI (x))])).length) Slot.unset).toArray = ls at hl ⊢
  have hl : lv_has ls 1 [(0, .int (nI (x)))] := hl
  refine lv_iload_n hx hb dX1_lineAt_0 rfl (lv_at hl 0 rfl) ?_
  refine lv_bipush (v := (nI (8))) hx hb dX1_lineAt_1 (by decide +kernel) ?_
  refine lv_irem hx hb dX1_lineAt_3 (nI_ne0 (by omega) (by omega)) ?_
  refine n_top (y := (nI (x % 8))) (pk_rem (by omega) (by omega) (by omega)) ?_
  exact W.iret (v := (nI (x % 8))) hx hb hr (fun t ht hW => ⟨_, rfl, rfl, ht⟩) (fun _ h => nomatch h) dX1_lineAt_4
theorem hsX1_lineAt : yX1_lineAt.cls ≠ "java/lang/invoke/MethodHandle" ∧ yX1_lineAt.cls ≠ "java/lang/invoke/VarHandle" ∧ (parseMethodDescriptor yX1_lineAt.desc).map (fun d => d.parameters.length) = some 1 := by decide +kernel
set_option maxHeartbeats 4000000 in
set_option maxRecDepth 100000 in
theorem kX1_isLine (l : Launch) (D : va_G) (cI cZ cA : ClassId) (ax : Nat → Nat) (n : Nat) (B : Nat → Nat → Nat) (Q : Nat → Option Nat) (cn : Nat → Bool) (rt : Nat → Nat) (wd : Nat → Option Nat) (qf : Nat → Option Nat) (T : Nat → Nat → Nat) (x : Nat) (hB : Bok n B) (h_x : x < 80) : Met l yX1_isLine wsX1_isLine ({ frames := 1, cells := 0, slots := 0, locals := 22 }) (PcR D [(cI, .int), (cZ, .boolean), (cA, .array .int)] (wX cI cZ cA ax n B Q cn rt wd qf T) [.ref (ax 0), .int (nI (x))]) (vp_Si (fun r => r = (bI (s_ln B x)))) 0 0 (fun _ => False) := by
  refine Met.ofW (cc := cX1_isLine) (maxL := 2) (ret := (some .boolean)) (by decide) rfl ?_
  intro p e s m args below meth c s₁ BL hml hv
  obtain ⟨rfl, hP, hK⟩ := hv
  have hx := BL.exec
  have hb := BL.bytes
  have hr := BL.returns
  have hts := atoms_spec (ws := wsX1_isLine) BL.pre
  have hown : s.vm.findClass RX1 = some m.cls := findClass_of_methodNamed BL.named
  have hlocks := BL.notSynchronized
  have hin : ∀ w ∈ wsX10, w ∈ wsX1_isLine := by decide +kernel
  have hf_26 := hts (.fieldLink RX1 26 "TalkRebuilder" "lineCounts" "[I") (by decide +kernel)
  have hl := lv_entry ([.ref (ax 0), .int (nI (x))]) (n := 2) (Nat.le_of_ble_eq_true rfl)
  rw [lg_entry_eq]
  generalize (lg_sl ([.ref (ax 0), .int (nI (x))]) ++ List.replicate (2 - (lg_sl ([.ref (ax 0), .int (nI (x))])).length) Slot.unset).toArray = ls at hl ⊢
  have hl : lv_has ls 2 [(0, .ref (ax 0)), (1, .int (nI (x)))] := hl
  have hn10 := hB.1
  refine lv_iload_n hx hb dX1_isLine_0 rfl (lv_at hl 1 rfl) ?_
  refine lv_iconst (v := (nI (0))) hx hb dX1_isLine_1 (by decide +kernel) ?_
  refine lv_bipush (v := (nI (79))) hx hb dX1_isLine_2 (by decide +kernel) ?_
  refine ro_S (As := [.int (nI (x)), .int (nI (0)), .int (nI (79))]) (v := (bI (s_in (nI (x)) (nI (0)) (nI (79))))) ⟨hx, hb, hml, hown, hts⟩ (kX1_isWithin l (nI (x)) (nI (0)) (nI (79)) ) (va_cwS 3 hts gX1_isLine_X1_isWithin rfl rfl rfl hsX1_isWithin ⟨Nat.le_of_ble_eq_true rfl, Nat.le_of_ble_eq_true rfl⟩) rfl hl.1 rfl (Nat.le_of_ble_eq_true rfl) dX1_isLine_4 ⟨Nat.zero_le _, Nat.zero_le _⟩ ?_
  refine n_top (y := (bI (true))) (by rw [s_in_o (by omega) (by omega) (by decide)]) ?_
  refine y_eq (tgt := 30) hx hb dX1_isLine_7 (by decide) (fun q => nomatch q) (fun _ => ?_)
  refine lv_iload_n hx hb dX1_isLine_10 rfl (lv_at hl 1 rfl) ?_
  refine ro_S (As := [.int (nI (x))]) (v := (nI (x % 8))) ⟨hx, hb, hml, hown, hts⟩ (kX1_lineAt l x h_x) (va_cwS 1 hts gX1_isLine_X1_lineAt rfl rfl rfl hsX1_lineAt ⟨Nat.le_of_ble_eq_true rfl, Nat.le_of_ble_eq_true rfl⟩) rfl hl.1 rfl (Nat.le_of_ble_eq_true rfl) dX1_isLine_11 ⟨Nat.zero_le _, Nat.zero_le _⟩ ?_
  refine lv_aload_n hx hb dX1_isLine_14 rfl (lv_at hl 0 rfl) ?_
  refine va_get (D := D) (ci := 3) (v := .ref (ax 5)) (C := RX1) (T := TX1) (N := 12) hx hb hts hin hown hK hP 0 rfl rfl 5 (by decide) hf_26 (fun _ h9 => h9) rfl dX1_isLine_15 ?_
  refine lv_iload_n hx hb dX1_isLine_18 rfl (lv_at hl 1 rfl) ?_
  refine ro_S (As := [.int (nI (x))]) (v := (nI (x / 8))) ⟨hx, hb, hml, hown, hts⟩ (kX1_mailAt l x h_x) (va_cwS 1 hts gX1_isLine_X1_mailAt rfl rfl rfl hsX1_mailAt ⟨Nat.le_of_ble_eq_true rfl, Nat.le_of_ble_eq_true rfl⟩) rfl hl.1 rfl (Nat.le_of_ble_eq_true rfl) dX1_isLine_19 ⟨Nat.zero_le _, Nat.zero_le _⟩ ?_
  refine n_iald hx hb hK hP 5 0 rfl rfl (i := x / 8) (by omega) (by decide) dX1_isLine_22 ?_
  have hq_1 := hB.2.2.1 (x / 8)
  refine n_ge (tgt := 30) hx hb (by omega) (by omega) dX1_isLine_23 (by decide) (fun c_2 => ?_) (fun c_2 => ?_)
  · refine lv_iconst (v := (nI (0))) hx hb dX1_isLine_30 (by decide +kernel) ?_
    exact W.zret (v := (nI (0))) hx hb hr (by decide +kernel) (fun t ht hW => ⟨_, rfl, by first | rfl | (simp [oI_s, bI_t, bI_f, s_ln, c_2, Nat.not_lt.mpr c_2]; done) | (simp [oI_s, bI_t, bI_f, s_ln, c_2, Nat.not_lt.mpr c_2]; omega) | (simp only [s_ln]; (repeat' split) <;> first | rfl | omega | (simp_all; done) | (simp_all; omega)), ht⟩) (fun _ h => nomatch h) dX1_isLine_31
  refine lv_iconst (v := (nI (1))) hx hb dX1_isLine_26 (by decide +kernel) ?_
  refine lv_goto (tgt := 31) hx hb dX1_isLine_27 (by decide) ?_
  exact W.zret (v := (nI (1))) hx hb hr (by decide +kernel) (fun t ht hW => ⟨_, rfl, by first | rfl | (simp [oI_s, bI_t, bI_f, s_ln, c_2, Nat.not_le.mp c_2]; done) | (simp [oI_s, bI_t, bI_f, s_ln, c_2, Nat.not_le.mp c_2]; omega) | (simp only [s_ln]; (repeat' split) <;> first | rfl | omega | (simp_all; done) | (simp_all; omega)), ht⟩) (fun _ h => nomatch h) dX1_isLine_31
theorem hdX1_isLine : yX1_isLine.cls = RX1 ∧ yX1_isLine.cls ≠ "java/lang/invoke/MethodHandle" ∧ yX1_isLine.cls ≠ "java/lang/invoke/VarHandle" ∧ (parseMethodDescriptor yX1_isLine.desc).map (fun d => d.parameters.length) = some 1 := by decide +kernel
set_option maxHeartbeats 4000000 in
set_option maxRecDepth 100000 in
theorem kX1_mailOfDate (l : Launch) (D : va_G) (cI cZ cA : ClassId) (ax : Nat → Nat) (n : Nat) (B : Nat → Nat → Nat) (Q : Nat → Option Nat) (cn : Nat → Bool) (rt : Nat → Nat) (wd : Nat → Option Nat) (qf : Nat → Option Nat) (T : Nat → Nat → Nat) (w : Nat) (hB : Bok n B) (h_w : w ≤ 99) : Met l yX1_mailOfDate wsX1_mailOfDate ({ frames := 0, cells := 0, slots := 0, locals := 0 }) (PcR D [(cI, .int), (cZ, .boolean), (cA, .array .int)] (wX cI cZ cA ax n B Q cn rt wd qf T) [.ref (ax 0), .int (nI (w))]) (vp_Si (fun r => r = (oI (s_dated (B 0) w n)))) 0 0 (fun _ => False) := by
  refine Met.ofW (cc := cX1_mailOfDate) (maxL := 3) (ret := (some .int)) (by decide) rfl ?_
  intro p e s m args below meth c s₁ BL hml hv
  obtain ⟨rfl, hP, hK⟩ := hv
  have hx := BL.exec
  have hb := BL.bytes
  have hr := BL.returns
  have hts := atoms_spec (ws := wsX1_mailOfDate) BL.pre
  have hown : s.vm.findClass RX1 = some m.cls := findClass_of_methodNamed BL.named
  have hlocks := BL.notSynchronized
  have hin : ∀ w ∈ wsX10, w ∈ wsX1_mailOfDate := by decide +kernel
  have hf_9 := hts (.fieldLink RX1 9 "TalkRebuilder" "mailCount" "I") (by decide +kernel)
  have hf_13 := hts (.fieldLink RX1 13 "TalkRebuilder" "dates" "[I") (by decide +kernel)
  have hl := lv_entry ([.ref (ax 0), .int (nI (w))]) (n := 3) (Nat.le_of_ble_eq_true rfl)
  rw [lg_entry_eq]
  generalize (lg_sl ([.ref (ax 0), .int (nI (w))]) ++ List.replicate (3 - (lg_sl ([.ref (ax 0), .int (nI (w))])).length) Slot.unset).toArray = ls at hl ⊢
  have hl : lv_has ls 3 [(0, .ref (ax 0)), (1, .int (nI (w)))] := hl
  have hn10 := hB.1
  refine lv_iconst (v := (nI (0))) hx hb dX1_mailOfDate_0 (by decide +kernel) ?_
  refine lv_istore_n (lv' := [(2, .int (nI (0))), (0, .ref (ax 0)), (1, .int (nI (w)))]) hx hb dX1_mailOfDate_1 rfl hl (by decide) rfl (fun ls hl => ?_)
  have loop_2 : ∀ (N : Nat) (z : Nat), n - z < N → (z ≤ n) → (∀ k, k < z → ¬ B 0 k = w) → ∀ (ls : Array Slot), lv_has ls 3 [(0, .ref (ax 0)), (1, .int (nI (w))), (2, .int (nI (z)))] → W p l e (headSpec wsX1_mailOfDate ({ frames := 0, cells := 0, slots := 0, locals := 0 })).room s m ([.ref (ax 0), .int (nI (w))] : List Value).toArray below meth c s.heap [] 0 0 (MQ below (vp_Si (fun r => r = (oI (s_dated (B 0) w n)))) ([.ref (ax 0), .int (nI (w))] : List Value).toArray s 0 0 (fun _ => False)) (F0 m 2 ls []) := by
    intro N
    induction N with
    | zero => intro z hmu; exact absurd hmu (Nat.not_lt_zero _)
    | succ N ih_2 =>
      intro z hmu_2 h_z h_no ls hl
      refine lv_iload_n hx hb dX1_mailOfDate_2 rfl (lv_at hl 2 rfl) ?_
      refine lv_aload_n hx hb dX1_mailOfDate_3 rfl (lv_at hl 0 rfl) ?_
      refine va_get (D := D) (ci := 3) (v := .int (nI (n))) (C := RX1) (T := TX1) (N := 12) hx hb hts hin hown hK hP 0 rfl rfl 0 (by decide) hf_9 (fun _ h9 => h9) rfl dX1_mailOfDate_4 ?_
      refine n_ge (tgt := 28) hx hb (by omega) (by omega) dX1_mailOfDate_7 (by decide) (fun c_1 => ?_) (fun c_1 => ?_)
      · refine lv_iconst (v := (oI (none))) hx hb dX1_mailOfDate_28 (by decide +kernel) ?_
        exact W.iret (v := (oI (none))) hx hb hr (fun t ht hW => ⟨_, rfl, by first | (rw [s_dated_at hB.2.2.2.2.1 (k := z) (by omega) c_1]; rfl) | (rw [s_dated_no (fun k hk => h_no k (by omega))]), ht⟩) (fun _ h => nomatch h) dX1_mailOfDate_29
      refine lv_aload_n hx hb dX1_mailOfDate_10 rfl (lv_at hl 0 rfl) ?_
      refine va_get (D := D) (ci := 3) (v := .ref (ax 1)) (C := RX1) (T := TX1) (N := 12) hx hb hts hin hown hK hP 0 rfl rfl 1 (by decide) hf_13 (fun _ h9 => h9) rfl dX1_mailOfDate_11 ?_
      refine lv_iload_n hx hb dX1_mailOfDate_14 rfl (lv_at hl 2 rfl) ?_
      refine n_iald hx hb hK hP 1 0 rfl rfl (i := z) (by omega) (by decide) dX1_mailOfDate_15 ?_
      have hq_2 := hB.2.1 0 z
      refine lv_iload_n hx hb dX1_mailOfDate_16 rfl (lv_at hl 1 rfl) ?_
      refine n_ne (tgt := 22) hx hb (by omega) (by omega) dX1_mailOfDate_17 (by decide) (fun c_3 => ?_) (fun c_3 => ?_)
      · refine lv_iinc (v := (nI (z + 1))) (lv' := [(2, .int (nI (z + 1))), (0, .ref (ax 0)), (1, .int (nI (w)))]) hx hb dX1_mailOfDate_22 hl (k := 2) rfl (nI_1 _) (by decide) rfl (fun ls hl => ?_)
        refine lv_goto (tgt := 2) hx hb dX1_mailOfDate_25 (by decide) ?_
        exact ih_2 (z + 1) (by omega) (by omega) (by first | exact fun _ h => absurd h (Nat.not_lt_zero _) | (intro k hk; rcases Nat.lt_or_ge k z with q | q; exact h_no k q; rw [show k = z from by omega]; exact c_3)) _ (show lv_has ls 3 [(0, .ref (ax 0)), (1, .int (nI (w))), (2, .int (nI (z + 1)))] from by exact lv_sub hl [1, 2, 0] rfl)
      refine lv_iload_n hx hb dX1_mailOfDate_20 rfl (lv_at hl 2 rfl) ?_
      exact W.iret (v := (nI (z))) hx hb hr (fun t ht hW => ⟨_, rfl, by first | (rw [s_dated_at hB.2.2.2.2.1 (k := z) (by omega) c_3]; rfl) | (rw [s_dated_no (fun k hk => h_no k (by omega))]), ht⟩) (fun _ h => nomatch h) dX1_mailOfDate_21
  exact loop_2 (n - 0 + 1) 0 (by omega) (by omega) (by first | exact fun _ h => absurd h (Nat.not_lt_zero _) | (intro k hk; rcases Nat.lt_or_ge k z with q | q; exact h_no k q; rw [show k = z from by omega]; exact rfl)) _ (show lv_has ls 3 [(0, .ref (ax 0)), (1, .int (nI (w))), (2, .int (nI (0)))] from by exact lv_sub hl [1, 2, 0] rfl)
theorem hdX1_mailOfDate : yX1_mailOfDate.cls = RX1 ∧ yX1_mailOfDate.cls ≠ "java/lang/invoke/MethodHandle" ∧ yX1_mailOfDate.cls ≠ "java/lang/invoke/VarHandle" ∧ (parseMethodDescriptor yX1_mailOfDate.desc).map (fun d => d.parameters.length) = some 1 := by decide +kernel
set_option maxHeartbeats 4000000 in
set_option maxRecDepth 100000 in
theorem kX1_parentOf (l : Launch) (D : va_G) (cI cZ cA : ClassId) (ax : Nat → Nat) (n : Nat) (B : Nat → Nat → Nat) (Q : Nat → Option Nat) (cn : Nat → Bool) (rt : Nat → Nat) (wd : Nat → Option Nat) (qf : Nat → Option Nat) (T : Nat → Nat → Nat) (u : Nat) (hB : Bok n B) (h_u : u < n) : Met l yX1_parentOf wsX1_parentOf ({ frames := 1, cells := 0, slots := 0, locals := 22 }) (PcR D [(cI, .int), (cZ, .boolean), (cA, .array .int)] (wX cI cZ cA ax n B Q cn rt wd qf T) [.ref (ax 0), .int (nI (u))]) (vp_Si (fun r => r = (oI (s_par n B u)))) 0 0 (fun _ => False) := by
  refine Met.ofW (cc := cX1_parentOf) (maxL := 2) (ret := (some .int)) (by decide) rfl ?_
  intro p e s m args below meth c s₁ BL hml hv
  obtain ⟨rfl, hP, hK⟩ := hv
  have hx := BL.exec
  have hb := BL.bytes
  have hr := BL.returns
  have hts := atoms_spec (ws := wsX1_parentOf) BL.pre
  have hown : s.vm.findClass RX1 = some m.cls := findClass_of_methodNamed BL.named
  have hlocks := BL.notSynchronized
  have hin : ∀ w ∈ wsX10, w ∈ wsX1_parentOf := by decide +kernel
  have hf_23 := hts (.fieldLink RX1 23 "TalkRebuilder" "answeredDates" "[I") (by decide +kernel)
  have hl := lv_entry ([.ref (ax 0), .int (nI (u))]) (n := 2) (Nat.le_of_ble_eq_true rfl)
  rw [lg_entry_eq]
  generalize (lg_sl ([.ref (ax 0), .int (nI (u))]) ++ List.replicate (2 - (lg_sl ([.ref (ax 0), .int (nI (u))])).length) Slot.unset).toArray = ls at hl ⊢
  have hl : lv_has ls 2 [(0, .ref (ax 0)), (1, .int (nI (u)))] := hl
  have hn10 := hB.1
  refine lv_aload_n hx hb dX1_parentOf_0 rfl (lv_at hl 0 rfl) ?_
  refine lv_aload_n hx hb dX1_parentOf_1 rfl (lv_at hl 0 rfl) ?_
  refine va_get (D := D) (ci := 3) (v := .ref (ax 4)) (C := RX1) (T := TX1) (N := 12) hx hb hts hin hown hK hP 0 rfl rfl 4 (by decide) hf_23 (fun _ h9 => h9) rfl dX1_parentOf_2 ?_
  refine lv_iload_n hx hb dX1_parentOf_5 rfl (lv_at hl 1 rfl) ?_
  refine n_iald hx hb hK hP 4 0 rfl rfl (i := u) (by omega) (by decide) dX1_parentOf_6 ?_
  have hq_1 := hB.2.1 3 u
  refine ro_V (As := [.int (nI (B 3 u))]) (v := (oI (s_dated (B 0) (B 3 u) n))) ⟨hx, hb, hml, hown, hts⟩ (kX1_mailOfDate l D cI cZ cA ax n B Q cn rt wd qf T (B 3 u) hB (by omega)) (cwV 1 hts gX1_parentOf_X1_mailOfDate rfl rfl rfl hdX1_mailOfDate ⟨Nat.le_of_ble_eq_true rfl, Nat.le_of_ble_eq_true rfl⟩) hK hP (ci := 3) rfl (q0 := 0) rfl rfl rfl hl.1 rfl (Nat.le_of_ble_eq_true rfl) dX1_parentOf_7 ⟨Nat.zero_le _, Nat.zero_le _⟩ ?_
  exact W.iret (v := (oI (s_dated (B 0) (B 3 u) n))) hx hb hr (fun t ht hW => ⟨_, rfl, by rw [s_par_d hB], ht⟩) (fun _ h => nomatch h) dX1_parentOf_10
theorem hdX1_parentOf : yX1_parentOf.cls = RX1 ∧ yX1_parentOf.cls ≠ "java/lang/invoke/MethodHandle" ∧ yX1_parentOf.cls ≠ "java/lang/invoke/VarHandle" ∧ (parseMethodDescriptor yX1_parentOf.desc).map (fun d => d.parameters.length) = some 1 := by decide +kernel
set_option maxHeartbeats 4000000 in
set_option maxRecDepth 100000 in
theorem kX1_answersMissing (l : Launch) (D : va_G) (cI cZ cA : ClassId) (ax : Nat → Nat) (n : Nat) (B : Nat → Nat → Nat) (Q : Nat → Option Nat) (cn : Nat → Bool) (rt : Nat → Nat) (wd : Nat → Option Nat) (qf : Nat → Option Nat) (T : Nat → Nat → Nat) (u : Nat) (hB : Bok n B) (h_u : u < n) : Met l yX1_answersMissing wsX1_answersMissing ({ frames := 2, cells := 0, slots := 0, locals := 43 }) (PcR D [(cI, .int), (cZ, .boolean), (cA, .array .int)] (wX cI cZ cA ax n B Q cn rt wd qf T) [.ref (ax 0), .int (nI (u))]) (vp_Si (fun r => r = (bI (s_am n B u)))) 0 0 (fun _ => False) := by
  refine Met.ofW (cc := cX1_answersMissing) (maxL := 2) (ret := (some .boolean)) (by decide) rfl ?_
  intro p e s m args below meth c s₁ BL hml hv
  obtain ⟨rfl, hP, hK⟩ := hv
  have hx := BL.exec
  have hb := BL.bytes
  have hr := BL.returns
  have hts := atoms_spec (ws := wsX1_answersMissing) BL.pre
  have hown : s.vm.findClass RX1 = some m.cls := findClass_of_methodNamed BL.named
  have hlocks := BL.notSynchronized
  have hin : ∀ w ∈ wsX10, w ∈ wsX1_answersMissing := by decide +kernel
  have hf_23 := hts (.fieldLink RX1 23 "TalkRebuilder" "answeredDates" "[I") (by decide +kernel)
  have hl := lv_entry ([.ref (ax 0), .int (nI (u))]) (n := 2) (Nat.le_of_ble_eq_true rfl)
  rw [lg_entry_eq]
  generalize (lg_sl ([.ref (ax 0), .int (nI (u))]) ++ List.replicate (2 - (lg_sl ([.ref (ax 0), .int (nI (u))])).length) Slot.unset).toArray = ls at hl ⊢
  have hl : lv_has ls 2 [(0, .ref (ax 0)), (1, .int (nI (u)))] := hl
  have hn10 := hB.1
  refine lv_aload_n hx hb dX1_answersMissing_0 rfl (lv_at hl 0 rfl) ?_
  refine va_get (D := D) (ci := 3) (v := .ref (ax 4)) (C := RX1) (T := TX1) (N := 12) hx hb hts hin hown hK hP 0 rfl rfl 4 (by decide) hf_23 (fun _ h9 => h9) rfl dX1_answersMissing_1 ?_
  refine lv_iload_n hx hb dX1_answersMissing_4 rfl (lv_at hl 1 rfl) ?_
  refine n_iald hx hb hK hP 4 0 rfl rfl (i := u) (by omega) (by decide) dX1_answersMissing_5 ?_
  have hq_1 := hB.2.1 3 u
  refine z_eq (tgt := 22) hx hb (by omega) dX1_answersMissing_6 (by decide) (fun c_2 => ?_) (fun c_2 => ?_)
  · refine lv_iconst (v := (nI (0))) hx hb dX1_answersMissing_22 (by decide +kernel) ?_
    exact W.zret (v := (nI (0))) hx hb hr (by decide +kernel) (fun t ht hW => ⟨_, rfl, by first | rfl | (simp [oI_s, bI_t, bI_f, s_am, c_2]; done) | (simp [oI_s, bI_t, bI_f, s_am, c_2]; omega) | (simp only [s_am]; (repeat' split) <;> first | rfl | omega | (simp_all; done) | (simp_all; omega)), ht⟩) (fun _ h => nomatch h) dX1_answersMissing_23
  refine lv_aload_n hx hb dX1_answersMissing_9 rfl (lv_at hl 0 rfl) ?_
  refine lv_iload_n hx hb dX1_answersMissing_10 rfl (lv_at hl 1 rfl) ?_
  refine ro_V (As := [.int (nI (u))]) (v := (oI (s_par n B u))) ⟨hx, hb, hml, hown, hts⟩ (kX1_parentOf l D cI cZ cA ax n B Q cn rt wd qf T u hB h_u) (cwV 1 hts gX1_answersMissing_X1_parentOf rfl rfl rfl hdX1_parentOf ⟨Nat.le_of_ble_eq_true rfl, Nat.le_of_ble_eq_true rfl⟩) hK hP (ci := 3) rfl (q0 := 0) rfl rfl rfl hl.1 rfl (Nat.le_of_ble_eq_true rfl) dX1_answersMissing_11 ⟨Nat.zero_le _, Nat.zero_le _⟩ ?_
  refine lv_iconst (v := (oI (none))) hx hb dX1_answersMissing_14 (by decide +kernel) ?_
  refine o_ne (tgt := 22) hx hb (s_par_b hn10) dX1_answersMissing_15 (by decide) (fun kc_3 c_3 => ?_) (fun c_3 => ?_)
  · refine lv_iconst (v := (nI (0))) hx hb dX1_answersMissing_22 (by decide +kernel) ?_
    exact W.zret (v := (nI (0))) hx hb hr (by decide +kernel) (fun t ht hW => ⟨_, rfl, by first | rfl | (simp [oI_s, bI_t, bI_f, s_am, c_2, c_3]; done) | (simp [oI_s, bI_t, bI_f, s_am, c_2, c_3]; omega) | (simp only [s_am]; (repeat' split) <;> first | rfl | omega | (simp_all; done) | (simp_all; omega)), ht⟩) (fun _ h => nomatch h) dX1_answersMissing_23
  refine lv_iconst (v := (nI (1))) hx hb dX1_answersMissing_18 (by decide +kernel) ?_
  refine lv_goto (tgt := 23) hx hb dX1_answersMissing_19 (by decide) ?_
  exact W.zret (v := (nI (1))) hx hb hr (by decide +kernel) (fun t ht hW => ⟨_, rfl, by first | rfl | (simp [oI_s, bI_t, bI_f, s_am, c_2, c_3]; done) | (simp [oI_s, bI_t, bI_f, s_am, c_2, c_3]; omega) | (simp only [s_am]; (repeat' split) <;> first | rfl | omega | (simp_all; done) | (simp_all; omega)), ht⟩) (fun _ h => nomatch h) dX1_answersMissing_23
theorem hdX1_answersMissing : yX1_answersMissing.cls = RX1 ∧ yX1_answersMissing.cls ≠ "java/lang/invoke/MethodHandle" ∧ yX1_answersMissing.cls ≠ "java/lang/invoke/VarHandle" ∧ (parseMethodDescriptor yX1_answersMissing.desc).map (fun d => d.parameters.length) = some 1 := by decide +kernel
set_option maxHeartbeats 4000000 in
set_option maxRecDepth 100000 in
theorem kX1_hasPartner (l : Launch) (D : va_G) (cI cZ cA : ClassId) (ax : Nat → Nat) (n : Nat) (B : Nat → Nat → Nat) (Q : Nat → Option Nat) (cn : Nat → Bool) (rt : Nat → Nat) (wd : Nat → Option Nat) (qf : Nat → Option Nat) (T : Nat → Nat → Nat) (x : Nat) (hB : Bok n B) (hQ : QA n B Q) (h_x : x < 80) : Met l yX1_hasPartner wsX1_hasPartner ({ frames := 2, cells := 0, slots := 0, locals := 43 }) (PcR D [(cI, .int), (cZ, .boolean), (cA, .array .int)] (wX cI cZ cA ax n B Q cn rt wd qf T) [.ref (ax 0), .int (nI (x))]) (vp_Si (fun r => r = (bI (s_hp n B x)))) 0 0 (fun _ => False) := by
  refine Met.ofW (cc := cX1_hasPartner) (maxL := 2) (ret := (some .boolean)) (by decide) rfl ?_
  intro p e s m args below meth c s₁ BL hml hv
  obtain ⟨rfl, hP, hK⟩ := hv
  have hx := BL.exec
  have hb := BL.bytes
  have hr := BL.returns
  have hts := atoms_spec (ws := wsX1_hasPartner) BL.pre
  have hown : s.vm.findClass RX1 = some m.cls := findClass_of_methodNamed BL.named
  have hlocks := BL.notSynchronized
  have hin : ∀ w ∈ wsX10, w ∈ wsX1_hasPartner := by decide +kernel
  have hf_35 := hts (.fieldLink RX1 35 "TalkRebuilder" "partnersAt" "[I") (by decide +kernel)
  have hl := lv_entry ([.ref (ax 0), .int (nI (x))]) (n := 2) (Nat.le_of_ble_eq_true rfl)
  rw [lg_entry_eq]
  generalize (lg_sl ([.ref (ax 0), .int (nI (x))]) ++ List.replicate (2 - (lg_sl ([.ref (ax 0), .int (nI (x))])).length) Slot.unset).toArray = ls at hl ⊢
  have hl : lv_has ls 2 [(0, .ref (ax 0)), (1, .int (nI (x)))] := hl
  have hn10 := hB.1
  refine lv_aload_n hx hb dX1_hasPartner_0 rfl (lv_at hl 0 rfl) ?_
  refine lv_iload_n hx hb dX1_hasPartner_1 rfl (lv_at hl 1 rfl) ?_
  refine ro_V (As := [.int (nI (x))]) (v := (bI (s_ln B x))) ⟨hx, hb, hml, hown, hts⟩ (kX1_isLine l D cI cZ cA ax n B Q cn rt wd qf T x hB h_x) (cwV 1 hts gX1_hasPartner_X1_isLine rfl rfl rfl hdX1_isLine ⟨Nat.le_of_ble_eq_true rfl, Nat.le_of_ble_eq_true rfl⟩) hK hP (ci := 3) rfl (q0 := 0) rfl rfl rfl hl.1 rfl (Nat.le_of_ble_eq_true rfl) dX1_hasPartner_2 ⟨Nat.zero_le _, Nat.zero_le _⟩ ?_
  refine y_eq (tgt := 22) hx hb dX1_hasPartner_5 (by decide) (fun c_1 => ?_) (fun c_1 => ?_)
  · refine lv_iconst (v := (nI (0))) hx hb dX1_hasPartner_22 (by decide +kernel) ?_
    exact W.zret (v := (nI (0))) hx hb hr (by decide +kernel) (fun t ht hW => ⟨_, rfl, by first | exact s_hp_bt c_1 | exact s_hp_bf c_1 | exact s_hp_bf (s_q_none c_1), ht⟩) (fun _ h => nomatch h) dX1_hasPartner_23
  refine lv_aload_n hx hb dX1_hasPartner_8 rfl (lv_at hl 0 rfl) ?_
  refine va_get (D := D) (ci := 3) (v := .ref (ax 8)) (C := RX1) (T := TX1) (N := 12) hx hb hts hin hown hK hP 0 rfl rfl 8 (by decide) hf_35 (fun _ h9 => h9) rfl dX1_hasPartner_9 ?_
  refine lv_iload_n hx hb dX1_hasPartner_12 rfl (lv_at hl 1 rfl) ?_
  refine n_iald hx hb hK hP 8 0 rfl rfl (i := x) (by omega) (by decide) dX1_hasPartner_13 ?_
  refine n_top (y := (oI (s_q n B x))) (by rw [hQ x h_x]) ?_
  refine lv_iconst (v := (oI (none))) hx hb dX1_hasPartner_14 (by decide +kernel) ?_
  refine o_eq (tgt := 22) hx hb (s_q_b hB) dX1_hasPartner_15 (by decide) (fun c_2 => ?_) (fun kc_2 c_2 => ?_)
  · refine lv_iconst (v := (nI (0))) hx hb dX1_hasPartner_22 (by decide +kernel) ?_
    exact W.zret (v := (nI (0))) hx hb hr (by decide +kernel) (fun t ht hW => ⟨_, rfl, by first | exact s_hp_bt c_2 | exact s_hp_bf c_2 | exact s_hp_bf (s_q_none c_2), ht⟩) (fun _ h => nomatch h) dX1_hasPartner_23
  refine lv_iconst (v := (nI (1))) hx hb dX1_hasPartner_18 (by decide +kernel) ?_
  refine lv_goto (tgt := 23) hx hb dX1_hasPartner_19 (by decide) ?_
  exact W.zret (v := (nI (1))) hx hb hr (by decide +kernel) (fun t ht hW => ⟨_, rfl, by first | exact s_hp_bt c_2 | exact s_hp_bf c_2 | exact s_hp_bf (s_q_none c_2), ht⟩) (fun _ h => nomatch h) dX1_hasPartner_23
theorem hdX1_hasPartner : yX1_hasPartner.cls = RX1 ∧ yX1_hasPartner.cls ≠ "java/lang/invoke/MethodHandle" ∧ yX1_hasPartner.cls ≠ "java/lang/invoke/VarHandle" ∧ (parseMethodDescriptor yX1_hasPartner.desc).map (fun d => d.parameters.length) = some 1 := by decide +kernel
set_option maxHeartbeats 4000000 in
set_option maxRecDepth 100000 in
theorem kX1_originOf (l : Launch) (D : va_G) (cI cZ cA : ClassId) (ax : Nat → Nat) (n : Nat) (B : Nat → Nat → Nat) (Q : Nat → Option Nat) (cn : Nat → Bool) (rt : Nat → Nat) (wd : Nat → Option Nat) (qf : Nat → Option Nat) (T : Nat → Nat → Nat) (x : Nat) (hB : Bok n B) (hQ : QA n B Q) (h_x : x < 80) (h_l : s_ln B x = true) : Met l yX1_originOf wsX1_originOf ({ frames := 3, cells := 0, slots := 0, locals := 64 }) (PcR D [(cI, .int), (cZ, .boolean), (cA, .array .int)] (wX cI cZ cA ax n B Q cn rt wd qf T) [.ref (ax 0), .int (nI (x))]) (vp_Si (fun r => r = (nI (s_org n B (x / 8) (x % 8))))) 0 0 (fun _ => False) := by
  refine Met.ofW (cc := cX1_originOf) (maxL := 4) (ret := (some .int)) (by decide) rfl ?_
  intro p e s m args below meth c s₁ BL hml hv
  obtain ⟨rfl, hP, hK⟩ := hv
  have hx := BL.exec
  have hb := BL.bytes
  have hr := BL.returns
  have hts := atoms_spec (ws := wsX1_originOf) BL.pre
  have hown : s.vm.findClass RX1 = some m.cls := findClass_of_methodNamed BL.named
  have hlocks := BL.notSynchronized
  have hin : ∀ w ∈ wsX10, w ∈ wsX1_originOf := by decide +kernel
  have hf_35 := hts (.fieldLink RX1 35 "TalkRebuilder" "partnersAt" "[I") (by decide +kernel)
  have hl := lv_entry ([.ref (ax 0), .int (nI (x))]) (n := 4) (Nat.le_of_ble_eq_true rfl)
  rw [lg_entry_eq]
  generalize (lg_sl ([.ref (ax 0), .int (nI (x))]) ++ List.replicate (4 - (lg_sl ([.ref (ax 0), .int (nI (x))])).length) Slot.unset).toArray = ls at hl ⊢
  have hl : lv_has ls 4 [(0, .ref (ax 0)), (1, .int (nI (x)))] := hl
  have hn10 := hB.1
  refine lv_iload_n hx hb dX1_originOf_0 rfl (lv_at hl 1 rfl) ?_
  refine lv_istore_n (lv' := [(2, .int (nI (x))), (0, .ref (ax 0)), (1, .int (nI (x)))]) hx hb dX1_originOf_1 rfl hl (by decide) rfl (fun ls hl => ?_)
  refine lv_iconst (v := (nI (0))) hx hb dX1_originOf_2 (by decide +kernel) ?_
  refine lv_istore_n (lv' := [(3, .int (nI (0))), (2, .int (nI (x))), (0, .ref (ax 0)), (1, .int (nI (x)))]) hx hb dX1_originOf_3 rfl hl (by decide) rfl (fun ls hl => ?_)
  have loop_4 : ∀ (N : Nat) (o : Nat) (z : Nat), 3 - z < N → (z ≤ 3) → (o < 80) → (s_ln B o = true) → (B 5 o + z ≤ 3) → (s_or n B 4 (x / 8) (x % 8) = s_or n B (4 - z) (o / 8) (o % 8)) → ∀ (ls : Array Slot), lv_has ls 4 [(0, .ref (ax 0)), (1, .int (nI (x))), (2, .int (nI (o))), (3, .int (nI (z)))] → W p l e (headSpec wsX1_originOf ({ frames := 3, cells := 0, slots := 0, locals := 64 })).room s m ([.ref (ax 0), .int (nI (x))] : List Value).toArray below meth c s.heap [] 0 0 (MQ below (vp_Si (fun r => r = (nI (s_org n B (x / 8) (x % 8))))) ([.ref (ax 0), .int (nI (x))] : List Value).toArray s 0 0 (fun _ => False)) (F0 m 4 ls []) := by
    intro N
    induction N with
    | zero => intro o z hmu; exact absurd hmu (Nat.not_lt_zero _)
    | succ N ih_4 =>
      intro o z hmu_4 h_z h_o8 h_ol h_m h_o ls hl
      refine lv_iload_n hx hb dX1_originOf_4 rfl (lv_at hl 3 rfl) ?_
      refine lv_iconst (v := (nI (3))) hx hb dX1_originOf_5 (by decide +kernel) ?_
      refine n_ge (tgt := 30) hx hb (by omega) (by omega) dX1_originOf_6 (by decide) (fun c_1 => ?_) (fun c_1 => ?_)
      · refine lv_iload_n hx hb dX1_originOf_30 rfl (lv_at hl 2 rfl) ?_
        exact W.iret (v := (nI (o))) hx hb hr (fun t ht hW => ⟨_, rfl, by first | exact congrArg nI (h_o.trans (s_or_z hB h_ol (s_hp_f c_1))).symm | exact congrArg nI (h_o.trans (s_or_z hB h_ol (s_q_m0 hB (by omega)))).symm, ht⟩) (fun _ h => nomatch h) dX1_originOf_31
      refine lv_aload_n hx hb dX1_originOf_9 rfl (lv_at hl 0 rfl) ?_
      refine lv_iload_n hx hb dX1_originOf_10 rfl (lv_at hl 2 rfl) ?_
      refine ro_V (As := [.int (nI (o))]) (v := (bI (s_hp n B o))) ⟨hx, hb, hml, hown, hts⟩ (kX1_hasPartner l D cI cZ cA ax n B Q cn rt wd qf T o hB hQ (by omega)) (cwV 1 hts gX1_originOf_X1_hasPartner rfl rfl rfl hdX1_hasPartner ⟨Nat.le_of_ble_eq_true rfl, Nat.le_of_ble_eq_true rfl⟩) hK hP (ci := 3) rfl (q0 := 0) rfl rfl rfl hl.1 rfl (Nat.le_of_ble_eq_true rfl) dX1_originOf_11 ⟨Nat.zero_le _, Nat.zero_le _⟩ ?_
      refine y_eq (tgt := 30) hx hb dX1_originOf_14 (by decide) (fun c_2 => ?_) (fun c_2 => ?_)
      · refine lv_iload_n hx hb dX1_originOf_30 rfl (lv_at hl 2 rfl) ?_
        exact W.iret (v := (nI (o))) hx hb hr (fun t ht hW => ⟨_, rfl, by first | exact congrArg nI (h_o.trans (s_or_z hB h_ol (s_hp_f c_2))).symm | exact congrArg nI (h_o.trans (s_or_z hB h_ol (s_q_m0 hB (by omega)))).symm, ht⟩) (fun _ h => nomatch h) dX1_originOf_31
      obtain ⟨y1, hy1⟩ := s_hp_t c_2
      obtain ⟨_, _, -, -, -, -, -, -, hm5, -, hy80, hyl⟩ := s_q_some hB hy1
      refine lv_aload_n hx hb dX1_originOf_17 rfl (lv_at hl 0 rfl) ?_
      refine va_get (D := D) (ci := 3) (v := .ref (ax 8)) (C := RX1) (T := TX1) (N := 12) hx hb hts hin hown hK hP 0 rfl rfl 8 (by decide) hf_35 (fun _ h9 => h9) rfl dX1_originOf_18 ?_
      refine lv_iload_n hx hb dX1_originOf_21 rfl (lv_at hl 2 rfl) ?_
      refine n_iald hx hb hK hP 8 0 rfl rfl (i := o) (by omega) (by decide) dX1_originOf_22 ?_
      refine n_top (y := (nI (y1))) (by rw [hQ o h_o8, hy1]; rfl) ?_
      refine lv_istore_n (lv' := [(2, .int (nI (y1))), (0, .ref (ax 0)), (1, .int (nI (x))), (3, .int (nI (z)))]) hx hb dX1_originOf_23 rfl hl (by decide) rfl (fun ls hl => ?_)
      refine lv_iinc (v := (nI (z + 1))) (lv' := [(3, .int (nI (z + 1))), (2, .int (nI (y1))), (0, .ref (ax 0)), (1, .int (nI (x)))]) hx hb dX1_originOf_24 hl (k := 3) rfl (nI_1 _) (by decide) rfl (fun ls hl => ?_)
      refine lv_goto (tgt := 4) hx hb dX1_originOf_27 (by decide) ?_
      exact ih_4 y1 (z + 1) (by omega) (by omega) (by first | assumption | omega) (by assumption) (by first | omega | (have := hB.2.2.2.2.2.1 x; omega)) (by first | rfl | exact s_or_q (k := 4 - z) hB h_o hy1 (by omega)) _ (show lv_has ls 4 [(0, .ref (ax 0)), (1, .int (nI (x))), (2, .int (nI (y1))), (3, .int (nI (z + 1)))] from by exact lv_sub hl [2, 3, 1, 0] rfl)
  exact loop_4 (3 - 0 + 1) x 0 (by omega) (by omega) (by first | assumption | omega) (by assumption) (by first | omega | (have := hB.2.2.2.2.2.1 x; omega)) (by first | rfl | exact s_or_q (k := 4 - z) hB h_o hy1 (by omega)) _ (show lv_has ls 4 [(0, .ref (ax 0)), (1, .int (nI (x))), (2, .int (nI (x))), (3, .int (nI (0)))] from by exact lv_sub hl [2, 3, 1, 0] rfl)
theorem hdX1_originOf : yX1_originOf.cls = RX1 ∧ yX1_originOf.cls ≠ "java/lang/invoke/MethodHandle" ∧ yX1_originOf.cls ≠ "java/lang/invoke/VarHandle" ∧ (parseMethodDescriptor yX1_originOf.desc).map (fun d => d.parameters.length) = some 1 := by decide +kernel
set_option maxHeartbeats 4000000 in
set_option maxRecDepth 100000 in
theorem kX1_isEarlier (l : Launch) (D : va_G) (cI cZ cA : ClassId) (ax : Nat → Nat) (n : Nat) (B : Nat → Nat → Nat) (Q : Nat → Option Nat) (cn : Nat → Bool) (rt : Nat → Nat) (wd : Nat → Option Nat) (qf : Nat → Option Nat) (T : Nat → Nat → Nat) (x : Nat) (y : Nat) (hB : Bok n B) (h_x : x < 80) (h_y : y < 80) : Met l yX1_isEarlier wsX1_isEarlier ({ frames := 1, cells := 0, slots := 0, locals := 20 }) (PcR D [(cI, .int), (cZ, .boolean), (cA, .array .int)] (wX cI cZ cA ax n B Q cn rt wd qf T) [.ref (ax 0), .int (nI (x)), .int (nI (y))]) (vp_Si (fun r => r = (bI (s_er B x y)))) 0 0 (fun _ => False) := by
  refine Met.ofW (cc := cX1_isEarlier) (maxL := 3) (ret := (some .boolean)) (by decide) rfl ?_
  intro p e s m args below meth c s₁ BL hml hv
  obtain ⟨rfl, hP, hK⟩ := hv
  have hx := BL.exec
  have hb := BL.bytes
  have hr := BL.returns
  have hts := atoms_spec (ws := wsX1_isEarlier) BL.pre
  have hown : s.vm.findClass RX1 = some m.cls := findClass_of_methodNamed BL.named
  have hlocks := BL.notSynchronized
  have hin : ∀ w ∈ wsX10, w ∈ wsX1_isEarlier := by decide +kernel
  have hf_13 := hts (.fieldLink RX1 13 "TalkRebuilder" "dates" "[I") (by decide +kernel)
  have hl := lv_entry ([.ref (ax 0), .int (nI (x)), .int (nI (y))]) (n := 3) (Nat.le_of_ble_eq_true rfl)
  rw [lg_entry_eq]
  generalize (lg_sl ([.ref (ax 0), .int (nI (x)), .int (nI (y))]) ++ List.replicate (3 - (lg_sl ([.ref (ax 0), .int (nI (x)), .int (nI (y))])).length) Slot.unset).toArray = ls at hl ⊢
  have hl : lv_has ls 3 [(0, .ref (ax 0)), (1, .int (nI (x))), (2, .int (nI (y)))] := hl
  have hn10 := hB.1
  refine lv_iload_n hx hb dX1_isEarlier_0 rfl (lv_at hl 1 rfl) ?_
  refine ro_S (As := [.int (nI (x))]) (v := (nI (x / 8))) ⟨hx, hb, hml, hown, hts⟩ (kX1_mailAt l x h_x) (va_cwS 1 hts gX1_isEarlier_X1_mailAt rfl rfl rfl hsX1_mailAt ⟨Nat.le_of_ble_eq_true rfl, Nat.le_of_ble_eq_true rfl⟩) rfl hl.1 rfl (Nat.le_of_ble_eq_true rfl) dX1_isEarlier_1 ⟨Nat.zero_le _, Nat.zero_le _⟩ ?_
  refine lv_iload_n hx hb dX1_isEarlier_4 rfl (lv_at hl 2 rfl) ?_
  refine ro_S (As := [.int (nI (y))]) (v := (nI (y / 8))) ⟨hx, hb, hml, hown, hts⟩ (kX1_mailAt l y (by omega)) (va_cwS 1 hts gX1_isEarlier_X1_mailAt rfl rfl rfl hsX1_mailAt ⟨Nat.le_of_ble_eq_true rfl, Nat.le_of_ble_eq_true rfl⟩) rfl hl.1 rfl (Nat.le_of_ble_eq_true rfl) dX1_isEarlier_5 ⟨Nat.zero_le _, Nat.zero_le _⟩ ?_
  refine n_ne (tgt := 22) hx hb (by omega) (by omega) dX1_isEarlier_8 (by decide) (fun c_1 => ?_) (fun c_1 => ?_)
  · refine lv_aload_n hx hb dX1_isEarlier_22 rfl (lv_at hl 0 rfl) ?_
    refine va_get (D := D) (ci := 3) (v := .ref (ax 1)) (C := RX1) (T := TX1) (N := 12) hx hb hts hin hown hK hP 0 rfl rfl 1 (by decide) hf_13 (fun _ h9 => h9) rfl dX1_isEarlier_23 ?_
    refine lv_iload_n hx hb dX1_isEarlier_26 rfl (lv_at hl 1 rfl) ?_
    refine ro_S (As := [.int (nI (x))]) (v := (nI (x / 8))) ⟨hx, hb, hml, hown, hts⟩ (kX1_mailAt l x h_x) (va_cwS 1 hts gX1_isEarlier_X1_mailAt rfl rfl rfl hsX1_mailAt ⟨Nat.le_of_ble_eq_true rfl, Nat.le_of_ble_eq_true rfl⟩) rfl hl.1 rfl (Nat.le_of_ble_eq_true rfl) dX1_isEarlier_27 ⟨Nat.zero_le _, Nat.zero_le _⟩ ?_
    refine n_iald hx hb hK hP 1 0 rfl rfl (i := x / 8) (by omega) (by decide) dX1_isEarlier_30 ?_
    have hq_2 := hB.2.1 0 (x / 8)
    refine lv_aload_n hx hb dX1_isEarlier_31 rfl (lv_at hl 0 rfl) ?_
    refine va_get (D := D) (ci := 3) (v := .ref (ax 1)) (C := RX1) (T := TX1) (N := 12) hx hb hts hin hown hK hP 0 rfl rfl 1 (by decide) hf_13 (fun _ h9 => h9) rfl dX1_isEarlier_32 ?_
    refine lv_iload_n hx hb dX1_isEarlier_35 rfl (lv_at hl 2 rfl) ?_
    refine ro_S (As := [.int (nI (y))]) (v := (nI (y / 8))) ⟨hx, hb, hml, hown, hts⟩ (kX1_mailAt l y (by omega)) (va_cwS 1 hts gX1_isEarlier_X1_mailAt rfl rfl rfl hsX1_mailAt ⟨Nat.le_of_ble_eq_true rfl, Nat.le_of_ble_eq_true rfl⟩) rfl hl.1 rfl (Nat.le_of_ble_eq_true rfl) dX1_isEarlier_36 ⟨Nat.zero_le _, Nat.zero_le _⟩ ?_
    refine n_iald hx hb hK hP 1 0 rfl rfl (i := y / 8) (by omega) (by decide) dX1_isEarlier_39 ?_
    have hq_3 := hB.2.1 0 (y / 8)
    refine n_ge (tgt := 47) hx hb (by omega) (by omega) dX1_isEarlier_40 (by decide) (fun c_4 => ?_) (fun c_4 => ?_)
    · refine lv_iconst (v := (nI (0))) hx hb dX1_isEarlier_47 (by decide +kernel) ?_
      exact W.zret (v := (nI (0))) hx hb hr (by decide +kernel) (fun t ht hW => ⟨_, rfl, by first | rfl | (simp [oI_s, bI_t, bI_f, s_er, c_1, c_4, Nat.not_lt.mpr c_4]; done) | (simp [oI_s, bI_t, bI_f, s_er, c_1, c_4, Nat.not_lt.mpr c_4]; omega) | (simp only [s_er]; (repeat' split) <;> first | rfl | omega | (simp_all; done) | (simp_all; omega)), ht⟩) (fun _ h => nomatch h) dX1_isEarlier_48
    refine lv_iconst (v := (nI (1))) hx hb dX1_isEarlier_43 (by decide +kernel) ?_
    refine lv_goto (tgt := 48) hx hb dX1_isEarlier_44 (by decide) ?_
    exact W.zret (v := (nI (1))) hx hb hr (by decide +kernel) (fun t ht hW => ⟨_, rfl, by first | rfl | (simp [oI_s, bI_t, bI_f, s_er, c_1, c_4, Nat.not_le.mp c_4]; done) | (simp [oI_s, bI_t, bI_f, s_er, c_1, c_4, Nat.not_le.mp c_4]; omega) | (simp only [s_er]; (repeat' split) <;> first | rfl | omega | (simp_all; done) | (simp_all; omega)), ht⟩) (fun _ h => nomatch h) dX1_isEarlier_48
  refine lv_iload_n hx hb dX1_isEarlier_11 rfl (lv_at hl 1 rfl) ?_
  refine lv_iload_n hx hb dX1_isEarlier_12 rfl (lv_at hl 2 rfl) ?_
  refine n_ge (tgt := 20) hx hb (by omega) (by omega) dX1_isEarlier_13 (by decide) (fun c_5 => ?_) (fun c_5 => ?_)
  · refine lv_iconst (v := (nI (0))) hx hb dX1_isEarlier_20 (by decide +kernel) ?_
    exact W.zret (v := (nI (0))) hx hb hr (by decide +kernel) (fun t ht hW => ⟨_, rfl, by first | rfl | (simp [oI_s, bI_t, bI_f, s_er, c_1, c_5, Nat.not_lt.mpr c_5]; done) | (simp [oI_s, bI_t, bI_f, s_er, c_1, c_5, Nat.not_lt.mpr c_5]; omega) | (simp only [s_er]; (repeat' split) <;> first | rfl | omega | (simp_all; done) | (simp_all; omega)), ht⟩) (fun _ h => nomatch h) dX1_isEarlier_21
  refine lv_iconst (v := (nI (1))) hx hb dX1_isEarlier_16 (by decide +kernel) ?_
  refine lv_goto (tgt := 21) hx hb dX1_isEarlier_17 (by decide) ?_
  exact W.zret (v := (nI (1))) hx hb hr (by decide +kernel) (fun t ht hW => ⟨_, rfl, by first | rfl | (simp [oI_s, bI_t, bI_f, s_er, c_1, c_5, Nat.not_le.mp c_5]; done) | (simp [oI_s, bI_t, bI_f, s_er, c_1, c_5, Nat.not_le.mp c_5]; omega) | (simp only [s_er]; (repeat' split) <;> first | rfl | omega | (simp_all; done) | (simp_all; omega)), ht⟩) (fun _ h => nomatch h) dX1_isEarlier_21
theorem hdX1_isEarlier : yX1_isEarlier.cls = RX1 ∧ yX1_isEarlier.cls ≠ "java/lang/invoke/MethodHandle" ∧ yX1_isEarlier.cls ≠ "java/lang/invoke/VarHandle" ∧ (parseMethodDescriptor yX1_isEarlier.desc).map (fun d => d.parameters.length) = some 2 := by decide +kernel
set_option maxHeartbeats 4000000 in
set_option maxRecDepth 100000 in
theorem kX1_isDouble (l : Launch) (D : va_G) (cI cZ cA : ClassId) (ax : Nat → Nat) (n : Nat) (B : Nat → Nat → Nat) (Q : Nat → Option Nat) (cn : Nat → Bool) (rt : Nat → Nat) (wd : Nat → Option Nat) (qf : Nat → Option Nat) (T : Nat → Nat → Nat) (x : Nat) (hB : Bok n B) (h_x : x < 80) (h_l : s_ln B x = true) : Met l yX1_isDouble wsX1_isDouble ({ frames := 2, cells := 0, slots := 0, locals := 43 }) (PcR D [(cI, .int), (cZ, .boolean), (cA, .array .int)] (wX cI cZ cA ax n B Q cn rt wd qf T) [.ref (ax 0), .int (nI (x))]) (vp_Si (fun r => r = (bI (s_sb n B (x / 8) (x % 8))))) 0 0 (fun _ => False) := by
  refine Met.ofW (cc := cX1_isDouble) (maxL := 3) (ret := (some .boolean)) (by decide) rfl ?_
  intro p e s m args below meth c s₁ BL hml hv
  obtain ⟨rfl, hP, hK⟩ := hv
  have hx := BL.exec
  have hb := BL.bytes
  have hr := BL.returns
  have hts := atoms_spec (ws := wsX1_isDouble) BL.pre
  have hown : s.vm.findClass RX1 = some m.cls := findClass_of_methodNamed BL.named
  have hlocks := BL.notSynchronized
  have hin : ∀ w ∈ wsX10, w ∈ wsX1_isDouble := by decide +kernel
  have hf_23 := hts (.fieldLink RX1 23 "TalkRebuilder" "answeredDates" "[I") (by decide +kernel)
  have hf_29 := hts (.fieldLink RX1 29 "TalkRebuilder" "marksAt" "[I") (by decide +kernel)
  have hf_32 := hts (.fieldLink RX1 32 "TalkRebuilder" "wordsAt" "[I") (by decide +kernel)
  have hl := lv_entry ([.ref (ax 0), .int (nI (x))]) (n := 3) (Nat.le_of_ble_eq_true rfl)
  rw [lg_entry_eq]
  generalize (lg_sl ([.ref (ax 0), .int (nI (x))]) ++ List.replicate (3 - (lg_sl ([.ref (ax 0), .int (nI (x))])).length) Slot.unset).toArray = ls at hl ⊢
  have hl : lv_has ls 3 [(0, .ref (ax 0)), (1, .int (nI (x)))] := hl
  have hn10 := hB.1
  refine lv_iconst (v := (nI (0))) hx hb dX1_isDouble_0 (by decide +kernel) ?_
  refine lv_istore_n (lv' := [(2, .int (nI (0))), (0, .ref (ax 0)), (1, .int (nI (x)))]) hx hb dX1_isDouble_1 rfl hl (by decide) rfl (fun ls hl => ?_)
  have loop_2 : ∀ (N : Nat) (z : Nat), 80 - z < N → (z ≤ 80) → (an (s_dbp B x) z = false) → ∀ (ls : Array Slot), lv_has ls 3 [(0, .ref (ax 0)), (1, .int (nI (x))), (2, .int (nI (z)))] → W p l e (headSpec wsX1_isDouble ({ frames := 2, cells := 0, slots := 0, locals := 43 })).room s m ([.ref (ax 0), .int (nI (x))] : List Value).toArray below meth c s.heap [] 0 0 (MQ below (vp_Si (fun r => r = (bI (s_sb n B (x / 8) (x % 8))))) ([.ref (ax 0), .int (nI (x))] : List Value).toArray s 0 0 (fun _ => False)) (F0 m 2 ls []) := by
    intro N
    induction N with
    | zero => intro z hmu; exact absurd hmu (Nat.not_lt_zero _)
    | succ N ih_2 =>
      intro z hmu_2 h_z h_no ls hl
      refine lv_iload_n hx hb dX1_isDouble_2 rfl (lv_at hl 2 rfl) ?_
      refine lv_bipush (v := (nI (80))) hx hb dX1_isDouble_3 (by decide +kernel) ?_
      refine n_ge (tgt := 79) hx hb (by omega) (by omega) dX1_isDouble_5 (by decide) (fun c_1 => ?_) (fun c_1 => ?_)
      · refine lv_iconst (v := (nI (0))) hx hb dX1_isDouble_79 (by decide +kernel) ?_
        exact W.zret (v := (nI (0))) hx hb hr (by decide +kernel) (fun t ht hW => ⟨_, rfl, by first | (rw [← s_db_sb hB h_l, an_t (k := z) (by omega) (by simp [s_dbp, c_1, Nat.not_lt.mpr c_1])]; decide +kernel) | (rw [← s_db_sb hB h_l, show 80 = z from by omega, h_no]; decide +kernel), ht⟩) (fun _ h => nomatch h) dX1_isDouble_80
      refine lv_aload_n hx hb dX1_isDouble_8 rfl (lv_at hl 0 rfl) ?_
      refine lv_iload_n hx hb dX1_isDouble_9 rfl (lv_at hl 2 rfl) ?_
      refine ro_V (As := [.int (nI (z))]) (v := (bI (s_ln B z))) ⟨hx, hb, hml, hown, hts⟩ (kX1_isLine l D cI cZ cA ax n B Q cn rt wd qf T z hB (by omega)) (cwV 1 hts gX1_isDouble_X1_isLine rfl rfl rfl hdX1_isLine ⟨Nat.le_of_ble_eq_true rfl, Nat.le_of_ble_eq_true rfl⟩) hK hP (ci := 3) rfl (q0 := 0) rfl rfl rfl hl.1 rfl (Nat.le_of_ble_eq_true rfl) dX1_isDouble_10 ⟨Nat.zero_le _, Nat.zero_le _⟩ ?_
      refine y_eq (tgt := 73) hx hb dX1_isDouble_13 (by decide) (fun c_2 => ?_) (fun c_2 => ?_)
      · refine lv_iinc (v := (nI (z + 1))) (lv' := [(2, .int (nI (z + 1))), (0, .ref (ax 0)), (1, .int (nI (x)))]) hx hb dX1_isDouble_73 hl (k := 2) rfl (nI_1 _) (by decide) rfl (fun ls hl => ?_)
        refine lv_goto (tgt := 2) hx hb dX1_isDouble_76 (by decide) ?_
        exact ih_2 (z + 1) (by omega) (by omega) (by first | rfl | (simp [an, s_dbp, h_no, c_1, c_2]; done)) _ (show lv_has ls 3 [(0, .ref (ax 0)), (1, .int (nI (x))), (2, .int (nI (z + 1)))] from by exact lv_sub hl [1, 2, 0] rfl)
      refine lv_aload_n hx hb dX1_isDouble_16 rfl (lv_at hl 0 rfl) ?_
      refine va_get (D := D) (ci := 3) (v := .ref (ax 6)) (C := RX1) (T := TX1) (N := 12) hx hb hts hin hown hK hP 0 rfl rfl 6 (by decide) hf_29 (fun _ h9 => h9) rfl dX1_isDouble_17 ?_
      refine lv_iload_n hx hb dX1_isDouble_20 rfl (lv_at hl 2 rfl) ?_
      refine n_iald hx hb hK hP 6 0 rfl rfl (i := z) (by omega) (by decide) dX1_isDouble_21 ?_
      have hq_3 := hB.2.2.2.2.2.1 z
      refine lv_iconst (v := (nI (1))) hx hb dX1_isDouble_22 (by decide +kernel) ?_
      refine n_ne (tgt := 73) hx hb (by omega) (by omega) dX1_isDouble_23 (by decide) (fun c_4 => ?_) (fun c_4 => ?_)
      · refine lv_iinc (v := (nI (z + 1))) (lv' := [(2, .int (nI (z + 1))), (0, .ref (ax 0)), (1, .int (nI (x)))]) hx hb dX1_isDouble_73 hl (k := 2) rfl (nI_1 _) (by decide) rfl (fun ls hl => ?_)
        refine lv_goto (tgt := 2) hx hb dX1_isDouble_76 (by decide) ?_
        exact ih_2 (z + 1) (by omega) (by omega) (by first | rfl | (simp [an, s_dbp, h_no, c_1, c_2, c_4]; done)) _ (show lv_has ls 3 [(0, .ref (ax 0)), (1, .int (nI (x))), (2, .int (nI (z + 1)))] from by exact lv_sub hl [1, 2, 0] rfl)
      refine lv_aload_n hx hb dX1_isDouble_26 rfl (lv_at hl 0 rfl) ?_
      refine va_get (D := D) (ci := 3) (v := .ref (ax 7)) (C := RX1) (T := TX1) (N := 12) hx hb hts hin hown hK hP 0 rfl rfl 7 (by decide) hf_32 (fun _ h9 => h9) rfl dX1_isDouble_27 ?_
      refine lv_iload_n hx hb dX1_isDouble_30 rfl (lv_at hl 2 rfl) ?_
      refine n_iald hx hb hK hP 7 0 rfl rfl (i := z) (by omega) (by decide) dX1_isDouble_31 ?_
      have hq_5 := hB.2.1 6 z
      refine lv_aload_n hx hb dX1_isDouble_32 rfl (lv_at hl 0 rfl) ?_
      refine va_get (D := D) (ci := 3) (v := .ref (ax 7)) (C := RX1) (T := TX1) (N := 12) hx hb hts hin hown hK hP 0 rfl rfl 7 (by decide) hf_32 (fun _ h9 => h9) rfl dX1_isDouble_33 ?_
      refine lv_iload_n hx hb dX1_isDouble_36 rfl (lv_at hl 1 rfl) ?_
      refine n_iald hx hb hK hP 7 0 rfl rfl (i := x) (by omega) (by decide) dX1_isDouble_37 ?_
      have hq_6 := hB.2.1 6 x
      refine n_ne (tgt := 73) hx hb (by omega) (by omega) dX1_isDouble_38 (by decide) (fun c_7 => ?_) (fun c_7 => ?_)
      · refine lv_iinc (v := (nI (z + 1))) (lv' := [(2, .int (nI (z + 1))), (0, .ref (ax 0)), (1, .int (nI (x)))]) hx hb dX1_isDouble_73 hl (k := 2) rfl (nI_1 _) (by decide) rfl (fun ls hl => ?_)
        refine lv_goto (tgt := 2) hx hb dX1_isDouble_76 (by decide) ?_
        exact ih_2 (z + 1) (by omega) (by omega) (by first | rfl | (simp [an, s_dbp, h_no, c_1, c_2, c_4, c_7]; done)) _ (show lv_has ls 3 [(0, .ref (ax 0)), (1, .int (nI (x))), (2, .int (nI (z + 1)))] from by exact lv_sub hl [1, 2, 0] rfl)
      refine lv_aload_n hx hb dX1_isDouble_41 rfl (lv_at hl 0 rfl) ?_
      refine va_get (D := D) (ci := 3) (v := .ref (ax 4)) (C := RX1) (T := TX1) (N := 12) hx hb hts hin hown hK hP 0 rfl rfl 4 (by decide) hf_23 (fun _ h9 => h9) rfl dX1_isDouble_42 ?_
      refine lv_iload_n hx hb dX1_isDouble_45 rfl (lv_at hl 2 rfl) ?_
      refine ro_S (As := [.int (nI (z))]) (v := (nI (z / 8))) ⟨hx, hb, hml, hown, hts⟩ (kX1_mailAt l z (by omega)) (va_cwS 1 hts gX1_isDouble_X1_mailAt rfl rfl rfl hsX1_mailAt ⟨Nat.le_of_ble_eq_true rfl, Nat.le_of_ble_eq_true rfl⟩) rfl hl.1 rfl (Nat.le_of_ble_eq_true rfl) dX1_isDouble_46 ⟨Nat.zero_le _, Nat.zero_le _⟩ ?_
      refine n_iald hx hb hK hP 4 0 rfl rfl (i := z / 8) (by omega) (by decide) dX1_isDouble_49 ?_
      have hq_8 := hB.2.1 3 (z / 8)
      refine lv_aload_n hx hb dX1_isDouble_50 rfl (lv_at hl 0 rfl) ?_
      refine va_get (D := D) (ci := 3) (v := .ref (ax 4)) (C := RX1) (T := TX1) (N := 12) hx hb hts hin hown hK hP 0 rfl rfl 4 (by decide) hf_23 (fun _ h9 => h9) rfl dX1_isDouble_51 ?_
      refine lv_iload_n hx hb dX1_isDouble_54 rfl (lv_at hl 1 rfl) ?_
      refine ro_S (As := [.int (nI (x))]) (v := (nI (x / 8))) ⟨hx, hb, hml, hown, hts⟩ (kX1_mailAt l x h_x) (va_cwS 1 hts gX1_isDouble_X1_mailAt rfl rfl rfl hsX1_mailAt ⟨Nat.le_of_ble_eq_true rfl, Nat.le_of_ble_eq_true rfl⟩) rfl hl.1 rfl (Nat.le_of_ble_eq_true rfl) dX1_isDouble_55 ⟨Nat.zero_le _, Nat.zero_le _⟩ ?_
      refine n_iald hx hb hK hP 4 0 rfl rfl (i := x / 8) (by omega) (by decide) dX1_isDouble_58 ?_
      have hq_9 := hB.2.1 3 (x / 8)
      refine n_ne (tgt := 73) hx hb (by omega) (by omega) dX1_isDouble_59 (by decide) (fun c_10 => ?_) (fun c_10 => ?_)
      · refine lv_iinc (v := (nI (z + 1))) (lv' := [(2, .int (nI (z + 1))), (0, .ref (ax 0)), (1, .int (nI (x)))]) hx hb dX1_isDouble_73 hl (k := 2) rfl (nI_1 _) (by decide) rfl (fun ls hl => ?_)
        refine lv_goto (tgt := 2) hx hb dX1_isDouble_76 (by decide) ?_
        exact ih_2 (z + 1) (by omega) (by omega) (by first | rfl | (simp [an, s_dbp, h_no, c_1, c_2, c_4, c_7, c_10]; done)) _ (show lv_has ls 3 [(0, .ref (ax 0)), (1, .int (nI (x))), (2, .int (nI (z + 1)))] from by exact lv_sub hl [1, 2, 0] rfl)
      refine lv_aload_n hx hb dX1_isDouble_62 rfl (lv_at hl 0 rfl) ?_
      refine lv_iload_n hx hb dX1_isDouble_63 rfl (lv_at hl 2 rfl) ?_
      refine lv_iload_n hx hb dX1_isDouble_64 rfl (lv_at hl 1 rfl) ?_
      refine ro_V (As := [.int (nI (z)), .int (nI (x))]) (v := (bI (s_er B z x))) ⟨hx, hb, hml, hown, hts⟩ (kX1_isEarlier l D cI cZ cA ax n B Q cn rt wd qf T z x hB (by omega) (by omega)) (cwV 2 hts gX1_isDouble_X1_isEarlier rfl rfl rfl hdX1_isEarlier ⟨Nat.le_of_ble_eq_true rfl, Nat.le_of_ble_eq_true rfl⟩) hK hP (ci := 3) rfl (q0 := 0) rfl rfl rfl hl.1 rfl (Nat.le_of_ble_eq_true rfl) dX1_isDouble_65 ⟨Nat.zero_le _, Nat.zero_le _⟩ ?_
      refine y_eq (tgt := 73) hx hb dX1_isDouble_68 (by decide) (fun c_11 => ?_) (fun c_11 => ?_)
      · refine lv_iinc (v := (nI (z + 1))) (lv' := [(2, .int (nI (z + 1))), (0, .ref (ax 0)), (1, .int (nI (x)))]) hx hb dX1_isDouble_73 hl (k := 2) rfl (nI_1 _) (by decide) rfl (fun ls hl => ?_)
        refine lv_goto (tgt := 2) hx hb dX1_isDouble_76 (by decide) ?_
        exact ih_2 (z + 1) (by omega) (by omega) (by first | rfl | (simp [an, s_dbp, h_no, c_1, c_2, c_4, c_7, c_10, c_11]; done)) _ (show lv_has ls 3 [(0, .ref (ax 0)), (1, .int (nI (x))), (2, .int (nI (z + 1)))] from by exact lv_sub hl [1, 2, 0] rfl)
      refine lv_iconst (v := (nI (1))) hx hb dX1_isDouble_71 (by decide +kernel) ?_
      exact W.zret (v := (nI (1))) hx hb hr (by decide +kernel) (fun t ht hW => ⟨_, rfl, by first | (rw [← s_db_sb hB h_l, an_t (k := z) (by omega) (by simp [s_dbp, c_1, c_2, c_4, c_7, c_10, c_11, Nat.not_le.mp c_1])]; decide +kernel) | (rw [← s_db_sb hB h_l, show 80 = z from by omega, h_no]; decide +kernel), ht⟩) (fun _ h => nomatch h) dX1_isDouble_72
  exact loop_2 (80 - 0 + 1) 0 (by omega) (by omega) (by first | rfl | (simp [an, s_dbp, h_no, ]; done)) _ (show lv_has ls 3 [(0, .ref (ax 0)), (1, .int (nI (x))), (2, .int (nI (0)))] from by exact lv_sub hl [1, 2, 0] rfl)
theorem hdX1_isDouble : yX1_isDouble.cls = RX1 ∧ yX1_isDouble.cls ≠ "java/lang/invoke/MethodHandle" ∧ yX1_isDouble.cls ≠ "java/lang/invoke/VarHandle" ∧ (parseMethodDescriptor yX1_isDouble.desc).map (fun d => d.parameters.length) = some 1 := by decide +kernel
set_option maxHeartbeats 4000000 in
set_option maxRecDepth 100000 in
theorem kX1_commonEnd (l : Launch) (D : va_G) (cI cZ cA : ClassId) (ax : Nat → Nat) (n : Nat) (B : Nat → Nat → Nat) (Q : Nat → Option Nat) (cn : Nat → Bool) (rt : Nat → Nat) (wd : Nat → Option Nat) (qf : Nat → Option Nat) (T : Nat → Nat → Nat) (u : Nat) (w : Nat) (hB : Bok n B) (h_u : u < n) (h_w : w < n) : Met l yX1_commonEnd wsX1_commonEnd ({ frames := 1, cells := 0, slots := 0, locals := 21 }) (PcR D [(cI, .int), (cZ, .boolean), (cA, .array .int)] (wX cI cZ cA ax n B Q cn rt wd qf T) [.ref (ax 0), .int (nI (u)), .int (nI (w))]) (vp_Si (fun r => r = (nI (s_ce B u w)))) 0 0 (fun _ => False) := by
  refine Met.ofW (cc := cX1_commonEnd) (maxL := 7) (ret := (some .int)) (by decide) rfl ?_
  intro p e s m args below meth c s₁ BL hml hv
  obtain ⟨rfl, hP, hK⟩ := hv
  have hx := BL.exec
  have hb := BL.bytes
  have hr := BL.returns
  have hts := atoms_spec (ws := wsX1_commonEnd) BL.pre
  have hown : s.vm.findClass RX1 = some m.cls := findClass_of_methodNamed BL.named
  have hlocks := BL.notSynchronized
  have hin : ∀ w ∈ wsX10, w ∈ wsX1_commonEnd := by decide +kernel
  have hf_26 := hts (.fieldLink RX1 26 "TalkRebuilder" "lineCounts" "[I") (by decide +kernel)
  have hf_29 := hts (.fieldLink RX1 29 "TalkRebuilder" "marksAt" "[I") (by decide +kernel)
  have hf_32 := hts (.fieldLink RX1 32 "TalkRebuilder" "wordsAt" "[I") (by decide +kernel)
  have hmi := hts (.initialized "java/lang/Math") (by decide +kernel)
  have hms_min := hts (.static Lib.Math.min.name) (by decide +kernel)
  have hmc_min := hts (.code Lib.Math.min.name Lib.Math.min.code 2 (some .int)) (by decide +kernel)
  have hm_226 := hts (.methodLink RX1 226 Lib.Math.min.name) (by decide +kernel)
  have hl := lv_entry ([.ref (ax 0), .int (nI (u)), .int (nI (w))]) (n := 7) (Nat.le_of_ble_eq_true rfl)
  rw [lg_entry_eq]
  generalize (lg_sl ([.ref (ax 0), .int (nI (u)), .int (nI (w))]) ++ List.replicate (7 - (lg_sl ([.ref (ax 0), .int (nI (u)), .int (nI (w))])).length) Slot.unset).toArray = ls at hl ⊢
  have hl : lv_has ls 7 [(0, .ref (ax 0)), (1, .int (nI (u))), (2, .int (nI (w)))] := hl
  have hn10 := hB.1
  have h8u := hB.2.2.1 u
  have h8w := hB.2.2.1 w
  have hmn : (if B 4 w < B 4 u then B 4 w else B 4 u) ≤ 8 := by split <;> omega
  refine lv_iconst (v := (nI (3))) hx hb dX1_commonEnd_0 (by decide +kernel) ?_
  refine lv_aload_n hx hb dX1_commonEnd_1 rfl (lv_at hl 0 rfl) ?_
  refine va_get (D := D) (ci := 3) (v := .ref (ax 5)) (C := RX1) (T := TX1) (N := 12) hx hb hts hin hown hK hP 0 rfl rfl 5 (by decide) hf_26 (fun _ h9 => h9) rfl dX1_commonEnd_2 ?_
  refine lv_iload_n hx hb dX1_commonEnd_5 rfl (lv_at hl 1 rfl) ?_
  refine n_iald hx hb hK hP 5 0 rfl rfl (i := u) (by omega) (by decide) dX1_commonEnd_6 ?_
  have hq_1 := hB.2.2.1 u
  refine lv_aload_n hx hb dX1_commonEnd_7 rfl (lv_at hl 0 rfl) ?_
  refine va_get (D := D) (ci := 3) (v := .ref (ax 5)) (C := RX1) (T := TX1) (N := 12) hx hb hts hin hown hK hP 0 rfl rfl 5 (by decide) hf_26 (fun _ h9 => h9) rfl dX1_commonEnd_8 ?_
  refine lv_iload_n hx hb dX1_commonEnd_11 rfl (lv_at hl 2 rfl) ?_
  refine n_iald hx hb hK hP 5 0 rfl rfl (i := w) (by omega) (by decide) dX1_commonEnd_12 ?_
  have hq_2 := hB.2.2.1 w
  refine va_mmin hx hb (hml.trans hl.1.symm) hown hm_226 hms_min hmi hmc_min (Nat.le_of_ble_eq_true rfl) (Nat.le_of_ble_eq_true rfl) (Nat.zero_le _) (Nat.zero_le _) dX1_commonEnd_13 ?_
  refine n_top (y := (nI (if (B 4 w) < (B 4 u) then (B 4 w) else (B 4 u)))) (n_min (by omega) (by omega)) ?_
  refine va_mmin hx hb (hml.trans hl.1.symm) hown hm_226 hms_min hmi hmc_min (Nat.le_of_ble_eq_true rfl) (Nat.le_of_ble_eq_true rfl) (Nat.zero_le _) (Nat.zero_le _) dX1_commonEnd_16 ?_
  refine n_top (y := (nI (if (if (B 4 w) < (B 4 u) then (B 4 w) else (B 4 u)) < 3 then (if (B 4 w) < (B 4 u) then (B 4 w) else (B 4 u)) else 3))) (n_min (by omega) (by omega)) ?_
  refine lv_istore_n (lv' := [(3, .int (nI (if (if (B 4 w) < (B 4 u) then (B 4 w) else (B 4 u)) < 3 then (if (B 4 w) < (B 4 u) then (B 4 w) else (B 4 u)) else 3))), (0, .ref (ax 0)), (1, .int (nI (u))), (2, .int (nI (w)))]) hx hb dX1_commonEnd_19 rfl hl (by decide) rfl (fun ls hl => ?_)
  have hcm : s_ceM B u w ≤ B 4 u ∧ s_ceM B u w ≤ B 4 w ∧ s_ceM B u w ≤ 3 := by unfold s_ceM; split <;> split <;> omega
  refine lv_iconst (v := (nI (0))) hx hb dX1_commonEnd_20 (by decide +kernel) ?_
  refine lv_istore (lv' := [(4, .int (nI (0))), (3, .int (nI (if (if (B 4 w) < (B 4 u) then (B 4 w) else (B 4 u)) < 3 then (if (B 4 w) < (B 4 u) then (B 4 w) else (B 4 u)) else 3))), (0, .ref (ax 0)), (1, .int (nI (u))), (2, .int (nI (w)))]) hx hb dX1_commonEnd_21 hl (by decide) rfl (fun ls hl => ?_)
  have loop_23 : ∀ (N : Nat) (z : Nat), s_ceM B u w - z < N → (z ≤ s_ceM B u w) → (s_eq B u w z = true) → ∀ (ls : Array Slot), lv_has ls 7 [(0, .ref (ax 0)), (1, .int (nI (u))), (2, .int (nI (w))), (3, .int (nI (s_ceM B u w))), (4, .int (nI (z)))] → W p l e (headSpec wsX1_commonEnd ({ frames := 1, cells := 0, slots := 0, locals := 21 })).room s m ([.ref (ax 0), .int (nI (u)), .int (nI (w))] : List Value).toArray below meth c s.heap [] 0 0 (MQ below (vp_Si (fun r => r = (nI (s_ce B u w)))) ([.ref (ax 0), .int (nI (u)), .int (nI (w))] : List Value).toArray s 0 0 (fun _ => False)) (F0 m 23 ls []) := by
    intro N
    induction N with
    | zero => intro z hmu; exact absurd hmu (Nat.not_lt_zero _)
    | succ N ih_23 =>
      intro z hmu_23 h_z h_e ls hl
      refine lv_iload hx hb dX1_commonEnd_23 (lv_at hl 4 rfl) ?_
      refine lv_iload_n hx hb dX1_commonEnd_25 rfl (lv_at hl 3 rfl) ?_
      refine n_ge (tgt := 109) hx hb (by omega) (by omega) dX1_commonEnd_26 (by decide) (fun c_3 => ?_) (fun c_3 => ?_)
      · refine lv_iload_n hx hb dX1_commonEnd_109 rfl (lv_at hl 3 rfl) ?_
        exact W.iret (v := (nI (s_ceM B u w))) hx hb hr (fun t ht hW => ⟨_, rfl, by first | exact congrArg nI (s_cel_at h_e (by unfold s_tl; rw [← hi1, ← hi2]; simp [c_3, Nat.not_lt.mpr c_3]) _ h_z).symm | exact congrArg nI (by unfold s_ce; rw [show s_ceM B u w = z from by omega]; exact (s_cel_top h_e).symm) | exact congrArg nI (by unfold s_ce; have q : s_ceM B u w = z := by omega; rw [q]; exact (s_cel_top h_e).symm), ht⟩) (fun _ h => nomatch h) dX1_commonEnd_110
      refine lv_iload_n hx hb dX1_commonEnd_29 rfl (lv_at hl 1 rfl) ?_
      refine lv_aload_n hx hb dX1_commonEnd_30 rfl (lv_at hl 0 rfl) ?_
      refine va_get (D := D) (ci := 3) (v := .ref (ax 5)) (C := RX1) (T := TX1) (N := 12) hx hb hts hin hown hK hP 0 rfl rfl 5 (by decide) hf_26 (fun _ h9 => h9) rfl dX1_commonEnd_31 ?_
      refine lv_iload_n hx hb dX1_commonEnd_34 rfl (lv_at hl 1 rfl) ?_
      refine n_iald hx hb hK hP 5 0 rfl rfl (i := u) (by omega) (by decide) dX1_commonEnd_35 ?_
      have hq_4 := hB.2.2.1 u
      refine lv_iconst (v := (nI (1))) hx hb dX1_commonEnd_36 (by decide +kernel) ?_
      refine lv_isub hx hb dX1_commonEnd_37 ?_
      refine n_top (y := (nI (B 4 u - 1))) (pk_sub (by omega)) ?_
      refine lv_iload hx hb dX1_commonEnd_38 (lv_at hl 4 rfl) ?_
      refine lv_isub hx hb dX1_commonEnd_40 ?_
      refine n_top (y := (nI (B 4 u - 1 - z))) (pk_sub (by omega)) ?_
      refine ro_S (As := [.int (nI (u)), .int (nI (B 4 u - 1 - z))]) (v := (nI (8 * u + (B 4 u - 1 - z)))) ⟨hx, hb, hml, hown, hts⟩ (kX1_placeOf l u (B 4 u - 1 - z) (by omega) (by omega)) (va_cwS 2 hts gX1_commonEnd_X1_placeOf rfl rfl rfl hsX1_placeOf ⟨Nat.le_of_ble_eq_true rfl, Nat.le_of_ble_eq_true rfl⟩) rfl hl.1 rfl (Nat.le_of_ble_eq_true rfl) dX1_commonEnd_41 ⟨Nat.zero_le _, Nat.zero_le _⟩ ?_
      refine lv_istore (lv' := [(5, .int (nI (8 * u + (B 4 u - 1 - z)))), (0, .ref (ax 0)), (1, .int (nI (u))), (2, .int (nI (w))), (3, .int (nI (s_ceM B u w))), (4, .int (nI (z)))]) hx hb dX1_commonEnd_44 hl (by decide) rfl (fun ls hl => ?_)
      refine lv_iload_n hx hb dX1_commonEnd_46 rfl (lv_at hl 3 rfl) ?_
      refine lv_aload_n hx hb dX1_commonEnd_47 rfl (lv_at hl 1 rfl) ?_
      refine va_get (D := D) (ci := 3) (v := .ref (ax 5)) (C := RX1) (T := TX1) (N := 12) hx hb hts hin hown hK hP 0 rfl rfl 5 (by decide) hf_26 (fun _ h9 => h9) rfl dX1_commonEnd_48 ?_
      refine lv_iload_n hx hb dX1_commonEnd_51 rfl (lv_at hl 3 rfl) ?_
      refine n_iald hx hb hK hP 5 0 rfl rfl (i := w) (by omega) (by decide) dX1_commonEnd_52 ?_
      have hq_5 := hB.2.2.1 w
      refine lv_iconst (v := (nI (1))) hx hb dX1_commonEnd_53 (by decide +kernel) ?_
      refine lv_isub hx hb dX1_commonEnd_54 ?_
      refine n_top (y := (nI (B 4 w - 1))) (pk_sub (by omega)) ?_
      refine lv_iload hx hb dX1_commonEnd_55 (lv_at hl 5 rfl) ?_
      refine lv_isub hx hb dX1_commonEnd_57 ?_
      refine n_top (y := (nI (B 4 w - 1 - z))) (pk_sub (by omega)) ?_
      refine ro_S (As := [.int (nI (w)), .int (nI (B 4 w - 1 - z))]) (v := (nI (8 * w + (B 4 w - 1 - z)))) ⟨hx, hb, hml, hown, hts⟩ (kX1_placeOf l w (B 4 w - 1 - z) (by omega) (by omega)) (va_cwS 2 hts gX1_commonEnd_X1_placeOf rfl rfl rfl hsX1_placeOf ⟨Nat.le_of_ble_eq_true rfl, Nat.le_of_ble_eq_true rfl⟩) rfl hl.1 rfl (Nat.le_of_ble_eq_true rfl) dX1_commonEnd_58 ⟨Nat.zero_le _, Nat.zero_le _⟩ ?_
      refine lv_istore (lv' := [(6, .int (nI (8 * w + (B 4 w - 1 - z)))), (5, .int (nI (8 * u + (B 4 u - 1 - z)))), (0, .ref (ax 0)), (1, .int (nI (u))), (2, .int (nI (w))), (3, .int (nI (s_ceM B u w))), (4, .int (nI (z)))]) hx hb dX1_commonEnd_61 hl (by decide) rfl (fun ls hl => ?_)
      have hi1 : 8 * u + (B 4 u - 1 - z) = 8 * u + B 4 u - (z + 1) := by omega
      have hi2 : 8 * w + (B 4 w - 1 - z) = 8 * w + B 4 w - (z + 1) := by omega
      refine lv_aload_n hx hb dX1_commonEnd_63 rfl (lv_at hl 2 rfl) ?_
      refine va_get (D := D) (ci := 3) (v := .ref (ax 6)) (C := RX1) (T := TX1) (N := 12) hx hb hts hin hown hK hP 0 rfl rfl 6 (by decide) hf_29 (fun _ h9 => h9) rfl dX1_commonEnd_64 ?_
      refine lv_iload hx hb dX1_commonEnd_67 (lv_at hl 1 rfl) ?_
      refine n_iald hx hb hK hP 6 0 rfl rfl (i := 8 * u + (B 4 u - 1 - z)) (by omega) (by decide) dX1_commonEnd_69 ?_
      have hq_6 := hB.2.2.2.2.2.1 (8 * u + (B 4 u - 1 - z))
      refine z_ne (tgt := 100) hx hb (by omega) dX1_commonEnd_70 (by decide) (fun c_7 => ?_) (fun c_7 => ?_)
      · refine lv_iload hx hb dX1_commonEnd_100 (lv_at hl 6 rfl) ?_
        exact W.iret (v := (nI (z))) hx hb hr (fun t ht hW => ⟨_, rfl, by first | exact congrArg nI (s_cel_at h_e (by unfold s_tl; rw [← hi1, ← hi2]; simp [c_3, c_7, Nat.not_le.mp c_3]) _ h_z).symm | exact congrArg nI (by unfold s_ce; rw [show s_ceM B u w = z from by omega]; exact (s_cel_top h_e).symm) | exact congrArg nI (by unfold s_ce; have q : s_ceM B u w = z := by omega; rw [q]; exact (s_cel_top h_e).symm), ht⟩) (fun _ h => nomatch h) dX1_commonEnd_102
      refine lv_aload_n hx hb dX1_commonEnd_73 rfl (lv_at hl 2 rfl) ?_
      refine va_get (D := D) (ci := 3) (v := .ref (ax 6)) (C := RX1) (T := TX1) (N := 12) hx hb hts hin hown hK hP 0 rfl rfl 6 (by decide) hf_29 (fun _ h9 => h9) rfl dX1_commonEnd_74 ?_
      refine lv_iload hx hb dX1_commonEnd_77 (lv_at hl 0 rfl) ?_
      refine n_iald hx hb hK hP 6 0 rfl rfl (i := 8 * w + (B 4 w - 1 - z)) (by omega) (by decide) dX1_commonEnd_79 ?_
      have hq_8 := hB.2.2.2.2.2.1 (8 * w + (B 4 w - 1 - z))
      refine z_ne (tgt := 100) hx hb (by omega) dX1_commonEnd_80 (by decide) (fun c_9 => ?_) (fun c_9 => ?_)
      · refine lv_iload hx hb dX1_commonEnd_100 (lv_at hl 6 rfl) ?_
        exact W.iret (v := (nI (z))) hx hb hr (fun t ht hW => ⟨_, rfl, by first | exact congrArg nI (s_cel_at h_e (by unfold s_tl; rw [← hi1, ← hi2]; simp [c_3, c_7, c_9, Nat.not_le.mp c_3]) _ h_z).symm | exact congrArg nI (by unfold s_ce; rw [show s_ceM B u w = z from by omega]; exact (s_cel_top h_e).symm) | exact congrArg nI (by unfold s_ce; have q : s_ceM B u w = z := by omega; rw [q]; exact (s_cel_top h_e).symm), ht⟩) (fun _ h => nomatch h) dX1_commonEnd_102
      refine lv_aload_n hx hb dX1_commonEnd_83 rfl (lv_at hl 2 rfl) ?_
      refine va_get (D := D) (ci := 3) (v := .ref (ax 7)) (C := RX1) (T := TX1) (N := 12) hx hb hts hin hown hK hP 0 rfl rfl 7 (by decide) hf_32 (fun _ h9 => h9) rfl dX1_commonEnd_84 ?_
      refine lv_iload hx hb dX1_commonEnd_87 (lv_at hl 1 rfl) ?_
      refine n_iald hx hb hK hP 7 0 rfl rfl (i := 8 * u + (B 4 u - 1 - z)) (by omega) (by decide) dX1_commonEnd_89 ?_
      have hq_10 := hB.2.1 6 (8 * u + (B 4 u - 1 - z))
      refine lv_aload_n hx hb dX1_commonEnd_90 rfl (lv_at hl 2 rfl) ?_
      refine va_get (D := D) (ci := 3) (v := .ref (ax 7)) (C := RX1) (T := TX1) (N := 12) hx hb hts hin hown hK hP 0 rfl rfl 7 (by decide) hf_32 (fun _ h9 => h9) rfl dX1_commonEnd_91 ?_
      refine lv_iload hx hb dX1_commonEnd_94 (lv_at hl 0 rfl) ?_
      refine n_iald hx hb hK hP 7 0 rfl rfl (i := 8 * w + (B 4 w - 1 - z)) (by omega) (by decide) dX1_commonEnd_96 ?_
      have hq_11 := hB.2.1 6 (8 * w + (B 4 w - 1 - z))
      refine n_eq (tgt := 103) hx hb (by omega) (by omega) dX1_commonEnd_97 (by decide) (fun c_12 => ?_) (fun c_12 => ?_)
      · refine lv_iinc (v := (nI (z + 1))) (lv' := [(4, .int (nI (z + 1))), (6, .int (nI (8 * w + (B 4 w - 1 - z)))), (5, .int (nI (8 * u + (B 4 u - 1 - z)))), (0, .ref (ax 0)), (1, .int (nI (u))), (2, .int (nI (w))), (3, .int (nI (s_ceM B u w)))]) hx hb dX1_commonEnd_103 hl (k := 6) rfl (nI_1 _) (by decide) rfl (fun ls hl => ?_)
        refine lv_goto (tgt := 23) hx hb dX1_commonEnd_106 (by decide) ?_
        exact ih_23 (z + 1) (by omega) (by omega) (by first | rfl | (simp only [s_eq, h_e, Bool.true_and]; unfold s_tl; rw [← hi1, ← hi2]; simp [c_3, c_7, c_9, c_12])) _ (show lv_has ls 7 [(0, .ref (ax 0)), (1, .int (nI (u))), (2, .int (nI (w))), (3, .int (nI (s_ceM B u w))), (4, .int (nI (z + 1)))] from by exact lv_sub hl [3, 4, 5, 6, 0] rfl)
      refine lv_iload hx hb dX1_commonEnd_100 (lv_at hl 6 rfl) ?_
      exact W.iret (v := (nI (z))) hx hb hr (fun t ht hW => ⟨_, rfl, by first | exact congrArg nI (s_cel_at h_e (by unfold s_tl; rw [← hi1, ← hi2]; simp [c_3, c_7, c_9, c_12, Nat.not_le.mp c_3]) _ h_z).symm | exact congrArg nI (by unfold s_ce; rw [show s_ceM B u w = z from by omega]; exact (s_cel_top h_e).symm) | exact congrArg nI (by unfold s_ce; have q : s_ceM B u w = z := by omega; rw [q]; exact (s_cel_top h_e).symm), ht⟩) (fun _ h => nomatch h) dX1_commonEnd_102
  have e_13 : ((nI (if (if (B 4 w) < (B 4 u) then (B 4 w) else (B 4 u)) < 3 then (if (B 4 w) < (B 4 u) then (B 4 w) else (B 4 u)) else 3)) : Int32) = (nI (s_ceM B u w)) := by first | rfl | (simp [oI_s, bI_t, bI_f, s_ceM]; done) | (simp [oI_s, bI_t, bI_f, s_ceM]; omega) | (simp only [s_ceM]; (repeat' split) <;> first | rfl | omega | (simp_all; done) | (simp_all; omega))
  exact loop_23 (s_ceM B u w - 0 + 1) 0 (by omega) (by omega) (by first | rfl | (simp only [s_eq, h_e, Bool.true_and]; unfold s_tl; rw [← hi1, ← hi2]; simp [])) _ (show lv_has ls 7 [(0, .ref (ax 0)), (1, .int (nI (u))), (2, .int (nI (w))), (3, .int (nI (s_ceM B u w))), (4, .int (nI (0)))] from by rw [← e_13]; exact lv_sub hl [2, 3, 4, 1, 0] rfl)
theorem hdX1_commonEnd : yX1_commonEnd.cls = RX1 ∧ yX1_commonEnd.cls ≠ "java/lang/invoke/MethodHandle" ∧ yX1_commonEnd.cls ≠ "java/lang/invoke/VarHandle" ∧ (parseMethodDescriptor yX1_commonEnd.desc).map (fun d => d.parameters.length) = some 2 := by decide +kernel
set_option maxHeartbeats 4000000 in
set_option maxRecDepth 100000 in
theorem kX1_signatureLength (l : Launch) (D : va_G) (cI cZ cA : ClassId) (ax : Nat → Nat) (n : Nat) (B : Nat → Nat → Nat) (Q : Nat → Option Nat) (cn : Nat → Bool) (rt : Nat → Nat) (wd : Nat → Option Nat) (qf : Nat → Option Nat) (T : Nat → Nat → Nat) (u : Nat) (hB : Bok n B) (h_u : u < n) : Met l yX1_signatureLength wsX1_signatureLength ({ frames := 2, cells := 0, slots := 0, locals := 47 }) (PcR D [(cI, .int), (cZ, .boolean), (cA, .array .int)] (wX cI cZ cA ax n B Q cn rt wd qf T) [.ref (ax 0), .int (nI (u))]) (vp_Si (fun r => r = (nI (s_sig n B u)))) 0 0 (fun _ => False) := by
  refine Met.ofW (cc := cX1_signatureLength) (maxL := 4) (ret := (some .int)) (by decide) rfl ?_
  intro p e s m args below meth c s₁ BL hml hv
  obtain ⟨rfl, hP, hK⟩ := hv
  have hx := BL.exec
  have hb := BL.bytes
  have hr := BL.returns
  have hts := atoms_spec (ws := wsX1_signatureLength) BL.pre
  have hown : s.vm.findClass RX1 = some m.cls := findClass_of_methodNamed BL.named
  have hlocks := BL.notSynchronized
  have hin : ∀ w ∈ wsX10, w ∈ wsX1_signatureLength := by decide +kernel
  have hf_9 := hts (.fieldLink RX1 9 "TalkRebuilder" "mailCount" "I") (by decide +kernel)
  have hf_17 := hts (.fieldLink RX1 17 "TalkRebuilder" "authors" "[I") (by decide +kernel)
  have hmi := hts (.initialized "java/lang/Math") (by decide +kernel)
  have hms_max := hts (.static Lib.Math.max.name) (by decide +kernel)
  have hmc_max := hts (.code Lib.Math.max.name Lib.Math.max.code 2 (some .int)) (by decide +kernel)
  have hm_221 := hts (.methodLink RX1 221 Lib.Math.max.name) (by decide +kernel)
  have hl := lv_entry ([.ref (ax 0), .int (nI (u))]) (n := 4) (Nat.le_of_ble_eq_true rfl)
  rw [lg_entry_eq]
  generalize (lg_sl ([.ref (ax 0), .int (nI (u))]) ++ List.replicate (4 - (lg_sl ([.ref (ax 0), .int (nI (u))])).length) Slot.unset).toArray = ls at hl ⊢
  have hl : lv_has ls 4 [(0, .ref (ax 0)), (1, .int (nI (u)))] := hl
  have hn10 := hB.1
  refine lv_iconst (v := (nI (0))) hx hb dX1_signatureLength_0 (by decide +kernel) ?_
  refine lv_istore_n (lv' := [(2, .int (nI (0))), (0, .ref (ax 0)), (1, .int (nI (u)))]) hx hb dX1_signatureLength_1 rfl hl (by decide) rfl (fun ls hl => ?_)
  refine lv_iconst (v := (nI (0))) hx hb dX1_signatureLength_2 (by decide +kernel) ?_
  refine lv_istore_n (lv' := [(3, .int (nI (0))), (2, .int (nI (0))), (0, .ref (ax 0)), (1, .int (nI (u)))]) hx hb dX1_signatureLength_3 rfl hl (by decide) rfl (fun ls hl => ?_)
  have loop_4 : ∀ (N : Nat) (z : Nat), n - z < N → (z ≤ n) → ∀ (ls : Array Slot), lv_has ls 4 [(0, .ref (ax 0)), (1, .int (nI (u))), (2, .int (nI (s_sgF B u z))), (3, .int (nI (z)))] → W p l e (headSpec wsX1_signatureLength ({ frames := 2, cells := 0, slots := 0, locals := 47 })).room s m ([.ref (ax 0), .int (nI (u))] : List Value).toArray below meth c s.heap [] 0 0 (MQ below (vp_Si (fun r => r = (nI (s_sig n B u)))) ([.ref (ax 0), .int (nI (u))] : List Value).toArray s 0 0 (fun _ => False)) (F0 m 4 ls []) := by
    intro N
    induction N with
    | zero => intro z hmu; exact absurd hmu (Nat.not_lt_zero _)
    | succ N ih_4 =>
      intro z hmu_4 h_z ls hl
      refine lv_iload_n hx hb dX1_signatureLength_4 rfl (lv_at hl 3 rfl) ?_
      refine lv_aload_n hx hb dX1_signatureLength_5 rfl (lv_at hl 0 rfl) ?_
      refine va_get (D := D) (ci := 3) (v := .int (nI (n))) (C := RX1) (T := TX1) (N := 12) hx hb hts hin hown hK hP 0 rfl rfl 0 (by decide) hf_9 (fun _ h9 => h9) rfl dX1_signatureLength_6 ?_
      refine n_ge (tgt := 49) hx hb (by omega) (by omega) dX1_signatureLength_9 (by decide) (fun c_1 => ?_) (fun c_1 => ?_)
      · refine lv_iload_n hx hb dX1_signatureLength_49 rfl (lv_at hl 2 rfl) ?_
        exact W.iret (v := (nI (s_sgF B u z))) hx hb hr (fun t ht hW => ⟨_, rfl, by rw [← s_sgF_sig u]; exact congrArg nI (by rw [show n = z from by omega]), ht⟩) (fun _ h => nomatch h) dX1_signatureLength_50
      have hsf := s_sgF_le B u z
      have hce := s_ce_le B u z
      refine lv_iload_n hx hb dX1_signatureLength_12 rfl (lv_at hl 3 rfl) ?_
      refine lv_iload_n hx hb dX1_signatureLength_13 rfl (lv_at hl 1 rfl) ?_
      refine n_eq (tgt := 43) hx hb (by omega) (by omega) dX1_signatureLength_14 (by decide) (fun c_2 => ?_) (fun c_2 => ?_)
      · refine lv_iinc (v := (nI (z + 1))) (lv' := [(3, .int (nI (z + 1))), (0, .ref (ax 0)), (1, .int (nI (u))), (2, .int (nI (s_sgF B u z)))]) hx hb dX1_signatureLength_43 hl (k := 3) rfl (nI_1 _) (by decide) rfl (fun ls hl => ?_)
        refine lv_goto (tgt := 4) hx hb dX1_signatureLength_46 (by decide) ?_
        have e_3 : ((nI (s_sgF B u z)) : Int32) = (nI (s_sgF B u (z + 1))) := by first | rfl | (simp [oI_s, bI_t, bI_f, s_sgF, c_1, c_2, Nat.not_le.mp c_1]; done) | (simp [oI_s, bI_t, bI_f, s_sgF, c_1, c_2, Nat.not_le.mp c_1]; omega) | (simp only [s_sgF]; (repeat' split) <;> first | rfl | omega | (simp_all; done) | (simp_all; omega))
        exact ih_4 (z + 1) (by omega) (by omega) _ (show lv_has ls 4 [(0, .ref (ax 0)), (1, .int (nI (u))), (2, .int (nI (s_sgF B u (z + 1)))), (3, .int (nI (z + 1)))] from by rw [← e_3]; exact lv_sub hl [1, 2, 3, 0] rfl)
      refine lv_aload_n hx hb dX1_signatureLength_17 rfl (lv_at hl 0 rfl) ?_
      refine va_get (D := D) (ci := 3) (v := .ref (ax 2)) (C := RX1) (T := TX1) (N := 12) hx hb hts hin hown hK hP 0 rfl rfl 2 (by decide) hf_17 (fun _ h9 => h9) rfl dX1_signatureLength_18 ?_
      refine lv_iload_n hx hb dX1_signatureLength_21 rfl (lv_at hl 3 rfl) ?_
      refine n_iald hx hb hK hP 2 0 rfl rfl (i := z) (by omega) (by decide) dX1_signatureLength_22 ?_
      have hq_4 := hB.2.1 1 z
      refine lv_aload_n hx hb dX1_signatureLength_23 rfl (lv_at hl 0 rfl) ?_
      refine va_get (D := D) (ci := 3) (v := .ref (ax 2)) (C := RX1) (T := TX1) (N := 12) hx hb hts hin hown hK hP 0 rfl rfl 2 (by decide) hf_17 (fun _ h9 => h9) rfl dX1_signatureLength_24 ?_
      refine lv_iload_n hx hb dX1_signatureLength_27 rfl (lv_at hl 1 rfl) ?_
      refine n_iald hx hb hK hP 2 0 rfl rfl (i := u) (by omega) (by decide) dX1_signatureLength_28 ?_
      have hq_5 := hB.2.1 1 u
      refine n_ne (tgt := 43) hx hb (by omega) (by omega) dX1_signatureLength_29 (by decide) (fun c_6 => ?_) (fun c_6 => ?_)
      · refine lv_iinc (v := (nI (z + 1))) (lv' := [(3, .int (nI (z + 1))), (0, .ref (ax 0)), (1, .int (nI (u))), (2, .int (nI (s_sgF B u z)))]) hx hb dX1_signatureLength_43 hl (k := 3) rfl (nI_1 _) (by decide) rfl (fun ls hl => ?_)
        refine lv_goto (tgt := 4) hx hb dX1_signatureLength_46 (by decide) ?_
        have e_7 : ((nI (s_sgF B u z)) : Int32) = (nI (s_sgF B u (z + 1))) := by first | rfl | (simp [oI_s, bI_t, bI_f, s_sgF, c_1, c_2, c_6, Nat.not_le.mp c_1]; done) | (simp [oI_s, bI_t, bI_f, s_sgF, c_1, c_2, c_6, Nat.not_le.mp c_1]; omega) | (simp only [s_sgF]; (repeat' split) <;> first | rfl | omega | (simp_all; done) | (simp_all; omega))
        exact ih_4 (z + 1) (by omega) (by omega) _ (show lv_has ls 4 [(0, .ref (ax 0)), (1, .int (nI (u))), (2, .int (nI (s_sgF B u (z + 1)))), (3, .int (nI (z + 1)))] from by rw [← e_7]; exact lv_sub hl [1, 2, 3, 0] rfl)
      refine lv_iload_n hx hb dX1_signatureLength_32 rfl (lv_at hl 2 rfl) ?_
      refine lv_aload_n hx hb dX1_signatureLength_33 rfl (lv_at hl 0 rfl) ?_
      refine lv_iload_n hx hb dX1_signatureLength_34 rfl (lv_at hl 1 rfl) ?_
      refine lv_iload_n hx hb dX1_signatureLength_35 rfl (lv_at hl 3 rfl) ?_
      refine ro_V (As := [.int (nI (u)), .int (nI (z))]) (v := (nI (s_ce B u z))) ⟨hx, hb, hml, hown, hts⟩ (kX1_commonEnd l D cI cZ cA ax n B Q cn rt wd qf T u z hB h_u (by omega)) (cwV 2 hts gX1_signatureLength_X1_commonEnd rfl rfl rfl hdX1_commonEnd ⟨Nat.le_of_ble_eq_true rfl, Nat.le_of_ble_eq_true rfl⟩) hK hP (ci := 3) rfl (q0 := 0) rfl rfl rfl hl.1 rfl (Nat.le_of_ble_eq_true rfl) dX1_signatureLength_36 ⟨Nat.zero_le _, Nat.zero_le _⟩ ?_
      refine va_mmax hx hb (hml.trans hl.1.symm) hown hm_221 hms_max hmi hmc_max (Nat.le_of_ble_eq_true rfl) (Nat.le_of_ble_eq_true rfl) (Nat.zero_le _) (Nat.zero_le _) dX1_signatureLength_39 ?_
      refine n_top (y := (nI (if (s_sgF B u z) < (s_ce B u z) then (s_ce B u z) else (s_sgF B u z)))) (n_max (by omega) (by omega)) ?_
      refine lv_istore_n (lv' := [(2, .int (nI (if (s_sgF B u z) < (s_ce B u z) then (s_ce B u z) else (s_sgF B u z)))), (0, .ref (ax 0)), (1, .int (nI (u))), (3, .int (nI (z)))]) hx hb dX1_signatureLength_42 rfl hl (by decide) rfl (fun ls hl => ?_)
      refine lv_iinc (v := (nI (z + 1))) (lv' := [(3, .int (nI (z + 1))), (2, .int (nI (if (s_sgF B u z) < (s_ce B u z) then (s_ce B u z) else (s_sgF B u z)))), (0, .ref (ax 0)), (1, .int (nI (u)))]) hx hb dX1_signatureLength_43 hl (k := 3) rfl (nI_1 _) (by decide) rfl (fun ls hl => ?_)
      refine lv_goto (tgt := 4) hx hb dX1_signatureLength_46 (by decide) ?_
      have e_8 : ((nI (if (s_sgF B u z) < (s_ce B u z) then (s_ce B u z) else (s_sgF B u z))) : Int32) = (nI (s_sgF B u (z + 1))) := by first | rfl | (simp [oI_s, bI_t, bI_f, s_sgF, c_1, c_2, c_6, Nat.not_le.mp c_1]; done) | (simp [oI_s, bI_t, bI_f, s_sgF, c_1, c_2, c_6, Nat.not_le.mp c_1]; omega) | (simp only [s_sgF]; (repeat' split) <;> first | rfl | omega | (simp_all; done) | (simp_all; omega))
      exact ih_4 (z + 1) (by omega) (by omega) _ (show lv_has ls 4 [(0, .ref (ax 0)), (1, .int (nI (u))), (2, .int (nI (s_sgF B u (z + 1)))), (3, .int (nI (z + 1)))] from by rw [← e_8]; exact lv_sub hl [2, 3, 1, 0] rfl)
  have e_9 : ((nI (0)) : Int32) = (nI (s_sgF B u 0)) := by first | rfl | (simp [oI_s, bI_t, bI_f, s_sgF]; done) | (simp [oI_s, bI_t, bI_f, s_sgF]; omega) | (simp only [s_sgF]; (repeat' split) <;> first | rfl | omega | (simp_all; done) | (simp_all; omega))
  exact loop_4 (n - 0 + 1) 0 (by omega) (by omega) _ (show lv_has ls 4 [(0, .ref (ax 0)), (1, .int (nI (u))), (2, .int (nI (s_sgF B u 0))), (3, .int (nI (0)))] from by rw [← e_9]; exact lv_sub hl [2, 3, 1, 0] rfl)
theorem hdX1_signatureLength : yX1_signatureLength.cls = RX1 ∧ yX1_signatureLength.cls ≠ "java/lang/invoke/MethodHandle" ∧ yX1_signatureLength.cls ≠ "java/lang/invoke/VarHandle" ∧ (parseMethodDescriptor yX1_signatureLength.desc).map (fun d => d.parameters.length) = some 1 := by decide +kernel
set_option maxHeartbeats 4000000 in
set_option maxRecDepth 100000 in
theorem kX1_kindAt (l : Launch) (D : va_G) (cI cZ cA : ClassId) (ax : Nat → Nat) (n : Nat) (B : Nat → Nat → Nat) (Q : Nat → Option Nat) (cn : Nat → Bool) (rt : Nat → Nat) (wd : Nat → Option Nat) (qf : Nat → Option Nat) (T : Nat → Nat → Nat) (x : Nat) (hB : Bok n B) (hQ : QA n B Q) (h_x : x < 80) (h_l : s_ln B x = true) : Met l yX1_kindAt wsX1_kindAt ({ frames := 3, cells := 0, slots := 0, locals := 70 }) (PcR D [(cI, .int), (cZ, .boolean), (cA, .array .int)] (wX cI cZ cA ax n B Q cn rt wd qf T) [.ref (ax 0), .int (nI (x))]) (vp_Si (fun r => r = (nI (s_knd n B (x / 8) (x % 8))))) 0 0 (fun _ => False) := by
  refine Met.ofW (cc := cX1_kindAt) (maxL := 4) (ret := (some .char)) (by decide) rfl ?_
  intro p e s m args below meth c s₁ BL hml hv
  obtain ⟨rfl, hP, hK⟩ := hv
  have hx := BL.exec
  have hb := BL.bytes
  have hr := BL.returns
  have hts := atoms_spec (ws := wsX1_kindAt) BL.pre
  have hown : s.vm.findClass RX1 = some m.cls := findClass_of_methodNamed BL.named
  have hlocks := BL.notSynchronized
  have hin : ∀ w ∈ wsX10, w ∈ wsX1_kindAt := by decide +kernel
  have hf_26 := hts (.fieldLink RX1 26 "TalkRebuilder" "lineCounts" "[I") (by decide +kernel)
  have hf_29 := hts (.fieldLink RX1 29 "TalkRebuilder" "marksAt" "[I") (by decide +kernel)
  have hl := lv_entry ([.ref (ax 0), .int (nI (x))]) (n := 4) (Nat.le_of_ble_eq_true rfl)
  rw [lg_entry_eq]
  generalize (lg_sl ([.ref (ax 0), .int (nI (x))]) ++ List.replicate (4 - (lg_sl ([.ref (ax 0), .int (nI (x))])).length) Slot.unset).toArray = ls at hl ⊢
  have hl : lv_has ls 4 [(0, .ref (ax 0)), (1, .int (nI (x)))] := hl
  have hn10 := hB.1
  obtain ⟨hxm, hxl, -⟩ := s_ln_t hB h_l
  have hsg := s_sig_le n B (x / 8)
  have h8m := hB.2.2.1 (x / 8)
  have e3 : 8 * (x / 8) + x % 8 = x := by omega
  refine lv_iload_n hx hb dX1_kindAt_0 rfl (lv_at hl 1 rfl) ?_
  refine ro_S (As := [.int (nI (x))]) (v := (nI (x / 8))) ⟨hx, hb, hml, hown, hts⟩ (kX1_mailAt l x h_x) (va_cwS 1 hts gX1_kindAt_X1_mailAt rfl rfl rfl hsX1_mailAt ⟨Nat.le_of_ble_eq_true rfl, Nat.le_of_ble_eq_true rfl⟩) rfl hl.1 rfl (Nat.le_of_ble_eq_true rfl) dX1_kindAt_1 ⟨Nat.zero_le _, Nat.zero_le _⟩ ?_
  refine lv_istore_n (lv' := [(2, .int (nI (x / 8))), (0, .ref (ax 0)), (1, .int (nI (x)))]) hx hb dX1_kindAt_4 rfl hl (by decide) rfl (fun ls hl => ?_)
  refine lv_aload_n hx hb dX1_kindAt_5 rfl (lv_at hl 1 rfl) ?_
  refine va_get (D := D) (ci := 3) (v := .ref (ax 6)) (C := RX1) (T := TX1) (N := 12) hx hb hts hin hown hK hP 0 rfl rfl 6 (by decide) hf_29 (fun _ h9 => h9) rfl dX1_kindAt_6 ?_
  refine lv_iload_n hx hb dX1_kindAt_9 rfl (lv_at hl 2 rfl) ?_
  refine n_iald hx hb hK hP 6 0 rfl rfl (i := x) (by omega) (by decide) dX1_kindAt_10 ?_
  have hq_1 := hB.2.2.2.2.2.1 x
  refine z_ne (tgt := 51) hx hb (by omega) dX1_kindAt_11 (by decide) (fun c_2 => ?_) (fun c_2 => ?_)
  · refine lv_aload_n hx hb dX1_kindAt_51 rfl (lv_at hl 1 rfl) ?_
    refine lv_iload_n hx hb dX1_kindAt_52 rfl (lv_at hl 2 rfl) ?_
    refine ro_V (As := [.int (nI (x))]) (v := (bI (s_hp n B x))) ⟨hx, hb, hml, hown, hts⟩ (kX1_hasPartner l D cI cZ cA ax n B Q cn rt wd qf T x hB hQ h_x) (cwV 1 hts gX1_kindAt_X1_hasPartner rfl rfl rfl hdX1_hasPartner ⟨Nat.le_of_ble_eq_true rfl, Nat.le_of_ble_eq_true rfl⟩) hK hP (ci := 3) rfl (q0 := 0) rfl rfl rfl hl.1 rfl (Nat.le_of_ble_eq_true rfl) dX1_kindAt_53 ⟨Nat.zero_le _, Nat.zero_le _⟩ ?_
    refine y_eq (tgt := 62) hx hb dX1_kindAt_56 (by decide) (fun c_3 => ?_) (fun c_3 => ?_)
    · refine lv_aload_n hx hb dX1_kindAt_62 rfl (lv_at hl 1 rfl) ?_
      refine va_get (D := D) (ci := 3) (v := .ref (ax 6)) (C := RX1) (T := TX1) (N := 12) hx hb hts hin hown hK hP 0 rfl rfl 6 (by decide) hf_29 (fun _ h9 => h9) rfl dX1_kindAt_63 ?_
      refine lv_iload_n hx hb dX1_kindAt_66 rfl (lv_at hl 2 rfl) ?_
      refine n_iald hx hb hK hP 6 0 rfl rfl (i := x) (by omega) (by decide) dX1_kindAt_67 ?_
      have hq_4 := hB.2.2.2.2.2.1 x
      refine lv_iconst (v := (nI (1))) hx hb dX1_kindAt_68 (by decide +kernel) ?_
      refine n_ne (tgt := 96) hx hb (by omega) (by omega) dX1_kindAt_69 (by decide) (fun c_5 => ?_) (fun c_5 => ?_)
      · refine lv_bipush (v := (nI (120))) hx hb dX1_kindAt_96 (by decide +kernel) ?_
        exact W.zret (v := (nI (120))) hx hb hr (by decide +kernel) (fun t ht hW => ⟨_, rfl, by rw [← s_knx_e hB h_l]; exact congrArg nI (by simp [s_knx, c_2, c_3, c_5]), ht⟩) (fun _ h => nomatch h) dX1_kindAt_98
      refine lv_aload_n hx hb dX1_kindAt_72 rfl (lv_at hl 1 rfl) ?_
      refine lv_iload_n hx hb dX1_kindAt_73 rfl (lv_at hl 0 rfl) ?_
      refine ro_V (As := [.int (nI (x / 8))]) (v := (bI (s_am n B (x / 8)))) ⟨hx, hb, hml, hown, hts⟩ (kX1_answersMissing l D cI cZ cA ax n B Q cn rt wd qf T (x / 8) hB (by omega)) (cwV 1 hts gX1_kindAt_X1_answersMissing rfl rfl rfl hdX1_answersMissing ⟨Nat.le_of_ble_eq_true rfl, Nat.le_of_ble_eq_true rfl⟩) hK hP (ci := 3) rfl (q0 := 0) rfl rfl rfl hl.1 rfl (Nat.le_of_ble_eq_true rfl) dX1_kindAt_74 ⟨Nat.zero_le _, Nat.zero_le _⟩ ?_
      refine y_eq (tgt := 96) hx hb dX1_kindAt_77 (by decide) (fun c_6 => ?_) (fun c_6 => ?_)
      · refine lv_bipush (v := (nI (120))) hx hb dX1_kindAt_96 (by decide +kernel) ?_
        exact W.zret (v := (nI (120))) hx hb hr (by decide +kernel) (fun t ht hW => ⟨_, rfl, by rw [← s_knx_e hB h_l]; exact congrArg nI (by simp [s_knx, c_2, c_3, c_5, c_6]), ht⟩) (fun _ h => nomatch h) dX1_kindAt_98
      refine lv_aload_n hx hb dX1_kindAt_80 rfl (lv_at hl 1 rfl) ?_
      refine lv_iload_n hx hb dX1_kindAt_81 rfl (lv_at hl 2 rfl) ?_
      refine ro_V (As := [.int (nI (x))]) (v := (bI (s_sb n B (x / 8) (x % 8)))) ⟨hx, hb, hml, hown, hts⟩ (kX1_isDouble l D cI cZ cA ax n B Q cn rt wd qf T x hB h_x h_l) (cwV 1 hts gX1_kindAt_X1_isDouble rfl rfl rfl hdX1_isDouble ⟨Nat.le_of_ble_eq_true rfl, Nat.le_of_ble_eq_true rfl⟩) hK hP (ci := 3) rfl (q0 := 0) rfl rfl rfl hl.1 rfl (Nat.le_of_ble_eq_true rfl) dX1_kindAt_82 ⟨Nat.zero_le _, Nat.zero_le _⟩ ?_
      refine y_eq (tgt := 93) hx hb dX1_kindAt_85 (by decide) (fun c_7 => ?_) (fun c_7 => ?_)
      · refine lv_bipush (v := (nI (114))) hx hb dX1_kindAt_93 (by decide +kernel) ?_
        exact W.zret (v := (nI (114))) hx hb hr (by decide +kernel) (fun t ht hW => ⟨_, rfl, by rw [← s_knx_e hB h_l]; exact congrArg nI (by simp [s_knx, c_2, c_3, c_5, c_6, c_7]), ht⟩) (fun _ h => nomatch h) dX1_kindAt_95
      refine lv_bipush (v := (nI (100))) hx hb dX1_kindAt_88 (by decide +kernel) ?_
      refine lv_goto (tgt := 95) hx hb dX1_kindAt_90 (by decide) ?_
      exact W.zret (v := (nI (100))) hx hb hr (by decide +kernel) (fun t ht hW => ⟨_, rfl, by rw [← s_knx_e hB h_l]; exact congrArg nI (by simp [s_knx, c_2, c_3, c_5, c_6, c_7]), ht⟩) (fun _ h => nomatch h) dX1_kindAt_95
    refine lv_bipush (v := (nI (113))) hx hb dX1_kindAt_59 (by decide +kernel) ?_
    exact W.zret (v := (nI (113))) hx hb hr (by decide +kernel) (fun t ht hW => ⟨_, rfl, by rw [← s_knx_e hB h_l]; exact congrArg nI (by simp [s_knx, c_2, c_3]), ht⟩) (fun _ h => nomatch h) dX1_kindAt_61
  refine lv_iload_n hx hb dX1_kindAt_14 rfl (lv_at hl 2 rfl) ?_
  refine ro_S (As := [.int (nI (x))]) (v := (nI (x % 8))) ⟨hx, hb, hml, hown, hts⟩ (kX1_lineAt l x h_x) (va_cwS 1 hts gX1_kindAt_X1_lineAt rfl rfl rfl hsX1_lineAt ⟨Nat.le_of_ble_eq_true rfl, Nat.le_of_ble_eq_true rfl⟩) rfl hl.1 rfl (Nat.le_of_ble_eq_true rfl) dX1_kindAt_15 ⟨Nat.zero_le _, Nat.zero_le _⟩ ?_
  refine lv_aload_n hx hb dX1_kindAt_18 rfl (lv_at hl 1 rfl) ?_
  refine va_get (D := D) (ci := 3) (v := .ref (ax 5)) (C := RX1) (T := TX1) (N := 12) hx hb hts hin hown hK hP 0 rfl rfl 5 (by decide) hf_26 (fun _ h9 => h9) rfl dX1_kindAt_19 ?_
  refine lv_iload_n hx hb dX1_kindAt_22 rfl (lv_at hl 0 rfl) ?_
  refine n_iald hx hb hK hP 5 0 rfl rfl (i := x / 8) (by omega) (by decide) dX1_kindAt_23 ?_
  have hq_8 := hB.2.2.1 (x / 8)
  refine lv_aload_n hx hb dX1_kindAt_24 rfl (lv_at hl 1 rfl) ?_
  refine lv_iload_n hx hb dX1_kindAt_25 rfl (lv_at hl 0 rfl) ?_
  refine ro_V (As := [.int (nI (x / 8))]) (v := (nI (s_sig n B (x / 8)))) ⟨hx, hb, hml, hown, hts⟩ (kX1_signatureLength l D cI cZ cA ax n B Q cn rt wd qf T (x / 8) hB (by omega)) (cwV 1 hts gX1_kindAt_X1_signatureLength rfl rfl rfl hdX1_signatureLength ⟨Nat.le_of_ble_eq_true rfl, Nat.le_of_ble_eq_true rfl⟩) hK hP (ci := 3) rfl (q0 := 0) rfl rfl rfl hl.1 rfl (Nat.le_of_ble_eq_true rfl) dX1_kindAt_26 ⟨Nat.zero_le _, Nat.zero_le _⟩ ?_
  refine lv_isub hx hb dX1_kindAt_29 ?_
  refine n_top (y := (nI (B 4 (x / 8) - (s_sig n B (x / 8))))) (pk_sub (by omega)) ?_
  refine n_lt (tgt := 37) hx hb (by omega) (by omega) dX1_kindAt_30 (by decide) (fun c_9 => ?_) (fun c_9 => ?_)
  · refine lv_iconst (v := (nI (0))) hx hb dX1_kindAt_37 (by decide +kernel) ?_
    refine lv_istore_n (lv' := [(3, .int (nI (0))), (2, .int (nI (x / 8))), (0, .ref (ax 0)), (1, .int (nI (x)))]) hx hb dX1_kindAt_38 rfl hl (by decide) rfl (fun ls hl => ?_)
    refine lv_iload_n hx hb dX1_kindAt_39 rfl (lv_at hl 0 rfl) ?_
    refine z_eq (tgt := 48) hx hb (by decide) dX1_kindAt_40 (by decide) (fun _ => ?_) (fun q => absurd q (by decide))
    refine lv_bipush (v := (nI (110))) hx hb dX1_kindAt_48 (by decide +kernel) ?_
    exact W.zret (v := (nI (110))) hx hb hr (by decide +kernel) (fun t ht hW => ⟨_, rfl, by rw [← s_knx_e hB h_l]; exact congrArg nI (by simp [s_knx, c_2, c_9, Nat.not_le.mpr c_9]), ht⟩) (fun _ h => nomatch h) dX1_kindAt_50
  refine lv_iconst (v := (nI (1))) hx hb dX1_kindAt_33 (by decide +kernel) ?_
  refine lv_goto (tgt := 38) hx hb dX1_kindAt_34 (by decide) ?_
  refine lv_istore_n (lv' := [(3, .int (nI (1))), (2, .int (nI (x / 8))), (0, .ref (ax 0)), (1, .int (nI (x)))]) hx hb dX1_kindAt_38 rfl hl (by decide) rfl (fun ls hl => ?_)
  refine lv_iload_n hx hb dX1_kindAt_39 rfl (lv_at hl 0 rfl) ?_
  refine z_eq (tgt := 48) hx hb (by decide) dX1_kindAt_40 (by decide) (fun q => absurd q (by decide)) (fun _ => ?_)
  refine lv_bipush (v := (nI (115))) hx hb dX1_kindAt_43 (by decide +kernel) ?_
  refine lv_goto (tgt := 50) hx hb dX1_kindAt_45 (by decide) ?_
  exact W.zret (v := (nI (115))) hx hb hr (by decide +kernel) (fun t ht hW => ⟨_, rfl, by rw [← s_knx_e hB h_l]; exact congrArg nI (by simp [s_knx, c_2, c_9, Nat.not_lt.mp c_9]), ht⟩) (fun _ h => nomatch h) dX1_kindAt_50
theorem hdX1_kindAt : yX1_kindAt.cls = RX1 ∧ yX1_kindAt.cls ≠ "java/lang/invoke/MethodHandle" ∧ yX1_kindAt.cls ≠ "java/lang/invoke/VarHandle" ∧ (parseMethodDescriptor yX1_kindAt.desc).map (fun d => d.parameters.length) = some 1 := by decide +kernel
set_option maxHeartbeats 4000000 in
set_option maxRecDepth 100000 in
theorem kX1_isNew (l : Launch) (D : va_G) (cI cZ cA : ClassId) (ax : Nat → Nat) (n : Nat) (B : Nat → Nat → Nat) (Q : Nat → Option Nat) (cn : Nat → Bool) (rt : Nat → Nat) (wd : Nat → Option Nat) (qf : Nat → Option Nat) (T : Nat → Nat → Nat) (x : Nat) (hB : Bok n B) (hQ : QA n B Q) (h_x : x < 80) : Met l yX1_isNew wsX1_isNew ({ frames := 4, cells := 0, slots := 0, locals := 93 }) (PcR D [(cI, .int), (cZ, .boolean), (cA, .array .int)] (wX cI cZ cA ax n B Q cn rt wd qf T) [.ref (ax 0), .int (nI (x))]) (vp_Si (fun r => r = (bI (s_nw n B x)))) 0 0 (fun _ => False) := by
  refine Met.ofW (cc := cX1_isNew) (maxL := 2) (ret := (some .boolean)) (by decide) rfl ?_
  intro p e s m args below meth c s₁ BL hml hv
  obtain ⟨rfl, hP, hK⟩ := hv
  have hx := BL.exec
  have hb := BL.bytes
  have hr := BL.returns
  have hts := atoms_spec (ws := wsX1_isNew) BL.pre
  have hown : s.vm.findClass RX1 = some m.cls := findClass_of_methodNamed BL.named
  have hlocks := BL.notSynchronized
  have hl := lv_entry ([.ref (ax 0), .int (nI (x))]) (n := 2) (Nat.le_of_ble_eq_true rfl)
  rw [lg_entry_eq]
  generalize (lg_sl ([.ref (ax 0), .int (nI (x))]) ++ List.replicate (2 - (lg_sl ([.ref (ax 0), .int (nI (x))])).length) Slot.unset).toArray = ls at hl ⊢
  have hl : lv_has ls 2 [(0, .ref (ax 0)), (1, .int (nI (x)))] := hl
  have hn10 := hB.1
  have hkd := s_knd_b n B (x / 8) (x % 8)
  refine lv_aload_n hx hb dX1_isNew_0 rfl (lv_at hl 0 rfl) ?_
  refine lv_iload_n hx hb dX1_isNew_1 rfl (lv_at hl 1 rfl) ?_
  refine ro_V (As := [.int (nI (x))]) (v := (bI (s_ln B x))) ⟨hx, hb, hml, hown, hts⟩ (kX1_isLine l D cI cZ cA ax n B Q cn rt wd qf T x hB h_x) (cwV 1 hts gX1_isNew_X1_isLine rfl rfl rfl hdX1_isLine ⟨Nat.le_of_ble_eq_true rfl, Nat.le_of_ble_eq_true rfl⟩) hK hP (ci := 3) rfl (q0 := 0) rfl rfl rfl hl.1 rfl (Nat.le_of_ble_eq_true rfl) dX1_isNew_2 ⟨Nat.zero_le _, Nat.zero_le _⟩ ?_
  refine y_eq (tgt := 22) hx hb dX1_isNew_5 (by decide) (fun c_1 => ?_) (fun c_1 => ?_)
  · refine lv_iconst (v := (nI (0))) hx hb dX1_isNew_22 (by decide +kernel) ?_
    exact W.zret (v := (nI (0))) hx hb hr (by decide +kernel) (fun t ht hW => ⟨_, rfl, by first | rfl | (simp [oI_s, bI_t, bI_f, s_nw, c_1]; done) | (simp [oI_s, bI_t, bI_f, s_nw, c_1]; omega) | (simp only [s_nw]; (repeat' split) <;> first | rfl | omega | (simp_all; done) | (simp_all; omega)), ht⟩) (fun _ h => nomatch h) dX1_isNew_23
  refine lv_aload_n hx hb dX1_isNew_8 rfl (lv_at hl 0 rfl) ?_
  refine lv_iload_n hx hb dX1_isNew_9 rfl (lv_at hl 1 rfl) ?_
  refine ro_V (As := [.int (nI (x))]) (v := (nI (s_knd n B (x / 8) (x % 8)))) ⟨hx, hb, hml, hown, hts⟩ (kX1_kindAt l D cI cZ cA ax n B Q cn rt wd qf T x hB hQ h_x (by omega)) (cwV 1 hts gX1_isNew_X1_kindAt rfl rfl rfl hdX1_kindAt ⟨Nat.le_of_ble_eq_true rfl, Nat.le_of_ble_eq_true rfl⟩) hK hP (ci := 3) rfl (q0 := 0) rfl rfl rfl hl.1 rfl (Nat.le_of_ble_eq_true rfl) dX1_isNew_10 ⟨Nat.zero_le _, Nat.zero_le _⟩ ?_
  refine lv_bipush (v := (nI (110))) hx hb dX1_isNew_13 (by decide +kernel) ?_
  refine n_ne (tgt := 22) hx hb (by omega) (by omega) dX1_isNew_15 (by decide) (fun c_2 => ?_) (fun c_2 => ?_)
  · refine lv_iconst (v := (nI (0))) hx hb dX1_isNew_22 (by decide +kernel) ?_
    exact W.zret (v := (nI (0))) hx hb hr (by decide +kernel) (fun t ht hW => ⟨_, rfl, by first | rfl | (simp [oI_s, bI_t, bI_f, s_nw, c_1, c_2]; done) | (simp [oI_s, bI_t, bI_f, s_nw, c_1, c_2]; omega) | (simp only [s_nw]; (repeat' split) <;> first | rfl | omega | (simp_all; done) | (simp_all; omega)), ht⟩) (fun _ h => nomatch h) dX1_isNew_23
  refine lv_iconst (v := (nI (1))) hx hb dX1_isNew_18 (by decide +kernel) ?_
  refine lv_goto (tgt := 23) hx hb dX1_isNew_19 (by decide) ?_
  exact W.zret (v := (nI (1))) hx hb hr (by decide +kernel) (fun t ht hW => ⟨_, rfl, by first | rfl | (simp [oI_s, bI_t, bI_f, s_nw, c_1, c_2]; done) | (simp [oI_s, bI_t, bI_f, s_nw, c_1, c_2]; omega) | (simp only [s_nw]; (repeat' split) <;> first | rfl | omega | (simp_all; done) | (simp_all; omega)), ht⟩) (fun _ h => nomatch h) dX1_isNew_23
theorem hdX1_isNew : yX1_isNew.cls = RX1 ∧ yX1_isNew.cls ≠ "java/lang/invoke/MethodHandle" ∧ yX1_isNew.cls ≠ "java/lang/invoke/VarHandle" ∧ (parseMethodDescriptor yX1_isNew.desc).map (fun d => d.parameters.length) = some 1 := by decide +kernel
set_option maxHeartbeats 4000000 in
set_option maxRecDepth 100000 in
theorem kX1_isInTalk (l : Launch) (D : va_G) (cI cZ cA : ClassId) (ax : Nat → Nat) (n : Nat) (B : Nat → Nat → Nat) (Q : Nat → Option Nat) (cn : Nat → Bool) (rt : Nat → Nat) (wd : Nat → Option Nat) (qf : Nat → Option Nat) (T : Nat → Nat → Nat) (x : Nat) (hB : Bok n B) (hQ : QA n B Q) (h_x : x < 80) : Met l yX1_isInTalk wsX1_isInTalk ({ frames := 4, cells := 0, slots := 0, locals := 93 }) (PcR D [(cI, .int), (cZ, .boolean), (cA, .array .int)] (wX cI cZ cA ax n B Q cn rt wd qf T) [.ref (ax 0), .int (nI (x))]) (vp_Si (fun r => r = (bI (s_tl8 n B x)))) 0 0 (fun _ => False) := by
  refine Met.ofW (cc := cX1_isInTalk) (maxL := 3) (ret := (some .boolean)) (by decide) rfl ?_
  intro p e s m args below meth c s₁ BL hml hv
  obtain ⟨rfl, hP, hK⟩ := hv
  have hx := BL.exec
  have hb := BL.bytes
  have hr := BL.returns
  have hts := atoms_spec (ws := wsX1_isInTalk) BL.pre
  have hown : s.vm.findClass RX1 = some m.cls := findClass_of_methodNamed BL.named
  have hlocks := BL.notSynchronized
  have hl := lv_entry ([.ref (ax 0), .int (nI (x))]) (n := 3) (Nat.le_of_ble_eq_true rfl)
  rw [lg_entry_eq]
  generalize (lg_sl ([.ref (ax 0), .int (nI (x))]) ++ List.replicate (3 - (lg_sl ([.ref (ax 0), .int (nI (x))])).length) Slot.unset).toArray = ls at hl ⊢
  have hl : lv_has ls 3 [(0, .ref (ax 0)), (1, .int (nI (x)))] := hl
  have hn10 := hB.1
  have hkd := s_knd_b n B (x / 8) (x % 8)
  refine lv_aload_n hx hb dX1_isInTalk_0 rfl (lv_at hl 0 rfl) ?_
  refine lv_iload_n hx hb dX1_isInTalk_1 rfl (lv_at hl 1 rfl) ?_
  refine ro_V (As := [.int (nI (x))]) (v := (bI (s_ln B x))) ⟨hx, hb, hml, hown, hts⟩ (kX1_isLine l D cI cZ cA ax n B Q cn rt wd qf T x hB h_x) (cwV 1 hts gX1_isInTalk_X1_isLine rfl rfl rfl hdX1_isLine ⟨Nat.le_of_ble_eq_true rfl, Nat.le_of_ble_eq_true rfl⟩) hK hP (ci := 3) rfl (q0 := 0) rfl rfl rfl hl.1 rfl (Nat.le_of_ble_eq_true rfl) dX1_isInTalk_2 ⟨Nat.zero_le _, Nat.zero_le _⟩ ?_
  refine y_ne (tgt := 10) hx hb dX1_isInTalk_5 (by decide) (fun c_1 => ?_) (fun c_1 => ?_)
  · refine lv_aload_n hx hb dX1_isInTalk_10 rfl (lv_at hl 0 rfl) ?_
    refine lv_iload_n hx hb dX1_isInTalk_11 rfl (lv_at hl 1 rfl) ?_
    refine ro_V (As := [.int (nI (x))]) (v := (nI (s_knd n B (x / 8) (x % 8)))) ⟨hx, hb, hml, hown, hts⟩ (kX1_kindAt l D cI cZ cA ax n B Q cn rt wd qf T x hB hQ h_x (by omega)) (cwV 1 hts gX1_isInTalk_X1_kindAt rfl rfl rfl hdX1_kindAt ⟨Nat.le_of_ble_eq_true rfl, Nat.le_of_ble_eq_true rfl⟩) hK hP (ci := 3) rfl (q0 := 0) rfl rfl rfl hl.1 rfl (Nat.le_of_ble_eq_true rfl) dX1_isInTalk_12 ⟨Nat.zero_le _, Nat.zero_le _⟩ ?_
    refine lv_istore_n (lv' := [(2, .int (nI (s_knd n B (x / 8) (x % 8)))), (0, .ref (ax 0)), (1, .int (nI (x)))]) hx hb dX1_isInTalk_15 rfl hl (by decide) rfl (fun ls hl => ?_)
    refine lv_iload_n hx hb dX1_isInTalk_16 rfl (lv_at hl 0 rfl) ?_
    refine lv_bipush (v := (nI (110))) hx hb dX1_isInTalk_17 (by decide +kernel) ?_
    refine n_eq (tgt := 28) hx hb (by omega) (by omega) dX1_isInTalk_19 (by decide) (fun c_2 => ?_) (fun c_2 => ?_)
    · refine lv_iconst (v := (nI (1))) hx hb dX1_isInTalk_28 (by decide +kernel) ?_
      refine lv_goto (tgt := 33) hx hb dX1_isInTalk_29 (by decide) ?_
      exact W.zret (v := (nI (1))) hx hb hr (by decide +kernel) (fun t ht hW => ⟨_, rfl, by first | rfl | (simp [oI_s, bI_t, bI_f, s_tl8, s_talk, c_1, c_2]; done) | (simp [oI_s, bI_t, bI_f, s_tl8, s_talk, c_1, c_2]; omega) | (simp only [s_tl8, s_talk]; (repeat' split) <;> first | rfl | omega | (simp_all; done) | (simp_all; omega)), ht⟩) (fun _ h => nomatch h) dX1_isInTalk_33
    refine lv_iload_n hx hb dX1_isInTalk_22 rfl (lv_at hl 0 rfl) ?_
    refine lv_bipush (v := (nI (114))) hx hb dX1_isInTalk_23 (by decide +kernel) ?_
    refine n_ne (tgt := 32) hx hb (by omega) (by omega) dX1_isInTalk_25 (by decide) (fun c_3 => ?_) (fun c_3 => ?_)
    · refine lv_iconst (v := (nI (0))) hx hb dX1_isInTalk_32 (by decide +kernel) ?_
      exact W.zret (v := (nI (0))) hx hb hr (by decide +kernel) (fun t ht hW => ⟨_, rfl, by first | rfl | (simp [oI_s, bI_t, bI_f, s_tl8, s_talk, c_1, c_2, c_3]; done) | (simp [oI_s, bI_t, bI_f, s_tl8, s_talk, c_1, c_2, c_3]; omega) | (simp only [s_tl8, s_talk]; (repeat' split) <;> first | rfl | omega | (simp_all; done) | (simp_all; omega)), ht⟩) (fun _ h => nomatch h) dX1_isInTalk_33
    refine lv_iconst (v := (nI (1))) hx hb dX1_isInTalk_28 (by decide +kernel) ?_
    refine lv_goto (tgt := 33) hx hb dX1_isInTalk_29 (by decide) ?_
    exact W.zret (v := (nI (1))) hx hb hr (by decide +kernel) (fun t ht hW => ⟨_, rfl, by first | rfl | (simp [oI_s, bI_t, bI_f, s_tl8, s_talk, c_1, c_2, c_3]; done) | (simp [oI_s, bI_t, bI_f, s_tl8, s_talk, c_1, c_2, c_3]; omega) | (simp only [s_tl8, s_talk]; (repeat' split) <;> first | rfl | omega | (simp_all; done) | (simp_all; omega)), ht⟩) (fun _ h => nomatch h) dX1_isInTalk_33
  refine lv_iconst (v := (nI (0))) hx hb dX1_isInTalk_8 (by decide +kernel) ?_
  exact W.zret (v := (nI (0))) hx hb hr (by decide +kernel) (fun t ht hW => ⟨_, rfl, by first | rfl | (simp [oI_s, bI_t, bI_f, s_tl8, s_talk, c_1]; done) | (simp [oI_s, bI_t, bI_f, s_tl8, s_talk, c_1]; omega) | (simp only [s_tl8, s_talk]; (repeat' split) <;> first | rfl | omega | (simp_all; done) | (simp_all; omega)), ht⟩) (fun _ h => nomatch h) dX1_isInTalk_9
theorem hdX1_isInTalk : yX1_isInTalk.cls = RX1 ∧ yX1_isInTalk.cls ≠ "java/lang/invoke/MethodHandle" ∧ yX1_isInTalk.cls ≠ "java/lang/invoke/VarHandle" ∧ (parseMethodDescriptor yX1_isInTalk.desc).map (fun d => d.parameters.length) = some 1 := by decide +kernel
set_option maxHeartbeats 4000000 in
set_option maxRecDepth 100000 in
theorem kX1_answeredBy (l : Launch) (D : va_G) (cI cZ cA : ClassId) (ax : Nat → Nat) (n : Nat) (B : Nat → Nat → Nat) (Q : Nat → Option Nat) (cn : Nat → Bool) (rt : Nat → Nat) (wd : Nat → Option Nat) (qf : Nat → Option Nat) (T : Nat → Nat → Nat) (x : Nat) (hB : Bok n B) (hQ : QA n B Q) (h_x : x < 80) (h_l : s_ln B x = true) : Met l yX1_answeredBy wsX1_answeredBy ({ frames := 4, cells := 0, slots := 0, locals := 87 }) (PcR D [(cI, .int), (cZ, .boolean), (cA, .array .int)] (wX cI cZ cA ax n B Q cn rt wd qf T) [.ref (ax 0), .int (nI (x))]) (vp_Si (fun r => r = (oI (s_an n B (x / 8) (x % 8))))) 0 0 (fun _ => False) := by
  refine Met.ofW (cc := cX1_answeredBy) (maxL := 4) (ret := (some .int)) (by decide) rfl ?_
  intro p e s m args below meth c s₁ BL hml hv
  obtain ⟨rfl, hP, hK⟩ := hv
  have hx := BL.exec
  have hb := BL.bytes
  have hr := BL.returns
  have hts := atoms_spec (ws := wsX1_answeredBy) BL.pre
  have hown : s.vm.findClass RX1 = some m.cls := findClass_of_methodNamed BL.named
  have hlocks := BL.notSynchronized
  have hl := lv_entry ([.ref (ax 0), .int (nI (x))]) (n := 4) (Nat.le_of_ble_eq_true rfl)
  rw [lg_entry_eq]
  generalize (lg_sl ([.ref (ax 0), .int (nI (x))]) ++ List.replicate (4 - (lg_sl ([.ref (ax 0), .int (nI (x))])).length) Slot.unset).toArray = ls at hl ⊢
  have hl : lv_has ls 4 [(0, .ref (ax 0)), (1, .int (nI (x)))] := hl
  have hn10 := hB.1
  obtain ⟨hxm, hxl, -⟩ := s_ln_t hB h_l
  refine lv_iload_n hx hb dX1_answeredBy_0 rfl (lv_at hl 1 rfl) ?_
  refine ro_S (As := [.int (nI (x))]) (v := (nI (x / 8))) ⟨hx, hb, hml, hown, hts⟩ (kX1_mailAt l x h_x) (va_cwS 1 hts gX1_answeredBy_X1_mailAt rfl rfl rfl hsX1_mailAt ⟨Nat.le_of_ble_eq_true rfl, Nat.le_of_ble_eq_true rfl⟩) rfl hl.1 rfl (Nat.le_of_ble_eq_true rfl) dX1_answeredBy_1 ⟨Nat.zero_le _, Nat.zero_le _⟩ ?_
  refine lv_iconst (v := (nI (0))) hx hb dX1_answeredBy_4 (by decide +kernel) ?_
  refine ro_S (As := [.int (nI (x / 8)), .int (nI (0))]) (v := (nI (8 * (x / 8) + 0))) ⟨hx, hb, hml, hown, hts⟩ (kX1_placeOf l (x / 8) 0 (by omega) (by omega)) (va_cwS 2 hts gX1_answeredBy_X1_placeOf rfl rfl rfl hsX1_placeOf ⟨Nat.le_of_ble_eq_true rfl, Nat.le_of_ble_eq_true rfl⟩) rfl hl.1 rfl (Nat.le_of_ble_eq_true rfl) dX1_answeredBy_5 ⟨Nat.zero_le _, Nat.zero_le _⟩ ?_
  refine lv_istore_n (lv' := [(2, .int (nI (8 * (x / 8) + 0))), (0, .ref (ax 0)), (1, .int (nI (x)))]) hx hb dX1_answeredBy_8 rfl hl (by decide) rfl (fun ls hl => ?_)
  refine lv_iload_n hx hb dX1_answeredBy_9 rfl (lv_at hl 2 rfl) ?_
  refine lv_iconst (v := (nI (1))) hx hb dX1_answeredBy_10 (by decide +kernel) ?_
  refine lv_isub hx hb dX1_answeredBy_11 ?_
  refine n_top (y := (nI (x) - 1)) (by rw [nI_one]) ?_
  refine lv_istore_n (lv' := [(3, .int (nI (x) - 1)), (2, .int (nI (8 * (x / 8) + 0))), (0, .ref (ax 0)), (1, .int (nI (x)))]) hx hb dX1_answeredBy_12 rfl hl (by decide) rfl (fun ls hl => ?_)
  have loop_13 : ∀ (N : Nat) (k : Nat), k < N → (8 * (x / 8) ≤ k) → (k ≤ x) → (s_an n B (x / 8) (x % 8) = s_an n B (x / 8) (k - 8 * (x / 8))) → ∀ (ls : Array Slot), lv_has ls 4 [(0, .ref (ax 0)), (1, .int (nI (x))), (2, .int (nI (8 * (x / 8) + 0))), (3, .int (nI (k) - 1))] → W p l e (headSpec wsX1_answeredBy ({ frames := 4, cells := 0, slots := 0, locals := 87 })).room s m ([.ref (ax 0), .int (nI (x))] : List Value).toArray below meth c s.heap [] 0 0 (MQ below (vp_Si (fun r => r = (oI (s_an n B (x / 8) (x % 8))))) ([.ref (ax 0), .int (nI (x))] : List Value).toArray s 0 0 (fun _ => False)) (F0 m 13 ls []) := by
    intro N
    induction N with
    | zero => intro k hmu; exact absurd hmu (Nat.not_lt_zero _)
    | succ N ih_13 =>
      intro k hmu_13 h_k h_k2 h_o ls hl
      refine lv_iload_n hx hb dX1_answeredBy_13 rfl (lv_at hl 3 rfl) ?_
      refine lv_iload_n hx hb dX1_answeredBy_14 rfl (lv_at hl 2 rfl) ?_
      refine mm_lt (tgt := 38) hx hb (by omega) (by omega) dX1_answeredBy_15 (by decide) (fun c_1 => ?_) (fun j1 c_1 hf_m => ?_)
      · have hke : k - 8 * (x / 8) = 0 := by omega
        refine lv_iconst (v := (oI (none))) hx hb dX1_answeredBy_38 (by decide +kernel) ?_
        exact W.iret (v := (oI (none))) hx hb hr (fun t ht hW => ⟨_, rfl, by first | (rw [h_o, hke]; rfl) | (rw [s_an_b2 hB hj8 hjl hf_m h_o c_1]; rfl), ht⟩) (fun _ h => nomatch h) dX1_answeredBy_39
      subst c_1
      rw [nI_m1] at hl
      have hl : lv_has ls 4 [(0, .ref (ax 0)), (1, .int (nI (x))), (2, .int (nI (8 * (x / 8) + 0))), (3, .int (nI (j1)))] := hl
      have hj8 : j1 / 8 = x / 8 := by omega
      have hjl : s_ln B j1 = true := by unfold s_ln; rw [hj8]; exact decide_eq_true (by omega)
      refine lv_aload_n hx hb dX1_answeredBy_18 rfl (lv_at hl 0 rfl) ?_
      refine lv_iload_n hx hb dX1_answeredBy_19 rfl (lv_at hl 3 rfl) ?_
      refine ro_V (As := [.int (nI (j1))]) (v := (bI (s_hp n B j1))) ⟨hx, hb, hml, hown, hts⟩ (kX1_hasPartner l D cI cZ cA ax n B Q cn rt wd qf T j1 hB hQ (by omega)) (cwV 1 hts gX1_answeredBy_X1_hasPartner rfl rfl rfl hdX1_hasPartner ⟨Nat.le_of_ble_eq_true rfl, Nat.le_of_ble_eq_true rfl⟩) hK hP (ci := 3) rfl (q0 := 0) rfl rfl rfl hl.1 rfl (Nat.le_of_ble_eq_true rfl) dX1_answeredBy_20 ⟨Nat.zero_le _, Nat.zero_le _⟩ ?_
      refine y_eq (tgt := 32) hx hb dX1_answeredBy_23 (by decide) (fun c_2 => ?_) (fun c_2 => ?_)
      · refine lv_iinc (v := (nI (j1) - 1)) (lv' := [(3, .int (nI (j1) - 1)), (0, .ref (ax 0)), (1, .int (nI (x))), (2, .int (nI (8 * (x / 8) + 0)))]) hx hb dX1_answeredBy_32 hl (k := 3) rfl (n_dec _) (by decide) rfl (fun ls hl => ?_)
        refine lv_goto (tgt := 13) hx hb dX1_answeredBy_35 (by decide) ?_
        exact ih_13 j1 (by omega) (by omega) (by omega) (by first | (rw [show x % 8 = x - 8 * (x / 8) from by omega]; done) | exact s_an_b1 hB hj8 hjl hf_m h_o c_2) _ (show lv_has ls 4 [(0, .ref (ax 0)), (1, .int (nI (x))), (2, .int (nI (8 * (x / 8) + 0))), (3, .int (nI (j1) - 1))] from by exact lv_sub hl [1, 2, 3, 0] rfl)
      refine lv_aload_n hx hb dX1_answeredBy_26 rfl (lv_at hl 0 rfl) ?_
      refine lv_iload_n hx hb dX1_answeredBy_27 rfl (lv_at hl 3 rfl) ?_
      refine ro_V (As := [.int (nI (j1))]) (v := (nI (s_org n B (j1 / 8) (j1 % 8)))) ⟨hx, hb, hml, hown, hts⟩ (kX1_originOf l D cI cZ cA ax n B Q cn rt wd qf T j1 hB hQ (by omega) (by omega)) (cwV 1 hts gX1_answeredBy_X1_originOf rfl rfl rfl hdX1_originOf ⟨Nat.le_of_ble_eq_true rfl, Nat.le_of_ble_eq_true rfl⟩) hK hP (ci := 3) rfl (q0 := 0) rfl rfl rfl hl.1 rfl (Nat.le_of_ble_eq_true rfl) dX1_answeredBy_28 ⟨Nat.zero_le _, Nat.zero_le _⟩ ?_
      exact W.iret (v := (nI (s_org n B (j1 / 8) (j1 % 8)))) hx hb hr (fun t ht hW => ⟨_, rfl, by first | (rw [h_o, hke]; rfl) | (rw [s_an_b2 hB hj8 hjl hf_m h_o c_2]; rfl), ht⟩) (fun _ h => nomatch h) dX1_answeredBy_31
  exact loop_13 (x + 1) x (by omega) (by omega) (by omega) (by first | (rw [show x % 8 = x - 8 * (x / 8) from by omega]; done) | exact s_an_b1 hB hj8 hjl hf_m h_o rfl) _ (show lv_has ls 4 [(0, .ref (ax 0)), (1, .int (nI (x))), (2, .int (nI (8 * (x / 8) + 0))), (3, .int (nI (x) - 1))] from by exact lv_sub hl [2, 3, 1, 0] rfl)
theorem hdX1_answeredBy : yX1_answeredBy.cls = RX1 ∧ yX1_answeredBy.cls ≠ "java/lang/invoke/MethodHandle" ∧ yX1_answeredBy.cls ≠ "java/lang/invoke/VarHandle" ∧ (parseMethodDescriptor yX1_answeredBy.desc).map (fun d => d.parameters.length) = some 1 := by decide +kernel
set_option maxHeartbeats 4000000 in
set_option maxRecDepth 100000 in
theorem kX1_parentInThread (l : Launch) (D : va_G) (cI cZ cA : ClassId) (ax : Nat → Nat) (n : Nat) (B : Nat → Nat → Nat) (Q : Nat → Option Nat) (cn : Nat → Bool) (rt : Nat → Nat) (wd : Nat → Option Nat) (qf : Nat → Option Nat) (T : Nat → Nat → Nat) (u : Nat) (hB : Bok n B) (h_u : u < n) : Met l yX1_parentInThread wsX1_parentInThread ({ frames := 2, cells := 0, slots := 0, locals := 43 }) (PcR D [(cI, .int), (cZ, .boolean), (cA, .array .int)] (wX cI cZ cA ax n B Q cn rt wd qf T) [.ref (ax 0), .int (nI (u))]) (vp_Si (fun r => r = (oI (s_pit n B u)))) 0 0 (fun _ => False) := by
  refine Met.ofW (cc := cX1_parentInThread) (maxL := 4) (ret := (some .int)) (by decide) rfl ?_
  intro p e s m args below meth c s₁ BL hml hv
  obtain ⟨rfl, hP, hK⟩ := hv
  have hx := BL.exec
  have hb := BL.bytes
  have hr := BL.returns
  have hts := atoms_spec (ws := wsX1_parentInThread) BL.pre
  have hown : s.vm.findClass RX1 = some m.cls := findClass_of_methodNamed BL.named
  have hlocks := BL.notSynchronized
  have hin : ∀ w ∈ wsX10, w ∈ wsX1_parentInThread := by decide +kernel
  have hf_20 := hts (.fieldLink RX1 20 "TalkRebuilder" "subjects" "[I") (by decide +kernel)
  have hl := lv_entry ([.ref (ax 0), .int (nI (u))]) (n := 4) (Nat.le_of_ble_eq_true rfl)
  rw [lg_entry_eq]
  generalize (lg_sl ([.ref (ax 0), .int (nI (u))]) ++ List.replicate (4 - (lg_sl ([.ref (ax 0), .int (nI (u))])).length) Slot.unset).toArray = ls at hl ⊢
  have hl : lv_has ls 4 [(0, .ref (ax 0)), (1, .int (nI (u)))] := hl
  have hn10 := hB.1
  refine lv_aload_n hx hb dX1_parentInThread_0 rfl (lv_at hl 0 rfl) ?_
  refine lv_iload_n hx hb dX1_parentInThread_1 rfl (lv_at hl 1 rfl) ?_
  refine ro_V (As := [.int (nI (u))]) (v := (oI (s_par n B u))) ⟨hx, hb, hml, hown, hts⟩ (kX1_parentOf l D cI cZ cA ax n B Q cn rt wd qf T u hB h_u) (cwV 1 hts gX1_parentInThread_X1_parentOf rfl rfl rfl hdX1_parentOf ⟨Nat.le_of_ble_eq_true rfl, Nat.le_of_ble_eq_true rfl⟩) hK hP (ci := 3) rfl (q0 := 0) rfl rfl rfl hl.1 rfl (Nat.le_of_ble_eq_true rfl) dX1_parentInThread_2 ⟨Nat.zero_le _, Nat.zero_le _⟩ ?_
  refine lv_istore_n (lv' := [(2, .int (oI (s_par n B u))), (0, .ref (ax 0)), (1, .int (nI (u)))]) hx hb dX1_parentInThread_5 rfl hl (by decide) rfl (fun ls hl => ?_)
  refine lv_iload_n hx hb dX1_parentInThread_6 rfl (lv_at hl 0 rfl) ?_
  refine lv_iconst (v := (oI (none))) hx hb dX1_parentInThread_7 (by decide +kernel) ?_
  refine o_eq (tgt := 30) hx hb (s_par_b hn10) dX1_parentInThread_8 (by decide) (fun c_1 => ?_) (fun kc_1 c_1 => ?_)
  · rw [c_1] at hl
    have hl : lv_has ls 4 [(2, .int (oI (none))), (0, .ref (ax 0)), (1, .int (nI (u)))] := hl
    refine lv_iconst (v := (nI (0))) hx hb dX1_parentInThread_30 (by decide +kernel) ?_
    refine lv_istore_n (lv' := [(3, .int (nI (0))), (2, .int (oI (none))), (0, .ref (ax 0)), (1, .int (nI (u)))]) hx hb dX1_parentInThread_31 rfl hl (by decide) rfl (fun ls hl => ?_)
    refine lv_iload_n hx hb dX1_parentInThread_32 rfl (lv_at hl 0 rfl) ?_
    refine z_eq (tgt := 40) hx hb (by decide) dX1_parentInThread_33 (by decide) (fun _ => ?_) (fun q => absurd q (by decide))
    refine lv_iconst (v := (oI (none))) hx hb dX1_parentInThread_40 (by decide +kernel) ?_
    exact W.iret (v := (oI (none))) hx hb hr (fun t ht hW => ⟨_, rfl, by first | rfl | (simp [oI_s, bI_t, bI_f, s_pit, c_1]; done) | (simp [oI_s, bI_t, bI_f, s_pit, c_1]; omega) | (simp only [s_pit]; (repeat' split) <;> first | rfl | omega | (simp_all; done) | (simp_all; omega)), ht⟩) (fun _ h => nomatch h) dX1_parentInThread_41
  rw [c_1] at hl
  have hl : lv_has ls 4 [(2, .int (nI (kc_1))), (0, .ref (ax 0)), (1, .int (nI (u)))] := hl
  have hq1 := s_par_lt c_1
  refine lv_aload_n hx hb dX1_parentInThread_11 rfl (lv_at hl 1 rfl) ?_
  refine va_get (D := D) (ci := 3) (v := .ref (ax 3)) (C := RX1) (T := TX1) (N := 12) hx hb hts hin hown hK hP 0 rfl rfl 3 (by decide) hf_20 (fun _ h9 => h9) rfl dX1_parentInThread_12 ?_
  refine lv_iload_n hx hb dX1_parentInThread_15 rfl (lv_at hl 0 rfl) ?_
  refine n_iald hx hb hK hP 3 0 rfl rfl (i := kc_1) (by omega) (by decide) dX1_parentInThread_16 ?_
  have hq_2 := hB.2.1 2 kc_1
  refine lv_aload_n hx hb dX1_parentInThread_17 rfl (lv_at hl 1 rfl) ?_
  refine va_get (D := D) (ci := 3) (v := .ref (ax 3)) (C := RX1) (T := TX1) (N := 12) hx hb hts hin hown hK hP 0 rfl rfl 3 (by decide) hf_20 (fun _ h9 => h9) rfl dX1_parentInThread_18 ?_
  refine lv_iload_n hx hb dX1_parentInThread_21 rfl (lv_at hl 2 rfl) ?_
  refine n_iald hx hb hK hP 3 0 rfl rfl (i := u) (by omega) (by decide) dX1_parentInThread_22 ?_
  have hq_3 := hB.2.1 2 u
  refine n_ne (tgt := 30) hx hb (by omega) (by omega) dX1_parentInThread_23 (by decide) (fun c_4 => ?_) (fun c_4 => ?_)
  · refine lv_iconst (v := (nI (0))) hx hb dX1_parentInThread_30 (by decide +kernel) ?_
    refine lv_istore_n (lv' := [(3, .int (nI (0))), (2, .int (nI (kc_1))), (0, .ref (ax 0)), (1, .int (nI (u)))]) hx hb dX1_parentInThread_31 rfl hl (by decide) rfl (fun ls hl => ?_)
    refine lv_iload_n hx hb dX1_parentInThread_32 rfl (lv_at hl 0 rfl) ?_
    refine z_eq (tgt := 40) hx hb (by decide) dX1_parentInThread_33 (by decide) (fun _ => ?_) (fun q => absurd q (by decide))
    refine lv_iconst (v := (oI (none))) hx hb dX1_parentInThread_40 (by decide +kernel) ?_
    exact W.iret (v := (oI (none))) hx hb hr (fun t ht hW => ⟨_, rfl, by first | rfl | (simp [oI_s, bI_t, bI_f, s_pit, c_1, c_4]; done) | (simp [oI_s, bI_t, bI_f, s_pit, c_1, c_4]; omega) | (simp only [s_pit]; (repeat' split) <;> first | rfl | omega | (simp_all; done) | (simp_all; omega)), ht⟩) (fun _ h => nomatch h) dX1_parentInThread_41
  refine lv_iconst (v := (nI (1))) hx hb dX1_parentInThread_26 (by decide +kernel) ?_
  refine lv_goto (tgt := 31) hx hb dX1_parentInThread_27 (by decide) ?_
  refine lv_istore_n (lv' := [(3, .int (nI (1))), (2, .int (nI (kc_1))), (0, .ref (ax 0)), (1, .int (nI (u)))]) hx hb dX1_parentInThread_31 rfl hl (by decide) rfl (fun ls hl => ?_)
  refine lv_iload_n hx hb dX1_parentInThread_32 rfl (lv_at hl 0 rfl) ?_
  refine z_eq (tgt := 40) hx hb (by decide) dX1_parentInThread_33 (by decide) (fun q => absurd q (by decide)) (fun _ => ?_)
  refine lv_iload_n hx hb dX1_parentInThread_36 rfl (lv_at hl 1 rfl) ?_
  refine lv_goto (tgt := 41) hx hb dX1_parentInThread_37 (by decide) ?_
  exact W.iret (v := (nI (kc_1))) hx hb hr (fun t ht hW => ⟨_, rfl, by first | rfl | (simp [oI_s, bI_t, bI_f, s_pit, c_1, c_4]; done) | (simp [oI_s, bI_t, bI_f, s_pit, c_1, c_4]; omega) | (simp only [s_pit]; (repeat' split) <;> first | rfl | omega | (simp_all; done) | (simp_all; omega)), ht⟩) (fun _ h => nomatch h) dX1_parentInThread_41
theorem hdX1_parentInThread : yX1_parentInThread.cls = RX1 ∧ yX1_parentInThread.cls ≠ "java/lang/invoke/MethodHandle" ∧ yX1_parentInThread.cls ≠ "java/lang/invoke/VarHandle" ∧ (parseMethodDescriptor yX1_parentInThread.desc).map (fun d => d.parameters.length) = some 1 := by decide +kernel
set_option maxHeartbeats 4000000 in
set_option maxRecDepth 100000 in
theorem kX1_rootOf (l : Launch) (D : va_G) (cI cZ cA : ClassId) (ax : Nat → Nat) (n : Nat) (B : Nat → Nat → Nat) (Q : Nat → Option Nat) (cn : Nat → Bool) (rt : Nat → Nat) (wd : Nat → Option Nat) (qf : Nat → Option Nat) (T : Nat → Nat → Nat) (u : Nat) (hB : Bok n B) (h_u : u < n) : Met l yX1_rootOf wsX1_rootOf ({ frames := 3, cells := 0, slots := 0, locals := 66 }) (PcR D [(cI, .int), (cZ, .boolean), (cA, .array .int)] (wX cI cZ cA ax n B Q cn rt wd qf T) [.ref (ax 0), .int (nI (u))]) (vp_Si (fun r => r = (nI (s_root n B u)))) 0 0 (fun _ => False) := by
  refine Met.ofW (cc := cX1_rootOf) (maxL := 5) (ret := (some .int)) (by decide) rfl ?_
  intro p e s m args below meth c s₁ BL hml hv
  obtain ⟨rfl, hP, hK⟩ := hv
  have hx := BL.exec
  have hb := BL.bytes
  have hr := BL.returns
  have hts := atoms_spec (ws := wsX1_rootOf) BL.pre
  have hown : s.vm.findClass RX1 = some m.cls := findClass_of_methodNamed BL.named
  have hlocks := BL.notSynchronized
  have hin : ∀ w ∈ wsX10, w ∈ wsX1_rootOf := by decide +kernel
  have hf_9 := hts (.fieldLink RX1 9 "TalkRebuilder" "mailCount" "I") (by decide +kernel)
  have hl := lv_entry ([.ref (ax 0), .int (nI (u))]) (n := 5) (Nat.le_of_ble_eq_true rfl)
  rw [lg_entry_eq]
  generalize (lg_sl ([.ref (ax 0), .int (nI (u))]) ++ List.replicate (5 - (lg_sl ([.ref (ax 0), .int (nI (u))])).length) Slot.unset).toArray = ls at hl ⊢
  have hl : lv_has ls 5 [(0, .ref (ax 0)), (1, .int (nI (u)))] := hl
  have hn10 := hB.1
  have hrk := s_rk_lt (B := B) h_u
  refine lv_iload_n hx hb dX1_rootOf_0 rfl (lv_at hl 1 rfl) ?_
  refine lv_istore_n (lv' := [(2, .int (nI (u))), (0, .ref (ax 0)), (1, .int (nI (u)))]) hx hb dX1_rootOf_1 rfl hl (by decide) rfl (fun ls hl => ?_)
  refine lv_iconst (v := (nI (0))) hx hb dX1_rootOf_2 (by decide +kernel) ?_
  refine lv_istore_n (lv' := [(3, .int (nI (0))), (2, .int (nI (u))), (0, .ref (ax 0)), (1, .int (nI (u)))]) hx hb dX1_rootOf_3 rfl hl (by decide) rfl (fun ls hl => ?_)
  have loop_4 : ∀ (N : Nat) (o : Nat) (z : Nat) (k : Nat), n - z < N → (z ≤ n) → (o < n) → (B 0 o < k) → (s_rk n B o + z + 1 ≤ n) → (s_rt n B 100 u = s_rt n B k o) → ∀ (ls : Array Slot), lv_has ls 5 [(0, .ref (ax 0)), (1, .int (nI (u))), (2, .int (nI (o))), (3, .int (nI (z)))] → W p l e (headSpec wsX1_rootOf ({ frames := 3, cells := 0, slots := 0, locals := 66 })).room s m ([.ref (ax 0), .int (nI (u))] : List Value).toArray below meth c s.heap [] 0 0 (MQ below (vp_Si (fun r => r = (nI (s_root n B u)))) ([.ref (ax 0), .int (nI (u))] : List Value).toArray s 0 0 (fun _ => False)) (F0 m 4 ls []) := by
    intro N
    induction N with
    | zero => intro o z k hmu; exact absurd hmu (Nat.not_lt_zero _)
    | succ N ih_4 =>
      intro o z k hmu_4 h_z h_on h_k h_r h_o ls hl
      refine lv_iload_n hx hb dX1_rootOf_4 rfl (lv_at hl 3 rfl) ?_
      refine lv_aload_n hx hb dX1_rootOf_5 rfl (lv_at hl 0 rfl) ?_
      refine va_get (D := D) (ci := 3) (v := .int (nI (n))) (C := RX1) (T := TX1) (N := 12) hx hb hts hin hown hK hP 0 rfl rfl 0 (by decide) hf_9 (fun _ h9 => h9) rfl dX1_rootOf_6 ?_
      refine n_ge (tgt := 36) hx hb (by omega) (by omega) dX1_rootOf_9 (by decide) (fun c_1 => ?_) (fun c_1 => ?_)
      · refine lv_iload_n hx hb dX1_rootOf_36 rfl (lv_at hl 2 rfl) ?_
        exact W.iret (v := (nI (o))) hx hb hr (fun t ht hW => ⟨_, rfl, by first | exact congrArg nI (h_o.trans (s_rt_none c_1)).symm | (exfalso; omega), ht⟩) (fun _ h => nomatch h) dX1_rootOf_37
      have hdt := hB.2.2.2.1 o h_on
      refine lv_aload_n hx hb dX1_rootOf_12 rfl (lv_at hl 0 rfl) ?_
      refine lv_iload_n hx hb dX1_rootOf_13 rfl (lv_at hl 2 rfl) ?_
      refine ro_V (As := [.int (nI (o))]) (v := (oI (s_pit n B o))) ⟨hx, hb, hml, hown, hts⟩ (kX1_parentInThread l D cI cZ cA ax n B Q cn rt wd qf T o hB (by omega)) (cwV 1 hts gX1_rootOf_X1_parentInThread rfl rfl rfl hdX1_parentInThread ⟨Nat.le_of_ble_eq_true rfl, Nat.le_of_ble_eq_true rfl⟩) hK hP (ci := 3) rfl (q0 := 0) rfl rfl rfl hl.1 rfl (Nat.le_of_ble_eq_true rfl) dX1_rootOf_14 ⟨Nat.zero_le _, Nat.zero_le _⟩ ?_
      refine lv_istore (lv' := [(4, .int (oI (s_pit n B o))), (0, .ref (ax 0)), (1, .int (nI (u))), (2, .int (nI (o))), (3, .int (nI (z)))]) hx hb dX1_rootOf_17 hl (by decide) rfl (fun ls hl => ?_)
      refine lv_iload hx hb dX1_rootOf_19 (lv_at hl 0 rfl) ?_
      refine lv_iconst (v := (oI (none))) hx hb dX1_rootOf_21 (by decide +kernel) ?_
      refine o_ne (tgt := 27) hx hb (fun k hk => by have := (s_pit_lt hk).1; omega) dX1_rootOf_22 (by decide) (fun kc_2 c_2 => ?_) (fun c_2 => ?_)
      · rw [c_2] at hl
        have hl : lv_has ls 5 [(4, .int (nI (kc_2))), (0, .ref (ax 0)), (1, .int (nI (u))), (2, .int (nI (o))), (3, .int (nI (z)))] := hl
        have hq1 := s_pit_lt c_2
        have hrk1 := s_rk_s (n := n) (B := B) (z := o) hq1.1 (by omega)
        refine lv_iload hx hb dX1_rootOf_27 (lv_at hl 0 rfl) ?_
        refine lv_istore_n (lv' := [(2, .int (nI (kc_2))), (4, .int (nI (kc_2))), (0, .ref (ax 0)), (1, .int (nI (u))), (3, .int (nI (z)))]) hx hb dX1_rootOf_29 rfl hl (by decide) rfl (fun ls hl => ?_)
        refine lv_iinc (v := (nI (z + 1))) (lv' := [(3, .int (nI (z + 1))), (2, .int (nI (kc_2))), (4, .int (nI (kc_2))), (0, .ref (ax 0)), (1, .int (nI (u)))]) hx hb dX1_rootOf_30 hl (k := 4) rfl (nI_1 _) (by decide) rfl (fun ls hl => ?_)
        refine lv_goto (tgt := 4) hx hb dX1_rootOf_33 (by decide) ?_
        exact ih_4 kc_2 (z + 1) (k - 1) (by omega) (by omega) (by first | assumption | omega) (by first | omega | (have := hB.2.1 0 u; omega)) (by omega) (by first | rfl | exact s_rt_step h_o (by omega) c_2) _ (show lv_has ls 5 [(0, .ref (ax 0)), (1, .int (nI (u))), (2, .int (nI (kc_2))), (3, .int (nI (z + 1)))] from by exact lv_sub hl [3, 4, 1, 0] rfl)
      rw [c_2] at hl
      have hl : lv_has ls 5 [(4, .int (oI (none))), (0, .ref (ax 0)), (1, .int (nI (u))), (2, .int (nI (o))), (3, .int (nI (z)))] := hl
      refine lv_iload_n hx hb dX1_rootOf_25 rfl (lv_at hl 3 rfl) ?_
      exact W.iret (v := (nI (o))) hx hb hr (fun t ht hW => ⟨_, rfl, by first | exact congrArg nI (h_o.trans (s_rt_none c_2)).symm | (exfalso; omega), ht⟩) (fun _ h => nomatch h) dX1_rootOf_26
  exact loop_4 (n - 0 + 1) u 0 100 (by omega) (by omega) (by first | assumption | omega) (by first | omega | (have := hB.2.1 0 u; omega)) (by omega) (by first | rfl | exact s_rt_step h_o (by omega) rfl) _ (show lv_has ls 5 [(0, .ref (ax 0)), (1, .int (nI (u))), (2, .int (nI (u))), (3, .int (nI (0)))] from by exact lv_sub hl [2, 3, 1, 0] rfl)
theorem hdX1_rootOf : yX1_rootOf.cls = RX1 ∧ yX1_rootOf.cls ≠ "java/lang/invoke/MethodHandle" ∧ yX1_rootOf.cls ≠ "java/lang/invoke/VarHandle" ∧ (parseMethodDescriptor yX1_rootOf.desc).map (fun d => d.parameters.length) = some 1 := by decide +kernel
