set_option maxHeartbeats 4000000 in
set_option maxRecDepth 100000 in
theorem kX2_in (l : Launch) (v : Int32) (lo : Int32) (hi : Int32) : Met l yX2_in wsX2_in ({ frames := 0, cells := 0, slots := 0, locals := 0 }) (PcS [.int (v), .int (lo), .int (hi)]) (vp_Si (fun r => r = (bI (s_in v lo hi)))) 0 0 (fun _ => False) := by
  refine Met.ofW (cc := cX2_in) (maxL := 3) (ret := (some .boolean)) (by decide) rfl ?_
  intro p e s m args below meth c s₁ BL hml hv
  obtain ⟨rfl, -⟩ := hv
  have hx := BL.exec
  have hb := BL.bytes
  have hr := BL.returns
  have hts := atoms_spec (ws := wsX2_in) BL.pre
  have hown : s.vm.findClass RX2 = some m.cls := findClass_of_methodNamed BL.named
  have hlocks := BL.notSynchronized
  have hl := lv_entry ([.int (v), .int (lo), .int (hi)]) (n := 3) (Nat.le_of_ble_eq_true rfl)
  rw [lg_entry_eq]
  generalize (lg_sl ([.int (v), .int (lo), .int (hi)]) ++ List.replicate (3 - (lg_sl ([.int (v), .int (lo), .int (hi)])).length) Slot.unset).toArray = ls at hl ⊢
  have hl : lv_has ls 3 [(0, .int (v)), (1, .int (lo)), (2, .int (hi))] := hl
  refine lv_iload_n hx hb dX2_in_0 rfl (lv_at hl 0 rfl) ?_
  refine lv_iload_n hx hb dX2_in_1 rfl (lv_at hl 1 rfl) ?_
  refine lv_icmp_lt (tgt := 14) hx hb dX2_in_2 (by decide) (fun c_1 => ?_) (fun c_1 => ?_)
  · refine lv_iconst (v := (nI (0))) hx hb dX2_in_14 (by decide +kernel) ?_
    exact W.zret (v := (nI (0))) hx hb hr (by decide +kernel) (fun t ht hW => ⟨_, rfl, by first | rfl | (simp [oI_s, bI_t, bI_f, s_in, c_1]; done) | (simp [oI_s, bI_t, bI_f, s_in, c_1]; omega) | (simp only [s_in]; (repeat' split) <;> first | rfl | omega | (simp_all; done) | (simp_all; omega)), ht⟩) (fun _ h => nomatch h) dX2_in_15
  refine lv_iload_n hx hb dX2_in_5 rfl (lv_at hl 0 rfl) ?_
  refine lv_iload_n hx hb dX2_in_6 rfl (lv_at hl 2 rfl) ?_
  refine lv_icmp_gt (tgt := 14) hx hb dX2_in_7 (by decide) (fun c_2 => ?_) (fun c_2 => ?_)
  · refine lv_iconst (v := (nI (0))) hx hb dX2_in_14 (by decide +kernel) ?_
    exact W.zret (v := (nI (0))) hx hb hr (by decide +kernel) (fun t ht hW => ⟨_, rfl, by first | rfl | (simp [oI_s, bI_t, bI_f, s_in, c_1, c_2]; done) | (simp [oI_s, bI_t, bI_f, s_in, c_1, c_2]; omega) | (simp only [s_in]; (repeat' split) <;> first | rfl | omega | (simp_all; done) | (simp_all; omega)), ht⟩) (fun _ h => nomatch h) dX2_in_15
  refine lv_iconst (v := (nI (1))) hx hb dX2_in_10 (by decide +kernel) ?_
  refine lv_goto (tgt := 15) hx hb dX2_in_11 (by decide) ?_
  exact W.zret (v := (nI (1))) hx hb hr (by decide +kernel) (fun t ht hW => ⟨_, rfl, by first | rfl | (simp [oI_s, bI_t, bI_f, s_in, c_1, c_2]; done) | (simp [oI_s, bI_t, bI_f, s_in, c_1, c_2]; omega) | (simp only [s_in]; (repeat' split) <;> first | rfl | omega | (simp_all; done) | (simp_all; omega)), ht⟩) (fun _ h => nomatch h) dX2_in_15
theorem hsX2_in : yX2_in.cls ≠ "java/lang/invoke/MethodHandle" ∧ yX2_in.cls ≠ "java/lang/invoke/VarHandle" ∧ (parseMethodDescriptor yX2_in.desc).map (fun d => d.parameters.length) = some 3 := by decide +kernel
set_option maxHeartbeats 4000000 in
set_option maxRecDepth 100000 in
theorem kX2_isMail (l : Launch) (D : va_G) (cI : ClassId) (ad : Nat → Nat) (th : Nat) (n : Nat) (B : Nat → Nat → Nat) (P : Nat → Option Nat) (bs : Nat → Nat) (v : Int32) (hB : Bok n B) : Met l yX2_isMail wsX2_isMail ({ frames := 1, cells := 0, slots := 0, locals := 22 }) (PcR D [(cI, .int)] (wM cI ad th n B P bs) [.ref (ad 0), .int (v)]) (vp_Si (fun r => r = (bI (s_ism n v)))) 0 0 (fun _ => False) := by
  refine Met.ofW (cc := cX2_isMail) (maxL := 2) (ret := (some .boolean)) (by decide) rfl ?_
  intro p e s m args below meth c s₁ BL hml hv
  obtain ⟨rfl, hP, hK⟩ := hv
  have hx := BL.exec
  have hb := BL.bytes
  have hr := BL.returns
  have hts := atoms_spec (ws := wsX2_isMail) BL.pre
  have hown : s.vm.findClass RX2 = some m.cls := findClass_of_methodNamed BL.named
  have hlocks := BL.notSynchronized
  have hin : ∀ w ∈ wsX20, w ∈ wsX2_isMail := by decide +kernel
  have hf_41 := hts (.fieldLink RX2 41 "TalkRebuilderModel" "mails" "I") (by decide +kernel)
  have hl := lv_entry ([.ref (ad 0), .int (v)]) (n := 2) (Nat.le_of_ble_eq_true rfl)
  rw [lg_entry_eq]
  generalize (lg_sl ([.ref (ad 0), .int (v)]) ++ List.replicate (2 - (lg_sl ([.ref (ad 0), .int (v)])).length) Slot.unset).toArray = ls at hl ⊢
  have hl : lv_has ls 2 [(0, .ref (ad 0)), (1, .int (v))] := hl
  have hn10 := hB.1
  refine lv_iload_n hx hb dX2_isMail_0 rfl (lv_at hl 1 rfl) ?_
  refine lv_iconst (v := (nI (0))) hx hb dX2_isMail_1 (by decide +kernel) ?_
  refine lv_aload_n hx hb dX2_isMail_2 rfl (lv_at hl 0 rfl) ?_
  refine va_get (D := D) (ci := 4) (v := .int (nI (n))) (C := RX2) (T := TX2) (N := 11) hx hb hts hin hown hK hP 0 rfl rfl 1 (by decide) hf_41 (fun _ h9 => h9) rfl dX2_isMail_3 ?_
  refine lv_iconst (v := (nI (1))) hx hb dX2_isMail_6 (by decide +kernel) ?_
  refine lv_isub hx hb dX2_isMail_7 ?_
  refine n_top (y := (nI (n) - 1)) (by rw [nI_one]) ?_
  refine ro_S (As := [.int (v), .int (nI (0)), .int (nI (n) - 1)]) (v := (bI (s_in v (nI (0)) (nI (n) - 1)))) ⟨hx, hb, hml, hown, hts⟩ (kX2_in l (v) (nI (0)) (nI (n) - 1) ) (va_cwS 3 hts gX2_isMail_X2_in rfl rfl rfl hsX2_in ⟨Nat.le_of_ble_eq_true rfl, Nat.le_of_ble_eq_true rfl⟩) rfl hl.1 rfl (Nat.le_of_ble_eq_true rfl) dX2_isMail_8 ⟨Nat.zero_le _, Nat.zero_le _⟩ ?_
  exact W.zret (v := (bI (s_in v (nI (0)) (nI (n) - 1)))) hx hb hr (bI_nar _) (fun t ht hW => ⟨_, rfl, by first | rfl | (simp [oI_s, bI_t, bI_f, s_ism]; done) | (simp [oI_s, bI_t, bI_f, s_ism]; omega) | (simp only [s_ism]; (repeat' split) <;> first | rfl | omega | (simp_all; done) | (simp_all; omega)), ht⟩) (fun _ h => nomatch h) dX2_isMail_11
theorem hdX2_isMail : yX2_isMail.cls = RX2 ∧ yX2_isMail.cls ≠ "java/lang/invoke/MethodHandle" ∧ yX2_isMail.cls ≠ "java/lang/invoke/VarHandle" ∧ (parseMethodDescriptor yX2_isMail.desc).map (fun d => d.parameters.length) = some 1 := by decide +kernel
set_option maxHeartbeats 4000000 in
set_option maxRecDepth 100000 in
theorem kX2_isLine (l : Launch) (D : va_G) (cI : ClassId) (ad : Nat → Nat) (th : Nat) (n : Nat) (B : Nat → Nat → Nat) (P : Nat → Option Nat) (bs : Nat → Nat) (v : Int32) (w : Int32) (hB : Bok n B) : Met l yX2_isLine wsX2_isLine ({ frames := 2, cells := 0, slots := 0, locals := 43 }) (PcR D [(cI, .int)] (wM cI ad th n B P bs) [.ref (ad 0), .int (v), .int (w)]) (vp_Si (fun r => r = (bI (s_isl n B v w)))) 0 0 (fun _ => False) := by
  refine Met.ofW (cc := cX2_isLine) (maxL := 3) (ret := (some .boolean)) (by decide) rfl ?_
  intro p e s m args below meth c s₁ BL hml hv
  obtain ⟨rfl, hP, hK⟩ := hv
  have hx := BL.exec
  have hb := BL.bytes
  have hr := BL.returns
  have hts := atoms_spec (ws := wsX2_isLine) BL.pre
  have hown : s.vm.findClass RX2 = some m.cls := findClass_of_methodNamed BL.named
  have hlocks := BL.notSynchronized
  have hin : ∀ w ∈ wsX20, w ∈ wsX2_isLine := by decide +kernel
  have hf_22 := hts (.fieldLink RX2 22 "TalkRebuilderModel" "many" "[I") (by decide +kernel)
  have hl := lv_entry ([.ref (ad 0), .int (v), .int (w)]) (n := 3) (Nat.le_of_ble_eq_true rfl)
  rw [lg_entry_eq]
  generalize (lg_sl ([.ref (ad 0), .int (v), .int (w)]) ++ List.replicate (3 - (lg_sl ([.ref (ad 0), .int (v), .int (w)])).length) Slot.unset).toArray = ls at hl ⊢
  have hl : lv_has ls 3 [(0, .ref (ad 0)), (1, .int (v)), (2, .int (w))] := hl
  have hn10 := hB.1
  refine lv_aload_n hx hb dX2_isLine_0 rfl (lv_at hl 0 rfl) ?_
  refine lv_iload_n hx hb dX2_isLine_1 rfl (lv_at hl 1 rfl) ?_
  refine ro_V (As := [.int (v)]) (v := (bI (s_ism n v))) ⟨hx, hb, hml, hown, hts⟩ (kX2_isMail l D cI ad th n B P bs (v) hB) (cwV 1 hts gX2_isLine_X2_isMail rfl rfl rfl hdX2_isMail ⟨Nat.le_of_ble_eq_true rfl, Nat.le_of_ble_eq_true rfl⟩) hK hP (ci := 4) rfl (q0 := 0) rfl rfl rfl hl.1 rfl (Nat.le_of_ble_eq_true rfl) dX2_isLine_2 ⟨Nat.zero_le _, Nat.zero_le _⟩ ?_
  refine y_eq (tgt := 28) hx hb dX2_isLine_5 (by decide) (fun c_1 => ?_) (fun c_1 => ?_)
  · refine lv_iconst (v := (nI (0))) hx hb dX2_isLine_28 (by decide +kernel) ?_
    exact W.zret (v := (nI (0))) hx hb hr (by decide +kernel) (fun t ht hW => ⟨_, rfl, by first | (simp [oI_s, bI_t, bI_f, s_isl, c_1]; done) | (simp [oI_s, bI_t, bI_f, s_ism, c_1]; done), ht⟩) (fun _ h => nomatch h) dX2_isLine_29
  obtain ⟨k1, hk1, rfl⟩ := s_ism_t hB.1 c_1
  refine lv_iload_n hx hb dX2_isLine_8 rfl (lv_at hl 2 rfl) ?_
  refine lv_iconst (v := (nI (0))) hx hb dX2_isLine_9 (by decide +kernel) ?_
  refine lv_aload_n hx hb dX2_isLine_10 rfl (lv_at hl 0 rfl) ?_
  refine va_get (D := D) (ci := 4) (v := .ref (ad 5)) (C := RX2) (T := TX2) (N := 11) hx hb hts hin hown hK hP 0 rfl rfl 6 (by decide) hf_22 (fun _ h9 => h9) rfl dX2_isLine_11 ?_
  refine lv_iload_n hx hb dX2_isLine_14 rfl (lv_at hl 1 rfl) ?_
  refine n_iald hx hb hK hP 5 0 rfl rfl (i := k1) (by omega) (by decide) dX2_isLine_15 ?_
  have hq_2 := hB.2.2.1 k1
  refine lv_iconst (v := (nI (1))) hx hb dX2_isLine_16 (by decide +kernel) ?_
  refine lv_isub hx hb dX2_isLine_17 ?_
  refine n_top (y := (nI (B 4 k1) - 1)) (by rw [nI_one]) ?_
  refine ro_S (As := [.int (w), .int (nI (0)), .int (nI (B 4 k1) - 1)]) (v := (bI (s_in w (nI (0)) (nI (B 4 k1) - 1)))) ⟨hx, hb, hml, hown, hts⟩ (kX2_in l (w) (nI (0)) (nI (B 4 k1) - 1) ) (va_cwS 3 hts gX2_isLine_X2_in rfl rfl rfl hsX2_in ⟨Nat.le_of_ble_eq_true rfl, Nat.le_of_ble_eq_true rfl⟩) rfl hl.1 rfl (Nat.le_of_ble_eq_true rfl) dX2_isLine_18 ⟨Nat.zero_le _, Nat.zero_le _⟩ ?_
  refine y_eq (tgt := 28) hx hb dX2_isLine_21 (by decide) (fun c_3 => ?_) (fun c_3 => ?_)
  · refine lv_iconst (v := (nI (0))) hx hb dX2_isLine_28 (by decide +kernel) ?_
    exact W.zret (v := (nI (0))) hx hb hr (by decide +kernel) (fun t ht hW => ⟨_, rfl, by first | (simp [oI_s, bI_t, bI_f, s_isl, c_1, s_isl_o hB.1 hk1, c_3]; done) | (simp [oI_s, bI_t, bI_f, s_ism, c_1, s_isl_o hB.1 hk1, c_3]; done), ht⟩) (fun _ h => nomatch h) dX2_isLine_29
  refine lv_iconst (v := (nI (1))) hx hb dX2_isLine_24 (by decide +kernel) ?_
  refine lv_goto (tgt := 29) hx hb dX2_isLine_25 (by decide) ?_
  exact W.zret (v := (nI (1))) hx hb hr (by decide +kernel) (fun t ht hW => ⟨_, rfl, by first | (simp [oI_s, bI_t, bI_f, s_isl, c_1, s_isl_o hB.1 hk1, c_3]; done) | (simp [oI_s, bI_t, bI_f, s_ism, c_1, s_isl_o hB.1 hk1, c_3]; done), ht⟩) (fun _ h => nomatch h) dX2_isLine_29
theorem hdX2_isLine : yX2_isLine.cls = RX2 ∧ yX2_isLine.cls ≠ "java/lang/invoke/MethodHandle" ∧ yX2_isLine.cls ≠ "java/lang/invoke/VarHandle" ∧ (parseMethodDescriptor yX2_isLine.desc).map (fun d => d.parameters.length) = some 2 := by decide +kernel
set_option maxHeartbeats 4000000 in
set_option maxRecDepth 100000 in
theorem kX2_dated (l : Launch) (D : va_G) (cI : ClassId) (ad : Nat → Nat) (th : Nat) (n : Nat) (B : Nat → Nat → Nat) (P : Nat → Option Nat) (bs : Nat → Nat) (w : Nat) (hB : Bok n B) (h_w : w ≤ 99) : Met l yX2_dated wsX2_dated ({ frames := 0, cells := 0, slots := 0, locals := 0 }) (PcR D [(cI, .int)] (wM cI ad th n B P bs) [.ref (ad 0), .int (nI (w))]) (vp_Si (fun r => r = (oI (s_dated (B 0) w n)))) 0 0 (fun _ => False) := by
  refine Met.ofW (cc := cX2_dated) (maxL := 4) (ret := (some .int)) (by decide) rfl ?_
  intro p e s m args below meth c s₁ BL hml hv
  obtain ⟨rfl, hP, hK⟩ := hv
  have hx := BL.exec
  have hb := BL.bytes
  have hr := BL.returns
  have hts := atoms_spec (ws := wsX2_dated) BL.pre
  have hown : s.vm.findClass RX2 = some m.cls := findClass_of_methodNamed BL.named
  have hlocks := BL.notSynchronized
  have hin : ∀ w ∈ wsX20, w ∈ wsX2_dated := by decide +kernel
  have hf_7 := hts (.fieldLink RX2 7 "TalkRebuilderModel" "date" "[I") (by decide +kernel)
  have hf_41 := hts (.fieldLink RX2 41 "TalkRebuilderModel" "mails" "I") (by decide +kernel)
  have hl := lv_entry ([.ref (ad 0), .int (nI (w))]) (n := 4) (Nat.le_of_ble_eq_true rfl)
  rw [lg_entry_eq]
  generalize (lg_sl ([.ref (ad 0), .int (nI (w))]) ++ List.replicate (4 - (lg_sl ([.ref (ad 0), .int (nI (w))])).length) Slot.unset).toArray = ls at hl ⊢
  have hl : lv_has ls 4 [(0, .ref (ad 0)), (1, .int (nI (w)))] := hl
  have hn10 := hB.1
  refine lv_iconst (v := (oI (none))) hx hb dX2_dated_0 (by decide +kernel) ?_
  refine lv_istore_n (lv' := [(2, .int (oI (none))), (0, .ref (ad 0)), (1, .int (nI (w)))]) hx hb dX2_dated_1 rfl hl (by decide) rfl (fun ls hl => ?_)
  refine lv_iconst (v := (nI (0))) hx hb dX2_dated_2 (by decide +kernel) ?_
  refine lv_istore_n (lv' := [(3, .int (nI (0))), (2, .int (oI (none))), (0, .ref (ad 0)), (1, .int (nI (w)))]) hx hb dX2_dated_3 rfl hl (by decide) rfl (fun ls hl => ?_)
  have loop_4 : ∀ (N : Nat) (z : Nat), n - z < N → (z ≤ n) → ∀ (ls : Array Slot), lv_has ls 4 [(0, .ref (ad 0)), (1, .int (nI (w))), (2, .int (oI (s_dated (B 0) w z))), (3, .int (nI (z)))] → W p l e (headSpec wsX2_dated ({ frames := 0, cells := 0, slots := 0, locals := 0 })).room s m ([.ref (ad 0), .int (nI (w))] : List Value).toArray below meth c s.heap [] 0 0 (MQ below (vp_Si (fun r => r = (oI (s_dated (B 0) w n)))) ([.ref (ad 0), .int (nI (w))] : List Value).toArray s 0 0 (fun _ => False)) (F0 m 4 ls []) := by
    intro N
    induction N with
    | zero => intro z hmu; exact absurd hmu (Nat.not_lt_zero _)
    | succ N ih_4 =>
      intro z hmu_4 h_z ls hl
      refine lv_iload_n hx hb dX2_dated_4 rfl (lv_at hl 3 rfl) ?_
      refine lv_aload_n hx hb dX2_dated_5 rfl (lv_at hl 0 rfl) ?_
      refine va_get (D := D) (ci := 4) (v := .int (nI (n))) (C := RX2) (T := TX2) (N := 11) hx hb hts hin hown hK hP 0 rfl rfl 1 (by decide) hf_41 (fun _ h9 => h9) rfl dX2_dated_6 ?_
      refine n_ge (tgt := 34) hx hb (by omega) (by omega) dX2_dated_9 (by decide) (fun c_1 => ?_) (fun c_1 => ?_)
      · have hzn : z = n := by omega
        refine lv_iload_n hx hb dX2_dated_34 rfl (lv_at hl 2 rfl) ?_
        exact W.iret (v := (oI (s_dated (B 0) w z))) hx hb hr (fun t ht hW => ⟨_, rfl, by first | rfl | (simp [oI_s, bI_t, bI_f, c_1, hzn, Nat.not_lt.mpr c_1]; done) | (simp [oI_s, bI_t, bI_f, c_1, hzn, Nat.not_lt.mpr c_1]; omega), ht⟩) (fun _ h => nomatch h) dX2_dated_35
      refine lv_aload_n hx hb dX2_dated_12 rfl (lv_at hl 0 rfl) ?_
      refine va_get (D := D) (ci := 4) (v := .ref (ad 1)) (C := RX2) (T := TX2) (N := 11) hx hb hts hin hown hK hP 0 rfl rfl 2 (by decide) hf_7 (fun _ h9 => h9) rfl dX2_dated_13 ?_
      refine lv_iload_n hx hb dX2_dated_16 rfl (lv_at hl 3 rfl) ?_
      refine n_iald hx hb hK hP 1 0 rfl rfl (i := z) (by omega) (by decide) dX2_dated_17 ?_
      have hq_2 := hB.2.1 0 z
      refine lv_iload_n hx hb dX2_dated_18 rfl (lv_at hl 1 rfl) ?_
      refine n_ne (tgt := 26) hx hb (by omega) (by omega) dX2_dated_19 (by decide) (fun c_3 => ?_) (fun c_3 => ?_)
      · refine lv_iload_n hx hb dX2_dated_26 rfl (lv_at hl 2 rfl) ?_
        refine lv_istore_n (lv' := [(2, .int (oI (s_dated (B 0) w z))), (0, .ref (ad 0)), (1, .int (nI (w))), (3, .int (nI (z)))]) hx hb dX2_dated_27 rfl hl (by decide) rfl (fun ls hl => ?_)
        refine lv_iinc (v := (nI (z + 1))) (lv' := [(3, .int (nI (z + 1))), (2, .int (oI (s_dated (B 0) w z))), (0, .ref (ad 0)), (1, .int (nI (w)))]) hx hb dX2_dated_28 hl (k := 3) rfl (nI_1 _) (by decide) rfl (fun ls hl => ?_)
        refine lv_goto (tgt := 4) hx hb dX2_dated_31 (by decide) ?_
        have e_4 : ((oI (s_dated (B 0) w z)) : Int32) = (oI (s_dated (B 0) w (z + 1))) := by first | rfl | (simp [oI_s, bI_t, bI_f, s_dated, c_1, c_3, Nat.not_le.mp c_1]; done) | (simp [oI_s, bI_t, bI_f, s_dated, c_1, c_3, Nat.not_le.mp c_1]; omega) | (simp only [s_dated]; (repeat' split) <;> first | rfl | omega | (simp_all; done) | (simp_all; omega))
        exact ih_4 (z + 1) (by omega) (by omega) _ (show lv_has ls 4 [(0, .ref (ad 0)), (1, .int (nI (w))), (2, .int (oI (s_dated (B 0) w (z + 1)))), (3, .int (nI (z + 1)))] from by rw [← e_4]; exact lv_sub hl [2, 3, 1, 0] rfl)
      refine lv_iload_n hx hb dX2_dated_22 rfl (lv_at hl 3 rfl) ?_
      refine lv_goto (tgt := 27) hx hb dX2_dated_23 (by decide) ?_
      refine lv_istore_n (lv' := [(2, .int (nI (z))), (0, .ref (ad 0)), (1, .int (nI (w))), (3, .int (nI (z)))]) hx hb dX2_dated_27 rfl hl (by decide) rfl (fun ls hl => ?_)
      refine lv_iinc (v := (nI (z + 1))) (lv' := [(3, .int (nI (z + 1))), (2, .int (nI (z))), (0, .ref (ad 0)), (1, .int (nI (w)))]) hx hb dX2_dated_28 hl (k := 3) rfl (nI_1 _) (by decide) rfl (fun ls hl => ?_)
      refine lv_goto (tgt := 4) hx hb dX2_dated_31 (by decide) ?_
      have e_5 : ((nI (z)) : Int32) = (oI (s_dated (B 0) w (z + 1))) := by first | rfl | (simp [oI_s, bI_t, bI_f, s_dated, c_1, c_3, Nat.not_le.mp c_1]; done) | (simp [oI_s, bI_t, bI_f, s_dated, c_1, c_3, Nat.not_le.mp c_1]; omega) | (simp only [s_dated]; (repeat' split) <;> first | rfl | omega | (simp_all; done) | (simp_all; omega))
      exact ih_4 (z + 1) (by omega) (by omega) _ (show lv_has ls 4 [(0, .ref (ad 0)), (1, .int (nI (w))), (2, .int (oI (s_dated (B 0) w (z + 1)))), (3, .int (nI (z + 1)))] from by rw [← e_5]; exact lv_sub hl [2, 3, 1, 0] rfl)
  have e_6 : ((oI (none)) : Int32) = (oI (s_dated (B 0) w 0)) := by first | rfl | (simp [oI_s, bI_t, bI_f, s_dated]; done) | (simp [oI_s, bI_t, bI_f, s_dated]; omega) | (simp only [s_dated]; (repeat' split) <;> first | rfl | omega | (simp_all; done) | (simp_all; omega))
  exact loop_4 (n - 0 + 1) 0 (by omega) (by omega) _ (show lv_has ls 4 [(0, .ref (ad 0)), (1, .int (nI (w))), (2, .int (oI (s_dated (B 0) w 0))), (3, .int (nI (0)))] from by rw [← e_6]; exact lv_sub hl [2, 3, 1, 0] rfl)
theorem hdX2_dated : yX2_dated.cls = RX2 ∧ yX2_dated.cls ≠ "java/lang/invoke/MethodHandle" ∧ yX2_dated.cls ≠ "java/lang/invoke/VarHandle" ∧ (parseMethodDescriptor yX2_dated.desc).map (fun d => d.parameters.length) = some 1 := by decide +kernel
set_option maxHeartbeats 4000000 in
set_option maxRecDepth 100000 in
theorem kX2_parentOf (l : Launch) (D : va_G) (cI : ClassId) (ad : Nat → Nat) (th : Nat) (n : Nat) (B : Nat → Nat → Nat) (P : Nat → Option Nat) (bs : Nat → Nat) (u : Nat) (hB : Bok n B) (h_u : u < n) : Met l yX2_parentOf wsX2_parentOf ({ frames := 1, cells := 0, slots := 0, locals := 23 }) (PcR D [(cI, .int)] (wM cI ad th n B P bs) [.ref (ad 0), .int (nI (u))]) (vp_Si (fun r => r = (oI (s_par n B u)))) 0 0 (fun _ => False) := by
  refine Met.ofW (cc := cX2_parentOf) (maxL := 2) (ret := (some .int)) (by decide) rfl ?_
  intro p e s m args below meth c s₁ BL hml hv
  obtain ⟨rfl, hP, hK⟩ := hv
  have hx := BL.exec
  have hb := BL.bytes
  have hr := BL.returns
  have hts := atoms_spec (ws := wsX2_parentOf) BL.pre
  have hown : s.vm.findClass RX2 = some m.cls := findClass_of_methodNamed BL.named
  have hlocks := BL.notSynchronized
  have hin : ∀ w ∈ wsX20, w ∈ wsX2_parentOf := by decide +kernel
  have hf_19 := hts (.fieldLink RX2 19 "TalkRebuilderModel" "answered" "[I") (by decide +kernel)
  have hl := lv_entry ([.ref (ad 0), .int (nI (u))]) (n := 2) (Nat.le_of_ble_eq_true rfl)
  rw [lg_entry_eq]
  generalize (lg_sl ([.ref (ad 0), .int (nI (u))]) ++ List.replicate (2 - (lg_sl ([.ref (ad 0), .int (nI (u))])).length) Slot.unset).toArray = ls at hl ⊢
  have hl : lv_has ls 2 [(0, .ref (ad 0)), (1, .int (nI (u)))] := hl
  have hn10 := hB.1
  refine lv_aload_n hx hb dX2_parentOf_0 rfl (lv_at hl 0 rfl) ?_
  refine va_get (D := D) (ci := 4) (v := .ref (ad 4)) (C := RX2) (T := TX2) (N := 11) hx hb hts hin hown hK hP 0 rfl rfl 5 (by decide) hf_19 (fun _ h9 => h9) rfl dX2_parentOf_1 ?_
  refine lv_iload_n hx hb dX2_parentOf_4 rfl (lv_at hl 1 rfl) ?_
  refine n_iald hx hb hK hP 4 0 rfl rfl (i := u) (by omega) (by decide) dX2_parentOf_5 ?_
  have hq_1 := hB.2.1 3 u
  refine z_ne (tgt := 13) hx hb (by omega) dX2_parentOf_6 (by decide) (fun c_2 => ?_) (fun c_2 => ?_)
  · refine lv_aload_n hx hb dX2_parentOf_13 rfl (lv_at hl 0 rfl) ?_
    refine lv_aload_n hx hb dX2_parentOf_14 rfl (lv_at hl 0 rfl) ?_
    refine va_get (D := D) (ci := 4) (v := .ref (ad 4)) (C := RX2) (T := TX2) (N := 11) hx hb hts hin hown hK hP 0 rfl rfl 5 (by decide) hf_19 (fun _ h9 => h9) rfl dX2_parentOf_15 ?_
    refine lv_iload_n hx hb dX2_parentOf_18 rfl (lv_at hl 1 rfl) ?_
    refine n_iald hx hb hK hP 4 0 rfl rfl (i := u) (by omega) (by decide) dX2_parentOf_19 ?_
    have hq_3 := hB.2.1 3 u
    refine ro_V (As := [.int (nI (B 3 u))]) (v := (oI (s_dated (B 0) (B 3 u) n))) ⟨hx, hb, hml, hown, hts⟩ (kX2_dated l D cI ad th n B P bs (B 3 u) hB (by omega)) (cwV 1 hts gX2_parentOf_X2_dated rfl rfl rfl hdX2_dated ⟨Nat.le_of_ble_eq_true rfl, Nat.le_of_ble_eq_true rfl⟩) hK hP (ci := 4) rfl (q0 := 0) rfl rfl rfl hl.1 rfl (Nat.le_of_ble_eq_true rfl) dX2_parentOf_20 ⟨Nat.zero_le _, Nat.zero_le _⟩ ?_
    exact W.iret (v := (oI (s_dated (B 0) (B 3 u) n))) hx hb hr (fun t ht hW => ⟨_, rfl, by first | rfl | (simp [oI_s, bI_t, bI_f, s_par, c_2]; done) | (simp [oI_s, bI_t, bI_f, s_par, c_2]; omega) | (simp only [s_par]; (repeat' split) <;> first | rfl | omega | (simp_all; done) | (simp_all; omega)), ht⟩) (fun _ h => nomatch h) dX2_parentOf_23
  refine lv_iconst (v := (oI (none))) hx hb dX2_parentOf_9 (by decide +kernel) ?_
  refine lv_goto (tgt := 23) hx hb dX2_parentOf_10 (by decide) ?_
  exact W.iret (v := (oI (none))) hx hb hr (fun t ht hW => ⟨_, rfl, by first | rfl | (simp [oI_s, bI_t, bI_f, s_par, c_2]; done) | (simp [oI_s, bI_t, bI_f, s_par, c_2]; omega) | (simp only [s_par]; (repeat' split) <;> first | rfl | omega | (simp_all; done) | (simp_all; omega)), ht⟩) (fun _ h => nomatch h) dX2_parentOf_23
theorem hdX2_parentOf : yX2_parentOf.cls = RX2 ∧ yX2_parentOf.cls ≠ "java/lang/invoke/MethodHandle" ∧ yX2_parentOf.cls ≠ "java/lang/invoke/VarHandle" ∧ (parseMethodDescriptor yX2_parentOf.desc).map (fun d => d.parameters.length) = some 1 := by decide +kernel
set_option maxHeartbeats 4000000 in
set_option maxRecDepth 100000 in
theorem kX2_fits (l : Launch) (D : va_G) (cI : ClassId) (ad : Nat → Nat) (th : Nat) (n : Nat) (B : Nat → Nat → Nat) (P : Nat → Option Nat) (bs : Nat → Nat) (x : Nat) (y : Nat) (hB : Bok n B) (h_x : x < 80) (h_y : y < 80) : Met l yX2_fits wsX2_fits ({ frames := 0, cells := 0, slots := 0, locals := 0 }) (PcR D [(cI, .int)] (wM cI ad th n B P bs) [.ref (ad 0), .int (nI (x)), .int (nI (y))]) (vp_Si (fun r => r = (bI (s_fits B x y)))) 0 0 (fun _ => False) := by
  refine Met.ofW (cc := cX2_fits) (maxL := 3) (ret := (some .boolean)) (by decide) rfl ?_
  intro p e s m args below meth c s₁ BL hml hv
  obtain ⟨rfl, hP, hK⟩ := hv
  have hx := BL.exec
  have hb := BL.bytes
  have hr := BL.returns
  have hts := atoms_spec (ws := wsX2_fits) BL.pre
  have hown : s.vm.findClass RX2 = some m.cls := findClass_of_methodNamed BL.named
  have hlocks := BL.notSynchronized
  have hin : ∀ w ∈ wsX20, w ∈ wsX2_fits := by decide +kernel
  have hf_25 := hts (.fieldLink RX2 25 "TalkRebuilderModel" "marks" "[I") (by decide +kernel)
  have hf_28 := hts (.fieldLink RX2 28 "TalkRebuilderModel" "words" "[I") (by decide +kernel)
  have hl := lv_entry ([.ref (ad 0), .int (nI (x)), .int (nI (y))]) (n := 3) (Nat.le_of_ble_eq_true rfl)
  rw [lg_entry_eq]
  generalize (lg_sl ([.ref (ad 0), .int (nI (x)), .int (nI (y))]) ++ List.replicate (3 - (lg_sl ([.ref (ad 0), .int (nI (x)), .int (nI (y))])).length) Slot.unset).toArray = ls at hl ⊢
  have hl : lv_has ls 3 [(0, .ref (ad 0)), (1, .int (nI (x))), (2, .int (nI (y)))] := hl
  have hn10 := hB.1
  refine lv_aload_n hx hb dX2_fits_0 rfl (lv_at hl 0 rfl) ?_
  refine va_get (D := D) (ci := 4) (v := .ref (ad 6)) (C := RX2) (T := TX2) (N := 11) hx hb hts hin hown hK hP 0 rfl rfl 7 (by decide) hf_25 (fun _ h9 => h9) rfl dX2_fits_1 ?_
  refine lv_iload_n hx hb dX2_fits_4 rfl (lv_at hl 1 rfl) ?_
  refine n_iald hx hb hK hP 6 0 rfl rfl (i := x) (by omega) (by decide) dX2_fits_5 ?_
  have hq_1 := hB.2.2.2.2.2.1 x
  refine z_le (tgt := 45) hx hb (by omega) dX2_fits_6 (by decide) (fun c_2 => ?_) (fun c_2 => ?_)
  · refine lv_iconst (v := (nI (0))) hx hb dX2_fits_45 (by decide +kernel) ?_
    exact W.zret (v := (nI (0))) hx hb hr (by decide +kernel) (fun t ht hW => ⟨_, rfl, by first | rfl | (simp [oI_s, bI_t, bI_f, s_fits, c_2]; done) | (simp [oI_s, bI_t, bI_f, s_fits, c_2]; omega) | (simp only [s_fits]; (repeat' split) <;> first | rfl | omega | (simp_all; done) | (simp_all; omega)), ht⟩) (fun _ h => nomatch h) dX2_fits_46
  refine lv_aload_n hx hb dX2_fits_9 rfl (lv_at hl 0 rfl) ?_
  refine va_get (D := D) (ci := 4) (v := .ref (ad 7)) (C := RX2) (T := TX2) (N := 11) hx hb hts hin hown hK hP 0 rfl rfl 8 (by decide) hf_28 (fun _ h9 => h9) rfl dX2_fits_10 ?_
  refine lv_iload_n hx hb dX2_fits_13 rfl (lv_at hl 1 rfl) ?_
  refine n_iald hx hb hK hP 7 0 rfl rfl (i := x) (by omega) (by decide) dX2_fits_14 ?_
  have hq_3 := hB.2.1 6 x
  refine lv_aload_n hx hb dX2_fits_15 rfl (lv_at hl 0 rfl) ?_
  refine va_get (D := D) (ci := 4) (v := .ref (ad 7)) (C := RX2) (T := TX2) (N := 11) hx hb hts hin hown hK hP 0 rfl rfl 8 (by decide) hf_28 (fun _ h9 => h9) rfl dX2_fits_16 ?_
  refine lv_iload_n hx hb dX2_fits_19 rfl (lv_at hl 2 rfl) ?_
  refine n_iald hx hb hK hP 7 0 rfl rfl (i := y) (by omega) (by decide) dX2_fits_20 ?_
  have hq_4 := hB.2.1 6 y
  refine n_ne (tgt := 45) hx hb (by omega) (by omega) dX2_fits_21 (by decide) (fun c_5 => ?_) (fun c_5 => ?_)
  · refine lv_iconst (v := (nI (0))) hx hb dX2_fits_45 (by decide +kernel) ?_
    exact W.zret (v := (nI (0))) hx hb hr (by decide +kernel) (fun t ht hW => ⟨_, rfl, by first | rfl | (simp [oI_s, bI_t, bI_f, s_fits, c_2, c_5]; done) | (simp [oI_s, bI_t, bI_f, s_fits, c_2, c_5]; omega) | (simp only [s_fits]; (repeat' split) <;> first | rfl | omega | (simp_all; done) | (simp_all; omega)), ht⟩) (fun _ h => nomatch h) dX2_fits_46
  refine lv_aload_n hx hb dX2_fits_24 rfl (lv_at hl 0 rfl) ?_
  refine va_get (D := D) (ci := 4) (v := .ref (ad 6)) (C := RX2) (T := TX2) (N := 11) hx hb hts hin hown hK hP 0 rfl rfl 7 (by decide) hf_25 (fun _ h9 => h9) rfl dX2_fits_25 ?_
  refine lv_iload_n hx hb dX2_fits_28 rfl (lv_at hl 1 rfl) ?_
  refine n_iald hx hb hK hP 6 0 rfl rfl (i := x) (by omega) (by decide) dX2_fits_29 ?_
  have hq_6 := hB.2.2.2.2.2.1 x
  refine lv_aload_n hx hb dX2_fits_30 rfl (lv_at hl 0 rfl) ?_
  refine va_get (D := D) (ci := 4) (v := .ref (ad 6)) (C := RX2) (T := TX2) (N := 11) hx hb hts hin hown hK hP 0 rfl rfl 7 (by decide) hf_25 (fun _ h9 => h9) rfl dX2_fits_31 ?_
  refine lv_iload_n hx hb dX2_fits_34 rfl (lv_at hl 2 rfl) ?_
  refine n_iald hx hb hK hP 6 0 rfl rfl (i := y) (by omega) (by decide) dX2_fits_35 ?_
  have hq_7 := hB.2.2.2.2.2.1 y
  refine lv_iconst (v := (nI (1))) hx hb dX2_fits_36 (by decide +kernel) ?_
  refine lv_iadd hx hb dX2_fits_37 ?_
  refine n_top (y := (nI (B 5 y + 1))) (nI_add _ _) ?_
  refine n_ne (tgt := 45) hx hb (by omega) (by omega) dX2_fits_38 (by decide) (fun c_8 => ?_) (fun c_8 => ?_)
  · refine lv_iconst (v := (nI (0))) hx hb dX2_fits_45 (by decide +kernel) ?_
    exact W.zret (v := (nI (0))) hx hb hr (by decide +kernel) (fun t ht hW => ⟨_, rfl, by first | rfl | (simp [oI_s, bI_t, bI_f, s_fits, c_2, c_5, c_8]; done) | (simp [oI_s, bI_t, bI_f, s_fits, c_2, c_5, c_8]; omega) | (simp only [s_fits]; (repeat' split) <;> first | rfl | omega | (simp_all; done) | (simp_all; omega)), ht⟩) (fun _ h => nomatch h) dX2_fits_46
  refine lv_iconst (v := (nI (1))) hx hb dX2_fits_41 (by decide +kernel) ?_
  refine lv_goto (tgt := 46) hx hb dX2_fits_42 (by decide) ?_
  exact W.zret (v := (nI (1))) hx hb hr (by decide +kernel) (fun t ht hW => ⟨_, rfl, by first | rfl | (simp [oI_s, bI_t, bI_f, s_fits, c_2, c_5, c_8]; done) | (simp [oI_s, bI_t, bI_f, s_fits, c_2, c_5, c_8]; omega) | (simp only [s_fits]; (repeat' split) <;> first | rfl | omega | (simp_all; done) | (simp_all; omega)), ht⟩) (fun _ h => nomatch h) dX2_fits_46
theorem hdX2_fits : yX2_fits.cls = RX2 ∧ yX2_fits.cls ≠ "java/lang/invoke/MethodHandle" ∧ yX2_fits.cls ≠ "java/lang/invoke/VarHandle" ∧ (parseMethodDescriptor yX2_fits.desc).map (fun d => d.parameters.length) = some 2 := by decide +kernel
set_option maxHeartbeats 4000000 in
set_option maxRecDepth 100000 in
theorem kX2_fails (l : Launch) (D : va_G) (cI : ClassId) (ad : Nat → Nat) (th : Nat) (n : Nat) (B : Nat → Nat → Nat) (P : Nat → Option Nat) (bs : Nat → Nat) (sz : Nat) (pl : Nat) : Met l yX2_fails wsX2_fails ({ frames := 0, cells := 0, slots := 0, locals := 0 }) (PcM D [(cI, .int)] (wM cI ad th n B P bs) sz [.ref (ad 0), .int (nI (pl))]) (va_Qi (fun (r : Int32) (u9 : Unit) => r = (nI (0))) (fun (u9 : Unit) t => AtW D [(cI, .int)] (va_A (wM cI ad th n B P bs) sz) (wM cI ad pl n B P bs) t) (va_A (wM cI ad th n B P bs) sz)) 0 0 (va_A (wM cI ad th n B P bs) sz) := by
  refine Met.ofW (cc := cX2_fails) (maxL := 2) (ret := (some .int)) (by decide) rfl ?_
  intro p e s m args below meth c s₁ BL hml hv
  obtain ⟨rfl, hsz, hP, hK, hD0⟩ := hv
  have hx := BL.exec
  have hb := BL.bytes
  have hr := BL.returns
  have hts := atoms_spec (ws := wsX2_fails) BL.pre
  have hown : s.vm.findClass RX2 = some m.cls := findClass_of_methodNamed BL.named
  have hlocks := BL.notSynchronized
  have hin : ∀ w ∈ wsX20, w ∈ wsX2_fails := by decide +kernel
  have hf_37 := hts (.fieldLink RX2 37 "TalkRebuilderModel" "thrown" "I") (by decide +kernel)
  have hl := lv_entry ([.ref (ad 0), .int (nI (pl))]) (n := 2) (Nat.le_of_ble_eq_true rfl)
  rw [lg_entry_eq]
  generalize (lg_sl ([.ref (ad 0), .int (nI (pl))]) ++ List.replicate (2 - (lg_sl ([.ref (ad 0), .int (nI (pl))])).length) Slot.unset).toArray = ls at hl ⊢
  have hl : lv_has ls 2 [(0, .ref (ad 0)), (1, .int (nI (pl)))] := hl
  subst hsz
  have hD := hD0.self (sz := s.heap.size)
  generalize hAe : va_A (wM cI ad th n B P bs) s.heap.size = A at hD ⊢
  have hA : ∀ q : Nat, s.heap.size ≤ q → A q := fun q h => by rw [← hAe]; exact Or.inr h
  have hS : va_S A s.heap s.heap [] := va_S.rf
  have hP : va_P D vwCl (wM cI ad th n B P bs) s.heap := hP
  have hD : va_D A (wM cI ad th n B P bs) := hD
  refine lv_aload_n hx hb dX2_fails_0 rfl (lv_at hl 0 rfl) ?_
  refine lv_iload_n hx hb dX2_fails_1 rfl (lv_at hl 1 rfl) ?_
  refine va_put (D := D) (ci := 4) (v := .int (nI (pl))) (ty := .int) (C := RX2) (T := TX2) (N := 11) hx hb hts hin tyX2 tyX2_ok nmX2 hown hK hP hD hS 0 rfl rfl 0 (by decide) hf_37 (fun _ h9 => h9) rfl (by decide +kernel) rfl rfl (Nat.le_of_ble_eq_true rfl) dX2_fails_2 (fun H locs hP hD hS => ?_)
  have hP : va_P D vwCl (wM cI ad pl n B P bs) H := hP
  have hD : va_D A (wM cI ad pl n B P bs) := hD
  refine lv_iconst (v := (nI (0))) hx hb dX2_fails_5 (by decide +kernel) ?_
  exact W.iret (v := (nI (0))) hx hb hr (fun t ht hW => ⟨⟨_, (), rfl, rfl, by rw [ht]; exact hP, va_K.moved hW.alike hK, hD⟩, hS.F ht⟩) hS.2.2 dX2_fails_6
theorem hdX2_fails : yX2_fails.cls = RX2 ∧ yX2_fails.cls ≠ "java/lang/invoke/MethodHandle" ∧ yX2_fails.cls ≠ "java/lang/invoke/VarHandle" ∧ (parseMethodDescriptor yX2_fails.desc).map (fun d => d.parameters.length) = some 1 := by decide +kernel
set_option maxHeartbeats 4000000 in
set_option maxRecDepth 100000 in
theorem kX2_tells (l : Launch) (D : va_G) (cI : ClassId) (ad : Nat → Nat) (th : Nat) (n : Nat) (B : Nat → Nat → Nat) (P : Nat → Option Nat) (bs : Nat → Nat) (sz : Nat) (v : Int32) : Met l yX2_tells wsX2_tells ({ frames := 0, cells := 0, slots := 0, locals := 0 }) (PcM D [(cI, .int)] (wM cI ad th n B P bs) sz [.ref (ad 0), .int (v)]) (va_Qi (fun (r : Int32) (u9 : Unit) => r = (v)) (fun (u9 : Unit) t => AtW D [(cI, .int)] (va_A (wM cI ad th n B P bs) sz) (wM cI ad 0 n B P bs) t) (va_A (wM cI ad th n B P bs) sz)) 0 0 (va_A (wM cI ad th n B P bs) sz) := by
  refine Met.ofW (cc := cX2_tells) (maxL := 2) (ret := (some .int)) (by decide) rfl ?_
  intro p e s m args below meth c s₁ BL hml hv
  obtain ⟨rfl, hsz, hP, hK, hD0⟩ := hv
  have hx := BL.exec
  have hb := BL.bytes
  have hr := BL.returns
  have hts := atoms_spec (ws := wsX2_tells) BL.pre
  have hown : s.vm.findClass RX2 = some m.cls := findClass_of_methodNamed BL.named
  have hlocks := BL.notSynchronized
  have hin : ∀ w ∈ wsX20, w ∈ wsX2_tells := by decide +kernel
  have hf_37 := hts (.fieldLink RX2 37 "TalkRebuilderModel" "thrown" "I") (by decide +kernel)
  have hl := lv_entry ([.ref (ad 0), .int (v)]) (n := 2) (Nat.le_of_ble_eq_true rfl)
  rw [lg_entry_eq]
  generalize (lg_sl ([.ref (ad 0), .int (v)]) ++ List.replicate (2 - (lg_sl ([.ref (ad 0), .int (v)])).length) Slot.unset).toArray = ls at hl ⊢
  have hl : lv_has ls 2 [(0, .ref (ad 0)), (1, .int (v))] := hl
  subst hsz
  have hD := hD0.self (sz := s.heap.size)
  generalize hAe : va_A (wM cI ad th n B P bs) s.heap.size = A at hD ⊢
  have hA : ∀ q : Nat, s.heap.size ≤ q → A q := fun q h => by rw [← hAe]; exact Or.inr h
  have hS : va_S A s.heap s.heap [] := va_S.rf
  have hP : va_P D vwCl (wM cI ad th n B P bs) s.heap := hP
  have hD : va_D A (wM cI ad th n B P bs) := hD
  refine lv_aload_n hx hb dX2_tells_0 rfl (lv_at hl 0 rfl) ?_
  refine lv_iconst (v := (nI (0))) hx hb dX2_tells_1 (by decide +kernel) ?_
  refine va_put (D := D) (ci := 4) (v := .int (nI (0))) (ty := .int) (C := RX2) (T := TX2) (N := 11) hx hb hts hin tyX2 tyX2_ok nmX2 hown hK hP hD hS 0 rfl rfl 0 (by decide) hf_37 (fun _ h9 => h9) rfl (by decide +kernel) rfl rfl (Nat.le_of_ble_eq_true rfl) dX2_tells_2 (fun H locs hP hD hS => ?_)
  have hP : va_P D vwCl (wM cI ad 0 n B P bs) H := hP
  have hD : va_D A (wM cI ad 0 n B P bs) := hD
  refine lv_iload_n hx hb dX2_tells_5 rfl (lv_at hl 1 rfl) ?_
  exact W.iret (v := (v)) hx hb hr (fun t ht hW => ⟨⟨_, (), rfl, rfl, by rw [ht]; exact hP, va_K.moved hW.alike hK, hD⟩, hS.F ht⟩) hS.2.2 dX2_tells_6
theorem hdX2_tells : yX2_tells.cls = RX2 ∧ yX2_tells.cls ≠ "java/lang/invoke/MethodHandle" ∧ yX2_tells.cls ≠ "java/lang/invoke/VarHandle" ∧ (parseMethodDescriptor yX2_tells.desc).map (fun d => d.parameters.length) = some 1 := by decide +kernel
set_option maxHeartbeats 4000000 in
set_option maxRecDepth 100000 in
theorem kX2_thrown (l : Launch) (D : va_G) (cI : ClassId) (ad : Nat → Nat) (th : Nat) (n : Nat) (B : Nat → Nat → Nat) (P : Nat → Option Nat) (bs : Nat → Nat) : Met l yX2_thrown wsX2_thrown ({ frames := 0, cells := 0, slots := 0, locals := 0 }) (PcR D [(cI, .int)] (wM cI ad th n B P bs) [.ref (ad 0)]) (vp_Si (fun r => r = (nI (th)))) 0 0 (fun _ => False) := by
  refine Met.ofW (cc := cX2_thrown) (maxL := 1) (ret := (some .int)) (by decide) rfl ?_
  intro p e s m args below meth c s₁ BL hml hv
  obtain ⟨rfl, hP, hK⟩ := hv
  have hx := BL.exec
  have hb := BL.bytes
  have hr := BL.returns
  have hts := atoms_spec (ws := wsX2_thrown) BL.pre
  have hown : s.vm.findClass RX2 = some m.cls := findClass_of_methodNamed BL.named
  have hlocks := BL.notSynchronized
  have hin : ∀ w ∈ wsX20, w ∈ wsX2_thrown := by decide +kernel
  have hf_37 := hts (.fieldLink RX2 37 "TalkRebuilderModel" "thrown" "I") (by decide +kernel)
  have hl := lv_entry ([.ref (ad 0)]) (n := 1) (Nat.le_of_ble_eq_true rfl)
  rw [lg_entry_eq]
  generalize (lg_sl ([.ref (ad 0)]) ++ List.replicate (1 - (lg_sl ([.ref (ad 0)])).length) Slot.unset).toArray = ls at hl ⊢
  have hl : lv_has ls 1 [(0, .ref (ad 0))] := hl
  refine lv_aload_n hx hb dX2_thrown_0 rfl (lv_at hl 0 rfl) ?_
  refine va_get (D := D) (ci := 4) (v := .int (nI (th))) (C := RX2) (T := TX2) (N := 11) hx hb hts hin hown hK hP 0 rfl rfl 0 (by decide) hf_37 (fun _ h9 => h9) rfl dX2_thrown_1 ?_
  exact W.iret (v := (nI (th))) hx hb hr (fun t ht hW => ⟨_, rfl, rfl, ht⟩) (fun _ h => nomatch h) dX2_thrown_4
theorem hdX2_thrown : yX2_thrown.cls = RX2 ∧ yX2_thrown.cls ≠ "java/lang/invoke/MethodHandle" ∧ yX2_thrown.cls ≠ "java/lang/invoke/VarHandle" ∧ (parseMethodDescriptor yX2_thrown.desc).map (fun d => d.parameters.length) = some 0 := by decide +kernel
set_option maxHeartbeats 4000000 in
set_option maxRecDepth 100000 in
theorem kX2_mails (l : Launch) (D : va_G) (cI : ClassId) (ad : Nat → Nat) (th : Nat) (n : Nat) (B : Nat → Nat → Nat) (P : Nat → Option Nat) (bs : Nat → Nat) (sz : Nat) : Met l yX2_mails wsX2_mails ({ frames := 1, cells := 0, slots := 0, locals := 21 }) (PcM D [(cI, .int)] (wM cI ad th n B P bs) sz [.ref (ad 0)]) (va_Qi (fun (r : Int32) (u9 : Unit) => r = (nI (n))) (fun (u9 : Unit) t => AtW D [(cI, .int)] (va_A (wM cI ad th n B P bs) sz) (wM cI ad 0 n B P bs) t) (va_A (wM cI ad th n B P bs) sz)) 0 0 (va_A (wM cI ad th n B P bs) sz) := by
  refine Met.ofW (cc := cX2_mails) (maxL := 1) (ret := (some .int)) (by decide) rfl ?_
  intro p e s m args below meth c s₁ BL hml hv
  obtain ⟨rfl, hsz, hP, hK, hD0⟩ := hv
  have hx := BL.exec
  have hb := BL.bytes
  have hr := BL.returns
  have hts := atoms_spec (ws := wsX2_mails) BL.pre
  have hown : s.vm.findClass RX2 = some m.cls := findClass_of_methodNamed BL.named
  have hlocks := BL.notSynchronized
  have hin : ∀ w ∈ wsX20, w ∈ wsX2_mails := by decide +kernel
  have hf_41 := hts (.fieldLink RX2 41 "TalkRebuilderModel" "mails" "I") (by decide +kernel)
  have hl := lv_entry ([.ref (ad 0)]) (n := 1) (Nat.le_of_ble_eq_true rfl)
  rw [lg_entry_eq]
  generalize (lg_sl ([.ref (ad 0)]) ++ List.replicate (1 - (lg_sl ([.ref (ad 0)])).length) Slot.unset).toArray = ls at hl ⊢
  have hl : lv_has ls 1 [(0, .ref (ad 0))] := hl
  subst hsz
  have hD := hD0.self (sz := s.heap.size)
  generalize hAe : va_A (wM cI ad th n B P bs) s.heap.size = A at hD ⊢
  have hA : ∀ q : Nat, s.heap.size ≤ q → A q := fun q h => by rw [← hAe]; exact Or.inr h
  have hS : va_S A s.heap s.heap [] := va_S.rf
  have hP : va_P D vwCl (wM cI ad th n B P bs) s.heap := hP
  have hD : va_D A (wM cI ad th n B P bs) := hD
  refine lv_aload_n hx hb dX2_mails_0 rfl (lv_at hl 0 rfl) ?_
  refine lv_aload_n hx hb dX2_mails_1 rfl (lv_at hl 0 rfl) ?_
  refine va_get (D := D) (ci := 4) (v := .int (nI (n))) (C := RX2) (T := TX2) (N := 11) hx hb hts hin hown hK hP 0 rfl rfl 1 (by decide) hf_41 (fun _ h9 => h9) rfl dX2_mails_2 ?_
  refine mo_V (wr := []) (As := [.int (nI (n))]) ⟨hx, hb, hml, hown, hts⟩ (kX2_tells l D cI ad th n B P bs s.heap.size (nI (n)) ) (cwV 1 hts gX2_mails_X2_tells rfl rfl rfl hdX2_tells ⟨Nat.le_of_ble_eq_true rfl, Nat.le_of_ble_eq_true rfl⟩) hK hP hD hS hA (ci := 4) rfl (q0 := 0) rfl rfl rfl hl.1 rfl (Nat.le_of_ble_eq_true rfl) dX2_mails_5 ⟨Nat.zero_le _, Nat.zero_le _⟩ (fun r_1 (u9 : Unit) H locs hw_1 hP hD hS => ?_)
  subst hw_1
  have hP : va_P D vwCl (wM cI ad 0 n B P bs) H := hP
  have hD : va_D A (wM cI ad 0 n B P bs) := hD
  exact W.iret (v := (nI (n))) hx hb hr (fun t ht hW => ⟨⟨_, (), rfl, rfl, by rw [ht]; exact hP, va_K.moved hW.alike hK, hD⟩, hS.F ht⟩) hS.2.2 dX2_mails_8
theorem hdX2_mails : yX2_mails.cls = RX2 ∧ yX2_mails.cls ≠ "java/lang/invoke/MethodHandle" ∧ yX2_mails.cls ≠ "java/lang/invoke/VarHandle" ∧ (parseMethodDescriptor yX2_mails.desc).map (fun d => d.parameters.length) = some 0 := by decide +kernel
set_option maxHeartbeats 4000000 in
set_option maxRecDepth 100000 in
theorem kX2_lines (l : Launch) (D : va_G) (cI : ClassId) (ad : Nat → Nat) (th : Nat) (n : Nat) (B : Nat → Nat → Nat) (P : Nat → Option Nat) (bs : Nat → Nat) (sz : Nat) (u : Int32) (hB : Bok n B) : Met l yX2_lines wsX2_lines ({ frames := 2, cells := 0, slots := 0, locals := 43 }) (PcM D [(cI, .int)] (wM cI ad th n B P bs) sz [.ref (ad 0), .int (u)]) (va_Qi (fun (r : Int32) (u9 : Unit) => r = (nI ((s_lines n B u).2))) (fun (u9 : Unit) t => AtW D [(cI, .int)] (va_A (wM cI ad th n B P bs) sz) (wM cI ad ((s_lines n B u).1) n B P bs) t) (va_A (wM cI ad th n B P bs) sz)) 0 0 (va_A (wM cI ad th n B P bs) sz) := by
  refine Met.ofW (cc := cX2_lines) (maxL := 2) (ret := (some .int)) (by decide) rfl ?_
  intro p e s m args below meth c s₁ BL hml hv
  obtain ⟨rfl, hsz, hP, hK, hD0⟩ := hv
  have hx := BL.exec
  have hb := BL.bytes
  have hr := BL.returns
  have hts := atoms_spec (ws := wsX2_lines) BL.pre
  have hown : s.vm.findClass RX2 = some m.cls := findClass_of_methodNamed BL.named
  have hlocks := BL.notSynchronized
  have hin : ∀ w ∈ wsX20, w ∈ wsX2_lines := by decide +kernel
  have hf_22 := hts (.fieldLink RX2 22 "TalkRebuilderModel" "many" "[I") (by decide +kernel)
  have hl := lv_entry ([.ref (ad 0), .int (u)]) (n := 2) (Nat.le_of_ble_eq_true rfl)
  rw [lg_entry_eq]
  generalize (lg_sl ([.ref (ad 0), .int (u)]) ++ List.replicate (2 - (lg_sl ([.ref (ad 0), .int (u)])).length) Slot.unset).toArray = ls at hl ⊢
  have hl : lv_has ls 2 [(0, .ref (ad 0)), (1, .int (u))] := hl
  subst hsz
  have hD := hD0.self (sz := s.heap.size)
  generalize hAe : va_A (wM cI ad th n B P bs) s.heap.size = A at hD ⊢
  have hA : ∀ q : Nat, s.heap.size ≤ q → A q := fun q h => by rw [← hAe]; exact Or.inr h
  have hS : va_S A s.heap s.heap [] := va_S.rf
  have hP : va_P D vwCl (wM cI ad th n B P bs) s.heap := hP
  have hD : va_D A (wM cI ad th n B P bs) := hD
  have hn10 := hB.1
  refine lv_aload_n hx hb dX2_lines_0 rfl (lv_at hl 0 rfl) ?_
  refine lv_iload_n hx hb dX2_lines_1 rfl (lv_at hl 1 rfl) ?_
  refine ro_V (As := [.int (u)]) (v := (bI (s_ism n u))) ⟨hx, hb, hml, hown, hts⟩ (kX2_isMail l D cI ad th n B P bs (u) hB) (cwV 1 hts gX2_lines_X2_isMail rfl rfl rfl hdX2_isMail ⟨Nat.le_of_ble_eq_true rfl, Nat.le_of_ble_eq_true rfl⟩) hK hP (ci := 4) rfl (q0 := 0) rfl rfl rfl hl.1 rfl (Nat.le_of_ble_eq_true rfl) dX2_lines_2 ⟨Nat.zero_le _, Nat.zero_le _⟩ ?_
  refine y_eq (tgt := 21) hx hb dX2_lines_5 (by decide) (fun c_1 => ?_) (fun c_1 => ?_)
  · refine lv_aload_n hx hb dX2_lines_21 rfl (lv_at hl 0 rfl) ?_
    refine lv_iconst (v := (nI (1))) hx hb dX2_lines_22 (by decide +kernel) ?_
    refine mo_V (wr := []) (As := [.int (nI (1))]) ⟨hx, hb, hml, hown, hts⟩ (kX2_fails l D cI ad th n B P bs s.heap.size 1 ) (cwV 1 hts gX2_lines_X2_fails rfl rfl rfl hdX2_fails ⟨Nat.le_of_ble_eq_true rfl, Nat.le_of_ble_eq_true rfl⟩) hK hP hD hS hA (ci := 4) rfl (q0 := 0) rfl rfl rfl hl.1 rfl (Nat.le_of_ble_eq_true rfl) dX2_lines_23 ⟨Nat.zero_le _, Nat.zero_le _⟩ (fun r_2 (u9 : Unit) H locs hw_2 hP hD hS => ?_)
    subst hw_2
    have hP : va_P D vwCl (wM cI ad 1 n B P bs) H := hP
    have hD : va_D A (wM cI ad 1 n B P bs) := hD
    have ew_3 : 1 = ((s_lines n B u).1) := by first | rfl | (simp [oI_s, bI_t, bI_f, s_lines, c_1]; done) | (simp [oI_s, bI_t, bI_f, s_lines, c_1]; omega) | (simp only [s_lines]; (repeat' split) <;> first | rfl | omega | (simp_all; done) | (simp_all; omega))
    have hP : va_P D vwCl (wM cI ad ((s_lines n B u).1) n B P bs) H := by rw [← ew_3]; exact hP
    have hD : va_D A (wM cI ad ((s_lines n B u).1) n B P bs) := by rw [← ew_3]; exact hD
    exact W.iret (v := (nI (0))) hx hb hr (fun t ht hW => ⟨⟨_, (), rfl, (by first | rfl | (simp [oI_s, bI_t, bI_f, s_lines, c_1]; done) | (simp [oI_s, bI_t, bI_f, s_lines, c_1]; omega) | (simp only [s_lines]; (repeat' split) <;> first | rfl | omega | (simp_all; done) | (simp_all; omega))), by rw [ht]; exact hP, va_K.moved hW.alike hK, hD⟩, hS.F ht⟩) hS.2.2 dX2_lines_26
  obtain ⟨k_u, hk_u, rfl⟩ := s_ism_t hB.1 c_1
  have hc_k_u : (nI k_u).toNatClampNeg = k_u := nI_clamp (by omega)
  refine lv_aload_n hx hb dX2_lines_8 rfl (lv_at hl 0 rfl) ?_
  refine lv_aload_n hx hb dX2_lines_9 rfl (lv_at hl 0 rfl) ?_
  refine va_get (D := D) (ci := 4) (v := .ref (ad 5)) (C := RX2) (T := TX2) (N := 11) hx hb hts hin hown hK hP 0 rfl rfl 6 (by decide) hf_22 (fun _ h9 => h9) rfl dX2_lines_10 ?_
  refine lv_iload_n hx hb dX2_lines_13 rfl (lv_at hl 1 rfl) ?_
  refine n_iald hx hb hK hP 5 0 rfl rfl (i := k_u) (by omega) (by decide) dX2_lines_14 ?_
  have hq_4 := hB.2.2.1 k_u
  refine mo_V (wr := []) (As := [.int (nI (B 4 k_u))]) ⟨hx, hb, hml, hown, hts⟩ (kX2_tells l D cI ad th n B P bs s.heap.size (nI (B 4 k_u)) ) (cwV 1 hts gX2_lines_X2_tells rfl rfl rfl hdX2_tells ⟨Nat.le_of_ble_eq_true rfl, Nat.le_of_ble_eq_true rfl⟩) hK hP hD hS hA (ci := 4) rfl (q0 := 0) rfl rfl rfl hl.1 rfl (Nat.le_of_ble_eq_true rfl) dX2_lines_15 ⟨Nat.zero_le _, Nat.zero_le _⟩ (fun r_5 (u9 : Unit) H locs hw_5 hP hD hS => ?_)
  subst hw_5
  have hP : va_P D vwCl (wM cI ad 0 n B P bs) H := hP
  have hD : va_D A (wM cI ad 0 n B P bs) := hD
  refine lv_goto (tgt := 26) hx hb dX2_lines_18 (by decide) ?_
  have ew_6 : 0 = ((s_lines n B (nI k_u)).1) := by first | rfl | (simp [oI_s, bI_t, bI_f, s_lines, c_1, hc_k_u]; done) | (simp [oI_s, bI_t, bI_f, s_lines, c_1, hc_k_u]; omega) | (simp only [s_lines]; (repeat' split) <;> first | rfl | omega | (simp_all; done) | (simp_all; omega))
  have hP : va_P D vwCl (wM cI ad ((s_lines n B (nI k_u)).1) n B P bs) H := by rw [← ew_6]; exact hP
  have hD : va_D A (wM cI ad ((s_lines n B (nI k_u)).1) n B P bs) := by rw [← ew_6]; exact hD
  exact W.iret (v := (nI (B 4 k_u))) hx hb hr (fun t ht hW => ⟨⟨_, (), rfl, (by first | rfl | (simp [oI_s, bI_t, bI_f, s_lines, c_1, hc_k_u]; done) | (simp [oI_s, bI_t, bI_f, s_lines, c_1, hc_k_u]; omega) | (simp only [s_lines]; (repeat' split) <;> first | rfl | omega | (simp_all; done) | (simp_all; omega))), by rw [ht]; exact hP, va_K.moved hW.alike hK, hD⟩, hS.F ht⟩) hS.2.2 dX2_lines_26
theorem hdX2_lines : yX2_lines.cls = RX2 ∧ yX2_lines.cls ≠ "java/lang/invoke/MethodHandle" ∧ yX2_lines.cls ≠ "java/lang/invoke/VarHandle" ∧ (parseMethodDescriptor yX2_lines.desc).map (fun d => d.parameters.length) = some 1 := by decide +kernel
set_option maxHeartbeats 4000000 in
set_option maxRecDepth 100000 in
theorem kX2_word (l : Launch) (D : va_G) (cI : ClassId) (ad : Nat → Nat) (th : Nat) (n : Nat) (B : Nat → Nat → Nat) (P : Nat → Option Nat) (bs : Nat → Nat) (sz : Nat) (u : Int32) (w : Int32) (hB : Bok n B) : Met l yX2_word wsX2_word ({ frames := 3, cells := 0, slots := 0, locals := 65 }) (PcM D [(cI, .int)] (wM cI ad th n B P bs) sz [.ref (ad 0), .int (u), .int (w)]) (va_Qi (fun (r : Int32) (u9 : Unit) => r = (nI ((s_word n B u w).2))) (fun (u9 : Unit) t => AtW D [(cI, .int)] (va_A (wM cI ad th n B P bs) sz) (wM cI ad ((s_word n B u w).1) n B P bs) t) (va_A (wM cI ad th n B P bs) sz)) 0 0 (va_A (wM cI ad th n B P bs) sz) := by
  refine Met.ofW (cc := cX2_word) (maxL := 3) (ret := (some .int)) (by decide) rfl ?_
  intro p e s m args below meth c s₁ BL hml hv
  obtain ⟨rfl, hsz, hP, hK, hD0⟩ := hv
  have hx := BL.exec
  have hb := BL.bytes
  have hr := BL.returns
  have hts := atoms_spec (ws := wsX2_word) BL.pre
  have hown : s.vm.findClass RX2 = some m.cls := findClass_of_methodNamed BL.named
  have hlocks := BL.notSynchronized
  have hin : ∀ w ∈ wsX20, w ∈ wsX2_word := by decide +kernel
  have hf_28 := hts (.fieldLink RX2 28 "TalkRebuilderModel" "words" "[I") (by decide +kernel)
  have hl := lv_entry ([.ref (ad 0), .int (u), .int (w)]) (n := 3) (Nat.le_of_ble_eq_true rfl)
  rw [lg_entry_eq]
  generalize (lg_sl ([.ref (ad 0), .int (u), .int (w)]) ++ List.replicate (3 - (lg_sl ([.ref (ad 0), .int (u), .int (w)])).length) Slot.unset).toArray = ls at hl ⊢
  have hl : lv_has ls 3 [(0, .ref (ad 0)), (1, .int (u)), (2, .int (w))] := hl
  subst hsz
  have hD := hD0.self (sz := s.heap.size)
  generalize hAe : va_A (wM cI ad th n B P bs) s.heap.size = A at hD ⊢
  have hA : ∀ q : Nat, s.heap.size ≤ q → A q := fun q h => by rw [← hAe]; exact Or.inr h
  have hS : va_S A s.heap s.heap [] := va_S.rf
  have hP : va_P D vwCl (wM cI ad th n B P bs) s.heap := hP
  have hD : va_D A (wM cI ad th n B P bs) := hD
  have hn10 := hB.1
  refine lv_aload_n hx hb dX2_word_0 rfl (lv_at hl 0 rfl) ?_
  refine lv_iload_n hx hb dX2_word_1 rfl (lv_at hl 1 rfl) ?_
  refine lv_iload_n hx hb dX2_word_2 rfl (lv_at hl 2 rfl) ?_
  refine ro_V (As := [.int (u), .int (w)]) (v := (bI (s_isl n B u w))) ⟨hx, hb, hml, hown, hts⟩ (kX2_isLine l D cI ad th n B P bs (u) (w) hB) (cwV 2 hts gX2_word_X2_isLine rfl rfl rfl hdX2_isLine ⟨Nat.le_of_ble_eq_true rfl, Nat.le_of_ble_eq_true rfl⟩) hK hP (ci := 4) rfl (q0 := 0) rfl rfl rfl hl.1 rfl (Nat.le_of_ble_eq_true rfl) dX2_word_3 ⟨Nat.zero_le _, Nat.zero_le _⟩ ?_
  refine y_eq (tgt := 27) hx hb dX2_word_6 (by decide) (fun c_1 => ?_) (fun c_1 => ?_)
  · refine lv_aload_n hx hb dX2_word_27 rfl (lv_at hl 0 rfl) ?_
    refine lv_iconst (v := (nI (1))) hx hb dX2_word_28 (by decide +kernel) ?_
    refine mo_V (wr := []) (As := [.int (nI (1))]) ⟨hx, hb, hml, hown, hts⟩ (kX2_fails l D cI ad th n B P bs s.heap.size 1 ) (cwV 1 hts gX2_word_X2_fails rfl rfl rfl hdX2_fails ⟨Nat.le_of_ble_eq_true rfl, Nat.le_of_ble_eq_true rfl⟩) hK hP hD hS hA (ci := 4) rfl (q0 := 0) rfl rfl rfl hl.1 rfl (Nat.le_of_ble_eq_true rfl) dX2_word_29 ⟨Nat.zero_le _, Nat.zero_le _⟩ (fun r_2 (u9 : Unit) H locs hw_2 hP hD hS => ?_)
    subst hw_2
    have hP : va_P D vwCl (wM cI ad 1 n B P bs) H := hP
    have hD : va_D A (wM cI ad 1 n B P bs) := hD
    have ew_3 : 1 = ((s_word n B u w).1) := by first | rfl | (simp [oI_s, bI_t, bI_f, s_word, c_1]; done) | (simp [oI_s, bI_t, bI_f, s_word, c_1]; omega) | (simp only [s_word]; (repeat' split) <;> first | rfl | omega | (simp_all; done) | (simp_all; omega))
    have hP : va_P D vwCl (wM cI ad ((s_word n B u w).1) n B P bs) H := by rw [← ew_3]; exact hP
    have hD : va_D A (wM cI ad ((s_word n B u w).1) n B P bs) := by rw [← ew_3]; exact hD
    exact W.iret (v := (nI (0))) hx hb hr (fun t ht hW => ⟨⟨_, (), rfl, (by first | rfl | (simp [oI_s, bI_t, bI_f, s_word, c_1]; done) | (simp [oI_s, bI_t, bI_f, s_word, c_1]; omega) | (simp only [s_word]; (repeat' split) <;> first | rfl | omega | (simp_all; done) | (simp_all; omega))), by rw [ht]; exact hP, va_K.moved hW.alike hK, hD⟩, hS.F ht⟩) hS.2.2 dX2_word_32
  obtain ⟨k_u, k_w, hk_u, hk_w, rfl, rfl⟩ := s_isl_t hB c_1
  have h8_u := hB.2.2.1 k_u
  have hc_k_u : (nI k_u).toNatClampNeg = k_u := nI_clamp (by omega)
  have hc_k_w : (nI k_w).toNatClampNeg = k_w := nI_clamp (by omega)
  refine lv_aload_n hx hb dX2_word_9 rfl (lv_at hl 0 rfl) ?_
  refine lv_aload_n hx hb dX2_word_10 rfl (lv_at hl 0 rfl) ?_
  refine va_get (D := D) (ci := 4) (v := .ref (ad 7)) (C := RX2) (T := TX2) (N := 11) hx hb hts hin hown hK hP 0 rfl rfl 8 (by decide) hf_28 (fun _ h9 => h9) rfl dX2_word_11 ?_
  refine lv_bipush (v := (nI (8))) hx hb dX2_word_14 (by decide +kernel) ?_
  refine lv_iload_n hx hb dX2_word_16 rfl (lv_at hl 1 rfl) ?_
  refine lv_imul hx hb dX2_word_17 ?_
  refine n_top (y := (nI (8 * k_u))) (pk_mul _ _) ?_
  refine lv_iload_n hx hb dX2_word_18 rfl (lv_at hl 2 rfl) ?_
  refine lv_iadd hx hb dX2_word_19 ?_
  refine n_top (y := (nI (8 * k_u + k_w))) (nI_add _ _) ?_
  refine n_iald hx hb hK hP 7 0 rfl rfl (i := 8 * k_u + k_w) (by omega) (by decide) dX2_word_20 ?_
  have hq_4 := hB.2.1 6 (8 * k_u + k_w)
  refine mo_V (wr := []) (As := [.int (nI (B 6 (8 * k_u + k_w)))]) ⟨hx, hb, hml, hown, hts⟩ (kX2_tells l D cI ad th n B P bs s.heap.size (nI (B 6 (8 * k_u + k_w))) ) (cwV 1 hts gX2_word_X2_tells rfl rfl rfl hdX2_tells ⟨Nat.le_of_ble_eq_true rfl, Nat.le_of_ble_eq_true rfl⟩) hK hP hD hS hA (ci := 4) rfl (q0 := 0) rfl rfl rfl hl.1 rfl (Nat.le_of_ble_eq_true rfl) dX2_word_21 ⟨Nat.zero_le _, Nat.zero_le _⟩ (fun r_5 (u9 : Unit) H locs hw_5 hP hD hS => ?_)
  subst hw_5
  have hP : va_P D vwCl (wM cI ad 0 n B P bs) H := hP
  have hD : va_D A (wM cI ad 0 n B P bs) := hD
  refine lv_goto (tgt := 32) hx hb dX2_word_24 (by decide) ?_
  have ew_6 : 0 = ((s_word n B (nI k_u) (nI k_w)).1) := by first | rfl | (simp [oI_s, bI_t, bI_f, s_word, c_1, hc_k_u, hc_k_w]; done) | (simp [oI_s, bI_t, bI_f, s_word, c_1, hc_k_u, hc_k_w]; omega) | (simp only [s_word]; (repeat' split) <;> first | rfl | omega | (simp_all; done) | (simp_all; omega))
  have hP : va_P D vwCl (wM cI ad ((s_word n B (nI k_u) (nI k_w)).1) n B P bs) H := by rw [← ew_6]; exact hP
  have hD : va_D A (wM cI ad ((s_word n B (nI k_u) (nI k_w)).1) n B P bs) := by rw [← ew_6]; exact hD
  exact W.iret (v := (nI (B 6 (8 * k_u + k_w)))) hx hb hr (fun t ht hW => ⟨⟨_, (), rfl, (by first | rfl | (simp [oI_s, bI_t, bI_f, s_word, c_1, hc_k_u, hc_k_w]; done) | (simp [oI_s, bI_t, bI_f, s_word, c_1, hc_k_u, hc_k_w]; omega) | (simp only [s_word]; (repeat' split) <;> first | rfl | omega | (simp_all; done) | (simp_all; omega))), by rw [ht]; exact hP, va_K.moved hW.alike hK, hD⟩, hS.F ht⟩) hS.2.2 dX2_word_32
theorem hdX2_word : yX2_word.cls = RX2 ∧ yX2_word.cls ≠ "java/lang/invoke/MethodHandle" ∧ yX2_word.cls ≠ "java/lang/invoke/VarHandle" ∧ (parseMethodDescriptor yX2_word.desc).map (fun d => d.parameters.length) = some 2 := by decide +kernel
set_option maxHeartbeats 4000000 in
set_option maxRecDepth 100000 in
theorem kX2_parent (l : Launch) (D : va_G) (cI : ClassId) (ad : Nat → Nat) (th : Nat) (n : Nat) (B : Nat → Nat → Nat) (P : Nat → Option Nat) (bs : Nat → Nat) (sz : Nat) (u : Int32) (hB : Bok n B) : Met l yX2_parent wsX2_parent ({ frames := 2, cells := 0, slots := 0, locals := 44 }) (PcM D [(cI, .int)] (wM cI ad th n B P bs) sz [.ref (ad 0), .int (u)]) (va_Qi (fun (r : Int32) (u9 : Unit) => r = (nI ((s_parent n B u).2))) (fun (u9 : Unit) t => AtW D [(cI, .int)] (va_A (wM cI ad th n B P bs) sz) (wM cI ad ((s_parent n B u).1) n B P bs) t) (va_A (wM cI ad th n B P bs) sz)) 0 0 (va_A (wM cI ad th n B P bs) sz) := by
  refine Met.ofW (cc := cX2_parent) (maxL := 2) (ret := (some .int)) (by decide) rfl ?_
  intro p e s m args below meth c s₁ BL hml hv
  obtain ⟨rfl, hsz, hP, hK, hD0⟩ := hv
  have hx := BL.exec
  have hb := BL.bytes
  have hr := BL.returns
  have hts := atoms_spec (ws := wsX2_parent) BL.pre
  have hown : s.vm.findClass RX2 = some m.cls := findClass_of_methodNamed BL.named
  have hlocks := BL.notSynchronized
  have hl := lv_entry ([.ref (ad 0), .int (u)]) (n := 2) (Nat.le_of_ble_eq_true rfl)
  rw [lg_entry_eq]
  generalize (lg_sl ([.ref (ad 0), .int (u)]) ++ List.replicate (2 - (lg_sl ([.ref (ad 0), .int (u)])).length) Slot.unset).toArray = ls at hl ⊢
  have hl : lv_has ls 2 [(0, .ref (ad 0)), (1, .int (u))] := hl
  subst hsz
  have hD := hD0.self (sz := s.heap.size)
  generalize hAe : va_A (wM cI ad th n B P bs) s.heap.size = A at hD ⊢
  have hA : ∀ q : Nat, s.heap.size ≤ q → A q := fun q h => by rw [← hAe]; exact Or.inr h
  have hS : va_S A s.heap s.heap [] := va_S.rf
  have hP : va_P D vwCl (wM cI ad th n B P bs) s.heap := hP
  have hD : va_D A (wM cI ad th n B P bs) := hD
  have hn10 := hB.1
  refine lv_aload_n hx hb dX2_parent_0 rfl (lv_at hl 0 rfl) ?_
  refine lv_iload_n hx hb dX2_parent_1 rfl (lv_at hl 1 rfl) ?_
  refine ro_V (As := [.int (u)]) (v := (bI (s_ism n u))) ⟨hx, hb, hml, hown, hts⟩ (kX2_isMail l D cI ad th n B P bs (u) hB) (cwV 1 hts gX2_parent_X2_isMail rfl rfl rfl hdX2_isMail ⟨Nat.le_of_ble_eq_true rfl, Nat.le_of_ble_eq_true rfl⟩) hK hP (ci := 4) rfl (q0 := 0) rfl rfl rfl hl.1 rfl (Nat.le_of_ble_eq_true rfl) dX2_parent_2 ⟨Nat.zero_le _, Nat.zero_le _⟩ ?_
  refine y_ne (tgt := 14) hx hb dX2_parent_5 (by decide) (fun c_1 => ?_) (fun c_1 => ?_)
  · obtain ⟨k_u, hk_u, rfl⟩ := s_ism_t hB.1 c_1
    have hc_k_u : (nI k_u).toNatClampNeg = k_u := nI_clamp (by omega)
    refine lv_aload_n hx hb dX2_parent_14 rfl (lv_at hl 0 rfl) ?_
    refine lv_iload_n hx hb dX2_parent_15 rfl (lv_at hl 1 rfl) ?_
    refine ro_V (As := [.int (nI (k_u))]) (v := (oI (s_par n B k_u))) ⟨hx, hb, hml, hown, hts⟩ (kX2_parentOf l D cI ad th n B P bs k_u hB (by omega)) (cwV 1 hts gX2_parent_X2_parentOf rfl rfl rfl hdX2_parentOf ⟨Nat.le_of_ble_eq_true rfl, Nat.le_of_ble_eq_true rfl⟩) hK hP (ci := 4) rfl (q0 := 0) rfl rfl rfl hl.1 rfl (Nat.le_of_ble_eq_true rfl) dX2_parent_16 ⟨Nat.zero_le _, Nat.zero_le _⟩ ?_
    refine lv_iconst (v := (oI (none))) hx hb dX2_parent_19 (by decide +kernel) ?_
    refine o_ne (tgt := 31) hx hb (s_par_b hB.1) dX2_parent_20 (by decide) (fun kc_2 c_2 => ?_) (fun c_2 => ?_)
    · refine lv_aload_n hx hb dX2_parent_31 rfl (lv_at hl 0 rfl) ?_
      refine lv_aload_n hx hb dX2_parent_32 rfl (lv_at hl 0 rfl) ?_
      refine lv_iload_n hx hb dX2_parent_33 rfl (lv_at hl 1 rfl) ?_
      refine ro_V (As := [.int (nI (k_u))]) (v := (oI (s_par n B k_u))) ⟨hx, hb, hml, hown, hts⟩ (kX2_parentOf l D cI ad th n B P bs k_u hB (by omega)) (cwV 1 hts gX2_parent_X2_parentOf rfl rfl rfl hdX2_parentOf ⟨Nat.le_of_ble_eq_true rfl, Nat.le_of_ble_eq_true rfl⟩) hK hP (ci := 4) rfl (q0 := 0) rfl rfl rfl hl.1 rfl (Nat.le_of_ble_eq_true rfl) dX2_parent_34 ⟨Nat.zero_le _, Nat.zero_le _⟩ ?_
      refine n_top (y := (nI (kc_2))) (by rw [c_2]; rfl) ?_
      refine mo_V (wr := []) (As := [.int (nI (kc_2))]) ⟨hx, hb, hml, hown, hts⟩ (kX2_tells l D cI ad th n B P bs s.heap.size (nI (kc_2)) ) (cwV 1 hts gX2_parent_X2_tells rfl rfl rfl hdX2_tells ⟨Nat.le_of_ble_eq_true rfl, Nat.le_of_ble_eq_true rfl⟩) hK hP hD hS hA (ci := 4) rfl (q0 := 0) rfl rfl rfl hl.1 rfl (Nat.le_of_ble_eq_true rfl) dX2_parent_37 ⟨Nat.zero_le _, Nat.zero_le _⟩ (fun r_3 (u9 : Unit) H locs hw_3 hP hD hS => ?_)
      subst hw_3
      have hP : va_P D vwCl (wM cI ad 0 n B P bs) H := hP
      have hD : va_D A (wM cI ad 0 n B P bs) := hD
      have ew_4 : 0 = ((s_parent n B (nI k_u)).1) := by first | rfl | (simp [oI_s, bI_t, bI_f, s_parent, s_ocode, c_1, hc_k_u, c_2]; done) | (simp [oI_s, bI_t, bI_f, s_parent, s_ocode, c_1, hc_k_u, c_2]; omega) | (simp only [s_parent, s_ocode]; (repeat' split) <;> first | rfl | omega | (simp_all; done) | (simp_all; omega))
      have hP : va_P D vwCl (wM cI ad ((s_parent n B (nI k_u)).1) n B P bs) H := by rw [← ew_4]; exact hP
      have hD : va_D A (wM cI ad ((s_parent n B (nI k_u)).1) n B P bs) := by rw [← ew_4]; exact hD
      exact W.iret (v := (nI (kc_2))) hx hb hr (fun t ht hW => ⟨⟨_, (), rfl, (by first | rfl | (simp [oI_s, bI_t, bI_f, s_parent, s_ocode, c_1, hc_k_u, c_2]; done) | (simp [oI_s, bI_t, bI_f, s_parent, s_ocode, c_1, hc_k_u, c_2]; omega) | (simp only [s_parent, s_ocode]; (repeat' split) <;> first | rfl | omega | (simp_all; done) | (simp_all; omega))), by rw [ht]; exact hP, va_K.moved hW.alike hK, hD⟩, hS.F ht⟩) hS.2.2 dX2_parent_40
    refine lv_aload_n hx hb dX2_parent_23 rfl (lv_at hl 0 rfl) ?_
    refine lv_iconst (v := (nI (2))) hx hb dX2_parent_24 (by decide +kernel) ?_
    refine mo_V (wr := []) (As := [.int (nI (2))]) ⟨hx, hb, hml, hown, hts⟩ (kX2_fails l D cI ad th n B P bs s.heap.size 2 ) (cwV 1 hts gX2_parent_X2_fails rfl rfl rfl hdX2_fails ⟨Nat.le_of_ble_eq_true rfl, Nat.le_of_ble_eq_true rfl⟩) hK hP hD hS hA (ci := 4) rfl (q0 := 0) rfl rfl rfl hl.1 rfl (Nat.le_of_ble_eq_true rfl) dX2_parent_25 ⟨Nat.zero_le _, Nat.zero_le _⟩ (fun r_5 (u9 : Unit) H locs hw_5 hP hD hS => ?_)
    subst hw_5
    have hP : va_P D vwCl (wM cI ad 2 n B P bs) H := hP
    have hD : va_D A (wM cI ad 2 n B P bs) := hD
    refine lv_goto (tgt := 40) hx hb dX2_parent_28 (by decide) ?_
    have ew_6 : 2 = ((s_parent n B (nI k_u)).1) := by first | rfl | (simp [oI_s, bI_t, bI_f, s_parent, s_ocode, c_1, hc_k_u, c_2]; done) | (simp [oI_s, bI_t, bI_f, s_parent, s_ocode, c_1, hc_k_u, c_2]; omega) | (simp only [s_parent, s_ocode]; (repeat' split) <;> first | rfl | omega | (simp_all; done) | (simp_all; omega))
    have hP : va_P D vwCl (wM cI ad ((s_parent n B (nI k_u)).1) n B P bs) H := by rw [← ew_6]; exact hP
    have hD : va_D A (wM cI ad ((s_parent n B (nI k_u)).1) n B P bs) := by rw [← ew_6]; exact hD
    exact W.iret (v := (nI (0))) hx hb hr (fun t ht hW => ⟨⟨_, (), rfl, (by first | rfl | (simp [oI_s, bI_t, bI_f, s_parent, s_ocode, c_1, hc_k_u, c_2]; done) | (simp [oI_s, bI_t, bI_f, s_parent, s_ocode, c_1, hc_k_u, c_2]; omega) | (simp only [s_parent, s_ocode]; (repeat' split) <;> first | rfl | omega | (simp_all; done) | (simp_all; omega))), by rw [ht]; exact hP, va_K.moved hW.alike hK, hD⟩, hS.F ht⟩) hS.2.2 dX2_parent_40
  refine lv_aload_n hx hb dX2_parent_8 rfl (lv_at hl 0 rfl) ?_
  refine lv_iconst (v := (nI (1))) hx hb dX2_parent_9 (by decide +kernel) ?_
  refine mo_V (wr := []) (As := [.int (nI (1))]) ⟨hx, hb, hml, hown, hts⟩ (kX2_fails l D cI ad th n B P bs s.heap.size 1 ) (cwV 1 hts gX2_parent_X2_fails rfl rfl rfl hdX2_fails ⟨Nat.le_of_ble_eq_true rfl, Nat.le_of_ble_eq_true rfl⟩) hK hP hD hS hA (ci := 4) rfl (q0 := 0) rfl rfl rfl hl.1 rfl (Nat.le_of_ble_eq_true rfl) dX2_parent_10 ⟨Nat.zero_le _, Nat.zero_le _⟩ (fun r_7 (u9 : Unit) H locs hw_7 hP hD hS => ?_)
  subst hw_7
  have hP : va_P D vwCl (wM cI ad 1 n B P bs) H := hP
  have hD : va_D A (wM cI ad 1 n B P bs) := hD
  have ew_8 : 1 = ((s_parent n B u).1) := by first | rfl | (simp [oI_s, bI_t, bI_f, s_parent, s_ocode, c_1]; done) | (simp [oI_s, bI_t, bI_f, s_parent, s_ocode, c_1]; omega) | (simp only [s_parent, s_ocode]; (repeat' split) <;> first | rfl | omega | (simp_all; done) | (simp_all; omega))
  have hP : va_P D vwCl (wM cI ad ((s_parent n B u).1) n B P bs) H := by rw [← ew_8]; exact hP
  have hD : va_D A (wM cI ad ((s_parent n B u).1) n B P bs) := by rw [← ew_8]; exact hD
  exact W.iret (v := (nI (0))) hx hb hr (fun t ht hW => ⟨⟨_, (), rfl, (by first | rfl | (simp [oI_s, bI_t, bI_f, s_parent, s_ocode, c_1]; done) | (simp [oI_s, bI_t, bI_f, s_parent, s_ocode, c_1]; omega) | (simp only [s_parent, s_ocode]; (repeat' split) <;> first | rfl | omega | (simp_all; done) | (simp_all; omega))), by rw [ht]; exact hP, va_K.moved hW.alike hK, hD⟩, hS.F ht⟩) hS.2.2 dX2_parent_13
theorem hdX2_parent : yX2_parent.cls = RX2 ∧ yX2_parent.cls ≠ "java/lang/invoke/MethodHandle" ∧ yX2_parent.cls ≠ "java/lang/invoke/VarHandle" ∧ (parseMethodDescriptor yX2_parent.desc).map (fun d => d.parameters.length) = some 1 := by decide +kernel
