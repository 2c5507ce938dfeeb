set_option maxHeartbeats 4000000 in
set_option maxRecDepth 100000 in
theorem kX2_origin (l : Launch) (D : va_G) (cI : ClassId) (ad : Nat → Nat) (th : Nat) (n : Nat) (B : Nat → Nat → Nat) (P : Nat → Option Nat) (bs : Nat → Nat) (u : Nat) (i : Nat) (hB : Bok n B) (hPA : PA n B P) (h_u : u < n) (h_i : i < B 4 u) : Met l yX2_origin wsX2_origin ({ frames := 2, cells := 0, slots := 0, locals := 44 }) (PcR D [(cI, .int)] (wM cI ad th n B P bs) [.ref (ad 0), .int (nI (u)), .int (nI (i))]) (vp_Si (fun r => r = (nI (s_org n B u i)))) 0 0 (fun _ => False) := by
  refine Met.ofW (cc := cX2_origin) (maxL := 5) (ret := (some .int)) (by decide) rfl ?_
  intro p e s m args below meth c s₁ BL hml hv
  obtain ⟨rfl, hP, hK⟩ := hv
  have hx := BL.exec
  have hb := BL.bytes
  have hr := BL.returns
  have hts := atoms_spec (ws := wsX2_origin) BL.pre
  have hown : s.vm.findClass RX2 = some m.cls := findClass_of_methodNamed BL.named
  have hlocks := BL.notSynchronized
  have hin : ∀ w ∈ wsX20, w ∈ wsX2_origin := by decide +kernel
  have hf_31 := hts (.fieldLink RX2 31 "TalkRebuilderModel" "partnerOf" "[I") (by decide +kernel)
  have hl := lv_entry ([.ref (ad 0), .int (nI (u)), .int (nI (i))]) (n := 5) (Nat.le_of_ble_eq_true rfl)
  rw [lg_entry_eq]
  generalize (lg_sl ([.ref (ad 0), .int (nI (u)), .int (nI (i))]) ++ List.replicate (5 - (lg_sl ([.ref (ad 0), .int (nI (u)), .int (nI (i))])).length) Slot.unset).toArray = ls at hl ⊢
  have hl : lv_has ls 5 [(0, .ref (ad 0)), (1, .int (nI (u))), (2, .int (nI (i)))] := hl
  have hn10 := hB.1
  refine lv_iload_n hx hb dX2_origin_0 rfl (lv_at hl 1 rfl) ?_
  refine lv_istore_n (lv' := [(3, .int (nI (u))), (0, .ref (ad 0)), (1, .int (nI (u))), (2, .int (nI (i)))]) hx hb dX2_origin_1 rfl hl (by decide) rfl (fun ls hl => ?_)
  refine lv_iload_n hx hb dX2_origin_2 rfl (lv_at hl 3 rfl) ?_
  refine lv_istore (lv' := [(4, .int (nI (i))), (3, .int (nI (u))), (0, .ref (ad 0)), (1, .int (nI (u))), (2, .int (nI (i)))]) hx hb dX2_origin_3 hl (by decide) rfl (fun ls hl => ?_)
  have loop_5 : ∀ (N : Nat) (z : Nat) (y : Nat) (k : Nat), k < N → (z < n) → (y < B 4 z) → (B 5 (8 * z + y) < k) → (s_or n B 4 u i = s_or n B k z y) → ∀ (ls : Array Slot), lv_has ls 5 [(0, .ref (ad 0)), (1, .int (nI (u))), (2, .int (nI (i))), (3, .int (nI (z))), (4, .int (nI (y)))] → W p l e (headSpec wsX2_origin ({ frames := 2, cells := 0, slots := 0, locals := 44 })).room s m ([.ref (ad 0), .int (nI (u)), .int (nI (i))] : List Value).toArray below meth c s.heap [] 0 0 (MQ below (vp_Si (fun r => r = (nI (s_org n B u i)))) ([.ref (ad 0), .int (nI (u)), .int (nI (i))] : List Value).toArray s 0 0 (fun _ => False)) (F0 m 5 ls []) := by
    intro N
    induction N with
    | zero => intro z y k hmu; exact absurd hmu (Nat.not_lt_zero _)
    | succ N ih_5 =>
      intro z y k hmu_5 h_z h_y h_k h_o ls hl
      have h8 := hB.2.2.1 z
      refine lv_aload_n hx hb dX2_origin_5 rfl (lv_at hl 0 rfl) ?_
      refine va_get (D := D) (ci := 4) (v := .ref (ad 8)) (C := RX2) (T := TX2) (N := 11) hx hb hts hin hown hK hP 0 rfl rfl 9 (by decide) hf_31 (fun _ h9 => h9) rfl dX2_origin_6 ?_
      refine lv_bipush (v := (nI (8))) hx hb dX2_origin_9 (by decide +kernel) ?_
      refine lv_iload_n hx hb dX2_origin_11 rfl (lv_at hl 3 rfl) ?_
      refine lv_imul hx hb dX2_origin_12 ?_
      refine n_top (y := (nI (8 * z))) (pk_mul _ _) ?_
      refine lv_iload hx hb dX2_origin_13 (lv_at hl 4 rfl) ?_
      refine lv_iadd hx hb dX2_origin_15 ?_
      refine n_top (y := (nI (8 * z + y))) (nI_add _ _) ?_
      refine n_iald hx hb hK hP 8 0 rfl rfl (i := 8 * z + y) (by omega) (by decide) dX2_origin_16 ?_
      refine n_top (y := (oI (s_pa n B z y))) (by rw [hPA z y h_z h_y]) ?_
      refine lv_iconst (v := (oI (none))) hx hb dX2_origin_17 (by decide +kernel) ?_
      refine o_eq (tgt := 44) hx hb (s_pa_b hB.2.2.1) dX2_origin_18 (by decide) (fun c_1 => ?_) (fun kc_1 c_1 => ?_)
      · have h_e : s_org n B u i = 8 * z + y := h_o.trans (s_or_none c_1)
        refine lv_bipush (v := (nI (8))) hx hb dX2_origin_44 (by decide +kernel) ?_
        refine lv_iload_n hx hb dX2_origin_46 rfl (lv_at hl 3 rfl) ?_
        refine lv_imul hx hb dX2_origin_47 ?_
        refine n_top (y := (nI (8 * z))) (pk_mul _ _) ?_
        refine lv_iload hx hb dX2_origin_48 (lv_at hl 4 rfl) ?_
        refine lv_iadd hx hb dX2_origin_50 ?_
        refine n_top (y := (nI (8 * z + y))) (nI_add _ _) ?_
        exact W.iret (v := (nI (8 * z + y))) hx hb hr (fun t ht hW => ⟨_, rfl, by first | rfl | (simp [oI_s, bI_t, bI_f, c_1, h_e]; done) | (simp [oI_s, bI_t, bI_f, c_1, h_e]; omega), ht⟩) (fun _ h => nomatch h) dX2_origin_51
      obtain ⟨q1, hq1, hq2, hq3, hq4, -⟩ := s_pa_some c_1
      refine lv_aload_n hx hb dX2_origin_21 rfl (lv_at hl 0 rfl) ?_
      refine va_get (D := D) (ci := 4) (v := .ref (ad 8)) (C := RX2) (T := TX2) (N := 11) hx hb hts hin hown hK hP 0 rfl rfl 9 (by decide) hf_31 (fun _ h9 => h9) rfl dX2_origin_22 ?_
      refine lv_bipush (v := (nI (8))) hx hb dX2_origin_25 (by decide +kernel) ?_
      refine lv_iload_n hx hb dX2_origin_27 rfl (lv_at hl 3 rfl) ?_
      refine lv_imul hx hb dX2_origin_28 ?_
      refine n_top (y := (nI (8 * z))) (pk_mul _ _) ?_
      refine lv_iload hx hb dX2_origin_29 (lv_at hl 4 rfl) ?_
      refine lv_iadd hx hb dX2_origin_31 ?_
      refine n_top (y := (nI (8 * z + y))) (nI_add _ _) ?_
      refine n_iald hx hb hK hP 8 0 rfl rfl (i := 8 * z + y) (by omega) (by decide) dX2_origin_32 ?_
      refine n_top (y := (oI (s_pa n B z y))) (by rw [hPA z y h_z h_y]) ?_
      refine n_top (y := (nI (kc_1))) (by rw [c_1]; rfl) ?_
      refine lv_istore (lv' := [(4, .int (nI (kc_1))), (0, .ref (ad 0)), (1, .int (nI (u))), (2, .int (nI (i))), (3, .int (nI (z)))]) hx hb dX2_origin_33 hl (by decide) rfl (fun ls hl => ?_)
      refine lv_aload_n hx hb dX2_origin_35 rfl (lv_at hl 1 rfl) ?_
      refine lv_iload_n hx hb dX2_origin_36 rfl (lv_at hl 4 rfl) ?_
      refine ro_V (As := [.int (nI (z))]) (v := (oI (s_par n B z))) ⟨hx, hb, hml, hown, hts⟩ (kX2_parentOf l D cI ad th n B P bs z hB (by omega)) (cwV 1 hts gX2_origin_X2_parentOf rfl rfl rfl hdX2_parentOf ⟨Nat.le_of_ble_eq_true rfl, Nat.le_of_ble_eq_true rfl⟩) hK hP (ci := 4) rfl (q0 := 0) rfl rfl rfl hl.1 rfl (Nat.le_of_ble_eq_true rfl) dX2_origin_37 ⟨Nat.zero_le _, Nat.zero_le _⟩ ?_
      refine n_top (y := (nI (q1))) (by rw [hq1]; rfl) ?_
      refine lv_istore_n (lv' := [(3, .int (nI (q1))), (4, .int (nI (kc_1))), (0, .ref (ad 0)), (1, .int (nI (u))), (2, .int (nI (i)))]) hx hb dX2_origin_40 rfl hl (by decide) rfl (fun ls hl => ?_)
      refine lv_goto (tgt := 5) hx hb dX2_origin_41 (by decide) ?_
      exact ih_5 q1 kc_1 (k - 1) (by omega) (by first | assumption | omega) (by first | assumption | omega) (by first | omega | (have := hB.2.2.2.2.2.1 (8 * u + i); omega)) (by first | rfl | exact s_or_step h_o c_1 hq1 (by omega)) _ (show lv_has ls 5 [(0, .ref (ad 0)), (1, .int (nI (u))), (2, .int (nI (i))), (3, .int (nI (q1))), (4, .int (nI (kc_1)))] from by exact lv_sub hl [2, 3, 4, 0, 1] rfl)
  exact loop_5 (4 + 1) u i 4 (by omega) (by first | assumption | omega) (by first | assumption | omega) (by first | omega | (have := hB.2.2.2.2.2.1 (8 * u + i); omega)) (by first | rfl | exact s_or_step h_o  hq1 (by omega)) _ (show lv_has ls 5 [(0, .ref (ad 0)), (1, .int (nI (u))), (2, .int (nI (i))), (3, .int (nI (u))), (4, .int (nI (i)))] from by exact lv_sub hl [2, 3, 4, 1, 0] rfl)
theorem hdX2_origin : yX2_origin.cls = RX2 ∧ yX2_origin.cls ≠ "java/lang/invoke/MethodHandle" ∧ yX2_origin.cls ≠ "java/lang/invoke/VarHandle" ∧ (parseMethodDescriptor yX2_origin.desc).map (fun d => d.parameters.length) = some 2 := by decide +kernel
set_option maxHeartbeats 4000000 in
set_option maxRecDepth 100000 in
theorem kX2_endAlike (l : Launch) (D : va_G) (cI : ClassId) (ad : Nat → Nat) (th : Nat) (n : Nat) (B : Nat → Nat → Nat) (P : Nat → Option Nat) (bs : Nat → Nat) (u : Nat) (w : Nat) (x : Nat) (hB : Bok n B) (h_u : u < n) (h_w : w < n) (h_x : x ≤ 3) : Met l yX2_endAlike wsX2_endAlike ({ frames := 0, cells := 0, slots := 0, locals := 0 }) (PcR D [(cI, .int)] (wM cI ad th n B P bs) [.ref (ad 0), .int (nI (u)), .int (nI (w)), .int (nI (x))]) (vp_Si (fun r => r = (bI (s_ea B u w x)))) 0 0 (fun _ => False) := by
  refine Met.ofW (cc := cX2_endAlike) (maxL := 8) (ret := (some .boolean)) (by decide) rfl ?_
  intro p e s m args below meth c s₁ BL hml hv
  obtain ⟨rfl, hP, hK⟩ := hv
  have hx := BL.exec
  have hb := BL.bytes
  have hr := BL.returns
  have hts := atoms_spec (ws := wsX2_endAlike) BL.pre
  have hown : s.vm.findClass RX2 = some m.cls := findClass_of_methodNamed BL.named
  have hlocks := BL.notSynchronized
  have hin : ∀ w ∈ wsX20, w ∈ wsX2_endAlike := by decide +kernel
  have hf_22 := hts (.fieldLink RX2 22 "TalkRebuilderModel" "many" "[I") (by decide +kernel)
  have hf_25 := hts (.fieldLink RX2 25 "TalkRebuilderModel" "marks" "[I") (by decide +kernel)
  have hf_28 := hts (.fieldLink RX2 28 "TalkRebuilderModel" "words" "[I") (by decide +kernel)
  have hl := lv_entry ([.ref (ad 0), .int (nI (u)), .int (nI (w)), .int (nI (x))]) (n := 8) (Nat.le_of_ble_eq_true rfl)
  rw [lg_entry_eq]
  generalize (lg_sl ([.ref (ad 0), .int (nI (u)), .int (nI (w)), .int (nI (x))]) ++ List.replicate (8 - (lg_sl ([.ref (ad 0), .int (nI (u)), .int (nI (w)), .int (nI (x))])).length) Slot.unset).toArray = ls at hl ⊢
  have hl : lv_has ls 8 [(0, .ref (ad 0)), (1, .int (nI (u))), (2, .int (nI (w))), (3, .int (nI (x)))] := hl
  have hn10 := hB.1
  have h8u := hB.2.2.1 u
  have h8w := hB.2.2.1 w
  have join_25 : ∀ (ls : Array Slot), lv_has ls 8 [(0, .ref (ad 0)), (1, .int (nI (u))), (2, .int (nI (w))), (3, .int (nI (x)))] → W p l e (headSpec wsX2_endAlike ({ frames := 0, cells := 0, slots := 0, locals := 0 })).room s m ([.ref (ad 0), .int (nI (u)), .int (nI (w)), .int (nI (x))] : List Value).toArray below meth c s.heap [] 0 0 (MQ below (vp_Si (fun r => r = (bI (s_ea B u w x)))) ([.ref (ad 0), .int (nI (u)), .int (nI (w)), .int (nI (x))] : List Value).toArray s 0 0 (fun _ => False)) (F0 m 25 ls [.int (bI (decide (x ≤ B 4 u) && decide (x ≤ B 4 w)))]) := by
    intro   ls hl
    refine lv_istore (lv' := [(4, .int (bI (decide (x ≤ B 4 u) && decide (x ≤ B 4 w)))), (0, .ref (ad 0)), (1, .int (nI (u))), (2, .int (nI (w))), (3, .int (nI (x)))]) hx hb dX2_endAlike_25 hl (by decide) rfl (fun ls hl => ?_)
    refine lv_iconst (v := (nI (1))) hx hb dX2_endAlike_27 (by decide +kernel) ?_
    refine lv_istore (lv' := [(5, .int (nI (1))), (4, .int (bI (decide (x ≤ B 4 u) && decide (x ≤ B 4 w)))), (0, .ref (ad 0)), (1, .int (nI (u))), (2, .int (nI (w))), (3, .int (nI (x)))]) hx hb dX2_endAlike_28 hl (by decide) rfl (fun ls hl => ?_)
    have loop_30 : ∀ (N : Nat) (z : Nat), x - z < N → (z ≤ x) → ∀ (ls : Array Slot), lv_has ls 8 [(0, .ref (ad 0)), (1, .int (nI (u))), (2, .int (nI (w))), (3, .int (nI (x))), (4, .int (bI ((decide (x ≤ B 4 u) && decide (x ≤ B 4 w)) && s_eq B u w z))), (5, .int (nI (z + 1)))] → W p l e (headSpec wsX2_endAlike ({ frames := 0, cells := 0, slots := 0, locals := 0 })).room s m ([.ref (ad 0), .int (nI (u)), .int (nI (w)), .int (nI (x))] : List Value).toArray below meth c s.heap [] 0 0 (MQ below (vp_Si (fun r => r = (bI (s_ea B u w x)))) ([.ref (ad 0), .int (nI (u)), .int (nI (w)), .int (nI (x))] : List Value).toArray s 0 0 (fun _ => False)) (F0 m 30 ls []) := by
      intro N
      induction N with
      | zero => intro z hmu; exact absurd hmu (Nat.not_lt_zero _)
      | succ N ih_30 =>
        intro z hmu_30 h_z ls hl
        refine lv_iload hx hb dX2_endAlike_30 (lv_at hl 5 rfl) ?_
        refine lv_iload_n hx hb dX2_endAlike_32 rfl (lv_at hl 3 rfl) ?_
        refine n_gt (tgt := 123) hx hb (by omega) (by omega) dX2_endAlike_33 (by decide) (fun c_1 => ?_) (fun c_1 => ?_)
        · refine lv_iload hx hb dX2_endAlike_123 (lv_at hl 4 rfl) ?_
          exact W.zret (v := (bI ((decide (x ≤ B 4 u) && decide (x ≤ B 4 w)) && s_eq B u w z))) hx hb hr (bI_nar _) (fun t ht hW => ⟨_, rfl, by first | (rw [show z = x from by omega]; rfl) | exact s_ea_fb (by assumption) h_z, ht⟩) (fun _ h => nomatch h) dX2_endAlike_125
        refine lv_iload hx hb dX2_endAlike_36 (lv_at hl 4 rfl) ?_
        refine y_eq (tgt := 123) hx hb dX2_endAlike_38 (by decide) (fun c_2 => ?_) (fun c_2 => ?_)
        · refine lv_iload hx hb dX2_endAlike_123 (lv_at hl 4 rfl) ?_
          exact W.zret (v := (bI ((decide (x ≤ B 4 u) && decide (x ≤ B 4 w)) && s_eq B u w z))) hx hb hr (bI_nar _) (fun t ht hW => ⟨_, rfl, by first | (rw [show z = x from by omega]; rfl) | exact s_ea_fb (by assumption) h_z, ht⟩) (fun _ h => nomatch h) dX2_endAlike_125
        obtain ⟨hd1, hd2, hd3⟩ := s_ea_d c_2
        refine lv_bipush (v := (nI (8))) hx hb dX2_endAlike_41 (by decide +kernel) ?_
        refine lv_iload_n hx hb dX2_endAlike_43 rfl (lv_at hl 1 rfl) ?_
        refine lv_imul hx hb dX2_endAlike_44 ?_
        refine n_top (y := (nI (8 * u))) (pk_mul _ _) ?_
        refine lv_aload_n hx hb dX2_endAlike_45 rfl (lv_at hl 0 rfl) ?_
        refine va_get (D := D) (ci := 4) (v := .ref (ad 5)) (C := RX2) (T := TX2) (N := 11) hx hb hts hin hown hK hP 0 rfl rfl 6 (by decide) hf_22 (fun _ h9 => h9) rfl dX2_endAlike_46 ?_
        refine lv_iload_n hx hb dX2_endAlike_49 rfl (lv_at hl 1 rfl) ?_
        refine n_iald hx hb hK hP 5 0 rfl rfl (i := u) (by omega) (by decide) dX2_endAlike_50 ?_
        have hq_3 := hB.2.2.1 u
        refine lv_iadd hx hb dX2_endAlike_51 ?_
        refine n_top (y := (nI (8 * u + (B 4 u)))) (nI_add _ _) ?_
        refine lv_iload hx hb dX2_endAlike_52 (lv_at hl 5 rfl) ?_
        refine lv_isub hx hb dX2_endAlike_54 ?_
        refine n_top (y := (nI (8 * u + (B 4 u) - (z + 1)))) (pk_sub (by omega)) ?_
        refine lv_istore (lv' := [(6, .int (nI (8 * u + (B 4 u) - (z + 1)))), (0, .ref (ad 0)), (1, .int (nI (u))), (2, .int (nI (w))), (3, .int (nI (x))), (4, .int (bI ((decide (x ≤ B 4 u) && decide (x ≤ B 4 w)) && s_eq B u w z))), (5, .int (nI (z + 1)))]) hx hb dX2_endAlike_55 hl (by decide) rfl (fun ls hl => ?_)
        refine lv_bipush (v := (nI (8))) hx hb dX2_endAlike_57 (by decide +kernel) ?_
        refine lv_iload_n hx hb dX2_endAlike_59 rfl (lv_at hl 3 rfl) ?_
        refine lv_imul hx hb dX2_endAlike_60 ?_
        refine n_top (y := (nI (8 * w))) (pk_mul _ _) ?_
        refine lv_aload_n hx hb dX2_endAlike_61 rfl (lv_at hl 1 rfl) ?_
        refine va_get (D := D) (ci := 4) (v := .ref (ad 5)) (C := RX2) (T := TX2) (N := 11) hx hb hts hin hown hK hP 0 rfl rfl 6 (by decide) hf_22 (fun _ h9 => h9) rfl dX2_endAlike_62 ?_
        refine lv_iload_n hx hb dX2_endAlike_65 rfl (lv_at hl 3 rfl) ?_
        refine n_iald hx hb hK hP 5 0 rfl rfl (i := w) (by omega) (by decide) dX2_endAlike_66 ?_
        have hq_4 := hB.2.2.1 w
        refine lv_iadd hx hb dX2_endAlike_67 ?_
        refine n_top (y := (nI (8 * w + (B 4 w)))) (nI_add _ _) ?_
        refine lv_iload hx hb dX2_endAlike_68 (lv_at hl 6 rfl) ?_
        refine lv_isub hx hb dX2_endAlike_70 ?_
        refine n_top (y := (nI (8 * w + (B 4 w) - (z + 1)))) (pk_sub (by omega)) ?_
        refine lv_istore (lv' := [(7, .int (nI (8 * w + (B 4 w) - (z + 1)))), (6, .int (nI (8 * u + (B 4 u) - (z + 1)))), (0, .ref (ad 0)), (1, .int (nI (u))), (2, .int (nI (w))), (3, .int (nI (x))), (4, .int (bI ((decide (x ≤ B 4 u) && decide (x ≤ B 4 w)) && s_eq B u w z))), (5, .int (nI (z + 1)))]) hx hb dX2_endAlike_71 hl (by decide) rfl (fun ls hl => ?_)
        refine lv_aload_n hx hb dX2_endAlike_73 rfl (lv_at hl 2 rfl) ?_
        refine va_get (D := D) (ci := 4) (v := .ref (ad 6)) (C := RX2) (T := TX2) (N := 11) hx hb hts hin hown hK hP 0 rfl rfl 7 (by decide) hf_25 (fun _ h9 => h9) rfl dX2_endAlike_74 ?_
        refine lv_iload hx hb dX2_endAlike_77 (lv_at hl 1 rfl) ?_
        refine n_iald hx hb hK hP 6 0 rfl rfl (i := 8 * u + (B 4 u) - (z + 1)) (by omega) (by decide) dX2_endAlike_79 ?_
        have hq_5 := hB.2.2.2.2.2.1 (8 * u + (B 4 u) - (z + 1))
        refine z_ne (tgt := 114) hx hb (by omega) dX2_endAlike_80 (by decide) (fun c_6 => ?_) (fun c_6 => ?_)
        · refine lv_iconst (v := (nI (0))) hx hb dX2_endAlike_114 (by decide +kernel) ?_
          refine lv_istore (lv' := [(4, .int (nI (0))), (7, .int (nI (8 * w + (B 4 w) - (z + 1)))), (6, .int (nI (8 * u + (B 4 u) - (z + 1)))), (0, .ref (ad 0)), (1, .int (nI (u))), (2, .int (nI (w))), (3, .int (nI (x))), (5, .int (nI (z + 1)))]) hx hb dX2_endAlike_115 hl (by decide) rfl (fun ls hl => ?_)
          refine lv_iinc (v := (nI (z + 1 + 1))) (lv' := [(5, .int (nI (z + 1 + 1))), (4, .int (nI (0))), (7, .int (nI (8 * w + (B 4 w) - (z + 1)))), (6, .int (nI (8 * u + (B 4 u) - (z + 1)))), (0, .ref (ad 0)), (1, .int (nI (u))), (2, .int (nI (w))), (3, .int (nI (x)))]) hx hb dX2_endAlike_117 hl (k := 7) rfl (nI_1 _) (by decide) rfl (fun ls hl => ?_)
          refine lv_goto (tgt := 30) hx hb dX2_endAlike_120 (by decide) ?_
          have e_7 : ((nI (0)) : Int32) = (bI ((decide (x ≤ B 4 u) && decide (x ≤ B 4 w)) && s_eq B u w (z + 1))) := by first | rfl | (simp [oI_s, bI_t, bI_f, s_eq, s_tl, hd1, hd2, hd3, c_1, c_2, c_6, Nat.not_lt.mp c_1]; done) | (simp [oI_s, bI_t, bI_f, s_eq, s_tl, hd1, hd2, hd3, c_1, c_2, c_6, Nat.not_lt.mp c_1]; omega) | (simp only [s_eq, s_tl, hd1, hd2, hd3]; (repeat' split) <;> first | rfl | omega | (simp_all; done) | (simp_all; omega))
          have e_8 : ((nI (z + 1 + 1)) : Int32) = (nI ((z + 1) + 1)) := by first | rfl | (simp [oI_s, bI_t, bI_f, s_eq, s_tl, hd1, hd2, hd3, c_1, c_2, c_6, Nat.not_lt.mp c_1]; done) | (simp [oI_s, bI_t, bI_f, s_eq, s_tl, hd1, hd2, hd3, c_1, c_2, c_6, Nat.not_lt.mp c_1]; omega) | (simp only [s_eq, s_tl, hd1, hd2, hd3]; (repeat' split) <;> first | rfl | omega | (simp_all; done) | (simp_all; omega))
          exact ih_30 (z + 1) (by omega) (by omega) _ (show lv_has ls 8 [(0, .ref (ad 0)), (1, .int (nI (u))), (2, .int (nI (w))), (3, .int (nI (x))), (4, .int (bI ((decide (x ≤ B 4 u) && decide (x ≤ B 4 w)) && s_eq B u w (z + 1)))), (5, .int (nI ((z + 1) + 1)))] from by rw [← e_7, ← e_8]; exact lv_sub hl [4, 5, 6, 7, 1, 0] rfl)
        refine lv_aload_n hx hb dX2_endAlike_83 rfl (lv_at hl 2 rfl) ?_
        refine va_get (D := D) (ci := 4) (v := .ref (ad 6)) (C := RX2) (T := TX2) (N := 11) hx hb hts hin hown hK hP 0 rfl rfl 7 (by decide) hf_25 (fun _ h9 => h9) rfl dX2_endAlike_84 ?_
        refine lv_iload hx hb dX2_endAlike_87 (lv_at hl 0 rfl) ?_
        refine n_iald hx hb hK hP 6 0 rfl rfl (i := 8 * w + (B 4 w) - (z + 1)) (by omega) (by decide) dX2_endAlike_89 ?_
        have hq_9 := hB.2.2.2.2.2.1 (8 * w + (B 4 w) - (z + 1))
        refine z_ne (tgt := 114) hx hb (by omega) dX2_endAlike_90 (by decide) (fun c_10 => ?_) (fun c_10 => ?_)
        · refine lv_iconst (v := (nI (0))) hx hb dX2_endAlike_114 (by decide +kernel) ?_
          refine lv_istore (lv' := [(4, .int (nI (0))), (7, .int (nI (8 * w + (B 4 w) - (z + 1)))), (6, .int (nI (8 * u + (B 4 u) - (z + 1)))), (0, .ref (ad 0)), (1, .int (nI (u))), (2, .int (nI (w))), (3, .int (nI (x))), (5, .int (nI (z + 1)))]) hx hb dX2_endAlike_115 hl (by decide) rfl (fun ls hl => ?_)
          refine lv_iinc (v := (nI (z + 1 + 1))) (lv' := [(5, .int (nI (z + 1 + 1))), (4, .int (nI (0))), (7, .int (nI (8 * w + (B 4 w) - (z + 1)))), (6, .int (nI (8 * u + (B 4 u) - (z + 1)))), (0, .ref (ad 0)), (1, .int (nI (u))), (2, .int (nI (w))), (3, .int (nI (x)))]) hx hb dX2_endAlike_117 hl (k := 7) rfl (nI_1 _) (by decide) rfl (fun ls hl => ?_)
          refine lv_goto (tgt := 30) hx hb dX2_endAlike_120 (by decide) ?_
          have e_11 : ((nI (0)) : Int32) = (bI ((decide (x ≤ B 4 u) && decide (x ≤ B 4 w)) && s_eq B u w (z + 1))) := by first | rfl | (simp [oI_s, bI_t, bI_f, s_eq, s_tl, hd1, hd2, hd3, c_1, c_2, c_6, c_10, Nat.not_lt.mp c_1]; done) | (simp [oI_s, bI_t, bI_f, s_eq, s_tl, hd1, hd2, hd3, c_1, c_2, c_6, c_10, Nat.not_lt.mp c_1]; omega) | (simp only [s_eq, s_tl, hd1, hd2, hd3]; (repeat' split) <;> first | rfl | omega | (simp_all; done) | (simp_all; omega))
          have e_12 : ((nI (z + 1 + 1)) : Int32) = (nI ((z + 1) + 1)) := by first | rfl | (simp [oI_s, bI_t, bI_f, s_eq, s_tl, hd1, hd2, hd3, c_1, c_2, c_6, c_10, Nat.not_lt.mp c_1]; done) | (simp [oI_s, bI_t, bI_f, s_eq, s_tl, hd1, hd2, hd3, c_1, c_2, c_6, c_10, Nat.not_lt.mp c_1]; omega) | (simp only [s_eq, s_tl, hd1, hd2, hd3]; (repeat' split) <;> first | rfl | omega | (simp_all; done) | (simp_all; omega))
          exact ih_30 (z + 1) (by omega) (by omega) _ (show lv_has ls 8 [(0, .ref (ad 0)), (1, .int (nI (u))), (2, .int (nI (w))), (3, .int (nI (x))), (4, .int (bI ((decide (x ≤ B 4 u) && decide (x ≤ B 4 w)) && s_eq B u w (z + 1)))), (5, .int (nI ((z + 1) + 1)))] from by rw [← e_11, ← e_12]; exact lv_sub hl [4, 5, 6, 7, 1, 0] rfl)
        refine lv_aload_n hx hb dX2_endAlike_93 rfl (lv_at hl 2 rfl) ?_
        refine va_get (D := D) (ci := 4) (v := .ref (ad 7)) (C := RX2) (T := TX2) (N := 11) hx hb hts hin hown hK hP 0 rfl rfl 8 (by decide) hf_28 (fun _ h9 => h9) rfl dX2_endAlike_94 ?_
        refine lv_iload hx hb dX2_endAlike_97 (lv_at hl 1 rfl) ?_
        refine n_iald hx hb hK hP 7 0 rfl rfl (i := 8 * u + (B 4 u) - (z + 1)) (by omega) (by decide) dX2_endAlike_99 ?_
        have hq_13 := hB.2.1 6 (8 * u + (B 4 u) - (z + 1))
        refine lv_aload_n hx hb dX2_endAlike_100 rfl (lv_at hl 2 rfl) ?_
        refine va_get (D := D) (ci := 4) (v := .ref (ad 7)) (C := RX2) (T := TX2) (N := 11) hx hb hts hin hown hK hP 0 rfl rfl 8 (by decide) hf_28 (fun _ h9 => h9) rfl dX2_endAlike_101 ?_
        refine lv_iload hx hb dX2_endAlike_104 (lv_at hl 0 rfl) ?_
        refine n_iald hx hb hK hP 7 0 rfl rfl (i := 8 * w + (B 4 w) - (z + 1)) (by omega) (by decide) dX2_endAlike_106 ?_
        have hq_14 := hB.2.1 6 (8 * w + (B 4 w) - (z + 1))
        refine n_ne (tgt := 114) hx hb (by omega) (by omega) dX2_endAlike_107 (by decide) (fun c_15 => ?_) (fun c_15 => ?_)
        · refine lv_iconst (v := (nI (0))) hx hb dX2_endAlike_114 (by decide +kernel) ?_
          refine lv_istore (lv' := [(4, .int (nI (0))), (7, .int (nI (8 * w + (B 4 w) - (z + 1)))), (6, .int (nI (8 * u + (B 4 u) - (z + 1)))), (0, .ref (ad 0)), (1, .int (nI (u))), (2, .int (nI (w))), (3, .int (nI (x))), (5, .int (nI (z + 1)))]) hx hb dX2_endAlike_115 hl (by decide) rfl (fun ls hl => ?_)
          refine lv_iinc (v := (nI (z + 1 + 1))) (lv' := [(5, .int (nI (z + 1 + 1))), (4, .int (nI (0))), (7, .int (nI (8 * w + (B 4 w) - (z + 1)))), (6, .int (nI (8 * u + (B 4 u) - (z + 1)))), (0, .ref (ad 0)), (1, .int (nI (u))), (2, .int (nI (w))), (3, .int (nI (x)))]) hx hb dX2_endAlike_117 hl (k := 7) rfl (nI_1 _) (by decide) rfl (fun ls hl => ?_)
          refine lv_goto (tgt := 30) hx hb dX2_endAlike_120 (by decide) ?_
          have e_16 : ((nI (0)) : Int32) = (bI ((decide (x ≤ B 4 u) && decide (x ≤ B 4 w)) && s_eq B u w (z + 1))) := by first | rfl | (simp [oI_s, bI_t, bI_f, s_eq, s_tl, hd1, hd2, hd3, c_1, c_2, c_6, c_10, c_15, Nat.not_lt.mp c_1]; done) | (simp [oI_s, bI_t, bI_f, s_eq, s_tl, hd1, hd2, hd3, c_1, c_2, c_6, c_10, c_15, Nat.not_lt.mp c_1]; omega) | (simp only [s_eq, s_tl, hd1, hd2, hd3]; (repeat' split) <;> first | rfl | omega | (simp_all; done) | (simp_all; omega))
          have e_17 : ((nI (z + 1 + 1)) : Int32) = (nI ((z + 1) + 1)) := by first | rfl | (simp [oI_s, bI_t, bI_f, s_eq, s_tl, hd1, hd2, hd3, c_1, c_2, c_6, c_10, c_15, Nat.not_lt.mp c_1]; done) | (simp [oI_s, bI_t, bI_f, s_eq, s_tl, hd1, hd2, hd3, c_1, c_2, c_6, c_10, c_15, Nat.not_lt.mp c_1]; omega) | (simp only [s_eq, s_tl, hd1, hd2, hd3]; (repeat' split) <;> first | rfl | omega | (simp_all; done) | (simp_all; omega))
          exact ih_30 (z + 1) (by omega) (by omega) _ (show lv_has ls 8 [(0, .ref (ad 0)), (1, .int (nI (u))), (2, .int (nI (w))), (3, .int (nI (x))), (4, .int (bI ((decide (x ≤ B 4 u) && decide (x ≤ B 4 w)) && s_eq B u w (z + 1)))), (5, .int (nI ((z + 1) + 1)))] from by rw [← e_16, ← e_17]; exact lv_sub hl [4, 5, 6, 7, 1, 0] rfl)
        refine lv_iconst (v := (nI (1))) hx hb dX2_endAlike_110 (by decide +kernel) ?_
        refine lv_goto (tgt := 115) hx hb dX2_endAlike_111 (by decide) ?_
        refine lv_istore (lv' := [(4, .int (nI (1))), (7, .int (nI (8 * w + (B 4 w) - (z + 1)))), (6, .int (nI (8 * u + (B 4 u) - (z + 1)))), (0, .ref (ad 0)), (1, .int (nI (u))), (2, .int (nI (w))), (3, .int (nI (x))), (5, .int (nI (z + 1)))]) hx hb dX2_endAlike_115 hl (by decide) rfl (fun ls hl => ?_)
        refine lv_iinc (v := (nI (z + 1 + 1))) (lv' := [(5, .int (nI (z + 1 + 1))), (4, .int (nI (1))), (7, .int (nI (8 * w + (B 4 w) - (z + 1)))), (6, .int (nI (8 * u + (B 4 u) - (z + 1)))), (0, .ref (ad 0)), (1, .int (nI (u))), (2, .int (nI (w))), (3, .int (nI (x)))]) hx hb dX2_endAlike_117 hl (k := 7) rfl (nI_1 _) (by decide) rfl (fun ls hl => ?_)
        refine lv_goto (tgt := 30) hx hb dX2_endAlike_120 (by decide) ?_
        have e_18 : ((nI (1)) : Int32) = (bI ((decide (x ≤ B 4 u) && decide (x ≤ B 4 w)) && s_eq B u w (z + 1))) := by first | rfl | (simp [oI_s, bI_t, bI_f, s_eq, s_tl, hd1, hd2, hd3, c_1, c_2, c_6, c_10, c_15, Nat.not_lt.mp c_1]; done) | (simp [oI_s, bI_t, bI_f, s_eq, s_tl, hd1, hd2, hd3, c_1, c_2, c_6, c_10, c_15, Nat.not_lt.mp c_1]; omega) | (simp only [s_eq, s_tl, hd1, hd2, hd3]; (repeat' split) <;> first | rfl | omega | (simp_all; done) | (simp_all; omega))
        have e_19 : ((nI (z + 1 + 1)) : Int32) = (nI ((z + 1) + 1)) := by first | rfl | (simp [oI_s, bI_t, bI_f, s_eq, s_tl, hd1, hd2, hd3, c_1, c_2, c_6, c_10, c_15, Nat.not_lt.mp c_1]; done) | (simp [oI_s, bI_t, bI_f, s_eq, s_tl, hd1, hd2, hd3, c_1, c_2, c_6, c_10, c_15, Nat.not_lt.mp c_1]; omega) | (simp only [s_eq, s_tl, hd1, hd2, hd3]; (repeat' split) <;> first | rfl | omega | (simp_all; done) | (simp_all; omega))
        exact ih_30 (z + 1) (by omega) (by omega) _ (show lv_has ls 8 [(0, .ref (ad 0)), (1, .int (nI (u))), (2, .int (nI (w))), (3, .int (nI (x))), (4, .int (bI ((decide (x ≤ B 4 u) && decide (x ≤ B 4 w)) && s_eq B u w (z + 1)))), (5, .int (nI ((z + 1) + 1)))] from by rw [← e_18, ← e_19]; exact lv_sub hl [4, 5, 6, 7, 1, 0] rfl)
    have e_20 : ((bI (decide (x ≤ B 4 u) && decide (x ≤ B 4 w))) : Int32) = (bI ((decide (x ≤ B 4 u) && decide (x ≤ B 4 w)) && s_eq B u w 0)) := by simp [s_eq]
    have e_21 : ((nI (1)) : Int32) = (nI (0 + 1)) := by simp [s_eq]
    exact loop_30 (x - 0 + 1) 0 (by omega) (by omega) _ (show lv_has ls 8 [(0, .ref (ad 0)), (1, .int (nI (u))), (2, .int (nI (w))), (3, .int (nI (x))), (4, .int (bI ((decide (x ≤ B 4 u) && decide (x ≤ B 4 w)) && s_eq B u w 0))), (5, .int (nI (0 + 1)))] from by rw [← e_20, ← e_21]; exact lv_sub hl [2, 3, 4, 5, 1, 0] rfl)
  refine lv_iload_n hx hb dX2_endAlike_0 rfl (lv_at hl 3 rfl) ?_
  refine lv_aload_n hx hb dX2_endAlike_1 rfl (lv_at hl 0 rfl) ?_
  refine va_get (D := D) (ci := 4) (v := .ref (ad 5)) (C := RX2) (T := TX2) (N := 11) hx hb hts hin hown hK hP 0 rfl rfl 6 (by decide) hf_22 (fun _ h9 => h9) rfl dX2_endAlike_2 ?_
  refine lv_iload_n hx hb dX2_endAlike_5 rfl (lv_at hl 1 rfl) ?_
  refine n_iald hx hb hK hP 5 0 rfl rfl (i := u) (by omega) (by decide) dX2_endAlike_6 ?_
  have hq_22 := hB.2.2.1 u
  refine n_gt (tgt := 24) hx hb (by omega) (by omega) dX2_endAlike_7 (by decide) (fun c_23 => ?_) (fun c_23 => ?_)
  · refine lv_iconst (v := (nI (0))) hx hb dX2_endAlike_24 (by decide +kernel) ?_
    refine n_top (y := (bI (decide (x ≤ B 4 u) && decide (x ≤ B 4 w)))) (by first | rfl | (simp [oI_s, bI_t, bI_f, oI_s, c_23, Nat.not_le.mpr c_23]; done) | (simp [oI_s, bI_t, bI_f, oI_s, c_23, Nat.not_le.mpr c_23]; omega) | (simp only [oI_s]; (repeat' split) <;> first | rfl | omega | (simp_all; done) | (simp_all; omega))) ?_
    exact join_25   _ (show lv_has ls 8 [(0, .ref (ad 0)), (1, .int (nI (u))), (2, .int (nI (w))), (3, .int (nI (x)))] from by exact lv_sub hl [0, 1, 2, 3] rfl)
  refine lv_iload_n hx hb dX2_endAlike_10 rfl (lv_at hl 3 rfl) ?_
  refine lv_aload_n hx hb dX2_endAlike_11 rfl (lv_at hl 0 rfl) ?_
  refine va_get (D := D) (ci := 4) (v := .ref (ad 5)) (C := RX2) (T := TX2) (N := 11) hx hb hts hin hown hK hP 0 rfl rfl 6 (by decide) hf_22 (fun _ h9 => h9) rfl dX2_endAlike_12 ?_
  refine lv_iload_n hx hb dX2_endAlike_15 rfl (lv_at hl 2 rfl) ?_
  refine n_iald hx hb hK hP 5 0 rfl rfl (i := w) (by omega) (by decide) dX2_endAlike_16 ?_
  have hq_24 := hB.2.2.1 w
  refine n_gt (tgt := 24) hx hb (by omega) (by omega) dX2_endAlike_17 (by decide) (fun c_25 => ?_) (fun c_25 => ?_)
  · refine lv_iconst (v := (nI (0))) hx hb dX2_endAlike_24 (by decide +kernel) ?_
    refine n_top (y := (bI (decide (x ≤ B 4 u) && decide (x ≤ B 4 w)))) (by first | rfl | (simp [oI_s, bI_t, bI_f, oI_s, c_23, c_25, Nat.not_lt.mp c_23, Nat.not_le.mpr c_25]; done) | (simp [oI_s, bI_t, bI_f, oI_s, c_23, c_25, Nat.not_lt.mp c_23, Nat.not_le.mpr c_25]; omega) | (simp only [oI_s]; (repeat' split) <;> first | rfl | omega | (simp_all; done) | (simp_all; omega))) ?_
    exact join_25   _ (show lv_has ls 8 [(0, .ref (ad 0)), (1, .int (nI (u))), (2, .int (nI (w))), (3, .int (nI (x)))] from by exact lv_sub hl [0, 1, 2, 3] rfl)
  refine lv_iconst (v := (nI (1))) hx hb dX2_endAlike_20 (by decide +kernel) ?_
  refine lv_goto (tgt := 25) hx hb dX2_endAlike_21 (by decide) ?_
  refine n_top (y := (bI (decide (x ≤ B 4 u) && decide (x ≤ B 4 w)))) (by first | rfl | (simp [oI_s, bI_t, bI_f, oI_s, c_23, c_25, Nat.not_lt.mp c_23, Nat.not_lt.mp c_25]; done) | (simp [oI_s, bI_t, bI_f, oI_s, c_23, c_25, Nat.not_lt.mp c_23, Nat.not_lt.mp c_25]; omega) | (simp only [oI_s]; (repeat' split) <;> first | rfl | omega | (simp_all; done) | (simp_all; omega))) ?_
  exact join_25   _ (show lv_has ls 8 [(0, .ref (ad 0)), (1, .int (nI (u))), (2, .int (nI (w))), (3, .int (nI (x)))] from by exact lv_sub hl [0, 1, 2, 3] rfl)
theorem hdX2_endAlike : yX2_endAlike.cls = RX2 ∧ yX2_endAlike.cls ≠ "java/lang/invoke/MethodHandle" ∧ yX2_endAlike.cls ≠ "java/lang/invoke/VarHandle" ∧ (parseMethodDescriptor yX2_endAlike.desc).map (fun d => d.parameters.length) = some 3 := by decide +kernel
set_option maxHeartbeats 4000000 in
set_option maxRecDepth 100000 in
theorem kX2_signed (l : Launch) (D : va_G) (cI : ClassId) (ad : Nat → Nat) (th : Nat) (n : Nat) (B : Nat → Nat → Nat) (P : Nat → Option Nat) (bs : Nat → Nat) (u : Nat) (hB : Bok n B) (h_u : u < n) : Met l yX2_signed wsX2_signed ({ frames := 1, cells := 0, slots := 0, locals := 27 }) (PcR D [(cI, .int)] (wM cI ad th n B P bs) [.ref (ad 0), .int (nI (u))]) (vp_Si (fun r => r = (nI (s_sig n B u)))) 0 0 (fun _ => False) := by
  refine Met.ofW (cc := cX2_signed) (maxL := 5) (ret := (some .int)) (by decide) rfl ?_
  intro p e s m args below meth c s₁ BL hml hv
  obtain ⟨rfl, hP, hK⟩ := hv
  have hx := BL.exec
  have hb := BL.bytes
  have hr := BL.returns
  have hts := atoms_spec (ws := wsX2_signed) BL.pre
  have hown : s.vm.findClass RX2 = some m.cls := findClass_of_methodNamed BL.named
  have hlocks := BL.notSynchronized
  have hin : ∀ w ∈ wsX20, w ∈ wsX2_signed := by decide +kernel
  have hf_13 := hts (.fieldLink RX2 13 "TalkRebuilderModel" "author" "[I") (by decide +kernel)
  have hf_41 := hts (.fieldLink RX2 41 "TalkRebuilderModel" "mails" "I") (by decide +kernel)
  have hl := lv_entry ([.ref (ad 0), .int (nI (u))]) (n := 5) (Nat.le_of_ble_eq_true rfl)
  rw [lg_entry_eq]
  generalize (lg_sl ([.ref (ad 0), .int (nI (u))]) ++ List.replicate (5 - (lg_sl ([.ref (ad 0), .int (nI (u))])).length) Slot.unset).toArray = ls at hl ⊢
  have hl : lv_has ls 5 [(0, .ref (ad 0)), (1, .int (nI (u)))] := hl
  have hn10 := hB.1
  refine lv_iconst (v := (nI (0))) hx hb dX2_signed_0 (by decide +kernel) ?_
  refine lv_istore_n (lv' := [(2, .int (nI (0))), (0, .ref (ad 0)), (1, .int (nI (u)))]) hx hb dX2_signed_1 rfl hl (by decide) rfl (fun ls hl => ?_)
  refine lv_iconst (v := (nI (1))) hx hb dX2_signed_2 (by decide +kernel) ?_
  refine lv_istore_n (lv' := [(3, .int (nI (1))), (2, .int (nI (0))), (0, .ref (ad 0)), (1, .int (nI (u)))]) hx hb dX2_signed_3 rfl hl (by decide) rfl (fun ls hl => ?_)
  have loop_4 : ∀ (N : Nat) (z : Nat), 3 - z < N → (z ≤ 3) → ∀ (ls : Array Slot), lv_has ls 5 [(0, .ref (ad 0)), (1, .int (nI (u))), (2, .int (nI (s_sgN n B u z))), (3, .int (nI (z + 1)))] → W p l e (headSpec wsX2_signed ({ frames := 1, cells := 0, slots := 0, locals := 27 })).room s m ([.ref (ad 0), .int (nI (u))] : List Value).toArray below meth c s.heap [] 0 0 (MQ below (vp_Si (fun r => r = (nI (s_sig n B u)))) ([.ref (ad 0), .int (nI (u))] : List Value).toArray s 0 0 (fun _ => False)) (F0 m 4 ls []) := by
    intro N
    induction N with
    | zero => intro z hmu; exact absurd hmu (Nat.not_lt_zero _)
    | succ N ih_4 =>
      intro z hmu_4 h_z ls hl
      refine lv_iload_n hx hb dX2_signed_4 rfl (lv_at hl 3 rfl) ?_
      refine lv_iconst (v := (nI (3))) hx hb dX2_signed_5 (by decide +kernel) ?_
      refine n_gt (tgt := 68) hx hb (by omega) (by omega) dX2_signed_6 (by decide) (fun c_1 => ?_) (fun c_1 => ?_)
      · have hz3 : z = 3 := by omega
        refine lv_iload_n hx hb dX2_signed_68 rfl (lv_at hl 2 rfl) ?_
        exact W.iret (v := (nI (s_sgN n B u z))) hx hb hr (fun t ht hW => ⟨_, rfl, by first | rfl | (simp [oI_s, bI_t, bI_f, s_sig, c_1, hz3, Nat.not_le.mpr c_1]; done) | (simp [oI_s, bI_t, bI_f, s_sig, c_1, hz3, Nat.not_le.mpr c_1]; omega) | (simp only [s_sig]; (repeat' split) <;> first | rfl | omega | (simp_all; done) | (simp_all; omega)), ht⟩) (fun _ h => nomatch h) dX2_signed_69
      refine lv_iconst (v := (nI (0))) hx hb dX2_signed_9 (by decide +kernel) ?_
      refine lv_istore (lv' := [(4, .int (nI (0))), (0, .ref (ad 0)), (1, .int (nI (u))), (2, .int (nI (s_sgN n B u z))), (3, .int (nI (z + 1)))]) hx hb dX2_signed_10 hl (by decide) rfl (fun ls hl => ?_)
      have loop_12 : ∀ (N : Nat) (y : Nat), n - y < N → (y ≤ n) → ∀ (ls : Array Slot), lv_has ls 5 [(0, .ref (ad 0)), (1, .int (nI (u))), (2, .int (nI (if an (s_sgp B u (z + 1)) y then z + 1 else s_sgN n B u z))), (3, .int (nI (z + 1))), (4, .int (nI (y)))] → W p l e (headSpec wsX2_signed ({ frames := 1, cells := 0, slots := 0, locals := 27 })).room s m ([.ref (ad 0), .int (nI (u))] : List Value).toArray below meth c s.heap [] 0 0 (MQ below (vp_Si (fun r => r = (nI (s_sig n B u)))) ([.ref (ad 0), .int (nI (u))] : List Value).toArray s 0 0 (fun _ => False)) (F0 m 12 ls []) := by
        intro N
        induction N with
        | zero => intro y hmu; exact absurd hmu (Nat.not_lt_zero _)
        | succ N ih_12 =>
          intro y hmu_12 h_y ls hl
          refine lv_iload hx hb dX2_signed_12 (lv_at hl 4 rfl) ?_
          refine lv_aload_n hx hb dX2_signed_14 rfl (lv_at hl 0 rfl) ?_
          refine va_get (D := D) (ci := 4) (v := .int (nI (n))) (C := RX2) (T := TX2) (N := 11) hx hb hts hin hown hK hP 0 rfl rfl 1 (by decide) hf_41 (fun _ h9 => h9) rfl dX2_signed_15 ?_
          refine n_ge (tgt := 62) hx hb (by omega) (by omega) dX2_signed_18 (by decide) (fun c_2 => ?_) (fun c_2 => ?_)
          · have hyn : n = y := by omega
            refine lv_iinc (v := (nI (z + 1 + 1))) (lv' := [(3, .int (nI (z + 1 + 1))), (0, .ref (ad 0)), (1, .int (nI (u))), (2, .int (nI (if an (s_sgp B u (z + 1)) y then z + 1 else s_sgN n B u z))), (4, .int (nI (y)))]) hx hb dX2_signed_62 hl (k := 3) rfl (nI_1 _) (by decide) rfl (fun ls hl => ?_)
            refine lv_goto (tgt := 4) hx hb dX2_signed_65 (by decide) ?_
            have e_3 : ((nI (if an (s_sgp B u (z + 1)) y then z + 1 else s_sgN n B u z)) : Int32) = (nI (s_sgN n B u (z + 1))) := by first | rfl | (simp [oI_s, bI_t, bI_f, s_sgN, c_1, c_2, hyn, Nat.not_lt.mp c_1, Nat.not_lt.mpr c_2]; done) | (simp [oI_s, bI_t, bI_f, s_sgN, c_1, c_2, hyn, Nat.not_lt.mp c_1, Nat.not_lt.mpr c_2]; omega) | (simp only [s_sgN]; (repeat' split) <;> first | rfl | omega | (simp_all; done) | (simp_all; omega))
            have e_4 : ((nI (z + 1 + 1)) : Int32) = (nI ((z + 1) + 1)) := by first | rfl | (simp [oI_s, bI_t, bI_f, s_sgN, c_1, c_2, hyn, Nat.not_lt.mp c_1, Nat.not_lt.mpr c_2]; done) | (simp [oI_s, bI_t, bI_f, s_sgN, c_1, c_2, hyn, Nat.not_lt.mp c_1, Nat.not_lt.mpr c_2]; omega) | (simp only [s_sgN]; (repeat' split) <;> first | rfl | omega | (simp_all; done) | (simp_all; omega))
            exact ih_4 (z + 1) (by omega) (by omega) _ (show lv_has ls 5 [(0, .ref (ad 0)), (1, .int (nI (u))), (2, .int (nI (s_sgN n B u (z + 1)))), (3, .int (nI ((z + 1) + 1)))] from by rw [← e_3, ← e_4]; exact lv_sub hl [1, 2, 3, 0] rfl)
          refine lv_iload hx hb dX2_signed_21 (lv_at hl 4 rfl) ?_
          refine lv_iload_n hx hb dX2_signed_23 rfl (lv_at hl 1 rfl) ?_
          refine n_eq (tgt := 56) hx hb (by omega) (by omega) dX2_signed_24 (by decide) (fun c_5 => ?_) (fun c_5 => ?_)
          · refine lv_iinc (v := (nI (y + 1))) (lv' := [(4, .int (nI (y + 1))), (0, .ref (ad 0)), (1, .int (nI (u))), (2, .int (nI (if an (s_sgp B u (z + 1)) y then z + 1 else s_sgN n B u z))), (3, .int (nI (z + 1)))]) hx hb dX2_signed_56 hl (k := 4) rfl (nI_1 _) (by decide) rfl (fun ls hl => ?_)
            refine lv_goto (tgt := 12) hx hb dX2_signed_59 (by decide) ?_
            have e_6 : ((nI (if an (s_sgp B u (z + 1)) y then z + 1 else s_sgN n B u z)) : Int32) = (nI (if an (s_sgp B u (z + 1)) (y + 1) then z + 1 else s_sgN n B u z)) := by first | rfl | (simp [oI_s, bI_t, bI_f, an, s_sgp, c_1, c_2, c_5, Nat.not_lt.mp c_1, Nat.not_le.mp c_2]; done) | (simp [oI_s, bI_t, bI_f, an, s_sgp, c_1, c_2, c_5, Nat.not_lt.mp c_1, Nat.not_le.mp c_2]; omega) | (simp only [an, s_sgp]; (repeat' split) <;> first | rfl | omega | (simp_all; done) | (simp_all; omega))
            exact ih_12 (y + 1) (by omega) (by omega) _ (show lv_has ls 5 [(0, .ref (ad 0)), (1, .int (nI (u))), (2, .int (nI (if an (s_sgp B u (z + 1)) (y + 1) then z + 1 else s_sgN n B u z))), (3, .int (nI (z + 1))), (4, .int (nI (y + 1)))] from by rw [← e_6]; exact lv_sub hl [1, 2, 3, 4, 0] rfl)
          refine lv_aload_n hx hb dX2_signed_27 rfl (lv_at hl 0 rfl) ?_
          refine va_get (D := D) (ci := 4) (v := .ref (ad 2)) (C := RX2) (T := TX2) (N := 11) hx hb hts hin hown hK hP 0 rfl rfl 3 (by decide) hf_13 (fun _ h9 => h9) rfl dX2_signed_28 ?_
          refine lv_iload hx hb dX2_signed_31 (lv_at hl 4 rfl) ?_
          refine n_iald hx hb hK hP 2 0 rfl rfl (i := y) (by omega) (by decide) dX2_signed_33 ?_
          have hq_7 := hB.2.1 1 y
          refine lv_aload_n hx hb dX2_signed_34 rfl (lv_at hl 0 rfl) ?_
          refine va_get (D := D) (ci := 4) (v := .ref (ad 2)) (C := RX2) (T := TX2) (N := 11) hx hb hts hin hown hK hP 0 rfl rfl 3 (by decide) hf_13 (fun _ h9 => h9) rfl dX2_signed_35 ?_
          refine lv_iload_n hx hb dX2_signed_38 rfl (lv_at hl 1 rfl) ?_
          refine n_iald hx hb hK hP 2 0 rfl rfl (i := u) (by omega) (by decide) dX2_signed_39 ?_
          have hq_8 := hB.2.1 1 u
          refine n_ne (tgt := 56) hx hb (by omega) (by omega) dX2_signed_40 (by decide) (fun c_9 => ?_) (fun c_9 => ?_)
          · refine lv_iinc (v := (nI (y + 1))) (lv' := [(4, .int (nI (y + 1))), (0, .ref (ad 0)), (1, .int (nI (u))), (2, .int (nI (if an (s_sgp B u (z + 1)) y then z + 1 else s_sgN n B u z))), (3, .int (nI (z + 1)))]) hx hb dX2_signed_56 hl (k := 4) rfl (nI_1 _) (by decide) rfl (fun ls hl => ?_)
            refine lv_goto (tgt := 12) hx hb dX2_signed_59 (by decide) ?_
            have e_10 : ((nI (if an (s_sgp B u (z + 1)) y then z + 1 else s_sgN n B u z)) : Int32) = (nI (if an (s_sgp B u (z + 1)) (y + 1) then z + 1 else s_sgN n B u z)) := by first | rfl | (simp [oI_s, bI_t, bI_f, an, s_sgp, c_1, c_2, c_5, c_9, Nat.not_lt.mp c_1, Nat.not_le.mp c_2]; done) | (simp [oI_s, bI_t, bI_f, an, s_sgp, c_1, c_2, c_5, c_9, Nat.not_lt.mp c_1, Nat.not_le.mp c_2]; omega) | (simp only [an, s_sgp]; (repeat' split) <;> first | rfl | omega | (simp_all; done) | (simp_all; omega))
            exact ih_12 (y + 1) (by omega) (by omega) _ (show lv_has ls 5 [(0, .ref (ad 0)), (1, .int (nI (u))), (2, .int (nI (if an (s_sgp B u (z + 1)) (y + 1) then z + 1 else s_sgN n B u z))), (3, .int (nI (z + 1))), (4, .int (nI (y + 1)))] from by rw [← e_10]; exact lv_sub hl [1, 2, 3, 4, 0] rfl)
          refine lv_aload_n hx hb dX2_signed_43 rfl (lv_at hl 0 rfl) ?_
          refine lv_iload_n hx hb dX2_signed_44 rfl (lv_at hl 1 rfl) ?_
          refine lv_iload hx hb dX2_signed_45 (lv_at hl 4 rfl) ?_
          refine lv_iload_n hx hb dX2_signed_47 rfl (lv_at hl 3 rfl) ?_
          refine ro_V (As := [.int (nI (u)), .int (nI (y)), .int (nI (z + 1))]) (v := (bI (s_ea B u y (z + 1)))) ⟨hx, hb, hml, hown, hts⟩ (kX2_endAlike l D cI ad th n B P bs u y (z + 1) hB h_u (by omega) (by omega)) (cwV 3 hts gX2_signed_X2_endAlike rfl rfl rfl hdX2_endAlike ⟨Nat.le_of_ble_eq_true rfl, Nat.le_of_ble_eq_true rfl⟩) hK hP (ci := 4) rfl (q0 := 0) rfl rfl rfl hl.1 rfl (Nat.le_of_ble_eq_true rfl) dX2_signed_48 ⟨Nat.zero_le _, Nat.zero_le _⟩ ?_
          refine y_eq (tgt := 56) hx hb dX2_signed_51 (by decide) (fun c_11 => ?_) (fun c_11 => ?_)
          · refine lv_iinc (v := (nI (y + 1))) (lv' := [(4, .int (nI (y + 1))), (0, .ref (ad 0)), (1, .int (nI (u))), (2, .int (nI (if an (s_sgp B u (z + 1)) y then z + 1 else s_sgN n B u z))), (3, .int (nI (z + 1)))]) hx hb dX2_signed_56 hl (k := 4) rfl (nI_1 _) (by decide) rfl (fun ls hl => ?_)
            refine lv_goto (tgt := 12) hx hb dX2_signed_59 (by decide) ?_
            have e_12 : ((nI (if an (s_sgp B u (z + 1)) y then z + 1 else s_sgN n B u z)) : Int32) = (nI (if an (s_sgp B u (z + 1)) (y + 1) then z + 1 else s_sgN n B u z)) := by first | rfl | (simp [oI_s, bI_t, bI_f, an, s_sgp, c_1, c_2, c_5, c_9, c_11, Nat.not_lt.mp c_1, Nat.not_le.mp c_2]; done) | (simp [oI_s, bI_t, bI_f, an, s_sgp, c_1, c_2, c_5, c_9, c_11, Nat.not_lt.mp c_1, Nat.not_le.mp c_2]; omega) | (simp only [an, s_sgp]; (repeat' split) <;> first | rfl | omega | (simp_all; done) | (simp_all; omega))
            exact ih_12 (y + 1) (by omega) (by omega) _ (show lv_has ls 5 [(0, .ref (ad 0)), (1, .int (nI (u))), (2, .int (nI (if an (s_sgp B u (z + 1)) (y + 1) then z + 1 else s_sgN n B u z))), (3, .int (nI (z + 1))), (4, .int (nI (y + 1)))] from by rw [← e_12]; exact lv_sub hl [1, 2, 3, 4, 0] rfl)
          refine lv_iload_n hx hb dX2_signed_54 rfl (lv_at hl 3 rfl) ?_
          refine lv_istore_n (lv' := [(2, .int (nI (z + 1))), (0, .ref (ad 0)), (1, .int (nI (u))), (3, .int (nI (z + 1))), (4, .int (nI (y)))]) hx hb dX2_signed_55 rfl hl (by decide) rfl (fun ls hl => ?_)
          refine lv_iinc (v := (nI (y + 1))) (lv' := [(4, .int (nI (y + 1))), (2, .int (nI (z + 1))), (0, .ref (ad 0)), (1, .int (nI (u))), (3, .int (nI (z + 1)))]) hx hb dX2_signed_56 hl (k := 4) rfl (nI_1 _) (by decide) rfl (fun ls hl => ?_)
          refine lv_goto (tgt := 12) hx hb dX2_signed_59 (by decide) ?_
          have e_13 : ((nI (z + 1)) : Int32) = (nI (if an (s_sgp B u (z + 1)) (y + 1) then z + 1 else s_sgN n B u z)) := by first | rfl | (simp [oI_s, bI_t, bI_f, an, s_sgp, c_1, c_2, c_5, c_9, c_11, Nat.not_lt.mp c_1, Nat.not_le.mp c_2]; done) | (simp [oI_s, bI_t, bI_f, an, s_sgp, c_1, c_2, c_5, c_9, c_11, Nat.not_lt.mp c_1, Nat.not_le.mp c_2]; omega) | (simp only [an, s_sgp]; (repeat' split) <;> first | rfl | omega | (simp_all; done) | (simp_all; omega))
          exact ih_12 (y + 1) (by omega) (by omega) _ (show lv_has ls 5 [(0, .ref (ad 0)), (1, .int (nI (u))), (2, .int (nI (if an (s_sgp B u (z + 1)) (y + 1) then z + 1 else s_sgN n B u z))), (3, .int (nI (z + 1))), (4, .int (nI (y + 1)))] from by rw [← e_13]; exact lv_sub hl [2, 3, 1, 4, 0] rfl)
      have e_14 : ((nI (s_sgN n B u z)) : Int32) = (nI (if an (s_sgp B u (z + 1)) 0 then z + 1 else s_sgN n B u z)) := by first | rfl | (simp [oI_s, bI_t, bI_f, an, s_sgp, c_1, Nat.not_lt.mp c_1]; done) | (simp [oI_s, bI_t, bI_f, an, s_sgp, c_1, Nat.not_lt.mp c_1]; omega) | (simp only [an, s_sgp]; (repeat' split) <;> first | rfl | omega | (simp_all; done) | (simp_all; omega))
      exact loop_12 (n - 0 + 1) 0 (by omega) (by omega) _ (show lv_has ls 5 [(0, .ref (ad 0)), (1, .int (nI (u))), (2, .int (nI (if an (s_sgp B u (z + 1)) 0 then z + 1 else s_sgN n B u z))), (3, .int (nI (z + 1))), (4, .int (nI (0)))] from by rw [← e_14]; exact lv_sub hl [1, 2, 3, 4, 0] rfl)
  have e_15 : ((nI (0)) : Int32) = (nI (s_sgN n B u 0)) := by first | rfl | (simp [oI_s, bI_t, bI_f, s_sgN]; done) | (simp [oI_s, bI_t, bI_f, s_sgN]; omega) | (simp only [s_sgN]; (repeat' split) <;> first | rfl | omega | (simp_all; done) | (simp_all; omega))
  have e_16 : ((nI (1)) : Int32) = (nI (0 + 1)) := by first | rfl | (simp [oI_s, bI_t, bI_f, s_sgN]; done) | (simp [oI_s, bI_t, bI_f, s_sgN]; omega) | (simp only [s_sgN]; (repeat' split) <;> first | rfl | omega | (simp_all; done) | (simp_all; omega))
  exact loop_4 (3 - 0 + 1) 0 (by omega) (by omega) _ (show lv_has ls 5 [(0, .ref (ad 0)), (1, .int (nI (u))), (2, .int (nI (s_sgN n B u 0))), (3, .int (nI (0 + 1)))] from by rw [← e_15, ← e_16]; exact lv_sub hl [2, 3, 1, 0] rfl)
theorem hdX2_signed : yX2_signed.cls = RX2 ∧ yX2_signed.cls ≠ "java/lang/invoke/MethodHandle" ∧ yX2_signed.cls ≠ "java/lang/invoke/VarHandle" ∧ (parseMethodDescriptor yX2_signed.desc).map (fun d => d.parameters.length) = some 1 := by decide +kernel
set_option maxHeartbeats 4000000 in
set_option maxRecDepth 100000 in
theorem kX2_stoodBefore (l : Launch) (D : va_G) (cI : ClassId) (ad : Nat → Nat) (th : Nat) (n : Nat) (B : Nat → Nat → Nat) (P : Nat → Option Nat) (bs : Nat → Nat) (u : Nat) (i : Nat) (hB : Bok n B) (h_u : u < n) (h_i : i < B 4 u) : Met l yX2_stoodBefore wsX2_stoodBefore ({ frames := 0, cells := 0, slots := 0, locals := 0 }) (PcR D [(cI, .int)] (wM cI ad th n B P bs) [.ref (ad 0), .int (nI (u)), .int (nI (i))]) (vp_Si (fun r => r = (bI (s_sb n B u i)))) 0 0 (fun _ => False) := by
  refine Met.ofW (cc := cX2_stoodBefore) (maxL := 7) (ret := (some .boolean)) (by decide) rfl ?_
  intro p e s m args below meth c s₁ BL hml hv
  obtain ⟨rfl, hP, hK⟩ := hv
  have hx := BL.exec
  have hb := BL.bytes
  have hr := BL.returns
  have hts := atoms_spec (ws := wsX2_stoodBefore) BL.pre
  have hown : s.vm.findClass RX2 = some m.cls := findClass_of_methodNamed BL.named
  have hlocks := BL.notSynchronized
  have hin : ∀ w ∈ wsX20, w ∈ wsX2_stoodBefore := by decide +kernel
  have hf_7 := hts (.fieldLink RX2 7 "TalkRebuilderModel" "date" "[I") (by decide +kernel)
  have hf_19 := hts (.fieldLink RX2 19 "TalkRebuilderModel" "answered" "[I") (by decide +kernel)
  have hf_22 := hts (.fieldLink RX2 22 "TalkRebuilderModel" "many" "[I") (by decide +kernel)
  have hf_25 := hts (.fieldLink RX2 25 "TalkRebuilderModel" "marks" "[I") (by decide +kernel)
  have hf_28 := hts (.fieldLink RX2 28 "TalkRebuilderModel" "words" "[I") (by decide +kernel)
  have hf_41 := hts (.fieldLink RX2 41 "TalkRebuilderModel" "mails" "I") (by decide +kernel)
  have hl := lv_entry ([.ref (ad 0), .int (nI (u)), .int (nI (i))]) (n := 7) (Nat.le_of_ble_eq_true rfl)
  rw [lg_entry_eq]
  generalize (lg_sl ([.ref (ad 0), .int (nI (u)), .int (nI (i))]) ++ List.replicate (7 - (lg_sl ([.ref (ad 0), .int (nI (u)), .int (nI (i))])).length) Slot.unset).toArray = ls at hl ⊢
  have hl : lv_has ls 7 [(0, .ref (ad 0)), (1, .int (nI (u))), (2, .int (nI (i)))] := hl
  have hn10 := hB.1
  have h8u := hB.2.2.1 u
  refine lv_iconst (v := (nI (0))) hx hb dX2_stoodBefore_0 (by decide +kernel) ?_
  refine lv_istore_n (lv' := [(3, .int (nI (0))), (0, .ref (ad 0)), (1, .int (nI (u))), (2, .int (nI (i)))]) hx hb dX2_stoodBefore_1 rfl hl (by decide) rfl (fun ls hl => ?_)
  refine lv_iconst (v := (nI (0))) hx hb dX2_stoodBefore_2 (by decide +kernel) ?_
  refine lv_istore (lv' := [(4, .int (nI (0))), (3, .int (nI (0))), (0, .ref (ad 0)), (1, .int (nI (u))), (2, .int (nI (i)))]) hx hb dX2_stoodBefore_3 hl (by decide) rfl (fun ls hl => ?_)
  have loop_5 : ∀ (N : Nat) (z : Nat), n - z < N → (z ≤ n) → ∀ (ls : Array Slot), lv_has ls 7 [(0, .ref (ad 0)), (1, .int (nI (u))), (2, .int (nI (i))), (3, .int (bI (an (s_sbm B u i) z))), (4, .int (nI (z)))] → W p l e (headSpec wsX2_stoodBefore ({ frames := 0, cells := 0, slots := 0, locals := 0 })).room s m ([.ref (ad 0), .int (nI (u)), .int (nI (i))] : List Value).toArray below meth c s.heap [] 0 0 (MQ below (vp_Si (fun r => r = (bI (s_sb n B u i)))) ([.ref (ad 0), .int (nI (u)), .int (nI (i))] : List Value).toArray s 0 0 (fun _ => False)) (F0 m 5 ls []) := by
    intro N
    induction N with
    | zero => intro z hmu; exact absurd hmu (Nat.not_lt_zero _)
    | succ N ih_5 =>
      intro z hmu_5 h_z ls hl
      refine lv_iload hx hb dX2_stoodBefore_5 (lv_at hl 4 rfl) ?_
      refine lv_aload_n hx hb dX2_stoodBefore_7 rfl (lv_at hl 0 rfl) ?_
      refine va_get (D := D) (ci := 4) (v := .int (nI (n))) (C := RX2) (T := TX2) (N := 11) hx hb hts hin hown hK hP 0 rfl rfl 1 (by decide) hf_41 (fun _ h9 => h9) rfl dX2_stoodBefore_8 ?_
      refine n_ge (tgt := 144) hx hb (by omega) (by omega) dX2_stoodBefore_11 (by decide) (fun c_1 => ?_) (fun c_1 => ?_)
      · have hzn : n = z := by omega
        refine lv_iload_n hx hb dX2_stoodBefore_144 rfl (lv_at hl 3 rfl) ?_
        exact W.zret (v := (bI (an (s_sbm B u i) z))) hx hb hr (bI_nar _) (fun t ht hW => ⟨_, rfl, by first | rfl | (simp [oI_s, bI_t, bI_f, s_sb, c_1, hzn, Nat.not_lt.mpr c_1]; done) | (simp [oI_s, bI_t, bI_f, s_sb, c_1, hzn, Nat.not_lt.mpr c_1]; omega) | (simp only [s_sb]; (repeat' split) <;> first | rfl | omega | (simp_all; done) | (simp_all; omega)), ht⟩) (fun _ h => nomatch h) dX2_stoodBefore_145
      refine lv_aload_n hx hb dX2_stoodBefore_14 rfl (lv_at hl 0 rfl) ?_
      refine va_get (D := D) (ci := 4) (v := .ref (ad 4)) (C := RX2) (T := TX2) (N := 11) hx hb hts hin hown hK hP 0 rfl rfl 5 (by decide) hf_19 (fun _ h9 => h9) rfl dX2_stoodBefore_15 ?_
      refine lv_iload hx hb dX2_stoodBefore_18 (lv_at hl 4 rfl) ?_
      refine n_iald hx hb hK hP 4 0 rfl rfl (i := z) (by omega) (by decide) dX2_stoodBefore_20 ?_
      have hq_2 := hB.2.1 3 z
      refine lv_aload_n hx hb dX2_stoodBefore_21 rfl (lv_at hl 0 rfl) ?_
      refine va_get (D := D) (ci := 4) (v := .ref (ad 4)) (C := RX2) (T := TX2) (N := 11) hx hb hts hin hown hK hP 0 rfl rfl 5 (by decide) hf_19 (fun _ h9 => h9) rfl dX2_stoodBefore_22 ?_
      refine lv_iload_n hx hb dX2_stoodBefore_25 rfl (lv_at hl 1 rfl) ?_
      refine n_iald hx hb hK hP 4 0 rfl rfl (i := u) (by omega) (by decide) dX2_stoodBefore_26 ?_
      have hq_3 := hB.2.1 3 u
      refine n_ne (tgt := 138) hx hb (by omega) (by omega) dX2_stoodBefore_27 (by decide) (fun c_4 => ?_) (fun c_4 => ?_)
      · refine lv_iinc (v := (nI (z + 1))) (lv' := [(4, .int (nI (z + 1))), (0, .ref (ad 0)), (1, .int (nI (u))), (2, .int (nI (i))), (3, .int (bI (an (s_sbm B u i) z)))]) hx hb dX2_stoodBefore_138 hl (k := 4) rfl (nI_1 _) (by decide) rfl (fun ls hl => ?_)
        refine lv_goto (tgt := 5) hx hb dX2_stoodBefore_141 (by decide) ?_
        have e_5 : ((bI (an (s_sbm B u i) z)) : Int32) = (bI (an (s_sbm B u i) (z + 1))) := by first | rfl | (simp [oI_s, bI_t, bI_f, an, s_sbm, c_1, c_4, Nat.not_le.mp c_1]; done) | (simp [oI_s, bI_t, bI_f, an, s_sbm, c_1, c_4, Nat.not_le.mp c_1]; omega) | (simp only [an, s_sbm]; (repeat' split) <;> first | rfl | omega | (simp_all; done) | (simp_all; omega))
        exact ih_5 (z + 1) (by omega) (by omega) _ (show lv_has ls 7 [(0, .ref (ad 0)), (1, .int (nI (u))), (2, .int (nI (i))), (3, .int (bI (an (s_sbm B u i) (z + 1)))), (4, .int (nI (z + 1)))] from by rw [← e_5]; exact lv_sub hl [1, 2, 3, 4, 0] rfl)
      refine lv_aload_n hx hb dX2_stoodBefore_30 rfl (lv_at hl 0 rfl) ?_
      refine va_get (D := D) (ci := 4) (v := .ref (ad 1)) (C := RX2) (T := TX2) (N := 11) hx hb hts hin hown hK hP 0 rfl rfl 2 (by decide) hf_7 (fun _ h9 => h9) rfl dX2_stoodBefore_31 ?_
      refine lv_iload hx hb dX2_stoodBefore_34 (lv_at hl 4 rfl) ?_
      refine n_iald hx hb hK hP 1 0 rfl rfl (i := z) (by omega) (by decide) dX2_stoodBefore_36 ?_
      have hq_6 := hB.2.1 0 z
      refine lv_aload_n hx hb dX2_stoodBefore_37 rfl (lv_at hl 0 rfl) ?_
      refine va_get (D := D) (ci := 4) (v := .ref (ad 1)) (C := RX2) (T := TX2) (N := 11) hx hb hts hin hown hK hP 0 rfl rfl 2 (by decide) hf_7 (fun _ h9 => h9) rfl dX2_stoodBefore_38 ?_
      refine lv_iload_n hx hb dX2_stoodBefore_41 rfl (lv_at hl 1 rfl) ?_
      refine n_iald hx hb hK hP 1 0 rfl rfl (i := u) (by omega) (by decide) dX2_stoodBefore_42 ?_
      have hq_7 := hB.2.1 0 u
      refine n_le (tgt := 49) hx hb (by omega) (by omega) dX2_stoodBefore_43 (by decide) (fun c_8 => ?_) (fun c_8 => ?_)
      · have join_66 : ∀ (ls : Array Slot), lv_has ls 7 [(0, .ref (ad 0)), (1, .int (nI (u))), (2, .int (nI (i))), (3, .int (bI (an (s_sbm B u i) z))), (4, .int (nI (z)))] → W p l e (headSpec wsX2_stoodBefore ({ frames := 0, cells := 0, slots := 0, locals := 0 })).room s m ([.ref (ad 0), .int (nI (u)), .int (nI (i))] : List Value).toArray below meth c s.heap [] 0 0 (MQ below (vp_Si (fun r => r = (bI (s_sb n B u i)))) ([.ref (ad 0), .int (nI (u)), .int (nI (i))] : List Value).toArray s 0 0 (fun _ => False)) (F0 m 66 ls [.int (nI (s_lim B u i z))]) := by
          intro   ls hl
          have hlim := s_lim_le hB h_i z
          refine lv_istore (lv' := [(5, .int (nI (s_lim B u i z))), (0, .ref (ad 0)), (1, .int (nI (u))), (2, .int (nI (i))), (3, .int (bI (an (s_sbm B u i) z))), (4, .int (nI (z)))]) hx hb dX2_stoodBefore_66 hl (by decide) rfl (fun ls hl => ?_)
          refine lv_iconst (v := (nI (0))) hx hb dX2_stoodBefore_68 (by decide +kernel) ?_
          refine lv_istore (lv' := [(6, .int (nI (0))), (5, .int (nI (s_lim B u i z))), (0, .ref (ad 0)), (1, .int (nI (u))), (2, .int (nI (i))), (3, .int (bI (an (s_sbm B u i) z))), (4, .int (nI (z)))]) hx hb dX2_stoodBefore_69 hl (by decide) rfl (fun ls hl => ?_)
          have loop_71 : ∀ (N : Nat) (y : Nat), s_lim B u i z - y < N → (y ≤ s_lim B u i z) → ∀ (ls : Array Slot), lv_has ls 7 [(0, .ref (ad 0)), (1, .int (nI (u))), (2, .int (nI (i))), (3, .int (bI (an (s_sbm B u i) z || an (s_sbk B u i z) y))), (4, .int (nI (z))), (5, .int (nI (s_lim B u i z))), (6, .int (nI (y)))] → W p l e (headSpec wsX2_stoodBefore ({ frames := 0, cells := 0, slots := 0, locals := 0 })).room s m ([.ref (ad 0), .int (nI (u)), .int (nI (i))] : List Value).toArray below meth c s.heap [] 0 0 (MQ below (vp_Si (fun r => r = (bI (s_sb n B u i)))) ([.ref (ad 0), .int (nI (u)), .int (nI (i))] : List Value).toArray s 0 0 (fun _ => False)) (F0 m 71 ls []) := by
            intro N
            induction N with
            | zero => intro y hmu; exact absurd hmu (Nat.not_lt_zero _)
            | succ N ih_71 =>
              intro y hmu_71 h_y ls hl
              refine lv_iload hx hb dX2_stoodBefore_71 (lv_at hl 6 rfl) ?_
              refine lv_iload hx hb dX2_stoodBefore_73 (lv_at hl 5 rfl) ?_
              refine n_ge (tgt := 138) hx hb (by omega) (by omega) dX2_stoodBefore_75 (by decide) (fun c_9 => ?_) (fun c_9 => ?_)
              · have hyl : s_lim B u i z = y := by omega
                refine lv_iinc (v := (nI (z + 1))) (lv' := [(4, .int (nI (z + 1))), (0, .ref (ad 0)), (1, .int (nI (u))), (2, .int (nI (i))), (3, .int (bI (an (s_sbm B u i) z || an (s_sbk B u i z) y))), (5, .int (nI (s_lim B u i z))), (6, .int (nI (y)))]) hx hb dX2_stoodBefore_138 hl (k := 4) rfl (nI_1 _) (by decide) rfl (fun ls hl => ?_)
                refine lv_goto (tgt := 5) hx hb dX2_stoodBefore_141 (by decide) ?_
                have e_10 : ((bI (an (s_sbm B u i) z || an (s_sbk B u i z) y)) : Int32) = (bI (an (s_sbm B u i) (z + 1))) := by first | rfl | (simp [oI_s, bI_t, bI_f, an, s_sbm, c_1, c_4, c_8, c_9, hyl, Nat.not_le.mp c_1, Nat.not_lt.mpr c_8, Nat.not_lt.mpr c_9]; done) | (simp [oI_s, bI_t, bI_f, an, s_sbm, c_1, c_4, c_8, c_9, hyl, Nat.not_le.mp c_1, Nat.not_lt.mpr c_8, Nat.not_lt.mpr c_9]; omega) | (simp only [an, s_sbm]; (repeat' split) <;> first | rfl | omega | (simp_all; done) | (simp_all; omega))
                exact ih_5 (z + 1) (by omega) (by omega) _ (show lv_has ls 7 [(0, .ref (ad 0)), (1, .int (nI (u))), (2, .int (nI (i))), (3, .int (bI (an (s_sbm B u i) (z + 1)))), (4, .int (nI (z + 1)))] from by rw [← e_10]; exact lv_sub hl [1, 2, 3, 4, 0] rfl)
              refine lv_iload_n hx hb dX2_stoodBefore_78 rfl (lv_at hl 3 rfl) ?_
              refine y_ne (tgt := 126) hx hb dX2_stoodBefore_79 (by decide) (fun c_11 => ?_) (fun c_11 => ?_)
              · refine lv_iconst (v := (nI (1))) hx hb dX2_stoodBefore_126 (by decide +kernel) ?_
                refine lv_goto (tgt := 131) hx hb dX2_stoodBefore_127 (by decide) ?_
                refine lv_istore_n (lv' := [(3, .int (nI (1))), (0, .ref (ad 0)), (1, .int (nI (u))), (2, .int (nI (i))), (4, .int (nI (z))), (5, .int (nI (s_lim B u i z))), (6, .int (nI (y)))]) hx hb dX2_stoodBefore_131 rfl hl (by decide) rfl (fun ls hl => ?_)
                refine lv_iinc (v := (nI (y + 1))) (lv' := [(6, .int (nI (y + 1))), (3, .int (nI (1))), (0, .ref (ad 0)), (1, .int (nI (u))), (2, .int (nI (i))), (4, .int (nI (z))), (5, .int (nI (s_lim B u i z)))]) hx hb dX2_stoodBefore_132 hl (k := 6) rfl (nI_1 _) (by decide) rfl (fun ls hl => ?_)
                refine lv_goto (tgt := 71) hx hb dX2_stoodBefore_135 (by decide) ?_
                have e_12 : ((nI (1)) : Int32) = (bI (an (s_sbm B u i) z || an (s_sbk B u i z) (y + 1))) := by first | rfl | (simp [an, oI_s, bI_t, bI_f]; done) | (simp only [an, ← Bool.or_assoc]; simp [s_sbk, oI_s, bI_t, bI_f, c_1, c_4, c_8, c_9, c_11, Nat.not_le.mp c_1, Nat.not_lt.mpr c_8, Nat.not_le.mp c_9]; done)
                exact ih_71 (y + 1) (by omega) (by omega) _ (show lv_has ls 7 [(0, .ref (ad 0)), (1, .int (nI (u))), (2, .int (nI (i))), (3, .int (bI (an (s_sbm B u i) z || an (s_sbk B u i z) (y + 1)))), (4, .int (nI (z))), (5, .int (nI (s_lim B u i z))), (6, .int (nI (y + 1)))] from by rw [← e_12]; exact lv_sub hl [2, 3, 4, 1, 5, 6, 0] rfl)
              refine lv_aload_n hx hb dX2_stoodBefore_82 rfl (lv_at hl 0 rfl) ?_
              refine va_get (D := D) (ci := 4) (v := .ref (ad 6)) (C := RX2) (T := TX2) (N := 11) hx hb hts hin hown hK hP 0 rfl rfl 7 (by decide) hf_25 (fun _ h9 => h9) rfl dX2_stoodBefore_83 ?_
              refine lv_bipush (v := (nI (8))) hx hb dX2_stoodBefore_86 (by decide +kernel) ?_
              refine lv_iload hx hb dX2_stoodBefore_88 (lv_at hl 4 rfl) ?_
              refine lv_imul hx hb dX2_stoodBefore_90 ?_
              refine n_top (y := (nI (8 * z))) (pk_mul _ _) ?_
              refine lv_iload hx hb dX2_stoodBefore_91 (lv_at hl 6 rfl) ?_
              refine lv_iadd hx hb dX2_stoodBefore_93 ?_
              refine n_top (y := (nI (8 * z + y))) (nI_add _ _) ?_
              refine n_iald hx hb hK hP 6 0 rfl rfl (i := 8 * z + y) (by omega) (by decide) dX2_stoodBefore_94 ?_
              have hq_13 := hB.2.2.2.2.2.1 (8 * z + y)
              refine lv_iconst (v := (nI (1))) hx hb dX2_stoodBefore_95 (by decide +kernel) ?_
              refine n_ne (tgt := 130) hx hb (by omega) (by omega) dX2_stoodBefore_96 (by decide) (fun c_14 => ?_) (fun c_14 => ?_)
              · refine lv_iconst (v := (nI (0))) hx hb dX2_stoodBefore_130 (by decide +kernel) ?_
                refine lv_istore_n (lv' := [(3, .int (nI (0))), (0, .ref (ad 0)), (1, .int (nI (u))), (2, .int (nI (i))), (4, .int (nI (z))), (5, .int (nI (s_lim B u i z))), (6, .int (nI (y)))]) hx hb dX2_stoodBefore_131 rfl hl (by decide) rfl (fun ls hl => ?_)
                refine lv_iinc (v := (nI (y + 1))) (lv' := [(6, .int (nI (y + 1))), (3, .int (nI (0))), (0, .ref (ad 0)), (1, .int (nI (u))), (2, .int (nI (i))), (4, .int (nI (z))), (5, .int (nI (s_lim B u i z)))]) hx hb dX2_stoodBefore_132 hl (k := 6) rfl (nI_1 _) (by decide) rfl (fun ls hl => ?_)
                refine lv_goto (tgt := 71) hx hb dX2_stoodBefore_135 (by decide) ?_
                have e_15 : ((nI (0)) : Int32) = (bI (an (s_sbm B u i) z || an (s_sbk B u i z) (y + 1))) := by first | rfl | (simp [an, oI_s, bI_t, bI_f]; done) | (simp only [an, ← Bool.or_assoc]; simp [s_sbk, oI_s, bI_t, bI_f, c_1, c_4, c_8, c_9, c_11, c_14, Nat.not_le.mp c_1, Nat.not_lt.mpr c_8, Nat.not_le.mp c_9]; done)
                exact ih_71 (y + 1) (by omega) (by omega) _ (show lv_has ls 7 [(0, .ref (ad 0)), (1, .int (nI (u))), (2, .int (nI (i))), (3, .int (bI (an (s_sbm B u i) z || an (s_sbk B u i z) (y + 1)))), (4, .int (nI (z))), (5, .int (nI (s_lim B u i z))), (6, .int (nI (y + 1)))] from by rw [← e_15]; exact lv_sub hl [2, 3, 4, 1, 5, 6, 0] rfl)
              refine lv_aload_n hx hb dX2_stoodBefore_99 rfl (lv_at hl 0 rfl) ?_
              refine va_get (D := D) (ci := 4) (v := .ref (ad 7)) (C := RX2) (T := TX2) (N := 11) hx hb hts hin hown hK hP 0 rfl rfl 8 (by decide) hf_28 (fun _ h9 => h9) rfl dX2_stoodBefore_100 ?_
              refine lv_bipush (v := (nI (8))) hx hb dX2_stoodBefore_103 (by decide +kernel) ?_
              refine lv_iload hx hb dX2_stoodBefore_105 (lv_at hl 4 rfl) ?_
              refine lv_imul hx hb dX2_stoodBefore_107 ?_
              refine n_top (y := (nI (8 * z))) (pk_mul _ _) ?_
              refine lv_iload hx hb dX2_stoodBefore_108 (lv_at hl 6 rfl) ?_
              refine lv_iadd hx hb dX2_stoodBefore_110 ?_
              refine n_top (y := (nI (8 * z + y))) (nI_add _ _) ?_
              refine n_iald hx hb hK hP 7 0 rfl rfl (i := 8 * z + y) (by omega) (by decide) dX2_stoodBefore_111 ?_
              have hq_16 := hB.2.1 6 (8 * z + y)
              refine lv_aload_n hx hb dX2_stoodBefore_112 rfl (lv_at hl 0 rfl) ?_
              refine va_get (D := D) (ci := 4) (v := .ref (ad 7)) (C := RX2) (T := TX2) (N := 11) hx hb hts hin hown hK hP 0 rfl rfl 8 (by decide) hf_28 (fun _ h9 => h9) rfl dX2_stoodBefore_113 ?_
              refine lv_bipush (v := (nI (8))) hx hb dX2_stoodBefore_116 (by decide +kernel) ?_
              refine lv_iload_n hx hb dX2_stoodBefore_118 rfl (lv_at hl 1 rfl) ?_
              refine lv_imul hx hb dX2_stoodBefore_119 ?_
              refine n_top (y := (nI (8 * u))) (pk_mul _ _) ?_
              refine lv_iload_n hx hb dX2_stoodBefore_120 rfl (lv_at hl 2 rfl) ?_
              refine lv_iadd hx hb dX2_stoodBefore_121 ?_
              refine n_top (y := (nI (8 * u + i))) (nI_add _ _) ?_
              refine n_iald hx hb hK hP 7 0 rfl rfl (i := 8 * u + i) (by omega) (by decide) dX2_stoodBefore_122 ?_
              have hq_17 := hB.2.1 6 (8 * u + i)
              refine n_ne (tgt := 130) hx hb (by omega) (by omega) dX2_stoodBefore_123 (by decide) (fun c_18 => ?_) (fun c_18 => ?_)
              · refine lv_iconst (v := (nI (0))) hx hb dX2_stoodBefore_130 (by decide +kernel) ?_
                refine lv_istore_n (lv' := [(3, .int (nI (0))), (0, .ref (ad 0)), (1, .int (nI (u))), (2, .int (nI (i))), (4, .int (nI (z))), (5, .int (nI (s_lim B u i z))), (6, .int (nI (y)))]) hx hb dX2_stoodBefore_131 rfl hl (by decide) rfl (fun ls hl => ?_)
                refine lv_iinc (v := (nI (y + 1))) (lv' := [(6, .int (nI (y + 1))), (3, .int (nI (0))), (0, .ref (ad 0)), (1, .int (nI (u))), (2, .int (nI (i))), (4, .int (nI (z))), (5, .int (nI (s_lim B u i z)))]) hx hb dX2_stoodBefore_132 hl (k := 6) rfl (nI_1 _) (by decide) rfl (fun ls hl => ?_)
                refine lv_goto (tgt := 71) hx hb dX2_stoodBefore_135 (by decide) ?_
                have e_19 : ((nI (0)) : Int32) = (bI (an (s_sbm B u i) z || an (s_sbk B u i z) (y + 1))) := by first | rfl | (simp [an, oI_s, bI_t, bI_f]; done) | (simp only [an, ← Bool.or_assoc]; simp [s_sbk, oI_s, bI_t, bI_f, c_1, c_4, c_8, c_9, c_11, c_14, c_18, Nat.not_le.mp c_1, Nat.not_lt.mpr c_8, Nat.not_le.mp c_9]; done)
                exact ih_71 (y + 1) (by omega) (by omega) _ (show lv_has ls 7 [(0, .ref (ad 0)), (1, .int (nI (u))), (2, .int (nI (i))), (3, .int (bI (an (s_sbm B u i) z || an (s_sbk B u i z) (y + 1)))), (4, .int (nI (z))), (5, .int (nI (s_lim B u i z))), (6, .int (nI (y + 1)))] from by rw [← e_19]; exact lv_sub hl [2, 3, 4, 1, 5, 6, 0] rfl)
              refine lv_iconst (v := (nI (1))) hx hb dX2_stoodBefore_126 (by decide +kernel) ?_
              refine lv_goto (tgt := 131) hx hb dX2_stoodBefore_127 (by decide) ?_
              refine lv_istore_n (lv' := [(3, .int (nI (1))), (0, .ref (ad 0)), (1, .int (nI (u))), (2, .int (nI (i))), (4, .int (nI (z))), (5, .int (nI (s_lim B u i z))), (6, .int (nI (y)))]) hx hb dX2_stoodBefore_131 rfl hl (by decide) rfl (fun ls hl => ?_)
              refine lv_iinc (v := (nI (y + 1))) (lv' := [(6, .int (nI (y + 1))), (3, .int (nI (1))), (0, .ref (ad 0)), (1, .int (nI (u))), (2, .int (nI (i))), (4, .int (nI (z))), (5, .int (nI (s_lim B u i z)))]) hx hb dX2_stoodBefore_132 hl (k := 6) rfl (nI_1 _) (by decide) rfl (fun ls hl => ?_)
              refine lv_goto (tgt := 71) hx hb dX2_stoodBefore_135 (by decide) ?_
              have e_20 : ((nI (1)) : Int32) = (bI (an (s_sbm B u i) z || an (s_sbk B u i z) (y + 1))) := by first | rfl | (simp [an, oI_s, bI_t, bI_f]; done) | (simp only [an, ← Bool.or_assoc]; simp [s_sbk, oI_s, bI_t, bI_f, c_1, c_4, c_8, c_9, c_11, c_14, c_18, Nat.not_le.mp c_1, Nat.not_lt.mpr c_8, Nat.not_le.mp c_9]; done)
              exact ih_71 (y + 1) (by omega) (by omega) _ (show lv_has ls 7 [(0, .ref (ad 0)), (1, .int (nI (u))), (2, .int (nI (i))), (3, .int (bI (an (s_sbm B u i) z || an (s_sbk B u i z) (y + 1)))), (4, .int (nI (z))), (5, .int (nI (s_lim B u i z))), (6, .int (nI (y + 1)))] from by rw [← e_20]; exact lv_sub hl [2, 3, 4, 1, 5, 6, 0] rfl)
          have e_21 : ((bI (an (s_sbm B u i) z)) : Int32) = (bI (an (s_sbm B u i) z || an (s_sbk B u i z) 0)) := by first | rfl | (simp [an, oI_s, bI_t, bI_f]; done) | (simp only [an, ← Bool.or_assoc]; simp [s_sbk, oI_s, bI_t, bI_f, c_1, c_4, c_8, Nat.not_le.mp c_1, Nat.not_lt.mpr c_8]; done)
          exact loop_71 (s_lim B u i z - 0 + 1) 0 (by omega) (by omega) _ (show lv_has ls 7 [(0, .ref (ad 0)), (1, .int (nI (u))), (2, .int (nI (i))), (3, .int (bI (an (s_sbm B u i) z || an (s_sbk B u i z) 0))), (4, .int (nI (z))), (5, .int (nI (s_lim B u i z))), (6, .int (nI (0)))] from by rw [← e_21]; exact lv_sub hl [2, 3, 4, 5, 6, 1, 0] rfl)
        refine lv_iload hx hb dX2_stoodBefore_49 (lv_at hl 4 rfl) ?_
        refine lv_iload_n hx hb dX2_stoodBefore_51 rfl (lv_at hl 1 rfl) ?_
        refine n_ne (tgt := 59) hx hb (by omega) (by omega) dX2_stoodBefore_52 (by decide) (fun c_22 => ?_) (fun c_22 => ?_)
        · refine lv_aload_n hx hb dX2_stoodBefore_59 rfl (lv_at hl 0 rfl) ?_
          refine va_get (D := D) (ci := 4) (v := .ref (ad 5)) (C := RX2) (T := TX2) (N := 11) hx hb hts hin hown hK hP 0 rfl rfl 6 (by decide) hf_22 (fun _ h9 => h9) rfl dX2_stoodBefore_60 ?_
          refine lv_iload hx hb dX2_stoodBefore_63 (lv_at hl 4 rfl) ?_
          refine n_iald hx hb hK hP 5 0 rfl rfl (i := z) (by omega) (by decide) dX2_stoodBefore_65 ?_
          have hq_23 := hB.2.2.1 z
          refine n_top (y := (nI (s_lim B u i z))) (by first | rfl | (simp [oI_s, bI_t, bI_f, s_lim, c_1, c_4, c_8, c_22, Nat.not_le.mp c_1, Nat.not_lt.mpr c_8]; done) | (simp [oI_s, bI_t, bI_f, s_lim, c_1, c_4, c_8, c_22, Nat.not_le.mp c_1, Nat.not_lt.mpr c_8]; omega) | (simp only [s_lim]; (repeat' split) <;> first | rfl | omega | (simp_all; done) | (simp_all; omega))) ?_
          exact join_66   _ (show lv_has ls 7 [(0, .ref (ad 0)), (1, .int (nI (u))), (2, .int (nI (i))), (3, .int (bI (an (s_sbm B u i) z))), (4, .int (nI (z)))] from by exact lv_sub hl [0, 1, 2, 3, 4] rfl)
        refine lv_iload_n hx hb dX2_stoodBefore_55 rfl (lv_at hl 2 rfl) ?_
        refine lv_goto (tgt := 66) hx hb dX2_stoodBefore_56 (by decide) ?_
        refine n_top (y := (nI (s_lim B u i z))) (by first | rfl | (simp [oI_s, bI_t, bI_f, s_lim, c_1, c_4, c_8, c_22, Nat.not_le.mp c_1, Nat.not_lt.mpr c_8]; done) | (simp [oI_s, bI_t, bI_f, s_lim, c_1, c_4, c_8, c_22, Nat.not_le.mp c_1, Nat.not_lt.mpr c_8]; omega) | (simp only [s_lim]; (repeat' split) <;> first | rfl | omega | (simp_all; done) | (simp_all; omega))) ?_
        exact join_66   _ (show lv_has ls 7 [(0, .ref (ad 0)), (1, .int (nI (u))), (2, .int (nI (i))), (3, .int (bI (an (s_sbm B u i) z))), (4, .int (nI (z)))] from by exact lv_sub hl [0, 1, 2, 3, 4] rfl)
      refine lv_goto (tgt := 138) hx hb dX2_stoodBefore_46 (by decide) ?_
      refine lv_iinc (v := (nI (z + 1))) (lv' := [(4, .int (nI (z + 1))), (0, .ref (ad 0)), (1, .int (nI (u))), (2, .int (nI (i))), (3, .int (bI (an (s_sbm B u i) z)))]) hx hb dX2_stoodBefore_138 hl (k := 4) rfl (nI_1 _) (by decide) rfl (fun ls hl => ?_)
      refine lv_goto (tgt := 5) hx hb dX2_stoodBefore_141 (by decide) ?_
      have e_24 : ((bI (an (s_sbm B u i) z)) : Int32) = (bI (an (s_sbm B u i) (z + 1))) := by first | rfl | (simp [oI_s, bI_t, bI_f, an, s_sbm, c_1, c_4, c_8, Nat.not_le.mp c_1, Nat.not_le.mp c_8]; done) | (simp [oI_s, bI_t, bI_f, an, s_sbm, c_1, c_4, c_8, Nat.not_le.mp c_1, Nat.not_le.mp c_8]; omega) | (simp only [an, s_sbm]; (repeat' split) <;> first | rfl | omega | (simp_all; done) | (simp_all; omega))
      exact ih_5 (z + 1) (by omega) (by omega) _ (show lv_has ls 7 [(0, .ref (ad 0)), (1, .int (nI (u))), (2, .int (nI (i))), (3, .int (bI (an (s_sbm B u i) (z + 1)))), (4, .int (nI (z + 1)))] from by rw [← e_24]; exact lv_sub hl [1, 2, 3, 4, 0] rfl)
  have e_25 : ((nI (0)) : Int32) = (bI (an (s_sbm B u i) 0)) := by first | rfl | (simp [oI_s, bI_t, bI_f, an, s_sbm]; done) | (simp [oI_s, bI_t, bI_f, an, s_sbm]; omega) | (simp only [an, s_sbm]; (repeat' split) <;> first | rfl | omega | (simp_all; done) | (simp_all; omega))
  exact loop_5 (n - 0 + 1) 0 (by omega) (by omega) _ (show lv_has ls 7 [(0, .ref (ad 0)), (1, .int (nI (u))), (2, .int (nI (i))), (3, .int (bI (an (s_sbm B u i) 0))), (4, .int (nI (0)))] from by rw [← e_25]; exact lv_sub hl [2, 3, 4, 1, 0] rfl)
theorem hdX2_stoodBefore : yX2_stoodBefore.cls = RX2 ∧ yX2_stoodBefore.cls ≠ "java/lang/invoke/MethodHandle" ∧ yX2_stoodBefore.cls ≠ "java/lang/invoke/VarHandle" ∧ (parseMethodDescriptor yX2_stoodBefore.desc).map (fun d => d.parameters.length) = some 2 := by decide +kernel
set_option maxHeartbeats 4000000 in
set_option maxRecDepth 100000 in
theorem kX2_kindOf (l : Launch) (D : va_G) (cI : ClassId) (ad : Nat → Nat) (th : Nat) (n : Nat) (B : Nat → Nat → Nat) (P : Nat → Option Nat) (bs : Nat → Nat) (u : Nat) (i : Nat) (hB : Bok n B) (hPA : PA n B P) (h_u : u < n) (h_i : i < B 4 u) : Met l yX2_kindOf wsX2_kindOf ({ frames := 2, cells := 0, slots := 0, locals := 51 }) (PcR D [(cI, .int)] (wM cI ad th n B P bs) [.ref (ad 0), .int (nI (u)), .int (nI (i))]) (vp_Si (fun r => r = (nI (s_knd n B u i)))) 0 0 (fun _ => False) := by
  refine Met.ofW (cc := cX2_kindOf) (maxL := 4) (ret := (some .char)) (by decide) rfl ?_
  intro p e s m args below meth c s₁ BL hml hv
  obtain ⟨rfl, hP, hK⟩ := hv
  have hx := BL.exec
  have hb := BL.bytes
  have hr := BL.returns
  have hts := atoms_spec (ws := wsX2_kindOf) BL.pre
  have hown : s.vm.findClass RX2 = some m.cls := findClass_of_methodNamed BL.named
  have hlocks := BL.notSynchronized
  have hin : ∀ w ∈ wsX20, w ∈ wsX2_kindOf := by decide +kernel
  have hf_19 := hts (.fieldLink RX2 19 "TalkRebuilderModel" "answered" "[I") (by decide +kernel)
  have hf_22 := hts (.fieldLink RX2 22 "TalkRebuilderModel" "many" "[I") (by decide +kernel)
  have hf_25 := hts (.fieldLink RX2 25 "TalkRebuilderModel" "marks" "[I") (by decide +kernel)
  have hf_31 := hts (.fieldLink RX2 31 "TalkRebuilderModel" "partnerOf" "[I") (by decide +kernel)
  have hl := lv_entry ([.ref (ad 0), .int (nI (u)), .int (nI (i))]) (n := 4) (Nat.le_of_ble_eq_true rfl)
  rw [lg_entry_eq]
  generalize (lg_sl ([.ref (ad 0), .int (nI (u)), .int (nI (i))]) ++ List.replicate (4 - (lg_sl ([.ref (ad 0), .int (nI (u)), .int (nI (i))])).length) Slot.unset).toArray = ls at hl ⊢
  have hl : lv_has ls 4 [(0, .ref (ad 0)), (1, .int (nI (u))), (2, .int (nI (i)))] := hl
  have hn10 := hB.1
  have h8u := hB.2.2.1 u
  have hsg := s_sig_le n B u
  refine lv_bipush (v := (nI (8))) hx hb dX2_kindOf_0 (by decide +kernel) ?_
  refine lv_iload_n hx hb dX2_kindOf_2 rfl (lv_at hl 1 rfl) ?_
  refine lv_imul hx hb dX2_kindOf_3 ?_
  refine n_top (y := (nI (8 * u))) (pk_mul _ _) ?_
  refine lv_iload_n hx hb dX2_kindOf_4 rfl (lv_at hl 2 rfl) ?_
  refine lv_iadd hx hb dX2_kindOf_5 ?_
  refine n_top (y := (nI (8 * u + i))) (nI_add _ _) ?_
  refine lv_istore_n (lv' := [(3, .int (nI (8 * u + i))), (0, .ref (ad 0)), (1, .int (nI (u))), (2, .int (nI (i)))]) hx hb dX2_kindOf_6 rfl hl (by decide) rfl (fun ls hl => ?_)
  refine lv_aload_n hx hb dX2_kindOf_7 rfl (lv_at hl 1 rfl) ?_
  refine va_get (D := D) (ci := 4) (v := .ref (ad 6)) (C := RX2) (T := TX2) (N := 11) hx hb hts hin hown hK hP 0 rfl rfl 7 (by decide) hf_25 (fun _ h9 => h9) rfl dX2_kindOf_8 ?_
  refine lv_iload_n hx hb dX2_kindOf_11 rfl (lv_at hl 0 rfl) ?_
  refine n_iald hx hb hK hP 6 0 rfl rfl (i := 8 * u + i) (by omega) (by decide) dX2_kindOf_12 ?_
  have hq_1 := hB.2.2.2.2.2.1 (8 * u + i)
  refine z_ne (tgt := 40) hx hb (by omega) dX2_kindOf_13 (by decide) (fun c_2 => ?_) (fun c_2 => ?_)
  · refine lv_aload_n hx hb dX2_kindOf_40 rfl (lv_at hl 1 rfl) ?_
    refine va_get (D := D) (ci := 4) (v := .ref (ad 8)) (C := RX2) (T := TX2) (N := 11) hx hb hts hin hown hK hP 0 rfl rfl 9 (by decide) hf_31 (fun _ h9 => h9) rfl dX2_kindOf_41 ?_
    refine lv_iload_n hx hb dX2_kindOf_44 rfl (lv_at hl 0 rfl) ?_
    refine n_iald hx hb hK hP 8 0 rfl rfl (i := 8 * u + i) (by omega) (by decide) dX2_kindOf_45 ?_
    refine n_top (y := (oI (s_pa n B u i))) (by rw [hPA u i h_u h_i]) ?_
    refine lv_iconst (v := (oI (none))) hx hb dX2_kindOf_46 (by decide +kernel) ?_
    refine o_eq (tgt := 53) hx hb (s_pa_b hB.2.2.1) dX2_kindOf_47 (by decide) (fun c_3 => ?_) (fun kc_3 c_3 => ?_)
    · refine lv_aload_n hx hb dX2_kindOf_53 rfl (lv_at hl 1 rfl) ?_
      refine va_get (D := D) (ci := 4) (v := .ref (ad 6)) (C := RX2) (T := TX2) (N := 11) hx hb hts hin hown hK hP 0 rfl rfl 7 (by decide) hf_25 (fun _ h9 => h9) rfl dX2_kindOf_54 ?_
      refine lv_iload_n hx hb dX2_kindOf_57 rfl (lv_at hl 0 rfl) ?_
      refine n_iald hx hb hK hP 6 0 rfl rfl (i := 8 * u + i) (by omega) (by decide) dX2_kindOf_58 ?_
      have hq_4 := hB.2.2.2.2.2.1 (8 * u + i)
      refine lv_iconst (v := (nI (1))) hx hb dX2_kindOf_59 (by decide +kernel) ?_
      refine n_gt (tgt := 81) hx hb (by omega) (by omega) dX2_kindOf_60 (by decide) (fun c_5 => ?_) (fun c_5 => ?_)
      · refine lv_bipush (v := (nI (120))) hx hb dX2_kindOf_81 (by decide +kernel) ?_
        exact W.zret (v := (nI (120))) hx hb hr (by decide +kernel) (fun t ht hW => ⟨_, rfl, by first | rfl | (simp [oI_s, bI_t, bI_f, s_knd, c_2, c_3, c_5, Nat.not_le.mpr c_5]; done) | (simp [oI_s, bI_t, bI_f, s_knd, c_2, c_3, c_5, Nat.not_le.mpr c_5]; omega) | (simp only [s_knd]; (repeat' split) <;> first | rfl | omega | (simp_all; done) | (simp_all; omega)), ht⟩) (fun _ h => nomatch h) dX2_kindOf_83
      refine lv_aload_n hx hb dX2_kindOf_63 rfl (lv_at hl 1 rfl) ?_
      refine va_get (D := D) (ci := 4) (v := .ref (ad 4)) (C := RX2) (T := TX2) (N := 11) hx hb hts hin hown hK hP 0 rfl rfl 5 (by decide) hf_19 (fun _ h9 => h9) rfl dX2_kindOf_64 ?_
      refine lv_iload_n hx hb dX2_kindOf_67 rfl (lv_at hl 2 rfl) ?_
      refine n_iald hx hb hK hP 4 0 rfl rfl (i := u) (by omega) (by decide) dX2_kindOf_68 ?_
      have hq_6 := hB.2.1 3 u
      refine z_eq (tgt := 81) hx hb (by omega) dX2_kindOf_69 (by decide) (fun c_7 => ?_) (fun c_7 => ?_)
      · refine lv_bipush (v := (nI (120))) hx hb dX2_kindOf_81 (by decide +kernel) ?_
        exact W.zret (v := (nI (120))) hx hb hr (by decide +kernel) (fun t ht hW => ⟨_, rfl, by first | rfl | (simp [oI_s, bI_t, bI_f, s_knd, c_2, c_3, c_5, c_7, Nat.not_lt.mp c_5]; done) | (simp [oI_s, bI_t, bI_f, s_knd, c_2, c_3, c_5, c_7, Nat.not_lt.mp c_5]; omega) | (simp only [s_knd]; (repeat' split) <;> first | rfl | omega | (simp_all; done) | (simp_all; omega)), ht⟩) (fun _ h => nomatch h) dX2_kindOf_83
      refine lv_aload_n hx hb dX2_kindOf_72 rfl (lv_at hl 1 rfl) ?_
      refine lv_iload_n hx hb dX2_kindOf_73 rfl (lv_at hl 2 rfl) ?_
      refine ro_V (As := [.int (nI (u))]) (v := (oI (s_par n B u))) ⟨hx, hb, hml, hown, hts⟩ (kX2_parentOf l D cI ad th n B P bs u hB h_u) (cwV 1 hts gX2_kindOf_X2_parentOf rfl rfl rfl hdX2_parentOf ⟨Nat.le_of_ble_eq_true rfl, Nat.le_of_ble_eq_true rfl⟩) hK hP (ci := 4) rfl (q0 := 0) rfl rfl rfl hl.1 rfl (Nat.le_of_ble_eq_true rfl) dX2_kindOf_74 ⟨Nat.zero_le _, Nat.zero_le _⟩ ?_
      refine lv_iconst (v := (oI (none))) hx hb dX2_kindOf_77 (by decide +kernel) ?_
      refine o_eq (tgt := 84) hx hb (s_par_b hn10) dX2_kindOf_78 (by decide) (fun c_8 => ?_) (fun kc_8 c_8 => ?_)
      · refine lv_aload_n hx hb dX2_kindOf_84 rfl (lv_at hl 1 rfl) ?_
        refine lv_iload_n hx hb dX2_kindOf_85 rfl (lv_at hl 2 rfl) ?_
        refine lv_iload_n hx hb dX2_kindOf_86 rfl (lv_at hl 3 rfl) ?_
        refine ro_V (As := [.int (nI (u)), .int (nI (i))]) (v := (bI (s_sb n B u i))) ⟨hx, hb, hml, hown, hts⟩ (kX2_stoodBefore l D cI ad th n B P bs u i hB h_u h_i) (cwV 2 hts gX2_kindOf_X2_stoodBefore rfl rfl rfl hdX2_stoodBefore ⟨Nat.le_of_ble_eq_true rfl, Nat.le_of_ble_eq_true rfl⟩) hK hP (ci := 4) rfl (q0 := 0) rfl rfl rfl hl.1 rfl (Nat.le_of_ble_eq_true rfl) dX2_kindOf_87 ⟨Nat.zero_le _, Nat.zero_le _⟩ ?_
        refine y_eq (tgt := 98) hx hb dX2_kindOf_90 (by decide) (fun c_9 => ?_) (fun c_9 => ?_)
        · refine lv_bipush (v := (nI (114))) hx hb dX2_kindOf_98 (by decide +kernel) ?_
          exact W.zret (v := (nI (114))) hx hb hr (by decide +kernel) (fun t ht hW => ⟨_, rfl, by first | rfl | (simp [oI_s, bI_t, bI_f, s_knd, c_2, c_3, c_5, c_7, c_8, c_9, Nat.not_lt.mp c_5]; done) | (simp [oI_s, bI_t, bI_f, s_knd, c_2, c_3, c_5, c_7, c_8, c_9, Nat.not_lt.mp c_5]; omega) | (simp only [s_knd]; (repeat' split) <;> first | rfl | omega | (simp_all; done) | (simp_all; omega)), ht⟩) (fun _ h => nomatch h) dX2_kindOf_100
        refine lv_bipush (v := (nI (100))) hx hb dX2_kindOf_93 (by decide +kernel) ?_
        refine lv_goto (tgt := 100) hx hb dX2_kindOf_95 (by decide) ?_
        exact W.zret (v := (nI (100))) hx hb hr (by decide +kernel) (fun t ht hW => ⟨_, rfl, by first | rfl | (simp [oI_s, bI_t, bI_f, s_knd, c_2, c_3, c_5, c_7, c_8, c_9, Nat.not_lt.mp c_5]; done) | (simp [oI_s, bI_t, bI_f, s_knd, c_2, c_3, c_5, c_7, c_8, c_9, Nat.not_lt.mp c_5]; omega) | (simp only [s_knd]; (repeat' split) <;> first | rfl | omega | (simp_all; done) | (simp_all; omega)), ht⟩) (fun _ h => nomatch h) dX2_kindOf_100
      refine lv_bipush (v := (nI (120))) hx hb dX2_kindOf_81 (by decide +kernel) ?_
      exact W.zret (v := (nI (120))) hx hb hr (by decide +kernel) (fun t ht hW => ⟨_, rfl, by first | rfl | (simp [oI_s, bI_t, bI_f, s_knd, c_2, c_3, c_5, c_7, c_8, Nat.not_lt.mp c_5]; done) | (simp [oI_s, bI_t, bI_f, s_knd, c_2, c_3, c_5, c_7, c_8, Nat.not_lt.mp c_5]; omega) | (simp only [s_knd]; (repeat' split) <;> first | rfl | omega | (simp_all; done) | (simp_all; omega)), ht⟩) (fun _ h => nomatch h) dX2_kindOf_83
    refine lv_bipush (v := (nI (113))) hx hb dX2_kindOf_50 (by decide +kernel) ?_
    exact W.zret (v := (nI (113))) hx hb hr (by decide +kernel) (fun t ht hW => ⟨_, rfl, by first | rfl | (simp [oI_s, bI_t, bI_f, s_knd, c_2, c_3]; done) | (simp [oI_s, bI_t, bI_f, s_knd, c_2, c_3]; omega) | (simp only [s_knd]; (repeat' split) <;> first | rfl | omega | (simp_all; done) | (simp_all; omega)), ht⟩) (fun _ h => nomatch h) dX2_kindOf_52
  refine lv_iload_n hx hb dX2_kindOf_16 rfl (lv_at hl 3 rfl) ?_
  refine lv_aload_n hx hb dX2_kindOf_17 rfl (lv_at hl 1 rfl) ?_
  refine va_get (D := D) (ci := 4) (v := .ref (ad 5)) (C := RX2) (T := TX2) (N := 11) hx hb hts hin hown hK hP 0 rfl rfl 6 (by decide) hf_22 (fun _ h9 => h9) rfl dX2_kindOf_18 ?_
  refine lv_iload_n hx hb dX2_kindOf_21 rfl (lv_at hl 2 rfl) ?_
  refine n_iald hx hb hK hP 5 0 rfl rfl (i := u) (by omega) (by decide) dX2_kindOf_22 ?_
  have hq_10 := hB.2.2.1 u
  refine lv_aload_n hx hb dX2_kindOf_23 rfl (lv_at hl 1 rfl) ?_
  refine lv_iload_n hx hb dX2_kindOf_24 rfl (lv_at hl 2 rfl) ?_
  refine ro_V (As := [.int (nI (u))]) (v := (nI (s_sig n B u))) ⟨hx, hb, hml, hown, hts⟩ (kX2_signed l D cI ad th n B P bs u hB h_u) (cwV 1 hts gX2_kindOf_X2_signed rfl rfl rfl hdX2_signed ⟨Nat.le_of_ble_eq_true rfl, Nat.le_of_ble_eq_true rfl⟩) hK hP (ci := 4) rfl (q0 := 0) rfl rfl rfl hl.1 rfl (Nat.le_of_ble_eq_true rfl) dX2_kindOf_25 ⟨Nat.zero_le _, Nat.zero_le _⟩ ?_
  refine lv_isub hx hb dX2_kindOf_28 ?_
  refine n_top (y := (nI (B 4 u - (s_sig n B u)))) (pk_sub (by omega)) ?_
  refine n_lt (tgt := 37) hx hb (by omega) (by omega) dX2_kindOf_29 (by decide) (fun c_11 => ?_) (fun c_11 => ?_)
  · refine lv_bipush (v := (nI (110))) hx hb dX2_kindOf_37 (by decide +kernel) ?_
    exact W.zret (v := (nI (110))) hx hb hr (by decide +kernel) (fun t ht hW => ⟨_, rfl, by first | rfl | (simp [oI_s, bI_t, bI_f, s_knd, c_2, c_11, Nat.not_le.mpr c_11]; done) | (simp [oI_s, bI_t, bI_f, s_knd, c_2, c_11, Nat.not_le.mpr c_11]; omega) | (simp only [s_knd]; (repeat' split) <;> first | rfl | omega | (simp_all; done) | (simp_all; omega)), ht⟩) (fun _ h => nomatch h) dX2_kindOf_39
  refine lv_bipush (v := (nI (115))) hx hb dX2_kindOf_32 (by decide +kernel) ?_
  refine lv_goto (tgt := 39) hx hb dX2_kindOf_34 (by decide) ?_
  exact W.zret (v := (nI (115))) hx hb hr (by decide +kernel) (fun t ht hW => ⟨_, rfl, by first | rfl | (simp [oI_s, bI_t, bI_f, s_knd, c_2, c_11, Nat.not_lt.mp c_11]; done) | (simp [oI_s, bI_t, bI_f, s_knd, c_2, c_11, Nat.not_lt.mp c_11]; omega) | (simp only [s_knd]; (repeat' split) <;> first | rfl | omega | (simp_all; done) | (simp_all; omega)), ht⟩) (fun _ h => nomatch h) dX2_kindOf_39
theorem hdX2_kindOf : yX2_kindOf.cls = RX2 ∧ yX2_kindOf.cls ≠ "java/lang/invoke/MethodHandle" ∧ yX2_kindOf.cls ≠ "java/lang/invoke/VarHandle" ∧ (parseMethodDescriptor yX2_kindOf.desc).map (fun d => d.parameters.length) = some 2 := by decide +kernel
set_option maxHeartbeats 4000000 in
set_option maxRecDepth 100000 in
theorem kX2_isTalk (l : Launch) (D : va_G) (cI : ClassId) (ad : Nat → Nat) (th : Nat) (n : Nat) (B : Nat → Nat → Nat) (P : Nat → Option Nat) (bs : Nat → Nat) (u : Nat) (i : Nat) (hB : Bok n B) (hPA : PA n B P) (h_u : u < n) (h_i : i < B 4 u) : Met l yX2_isTalk wsX2_isTalk ({ frames := 3, cells := 0, slots := 0, locals := 74 }) (PcR D [(cI, .int)] (wM cI ad th n B P bs) [.ref (ad 0), .int (nI (u)), .int (nI (i))]) (vp_Si (fun r => r = (bI (s_talk n B u i)))) 0 0 (fun _ => False) := by
  refine Met.ofW (cc := cX2_isTalk) (maxL := 3) (ret := (some .boolean)) (by decide) rfl ?_
  intro p e s m args below meth c s₁ BL hml hv
  obtain ⟨rfl, hP, hK⟩ := hv
  have hx := BL.exec
  have hb := BL.bytes
  have hr := BL.returns
  have hts := atoms_spec (ws := wsX2_isTalk) BL.pre
  have hown : s.vm.findClass RX2 = some m.cls := findClass_of_methodNamed BL.named
  have hlocks := BL.notSynchronized
  have hl := lv_entry ([.ref (ad 0), .int (nI (u)), .int (nI (i))]) (n := 3) (Nat.le_of_ble_eq_true rfl)
  rw [lg_entry_eq]
  generalize (lg_sl ([.ref (ad 0), .int (nI (u)), .int (nI (i))]) ++ List.replicate (3 - (lg_sl ([.ref (ad 0), .int (nI (u)), .int (nI (i))])).length) Slot.unset).toArray = ls at hl ⊢
  have hl : lv_has ls 3 [(0, .ref (ad 0)), (1, .int (nI (u))), (2, .int (nI (i)))] := hl
  have hn10 := hB.1
  have hkd := s_knd_b n B u i
  refine lv_aload_n hx hb dX2_isTalk_0 rfl (lv_at hl 0 rfl) ?_
  refine lv_iload_n hx hb dX2_isTalk_1 rfl (lv_at hl 1 rfl) ?_
  refine lv_iload_n hx hb dX2_isTalk_2 rfl (lv_at hl 2 rfl) ?_
  refine ro_V (As := [.int (nI (u)), .int (nI (i))]) (v := (nI (s_knd n B u i))) ⟨hx, hb, hml, hown, hts⟩ (kX2_kindOf l D cI ad th n B P bs u i hB hPA h_u h_i) (cwV 2 hts gX2_isTalk_X2_kindOf rfl rfl rfl hdX2_kindOf ⟨Nat.le_of_ble_eq_true rfl, Nat.le_of_ble_eq_true rfl⟩) hK hP (ci := 4) rfl (q0 := 0) rfl rfl rfl hl.1 rfl (Nat.le_of_ble_eq_true rfl) dX2_isTalk_3 ⟨Nat.zero_le _, Nat.zero_le _⟩ ?_
  refine lv_bipush (v := (nI (110))) hx hb dX2_isTalk_6 (by decide +kernel) ?_
  refine n_eq (tgt := 22) hx hb (by omega) (by omega) dX2_isTalk_8 (by decide) (fun c_1 => ?_) (fun c_1 => ?_)
  · refine lv_iconst (v := (nI (1))) hx hb dX2_isTalk_22 (by decide +kernel) ?_
    refine lv_goto (tgt := 27) hx hb dX2_isTalk_23 (by decide) ?_
    exact W.zret (v := (nI (1))) hx hb hr (by decide +kernel) (fun t ht hW => ⟨_, rfl, by first | rfl | (simp [oI_s, bI_t, bI_f, s_talk, c_1]; done) | (simp [oI_s, bI_t, bI_f, s_talk, c_1]; omega) | (simp only [s_talk]; (repeat' split) <;> first | rfl | omega | (simp_all; done) | (simp_all; omega)), ht⟩) (fun _ h => nomatch h) dX2_isTalk_27
  refine lv_aload_n hx hb dX2_isTalk_11 rfl (lv_at hl 0 rfl) ?_
  refine lv_iload_n hx hb dX2_isTalk_12 rfl (lv_at hl 1 rfl) ?_
  refine lv_iload_n hx hb dX2_isTalk_13 rfl (lv_at hl 2 rfl) ?_
  refine ro_V (As := [.int (nI (u)), .int (nI (i))]) (v := (nI (s_knd n B u i))) ⟨hx, hb, hml, hown, hts⟩ (kX2_kindOf l D cI ad th n B P bs u i hB hPA h_u h_i) (cwV 2 hts gX2_isTalk_X2_kindOf rfl rfl rfl hdX2_kindOf ⟨Nat.le_of_ble_eq_true rfl, Nat.le_of_ble_eq_true rfl⟩) hK hP (ci := 4) rfl (q0 := 0) rfl rfl rfl hl.1 rfl (Nat.le_of_ble_eq_true rfl) dX2_isTalk_14 ⟨Nat.zero_le _, Nat.zero_le _⟩ ?_
  refine lv_bipush (v := (nI (114))) hx hb dX2_isTalk_17 (by decide +kernel) ?_
  refine n_ne (tgt := 26) hx hb (by omega) (by omega) dX2_isTalk_19 (by decide) (fun c_2 => ?_) (fun c_2 => ?_)
  · refine lv_iconst (v := (nI (0))) hx hb dX2_isTalk_26 (by decide +kernel) ?_
    exact W.zret (v := (nI (0))) hx hb hr (by decide +kernel) (fun t ht hW => ⟨_, rfl, by first | rfl | (simp [oI_s, bI_t, bI_f, s_talk, c_1, c_2]; done) | (simp [oI_s, bI_t, bI_f, s_talk, c_1, c_2]; omega) | (simp only [s_talk]; (repeat' split) <;> first | rfl | omega | (simp_all; done) | (simp_all; omega)), ht⟩) (fun _ h => nomatch h) dX2_isTalk_27
  refine lv_iconst (v := (nI (1))) hx hb dX2_isTalk_22 (by decide +kernel) ?_
  refine lv_goto (tgt := 27) hx hb dX2_isTalk_23 (by decide) ?_
  exact W.zret (v := (nI (1))) hx hb hr (by decide +kernel) (fun t ht hW => ⟨_, rfl, by first | rfl | (simp [oI_s, bI_t, bI_f, s_talk, c_1, c_2]; done) | (simp [oI_s, bI_t, bI_f, s_talk, c_1, c_2]; omega) | (simp only [s_talk]; (repeat' split) <;> first | rfl | omega | (simp_all; done) | (simp_all; omega)), ht⟩) (fun _ h => nomatch h) dX2_isTalk_27
theorem hdX2_isTalk : yX2_isTalk.cls = RX2 ∧ yX2_isTalk.cls ≠ "java/lang/invoke/MethodHandle" ∧ yX2_isTalk.cls ≠ "java/lang/invoke/VarHandle" ∧ (parseMethodDescriptor yX2_isTalk.desc).map (fun d => d.parameters.length) = some 2 := by decide +kernel
set_option maxHeartbeats 4000000 in
set_option maxRecDepth 100000 in
theorem kX2_answersOf (l : Launch) (D : va_G) (cI : ClassId) (ad : Nat → Nat) (th : Nat) (n : Nat) (B : Nat → Nat → Nat) (P : Nat → Option Nat) (bs : Nat → Nat) (u : Nat) (i : Nat) (hB : Bok n B) (hPA : PA n B P) (h_u : u < n) (h_i : i < B 4 u) : Met l yX2_answersOf wsX2_answersOf ({ frames := 3, cells := 0, slots := 0, locals := 74 }) (PcR D [(cI, .int)] (wM cI ad th n B P bs) [.ref (ad 0), .int (nI (u)), .int (nI (i))]) (vp_Si (fun r => r = (oI (s_an n B u i)))) 0 0 (fun _ => False) := by
  refine Met.ofW (cc := cX2_answersOf) (maxL := 5) (ret := (some .int)) (by decide) rfl ?_
  intro p e s m args below meth c s₁ BL hml hv
  obtain ⟨rfl, hP, hK⟩ := hv
  have hx := BL.exec
  have hb := BL.bytes
  have hr := BL.returns
  have hts := atoms_spec (ws := wsX2_answersOf) BL.pre
  have hown : s.vm.findClass RX2 = some m.cls := findClass_of_methodNamed BL.named
  have hlocks := BL.notSynchronized
  have hl := lv_entry ([.ref (ad 0), .int (nI (u)), .int (nI (i))]) (n := 5) (Nat.le_of_ble_eq_true rfl)
  rw [lg_entry_eq]
  generalize (lg_sl ([.ref (ad 0), .int (nI (u)), .int (nI (i))]) ++ List.replicate (5 - (lg_sl ([.ref (ad 0), .int (nI (u)), .int (nI (i))])).length) Slot.unset).toArray = ls at hl ⊢
  have hl : lv_has ls 5 [(0, .ref (ad 0)), (1, .int (nI (u))), (2, .int (nI (i)))] := hl
  have hn10 := hB.1
  have h8u := hB.2.2.1 u
  refine lv_iconst (v := (oI (none))) hx hb dX2_answersOf_0 (by decide +kernel) ?_
  refine lv_istore_n (lv' := [(3, .int (oI (none))), (0, .ref (ad 0)), (1, .int (nI (u))), (2, .int (nI (i)))]) hx hb dX2_answersOf_1 rfl hl (by decide) rfl (fun ls hl => ?_)
  refine lv_iconst (v := (nI (0))) hx hb dX2_answersOf_2 (by decide +kernel) ?_
  refine lv_istore (lv' := [(4, .int (nI (0))), (3, .int (oI (none))), (0, .ref (ad 0)), (1, .int (nI (u))), (2, .int (nI (i)))]) hx hb dX2_answersOf_3 hl (by decide) rfl (fun ls hl => ?_)
  have loop_5 : ∀ (N : Nat) (z : Nat), i - z < N → (z ≤ i) → ∀ (ls : Array Slot), lv_has ls 5 [(0, .ref (ad 0)), (1, .int (nI (u))), (2, .int (nI (i))), (3, .int (oI (s_an n B u z))), (4, .int (nI (z)))] → W p l e (headSpec wsX2_answersOf ({ frames := 3, cells := 0, slots := 0, locals := 74 })).room s m ([.ref (ad 0), .int (nI (u)), .int (nI (i))] : List Value).toArray below meth c s.heap [] 0 0 (MQ below (vp_Si (fun r => r = (oI (s_an n B u i)))) ([.ref (ad 0), .int (nI (u)), .int (nI (i))] : List Value).toArray s 0 0 (fun _ => False)) (F0 m 5 ls []) := by
    intro N
    induction N with
    | zero => intro z hmu; exact absurd hmu (Nat.not_lt_zero _)
    | succ N ih_5 =>
      intro z hmu_5 h_z ls hl
      refine lv_iload hx hb dX2_answersOf_5 (lv_at hl 4 rfl) ?_
      refine lv_iload_n hx hb dX2_answersOf_7 rfl (lv_at hl 2 rfl) ?_
      refine n_ge (tgt := 41) hx hb (by omega) (by omega) dX2_answersOf_8 (by decide) (fun c_1 => ?_) (fun c_1 => ?_)
      · have hzi : i = z := by omega
        refine lv_iload_n hx hb dX2_answersOf_41 rfl (lv_at hl 3 rfl) ?_
        exact W.iret (v := (oI (s_an n B u z))) hx hb hr (fun t ht hW => ⟨_, rfl, by first | rfl | (simp [oI_s, bI_t, bI_f, c_1, hzi, Nat.not_lt.mpr c_1]; done) | (simp [oI_s, bI_t, bI_f, c_1, hzi, Nat.not_lt.mpr c_1]; omega), ht⟩) (fun _ h => nomatch h) dX2_answersOf_42
      refine lv_aload_n hx hb dX2_answersOf_11 rfl (lv_at hl 0 rfl) ?_
      refine lv_iload_n hx hb dX2_answersOf_12 rfl (lv_at hl 1 rfl) ?_
      refine lv_iload hx hb dX2_answersOf_13 (lv_at hl 4 rfl) ?_
      refine ro_V (As := [.int (nI (u)), .int (nI (z))]) (v := (nI (s_knd n B u z))) ⟨hx, hb, hml, hown, hts⟩ (kX2_kindOf l D cI ad th n B P bs u z hB hPA h_u (by omega)) (cwV 2 hts gX2_answersOf_X2_kindOf rfl rfl rfl hdX2_kindOf ⟨Nat.le_of_ble_eq_true rfl, Nat.le_of_ble_eq_true rfl⟩) hK hP (ci := 4) rfl (q0 := 0) rfl rfl rfl hl.1 rfl (Nat.le_of_ble_eq_true rfl) dX2_answersOf_15 ⟨Nat.zero_le _, Nat.zero_le _⟩ ?_
      have hkd := s_knd_b n B u z
      refine lv_bipush (v := (nI (113))) hx hb dX2_answersOf_18 (by decide +kernel) ?_
      refine n_ne (tgt := 33) hx hb (by omega) (by omega) dX2_answersOf_20 (by decide) (fun c_2 => ?_) (fun c_2 => ?_)
      · refine lv_iload_n hx hb dX2_answersOf_33 rfl (lv_at hl 3 rfl) ?_
        refine lv_istore_n (lv' := [(3, .int (oI (s_an n B u z))), (0, .ref (ad 0)), (1, .int (nI (u))), (2, .int (nI (i))), (4, .int (nI (z)))]) hx hb dX2_answersOf_34 rfl hl (by decide) rfl (fun ls hl => ?_)
        refine lv_iinc (v := (nI (z + 1))) (lv' := [(4, .int (nI (z + 1))), (3, .int (oI (s_an n B u z))), (0, .ref (ad 0)), (1, .int (nI (u))), (2, .int (nI (i)))]) hx hb dX2_answersOf_35 hl (k := 4) rfl (nI_1 _) (by decide) rfl (fun ls hl => ?_)
        refine lv_goto (tgt := 5) hx hb dX2_answersOf_38 (by decide) ?_
        have e_3 : ((oI (s_an n B u z)) : Int32) = (oI (s_an n B u (z + 1))) := by first | rfl | (simp [oI_s, bI_t, bI_f, s_an, c_1, c_2, Nat.not_le.mp c_1]; done) | (simp [oI_s, bI_t, bI_f, s_an, c_1, c_2, Nat.not_le.mp c_1]; omega) | (simp only [s_an]; (repeat' split) <;> first | rfl | omega | (simp_all; done) | (simp_all; omega))
        exact ih_5 (z + 1) (by omega) (by omega) _ (show lv_has ls 5 [(0, .ref (ad 0)), (1, .int (nI (u))), (2, .int (nI (i))), (3, .int (oI (s_an n B u (z + 1)))), (4, .int (nI (z + 1)))] from by rw [← e_3]; exact lv_sub hl [2, 3, 4, 1, 0] rfl)
      refine lv_aload_n hx hb dX2_answersOf_23 rfl (lv_at hl 0 rfl) ?_
      refine lv_iload_n hx hb dX2_answersOf_24 rfl (lv_at hl 1 rfl) ?_
      refine lv_iload hx hb dX2_answersOf_25 (lv_at hl 4 rfl) ?_
      refine ro_V (As := [.int (nI (u)), .int (nI (z))]) (v := (nI (s_org n B u z))) ⟨hx, hb, hml, hown, hts⟩ (kX2_origin l D cI ad th n B P bs u z hB hPA h_u (by omega)) (cwV 2 hts gX2_answersOf_X2_origin rfl rfl rfl hdX2_origin ⟨Nat.le_of_ble_eq_true rfl, Nat.le_of_ble_eq_true rfl⟩) hK hP (ci := 4) rfl (q0 := 0) rfl rfl rfl hl.1 rfl (Nat.le_of_ble_eq_true rfl) dX2_answersOf_27 ⟨Nat.zero_le _, Nat.zero_le _⟩ ?_
      refine lv_goto (tgt := 34) hx hb dX2_answersOf_30 (by decide) ?_
      refine lv_istore_n (lv' := [(3, .int (nI (s_org n B u z))), (0, .ref (ad 0)), (1, .int (nI (u))), (2, .int (nI (i))), (4, .int (nI (z)))]) hx hb dX2_answersOf_34 rfl hl (by decide) rfl (fun ls hl => ?_)
      refine lv_iinc (v := (nI (z + 1))) (lv' := [(4, .int (nI (z + 1))), (3, .int (nI (s_org n B u z))), (0, .ref (ad 0)), (1, .int (nI (u))), (2, .int (nI (i)))]) hx hb dX2_answersOf_35 hl (k := 4) rfl (nI_1 _) (by decide) rfl (fun ls hl => ?_)
      refine lv_goto (tgt := 5) hx hb dX2_answersOf_38 (by decide) ?_
      have e_4 : ((nI (s_org n B u z)) : Int32) = (oI (s_an n B u (z + 1))) := by first | rfl | (simp [oI_s, bI_t, bI_f, s_an, c_1, c_2, Nat.not_le.mp c_1]; done) | (simp [oI_s, bI_t, bI_f, s_an, c_1, c_2, Nat.not_le.mp c_1]; omega) | (simp only [s_an]; (repeat' split) <;> first | rfl | omega | (simp_all; done) | (simp_all; omega))
      exact ih_5 (z + 1) (by omega) (by omega) _ (show lv_has ls 5 [(0, .ref (ad 0)), (1, .int (nI (u))), (2, .int (nI (i))), (3, .int (oI (s_an n B u (z + 1)))), (4, .int (nI (z + 1)))] from by rw [← e_4]; exact lv_sub hl [2, 3, 4, 1, 0] rfl)
  have e_5 : ((oI (none)) : Int32) = (oI (s_an n B u 0)) := by first | rfl | (simp [oI_s, bI_t, bI_f, s_an]; done) | (simp [oI_s, bI_t, bI_f, s_an]; omega) | (simp only [s_an]; (repeat' split) <;> first | rfl | omega | (simp_all; done) | (simp_all; omega))
  exact loop_5 (i - 0 + 1) 0 (by omega) (by omega) _ (show lv_has ls 5 [(0, .ref (ad 0)), (1, .int (nI (u))), (2, .int (nI (i))), (3, .int (oI (s_an n B u 0))), (4, .int (nI (0)))] from by rw [← e_5]; exact lv_sub hl [2, 3, 4, 1, 0] rfl)
theorem hdX2_answersOf : yX2_answersOf.cls = RX2 ∧ yX2_answersOf.cls ≠ "java/lang/invoke/MethodHandle" ∧ yX2_answersOf.cls ≠ "java/lang/invoke/VarHandle" ∧ (parseMethodDescriptor yX2_answersOf.desc).map (fun d => d.parameters.length) = some 2 := by decide +kernel
set_option maxHeartbeats 4000000 in
set_option maxRecDepth 100000 in
theorem kX2_rootOf (l : Launch) (D : va_G) (cI : ClassId) (ad : Nat → Nat) (th : Nat) (n : Nat) (B : Nat → Nat → Nat) (P : Nat → Option Nat) (bs : Nat → Nat) (u : Nat) (hB : Bok n B) (h_u : u < n) : Met l yX2_rootOf wsX2_rootOf ({ frames := 2, cells := 0, slots := 0, locals := 44 }) (PcR D [(cI, .int)] (wM cI ad th n B P bs) [.ref (ad 0), .int (nI (u))]) (vp_Si (fun r => r = (nI (s_root n B u)))) 0 0 (fun _ => False) := by
  refine Met.ofW (cc := cX2_rootOf) (maxL := 3) (ret := (some .int)) (by decide) rfl ?_
  intro p e s m args below meth c s₁ BL hml hv
  obtain ⟨rfl, hP, hK⟩ := hv
  have hx := BL.exec
  have hb := BL.bytes
  have hr := BL.returns
  have hts := atoms_spec (ws := wsX2_rootOf) BL.pre
  have hown : s.vm.findClass RX2 = some m.cls := findClass_of_methodNamed BL.named
  have hlocks := BL.notSynchronized
  have hin : ∀ w ∈ wsX20, w ∈ wsX2_rootOf := by decide +kernel
  have hf_16 := hts (.fieldLink RX2 16 "TalkRebuilderModel" "subject" "[I") (by decide +kernel)
  have hl := lv_entry ([.ref (ad 0), .int (nI (u))]) (n := 3) (Nat.le_of_ble_eq_true rfl)
  rw [lg_entry_eq]
  generalize (lg_sl ([.ref (ad 0), .int (nI (u))]) ++ List.replicate (3 - (lg_sl ([.ref (ad 0), .int (nI (u))])).length) Slot.unset).toArray = ls at hl ⊢
  have hl : lv_has ls 3 [(0, .ref (ad 0)), (1, .int (nI (u)))] := hl
  have hn10 := hB.1
  refine lv_iload_n hx hb dX2_rootOf_0 rfl (lv_at hl 1 rfl) ?_
  refine lv_istore_n (lv' := [(2, .int (nI (u))), (0, .ref (ad 0)), (1, .int (nI (u)))]) hx hb dX2_rootOf_1 rfl hl (by decide) rfl (fun ls hl => ?_)
  have loop_2 : ∀ (N : Nat) (z : Nat) (k : Nat), k < N → (z < n) → (B 0 z < k) → (s_rt n B 100 u = s_rt n B k z) → ∀ (ls : Array Slot), lv_has ls 3 [(0, .ref (ad 0)), (1, .int (nI (u))), (2, .int (nI (z)))] → W p l e (headSpec wsX2_rootOf ({ frames := 2, cells := 0, slots := 0, locals := 44 })).room s m ([.ref (ad 0), .int (nI (u))] : List Value).toArray below meth c s.heap [] 0 0 (MQ below (vp_Si (fun r => r = (nI (s_root n B u)))) ([.ref (ad 0), .int (nI (u))] : List Value).toArray s 0 0 (fun _ => False)) (F0 m 2 ls []) := by
    intro N
    induction N with
    | zero => intro z k hmu; exact absurd hmu (Nat.not_lt_zero _)
    | succ N ih_2 =>
      intro z k hmu_2 h_z h_k h_o ls hl
      have hdt := hB.2.2.2.1 z h_z
      refine lv_aload_n hx hb dX2_rootOf_2 rfl (lv_at hl 0 rfl) ?_
      refine lv_iload_n hx hb dX2_rootOf_3 rfl (lv_at hl 2 rfl) ?_
      refine ro_V (As := [.int (nI (z))]) (v := (oI (s_par n B z))) ⟨hx, hb, hml, hown, hts⟩ (kX2_parentOf l D cI ad th n B P bs z hB (by omega)) (cwV 1 hts gX2_rootOf_X2_parentOf rfl rfl rfl hdX2_parentOf ⟨Nat.le_of_ble_eq_true rfl, Nat.le_of_ble_eq_true rfl⟩) hK hP (ci := 4) rfl (q0 := 0) rfl rfl rfl hl.1 rfl (Nat.le_of_ble_eq_true rfl) dX2_rootOf_4 ⟨Nat.zero_le _, Nat.zero_le _⟩ ?_
      refine lv_iconst (v := (oI (none))) hx hb dX2_rootOf_7 (by decide +kernel) ?_
      refine o_eq (tgt := 39) hx hb (s_par_b hn10) dX2_rootOf_8 (by decide) (fun c_1 => ?_) (fun kc_1 c_1 => ?_)
      · have h_e : s_root n B u = z := h_o.trans (s_rt_none (by simp [s_pit, c_1]))
        refine lv_iload_n hx hb dX2_rootOf_39 rfl (lv_at hl 2 rfl) ?_
        exact W.iret (v := (nI (z))) hx hb hr (fun t ht hW => ⟨_, rfl, by first | rfl | (simp [oI_s, bI_t, bI_f, c_1, h_e]; done) | (simp [oI_s, bI_t, bI_f, c_1, h_e]; omega), ht⟩) (fun _ h => nomatch h) dX2_rootOf_40
      have hq1 := s_par_lt c_1
      refine lv_aload_n hx hb dX2_rootOf_11 rfl (lv_at hl 0 rfl) ?_
      refine va_get (D := D) (ci := 4) (v := .ref (ad 3)) (C := RX2) (T := TX2) (N := 11) hx hb hts hin hown hK hP 0 rfl rfl 4 (by decide) hf_16 (fun _ h9 => h9) rfl dX2_rootOf_12 ?_
      refine lv_aload_n hx hb dX2_rootOf_15 rfl (lv_at hl 0 rfl) ?_
      refine lv_iload_n hx hb dX2_rootOf_16 rfl (lv_at hl 2 rfl) ?_
      refine ro_V (As := [.int (nI (z))]) (v := (oI (s_par n B z))) ⟨hx, hb, hml, hown, hts⟩ (kX2_parentOf l D cI ad th n B P bs z hB (by omega)) (cwV 1 hts gX2_rootOf_X2_parentOf rfl rfl rfl hdX2_parentOf ⟨Nat.le_of_ble_eq_true rfl, Nat.le_of_ble_eq_true rfl⟩) hK hP (ci := 4) rfl (q0 := 0) rfl rfl rfl hl.1 rfl (Nat.le_of_ble_eq_true rfl) dX2_rootOf_17 ⟨Nat.zero_le _, Nat.zero_le _⟩ ?_
      refine n_top (y := (nI (kc_1))) (by rw [c_1]; rfl) ?_
      refine n_iald hx hb hK hP 3 0 rfl rfl (i := kc_1) (by omega) (by decide) dX2_rootOf_20 ?_
      have hq_2 := hB.2.1 2 kc_1
      refine lv_aload_n hx hb dX2_rootOf_21 rfl (lv_at hl 0 rfl) ?_
      refine va_get (D := D) (ci := 4) (v := .ref (ad 3)) (C := RX2) (T := TX2) (N := 11) hx hb hts hin hown hK hP 0 rfl rfl 4 (by decide) hf_16 (fun _ h9 => h9) rfl dX2_rootOf_22 ?_
      refine lv_iload_n hx hb dX2_rootOf_25 rfl (lv_at hl 2 rfl) ?_
      refine n_iald hx hb hK hP 3 0 rfl rfl (i := z) (by omega) (by decide) dX2_rootOf_26 ?_
      have hq_3 := hB.2.1 2 z
      refine n_ne (tgt := 39) hx hb (by omega) (by omega) dX2_rootOf_27 (by decide) (fun c_4 => ?_) (fun c_4 => ?_)
      · have h_e : s_root n B u = z := h_o.trans (s_rt_none (by simp [s_pit, c_1, c_4]))
        refine lv_iload_n hx hb dX2_rootOf_39 rfl (lv_at hl 2 rfl) ?_
        exact W.iret (v := (nI (z))) hx hb hr (fun t ht hW => ⟨_, rfl, by first | rfl | (simp [oI_s, bI_t, bI_f, c_1, c_4, h_e]; done) | (simp [oI_s, bI_t, bI_f, c_1, c_4, h_e]; omega), ht⟩) (fun _ h => nomatch h) dX2_rootOf_40
      refine lv_aload_n hx hb dX2_rootOf_30 rfl (lv_at hl 0 rfl) ?_
      refine lv_iload_n hx hb dX2_rootOf_31 rfl (lv_at hl 2 rfl) ?_
      refine ro_V (As := [.int (nI (z))]) (v := (oI (s_par n B z))) ⟨hx, hb, hml, hown, hts⟩ (kX2_parentOf l D cI ad th n B P bs z hB (by omega)) (cwV 1 hts gX2_rootOf_X2_parentOf rfl rfl rfl hdX2_parentOf ⟨Nat.le_of_ble_eq_true rfl, Nat.le_of_ble_eq_true rfl⟩) hK hP (ci := 4) rfl (q0 := 0) rfl rfl rfl hl.1 rfl (Nat.le_of_ble_eq_true rfl) dX2_rootOf_32 ⟨Nat.zero_le _, Nat.zero_le _⟩ ?_
      refine n_top (y := (nI (kc_1))) (by rw [c_1]; rfl) ?_
      refine lv_istore_n (lv' := [(2, .int (nI (kc_1))), (0, .ref (ad 0)), (1, .int (nI (u)))]) hx hb dX2_rootOf_35 rfl hl (by decide) rfl (fun ls hl => ?_)
      refine lv_goto (tgt := 2) hx hb dX2_rootOf_36 (by decide) ?_
      exact ih_2 kc_1 (k - 1) (by omega) (by first | assumption | omega) (by first | omega | (have := hB.2.1 0 u; omega)) (by first | rfl | exact s_rt_step h_o (by omega) (by simp [s_pit, c_1, c_4])) _ (show lv_has ls 3 [(0, .ref (ad 0)), (1, .int (nI (u))), (2, .int (nI (kc_1)))] from by exact lv_sub hl [1, 2, 0] rfl)
  exact loop_2 (100 + 1) u 100 (by omega) (by first | assumption | omega) (by first | omega | (have := hB.2.1 0 u; omega)) (by first | rfl | exact s_rt_step h_o (by omega) (by simp [s_pit, ])) _ (show lv_has ls 3 [(0, .ref (ad 0)), (1, .int (nI (u))), (2, .int (nI (u)))] from by exact lv_sub hl [1, 2, 0] rfl)
theorem hdX2_rootOf : yX2_rootOf.cls = RX2 ∧ yX2_rootOf.cls ≠ "java/lang/invoke/MethodHandle" ∧ yX2_rootOf.cls ≠ "java/lang/invoke/VarHandle" ∧ (parseMethodDescriptor yX2_rootOf.desc).map (fun d => d.parameters.length) = some 1 := by decide +kernel
set_option maxHeartbeats 4000000 in
set_option maxRecDepth 100000 in
theorem kX2_heads (l : Launch) (D : va_G) (cI : ClassId) (ad : Nat → Nat) (th : Nat) (n : Nat) (B : Nat → Nat → Nat) (P : Nat → Option Nat) (bs : Nat → Nat) (hB : Bok n B) : Met l yX2_heads wsX2_heads ({ frames := 3, cells := 0, slots := 0, locals := 66 }) (PcR D [(cI, .int)] (wM cI ad th n B P bs) [.ref (ad 0)]) (vp_Si (fun r => r = (nI (s_heads n B)))) 0 0 (fun _ => False) := by
  refine Met.ofW (cc := cX2_heads) (maxL := 3) (ret := (some .int)) (by decide) rfl ?_
  intro p e s m args below meth c s₁ BL hml hv
  obtain ⟨rfl, hP, hK⟩ := hv
  have hx := BL.exec
  have hb := BL.bytes
  have hr := BL.returns
  have hts := atoms_spec (ws := wsX2_heads) BL.pre
  have hown : s.vm.findClass RX2 = some m.cls := findClass_of_methodNamed BL.named
  have hlocks := BL.notSynchronized
  have hin : ∀ w ∈ wsX20, w ∈ wsX2_heads := by decide +kernel
  have hf_41 := hts (.fieldLink RX2 41 "TalkRebuilderModel" "mails" "I") (by decide +kernel)
  have hl := lv_entry ([.ref (ad 0)]) (n := 3) (Nat.le_of_ble_eq_true rfl)
  rw [lg_entry_eq]
  generalize (lg_sl ([.ref (ad 0)]) ++ List.replicate (3 - (lg_sl ([.ref (ad 0)])).length) Slot.unset).toArray = ls at hl ⊢
  have hl : lv_has ls 3 [(0, .ref (ad 0))] := hl
  have hn10 := hB.1
  refine lv_iconst (v := (nI (0))) hx hb dX2_heads_0 (by decide +kernel) ?_
  refine lv_istore_n (lv' := [(1, .int (nI (0))), (0, .ref (ad 0))]) hx hb dX2_heads_1 rfl hl (by decide) rfl (fun ls hl => ?_)
  refine lv_iconst (v := (nI (0))) hx hb dX2_heads_2 (by decide +kernel) ?_
  refine lv_istore_n (lv' := [(2, .int (nI (0))), (1, .int (nI (0))), (0, .ref (ad 0))]) hx hb dX2_heads_3 rfl hl (by decide) rfl (fun ls hl => ?_)
  have loop_4 : ∀ (N : Nat) (z : Nat), n - z < N → (z ≤ n) → ∀ (ls : Array Slot), lv_has ls 3 [(0, .ref (ad 0)), (1, .int (nI (ct (fun m => decide (s_root n B m = m)) z))), (2, .int (nI (z)))] → W p l e (headSpec wsX2_heads ({ frames := 3, cells := 0, slots := 0, locals := 66 })).room s m ([.ref (ad 0)] : List Value).toArray below meth c s.heap [] 0 0 (MQ below (vp_Si (fun r => r = (nI (s_heads n B)))) ([.ref (ad 0)] : List Value).toArray s 0 0 (fun _ => False)) (F0 m 4 ls []) := by
    intro N
    induction N with
    | zero => intro z hmu; exact absurd hmu (Nat.not_lt_zero _)
    | succ N ih_4 =>
      intro z hmu_4 h_z ls hl
      refine lv_iload_n hx hb dX2_heads_4 rfl (lv_at hl 2 rfl) ?_
      refine lv_aload_n hx hb dX2_heads_5 rfl (lv_at hl 0 rfl) ?_
      refine va_get (D := D) (ci := 4) (v := .int (nI (n))) (C := RX2) (T := TX2) (N := 11) hx hb hts hin hown hK hP 0 rfl rfl 1 (by decide) hf_41 (fun _ h9 => h9) rfl dX2_heads_6 ?_
      refine n_ge (tgt := 35) hx hb (by omega) (by omega) dX2_heads_9 (by decide) (fun c_1 => ?_) (fun c_1 => ?_)
      · have hzn : n = z := by omega
        refine lv_iload_n hx hb dX2_heads_35 rfl (lv_at hl 1 rfl) ?_
        exact W.iret (v := (nI (ct (fun m => decide (s_root n B m = m)) z))) hx hb hr (fun t ht hW => ⟨_, rfl, by first | rfl | (simp [oI_s, bI_t, bI_f, s_heads, c_1, hzn, Nat.not_lt.mpr c_1]; done) | (simp [oI_s, bI_t, bI_f, s_heads, c_1, hzn, Nat.not_lt.mpr c_1]; omega) | (simp only [s_heads]; (repeat' split) <;> first | rfl | omega | (simp_all; done) | (simp_all; omega)), ht⟩) (fun _ h => nomatch h) dX2_heads_36
      refine lv_iload_n hx hb dX2_heads_12 rfl (lv_at hl 1 rfl) ?_
      refine lv_aload_n hx hb dX2_heads_13 rfl (lv_at hl 0 rfl) ?_
      refine lv_iload_n hx hb dX2_heads_14 rfl (lv_at hl 2 rfl) ?_
      refine ro_V (As := [.int (nI (z))]) (v := (nI (s_root n B z))) ⟨hx, hb, hml, hown, hts⟩ (kX2_rootOf l D cI ad th n B P bs z hB (by omega)) (cwV 1 hts gX2_heads_X2_rootOf rfl rfl rfl hdX2_rootOf ⟨Nat.le_of_ble_eq_true rfl, Nat.le_of_ble_eq_true rfl⟩) hK hP (ci := 4) rfl (q0 := 0) rfl rfl rfl hl.1 rfl (Nat.le_of_ble_eq_true rfl) dX2_heads_15 ⟨Nat.zero_le _, Nat.zero_le _⟩ ?_
      have hrt : s_root n B z < n := s_rt_lt (by omega)
      refine lv_iload_n hx hb dX2_heads_18 rfl (lv_at hl 2 rfl) ?_
      refine n_ne (tgt := 26) hx hb (by omega) (by omega) dX2_heads_19 (by decide) (fun c_2 => ?_) (fun c_2 => ?_)
      · refine lv_iconst (v := (nI (0))) hx hb dX2_heads_26 (by decide +kernel) ?_
        refine lv_iadd hx hb dX2_heads_27 ?_
        refine n_top (y := (nI (ct (fun m => decide (s_root n B m = m)) z + 0))) (nI_add _ _) ?_
        refine lv_istore_n (lv' := [(1, .int (nI (ct (fun m => decide (s_root n B m = m)) z + 0))), (0, .ref (ad 0)), (2, .int (nI (z)))]) hx hb dX2_heads_28 rfl hl (by decide) rfl (fun ls hl => ?_)
        refine lv_iinc (v := (nI (z + 1))) (lv' := [(2, .int (nI (z + 1))), (1, .int (nI (ct (fun m => decide (s_root n B m = m)) z + 0))), (0, .ref (ad 0))]) hx hb dX2_heads_29 hl (k := 2) rfl (nI_1 _) (by decide) rfl (fun ls hl => ?_)
        refine lv_goto (tgt := 4) hx hb dX2_heads_32 (by decide) ?_
        have e_3 : ((nI (ct (fun m => decide (s_root n B m = m)) z + 0)) : Int32) = (nI (ct (fun m => decide (s_root n B m = m)) (z + 1))) := by first | rfl | (simp [oI_s, bI_t, bI_f, ct, c_1, c_2, Nat.not_le.mp c_1]; done) | (simp [oI_s, bI_t, bI_f, ct, c_1, c_2, Nat.not_le.mp c_1]; omega) | (simp only [ct]; (repeat' split) <;> first | rfl | omega | (simp_all; done) | (simp_all; omega))
        exact ih_4 (z + 1) (by omega) (by omega) _ (show lv_has ls 3 [(0, .ref (ad 0)), (1, .int (nI (ct (fun m => decide (s_root n B m = m)) (z + 1)))), (2, .int (nI (z + 1)))] from by rw [← e_3]; exact lv_sub hl [2, 1, 0] rfl)
      refine lv_iconst (v := (nI (1))) hx hb dX2_heads_22 (by decide +kernel) ?_
      refine lv_goto (tgt := 27) hx hb dX2_heads_23 (by decide) ?_
      refine lv_iadd hx hb dX2_heads_27 ?_
      refine n_top (y := (nI (ct (fun m => decide (s_root n B m = m)) z + 1))) (nI_add _ _) ?_
      refine lv_istore_n (lv' := [(1, .int (nI (ct (fun m => decide (s_root n B m = m)) z + 1))), (0, .ref (ad 0)), (2, .int (nI (z)))]) hx hb dX2_heads_28 rfl hl (by decide) rfl (fun ls hl => ?_)
      refine lv_iinc (v := (nI (z + 1))) (lv' := [(2, .int (nI (z + 1))), (1, .int (nI (ct (fun m => decide (s_root n B m = m)) z + 1))), (0, .ref (ad 0))]) hx hb dX2_heads_29 hl (k := 2) rfl (nI_1 _) (by decide) rfl (fun ls hl => ?_)
      refine lv_goto (tgt := 4) hx hb dX2_heads_32 (by decide) ?_
      have e_4 : ((nI (ct (fun m => decide (s_root n B m = m)) z + 1)) : Int32) = (nI (ct (fun m => decide (s_root n B m = m)) (z + 1))) := by first | rfl | (simp [oI_s, bI_t, bI_f, ct, c_1, c_2, Nat.not_le.mp c_1]; done) | (simp [oI_s, bI_t, bI_f, ct, c_1, c_2, Nat.not_le.mp c_1]; omega) | (simp only [ct]; (repeat' split) <;> first | rfl | omega | (simp_all; done) | (simp_all; omega))
      exact ih_4 (z + 1) (by omega) (by omega) _ (show lv_has ls 3 [(0, .ref (ad 0)), (1, .int (nI (ct (fun m => decide (s_root n B m = m)) (z + 1)))), (2, .int (nI (z + 1)))] from by rw [← e_4]; exact lv_sub hl [2, 1, 0] rfl)
  have e_5 : ((nI (0)) : Int32) = (nI (ct (fun m => decide (s_root n B m = m)) 0)) := by first | rfl | (simp [oI_s, bI_t, bI_f, ct]; done) | (simp [oI_s, bI_t, bI_f, ct]; omega) | (simp only [ct]; (repeat' split) <;> first | rfl | omega | (simp_all; done) | (simp_all; omega))
  exact loop_4 (n - 0 + 1) 0 (by omega) (by omega) _ (show lv_has ls 3 [(0, .ref (ad 0)), (1, .int (nI (ct (fun m => decide (s_root n B m = m)) 0))), (2, .int (nI (0)))] from by rw [← e_5]; exact lv_sub hl [2, 1, 0] rfl)
theorem hdX2_heads : yX2_heads.cls = RX2 ∧ yX2_heads.cls ≠ "java/lang/invoke/MethodHandle" ∧ yX2_heads.cls ≠ "java/lang/invoke/VarHandle" ∧ (parseMethodDescriptor yX2_heads.desc).map (fun d => d.parameters.length) = some 0 := by decide +kernel
