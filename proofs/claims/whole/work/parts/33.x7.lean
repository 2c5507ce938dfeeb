set_option maxHeartbeats 4000000 in
set_option maxRecDepth 100000 in
theorem kX1_newShare (l : Launch) (hfl : l.stackTraces = false) (D : va_G) (cI cZ cA : ClassId) (ax : Nat → Nat) (n : Nat) (B : Nat → Nat → Nat) (Q : Nat → Option Nat) (cn : Nat → Bool) (rt : Nat → Nat) (wd : Nat → Option Nat) (qf : Nat → Option Nat) (T : Nat → Nat → Nat) (hB : Bok n B) (hQ : QA n B Q) : vx_Met l yX1_newShare wsX1_newShare ({ frames := 6, cells := 1, slots := 6, locals := 137 }) (PcX D [(cI, .int), (cZ, .boolean), (cA, .array .int)] (wX cI cZ cA ax n B Q cn rt wd qf T) [.ref (ax 0)]) (vp_Sf (fun r => r = (s_ns n B) ∧ ¬ s_sl B n = 0)) (XCf (fun E => E = "java/lang/ArithmeticException" ∧ s_sl B n = 0)) 1 6 (fun _ => False) := by
  refine vx_ofW (cc := cX1_newShare) (maxL := 3) (ret := (some .float)) (by decide) rfl ?_
  intro p e s m args below meth c s₁ BL hml hno hv
  obtain ⟨rfl, hP, hK, hE⟩ := hv
  have hx := BL.exec
  have hb := BL.bytes
  have hr := BL.returns
  have hts := atoms_spec (ws := wsX1_newShare) BL.pre
  have hown : s.vm.findClass RX1 = some m.cls := findClass_of_methodNamed BL.named
  have hlocks := BL.notSynchronized
  have hin : ∀ w ∈ wsX10, w ∈ wsX1_newShare := by decide +kernel
  have hf_9 := hts (.fieldLink RX1 9 "TalkRebuilder" "mailCount" "I") (by decide +kernel)
  have hf_26 := hts (.fieldLink RX1 26 "TalkRebuilder" "lineCounts" "[I") (by decide +kernel)
  have hk_171 := hts (.classLink RX1 171 "java/lang/ArithmeticException") (by decide +kernel)
  have hi_171 := hts (.initialized "java/lang/ArithmeticException") (by decide +kernel)
  have hg_171 : ∀ w ∈ (vx_atS RX1 175 "java/lang/ArithmeticException" xN).filter goodWord, w.before _ s = true := fun w h => hts w (List.mem_cons_of_mem _ (List.mem_append_right _ h))
  have hl := lv_entry ([.ref (ax 0)]) (n := 3) (Nat.le_of_ble_eq_true rfl)
  rw [lg_entry_eq]
  generalize (lg_sl ([.ref (ax 0)]) ++ List.replicate (3 - (lg_sl ([.ref (ax 0)])).length) Slot.unset).toArray = ls at hl ⊢
  have hl : lv_has ls 3 [(0, .ref (ax 0))] := hl
  have hn10 := hB.1
  refine lv_iconst (v := (nI (0))) hx hb dX1_newShare_0 (by decide +kernel) ?_
  refine lv_istore_n (lv' := [(1, .int (nI (0))), (0, .ref (ax 0))]) hx hb dX1_newShare_1 rfl hl (by decide) rfl (fun ls hl => ?_)
  refine lv_iconst (v := (nI (0))) hx hb dX1_newShare_2 (by decide +kernel) ?_
  refine lv_istore_n (lv' := [(2, .int (nI (0))), (1, .int (nI (0))), (0, .ref (ax 0))]) hx hb dX1_newShare_3 rfl hl (by decide) rfl (fun ls hl => ?_)
  have loop_4 : ∀ (N : Nat) (z : Nat), n - z < N → (z ≤ n) → ∀ (ls : Array Slot), lv_has ls 3 [(0, .ref (ax 0)), (1, .int (nI (s_sl B z))), (2, .int (nI (z)))] → W p l e (headSpec wsX1_newShare ({ frames := 6, cells := 1, slots := 6, locals := 137 })).room s m ([.ref (ax 0)] : List Value).toArray below meth c s.heap [] 0 0 (vx_MQ below (vp_Sf (fun r => r = (s_ns n B) ∧ ¬ s_sl B n = 0)) (XCf (fun E => E = "java/lang/ArithmeticException" ∧ s_sl B n = 0)) ([.ref (ax 0)] : List Value).toArray s 1 6 (fun _ => False)) (F0 m 4 ls []) := by
    intro N
    induction N with
    | zero => intro z hmu; exact absurd hmu (Nat.not_lt_zero _)
    | succ N ih_4 =>
      intro z hmu_4 h_z ls hl
      refine lv_iload_n hx hb dX1_newShare_4 rfl (lv_at hl 2 rfl) ?_
      refine lv_aload_n hx hb dX1_newShare_5 rfl (lv_at hl 0 rfl) ?_
      refine va_get (D := D) (ci := 3) (v := .int (nI (n))) (C := RX1) (T := TX1) (N := 12) hx hb hts hin hown hK hP 0 rfl rfl 0 (by decide) hf_9 (fun _ h9 => h9) rfl dX1_newShare_6 ?_
      refine n_ge (tgt := 27) hx hb (by omega) (by omega) dX1_newShare_9 (by decide) (fun c_1 => ?_) (fun c_1 => ?_)
      · have hz1 : z = n := by omega
        have hsl : s_sl B z = s_sl B n := by rw [hz1]
        have hs80 := s_sl_80 hB
        have ht80 := s_tk_le hB
        refine lv_iload_n hx hb dX1_newShare_27 rfl (lv_at hl 1 rfl) ?_
        refine z_ne (tgt := 41) hx hb (by omega) dX1_newShare_28 (by decide) (fun c_2 => ?_) (fun c_2 => ?_)
        · refine lv_aload_n hx hb dX1_newShare_41 rfl (lv_at hl 0 rfl) ?_
          refine ro_V (As := []) (v := (nI (s_tk n B))) ⟨hx, hb, hml, hown, hts⟩ (kX1_talk l D cI cZ cA ax n B Q cn rt wd qf T  hB hQ) (cwV 0 hts gX1_newShare_X1_talk rfl rfl rfl hdX1_talk ⟨Nat.le_of_ble_eq_true rfl, Nat.le_of_ble_eq_true rfl⟩) hK hP (ci := 3) rfl (q0 := 0) rfl rfl rfl hl.1 rfl (Nat.le_of_ble_eq_true rfl) dX1_newShare_42 ⟨Nat.le_of_ble_eq_true rfl, Nat.le_of_ble_eq_true rfl⟩ ?_
          refine lv_i2f hx hb dX1_newShare_45 ?_
          refine lv_iload_n hx hb dX1_newShare_46 rfl (lv_at hl 1 rfl) ?_
          refine lv_i2f hx hb dX1_newShare_47 ?_
          refine lv_fdiv hx hb dX1_newShare_48 (by rw [hsl] at *; exact ns_ok hB (by omega)) ?_
          refine vx_ret ?_
          refine W.widen (k := 1) (n := 6) (Nat.le_of_ble_eq_true rfl) (Nat.le_of_ble_eq_true rfl) ?_
          exact W.fret hx hb hr (fun t ht hW => ⟨_, rfl, ⟨(by unfold s_ns; rw [hsl]), (by rw [← hsl]; exact c_2)⟩, ht⟩) (fun _ h => nomatch h) dX1_newShare_49
        exact x_thr hx hb hfl hown xf_ARE hk_171 hi_171 hg_171 xb_ARE (by decide +kernel) hE (is := 173) (text := "there are no lines") (by decide +kernel) (hl.1.trans hml.symm) dX1_newShare_31 dX1_newShare_34 dX1_newShare_35 dX1_newShare_37 dX1_newShare_40 hno (Nat.le_of_ble_eq_true rfl) (Nat.le_of_ble_eq_true rfl) (Nat.le_of_ble_eq_true rfl) (Nat.le_of_ble_eq_true rfl) hlocks (⟨rfl, by rw [← hsl]; exact c_2⟩) (Nat.le_of_ble_eq_true rfl) (Nat.le_of_ble_eq_true rfl)
      refine lv_iload_n hx hb dX1_newShare_12 rfl (lv_at hl 1 rfl) ?_
      refine lv_aload_n hx hb dX1_newShare_13 rfl (lv_at hl 0 rfl) ?_
      refine va_get (D := D) (ci := 3) (v := .ref (ax 5)) (C := RX1) (T := TX1) (N := 12) hx hb hts hin hown hK hP 0 rfl rfl 5 (by decide) hf_26 (fun _ h9 => h9) rfl dX1_newShare_14 ?_
      refine lv_iload_n hx hb dX1_newShare_17 rfl (lv_at hl 2 rfl) ?_
      refine n_iald hx hb hK hP 5 0 rfl rfl (i := z) (by omega) (by decide) dX1_newShare_18 ?_
      have hq_3 := hB.2.2.1 z
      refine lv_iadd hx hb dX1_newShare_19 ?_
      refine n_top (y := (nI (s_sl B z + (B 4 z)))) (nI_add _ _) ?_
      refine lv_istore_n (lv' := [(1, .int (nI (s_sl B z + (B 4 z)))), (0, .ref (ax 0)), (2, .int (nI (z)))]) hx hb dX1_newShare_20 rfl hl (by decide) rfl (fun ls hl => ?_)
      refine lv_iinc (v := (nI (z + 1))) (lv' := [(2, .int (nI (z + 1))), (1, .int (nI (s_sl B z + (B 4 z)))), (0, .ref (ax 0))]) hx hb dX1_newShare_21 hl (k := 2) rfl (nI_1 _) (by decide) rfl (fun ls hl => ?_)
      refine lv_goto (tgt := 4) hx hb dX1_newShare_24 (by decide) ?_
      have e_4 : ((nI (s_sl B z + (B 4 z))) : Int32) = (nI (s_sl B (z + 1))) := by rfl
      exact ih_4 (z + 1) (by omega) (by omega) _ (show lv_has ls 3 [(0, .ref (ax 0)), (1, .int (nI (s_sl B (z + 1)))), (2, .int (nI (z + 1)))] from by rw [← e_4]; exact lv_sub hl [2, 1, 0] rfl)
  have e_5 : ((nI (0)) : Int32) = (nI (s_sl B 0)) := by rfl
  exact loop_4 (n - 0 + 1) 0 (by omega) (by omega) _ (show lv_has ls 3 [(0, .ref (ax 0)), (1, .int (nI (s_sl B 0))), (2, .int (nI (0)))] from by rw [← e_5]; exact lv_sub hl [2, 1, 0] rfl)
theorem hdX1_newShare : yX1_newShare.cls = RX1 ∧ yX1_newShare.cls ≠ "java/lang/invoke/MethodHandle" ∧ yX1_newShare.cls ≠ "java/lang/invoke/VarHandle" ∧ (parseMethodDescriptor yX1_newShare.desc).map (fun d => d.parameters.length) = some 0 := by decide +kernel
set_option maxHeartbeats 4000000 in
set_option maxRecDepth 100000 in
theorem kX1_meanSize (l : Launch) (hfl : l.stackTraces = false) (D : va_G) (cI cZ cA : ClassId) (ax : Nat → Nat) (n : Nat) (B : Nat → Nat → Nat) (Q : Nat → Option Nat) (cn : Nat → Bool) (rt : Nat → Nat) (wd : Nat → Option Nat) (qf : Nat → Option Nat) (T : Nat → Nat → Nat) (hB : Bok n B) : vx_Met l yX1_meanSize wsX1_meanSize ({ frames := 6, cells := 1, slots := 6, locals := 112 }) (PcX D [(cI, .int), (cZ, .boolean), (cA, .array .int)] (wX cI cZ cA ax n B Q cn rt wd qf T) [.ref (ax 0)]) (vp_Sd (fun r => r = (s_mz n B) ∧ ¬ n = 0)) (XCf (fun E => E = "java/lang/ArithmeticException" ∧ n = 0)) 1 6 (fun _ => False) := by
  refine vx_ofW (cc := cX1_meanSize) (maxL := 2) (ret := (some .double)) (by decide) rfl ?_
  intro p e s m args below meth c s₁ BL hml hno hv
  obtain ⟨rfl, hP, hK, hE⟩ := hv
  have hx := BL.exec
  have hb := BL.bytes
  have hr := BL.returns
  have hts := atoms_spec (ws := wsX1_meanSize) BL.pre
  have hown : s.vm.findClass RX1 = some m.cls := findClass_of_methodNamed BL.named
  have hlocks := BL.notSynchronized
  have hin : ∀ w ∈ wsX10, w ∈ wsX1_meanSize := by decide +kernel
  have hf_9 := hts (.fieldLink RX1 9 "TalkRebuilder" "mailCount" "I") (by decide +kernel)
  have hk_171 := hts (.classLink RX1 171 "java/lang/ArithmeticException") (by decide +kernel)
  have hi_171 := hts (.initialized "java/lang/ArithmeticException") (by decide +kernel)
  have hg_171 : ∀ w ∈ (vx_atS RX1 175 "java/lang/ArithmeticException" xN).filter goodWord, w.before _ s = true := fun w h => hts w (List.mem_cons_of_mem _ (List.mem_append_left _ (List.mem_append_right _ h)))
  have hl := lv_entry ([.ref (ax 0)]) (n := 2) (Nat.le_of_ble_eq_true rfl)
  rw [lg_entry_eq]
  generalize (lg_sl ([.ref (ax 0)]) ++ List.replicate (2 - (lg_sl ([.ref (ax 0)])).length) Slot.unset).toArray = ls at hl ⊢
  have hl : lv_has ls 2 [(0, .ref (ax 0))] := hl
  have hn10 := hB.1
  have hhl := heads_le n B
  refine lv_aload_n hx hb dX1_meanSize_0 rfl (lv_at hl 0 rfl) ?_
  refine ro_V (As := []) (v := (nI (s_heads n B))) ⟨hx, hb, hml, hown, hts⟩ (kX1_threads l D cI cZ cA ax n B Q cn rt wd qf T  hB) (cwV 0 hts gX1_meanSize_X1_threads rfl rfl rfl hdX1_threads ⟨Nat.le_of_ble_eq_true rfl, Nat.le_of_ble_eq_true rfl⟩) hK hP (ci := 3) rfl (q0 := 0) rfl rfl rfl hl.1 rfl (Nat.le_of_ble_eq_true rfl) dX1_meanSize_1 ⟨Nat.le_of_ble_eq_true rfl, Nat.le_of_ble_eq_true rfl⟩ ?_
  refine lv_istore_n (lv' := [(1, .int (nI (s_heads n B))), (0, .ref (ax 0))]) hx hb dX1_meanSize_4 rfl hl (by decide) rfl (fun ls hl => ?_)
  refine lv_iload_n hx hb dX1_meanSize_5 rfl (lv_at hl 0 rfl) ?_
  refine z_ne (tgt := 19) hx hb (by omega) dX1_meanSize_6 (by decide) (fun c_1 => ?_) (fun c_1 => ?_)
  · refine lv_aload_n hx hb dX1_meanSize_19 rfl (lv_at hl 1 rfl) ?_
    refine va_get (D := D) (ci := 3) (v := .int (nI (n))) (C := RX1) (T := TX1) (N := 12) hx hb hts hin hown hK hP 0 rfl rfl 0 (by decide) hf_9 (fun _ h9 => h9) rfl dX1_meanSize_20 ?_
    refine lv_i2d hx hb dX1_meanSize_23 ?_
    refine lv_iload_n hx hb dX1_meanSize_24 rfl (lv_at hl 0 rfl) ?_
    refine lv_i2d hx hb dX1_meanSize_25 ?_
    refine lv_ddiv hx hb dX1_meanSize_26 (mz_ok hB (fun q => absurd ((heads_0 hB).mpr q) (by omega))) ?_
    refine vx_ret ?_
    refine W.widen (k := 1) (n := 6) (Nat.le_of_ble_eq_true rfl) (Nat.le_of_ble_eq_true rfl) ?_
    exact W.dret hx hb hr (fun t ht hW => ⟨_, rfl, ⟨(by rfl), (fun q => absurd ((heads_0 hB).mpr q) c_1)⟩, ht⟩) (fun _ h => nomatch h) dX1_meanSize_27
  exact x_thr hx hb hfl hown xf_ARE hk_171 hi_171 hg_171 xb_ARE (by decide +kernel) hE (is := 182) (text := "there are no mails") (by decide +kernel) (hl.1.trans hml.symm) dX1_meanSize_9 dX1_meanSize_12 dX1_meanSize_13 dX1_meanSize_15 dX1_meanSize_18 hno (Nat.le_of_ble_eq_true rfl) (Nat.le_of_ble_eq_true rfl) (Nat.le_of_ble_eq_true rfl) (Nat.le_of_ble_eq_true rfl) hlocks (⟨rfl, (heads_0 hB).mp c_1⟩) (Nat.le_of_ble_eq_true rfl) (Nat.le_of_ble_eq_true rfl)
theorem hdX1_meanSize : yX1_meanSize.cls = RX1 ∧ yX1_meanSize.cls ≠ "java/lang/invoke/MethodHandle" ∧ yX1_meanSize.cls ≠ "java/lang/invoke/VarHandle" ∧ (parseMethodDescriptor yX1_meanSize.desc).map (fun d => d.parameters.length) = some 0 := by decide +kernel
set_option maxHeartbeats 4000000 in
set_option maxRecDepth 100000 in
theorem kX2_newShare (l : Launch) (D : va_G) (cI : ClassId) (ad : Nat → Nat) (th : Nat) (n : Nat) (B : Nat → Nat → Nat) (P : Nat → Option Nat) (bs : Nat → Nat) (sz : Nat) (hB : Bok n B) : Met l yX2_newShare wsX2_newShare ({ frames := 5, cells := 0, slots := 0, locals := 119 }) (PcM D [(cI, .int)] (wM cI ad th n B P bs) sz [.ref (ad 0)]) (va_Qf (fun (r : UInt32) (u9 : (Nat → Option Nat) × (Nat → Nat)) => r = (if s_sl B n = 0 then FP.fconst0 else s_ns n B)) (fun (u9 : (Nat → Option Nat) × (Nat → Nat)) t => AtW D [(cI, .int)] (va_A (wM cI ad th n B P bs) sz) (wM cI ad (if s_sl B n = 0 then 1 else 0) n B u9.1 u9.2) t) (va_A (wM cI ad th n B P bs) sz)) 0 0 (va_A (wM cI ad th n B P bs) sz) := by
  refine Met.ofW (cc := cX2_newShare) (maxL := 3) (ret := (some .float)) (by decide) rfl ?_
  intro p e s m args below meth c s₁ BL hml hv
  obtain ⟨rfl, hsz, hP, hK, hD0⟩ := hv
  have hx := BL.exec
  have hb := BL.bytes
  have hr := BL.returns
  have hts := atoms_spec (ws := wsX2_newShare) BL.pre
  have hown : s.vm.findClass RX2 = some m.cls := findClass_of_methodNamed BL.named
  have hlocks := BL.notSynchronized
  have hin : ∀ w ∈ wsX20, w ∈ wsX2_newShare := by decide +kernel
  have hf_22 := hts (.fieldLink RX2 22 "TalkRebuilderModel" "many" "[I") (by decide +kernel)
  have hf_37 := hts (.fieldLink RX2 37 "TalkRebuilderModel" "thrown" "I") (by decide +kernel)
  have hf_41 := hts (.fieldLink RX2 41 "TalkRebuilderModel" "mails" "I") (by decide +kernel)
  have hl := lv_entry ([.ref (ad 0)]) (n := 3) (Nat.le_of_ble_eq_true rfl)
  rw [lg_entry_eq]
  generalize (lg_sl ([.ref (ad 0)]) ++ List.replicate (3 - (lg_sl ([.ref (ad 0)])).length) Slot.unset).toArray = ls at hl ⊢
  have hl : lv_has ls 3 [(0, .ref (ad 0))] := hl
  subst hsz
  have hD := hD0.self (sz := s.heap.size)
  generalize hAe : va_A (wM cI ad th n B P bs) s.heap.size = A at hD ⊢
  have hA : ∀ q : Nat, s.heap.size ≤ q → A q := fun q h => by rw [← hAe]; exact Or.inr h
  have hS : va_S A s.heap s.heap [] := va_S.rf
  have hP : va_P D vwCl (wM cI ad th n B P bs) s.heap := hP
  have hD : va_D A (wM cI ad th n B P bs) := hD
  have hn10 := hB.1
  refine lv_iconst (v := (nI (0))) hx hb dX2_newShare_0 (by decide +kernel) ?_
  refine lv_istore_n (lv' := [(1, .int (nI (0))), (0, .ref (ad 0))]) hx hb dX2_newShare_1 rfl hl (by decide) rfl (fun ls hl => ?_)
  refine lv_iconst (v := (nI (0))) hx hb dX2_newShare_2 (by decide +kernel) ?_
  refine lv_istore_n (lv' := [(2, .int (nI (0))), (1, .int (nI (0))), (0, .ref (ad 0))]) hx hb dX2_newShare_3 rfl hl (by decide) rfl (fun ls hl => ?_)
  have loop_4 : ∀ (N : Nat) (z : Nat), n - z < N → (z ≤ n) → ∀ (H : Heap) (locs : List Loc), va_P D vwCl (wM cI ad th n B P bs) H → va_D A (wM cI ad th n B P bs) → va_S A s.heap H locs → ∀ (ls : Array Slot), lv_has ls 3 [(0, .ref (ad 0)), (1, .int (nI (s_sl B z))), (2, .int (nI (z)))] → W p l e (headSpec wsX2_newShare ({ frames := 5, cells := 0, slots := 0, locals := 119 })).room s m ([.ref (ad 0)] : List Value).toArray below meth c H locs 0 0 (MQ below (va_Qf (fun (r : UInt32) (u9 : (Nat → Option Nat) × (Nat → Nat)) => r = (if s_sl B n = 0 then FP.fconst0 else s_ns n B)) (fun (u9 : (Nat → Option Nat) × (Nat → Nat)) t => AtW D [(cI, .int)] A (wM cI ad (if s_sl B n = 0 then 1 else 0) n B u9.1 u9.2) t) A) ([.ref (ad 0)] : List Value).toArray s 0 0 A) (F0 m 4 ls []) := by
    intro N
    induction N with
    | zero => intro z hmu; exact absurd hmu (Nat.not_lt_zero _)
    | succ N ih_4 =>
      intro z hmu_4 h_z H locs hP hD hS ls hl
      refine lv_iload_n hx hb dX2_newShare_4 rfl (lv_at hl 2 rfl) ?_
      refine lv_aload_n hx hb dX2_newShare_5 rfl (lv_at hl 0 rfl) ?_
      refine va_get (D := D) (ci := 4) (v := .int (nI (n))) (C := RX2) (T := TX2) (N := 11) hx hb hts hin hown hK hP 0 rfl rfl 1 (by decide) hf_41 (fun _ h9 => h9) rfl dX2_newShare_6 ?_
      refine n_ge (tgt := 27) hx hb (by omega) (by omega) dX2_newShare_9 (by decide) (fun c_1 => ?_) (fun c_1 => ?_)
      · have hz1 : z = n := by omega
        have hsl : s_sl B z = s_sl B n := by rw [hz1]
        have hs80 := s_sl_80 hB
        have ht80 := s_tk_le hB
        refine lv_aload_n hx hb dX2_newShare_27 rfl (lv_at hl 0 rfl) ?_
        refine lv_iload_n hx hb dX2_newShare_28 rfl (lv_at hl 1 rfl) ?_
        have join_37 : ∀ (H : Heap) (locs : List Loc), va_P D vwCl (wM cI ad th n B P bs) H → va_D A (wM cI ad th n B P bs) → va_S A s.heap H locs → ∀ (ls : Array Slot), lv_has ls 3 [(0, .ref (ad 0)), (1, .int (nI (s_sl B z))), (2, .int (nI (z)))] → W p l e (headSpec wsX2_newShare ({ frames := 5, cells := 0, slots := 0, locals := 119 })).room s m ([.ref (ad 0)] : List Value).toArray below meth c H locs 0 0 (MQ below (va_Qf (fun (r : UInt32) (u9 : (Nat → Option Nat) × (Nat → Nat)) => r = (if s_sl B n = 0 then FP.fconst0 else s_ns n B)) (fun (u9 : (Nat → Option Nat) × (Nat → Nat)) t => AtW D [(cI, .int)] A (wM cI ad (if s_sl B n = 0 then 1 else 0) n B u9.1 u9.2) t) A) ([.ref (ad 0)] : List Value).toArray s 0 0 A) (F0 m 37 ls [.int (nI (if s_sl B n = 0 then 1 else 0)), .ref (ad 0)]) := by
          intro   H locs hP hD hS ls hl
          refine va_put (D := D) (ci := 4) (v := .int (nI (if s_sl B n = 0 then 1 else 0))) (ty := .int) (C := RX2) (T := TX2) (N := 11) hx hb hts hin tyX2 tyX2_ok nmX2 hown hK hP hD hS 0 rfl rfl 0 (by decide) hf_37 (fun _ h9 => h9) rfl (by decide +kernel) rfl rfl (Nat.le_of_ble_eq_true rfl) dX2_newShare_37 (fun H locs hP hD hS => ?_)
          have hP : va_P D vwCl (wM cI ad (if s_sl B n = 0 then 1 else 0) n B P bs) H := hP
          have hD : va_D A (wM cI ad (if s_sl B n = 0 then 1 else 0) n B P bs) := hD
          refine lv_iload_n hx hb dX2_newShare_40 rfl (lv_at hl 1 rfl) ?_
          have join_56 : ∀ (P1 : Nat → Option Nat) (bs1 : Nat → Nat), ∀ (H : Heap) (locs : List Loc), va_P D vwCl (wM cI ad (if s_sl B n = 0 then 1 else 0) n B P1 bs1) H → va_D A (wM cI ad (if s_sl B n = 0 then 1 else 0) n B P1 bs1) → va_S A s.heap H locs → ∀ (ls : Array Slot), lv_has ls 3 [(0, .ref (ad 0)), (1, .int (nI (s_sl B z))), (2, .int (nI (z)))] → W p l e (headSpec wsX2_newShare ({ frames := 5, cells := 0, slots := 0, locals := 119 })).room s m ([.ref (ad 0)] : List Value).toArray below meth c H locs 0 0 (MQ below (va_Qf (fun (r : UInt32) (u9 : (Nat → Option Nat) × (Nat → Nat)) => r = (if s_sl B n = 0 then FP.fconst0 else s_ns n B)) (fun (u9 : (Nat → Option Nat) × (Nat → Nat)) t => AtW D [(cI, .int)] A (wM cI ad (if s_sl B n = 0 then 1 else 0) n B u9.1 u9.2) t) A) ([.ref (ad 0)] : List Value).toArray s 0 0 A) (F0 m 56 ls [.float (if s_sl B n = 0 then FP.fconst0 else s_ns n B)]) := by
            intro P1 bs1  H locs hP hD hS ls hl
            exact W.fret hx hb hr (fun t ht hW => ⟨⟨_, (P1, bs1), rfl, (rfl), by rw [ht]; exact hP, va_K.moved hW.alike hK, hD⟩, hS.F ht⟩) hS.2.2 dX2_newShare_56
          refine z_ne (tgt := 48) hx hb (by omega) dX2_newShare_41 (by decide) (fun c_2 => ?_) (fun c_2 => ?_)
          · refine lv_aload_n hx hb dX2_newShare_48 rfl (lv_at hl 0 rfl) ?_
            refine mo_V (wr := []) (As := []) ⟨hx, hb, hml, hown, hts⟩ (kX2_talkOf l D cI ad (if s_sl B n = 0 then 1 else 0) n B P bs H.size  hB) (cwV 0 hts gX2_newShare_X2_talkOf rfl rfl rfl hdX2_talkOf ⟨Nat.le_of_ble_eq_true rfl, Nat.le_of_ble_eq_true rfl⟩) hK hP hD hS hA (ci := 4) rfl (q0 := 0) rfl rfl rfl hl.1 rfl (Nat.le_of_ble_eq_true rfl) dX2_newShare_49 ⟨Nat.zero_le _, Nat.zero_le _⟩ (fun r_3 u_3 H locs hw_3 hP hD hS => ?_)
            obtain ⟨P_3, bs_3⟩ := u_3
            subst hw_3
            have hP : va_P D vwCl (wM cI ad (if s_sl B n = 0 then 1 else 0) n B P_3 bs_3) H := hP
            have hD : va_D A (wM cI ad (if s_sl B n = 0 then 1 else 0) n B P_3 bs_3) := hD
            refine lv_i2f hx hb dX2_newShare_52 ?_
            refine lv_iload_n hx hb dX2_newShare_53 rfl (lv_at hl 1 rfl) ?_
            refine lv_i2f hx hb dX2_newShare_54 ?_
            refine lv_fdiv hx hb dX2_newShare_55 (by rw [hsl] at *; exact ns_ok hB (by omega)) ?_
            refine f_top (y := (if s_sl B n = 0 then FP.fconst0 else s_ns n B)) (by first | (rw [if_pos (by omega)]) | (rw [if_neg (by omega)]; unfold s_ns; rw [hsl])) ?_
            exact join_56 P_3 bs_3  _ _ hP hD hS _ (show lv_has ls 3 [(0, .ref (ad 0)), (1, .int (nI (s_sl B z))), (2, .int (nI (z)))] from by exact lv_sub hl [0, 1, 2] rfl)
          refine lv_fconst0 hx hb dX2_newShare_44 ?_
          refine lv_goto (tgt := 56) hx hb dX2_newShare_45 (by decide) ?_
          refine f_top (y := (if s_sl B n = 0 then FP.fconst0 else s_ns n B)) (by first | (rw [if_pos (by omega)]) | (rw [if_neg (by omega)]; unfold s_ns; rw [hsl])) ?_
          exact join_56 P bs  _ _ hP hD hS _ (show lv_has ls 3 [(0, .ref (ad 0)), (1, .int (nI (s_sl B z))), (2, .int (nI (z)))] from by exact lv_sub hl [0, 1, 2] rfl)
        refine z_ne (tgt := 36) hx hb (by omega) dX2_newShare_29 (by decide) (fun c_4 => ?_) (fun c_4 => ?_)
        · refine lv_iconst (v := (nI (0))) hx hb dX2_newShare_36 (by decide +kernel) ?_
          refine n_top (y := (nI (if s_sl B n = 0 then 1 else 0))) (by first | (rw [if_pos (by omega)]) | (rw [if_neg (by omega)])) ?_
          exact join_37   _ _ hP hD hS _ (show lv_has ls 3 [(0, .ref (ad 0)), (1, .int (nI (s_sl B z))), (2, .int (nI (z)))] from by exact lv_sub hl [0, 1, 2] rfl)
        refine lv_iconst (v := (nI (1))) hx hb dX2_newShare_32 (by decide +kernel) ?_
        refine lv_goto (tgt := 37) hx hb dX2_newShare_33 (by decide) ?_
        refine n_top (y := (nI (if s_sl B n = 0 then 1 else 0))) (by first | (rw [if_pos (by omega)]) | (rw [if_neg (by omega)])) ?_
        exact join_37   _ _ hP hD hS _ (show lv_has ls 3 [(0, .ref (ad 0)), (1, .int (nI (s_sl B z))), (2, .int (nI (z)))] from by exact lv_sub hl [0, 1, 2] rfl)
      refine lv_iload_n hx hb dX2_newShare_12 rfl (lv_at hl 1 rfl) ?_
      refine lv_aload_n hx hb dX2_newShare_13 rfl (lv_at hl 0 rfl) ?_
      refine va_get (D := D) (ci := 4) (v := .ref (ad 5)) (C := RX2) (T := TX2) (N := 11) hx hb hts hin hown hK hP 0 rfl rfl 6 (by decide) hf_22 (fun _ h9 => h9) rfl dX2_newShare_14 ?_
      refine lv_iload_n hx hb dX2_newShare_17 rfl (lv_at hl 2 rfl) ?_
      refine n_iald hx hb hK hP 5 0 rfl rfl (i := z) (by omega) (by decide) dX2_newShare_18 ?_
      have hq_5 := hB.2.2.1 z
      refine lv_iadd hx hb dX2_newShare_19 ?_
      refine n_top (y := (nI (s_sl B z + (B 4 z)))) (nI_add _ _) ?_
      refine lv_istore_n (lv' := [(1, .int (nI (s_sl B z + (B 4 z)))), (0, .ref (ad 0)), (2, .int (nI (z)))]) hx hb dX2_newShare_20 rfl hl (by decide) rfl (fun ls hl => ?_)
      refine lv_iinc (v := (nI (z + 1))) (lv' := [(2, .int (nI (z + 1))), (1, .int (nI (s_sl B z + (B 4 z)))), (0, .ref (ad 0))]) hx hb dX2_newShare_21 hl (k := 2) rfl (nI_1 _) (by decide) rfl (fun ls hl => ?_)
      refine lv_goto (tgt := 4) hx hb dX2_newShare_24 (by decide) ?_
      have e_6 : ((nI (s_sl B z + (B 4 z))) : Int32) = (nI (s_sl B (z + 1))) := by rfl
      exact ih_4 (z + 1) (by omega) (by omega) _ _ hP hD hS _ (show lv_has ls 3 [(0, .ref (ad 0)), (1, .int (nI (s_sl B (z + 1)))), (2, .int (nI (z + 1)))] from by rw [← e_6]; exact lv_sub hl [2, 1, 0] rfl)
  have e_7 : ((nI (0)) : Int32) = (nI (s_sl B 0)) := by rfl
  exact loop_4 (n - 0 + 1) 0 (by omega) (by omega) _ _ hP hD hS _ (show lv_has ls 3 [(0, .ref (ad 0)), (1, .int (nI (s_sl B 0))), (2, .int (nI (0)))] from by rw [← e_7]; exact lv_sub hl [2, 1, 0] rfl)
theorem hdX2_newShare : yX2_newShare.cls = RX2 ∧ yX2_newShare.cls ≠ "java/lang/invoke/MethodHandle" ∧ yX2_newShare.cls ≠ "java/lang/invoke/VarHandle" ∧ (parseMethodDescriptor yX2_newShare.desc).map (fun d => d.parameters.length) = some 0 := by decide +kernel
set_option maxHeartbeats 4000000 in
set_option maxRecDepth 100000 in
theorem kX2_meanSize (l : Launch) (D : va_G) (cI : ClassId) (ad : Nat → Nat) (th : Nat) (n : Nat) (B : Nat → Nat → Nat) (P : Nat → Option Nat) (bs : Nat → Nat) (sz : Nat) (hB : Bok n B) : Met l yX2_meanSize wsX2_meanSize ({ frames := 4, cells := 0, slots := 0, locals := 88 }) (PcM D [(cI, .int)] (wM cI ad th n B P bs) sz [.ref (ad 0)]) (va_Qd (fun (r : UInt64) (u9 : Unit) => r = (if n = 0 then FP.dconst0 else s_mz n B)) (fun (u9 : Unit) t => AtW D [(cI, .int)] (va_A (wM cI ad th n B P bs) sz) (wM cI ad (if n = 0 then 1 else 0) n B P bs) t) (va_A (wM cI ad th n B P bs) sz)) 0 0 (va_A (wM cI ad th n B P bs) sz) := by
  refine Met.ofW (cc := cX2_meanSize) (maxL := 1) (ret := (some .double)) (by decide) rfl ?_
  intro p e s m args below meth c s₁ BL hml hv
  obtain ⟨rfl, hsz, hP, hK, hD0⟩ := hv
  have hx := BL.exec
  have hb := BL.bytes
  have hr := BL.returns
  have hts := atoms_spec (ws := wsX2_meanSize) BL.pre
  have hown : s.vm.findClass RX2 = some m.cls := findClass_of_methodNamed BL.named
  have hlocks := BL.notSynchronized
  have hin : ∀ w ∈ wsX20, w ∈ wsX2_meanSize := by decide +kernel
  have hf_37 := hts (.fieldLink RX2 37 "TalkRebuilderModel" "thrown" "I") (by decide +kernel)
  have hf_41 := hts (.fieldLink RX2 41 "TalkRebuilderModel" "mails" "I") (by decide +kernel)
  have hl := lv_entry ([.ref (ad 0)]) (n := 1) (Nat.le_of_ble_eq_true rfl)
  rw [lg_entry_eq]
  generalize (lg_sl ([.ref (ad 0)]) ++ List.replicate (1 - (lg_sl ([.ref (ad 0)])).length) Slot.unset).toArray = ls at hl ⊢
  have hl : lv_has ls 1 [(0, .ref (ad 0))] := hl
  subst hsz
  have hD := hD0.self (sz := s.heap.size)
  generalize hAe : va_A (wM cI ad th n B P bs) s.heap.size = A at hD ⊢
  have hA : ∀ q : Nat, s.heap.size ≤ q → A q := fun q h => by rw [← hAe]; exact Or.inr h
  have hS : va_S A s.heap s.heap [] := va_S.rf
  have hP : va_P D vwCl (wM cI ad th n B P bs) s.heap := hP
  have hD : va_D A (wM cI ad th n B P bs) := hD
  have hn10 := hB.1
  have hhl := heads_le n B
  refine lv_aload_n hx hb dX2_meanSize_0 rfl (lv_at hl 0 rfl) ?_
  refine lv_aload_n hx hb dX2_meanSize_1 rfl (lv_at hl 0 rfl) ?_
  refine va_get (D := D) (ci := 4) (v := .int (nI (n))) (C := RX2) (T := TX2) (N := 11) hx hb hts hin hown hK hP 0 rfl rfl 1 (by decide) hf_41 (fun _ h9 => h9) rfl dX2_meanSize_2 ?_
  have join_13 : ∀ (H : Heap) (locs : List Loc), va_P D vwCl (wM cI ad th n B P bs) H → va_D A (wM cI ad th n B P bs) → va_S A s.heap H locs → ∀ (ls : Array Slot), lv_has ls 1 [(0, .ref (ad 0))] → W p l e (headSpec wsX2_meanSize ({ frames := 4, cells := 0, slots := 0, locals := 88 })).room s m ([.ref (ad 0)] : List Value).toArray below meth c H locs 0 0 (MQ below (va_Qd (fun (r : UInt64) (u9 : Unit) => r = (if n = 0 then FP.dconst0 else s_mz n B)) (fun (u9 : Unit) t => AtW D [(cI, .int)] A (wM cI ad (if n = 0 then 1 else 0) n B P bs) t) A) ([.ref (ad 0)] : List Value).toArray s 0 0 A) (F0 m 13 ls [.int (nI (if n = 0 then 1 else 0)), .ref (ad 0)]) := by
    intro   H locs hP hD hS ls hl
    refine va_put (D := D) (ci := 4) (v := .int (nI (if n = 0 then 1 else 0))) (ty := .int) (C := RX2) (T := TX2) (N := 11) hx hb hts hin tyX2 tyX2_ok nmX2 hown hK hP hD hS 0 rfl rfl 0 (by decide) hf_37 (fun _ h9 => h9) rfl (by decide +kernel) rfl rfl (Nat.le_of_ble_eq_true rfl) dX2_meanSize_13 (fun H locs hP hD hS => ?_)
    have hP : va_P D vwCl (wM cI ad (if n = 0 then 1 else 0) n B P bs) H := hP
    have hD : va_D A (wM cI ad (if n = 0 then 1 else 0) n B P bs) := hD
    refine lv_aload_n hx hb dX2_meanSize_16 rfl (lv_at hl 0 rfl) ?_
    refine va_get (D := D) (ci := 4) (v := .int (nI (n))) (C := RX2) (T := TX2) (N := 11) hx hb hts hin hown hK hP 0 rfl rfl 1 (by decide) hf_41 (fun _ h9 => h9) rfl dX2_meanSize_17 ?_
    have join_38 : ∀ (H : Heap) (locs : List Loc), va_P D vwCl (wM cI ad (if n = 0 then 1 else 0) n B P bs) H → va_D A (wM cI ad (if n = 0 then 1 else 0) n B P bs) → va_S A s.heap H locs → ∀ (ls : Array Slot), lv_has ls 1 [(0, .ref (ad 0))] → W p l e (headSpec wsX2_meanSize ({ frames := 4, cells := 0, slots := 0, locals := 88 })).room s m ([.ref (ad 0)] : List Value).toArray below meth c H locs 0 0 (MQ below (va_Qd (fun (r : UInt64) (u9 : Unit) => r = (if n = 0 then FP.dconst0 else s_mz n B)) (fun (u9 : Unit) t => AtW D [(cI, .int)] A (wM cI ad (if n = 0 then 1 else 0) n B P bs) t) A) ([.ref (ad 0)] : List Value).toArray s 0 0 A) (F0 m 38 ls [.double (if n = 0 then FP.dconst0 else s_mz n B)]) := by
      intro   H locs hP hD hS ls hl
      exact W.dret hx hb hr (fun t ht hW => ⟨⟨_, (), rfl, (rfl), by rw [ht]; exact hP, va_K.moved hW.alike hK, hD⟩, hS.F ht⟩) hS.2.2 dX2_meanSize_38
    refine z_ne (tgt := 27) hx hb (by omega) dX2_meanSize_20 (by decide) (fun c_1 => ?_) (fun c_1 => ?_)
    · refine lv_aload_n hx hb dX2_meanSize_27 rfl (lv_at hl 0 rfl) ?_
      refine va_get (D := D) (ci := 4) (v := .int (nI (n))) (C := RX2) (T := TX2) (N := 11) hx hb hts hin hown hK hP 0 rfl rfl 1 (by decide) hf_41 (fun _ h9 => h9) rfl dX2_meanSize_28 ?_
      refine lv_i2d hx hb dX2_meanSize_31 ?_
      refine lv_aload_n hx hb dX2_meanSize_32 rfl (lv_at hl 0 rfl) ?_
      refine ro_V (As := []) (v := (nI (s_heads n B))) ⟨hx, hb, hml, hown, hts⟩ (kX2_heads l D cI ad (if n = 0 then 1 else 0) n B P bs  hB) (cwV 0 hts gX2_meanSize_X2_heads rfl rfl rfl hdX2_heads ⟨Nat.le_of_ble_eq_true rfl, Nat.le_of_ble_eq_true rfl⟩) hK hP (ci := 4) rfl (q0 := 0) rfl rfl rfl hl.1 rfl (Nat.le_of_ble_eq_true rfl) dX2_meanSize_33 ⟨Nat.zero_le _, Nat.zero_le _⟩ ?_
      refine lv_i2d hx hb dX2_meanSize_36 ?_
      refine lv_ddiv hx hb dX2_meanSize_37 (mz_ok hB (by omega)) ?_
      refine d_top (y := (if n = 0 then FP.dconst0 else s_mz n B)) (by first | (rw [if_pos (by omega)]) | (rw [if_neg (by omega)]; rfl)) ?_
      exact join_38   _ _ hP hD hS _ (show lv_has ls 1 [(0, .ref (ad 0))] from by exact lv_sub hl [0] rfl)
    refine lv_dconst0 hx hb dX2_meanSize_23 ?_
    refine lv_goto (tgt := 38) hx hb dX2_meanSize_24 (by decide) ?_
    refine d_top (y := (if n = 0 then FP.dconst0 else s_mz n B)) (by first | (rw [if_pos (by omega)]) | (rw [if_neg (by omega)]; rfl)) ?_
    exact join_38   _ _ hP hD hS _ (show lv_has ls 1 [(0, .ref (ad 0))] from by exact lv_sub hl [0] rfl)
  refine z_ne (tgt := 12) hx hb (by omega) dX2_meanSize_5 (by decide) (fun c_2 => ?_) (fun c_2 => ?_)
  · refine lv_iconst (v := (nI (0))) hx hb dX2_meanSize_12 (by decide +kernel) ?_
    refine n_top (y := (nI (if n = 0 then 1 else 0))) (by first | (rw [if_pos (by omega)]) | (rw [if_neg (by omega)])) ?_
    exact join_13   _ _ hP hD hS _ (show lv_has ls 1 [(0, .ref (ad 0))] from by exact lv_sub hl [0] rfl)
  refine lv_iconst (v := (nI (1))) hx hb dX2_meanSize_8 (by decide +kernel) ?_
  refine lv_goto (tgt := 13) hx hb dX2_meanSize_9 (by decide) ?_
  refine n_top (y := (nI (if n = 0 then 1 else 0))) (by first | (rw [if_pos (by omega)]) | (rw [if_neg (by omega)])) ?_
  exact join_13   _ _ hP hD hS _ (show lv_has ls 1 [(0, .ref (ad 0))] from by exact lv_sub hl [0] rfl)
theorem hdX2_meanSize : yX2_meanSize.cls = RX2 ∧ yX2_meanSize.cls ≠ "java/lang/invoke/MethodHandle" ∧ yX2_meanSize.cls ≠ "java/lang/invoke/VarHandle" ∧ (parseMethodDescriptor yX2_meanSize.desc).map (fun d => d.parameters.length) = some 0 := by decide +kernel
