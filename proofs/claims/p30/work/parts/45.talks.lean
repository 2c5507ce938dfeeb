theorem hdL_lines : yL_lines.cls ≠ "java/lang/invoke/MethodHandle" ∧ yL_lines.cls ≠ "java/lang/invoke/VarHandle" ∧ (parseMethodDescriptor yL_lines.desc).map (fun d => d.parameters.length) = some 2 := by decide +kernel
theorem hdL_word : yL_word.cls ≠ "java/lang/invoke/MethodHandle" ∧ yL_word.cls ≠ "java/lang/invoke/VarHandle" ∧ (parseMethodDescriptor yL_word.desc).map (fun d => d.parameters.length) = some 3 := by decide +kernel
theorem hdL_parent : yL_parent.cls ≠ "java/lang/invoke/MethodHandle" ∧ yL_parent.cls ≠ "java/lang/invoke/VarHandle" ∧ (parseMethodDescriptor yL_parent.desc).map (fun d => d.parameters.length) = some 2 := by decide +kernel
theorem hdL_partner : yL_partner.cls ≠ "java/lang/invoke/MethodHandle" ∧ yL_partner.cls ≠ "java/lang/invoke/VarHandle" ∧ (parseMethodDescriptor yL_partner.desc).map (fun d => d.parameters.length) = some 3 := by decide +kernel
theorem hdL_originMail : yL_originMail.cls ≠ "java/lang/invoke/MethodHandle" ∧ yL_originMail.cls ≠ "java/lang/invoke/VarHandle" ∧ (parseMethodDescriptor yL_originMail.desc).map (fun d => d.parameters.length) = some 3 := by decide +kernel
theorem hdL_originLine : yL_originLine.cls ≠ "java/lang/invoke/MethodHandle" ∧ yL_originLine.cls ≠ "java/lang/invoke/VarHandle" ∧ (parseMethodDescriptor yL_originLine.desc).map (fun d => d.parameters.length) = some 3 := by decide +kernel
theorem hdL_kind : yL_kind.cls ≠ "java/lang/invoke/MethodHandle" ∧ yL_kind.cls ≠ "java/lang/invoke/VarHandle" ∧ (parseMethodDescriptor yL_kind.desc).map (fun d => d.parameters.length) = some 3 := by decide +kernel
theorem hdL_signature : yL_signature.cls ≠ "java/lang/invoke/MethodHandle" ∧ yL_signature.cls ≠ "java/lang/invoke/VarHandle" ∧ (parseMethodDescriptor yL_signature.desc).map (fun d => d.parameters.length) = some 2 := by decide +kernel
theorem hdL_answersMail : yL_answersMail.cls ≠ "java/lang/invoke/MethodHandle" ∧ yL_answersMail.cls ≠ "java/lang/invoke/VarHandle" ∧ (parseMethodDescriptor yL_answersMail.desc).map (fun d => d.parameters.length) = some 3 := by decide +kernel
theorem hdL_answersLine : yL_answersLine.cls ≠ "java/lang/invoke/MethodHandle" ∧ yL_answersLine.cls ≠ "java/lang/invoke/VarHandle" ∧ (parseMethodDescriptor yL_answersLine.desc).map (fun d => d.parameters.length) = some 3 := by decide +kernel
theorem hdL_answers : yL_answers.cls ≠ "java/lang/invoke/MethodHandle" ∧ yL_answers.cls ≠ "java/lang/invoke/VarHandle" ∧ (parseMethodDescriptor yL_answers.desc).map (fun d => d.parameters.length) = some 3 := by decide +kernel
theorem hdL_copies : yL_copies.cls ≠ "java/lang/invoke/MethodHandle" ∧ yL_copies.cls ≠ "java/lang/invoke/VarHandle" ∧ (parseMethodDescriptor yL_copies.desc).map (fun d => d.parameters.length) = some 3 := by decide +kernel
theorem hdL_root : yL_root.cls ≠ "java/lang/invoke/MethodHandle" ∧ yL_root.cls ≠ "java/lang/invoke/VarHandle" ∧ (parseMethodDescriptor yL_root.desc).map (fun d => d.parameters.length) = some 2 := by decide +kernel
theorem hdL_size : yL_size.cls ≠ "java/lang/invoke/MethodHandle" ∧ yL_size.cls ≠ "java/lang/invoke/VarHandle" ∧ (parseMethodDescriptor yL_size.desc).map (fun d => d.parameters.length) = some 2 := by decide +kernel
theorem hdL_arrive : yL_arrive.cls ≠ "java/lang/invoke/MethodHandle" ∧ yL_arrive.cls ≠ "java/lang/invoke/VarHandle" ∧ (parseMethodDescriptor yL_arrive.desc).map (fun d => d.parameters.length) = some 5 := by decide +kernel
theorem hdL_addLine : yL_addLine.cls ≠ "java/lang/invoke/MethodHandle" ∧ yL_addLine.cls ≠ "java/lang/invoke/VarHandle" ∧ (parseMethodDescriptor yL_addLine.desc).map (fun d => d.parameters.length) = some 4 := by decide +kernel
theorem hdL_removeLine : yL_removeLine.cls ≠ "java/lang/invoke/MethodHandle" ∧ yL_removeLine.cls ≠ "java/lang/invoke/VarHandle" ∧ (parseMethodDescriptor yL_removeLine.desc).map (fun d => d.parameters.length) = some 2 := by decide +kernel
theorem hdL_aligned : yL_aligned.cls ≠ "java/lang/invoke/MethodHandle" ∧ yL_aligned.cls ≠ "java/lang/invoke/VarHandle" ∧ (parseMethodDescriptor yL_aligned.desc).map (fun d => d.parameters.length) = some 2 := by decide +kernel
theorem hdL_alignedByTrying : yL_alignedByTrying.cls ≠ "java/lang/invoke/MethodHandle" ∧ yL_alignedByTrying.cls ≠ "java/lang/invoke/VarHandle" ∧ (parseMethodDescriptor yL_alignedByTrying.desc).map (fun d => d.parameters.length) = some 2 := by decide +kernel
theorem hdL_rootByRounds : yL_rootByRounds.cls ≠ "java/lang/invoke/MethodHandle" ∧ yL_rootByRounds.cls ≠ "java/lang/invoke/VarHandle" ∧ (parseMethodDescriptor yL_rootByRounds.desc).map (fun d => d.parameters.length) = some 2 := by decide +kernel
theorem hdL_mail : yL_mail.cls ≠ "java/lang/invoke/MethodHandle" ∧ yL_mail.cls ≠ "java/lang/invoke/VarHandle" ∧ (parseMethodDescriptor yL_mail.desc).map (fun d => d.parameters.length) = some 2 := by decide +kernel
theorem hdL_talks : yL_talks.cls ≠ "java/lang/invoke/MethodHandle" ∧ yL_talks.cls ≠ "java/lang/invoke/VarHandle" ∧ (parseMethodDescriptor yL_talks.desc).map (fun d => d.parameters.length) = some 4 := by decide +kernel
theorem hdL_all : yL_all.cls ≠ "java/lang/invoke/MethodHandle" ∧ yL_all.cls ≠ "java/lang/invoke/VarHandle" ∧ (parseMethodDescriptor yL_all.desc).map (fun d => d.parameters.length) = some 1 := by decide +kernel
set_option maxHeartbeats 4000000 in
set_option maxRecDepth 100000 in
theorem zL_talks (l : Launch) (hfl : l.stackTraces = false) (D : va_G) (cI cZ cA : ClassId) (ax : Nat → Nat) (A : Nat → Prop) (n : Nat) (B : Nat → Nat → Nat) (u w : Nat) (hB : Bok n B) (hBW : BW n B) (hu : u < n) (hw : w < B 4 u) : Met l yL_talks wsL_talks ({ frames := 10, cells := 30, slots := 180, locals := 181 }) (PcZ D cI cZ cA ax A n B [.ref (ax 0), .int (nI u), .int (nI w), .int (nI (s_knd n B u w))]) (QZ D cI cZ cA ax A (nI 1) n B) 30 180 A := by
  refine Met.ofW (cc := cL_talks) (maxL := 9) (ret := some .boolean) (by decide) rfl ?_
  intro p e s m args below meth c s₁ BL hml hv
  obtain ⟨rfl, hW, hK, hE, hNC, hA⟩ := hv
  have hx := BL.exec
  have hb := BL.bytes
  have hr := BL.returns
  have hts := atoms_spec (ws := wsL_talks) BL.pre
  have hown : s.vm.findClass RL = some m.cls := findClass_of_methodNamed BL.named
  have hlocks := BL.notSynchronized
  have hS : va_S A s.heap s.heap [] := va_S.rf
  have hn10 := hB.1
  have h8 := hB.2.2.1
  have h99 := hB.2.1 6
  have hl := lv_entry ([.ref (ax 0), .int (nI u), .int (nI w), .int (nI (s_knd n B u w))]) (n := 9) (Nat.le_of_ble_eq_true rfl)
  rw [lg_entry_eq]
  generalize (lg_sl ([.ref (ax 0), .int (nI u), .int (nI w), .int (nI (s_knd n B u w))]) ++ List.replicate (9 - (lg_sl ([.ref (ax 0), .int (nI u), .int (nI w), .int (nI (s_knd n B u w))])).length) Slot.unset).toArray = ls at hl ⊢
  have hl : lv_has ls 9 [(0, .ref (ax 0)), (1, .int (nI u)), (2, .int (nI w)), (3, .int (nI (s_knd n B u w)))] := hl
  have hkb := s_knd_b n B u w
  have h8u := h8 u
  have loop_130 : ∀ (v4 v5 v6 : Int32), (∀ (H : Heap) (locs : List Loc), LWh D cI cZ cA ax A n B H → va_S A s.heap H locs → ∀ (ls : Array Slot), lv_has ls 9 [(0, .ref (ax 0)), (1, .int (nI u)), (2, .int (nI w)), (3, .int (nI (s_knd n B u w))), (4, .int (v4)), (5, .int (v5)), (6, .int (v6)), (7, .int (bI (an (s_kq n B u) (w)))), (8, .int (nI (w)))] → W p l e (headSpec wsL_talks ({ frames := 10, cells := 30, slots := 180, locals := 181 })).room s m ([.ref (ax 0), .int (nI u), .int (nI w), .int (nI (s_knd n B u w))] : List Value).toArray below meth c H locs (26) (156) (MQ below (QZ D cI cZ cA ax A (nI 1) n B) ([.ref (ax 0), .int (nI u), .int (nI w), .int (nI (s_knd n B u w))] : List Value).toArray s 30 180 A) (F0 m 164 ls [])) → ∀ (N j : Nat), w - j < N → j ≤ w → ∀ (H : Heap) (locs : List Loc), LWh D cI cZ cA ax A n B H → va_S A s.heap H locs → ∀ (ls : Array Slot), lv_has ls 9 [(0, .ref (ax 0)), (1, .int (nI u)), (2, .int (nI w)), (3, .int (nI (s_knd n B u w))), (4, .int (v4)), (5, .int (v5)), (6, .int (v6)), (7, .int (bI (an (s_kq n B u) (j)))), (8, .int (nI (j)))] → W p l e (headSpec wsL_talks ({ frames := 10, cells := 30, slots := 180, locals := 181 })).room s m ([.ref (ax 0), .int (nI u), .int (nI w), .int (nI (s_knd n B u w))] : List Value).toArray below meth c H locs (12 + 2 * j) (72 + 12 * j) (MQ below (QZ D cI cZ cA ax A (nI 1) n B) ([.ref (ax 0), .int (nI u), .int (nI w), .int (nI (s_knd n B u w))] : List Value).toArray s 30 180 A) (F0 m 130 ls []) := by
    intro v4 v5 v6 kend N
    induction N with
    | zero => intro j h; exact absurd h (Nat.not_lt_zero _)
    | succ N ih =>
      intro j hN hj H locs hW hS ls hl
      refine lv_iload hx hb dL_talks_130 (lv_at hl 8 rfl) ?_
      refine lv_iload_n hx hb dL_talks_132 rfl (lv_at hl 2 rfl) ?_
      refine lv_icmp_ge (tgt := 164) hx hb dL_talks_133 (by decide) (fun h => ?_) (fun h => ?_)
      · have ej : j = w := by have := (nI_leI (by omega) (by omega)).mp h; omega
        subst ej
        refine W.widen (k := 26) (n := 156) (by omega) (by omega) ?_
        exact kend _ _ hW hS _ hl
      · have hjw : j < w := Nat.lt_of_not_le (fun q => h ((nI_leI (by omega) (by omega)).mpr q))
        have hkj := s_knd_b n B u j
        refine lv_iload hx hb dL_talks_136 (lv_at hl 7 rfl) ?_
        refine lv_aload_n hx hb dL_talks_138 rfl (lv_at hl 0 rfl) ?_
        refine lv_iload_n hx hb dL_talks_139 rfl (lv_at hl 1 rfl) ?_
        refine lv_iload hx hb dL_talks_140 (lv_at hl 8 rfl) ?_
        refine z_SX (As := [.ref (ax 0), .int (nI u), .int (nI (j))]) (rest := [.int (bI (an (s_kq n B u) (j)))]) ⟨hx, hb, hml, hown, hts⟩ (zL_kind l hfl D cI cZ cA ax A n B (nI u) (nI (j)) hB) (vx_cwSW 3 hts gL_talks_L_kind rfl rfl rfl hdL_kind ⟨Nat.le_of_ble_eq_true rfl, Nat.le_of_ble_eq_true rfl⟩) hK hW hS hA hE hNC rfl hl.1 rfl (Nat.le_of_ble_eq_true rfl) dL_talks_142 ⟨by show _ ≤ 30; omega, by show _ ≤ 180; omega⟩ (fun H locs hW hS => ?_)
        refine n_top (y := nI (s_knd n B u j)) (by rw [z_kd hB hu (by omega)]; rfl) ?_
        refine lv_bipush (v := nI 113) hx hb dL_talks_145 (by decide +kernel) ?_
        refine lv_icmp_ne (tgt := 154) hx hb dL_talks_147 (by decide) (fun h => ?_) (fun h => ?_)
        · have h1 : ¬ s_knd n B u j = 113 := fun q => h (congrArg nI q)
          refine lv_iconst (v := nI 0) hx hb dL_talks_154 (by decide +kernel) ?_
          refine lv_ior hx hb dL_talks_155 ?_
          refine n_top (y := bI (an (s_kq n B u) (j + 1))) (by show _ = bI ((an (s_kq n B u) j) || s_kq n B u j); rw [show s_kq n B u j = false from decide_eq_false h1, Bool.or_false]; cases (an (s_kq n B u) j) <;> decide +kernel) ?_
          refine lv_istore (lv' := [(7, .int (bI (an (s_kq n B u) (j + 1)))), (0, .ref (ax 0)), (1, .int (nI u)), (2, .int (nI w)), (3, .int (nI (s_knd n B u w))), (4, .int (v4)), (5, .int (v5)), (6, .int (v6)), (8, .int (nI (j)))]) hx hb dL_talks_156 hl (by decide) rfl (fun ls hl => ?_)
          refine lv_iinc (v := nI (j + 1)) (lv' := [(8, .int (nI (j + 1))), (7, .int (bI (an (s_kq n B u) (j + 1)))), (0, .ref (ax 0)), (1, .int (nI u)), (2, .int (nI w)), (3, .int (nI (s_knd n B u w))), (4, .int (v4)), (5, .int (v5)), (6, .int (v6))]) hx hb dL_talks_158 hl (k := 8) rfl (nI_1 _) (by decide) rfl (fun ls hl => ?_)
          refine lv_goto (tgt := 130) hx hb dL_talks_161 (by decide) ?_
          refine W.widen (k := 12 + 2 * (j + 1)) (n := 72 + 12 * (j + 1)) (by omega) (by omega) ?_
          exact ih (j + 1) (by omega) (by omega) _ _ hW hS _ (lv_sub hl [2, 3, 4, 5, 6, 7, 8, 1, 0] rfl)
        · have h1 : s_knd n B u j = 113 := (nI_eq (by omega) (by decide)).mp h
          refine lv_iconst (v := nI 1) hx hb dL_talks_150 (by decide +kernel) ?_
          refine lv_goto (tgt := 155) hx hb dL_talks_151 (by decide) ?_
          refine lv_ior hx hb dL_talks_155 ?_
          refine n_top (y := bI (an (s_kq n B u) (j + 1))) (by show _ = bI ((an (s_kq n B u) j) || s_kq n B u j); rw [show s_kq n B u j = true from decide_eq_true h1, Bool.or_true]; cases (an (s_kq n B u) j) <;> decide +kernel) ?_
          refine lv_istore (lv' := [(7, .int (bI (an (s_kq n B u) (j + 1)))), (0, .ref (ax 0)), (1, .int (nI u)), (2, .int (nI w)), (3, .int (nI (s_knd n B u w))), (4, .int (v4)), (5, .int (v5)), (6, .int (v6)), (8, .int (nI (j)))]) hx hb dL_talks_156 hl (by decide) rfl (fun ls hl => ?_)
          refine lv_iinc (v := nI (j + 1)) (lv' := [(8, .int (nI (j + 1))), (7, .int (bI (an (s_kq n B u) (j + 1)))), (0, .ref (ax 0)), (1, .int (nI u)), (2, .int (nI w)), (3, .int (nI (s_knd n B u w))), (4, .int (v4)), (5, .int (v5)), (6, .int (v6))]) hx hb dL_talks_158 hl (k := 8) rfl (nI_1 _) (by decide) rfl (fun ls hl => ?_)
          refine lv_goto (tgt := 130) hx hb dL_talks_161 (by decide) ?_
          refine W.widen (k := 12 + 2 * (j + 1)) (n := 72 + 12 * (j + 1)) (by omega) (by omega) ?_
          exact ih (j + 1) (by omega) (by omega) _ _ hW hS _ (lv_sub hl [2, 3, 4, 5, 6, 7, 8, 1, 0] rfl)
  by_cases h110 : s_knd n B u w = 110
  · have htk : s_talk n B u w = true := by unfold s_talk; rw [h110]; rfl
    rcases ho : s_an n B u w with _ | o
    · refine lv_aload_n hx hb dL_talks_0 rfl (lv_at hl 0 rfl) ?_
      refine lv_iload_n hx hb dL_talks_1 rfl (lv_at hl 1 rfl) ?_
      refine lv_iload_n hx hb dL_talks_2 rfl (lv_at hl 2 rfl) ?_
      refine z_SX (As := [.ref (ax 0), .int (nI u), .int (nI w)]) (rest := []) ⟨hx, hb, hml, hown, hts⟩ (zL_answersMail l hfl D cI cZ cA ax A n B (nI u) (nI w) hB) (vx_cwSW 3 hts gL_talks_L_answersMail rfl rfl rfl hdL_answersMail ⟨Nat.le_of_ble_eq_true rfl, Nat.le_of_ble_eq_true rfl⟩) hK hW hS hA hE hNC rfl hl.1 rfl (Nat.le_of_ble_eq_true rfl) dL_talks_3 ⟨by show _ ≤ 30; omega, by show _ ≤ 180; omega⟩ (fun H locs hW hS => ?_)
      refine n_top (y := xI 3) (by rw [z_ans hB hu hw, if_pos h110, ho]; rfl) ?_
      refine lv_istore (lv' := [(4, .int (xI 3)), (0, .ref (ax 0)), (1, .int (nI u)), (2, .int (nI w)), (3, .int (nI (s_knd n B u w)))]) hx hb dL_talks_6 hl (by decide) rfl (fun ls hl => ?_)
      refine lv_aload_n hx hb dL_talks_8 rfl (lv_at hl 1 rfl) ?_
      refine lv_iload_n hx hb dL_talks_9 rfl (lv_at hl 2 rfl) ?_
      refine lv_iload_n hx hb dL_talks_10 rfl (lv_at hl 3 rfl) ?_
      refine z_SX (As := [.ref (ax 0), .int (nI u), .int (nI w)]) (rest := []) ⟨hx, hb, hml, hown, hts⟩ (zL_answersLine l hfl D cI cZ cA ax A n B (nI u) (nI w) hB) (vx_cwSW 3 hts gL_talks_L_answersLine rfl rfl rfl hdL_answersLine ⟨Nat.le_of_ble_eq_true rfl, Nat.le_of_ble_eq_true rfl⟩) hK hW hS hA hE hNC rfl hl.1 rfl (Nat.le_of_ble_eq_true rfl) dL_talks_11 ⟨by show _ ≤ 30; omega, by show _ ≤ 180; omega⟩ (fun H locs hW hS => ?_)
      refine n_top (y := xI 3) (by rw [z_ans hB hu hw, if_pos h110, ho]; rfl) ?_
      refine lv_istore (lv' := [(5, .int (xI 3)), (4, .int (xI 3)), (0, .ref (ax 0)), (1, .int (nI u)), (2, .int (nI w)), (3, .int (nI (s_knd n B u w)))]) hx hb dL_talks_14 hl (by decide) rfl (fun ls hl => ?_)
      refine lv_iload_n hx hb dL_talks_16 rfl (lv_at hl 5 rfl) ?_
      refine lv_bipush (v := nI 110) hx hb dL_talks_17 (by decide +kernel) ?_
      refine lv_icmp_eq (tgt := 28) hx hb dL_talks_19 (by decide) (fun _ => ?_) (fun h => False.elim (h (congrArg nI h110)))
      refine lv_iconst (v := nI 1) hx hb dL_talks_28 (by decide +kernel) ?_
      refine lv_goto (tgt := 33) hx hb dL_talks_29 (by decide) ?_
      refine lv_istore (lv' := [(6, .int (nI 1)), (5, .int (xI 3)), (4, .int (xI 3)), (0, .ref (ax 0)), (1, .int (nI u)), (2, .int (nI w)), (3, .int (nI (s_knd n B u w)))]) hx hb dL_talks_33 hl (by decide) rfl (fun ls hl => ?_)
      refine lv_iload hx hb dL_talks_35 (lv_at hl 2 rfl) ?_
      refine lv_sipush (v := xI 2) hx hb dL_talks_37 (by decide +kernel) ?_
      refine lv_icmp_ne (tgt := 47) hx hb dL_talks_40 (by decide) (fun _ => ?_) (fun h => False.elim (absurd h (by decide +kernel)))
      refine lv_iconst (v := nI 0) hx hb dL_talks_47 (by decide +kernel) ?_
      refine lv_iload_n hx hb dL_talks_48 rfl (lv_at hl 6 rfl) ?_
      refine lv_bipush (v := nI 110) hx hb dL_talks_49 (by decide +kernel) ?_
      refine lv_icmp_eq (tgt := 58) hx hb dL_talks_51 (by decide) (fun _ => ?_) (fun h => False.elim (h (congrArg nI h110)))
      refine lv_iconst (v := nI 0) hx hb dL_talks_58 (by decide +kernel) ?_
      refine lv_icmp_ne (tgt := 122) hx hb dL_talks_59 (by decide) (fun h => False.elim (h rfl)) (fun _ => ?_)
      refine lv_iload hx hb dL_talks_62 (lv_at hl 1 rfl) ?_
      refine lv_if_ge (tgt := 71) hx hb dL_talks_64 (by decide) (fun h => False.elim (absurd h (by decide +kernel))) (fun _ => ?_)
      refine lv_iconst (v := nI 1) hx hb dL_talks_67 (by decide +kernel) ?_
      refine lv_goto (tgt := 72) hx hb dL_talks_68 (by decide) ?_
      refine lv_iload hx hb dL_talks_72 (lv_at hl 2 rfl) ?_
      refine lv_if_ge (tgt := 81) hx hb dL_talks_74 (by decide) (fun h => False.elim (absurd h (by decide +kernel))) (fun _ => ?_)
      refine lv_iconst (v := nI 1) hx hb dL_talks_77 (by decide +kernel) ?_
      refine lv_goto (tgt := 82) hx hb dL_talks_78 (by decide) ?_
      refine lv_icmp_ne (tgt := 122) hx hb dL_talks_82 (by decide) (fun h => False.elim (h rfl)) (fun _ => ?_)
      refine lv_aload_n hx hb dL_talks_85 rfl (lv_at hl 3 rfl) ?_
      refine lv_iload_n hx hb dL_talks_86 rfl (lv_at hl 4 rfl) ?_
      refine lv_iload_n hx hb dL_talks_87 rfl (lv_at hl 5 rfl) ?_
      refine z_SX (As := [.ref (ax 0), .int (nI u), .int (nI w)]) (rest := []) ⟨hx, hb, hml, hown, hts⟩ (zL_copies l hfl D cI cZ cA ax A n B (nI u) (nI w) hB) (vx_cwSW 3 hts gL_talks_L_copies rfl rfl rfl hdL_copies ⟨Nat.le_of_ble_eq_true rfl, Nat.le_of_ble_eq_true rfl⟩) hK hW hS hA hE hNC rfl hl.1 rfl (Nat.le_of_ble_eq_true rfl) dL_talks_88 ⟨by show _ ≤ 30; omega, by show _ ≤ 180; omega⟩ (fun H locs hW hS => ?_)
      refine n_top (y := nI (sm (s_cpp n B (8 * u + w)) (B 4) n)) (by rw [z_cop hB hu hw, if_pos htk]; rfl) ?_
      have hcp := cop_pos hB hu hw htk
      have hc80 := sm_80 hB (s_cpp n B (8 * u + w))
      refine lv_iconst (v := nI 1) hx hb dL_talks_91 (by decide +kernel) ?_
      refine lv_icmp_ge (tgt := 99) hx hb dL_talks_92 (by decide) (fun _ => ?_) (fun h => False.elim (h ((nI_leI (by decide) (by omega)).mpr hcp)))
      refine lv_iconst (v := nI 0) hx hb dL_talks_99 (by decide +kernel) ?_
      refine lv_iload hx hb dL_talks_100 (lv_at hl 0 rfl) ?_
      refine lv_icmp_eq (tgt := 122) hx hb dL_talks_102 (by decide) (fun h => False.elim (absurd h (by decide +kernel))) (fun _ => ?_)
      refine lv_iload hx hb dL_talks_105 (lv_at hl 0 rfl) ?_
      refine lv_if_ne (tgt := 124) hx hb dL_talks_107 (by decide) (fun _ => ?_) (fun h => False.elim (absurd (h) (by decide +kernel)))
      refine lv_iconst (v := nI 0) hx hb dL_talks_124 (by decide +kernel) ?_
      refine lv_istore (lv' := [(7, .int (nI 0)), (6, .int (nI 1)), (5, .int (xI 3)), (4, .int (xI 3)), (0, .ref (ax 0)), (1, .int (nI u)), (2, .int (nI w)), (3, .int (nI (s_knd n B u w)))]) hx hb dL_talks_125 hl (by decide) rfl (fun ls hl => ?_)
      refine lv_iconst (v := nI 0) hx hb dL_talks_127 (by decide +kernel) ?_
      refine lv_istore (lv' := [(8, .int (nI 0)), (7, .int (nI 0)), (6, .int (nI 1)), (5, .int (xI 3)), (4, .int (xI 3)), (0, .ref (ax 0)), (1, .int (nI u)), (2, .int (nI w)), (3, .int (nI (s_knd n B u w)))]) hx hb dL_talks_128 hl (by decide) rfl (fun ls hl => ?_)
      refine W.widen (k := 12 + 2 * 0) (n := 72 + 12 * 0) (by omega) (by omega) ?_
      refine loop_130 (xI 3) (xI 3) (nI 1) (fun H locs hW hS ls hl => ?_) (w + 1) 0 (by omega) (Nat.zero_le _) _ _ hW hS _ (lv_sub hl [5, 6, 7, 8, 4, 3, 2, 1, 0] rfl)
      refine lv_iload_n hx hb dL_talks_164 rfl (lv_at hl 3 rfl) ?_
      refine lv_bipush (v := nI 110) hx hb dL_talks_165 (by decide +kernel) ?_
      refine lv_icmp_ne (tgt := 190) hx hb dL_talks_167 (by decide) (fun h => False.elim (h (congrArg nI h110))) (fun _ => ?_)
      refine lv_iload hx hb dL_talks_170 (lv_at hl 4 rfl) ?_
      refine lv_sipush (v := xI 3) hx hb dL_talks_172 (by decide +kernel) ?_
      refine lv_icmp_ne (tgt := 182) hx hb dL_talks_175 (by decide) (fun h => False.elim (h rfl)) (fun _ => ?_)
      refine lv_iconst (v := nI 1) hx hb dL_talks_178 (by decide +kernel) ?_
      refine lv_goto (tgt := 183) hx hb dL_talks_179 (by decide) ?_
      refine lv_iload hx hb dL_talks_183 (lv_at hl 7 rfl) ?_
      refine n_top (y := nI 0) (by rw [s_an_no ho]; decide +kernel) ?_
      refine lv_icmp_ne (tgt := 190) hx hb dL_talks_185 (by decide) (fun _ => ?_) (fun h => False.elim (absurd (h) (by decide +kernel)))
      refine lv_iload hx hb dL_talks_190 (lv_at hl 4 rfl) ?_
      refine lv_if_lt (tgt := 217) hx hb dL_talks_192 (by decide) (fun _ => ?_) (fun h => False.elim (h (xI_neg _)))
      refine lv_iconst (v := nI 1) hx hb dL_talks_217 (by decide +kernel) ?_
      refine lv_goto (tgt := 222) hx hb dL_talks_218 (by decide) ?_
      refine W.widen (k := 30) (n := 180) (by omega) (by omega) ?_
      exact W.zret (v := nI 1) hx hb hr (by decide +kernel) (fun t ht hW9 => ⟨⟨_, (), rfl, rfl, (by show LWh D cI cZ cA ax A n B t.heap; rw [ht]; exact hW)⟩, hS.F ht⟩) hS.2.2 dL_talks_222
    · refine lv_aload_n hx hb dL_talks_0 rfl (lv_at hl 0 rfl) ?_
      refine lv_iload_n hx hb dL_talks_1 rfl (lv_at hl 1 rfl) ?_
      refine lv_iload_n hx hb dL_talks_2 rfl (lv_at hl 2 rfl) ?_
      refine z_SX (As := [.ref (ax 0), .int (nI u), .int (nI w)]) (rest := []) ⟨hx, hb, hml, hown, hts⟩ (zL_answersMail l hfl D cI cZ cA ax A n B (nI u) (nI w) hB) (vx_cwSW 3 hts gL_talks_L_answersMail rfl rfl rfl hdL_answersMail ⟨Nat.le_of_ble_eq_true rfl, Nat.le_of_ble_eq_true rfl⟩) hK hW hS hA hE hNC rfl hl.1 rfl (Nat.le_of_ble_eq_true rfl) dL_talks_3 ⟨by show _ ≤ 30; omega, by show _ ≤ 180; omega⟩ (fun H locs hW hS => ?_)
      refine n_top (y := nI (o / 8)) (by rw [z_ans hB hu hw, if_pos h110, ho]; rfl) ?_
      refine lv_istore (lv' := [(4, .int (nI (o / 8))), (0, .ref (ax 0)), (1, .int (nI u)), (2, .int (nI w)), (3, .int (nI (s_knd n B u w)))]) hx hb dL_talks_6 hl (by decide) rfl (fun ls hl => ?_)
      refine lv_aload_n hx hb dL_talks_8 rfl (lv_at hl 1 rfl) ?_
      refine lv_iload_n hx hb dL_talks_9 rfl (lv_at hl 2 rfl) ?_
      refine lv_iload_n hx hb dL_talks_10 rfl (lv_at hl 3 rfl) ?_
      refine z_SX (As := [.ref (ax 0), .int (nI u), .int (nI w)]) (rest := []) ⟨hx, hb, hml, hown, hts⟩ (zL_answersLine l hfl D cI cZ cA ax A n B (nI u) (nI w) hB) (vx_cwSW 3 hts gL_talks_L_answersLine rfl rfl rfl hdL_answersLine ⟨Nat.le_of_ble_eq_true rfl, Nat.le_of_ble_eq_true rfl⟩) hK hW hS hA hE hNC rfl hl.1 rfl (Nat.le_of_ble_eq_true rfl) dL_talks_11 ⟨by show _ ≤ 30; omega, by show _ ≤ 180; omega⟩ (fun H locs hW hS => ?_)
      refine n_top (y := nI (o % 8)) (by rw [z_ans hB hu hw, if_pos h110, ho]; rfl) ?_
      have hon := s_an_ok hB hu (Nat.le_of_lt hw) ho
      have h8o := h8 (o / 8)
      refine lv_istore (lv' := [(5, .int (nI (o % 8))), (4, .int (nI (o / 8))), (0, .ref (ax 0)), (1, .int (nI u)), (2, .int (nI w)), (3, .int (nI (s_knd n B u w)))]) hx hb dL_talks_14 hl (by decide) rfl (fun ls hl => ?_)
      refine lv_iload_n hx hb dL_talks_16 rfl (lv_at hl 5 rfl) ?_
      refine lv_bipush (v := nI 110) hx hb dL_talks_17 (by decide +kernel) ?_
      refine lv_icmp_eq (tgt := 28) hx hb dL_talks_19 (by decide) (fun _ => ?_) (fun h => False.elim (h (congrArg nI h110)))
      refine lv_iconst (v := nI 1) hx hb dL_talks_28 (by decide +kernel) ?_
      refine lv_goto (tgt := 33) hx hb dL_talks_29 (by decide) ?_
      refine lv_istore (lv' := [(6, .int (nI 1)), (5, .int (nI (o % 8))), (4, .int (nI (o / 8))), (0, .ref (ax 0)), (1, .int (nI u)), (2, .int (nI w)), (3, .int (nI (s_knd n B u w)))]) hx hb dL_talks_33 hl (by decide) rfl (fun ls hl => ?_)
      refine lv_iload hx hb dL_talks_35 (lv_at hl 2 rfl) ?_
      refine lv_sipush (v := xI 2) hx hb dL_talks_37 (by decide +kernel) ?_
      refine lv_icmp_ne (tgt := 47) hx hb dL_talks_40 (by decide) (fun _ => ?_) (fun h => False.elim (xI_nI (by omega) (h)))
      refine lv_iconst (v := nI 0) hx hb dL_talks_47 (by decide +kernel) ?_
      refine lv_iload_n hx hb dL_talks_48 rfl (lv_at hl 6 rfl) ?_
      refine lv_bipush (v := nI 110) hx hb dL_talks_49 (by decide +kernel) ?_
      refine lv_icmp_eq (tgt := 58) hx hb dL_talks_51 (by decide) (fun _ => ?_) (fun h => False.elim (h (congrArg nI h110)))
      refine lv_iconst (v := nI 0) hx hb dL_talks_58 (by decide +kernel) ?_
      refine lv_icmp_ne (tgt := 122) hx hb dL_talks_59 (by decide) (fun h => False.elim (h rfl)) (fun _ => ?_)
      refine lv_iload hx hb dL_talks_62 (lv_at hl 1 rfl) ?_
      refine lv_if_ge (tgt := 71) hx hb dL_talks_64 (by decide) (fun _ => ?_) (fun h => False.elim (h (nI_pos' (by omega))))
      refine lv_iconst (v := nI 0) hx hb dL_talks_71 (by decide +kernel) ?_
      refine lv_iload hx hb dL_talks_72 (lv_at hl 2 rfl) ?_
      refine lv_if_ge (tgt := 81) hx hb dL_talks_74 (by decide) (fun _ => ?_) (fun h => False.elim (h (nI_pos' (by omega))))
      refine lv_iconst (v := nI 0) hx hb dL_talks_81 (by decide +kernel) ?_
      refine lv_icmp_ne (tgt := 122) hx hb dL_talks_82 (by decide) (fun h => False.elim (h rfl)) (fun _ => ?_)
      refine lv_aload_n hx hb dL_talks_85 rfl (lv_at hl 3 rfl) ?_
      refine lv_iload_n hx hb dL_talks_86 rfl (lv_at hl 4 rfl) ?_
      refine lv_iload_n hx hb dL_talks_87 rfl (lv_at hl 5 rfl) ?_
      refine z_SX (As := [.ref (ax 0), .int (nI u), .int (nI w)]) (rest := []) ⟨hx, hb, hml, hown, hts⟩ (zL_copies l hfl D cI cZ cA ax A n B (nI u) (nI w) hB) (vx_cwSW 3 hts gL_talks_L_copies rfl rfl rfl hdL_copies ⟨Nat.le_of_ble_eq_true rfl, Nat.le_of_ble_eq_true rfl⟩) hK hW hS hA hE hNC rfl hl.1 rfl (Nat.le_of_ble_eq_true rfl) dL_talks_88 ⟨by show _ ≤ 30; omega, by show _ ≤ 180; omega⟩ (fun H locs hW hS => ?_)
      refine n_top (y := nI (sm (s_cpp n B (8 * u + w)) (B 4) n)) (by rw [z_cop hB hu hw, if_pos htk]; rfl) ?_
      have hcp := cop_pos hB hu hw htk
      have hc80 := sm_80 hB (s_cpp n B (8 * u + w))
      refine lv_iconst (v := nI 1) hx hb dL_talks_91 (by decide +kernel) ?_
      refine lv_icmp_ge (tgt := 99) hx hb dL_talks_92 (by decide) (fun _ => ?_) (fun h => False.elim (h ((nI_leI (by decide) (by omega)).mpr hcp)))
      refine lv_iconst (v := nI 0) hx hb dL_talks_99 (by decide +kernel) ?_
      refine lv_iload hx hb dL_talks_100 (lv_at hl 0 rfl) ?_
      refine lv_icmp_eq (tgt := 122) hx hb dL_talks_102 (by decide) (fun h => False.elim (absurd h (by decide +kernel))) (fun _ => ?_)
      refine lv_iload hx hb dL_talks_105 (lv_at hl 0 rfl) ?_
      refine lv_if_ne (tgt := 124) hx hb dL_talks_107 (by decide) (fun _ => ?_) (fun h => False.elim (absurd (h) (by decide +kernel)))
      refine lv_iconst (v := nI 0) hx hb dL_talks_124 (by decide +kernel) ?_
      refine lv_istore (lv' := [(7, .int (nI 0)), (6, .int (nI 1)), (5, .int (nI (o % 8))), (4, .int (nI (o / 8))), (0, .ref (ax 0)), (1, .int (nI u)), (2, .int (nI w)), (3, .int (nI (s_knd n B u w)))]) hx hb dL_talks_125 hl (by decide) rfl (fun ls hl => ?_)
      refine lv_iconst (v := nI 0) hx hb dL_talks_127 (by decide +kernel) ?_
      refine lv_istore (lv' := [(8, .int (nI 0)), (7, .int (nI 0)), (6, .int (nI 1)), (5, .int (nI (o % 8))), (4, .int (nI (o / 8))), (0, .ref (ax 0)), (1, .int (nI u)), (2, .int (nI w)), (3, .int (nI (s_knd n B u w)))]) hx hb dL_talks_128 hl (by decide) rfl (fun ls hl => ?_)
      refine W.widen (k := 12 + 2 * 0) (n := 72 + 12 * 0) (by omega) (by omega) ?_
      refine loop_130 (nI (o / 8)) (nI (o % 8)) (nI 1) (fun H locs hW hS ls hl => ?_) (w + 1) 0 (by omega) (Nat.zero_le _) _ _ hW hS _ (lv_sub hl [5, 6, 7, 8, 4, 3, 2, 1, 0] rfl)
      refine lv_iload_n hx hb dL_talks_164 rfl (lv_at hl 3 rfl) ?_
      refine lv_bipush (v := nI 110) hx hb dL_talks_165 (by decide +kernel) ?_
      refine lv_icmp_ne (tgt := 190) hx hb dL_talks_167 (by decide) (fun h => False.elim (h (congrArg nI h110))) (fun _ => ?_)
      refine lv_iload hx hb dL_talks_170 (lv_at hl 4 rfl) ?_
      refine lv_sipush (v := xI 3) hx hb dL_talks_172 (by decide +kernel) ?_
      refine lv_icmp_ne (tgt := 182) hx hb dL_talks_175 (by decide) (fun _ => ?_) (fun h => False.elim (xI_nI (by omega) (h)))
      refine lv_iconst (v := nI 0) hx hb dL_talks_182 (by decide +kernel) ?_
      refine lv_iload hx hb dL_talks_183 (lv_at hl 7 rfl) ?_
      refine n_top (y := nI 1) (by rw [s_an_ye ho]; decide +kernel) ?_
      refine lv_icmp_ne (tgt := 190) hx hb dL_talks_185 (by decide) (fun _ => ?_) (fun h => False.elim (absurd (h) (by decide +kernel)))
      refine lv_iload hx hb dL_talks_190 (lv_at hl 4 rfl) ?_
      refine lv_if_lt (tgt := 217) hx hb dL_talks_192 (by decide) (fun h => False.elim (nI_pos (by omega) h)) (fun _ => ?_)
      have eo : 8 * (o / 8) + o % 8 = o := by omega
      have hap := asn_pos (B := B) hu hw h110 ho
      have ha80 := sm_80 hB (s_anp n B o)
      refine lv_aload_n hx hb dL_talks_195 rfl (lv_at hl 0 rfl) ?_
      refine lv_iload hx hb dL_talks_196 (lv_at hl 4 rfl) ?_
      refine lv_iload hx hb dL_talks_198 (lv_at hl 5 rfl) ?_
      refine z_SX (As := [.ref (ax 0), .int (nI (o / 8)), .int (nI (o % 8))]) (rest := []) ⟨hx, hb, hml, hown, hts⟩ (zL_answers l hfl D cI cZ cA ax A n B (nI (o / 8)) (nI (o % 8)) hB) (vx_cwSW 3 hts gL_talks_L_answers rfl rfl rfl hdL_answers ⟨Nat.le_of_ble_eq_true rfl, Nat.le_of_ble_eq_true rfl⟩) hK hW hS hA hE hNC rfl hl.1 rfl (Nat.le_of_ble_eq_true rfl) dL_talks_200 ⟨by show _ ≤ 30; omega, by show _ ≤ 180; omega⟩ (fun H locs hW hS => ?_)
      refine n_top (y := nI (sm (s_anp n B o) (B 4) n)) (by rw [z_asn hB hon.1 hon.2, eo]; rfl) ?_
      refine lv_if_le (tgt := 221) hx hb dL_talks_203 (by decide) (fun h => False.elim (nI_nle hap (by omega) h)) (fun _ => ?_)
      have hwp := hBW _ _ hon.1 hon.2
      have hw99 := h99 (8 * (o / 8) + o % 8)
      refine lv_aload_n hx hb dL_talks_206 rfl (lv_at hl 0 rfl) ?_
      refine lv_iload hx hb dL_talks_207 (lv_at hl 4 rfl) ?_
      refine lv_iload hx hb dL_talks_209 (lv_at hl 5 rfl) ?_
      refine z_SX (As := [.ref (ax 0), .int (nI (o / 8)), .int (nI (o % 8))]) (rest := []) ⟨hx, hb, hml, hown, hts⟩ (zL_word l hfl D cI cZ cA ax A n B (nI (o / 8)) (nI (o % 8)) hB) (vx_cwSW 3 hts gL_talks_L_word rfl rfl rfl hdL_word ⟨Nat.le_of_ble_eq_true rfl, Nat.le_of_ble_eq_true rfl⟩) hK hW hS hA hE hNC rfl hl.1 rfl (Nat.le_of_ble_eq_true rfl) dL_talks_211 ⟨by show _ ≤ 30; omega, by show _ ≤ 180; omega⟩ (fun H locs hW hS => ?_)
      refine n_top (y := nI (B 6 (8 * (o / 8) + o % 8))) (by rw [z_word hB hon.1 hon.2]; rfl) ?_
      refine lv_if_le (tgt := 221) hx hb dL_talks_214 (by decide) (fun h => False.elim (nI_nle hwp (by omega) h)) (fun _ => ?_)
      refine lv_iconst (v := nI 1) hx hb dL_talks_217 (by decide +kernel) ?_
      refine lv_goto (tgt := 222) hx hb dL_talks_218 (by decide) ?_
      refine W.widen (k := 30) (n := 180) (by omega) (by omega) ?_
      exact W.zret (v := nI 1) hx hb hr (by decide +kernel) (fun t ht hW9 => ⟨⟨_, (), rfl, rfl, (by show LWh D cI cZ cA ax A n B t.heap; rw [ht]; exact hW)⟩, hS.F ht⟩) hS.2.2 dL_talks_222
  · by_cases h114 : s_knd n B u w = 114
    · have htk : s_talk n B u w = true := by unfold s_talk; rw [h114]; rfl
      refine lv_aload_n hx hb dL_talks_0 rfl (lv_at hl 0 rfl) ?_
      refine lv_iload_n hx hb dL_talks_1 rfl (lv_at hl 1 rfl) ?_
      refine lv_iload_n hx hb dL_talks_2 rfl (lv_at hl 2 rfl) ?_
      refine z_SX (As := [.ref (ax 0), .int (nI u), .int (nI w)]) (rest := []) ⟨hx, hb, hml, hown, hts⟩ (zL_answersMail l hfl D cI cZ cA ax A n B (nI u) (nI w) hB) (vx_cwSW 3 hts gL_talks_L_answersMail rfl rfl rfl hdL_answersMail ⟨Nat.le_of_ble_eq_true rfl, Nat.le_of_ble_eq_true rfl⟩) hK hW hS hA hE hNC rfl hl.1 rfl (Nat.le_of_ble_eq_true rfl) dL_talks_3 ⟨by show _ ≤ 30; omega, by show _ ≤ 180; omega⟩ (fun H locs hW hS => ?_)
      refine n_top (y := xI 2) (by rw [z_ans hB hu hw, if_neg h110]; rfl) ?_
      refine lv_istore (lv' := [(4, .int (xI 2)), (0, .ref (ax 0)), (1, .int (nI u)), (2, .int (nI w)), (3, .int (nI (s_knd n B u w)))]) hx hb dL_talks_6 hl (by decide) rfl (fun ls hl => ?_)
      refine lv_aload_n hx hb dL_talks_8 rfl (lv_at hl 1 rfl) ?_
      refine lv_iload_n hx hb dL_talks_9 rfl (lv_at hl 2 rfl) ?_
      refine lv_iload_n hx hb dL_talks_10 rfl (lv_at hl 3 rfl) ?_
      refine z_SX (As := [.ref (ax 0), .int (nI u), .int (nI w)]) (rest := []) ⟨hx, hb, hml, hown, hts⟩ (zL_answersLine l hfl D cI cZ cA ax A n B (nI u) (nI w) hB) (vx_cwSW 3 hts gL_talks_L_answersLine rfl rfl rfl hdL_answersLine ⟨Nat.le_of_ble_eq_true rfl, Nat.le_of_ble_eq_true rfl⟩) hK hW hS hA hE hNC rfl hl.1 rfl (Nat.le_of_ble_eq_true rfl) dL_talks_11 ⟨by show _ ≤ 30; omega, by show _ ≤ 180; omega⟩ (fun H locs hW hS => ?_)
      refine n_top (y := xI 2) (by rw [z_ans hB hu hw, if_neg h110]; rfl) ?_
      refine lv_istore (lv' := [(5, .int (xI 2)), (4, .int (xI 2)), (0, .ref (ax 0)), (1, .int (nI u)), (2, .int (nI w)), (3, .int (nI (s_knd n B u w)))]) hx hb dL_talks_14 hl (by decide) rfl (fun ls hl => ?_)
      refine lv_iload_n hx hb dL_talks_16 rfl (lv_at hl 5 rfl) ?_
      refine lv_bipush (v := nI 110) hx hb dL_talks_17 (by decide +kernel) ?_
      refine lv_icmp_eq (tgt := 28) hx hb dL_talks_19 (by decide) (fun h => False.elim (h110 ((nI_eq (by omega) (by decide)).mp h))) (fun _ => ?_)
      refine lv_iload_n hx hb dL_talks_22 rfl (lv_at hl 5 rfl) ?_
      refine lv_bipush (v := nI 114) hx hb dL_talks_23 (by decide +kernel) ?_
      refine lv_icmp_ne (tgt := 32) hx hb dL_talks_25 (by decide) (fun h => False.elim (h (congrArg nI h114))) (fun _ => ?_)
      refine lv_iconst (v := nI 1) hx hb dL_talks_28 (by decide +kernel) ?_
      refine lv_goto (tgt := 33) hx hb dL_talks_29 (by decide) ?_
      refine lv_istore (lv' := [(6, .int (nI 1)), (5, .int (xI 2)), (4, .int (xI 2)), (0, .ref (ax 0)), (1, .int (nI u)), (2, .int (nI w)), (3, .int (nI (s_knd n B u w)))]) hx hb dL_talks_33 hl (by decide) rfl (fun ls hl => ?_)
      refine lv_iload hx hb dL_talks_35 (lv_at hl 2 rfl) ?_
      refine lv_sipush (v := xI 2) hx hb dL_talks_37 (by decide +kernel) ?_
      refine lv_icmp_ne (tgt := 47) hx hb dL_talks_40 (by decide) (fun h => False.elim (h rfl)) (fun _ => ?_)
      refine lv_iconst (v := nI 1) hx hb dL_talks_43 (by decide +kernel) ?_
      refine lv_goto (tgt := 48) hx hb dL_talks_44 (by decide) ?_
      refine lv_iload_n hx hb dL_talks_48 rfl (lv_at hl 6 rfl) ?_
      refine lv_bipush (v := nI 110) hx hb dL_talks_49 (by decide +kernel) ?_
      refine lv_icmp_eq (tgt := 58) hx hb dL_talks_51 (by decide) (fun h => False.elim (h110 ((nI_eq (by omega) (by decide)).mp h))) (fun _ => ?_)
      refine lv_iconst (v := nI 1) hx hb dL_talks_54 (by decide +kernel) ?_
      refine lv_goto (tgt := 59) hx hb dL_talks_55 (by decide) ?_
      refine lv_icmp_ne (tgt := 122) hx hb dL_talks_59 (by decide) (fun h => False.elim (h rfl)) (fun _ => ?_)
      refine lv_iload hx hb dL_talks_62 (lv_at hl 1 rfl) ?_
      refine lv_if_ge (tgt := 71) hx hb dL_talks_64 (by decide) (fun h => False.elim (absurd h (by decide +kernel))) (fun _ => ?_)
      refine lv_iconst (v := nI 1) hx hb dL_talks_67 (by decide +kernel) ?_
      refine lv_goto (tgt := 72) hx hb dL_talks_68 (by decide) ?_
      refine lv_iload hx hb dL_talks_72 (lv_at hl 2 rfl) ?_
      refine lv_if_ge (tgt := 81) hx hb dL_talks_74 (by decide) (fun h => False.elim (absurd h (by decide +kernel))) (fun _ => ?_)
      refine lv_iconst (v := nI 1) hx hb dL_talks_77 (by decide +kernel) ?_
      refine lv_goto (tgt := 82) hx hb dL_talks_78 (by decide) ?_
      refine lv_icmp_ne (tgt := 122) hx hb dL_talks_82 (by decide) (fun h => False.elim (h rfl)) (fun _ => ?_)
      refine lv_aload_n hx hb dL_talks_85 rfl (lv_at hl 3 rfl) ?_
      refine lv_iload_n hx hb dL_talks_86 rfl (lv_at hl 4 rfl) ?_
      refine lv_iload_n hx hb dL_talks_87 rfl (lv_at hl 5 rfl) ?_
      refine z_SX (As := [.ref (ax 0), .int (nI u), .int (nI w)]) (rest := []) ⟨hx, hb, hml, hown, hts⟩ (zL_copies l hfl D cI cZ cA ax A n B (nI u) (nI w) hB) (vx_cwSW 3 hts gL_talks_L_copies rfl rfl rfl hdL_copies ⟨Nat.le_of_ble_eq_true rfl, Nat.le_of_ble_eq_true rfl⟩) hK hW hS hA hE hNC rfl hl.1 rfl (Nat.le_of_ble_eq_true rfl) dL_talks_88 ⟨by show _ ≤ 30; omega, by show _ ≤ 180; omega⟩ (fun H locs hW hS => ?_)
      refine n_top (y := nI (sm (s_cpp n B (8 * u + w)) (B 4) n)) (by rw [z_cop hB hu hw, if_pos htk]; rfl) ?_
      have hcp := cop_pos hB hu hw htk
      have hc80 := sm_80 hB (s_cpp n B (8 * u + w))
      refine lv_iconst (v := nI 1) hx hb dL_talks_91 (by decide +kernel) ?_
      refine lv_icmp_ge (tgt := 99) hx hb dL_talks_92 (by decide) (fun _ => ?_) (fun h => False.elim (h ((nI_leI (by decide) (by omega)).mpr hcp)))
      refine lv_iconst (v := nI 0) hx hb dL_talks_99 (by decide +kernel) ?_
      refine lv_iload hx hb dL_talks_100 (lv_at hl 0 rfl) ?_
      refine lv_icmp_eq (tgt := 122) hx hb dL_talks_102 (by decide) (fun h => False.elim (absurd h (by decide +kernel))) (fun _ => ?_)
      refine lv_iload hx hb dL_talks_105 (lv_at hl 0 rfl) ?_
      refine lv_if_ne (tgt := 124) hx hb dL_talks_107 (by decide) (fun _ => ?_) (fun h => False.elim (absurd (h) (by decide +kernel)))
      refine lv_iconst (v := nI 0) hx hb dL_talks_124 (by decide +kernel) ?_
      refine lv_istore (lv' := [(7, .int (nI 0)), (6, .int (nI 1)), (5, .int (xI 2)), (4, .int (xI 2)), (0, .ref (ax 0)), (1, .int (nI u)), (2, .int (nI w)), (3, .int (nI (s_knd n B u w)))]) hx hb dL_talks_125 hl (by decide) rfl (fun ls hl => ?_)
      refine lv_iconst (v := nI 0) hx hb dL_talks_127 (by decide +kernel) ?_
      refine lv_istore (lv' := [(8, .int (nI 0)), (7, .int (nI 0)), (6, .int (nI 1)), (5, .int (xI 2)), (4, .int (xI 2)), (0, .ref (ax 0)), (1, .int (nI u)), (2, .int (nI w)), (3, .int (nI (s_knd n B u w)))]) hx hb dL_talks_128 hl (by decide) rfl (fun ls hl => ?_)
      refine W.widen (k := 12 + 2 * 0) (n := 72 + 12 * 0) (by omega) (by omega) ?_
      refine loop_130 (xI 2) (xI 2) (nI 1) (fun H locs hW hS ls hl => ?_) (w + 1) 0 (by omega) (Nat.zero_le _) _ _ hW hS _ (lv_sub hl [5, 6, 7, 8, 4, 3, 2, 1, 0] rfl)
      refine lv_iload_n hx hb dL_talks_164 rfl (lv_at hl 3 rfl) ?_
      refine lv_bipush (v := nI 110) hx hb dL_talks_165 (by decide +kernel) ?_
      refine lv_icmp_ne (tgt := 190) hx hb dL_talks_167 (by decide) (fun _ => ?_) (fun h => False.elim (h110 ((nI_eq (by omega) (by decide)).mp (h))))
      refine lv_iload hx hb dL_talks_190 (lv_at hl 4 rfl) ?_
      refine lv_if_lt (tgt := 217) hx hb dL_talks_192 (by decide) (fun _ => ?_) (fun h => False.elim (h (xI_neg _)))
      refine lv_iconst (v := nI 1) hx hb dL_talks_217 (by decide +kernel) ?_
      refine lv_goto (tgt := 222) hx hb dL_talks_218 (by decide) ?_
      refine W.widen (k := 30) (n := 180) (by omega) (by omega) ?_
      exact W.zret (v := nI 1) hx hb hr (by decide +kernel) (fun t ht hW9 => ⟨⟨_, (), rfl, rfl, (by show LWh D cI cZ cA ax A n B t.heap; rw [ht]; exact hW)⟩, hS.F ht⟩) hS.2.2 dL_talks_222
    · have htk : ¬ s_talk n B u w = true := by unfold s_talk; simp [h110, h114]
      refine lv_aload_n hx hb dL_talks_0 rfl (lv_at hl 0 rfl) ?_
      refine lv_iload_n hx hb dL_talks_1 rfl (lv_at hl 1 rfl) ?_
      refine lv_iload_n hx hb dL_talks_2 rfl (lv_at hl 2 rfl) ?_
      refine z_SX (As := [.ref (ax 0), .int (nI u), .int (nI w)]) (rest := []) ⟨hx, hb, hml, hown, hts⟩ (zL_answersMail l hfl D cI cZ cA ax A n B (nI u) (nI w) hB) (vx_cwSW 3 hts gL_talks_L_answersMail rfl rfl rfl hdL_answersMail ⟨Nat.le_of_ble_eq_true rfl, Nat.le_of_ble_eq_true rfl⟩) hK hW hS hA hE hNC rfl hl.1 rfl (Nat.le_of_ble_eq_true rfl) dL_talks_3 ⟨by show _ ≤ 30; omega, by show _ ≤ 180; omega⟩ (fun H locs hW hS => ?_)
      refine n_top (y := xI 2) (by rw [z_ans hB hu hw, if_neg h110]; rfl) ?_
      refine lv_istore (lv' := [(4, .int (xI 2)), (0, .ref (ax 0)), (1, .int (nI u)), (2, .int (nI w)), (3, .int (nI (s_knd n B u w)))]) hx hb dL_talks_6 hl (by decide) rfl (fun ls hl => ?_)
      refine lv_aload_n hx hb dL_talks_8 rfl (lv_at hl 1 rfl) ?_
      refine lv_iload_n hx hb dL_talks_9 rfl (lv_at hl 2 rfl) ?_
      refine lv_iload_n hx hb dL_talks_10 rfl (lv_at hl 3 rfl) ?_
      refine z_SX (As := [.ref (ax 0), .int (nI u), .int (nI w)]) (rest := []) ⟨hx, hb, hml, hown, hts⟩ (zL_answersLine l hfl D cI cZ cA ax A n B (nI u) (nI w) hB) (vx_cwSW 3 hts gL_talks_L_answersLine rfl rfl rfl hdL_answersLine ⟨Nat.le_of_ble_eq_true rfl, Nat.le_of_ble_eq_true rfl⟩) hK hW hS hA hE hNC rfl hl.1 rfl (Nat.le_of_ble_eq_true rfl) dL_talks_11 ⟨by show _ ≤ 30; omega, by show _ ≤ 180; omega⟩ (fun H locs hW hS => ?_)
      refine n_top (y := xI 2) (by rw [z_ans hB hu hw, if_neg h110]; rfl) ?_
      refine lv_istore (lv' := [(5, .int (xI 2)), (4, .int (xI 2)), (0, .ref (ax 0)), (1, .int (nI u)), (2, .int (nI w)), (3, .int (nI (s_knd n B u w)))]) hx hb dL_talks_14 hl (by decide) rfl (fun ls hl => ?_)
      refine lv_iload_n hx hb dL_talks_16 rfl (lv_at hl 5 rfl) ?_
      refine lv_bipush (v := nI 110) hx hb dL_talks_17 (by decide +kernel) ?_
      refine lv_icmp_eq (tgt := 28) hx hb dL_talks_19 (by decide) (fun h => False.elim (h110 ((nI_eq (by omega) (by decide)).mp h))) (fun _ => ?_)
      refine lv_iload_n hx hb dL_talks_22 rfl (lv_at hl 5 rfl) ?_
      refine lv_bipush (v := nI 114) hx hb dL_talks_23 (by decide +kernel) ?_
      refine lv_icmp_ne (tgt := 32) hx hb dL_talks_25 (by decide) (fun _ => ?_) (fun h => False.elim (h114 ((nI_eq (by omega) (by decide)).mp (h))))
      refine lv_iconst (v := nI 0) hx hb dL_talks_32 (by decide +kernel) ?_
      refine lv_istore (lv' := [(6, .int (nI 0)), (5, .int (xI 2)), (4, .int (xI 2)), (0, .ref (ax 0)), (1, .int (nI u)), (2, .int (nI w)), (3, .int (nI (s_knd n B u w)))]) hx hb dL_talks_33 hl (by decide) rfl (fun ls hl => ?_)
      refine lv_iload hx hb dL_talks_35 (lv_at hl 2 rfl) ?_
      refine lv_sipush (v := xI 2) hx hb dL_talks_37 (by decide +kernel) ?_
      refine lv_icmp_ne (tgt := 47) hx hb dL_talks_40 (by decide) (fun h => False.elim (h rfl)) (fun _ => ?_)
      refine lv_iconst (v := nI 1) hx hb dL_talks_43 (by decide +kernel) ?_
      refine lv_goto (tgt := 48) hx hb dL_talks_44 (by decide) ?_
      refine lv_iload_n hx hb dL_talks_48 rfl (lv_at hl 6 rfl) ?_
      refine lv_bipush (v := nI 110) hx hb dL_talks_49 (by decide +kernel) ?_
      refine lv_icmp_eq (tgt := 58) hx hb dL_talks_51 (by decide) (fun h => False.elim (h110 ((nI_eq (by omega) (by decide)).mp h))) (fun _ => ?_)
      refine lv_iconst (v := nI 1) hx hb dL_talks_54 (by decide +kernel) ?_
      refine lv_goto (tgt := 59) hx hb dL_talks_55 (by decide) ?_
      refine lv_icmp_ne (tgt := 122) hx hb dL_talks_59 (by decide) (fun h => False.elim (h rfl)) (fun _ => ?_)
      refine lv_iload hx hb dL_talks_62 (lv_at hl 1 rfl) ?_
      refine lv_if_ge (tgt := 71) hx hb dL_talks_64 (by decide) (fun h => False.elim (absurd h (by decide +kernel))) (fun _ => ?_)
      refine lv_iconst (v := nI 1) hx hb dL_talks_67 (by decide +kernel) ?_
      refine lv_goto (tgt := 72) hx hb dL_talks_68 (by decide) ?_
      refine lv_iload hx hb dL_talks_72 (lv_at hl 2 rfl) ?_
      refine lv_if_ge (tgt := 81) hx hb dL_talks_74 (by decide) (fun h => False.elim (absurd h (by decide +kernel))) (fun _ => ?_)
      refine lv_iconst (v := nI 1) hx hb dL_talks_77 (by decide +kernel) ?_
      refine lv_goto (tgt := 82) hx hb dL_talks_78 (by decide) ?_
      refine lv_icmp_ne (tgt := 122) hx hb dL_talks_82 (by decide) (fun h => False.elim (h rfl)) (fun _ => ?_)
      refine lv_aload_n hx hb dL_talks_85 rfl (lv_at hl 3 rfl) ?_
      refine lv_iload_n hx hb dL_talks_86 rfl (lv_at hl 4 rfl) ?_
      refine lv_iload_n hx hb dL_talks_87 rfl (lv_at hl 5 rfl) ?_
      refine z_SX (As := [.ref (ax 0), .int (nI u), .int (nI w)]) (rest := []) ⟨hx, hb, hml, hown, hts⟩ (zL_copies l hfl D cI cZ cA ax A n B (nI u) (nI w) hB) (vx_cwSW 3 hts gL_talks_L_copies rfl rfl rfl hdL_copies ⟨Nat.le_of_ble_eq_true rfl, Nat.le_of_ble_eq_true rfl⟩) hK hW hS hA hE hNC rfl hl.1 rfl (Nat.le_of_ble_eq_true rfl) dL_talks_88 ⟨by show _ ≤ 30; omega, by show _ ≤ 180; omega⟩ (fun H locs hW hS => ?_)
      refine n_top (y := xI 2) (by rw [z_cop hB hu hw, if_neg htk]; rfl) ?_
      refine lv_iconst (v := nI 1) hx hb dL_talks_91 (by decide +kernel) ?_
      refine lv_icmp_ge (tgt := 99) hx hb dL_talks_92 (by decide) (fun h => False.elim (absurd h (by decide +kernel))) (fun _ => ?_)
      refine lv_iconst (v := nI 1) hx hb dL_talks_95 (by decide +kernel) ?_
      refine lv_goto (tgt := 100) hx hb dL_talks_96 (by decide) ?_
      refine lv_iload hx hb dL_talks_100 (lv_at hl 0 rfl) ?_
      refine lv_icmp_eq (tgt := 122) hx hb dL_talks_102 (by decide) (fun h => False.elim (absurd h (by decide +kernel))) (fun _ => ?_)
      refine lv_iload hx hb dL_talks_105 (lv_at hl 0 rfl) ?_
      refine lv_if_ne (tgt := 124) hx hb dL_talks_107 (by decide) (fun h => False.elim (h rfl)) (fun _ => ?_)
      refine lv_aload_n hx hb dL_talks_110 rfl (lv_at hl 3 rfl) ?_
      refine lv_iload_n hx hb dL_talks_111 rfl (lv_at hl 4 rfl) ?_
      refine lv_iload_n hx hb dL_talks_112 rfl (lv_at hl 5 rfl) ?_
      refine z_SX (As := [.ref (ax 0), .int (nI u), .int (nI w)]) (rest := []) ⟨hx, hb, hml, hown, hts⟩ (zL_copies l hfl D cI cZ cA ax A n B (nI u) (nI w) hB) (vx_cwSW 3 hts gL_talks_L_copies rfl rfl rfl hdL_copies ⟨Nat.le_of_ble_eq_true rfl, Nat.le_of_ble_eq_true rfl⟩) hK hW hS hA hE hNC rfl hl.1 rfl (Nat.le_of_ble_eq_true rfl) dL_talks_113 ⟨by show _ ≤ 30; omega, by show _ ≤ 180; omega⟩ (fun H locs hW hS => ?_)
      refine n_top (y := xI 2) (by rw [z_cop hB hu hw, if_neg htk]; rfl) ?_
      refine lv_sipush (v := xI 2) hx hb dL_talks_116 (by decide +kernel) ?_
      refine lv_icmp_eq (tgt := 124) hx hb dL_talks_119 (by decide) (fun _ => ?_) (fun h => False.elim (h rfl))
      refine lv_iconst (v := nI 0) hx hb dL_talks_124 (by decide +kernel) ?_
      refine lv_istore (lv' := [(7, .int (nI 0)), (6, .int (nI 0)), (5, .int (xI 2)), (4, .int (xI 2)), (0, .ref (ax 0)), (1, .int (nI u)), (2, .int (nI w)), (3, .int (nI (s_knd n B u w)))]) hx hb dL_talks_125 hl (by decide) rfl (fun ls hl => ?_)
      refine lv_iconst (v := nI 0) hx hb dL_talks_127 (by decide +kernel) ?_
      refine lv_istore (lv' := [(8, .int (nI 0)), (7, .int (nI 0)), (6, .int (nI 0)), (5, .int (xI 2)), (4, .int (xI 2)), (0, .ref (ax 0)), (1, .int (nI u)), (2, .int (nI w)), (3, .int (nI (s_knd n B u w)))]) hx hb dL_talks_128 hl (by decide) rfl (fun ls hl => ?_)
      refine W.widen (k := 12 + 2 * 0) (n := 72 + 12 * 0) (by omega) (by omega) ?_
      refine loop_130 (xI 2) (xI 2) (nI 0) (fun H locs hW hS ls hl => ?_) (w + 1) 0 (by omega) (Nat.zero_le _) _ _ hW hS _ (lv_sub hl [5, 6, 7, 8, 4, 3, 2, 1, 0] rfl)
      refine lv_iload_n hx hb dL_talks_164 rfl (lv_at hl 3 rfl) ?_
      refine lv_bipush (v := nI 110) hx hb dL_talks_165 (by decide +kernel) ?_
      refine lv_icmp_ne (tgt := 190) hx hb dL_talks_167 (by decide) (fun _ => ?_) (fun h => False.elim (h110 ((nI_eq (by omega) (by decide)).mp (h))))
      refine lv_iload hx hb dL_talks_190 (lv_at hl 4 rfl) ?_
      refine lv_if_lt (tgt := 217) hx hb dL_talks_192 (by decide) (fun _ => ?_) (fun h => False.elim (h (xI_neg _)))
      refine lv_iconst (v := nI 1) hx hb dL_talks_217 (by decide +kernel) ?_
      refine lv_goto (tgt := 222) hx hb dL_talks_218 (by decide) ?_
      refine W.widen (k := 30) (n := 180) (by omega) (by omega) ?_
      exact W.zret (v := nI 1) hx hb hr (by decide +kernel) (fun t ht hW9 => ⟨⟨_, (), rfl, rfl, (by show LWh D cI cZ cA ax A n B t.heap; rw [ht]; exact hW)⟩, hS.F ht⟩) hS.2.2 dL_talks_222
