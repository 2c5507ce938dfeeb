set_option maxHeartbeats 4000000 in
set_option maxRecDepth 100000 in
theorem kX0_markedWord (l : Launch) (a : Nat) (b : Nat) : Met l yX0_markedWord wsX0_markedWord ({ frames := 0, cells := 0, slots := 0, locals := 0 }) (PcS [.int (nI (a)), .int (nI (b))]) (vp_Si (fun r => r = (nI (s_mw a b)))) 0 0 (fun _ => False) := by
  refine Met.ofW (cc := cX0_markedWord) (maxL := 2) (ret := (some .int)) (by decide) rfl ?_
  intro p e s m args below meth c s₁ BL hml hv
  obtain ⟨rfl, -⟩ := hv
  have hx := BL.exec
  have hb := BL.bytes
  have hr := BL.returns
  have hts := atoms_spec (ws := wsX0_markedWord) BL.pre
  have hown : s.vm.findClass RX0 = some m.cls := findClass_of_methodNamed BL.named
  have hlocks := BL.notSynchronized
  have hl := lv_entry ([.int (nI (a)), .int (nI (b))]) (n := 2) (Nat.le_of_ble_eq_true rfl)
  rw [lg_entry_eq]
  generalize (lg_sl ([.int (nI (a)), .int (nI (b))]) ++ List.replicate (2 - (lg_sl ([.int (nI (a)), .int (nI (b))])).length) Slot.unset).toArray = ls at hl ⊢
  have hl : lv_has ls 2 [(0, .int (nI (a))), (1, .int (nI (b)))] := hl
  refine lv_iload_n hx hb dX0_markedWord_0 rfl (lv_at hl 0 rfl) ?_
  refine lv_bipush (v := (nI (100))) hx hb dX0_markedWord_1 (by decide +kernel) ?_
  refine lv_imul hx hb dX0_markedWord_3 ?_
  refine n_top (y := (nI (a * 100))) (pk_mul _ _) ?_
  refine lv_iload_n hx hb dX0_markedWord_4 rfl (lv_at hl 1 rfl) ?_
  refine lv_iadd hx hb dX0_markedWord_5 ?_
  refine n_top (y := (nI (a * 100 + b))) (nI_add _ _) ?_
  exact W.iret (v := (nI (a * 100 + b))) hx hb hr (fun t ht hW => ⟨_, rfl, by rfl, ht⟩) (fun _ h => nomatch h) dX0_markedWord_6
theorem hsX0_markedWord : yX0_markedWord.cls ≠ "java/lang/invoke/MethodHandle" ∧ yX0_markedWord.cls ≠ "java/lang/invoke/VarHandle" ∧ (parseMethodDescriptor yX0_markedWord.desc).map (fun d => d.parameters.length) = some 2 := by decide +kernel
set_option maxHeartbeats 4000000 in
set_option maxRecDepth 100000 in
theorem kX0_clear (l : Launch) (D : va_G) (cI cZ cA : ClassId) (ax : Nat → Nat) (wd : Nat → Option Nat) (qf : Nat → Option Nat) (T : Nat → Nat → Nat) (sz : Nat) : Met l yX0_clear wsX0_clear ({ frames := 0, cells := 0, slots := 0, locals := 0 }) (PcM D [(cI, .int), (cZ, .boolean), (cA, .array .int)] (wA cI cA ax wd qf T) sz [.ref (ax 11)]) (va_Qv (fun (u9 : (Nat → Option Nat) × (Nat → Option Nat)) => ∀ k, k < 8 → u9.1 k = none ∧ u9.2 k = none) (fun (u9 : (Nat → Option Nat) × (Nat → Option Nat)) t => AtW D [(cI, .int), (cZ, .boolean), (cA, .array .int)] (va_A (wA cI cA ax wd qf T) sz) (wA cI cA ax u9.1 u9.2 T) t) (va_A (wA cI cA ax wd qf T) sz)) 0 0 (va_A (wA cI cA ax wd qf T) sz) := by
  refine Met.ofW (cc := cX0_clear) (maxL := 2) (ret := none) (by decide) rfl ?_
  intro p e s m args below meth c s₁ BL hml hv
  obtain ⟨rfl, hsz, hP, hK, hD0⟩ := hv
  have hx := BL.exec
  have hb := BL.bytes
  have hr := BL.returns
  have hts := atoms_spec (ws := wsX0_clear) BL.pre
  have hown : s.vm.findClass RX0 = some m.cls := findClass_of_methodNamed BL.named
  have hlocks := BL.notSynchronized
  have hin : ∀ w ∈ wsX00, w ∈ wsX0_clear := by decide +kernel
  have hf_9 := hts (.fieldLink RX0 9 "TalkRebuilder$Alignment" "wanted" "[I") (by decide +kernel)
  have hf_15 := hts (.fieldLink RX0 15 "TalkRebuilder$Alignment" "offered" "[I") (by decide +kernel)
  have hl := lv_entry ([.ref (ax 11)]) (n := 2) (Nat.le_of_ble_eq_true rfl)
  rw [lg_entry_eq]
  generalize (lg_sl ([.ref (ax 11)]) ++ List.replicate (2 - (lg_sl ([.ref (ax 11)])).length) Slot.unset).toArray = ls at hl ⊢
  have hl : lv_has ls 2 [(0, .ref (ax 11))] := hl
  subst hsz
  have hD := hD0.self (sz := s.heap.size)
  generalize hAe : va_A (wA cI cA ax wd qf T) s.heap.size = A at hD ⊢
  have hA : ∀ q : Nat, s.heap.size ≤ q → A q := fun q h => by rw [← hAe]; exact Or.inr h
  have hS : va_S A s.heap s.heap [] := va_S.rf
  have hP : va_P D vwCl (wA cI cA ax wd qf T) s.heap := hP
  have hD : va_D A (wA cI cA ax wd qf T) := hD
  refine lv_iconst (v := (nI (0))) hx hb dX0_clear_0 (by decide +kernel) ?_
  refine lv_istore_n (lv' := [(1, .int (nI (0))), (0, .ref (ax 11))]) hx hb dX0_clear_1 rfl hl (by decide) rfl (fun ls hl => ?_)
  have loop_2 : ∀ (N : Nat) (z : Nat) (wd : Nat → Option Nat) (qf : Nat → Option Nat), 8 - z < N → (z ≤ 8) → (∀ k, k < z → wd k = none ∧ qf k = none) → ∀ (H : Heap) (locs : List Loc), va_P D vwCl (wA cI cA ax wd qf T) H → va_D A (wA cI cA ax wd qf T) → va_S A s.heap H locs → ∀ (ls : Array Slot), lv_has ls 2 [(0, .ref (ax 11)), (1, .int (nI (z)))] → W p l e (headSpec wsX0_clear ({ frames := 0, cells := 0, slots := 0, locals := 0 })).room s m ([.ref (ax 11)] : List Value).toArray below meth c H locs 0 0 (MQ below (va_Qv (fun (u9 : (Nat → Option Nat) × (Nat → Option Nat)) => ∀ k, k < 8 → u9.1 k = none ∧ u9.2 k = none) (fun (u9 : (Nat → Option Nat) × (Nat → Option Nat)) t => AtW D [(cI, .int), (cZ, .boolean), (cA, .array .int)] A (wA cI cA ax u9.1 u9.2 T) t) A) ([.ref (ax 11)] : List Value).toArray s 0 0 A) (F0 m 2 ls []) := by
    intro N
    induction N with
    | zero => intro z wd qf hmu; exact absurd hmu (Nat.not_lt_zero _)
    | succ N ih_2 =>
      intro z wd qf hmu_2 h_z h_n H locs hP hD hS ls hl
      refine lv_iload_n hx hb dX0_clear_2 rfl (lv_at hl 1 rfl) ?_
      refine lv_bipush (v := (nI (8))) hx hb dX0_clear_3 (by decide +kernel) ?_
      refine n_ge (tgt := 29) hx hb (by omega) (by omega) dX0_clear_5 (by decide) (fun c_1 => ?_) (fun c_1 => ?_)
      · exact W.vret hx hb hr (fun t ht hW => ⟨⟨(wd, qf), rfl, (fun k hk => h_n k (by omega)), by rw [ht]; exact hP, va_K.moved hW.alike hK, hD⟩, hS.F ht⟩) hS.2.2 dX0_clear_29
      refine lv_aload_n hx hb dX0_clear_8 rfl (lv_at hl 0 rfl) ?_
      refine va_get (D := D) (ci := 2) (v := .ref (ax 12)) (C := RX0) (T := TX0) (N := 3) hx hb hts hin hown hK hP 0 rfl rfl 0 (by decide) hf_9 (fun _ h9 => h9) rfl dX0_clear_9 ?_
      refine lv_iload_n hx hb dX0_clear_12 rfl (lv_at hl 1 rfl) ?_
      refine lv_iconst (v := (oI (none))) hx hb dX0_clear_13 (by decide +kernel) ?_
      refine r_iast hx hb hK hP hD hS 1 0 rfl rfl (i := z) (by omega) (by decide) dX0_clear_14 (ws' := (wA cI cA ax (va_up wd z none) qf T)) (oI_upd _ _ _) rfl (fun H locs hP hD hS => ?_)
      refine lv_aload_n hx hb dX0_clear_15 rfl (lv_at hl 0 rfl) ?_
      refine va_get (D := D) (ci := 2) (v := .ref (ax 13)) (C := RX0) (T := TX0) (N := 3) hx hb hts hin hown hK hP 0 rfl rfl 1 (by decide) hf_15 (fun _ h9 => h9) rfl dX0_clear_16 ?_
      refine lv_iload_n hx hb dX0_clear_19 rfl (lv_at hl 1 rfl) ?_
      refine lv_bipush (v := (qI (none))) hx hb dX0_clear_20 (by decide +kernel) ?_
      refine r_iast hx hb hK hP hD hS 2 0 rfl rfl (i := z) (by omega) (by decide) dX0_clear_22 (ws' := (wA cI cA ax (va_up wd z none) (va_up qf z none) T)) (qI_upd _ _ _) rfl (fun H locs hP hD hS => ?_)
      refine lv_iinc (v := (nI (z + 1))) (lv' := [(1, .int (nI (z + 1))), (0, .ref (ax 11))]) hx hb dX0_clear_23 hl (k := 1) rfl (nI_1 _) (by decide) rfl (fun ls hl => ?_)
      refine lv_goto (tgt := 2) hx hb dX0_clear_26 (by decide) ?_
      exact ih_2 (z + 1) (va_up wd z none) (va_up qf z none) (by omega) (by omega) (by first | exact fun _ h => absurd h (Nat.not_lt_zero _) | (intro k hk; unfold va_up; rcases Nat.lt_or_ge k z with q | q; (exact ⟨by rw [if_neg (by omega)]; exact (h_n k q).1, by rw [if_neg (by omega)]; exact (h_n k q).2⟩); (exact ⟨if_pos (by omega), if_pos (by omega)⟩))) _ _ hP hD hS _ (show lv_has ls 2 [(0, .ref (ax 11)), (1, .int (nI (z + 1)))] from by exact lv_sub hl [1, 0] rfl)
  exact loop_2 (8 - 0 + 1) 0 wd qf (by omega) (by omega) (by first | exact fun _ h => absurd h (Nat.not_lt_zero _) | (intro k hk; unfold va_up; rcases Nat.lt_or_ge k z with q | q; (exact ⟨by rw [if_neg (by omega)]; exact (h_n k q).1, by rw [if_neg (by omega)]; exact (h_n k q).2⟩); (exact ⟨if_pos (by omega), if_pos (by omega)⟩))) _ _ hP hD hS _ (show lv_has ls 2 [(0, .ref (ax 11)), (1, .int (nI (0)))] from by exact lv_sub hl [1, 0] rfl)
theorem hdX0_clear : yX0_clear.cls = RX0 ∧ yX0_clear.cls ≠ "java/lang/invoke/MethodHandle" ∧ yX0_clear.cls ≠ "java/lang/invoke/VarHandle" ∧ (parseMethodDescriptor yX0_clear.desc).map (fun d => d.parameters.length) = some 0 := by decide +kernel
set_option maxHeartbeats 4000000 in
set_option maxRecDepth 100000 in
theorem kX0_putLine (l : Launch) (D : va_G) (cI cZ cA : ClassId) (ax : Nat → Nat) (wd : Nat → Option Nat) (qf : Nat → Option Nat) (T : Nat → Nat → Nat) (sz : Nat) (i : Nat) (a : Nat) (b : Nat) (h_i : i < 8) (h_a : a < 100) : Met l yX0_putLine wsX0_putLine ({ frames := 1, cells := 0, slots := 0, locals := 22 }) (PcMN D [(cI, .int), (cZ, .boolean), (cA, .array .int)] (wA cI cA ax wd qf T) sz [.ref (ax 11), .int (nI (i)), .int (nI (a)), .int (nI (b))]) (va_Qv (fun (u9 : Unit) => True) (fun (u9 : Unit) t => AtW D [(cI, .int), (cZ, .boolean), (cA, .array .int)] (va_A (wA cI cA ax wd qf T) sz) (wA cI cA ax (va_up wd i (if a = 0 then none else some (s_mw (a - 1) b))) qf T) t) (va_A (wA cI cA ax wd qf T) sz)) 0 0 (va_A (wA cI cA ax wd qf T) sz) := by
  refine Met.ofW (cc := cX0_putLine) (maxL := 4) (ret := none) (by decide) rfl ?_
  intro p e s m args below meth c s₁ BL hml hv
  obtain ⟨rfl, hsz, hP, hK, hD0, hN⟩ := hv
  have hx := BL.exec
  have hb := BL.bytes
  have hr := BL.returns
  have hts := atoms_spec (ws := wsX0_putLine) BL.pre
  have hown : s.vm.findClass RX0 = some m.cls := findClass_of_methodNamed BL.named
  have hlocks := BL.notSynchronized
  have hin : ∀ w ∈ wsX00, w ∈ wsX0_putLine := by decide +kernel
  have hf_9 := hts (.fieldLink RX0 9 "TalkRebuilder$Alignment" "wanted" "[I") (by decide +kernel)
  have hl := lv_entry ([.ref (ax 11), .int (nI (i)), .int (nI (a)), .int (nI (b))]) (n := 4) (Nat.le_of_ble_eq_true rfl)
  rw [lg_entry_eq]
  generalize (lg_sl ([.ref (ax 11), .int (nI (i)), .int (nI (a)), .int (nI (b))]) ++ List.replicate (4 - (lg_sl ([.ref (ax 11), .int (nI (i)), .int (nI (a)), .int (nI (b))])).length) Slot.unset).toArray = ls at hl ⊢
  have hl : lv_has ls 4 [(0, .ref (ax 11)), (1, .int (nI (i))), (2, .int (nI (a))), (3, .int (nI (b)))] := hl
  subst hsz
  have hD := hD0.self (sz := s.heap.size)
  generalize hAe : va_A (wA cI cA ax wd qf T) s.heap.size = A at hD ⊢
  have hA : ∀ q : Nat, s.heap.size ≤ q → A q := fun q h => by rw [← hAe]; exact Or.inr h
  have hS : va_S A s.heap s.heap [] := va_S.rf
  have hP : va_P D vwCl (wA cI cA ax wd qf T) s.heap := hP
  have hD : va_D A (wA cI cA ax wd qf T) := hD
  refine lv_iload_n hx hb dX0_putLine_0 rfl (lv_at hl 1 rfl) ?_
  refine lv_iconst (v := (nI (0))) hx hb dX0_putLine_1 (by decide +kernel) ?_
  refine lv_bipush (v := (nI (7))) hx hb dX0_putLine_2 (by decide +kernel) ?_
  refine ro_SN (As := [.int (nI (i)), .int (nI (0)), .int (nI (7))]) (v := (bI (s_in (nI (i)) (nI (0)) (nI (7))))) ⟨hx, hb, hml, hown, hts⟩ (kX1_isWithin l (nI (i)) (nI (0)) (nI (7))) ⟨va_cnB 3 hts gX0_putLine_X1_isWithin_n23 rfl rfl rfl hN (hts (.initialized RX1) (by decide +kernel)) hsX1_isWithin ⟨Nat.le_of_ble_eq_true rfl, Nat.le_of_ble_eq_true rfl⟩, hts (.static yX1_isWithin) (by decide +kernel), trivial⟩ rfl hl.1 rfl (Nat.le_of_ble_eq_true rfl) dX0_putLine_4 ⟨Nat.zero_le _, Nat.zero_le _⟩ ?_
  refine n_top (y := (bI (true))) (by rw [s_in_o (by omega) (by omega) (by decide)]) ?_
  refine y_eq (tgt := 31) hx hb dX0_putLine_7 (by decide) (fun q => nomatch q) (fun _ => ?_)
  refine lv_aload_n hx hb dX0_putLine_10 rfl (lv_at hl 0 rfl) ?_
  refine va_get (D := D) (ci := 2) (v := .ref (ax 12)) (C := RX0) (T := TX0) (N := 3) hx hb hts hin hown hK hP 0 rfl rfl 0 (by decide) hf_9 (fun _ h9 => h9) rfl dX0_putLine_11 ?_
  refine lv_iload_n hx hb dX0_putLine_14 rfl (lv_at hl 1 rfl) ?_
  refine lv_iload_n hx hb dX0_putLine_15 rfl (lv_at hl 2 rfl) ?_
  have join_30 : ∀ (H : Heap) (locs : List Loc), va_P D vwCl (wA cI cA ax wd qf T) H → va_D A (wA cI cA ax wd qf T) → va_S A s.heap H locs → ∀ (ls : Array Slot), lv_has ls 4 [(0, .ref (ax 11)), (1, .int (nI (i))), (2, .int (nI (a))), (3, .int (nI (b)))] → W p l e (headSpec wsX0_putLine ({ frames := 1, cells := 0, slots := 0, locals := 22 })).room s m ([.ref (ax 11), .int (nI (i)), .int (nI (a)), .int (nI (b))] : List Value).toArray below meth c H locs 0 0 (MQ below (va_Qv (fun (u9 : Unit) => True) (fun (u9 : Unit) t => AtW D [(cI, .int), (cZ, .boolean), (cA, .array .int)] A (wA cI cA ax (va_up wd i (if a = 0 then none else some (s_mw (a - 1) b))) qf T) t) A) ([.ref (ax 11), .int (nI (i)), .int (nI (a)), .int (nI (b))] : List Value).toArray s 0 0 A) (F0 m 30 ls [.int (oI (if a = 0 then none else some (s_mw (a - 1) b))), .int (nI (i)), .ref (ax 12)]) := by
    intro   H locs hP hD hS ls hl
    refine r_iast hx hb hK hP hD hS 1 0 rfl rfl (i := i) (by omega) (by decide) dX0_putLine_30 (ws' := (wA cI cA ax (va_up wd i (if a = 0 then none else some (s_mw (a - 1) b))) qf T)) (oI_upd _ _ _) rfl (fun H locs hP hD hS => ?_)
    exact W.vret hx hb hr (fun t ht hW => ⟨⟨(), rfl, trivial, by rw [ht]; exact hP, va_K.moved hW.alike hK, hD⟩, hS.F ht⟩) hS.2.2 dX0_putLine_31
  refine z_ne (tgt := 23) hx hb (by omega) dX0_putLine_16 (by decide) (fun c_1 => ?_) (fun c_1 => ?_)
  · refine lv_iload_n hx hb dX0_putLine_23 rfl (lv_at hl 2 rfl) ?_
    refine lv_iconst (v := (nI (1))) hx hb dX0_putLine_24 (by decide +kernel) ?_
    refine lv_isub hx hb dX0_putLine_25 ?_
    refine n_top (y := (nI (a - 1))) (pk_sub (by omega)) ?_
    refine lv_iload_n hx hb dX0_putLine_26 rfl (lv_at hl 3 rfl) ?_
    refine ro_S (As := [.int (nI (a - 1)), .int (nI (b))]) (v := (nI (s_mw (a - 1) b))) ⟨hx, hb, hml, hown, hts⟩ (kX0_markedWord l (a - 1) b ) (va_cwS 2 hts gX0_putLine_X0_markedWord rfl rfl rfl hsX0_markedWord ⟨Nat.le_of_ble_eq_true rfl, Nat.le_of_ble_eq_true rfl⟩) rfl hl.1 rfl (Nat.le_of_ble_eq_true rfl) dX0_putLine_27 ⟨Nat.zero_le _, Nat.zero_le _⟩ ?_
    refine n_top (y := (oI (if a = 0 then none else some (s_mw (a - 1) b)))) (by first | (rw [if_pos c_1]; done) | (rw [if_neg c_1]; rfl) | (rw [if_pos (by omega)]) | (rw [if_neg (by omega)]; rfl)) ?_
    exact join_30   _ _ hP hD hS _ (show lv_has ls 4 [(0, .ref (ax 11)), (1, .int (nI (i))), (2, .int (nI (a))), (3, .int (nI (b)))] from by exact lv_sub hl [0, 1, 2, 3] rfl)
  refine lv_iconst (v := (oI (none))) hx hb dX0_putLine_19 (by decide +kernel) ?_
  refine lv_goto (tgt := 30) hx hb dX0_putLine_20 (by decide) ?_
  refine n_top (y := (oI (if a = 0 then none else some (s_mw (a - 1) b)))) (by first | (rw [if_pos c_1]; done) | (rw [if_neg c_1]; rfl) | (rw [if_pos (by omega)]) | (rw [if_neg (by omega)]; rfl)) ?_
  exact join_30   _ _ hP hD hS _ (show lv_has ls 4 [(0, .ref (ax 11)), (1, .int (nI (i))), (2, .int (nI (a))), (3, .int (nI (b)))] from by exact lv_sub hl [0, 1, 2, 3] rfl)
theorem hdX0_putLine : yX0_putLine.cls = RX0 ∧ yX0_putLine.cls ≠ "java/lang/invoke/MethodHandle" ∧ yX0_putLine.cls ≠ "java/lang/invoke/VarHandle" ∧ (parseMethodDescriptor yX0_putLine.desc).map (fun d => d.parameters.length) = some 3 := by decide +kernel
set_option maxHeartbeats 4000000 in
set_option maxRecDepth 100000 in
theorem kX0_putParentLine (l : Launch) (D : va_G) (cI cZ cA : ClassId) (ax : Nat → Nat) (wd : Nat → Option Nat) (qf : Nat → Option Nat) (T : Nat → Nat → Nat) (sz : Nat) (i : Nat) (a : Nat) (b : Nat) (h_i : i < 8) : Met l yX0_putParentLine wsX0_putParentLine ({ frames := 1, cells := 0, slots := 0, locals := 22 }) (PcMN D [(cI, .int), (cZ, .boolean), (cA, .array .int)] (wA cI cA ax wd qf T) sz [.ref (ax 11), .int (nI (i)), .int (nI (a)), .int (nI (b))]) (va_Qv (fun (u9 : Unit) => True) (fun (u9 : Unit) t => AtW D [(cI, .int), (cZ, .boolean), (cA, .array .int)] (va_A (wA cI cA ax wd qf T) sz) (wA cI cA ax wd (va_up qf i (some (s_mw a b))) T) t) (va_A (wA cI cA ax wd qf T) sz)) 0 0 (va_A (wA cI cA ax wd qf T) sz) := by
  refine Met.ofW (cc := cX0_putParentLine) (maxL := 4) (ret := none) (by decide) rfl ?_
  intro p e s m args below meth c s₁ BL hml hv
  obtain ⟨rfl, hsz, hP, hK, hD0, hN⟩ := hv
  have hx := BL.exec
  have hb := BL.bytes
  have hr := BL.returns
  have hts := atoms_spec (ws := wsX0_putParentLine) BL.pre
  have hown : s.vm.findClass RX0 = some m.cls := findClass_of_methodNamed BL.named
  have hlocks := BL.notSynchronized
  have hin : ∀ w ∈ wsX00, w ∈ wsX0_putParentLine := by decide +kernel
  have hf_15 := hts (.fieldLink RX0 15 "TalkRebuilder$Alignment" "offered" "[I") (by decide +kernel)
  have hl := lv_entry ([.ref (ax 11), .int (nI (i)), .int (nI (a)), .int (nI (b))]) (n := 4) (Nat.le_of_ble_eq_true rfl)
  rw [lg_entry_eq]
  generalize (lg_sl ([.ref (ax 11), .int (nI (i)), .int (nI (a)), .int (nI (b))]) ++ List.replicate (4 - (lg_sl ([.ref (ax 11), .int (nI (i)), .int (nI (a)), .int (nI (b))])).length) Slot.unset).toArray = ls at hl ⊢
  have hl : lv_has ls 4 [(0, .ref (ax 11)), (1, .int (nI (i))), (2, .int (nI (a))), (3, .int (nI (b)))] := hl
  subst hsz
  have hD := hD0.self (sz := s.heap.size)
  generalize hAe : va_A (wA cI cA ax wd qf T) s.heap.size = A at hD ⊢
  have hA : ∀ q : Nat, s.heap.size ≤ q → A q := fun q h => by rw [← hAe]; exact Or.inr h
  have hS : va_S A s.heap s.heap [] := va_S.rf
  have hP : va_P D vwCl (wA cI cA ax wd qf T) s.heap := hP
  have hD : va_D A (wA cI cA ax wd qf T) := hD
  refine lv_iload_n hx hb dX0_putParentLine_0 rfl (lv_at hl 1 rfl) ?_
  refine lv_iconst (v := (nI (0))) hx hb dX0_putParentLine_1 (by decide +kernel) ?_
  refine lv_bipush (v := (nI (7))) hx hb dX0_putParentLine_2 (by decide +kernel) ?_
  refine ro_SN (As := [.int (nI (i)), .int (nI (0)), .int (nI (7))]) (v := (bI (s_in (nI (i)) (nI (0)) (nI (7))))) ⟨hx, hb, hml, hown, hts⟩ (kX1_isWithin l (nI (i)) (nI (0)) (nI (7))) ⟨va_cnB 3 hts gX0_putParentLine_X1_isWithin_n23 rfl rfl rfl hN (hts (.initialized RX1) (by decide +kernel)) hsX1_isWithin ⟨Nat.le_of_ble_eq_true rfl, Nat.le_of_ble_eq_true rfl⟩, hts (.static yX1_isWithin) (by decide +kernel), trivial⟩ rfl hl.1 rfl (Nat.le_of_ble_eq_true rfl) dX0_putParentLine_4 ⟨Nat.zero_le _, Nat.zero_le _⟩ ?_
  refine n_top (y := (bI (true))) (by rw [s_in_o (by omega) (by omega) (by decide)]) ?_
  refine y_eq (tgt := 21) hx hb dX0_putParentLine_7 (by decide) (fun q => nomatch q) (fun _ => ?_)
  refine lv_aload_n hx hb dX0_putParentLine_10 rfl (lv_at hl 0 rfl) ?_
  refine va_get (D := D) (ci := 2) (v := .ref (ax 13)) (C := RX0) (T := TX0) (N := 3) hx hb hts hin hown hK hP 0 rfl rfl 1 (by decide) hf_15 (fun _ h9 => h9) rfl dX0_putParentLine_11 ?_
  refine lv_iload_n hx hb dX0_putParentLine_14 rfl (lv_at hl 1 rfl) ?_
  refine lv_iload_n hx hb dX0_putParentLine_15 rfl (lv_at hl 2 rfl) ?_
  refine lv_iload_n hx hb dX0_putParentLine_16 rfl (lv_at hl 3 rfl) ?_
  refine ro_S (As := [.int (nI (a)), .int (nI (b))]) (v := (nI (s_mw a b))) ⟨hx, hb, hml, hown, hts⟩ (kX0_markedWord l a b ) (va_cwS 2 hts gX0_putParentLine_X0_markedWord rfl rfl rfl hsX0_markedWord ⟨Nat.le_of_ble_eq_true rfl, Nat.le_of_ble_eq_true rfl⟩) rfl hl.1 rfl (Nat.le_of_ble_eq_true rfl) dX0_putParentLine_17 ⟨Nat.zero_le _, Nat.zero_le _⟩ ?_
  refine n_top (y := qI (some (s_mw a b))) rfl ?_
  refine r_iast hx hb hK hP hD hS 2 0 rfl rfl (i := i) (by omega) (by decide) dX0_putParentLine_20 (ws' := (wA cI cA ax wd (va_up qf i (some (s_mw a b))) T)) (qI_upd _ _ _) rfl (fun H locs hP hD hS => ?_)
  exact W.vret hx hb hr (fun t ht hW => ⟨⟨(), rfl, trivial, by rw [ht]; exact hP, va_K.moved hW.alike hK, hD⟩, hS.F ht⟩) hS.2.2 dX0_putParentLine_21
theorem hdX0_putParentLine : yX0_putParentLine.cls = RX0 ∧ yX0_putParentLine.cls ≠ "java/lang/invoke/MethodHandle" ∧ yX0_putParentLine.cls ≠ "java/lang/invoke/VarHandle" ∧ (parseMethodDescriptor yX0_putParentLine.desc).map (fun d => d.parameters.length) = some 3 := by decide +kernel
set_option maxHeartbeats 4000000 in
set_option maxRecDepth 100000 in
theorem kX0_fillTable (l : Launch) (D : va_G) (cI cZ cA : ClassId) (ax : Nat → Nat) (wd : Nat → Option Nat) (qf : Nat → Option Nat) (T : Nat → Nat → Nat) (sz : Nat) (hBD : BD wd qf) (h_T : TB T) : Met l yX0_fillTable wsX0_fillTable ({ frames := 1, cells := 0, slots := 0, locals := 21 }) (PcM D [(cI, .int), (cZ, .boolean), (cA, .array .int)] (wA cI cA ax wd qf T) sz [.ref (ax 11)]) (va_Qv (fun (T9 : Nat → Nat → Nat) => TF wd qf T9) (fun (T9 : Nat → Nat → Nat) t => AtW D [(cI, .int), (cZ, .boolean), (cA, .array .int)] (va_A (wA cI cA ax wd qf T) sz) (wA cI cA ax wd qf T9) t) (va_A (wA cI cA ax wd qf T) sz)) 0 0 (va_A (wA cI cA ax wd qf T) sz) := by
  refine Met.ofW (cc := cX0_fillTable) (maxL := 4) (ret := none) (by decide) rfl ?_
  intro p e s m args below meth c s₁ BL hml hv
  obtain ⟨rfl, hsz, hP, hK, hD0⟩ := hv
  have hx := BL.exec
  have hb := BL.bytes
  have hr := BL.returns
  have hts := atoms_spec (ws := wsX0_fillTable) BL.pre
  have hown : s.vm.findClass RX0 = some m.cls := findClass_of_methodNamed BL.named
  have hlocks := BL.notSynchronized
  have hin : ∀ w ∈ wsX00, w ∈ wsX0_fillTable := by decide +kernel
  have hf_9 := hts (.fieldLink RX0 9 "TalkRebuilder$Alignment" "wanted" "[I") (by decide +kernel)
  have hf_15 := hts (.fieldLink RX0 15 "TalkRebuilder$Alignment" "offered" "[I") (by decide +kernel)
  have hf_20 := hts (.fieldLink RX0 20 "TalkRebuilder$Alignment" "most" "[[I") (by decide +kernel)
  have hmi := hts (.initialized "java/lang/Math") (by decide +kernel)
  have hms_max := hts (.static Lib.Math.max.name) (by decide +kernel)
  have hmc_max := hts (.code Lib.Math.max.name Lib.Math.max.code 2 (some .int)) (by decide +kernel)
  have hm_31 := hts (.methodLink RX0 31 Lib.Math.max.name) (by decide +kernel)
  have hl := lv_entry ([.ref (ax 11)]) (n := 4) (Nat.le_of_ble_eq_true rfl)
  rw [lg_entry_eq]
  generalize (lg_sl ([.ref (ax 11)]) ++ List.replicate (4 - (lg_sl ([.ref (ax 11)])).length) Slot.unset).toArray = ls at hl ⊢
  have hl : lv_has ls 4 [(0, .ref (ax 11))] := hl
  subst hsz
  have hD := hD0.self (sz := s.heap.size)
  generalize hAe : va_A (wA cI cA ax wd qf T) s.heap.size = A at hD ⊢
  have hA : ∀ q : Nat, s.heap.size ≤ q → A q := fun q h => by rw [← hAe]; exact Or.inr h
  have hS : va_S A s.heap s.heap [] := va_S.rf
  have hP : va_P D vwCl (wA cI cA ax wd qf T) s.heap := hP
  have hD : va_D A (wA cI cA ax wd qf T) := hD
  refine lv_bipush (v := (nI (7))) hx hb dX0_fillTable_0 (by decide +kernel) ?_
  refine n_top (y := (nI (8) - 1)) (by decide +kernel) ?_
  refine lv_istore_n (lv' := [(1, .int (nI (8) - 1)), (0, .ref (ax 11))]) hx hb dX0_fillTable_2 rfl hl (by decide) rfl (fun ls hl => ?_)
  have loop_3 : ∀ (N : Nat) (x : Nat) (T : Nat → Nat → Nat), x < N → (x ≤ 8) → (TO wd qf x T) → ∀ (H : Heap) (locs : List Loc), va_P D vwCl (wA cI cA ax wd qf T) H → va_D A (wA cI cA ax wd qf T) → va_S A s.heap H locs → ∀ (ls : Array Slot), lv_has ls 4 [(0, .ref (ax 11)), (1, .int (nI (x) - 1))] → W p l e (headSpec wsX0_fillTable ({ frames := 1, cells := 0, slots := 0, locals := 21 })).room s m ([.ref (ax 11)] : List Value).toArray below meth c H locs 0 0 (MQ below (va_Qv (fun (T9 : Nat → Nat → Nat) => TF wd qf T9) (fun (T9 : Nat → Nat → Nat) t => AtW D [(cI, .int), (cZ, .boolean), (cA, .array .int)] A (wA cI cA ax wd qf T9) t) A) ([.ref (ax 11)] : List Value).toArray s 0 0 A) (F0 m 3 ls []) := by
    intro N
    induction N with
    | zero => intro x T hmu; exact absurd hmu (Nat.not_lt_zero _)
    | succ N ih_3 =>
      intro x T hmu_3 h_x h_O H locs hP hD hS ls hl
      refine lv_iload_n hx hb dX0_fillTable_3 rfl (lv_at hl 1 rfl) ?_
      refine m_lt (tgt := 93) hx hb (by omega) dX0_fillTable_4 (by decide) (fun c_1 => ?_) (fun x1 c_1 => ?_)
      · exact W.vret hx hb hr (fun t ht hW => ⟨⟨T, rfl, (TO_F (c_1 ▸ h_O)), by rw [ht]; exact hP, va_K.moved hW.alike hK, hD⟩, hS.F ht⟩) hS.2.2 dX0_fillTable_93
      subst c_1
      rw [nI_m1] at hl
      have hl : lv_has ls 4 [(0, .ref (ax 11)), (1, .int (nI (x1)))] := hl
      refine lv_bipush (v := (nI (7))) hx hb dX0_fillTable_7 (by decide +kernel) ?_
      refine n_top (y := (nI (8) - 1)) (by decide +kernel) ?_
      refine lv_istore_n (lv' := [(2, .int (nI (8) - 1)), (0, .ref (ax 11)), (1, .int (nI (x1)))]) hx hb dX0_fillTable_9 rfl hl (by decide) rfl (fun ls hl => ?_)
      have loop_10 : ∀ (N : Nat) (y : Nat) (T : Nat → Nat → Nat), y < N → (y ≤ 8) → (TI wd qf x1 y T) → ∀ (H : Heap) (locs : List Loc), va_P D vwCl (wA cI cA ax wd qf T) H → va_D A (wA cI cA ax wd qf T) → va_S A s.heap H locs → ∀ (ls : Array Slot), lv_has ls 4 [(0, .ref (ax 11)), (1, .int (nI (x1))), (2, .int (nI (y) - 1))] → W p l e (headSpec wsX0_fillTable ({ frames := 1, cells := 0, slots := 0, locals := 21 })).room s m ([.ref (ax 11)] : List Value).toArray below meth c H locs 0 0 (MQ below (va_Qv (fun (T9 : Nat → Nat → Nat) => TF wd qf T9) (fun (T9 : Nat → Nat → Nat) t => AtW D [(cI, .int), (cZ, .boolean), (cA, .array .int)] A (wA cI cA ax wd qf T9) t) A) ([.ref (ax 11)] : List Value).toArray s 0 0 A) (F0 m 10 ls []) := by
        intro N
        induction N with
        | zero => intro y T hmu; exact absurd hmu (Nat.not_lt_zero _)
        | succ N ih_10 =>
          intro y T hmu_10 h_y h_I H locs hP hD hS ls hl
          refine lv_iload_n hx hb dX0_fillTable_10 rfl (lv_at hl 2 rfl) ?_
          refine m_lt (tgt := 87) hx hb (by omega) dX0_fillTable_11 (by decide) (fun c_2 => ?_) (fun y1 c_2 => ?_)
          · refine lv_iinc (v := (nI (x1) - 1)) (lv' := [(1, .int (nI (x1) - 1)), (0, .ref (ax 11)), (2, .int (nI (y) - 1))]) hx hb dX0_fillTable_87 hl (k := 1) rfl (n_dec _) (by decide) rfl (fun ls hl => ?_)
            refine lv_goto (tgt := 3) hx hb dX0_fillTable_90 (by decide) ?_
            exact ih_3 x1 T (by omega) (by omega) (by first | exact TO_8 h_T | exact TI_O (c_2 ▸ h_I)) _ _ hP hD hS _ (show lv_has ls 4 [(0, .ref (ax 11)), (1, .int (nI (x1) - 1))] from by exact lv_sub hl [1, 0] rfl)
          subst c_2
          rw [nI_m1] at hl
          have hl : lv_has ls 4 [(0, .ref (ax 11)), (1, .int (nI (x1))), (2, .int (nI (y1)))] := hl
          have hT1 : T (x1 + 1) y1 = FL wd qf (x1 + 1) y1 := h_I.1 _ _ (by omega) (by omega) (by omega)
          have hT2 : T x1 (y1 + 1) = FL wd qf x1 (y1 + 1) := h_I.1 _ _ (by omega) (by omega) (by omega)
          have hT3 : T (x1 + 1) (y1 + 1) = FL wd qf (x1 + 1) (y1 + 1) := h_I.1 _ _ (by omega) (by omega) (by omega)
          have hF1 := FL_le wd qf (x1 + 1) y1
          have hF2 := FL_le wd qf x1 (y1 + 1)
          have hF3 := FL_le wd qf (x1 + 1) (y1 + 1)
          refine lv_aload_n hx hb dX0_fillTable_14 rfl (lv_at hl 0 rfl) ?_
          refine va_get (D := D) (ci := 2) (v := .ref (ax 14)) (C := RX0) (T := TX0) (N := 3) hx hb hts hin hown hK hP 0 rfl rfl 2 (by decide) hf_20 (fun _ h9 => h9) rfl dX0_fillTable_15 ?_
          refine lv_iload_n hx hb dX0_fillTable_18 rfl (lv_at hl 1 rfl) ?_
          refine lv_iconst (v := (nI (1))) hx hb dX0_fillTable_19 (by decide +kernel) ?_
          refine lv_iadd hx hb dX0_fillTable_20 ?_
          refine n_top (y := (nI (x1 + 1))) (nI_add _ _) ?_
          refine g_aald hx hb hK hP (i := x1 + 1) (by omega) dX0_fillTable_21 ?_
          refine lv_iload_n hx hb dX0_fillTable_22 rfl (lv_at hl 2 rfl) ?_
          refine g_iald hx hb hK hP (i := (x1 + 1)) (j := y1) (by omega) (by omega) dX0_fillTable_23 ?_
          refine lv_aload_n hx hb dX0_fillTable_24 rfl (lv_at hl 0 rfl) ?_
          refine va_get (D := D) (ci := 2) (v := .ref (ax 14)) (C := RX0) (T := TX0) (N := 3) hx hb hts hin hown hK hP 0 rfl rfl 2 (by decide) hf_20 (fun _ h9 => h9) rfl dX0_fillTable_25 ?_
          refine lv_iload_n hx hb dX0_fillTable_28 rfl (lv_at hl 1 rfl) ?_
          refine g_aald hx hb hK hP (i := x1) (by omega) dX0_fillTable_29 ?_
          refine lv_iload_n hx hb dX0_fillTable_30 rfl (lv_at hl 2 rfl) ?_
          refine lv_iconst (v := (nI (1))) hx hb dX0_fillTable_31 (by decide +kernel) ?_
          refine lv_iadd hx hb dX0_fillTable_32 ?_
          refine n_top (y := (nI (y1 + 1))) (nI_add _ _) ?_
          refine g_iald hx hb hK hP (i := x1) (j := y1 + 1) (by omega) (by omega) dX0_fillTable_33 ?_
          refine va_mmax hx hb (hml.trans hl.1.symm) hown hm_31 hms_max hmi hmc_max (Nat.le_of_ble_eq_true rfl) (Nat.le_of_ble_eq_true rfl) (Nat.zero_le _) (Nat.zero_le _) dX0_fillTable_34 ?_
          refine n_top (y := (nI (if (T (x1 + 1) y1) < (T x1 (y1 + 1)) then (T x1 (y1 + 1)) else (T (x1 + 1) y1)))) (n_max (by omega) (by omega)) ?_
          refine lv_istore_n (lv' := [(3, .int (nI (if (T (x1 + 1) y1) < (T x1 (y1 + 1)) then (T x1 (y1 + 1)) else (T (x1 + 1) y1)))), (0, .ref (ax 11)), (1, .int (nI (x1))), (2, .int (nI (y1)))]) hx hb dX0_fillTable_37 rfl hl (by decide) rfl (fun ls hl => ?_)
          have join_72 : ∀ (H : Heap) (locs : List Loc), va_P D vwCl (wA cI cA ax wd qf T) H → va_D A (wA cI cA ax wd qf T) → va_S A s.heap H locs → ∀ (ls : Array Slot), lv_has ls 4 [(0, .ref (ax 11)), (1, .int (nI (x1))), (2, .int (nI (y1))), (3, .int (nI (FL wd qf x1 y1)))] → W p l e (headSpec wsX0_fillTable ({ frames := 1, cells := 0, slots := 0, locals := 21 })).room s m ([.ref (ax 11)] : List Value).toArray below meth c H locs 0 0 (MQ below (va_Qv (fun (T9 : Nat → Nat → Nat) => TF wd qf T9) (fun (T9 : Nat → Nat → Nat) t => AtW D [(cI, .int), (cZ, .boolean), (cA, .array .int)] A (wA cI cA ax wd qf T9) t) A) ([.ref (ax 11)] : List Value).toArray s 0 0 A) (F0 m 72 ls []) := by
            intro   H locs hP hD hS ls hl
            refine lv_aload_n hx hb dX0_fillTable_72 rfl (lv_at hl 0 rfl) ?_
            refine va_get (D := D) (ci := 2) (v := .ref (ax 14)) (C := RX0) (T := TX0) (N := 3) hx hb hts hin hown hK hP 0 rfl rfl 2 (by decide) hf_20 (fun _ h9 => h9) rfl dX0_fillTable_73 ?_
            refine lv_iload_n hx hb dX0_fillTable_76 rfl (lv_at hl 1 rfl) ?_
            refine g_aald hx hb hK hP (i := x1) (by omega) dX0_fillTable_77 ?_
            refine lv_iload_n hx hb dX0_fillTable_78 rfl (lv_at hl 2 rfl) ?_
            refine lv_iload_n hx hb dX0_fillTable_79 rfl (lv_at hl 3 rfl) ?_
            refine g_iast hx hb hK hP hD hS (i := x1) (j := y1) (v := FL wd qf x1 y1) (by omega) (by omega) dX0_fillTable_80 (fun H locs hP hD hS => ?_)
            refine lv_iinc (v := (nI (y1) - 1)) (lv' := [(2, .int (nI (y1) - 1)), (0, .ref (ax 11)), (1, .int (nI (x1))), (3, .int (nI (FL wd qf x1 y1)))]) hx hb dX0_fillTable_81 hl (k := 2) rfl (n_dec _) (by decide) rfl (fun ls hl => ?_)
            refine lv_goto (tgt := 10) hx hb dX0_fillTable_84 (by decide) ?_
            exact ih_10 y1 (T_up T x1 y1 (FL wd qf x1 y1)) (by omega) (by omega) (by first | exact TO_I h_O | exact TI_s h_I (by omega) (by omega)) _ _ hP hD hS _ (show lv_has ls 4 [(0, .ref (ax 11)), (1, .int (nI (x1))), (2, .int (nI (y1) - 1))] from by exact lv_sub hl [1, 2, 0] rfl)
          refine lv_aload_n hx hb dX0_fillTable_38 rfl (lv_at hl 1 rfl) ?_
          refine va_get (D := D) (ci := 2) (v := .ref (ax 12)) (C := RX0) (T := TX0) (N := 3) hx hb hts hin hown hK hP 0 rfl rfl 0 (by decide) hf_9 (fun _ h9 => h9) rfl dX0_fillTable_39 ?_
          refine lv_iload_n hx hb dX0_fillTable_42 rfl (lv_at hl 2 rfl) ?_
          refine n_iald hx hb hK hP 1 0 rfl rfl (i := x1) (by omega) (by decide) dX0_fillTable_43 ?_
          refine lv_aload_n hx hb dX0_fillTable_44 rfl (lv_at hl 1 rfl) ?_
          refine va_get (D := D) (ci := 2) (v := .ref (ax 13)) (C := RX0) (T := TX0) (N := 3) hx hb hts hin hown hK hP 0 rfl rfl 1 (by decide) hf_15 (fun _ h9 => h9) rfl dX0_fillTable_45 ?_
          refine lv_iload_n hx hb dX0_fillTable_48 rfl (lv_at hl 3 rfl) ?_
          refine n_iald hx hb hK hP 2 0 rfl rfl (i := y1) (by omega) (by decide) dX0_fillTable_49 ?_
          refine oq_ne (wd := wd) (qf := qf) (i := x1) (j := y1) (tgt := 72) hx hb hBD (by omega) (by omega) dX0_fillTable_50 (by decide) (fun c_3 => ?_) (fun c_3 => ?_)
          · have e_4 : ((nI (if (T (x1 + 1) y1) < (T x1 (y1 + 1)) then (T x1 (y1 + 1)) else (T (x1 + 1) y1))) : Int32) = (nI (FL wd qf x1 y1)) := by first | exact congrArg nI (FL_f (by omega) (by omega) c_3 hT1 hT2) | exact congrArg nI (FL_t (by omega) (by omega) c_3 hT1 hT2 hT3)
            exact join_72   _ _ hP hD hS _ (show lv_has ls 4 [(0, .ref (ax 11)), (1, .int (nI (x1))), (2, .int (nI (y1))), (3, .int (nI (FL wd qf x1 y1)))] from by rw [← e_4]; exact lv_sub hl [1, 2, 3, 0] rfl)
          have hif : (if (T (x1 + 1) y1) < (T x1 (y1 + 1)) then (T x1 (y1 + 1)) else (T (x1 + 1) y1)) ≤ 8 := by split <;> omega
          refine lv_iload_n hx hb dX0_fillTable_53 rfl (lv_at hl 0 rfl) ?_
          refine lv_iconst (v := (nI (1))) hx hb dX0_fillTable_54 (by decide +kernel) ?_
          refine lv_aload_n hx hb dX0_fillTable_55 rfl (lv_at hl 1 rfl) ?_
          refine va_get (D := D) (ci := 2) (v := .ref (ax 14)) (C := RX0) (T := TX0) (N := 3) hx hb hts hin hown hK hP 0 rfl rfl 2 (by decide) hf_20 (fun _ h9 => h9) rfl dX0_fillTable_56 ?_
          refine lv_iload_n hx hb dX0_fillTable_59 rfl (lv_at hl 2 rfl) ?_
          refine lv_iconst (v := (nI (1))) hx hb dX0_fillTable_60 (by decide +kernel) ?_
          refine lv_iadd hx hb dX0_fillTable_61 ?_
          refine n_top (y := (nI (x1 + 1))) (nI_add _ _) ?_
          refine g_aald hx hb hK hP (i := x1 + 1) (by omega) dX0_fillTable_62 ?_
          refine lv_iload_n hx hb dX0_fillTable_63 rfl (lv_at hl 3 rfl) ?_
          refine lv_iconst (v := (nI (1))) hx hb dX0_fillTable_64 (by decide +kernel) ?_
          refine lv_iadd hx hb dX0_fillTable_65 ?_
          refine n_top (y := (nI (y1 + 1))) (nI_add _ _) ?_
          refine g_iald hx hb hK hP (i := (x1 + 1)) (j := y1 + 1) (by omega) (by omega) dX0_fillTable_66 ?_
          refine lv_iadd hx hb dX0_fillTable_67 ?_
          refine n_top (y := (nI (1 + (T (x1 + 1) (y1 + 1))))) (nI_add _ _) ?_
          refine va_mmax hx hb (hml.trans hl.1.symm) hown hm_31 hms_max hmi hmc_max (Nat.le_of_ble_eq_true rfl) (Nat.le_of_ble_eq_true rfl) (Nat.zero_le _) (Nat.zero_le _) dX0_fillTable_68 ?_
          refine n_top (y := (nI (if (if (T (x1 + 1) y1) < (T x1 (y1 + 1)) then (T x1 (y1 + 1)) else (T (x1 + 1) y1)) < (1 + (T (x1 + 1) (y1 + 1))) then (1 + (T (x1 + 1) (y1 + 1))) else (if (T (x1 + 1) y1) < (T x1 (y1 + 1)) then (T x1 (y1 + 1)) else (T (x1 + 1) y1))))) (n_max (by omega) (by omega)) ?_
          refine lv_istore_n (lv' := [(3, .int (nI (if (if (T (x1 + 1) y1) < (T x1 (y1 + 1)) then (T x1 (y1 + 1)) else (T (x1 + 1) y1)) < (1 + (T (x1 + 1) (y1 + 1))) then (1 + (T (x1 + 1) (y1 + 1))) else (if (T (x1 + 1) y1) < (T x1 (y1 + 1)) then (T x1 (y1 + 1)) else (T (x1 + 1) y1))))), (0, .ref (ax 11)), (1, .int (nI (x1))), (2, .int (nI (y1)))]) hx hb dX0_fillTable_71 rfl hl (by decide) rfl (fun ls hl => ?_)
          have e_5 : ((nI (if (if (T (x1 + 1) y1) < (T x1 (y1 + 1)) then (T x1 (y1 + 1)) else (T (x1 + 1) y1)) < (1 + (T (x1 + 1) (y1 + 1))) then (1 + (T (x1 + 1) (y1 + 1))) else (if (T (x1 + 1) y1) < (T x1 (y1 + 1)) then (T x1 (y1 + 1)) else (T (x1 + 1) y1)))) : Int32) = (nI (FL wd qf x1 y1)) := by first | exact congrArg nI (FL_f (by omega) (by omega) c_3 hT1 hT2) | exact congrArg nI (FL_t (by omega) (by omega) c_3 hT1 hT2 hT3)
          exact join_72   _ _ hP hD hS _ (show lv_has ls 4 [(0, .ref (ax 11)), (1, .int (nI (x1))), (2, .int (nI (y1))), (3, .int (nI (FL wd qf x1 y1)))] from by rw [← e_5]; exact lv_sub hl [1, 2, 3, 0] rfl)
      exact loop_10 (8 + 1) 8 T (by omega) (by omega) (by first | exact TO_I h_O | exact TI_s h_I (by omega) (by omega)) _ _ hP hD hS _ (show lv_has ls 4 [(0, .ref (ax 11)), (1, .int (nI (x1))), (2, .int (nI (8) - 1))] from by exact lv_sub hl [1, 2, 0] rfl)
  exact loop_3 (8 + 1) 8 T (by omega) (by omega) (by first | exact TO_8 h_T | exact TI_O (rfl ▸ h_I)) _ _ hP hD hS _ (show lv_has ls 4 [(0, .ref (ax 11)), (1, .int (nI (8) - 1))] from by exact lv_sub hl [1, 0] rfl)
theorem hdX0_fillTable : yX0_fillTable.cls = RX0 ∧ yX0_fillTable.cls ≠ "java/lang/invoke/MethodHandle" ∧ yX0_fillTable.cls ≠ "java/lang/invoke/VarHandle" ∧ (parseMethodDescriptor yX0_fillTable.desc).map (fun d => d.parameters.length) = some 0 := by decide +kernel
set_option maxHeartbeats 4000000 in
set_option maxRecDepth 100000 in
theorem kX0_mostPartners (l : Launch) (D : va_G) (cI cZ cA : ClassId) (ax : Nat → Nat) (wd : Nat → Option Nat) (qf : Nat → Option Nat) (T : Nat → Nat → Nat) : Met l yX0_mostPartners wsX0_mostPartners ({ frames := 0, cells := 0, slots := 0, locals := 0 }) (PcR D [(cI, .int), (cZ, .boolean), (cA, .array .int)] (wA cI cA ax wd qf T) [.ref (ax 11)]) (vp_Si (fun r => r = (nI (T 0 0)))) 0 0 (fun _ => False) := by
  refine Met.ofW (cc := cX0_mostPartners) (maxL := 1) (ret := (some .int)) (by decide) rfl ?_
  intro p e s m args below meth c s₁ BL hml hv
  obtain ⟨rfl, hP, hK⟩ := hv
  have hx := BL.exec
  have hb := BL.bytes
  have hr := BL.returns
  have hts := atoms_spec (ws := wsX0_mostPartners) BL.pre
  have hown : s.vm.findClass RX0 = some m.cls := findClass_of_methodNamed BL.named
  have hlocks := BL.notSynchronized
  have hin : ∀ w ∈ wsX00, w ∈ wsX0_mostPartners := by decide +kernel
  have hf_20 := hts (.fieldLink RX0 20 "TalkRebuilder$Alignment" "most" "[[I") (by decide +kernel)
  have hl := lv_entry ([.ref (ax 11)]) (n := 1) (Nat.le_of_ble_eq_true rfl)
  rw [lg_entry_eq]
  generalize (lg_sl ([.ref (ax 11)]) ++ List.replicate (1 - (lg_sl ([.ref (ax 11)])).length) Slot.unset).toArray = ls at hl ⊢
  have hl : lv_has ls 1 [(0, .ref (ax 11))] := hl
  refine lv_aload_n hx hb dX0_mostPartners_0 rfl (lv_at hl 0 rfl) ?_
  refine va_get (D := D) (ci := 2) (v := .ref (ax 14)) (C := RX0) (T := TX0) (N := 3) hx hb hts hin hown hK hP 0 rfl rfl 2 (by decide) hf_20 (fun _ h9 => h9) rfl dX0_mostPartners_1 ?_
  refine lv_iconst (v := (nI (0))) hx hb dX0_mostPartners_4 (by decide +kernel) ?_
  refine g_aald hx hb hK hP (i := 0) (by omega) dX0_mostPartners_5 ?_
  refine lv_iconst (v := (nI (0))) hx hb dX0_mostPartners_6 (by decide +kernel) ?_
  refine g_iald hx hb hK hP (i := 0) (j := 0) (by omega) (by omega) dX0_mostPartners_7 ?_
  exact W.iret (v := (nI (T 0 0))) hx hb hr (fun t ht hW => ⟨_, rfl, rfl, ht⟩) (fun _ h => nomatch h) dX0_mostPartners_8
theorem hdX0_mostPartners : yX0_mostPartners.cls = RX0 ∧ yX0_mostPartners.cls ≠ "java/lang/invoke/MethodHandle" ∧ yX0_mostPartners.cls ≠ "java/lang/invoke/VarHandle" ∧ (parseMethodDescriptor yX0_mostPartners.desc).map (fun d => d.parameters.length) = some 0 := by decide +kernel
set_option maxHeartbeats 4000000 in
set_option maxRecDepth 100000 in
theorem kX0_earliestPartner (l : Launch) (D : va_G) (cI cZ cA : ClassId) (ax : Nat → Nat) (wd : Nat → Option Nat) (qf : Nat → Option Nat) (T : Nat → Nat → Nat) (i : Nat) (a : Nat) (hBD : BD wd qf) (h_T : TF wd qf T) (h_i : i < 8) (h_a : a ≤ 8) : Met l yX0_earliestPartner wsX0_earliestPartner ({ frames := 1, cells := 0, slots := 0, locals := 22 }) (PcRN D [(cI, .int), (cZ, .boolean), (cA, .array .int)] (wA cI cA ax wd qf T) [.ref (ax 11), .int (nI (i)), .int (nI (a))]) (vp_Si (fun r => r = (oI (s_pt (s_fq wd qf) 8 8 i a)))) 0 0 (fun _ => False) := by
  refine Met.ofW (cc := cX0_earliestPartner) (maxL := 4) (ret := (some .int)) (by decide) rfl ?_
  intro p e s m args below meth c s₁ BL hml hv
  obtain ⟨rfl, hP, hK, hN⟩ := hv
  have hx := BL.exec
  have hb := BL.bytes
  have hr := BL.returns
  have hts := atoms_spec (ws := wsX0_earliestPartner) BL.pre
  have hown : s.vm.findClass RX0 = some m.cls := findClass_of_methodNamed BL.named
  have hlocks := BL.notSynchronized
  have hin : ∀ w ∈ wsX00, w ∈ wsX0_earliestPartner := by decide +kernel
  have hf_9 := hts (.fieldLink RX0 9 "TalkRebuilder$Alignment" "wanted" "[I") (by decide +kernel)
  have hf_15 := hts (.fieldLink RX0 15 "TalkRebuilder$Alignment" "offered" "[I") (by decide +kernel)
  have hf_20 := hts (.fieldLink RX0 20 "TalkRebuilder$Alignment" "most" "[[I") (by decide +kernel)
  have hl := lv_entry ([.ref (ax 11), .int (nI (i)), .int (nI (a))]) (n := 4) (Nat.le_of_ble_eq_true rfl)
  rw [lg_entry_eq]
  generalize (lg_sl ([.ref (ax 11), .int (nI (i)), .int (nI (a))]) ++ List.replicate (4 - (lg_sl ([.ref (ax 11), .int (nI (i)), .int (nI (a))])).length) Slot.unset).toArray = ls at hl ⊢
  have hl : lv_has ls 4 [(0, .ref (ax 11)), (1, .int (nI (i))), (2, .int (nI (a)))] := hl
  refine lv_iload_n hx hb dX0_earliestPartner_0 rfl (lv_at hl 1 rfl) ?_
  refine lv_iconst (v := (nI (0))) hx hb dX0_earliestPartner_1 (by decide +kernel) ?_
  refine lv_bipush (v := (nI (7))) hx hb dX0_earliestPartner_2 (by decide +kernel) ?_
  refine ro_SN (As := [.int (nI (i)), .int (nI (0)), .int (nI (7))]) (v := (bI (s_in (nI (i)) (nI (0)) (nI (7))))) ⟨hx, hb, hml, hown, hts⟩ (kX1_isWithin l (nI (i)) (nI (0)) (nI (7))) ⟨va_cnB 3 hts gX0_earliestPartner_X1_isWithin_n23 rfl rfl rfl hN (hts (.initialized RX1) (by decide +kernel)) hsX1_isWithin ⟨Nat.le_of_ble_eq_true rfl, Nat.le_of_ble_eq_true rfl⟩, hts (.static yX1_isWithin) (by decide +kernel), trivial⟩ rfl hl.1 rfl (Nat.le_of_ble_eq_true rfl) dX0_earliestPartner_4 ⟨Nat.zero_le _, Nat.zero_le _⟩ ?_
  refine n_top (y := (bI (true))) (by rw [s_in_o (by omega) (by omega) (by decide)]) ?_
  refine y_eq (tgt := 20) hx hb dX0_earliestPartner_7 (by decide) (fun q => nomatch q) (fun _ => ?_)
  refine lv_iload_n hx hb dX0_earliestPartner_10 rfl (lv_at hl 2 rfl) ?_
  refine lv_iconst (v := (nI (0))) hx hb dX0_earliestPartner_11 (by decide +kernel) ?_
  refine lv_bipush (v := (nI (7))) hx hb dX0_earliestPartner_12 (by decide +kernel) ?_
  refine ro_SN (As := [.int (nI (a)), .int (nI (0)), .int (nI (7))]) (v := (bI (s_in (nI (a)) (nI (0)) (nI (7))))) ⟨hx, hb, hml, hown, hts⟩ (kX1_isWithin l (nI (a)) (nI (0)) (nI (7))) ⟨va_cnB 3 hts gX0_earliestPartner_X1_isWithin_n23 rfl rfl rfl hN (hts (.initialized RX1) (by decide +kernel)) hsX1_isWithin ⟨Nat.le_of_ble_eq_true rfl, Nat.le_of_ble_eq_true rfl⟩, hts (.static yX1_isWithin) (by decide +kernel), trivial⟩ rfl hl.1 rfl (Nat.le_of_ble_eq_true rfl) dX0_earliestPartner_14 ⟨Nat.zero_le _, Nat.zero_le _⟩ ?_
  refine n_top (y := (bI (decide (a < 8)))) (by rw [s_in_8 (by omega)]) ?_
  refine y_ne (tgt := 22) hx hb dX0_earliestPartner_17 (by decide) (fun c_1 => ?_) (fun c_1 => ?_)
  · have h_a8 : a < 8 := of_decide_eq_true c_1
    refine lv_iload_n hx hb dX0_earliestPartner_22 rfl (lv_at hl 2 rfl) ?_
    refine lv_istore_n (lv' := [(3, .int (nI (a))), (0, .ref (ax 11)), (1, .int (nI (i))), (2, .int (nI (a)))]) hx hb dX0_earliestPartner_23 rfl hl (by decide) rfl (fun ls hl => ?_)
    have loop_24 : ∀ (N : Nat) (z : Nat), 8 - z < N → (a ≤ z) → (z ≤ 8) → (s_sr8 wd qf i a z = none) → ∀ (ls : Array Slot), lv_has ls 4 [(0, .ref (ax 11)), (1, .int (nI (i))), (2, .int (nI (a))), (3, .int (nI (z)))] → W p l e (headSpec wsX0_earliestPartner ({ frames := 1, cells := 0, slots := 0, locals := 22 })).room s m ([.ref (ax 11), .int (nI (i)), .int (nI (a))] : List Value).toArray below meth c s.heap [] 0 0 (MQ below (vp_Si (fun r => r = (oI (s_pt (s_fq wd qf) 8 8 i a)))) ([.ref (ax 11), .int (nI (i)), .int (nI (a))] : List Value).toArray s 0 0 (fun _ => False)) (F0 m 24 ls []) := by
      intro N
      induction N with
      | zero => intro z hmu; exact absurd hmu (Nat.not_lt_zero _)
      | succ N ih_24 =>
        intro z hmu_24 h_az h_z h_s ls hl
        refine lv_iload_n hx hb dX0_earliestPartner_24 rfl (lv_at hl 3 rfl) ?_
        refine lv_bipush (v := (nI (8))) hx hb dX0_earliestPartner_25 (by decide +kernel) ?_
        refine n_ge (tgt := 78) hx hb (by omega) (by omega) dX0_earliestPartner_27 (by decide) (fun c_2 => ?_) (fun c_2 => ?_)
        · refine lv_iconst (v := (oI (none))) hx hb dX0_earliestPartner_78 (by decide +kernel) ?_
          exact W.iret (v := (oI (none))) hx hb hr (fun t ht hW => ⟨_, rfl, by first | (rw [s_pt_8 (of_decide_eq_false c_2 |> Nat.not_lt.mp)]; done) | (rw [s_sr8_x h_s (by omega) h_z]; done) | (rw [s_sr8_y h_s h_az (by omega) (by assumption) (by rw [← hT1, ← hT2]; exact c_2)]; rfl), ht⟩) (fun _ h => nomatch h) dX0_earliestPartner_79
        refine lv_aload_n hx hb dX0_earliestPartner_30 rfl (lv_at hl 0 rfl) ?_
        refine va_get (D := D) (ci := 2) (v := .ref (ax 12)) (C := RX0) (T := TX0) (N := 3) hx hb hts hin hown hK hP 0 rfl rfl 0 (by decide) hf_9 (fun _ h9 => h9) rfl dX0_earliestPartner_31 ?_
        refine lv_iload_n hx hb dX0_earliestPartner_34 rfl (lv_at hl 1 rfl) ?_
        refine n_iald hx hb hK hP 1 0 rfl rfl (i := i) (by omega) (by decide) dX0_earliestPartner_35 ?_
        refine lv_aload_n hx hb dX0_earliestPartner_36 rfl (lv_at hl 0 rfl) ?_
        refine va_get (D := D) (ci := 2) (v := .ref (ax 13)) (C := RX0) (T := TX0) (N := 3) hx hb hts hin hown hK hP 0 rfl rfl 1 (by decide) hf_15 (fun _ h9 => h9) rfl dX0_earliestPartner_37 ?_
        refine lv_iload_n hx hb dX0_earliestPartner_40 rfl (lv_at hl 3 rfl) ?_
        refine n_iald hx hb hK hP 2 0 rfl rfl (i := z) (by omega) (by decide) dX0_earliestPartner_41 ?_
        refine oq_ne (wd := wd) (qf := qf) (i := i) (j := z) (tgt := 72) hx hb hBD (by omega) (by omega) dX0_earliestPartner_42 (by decide) (fun c_3 => ?_) (fun c_3 => ?_)
        · refine lv_iinc (v := (nI (z + 1))) (lv' := [(3, .int (nI (z + 1))), (0, .ref (ax 11)), (1, .int (nI (i))), (2, .int (nI (a)))]) hx hb dX0_earliestPartner_72 hl (k := 3) rfl (nI_1 _) (by decide) rfl (fun ls hl => ?_)
          refine lv_goto (tgt := 24) hx hb dX0_earliestPartner_75 (by decide) ?_
          exact ih_24 (z + 1) (by omega) (by omega) (by omega) (by first | (show s_fst _ a (a - a) = none; rw [Nat.sub_self]; rfl) | exact s_sr8_n h_s h_az (Or.inl c_3) | exact s_sr8_n h_s h_az (Or.inr (by rw [← hT1, ← hT2]; exact c_3))) _ (show lv_has ls 4 [(0, .ref (ax 11)), (1, .int (nI (i))), (2, .int (nI (a))), (3, .int (nI (z + 1)))] from by exact lv_sub hl [1, 2, 3, 0] rfl)
        have hT1 : T (i + 1) (z + 1) = FL wd qf (i + 1) (z + 1) := h_T _ _ (by omega) (by omega)
        have hT2 : T i a = FL wd qf i a := h_T _ _ (by omega) (by omega)
        have hF1 := FL_le wd qf (i + 1) (z + 1)
        have hF2 := FL_le wd qf i a
        refine lv_iconst (v := (nI (1))) hx hb dX0_earliestPartner_45 (by decide +kernel) ?_
        refine lv_aload_n hx hb dX0_earliestPartner_46 rfl (lv_at hl 0 rfl) ?_
        refine va_get (D := D) (ci := 2) (v := .ref (ax 14)) (C := RX0) (T := TX0) (N := 3) hx hb hts hin hown hK hP 0 rfl rfl 2 (by decide) hf_20 (fun _ h9 => h9) rfl dX0_earliestPartner_47 ?_
        refine lv_iload_n hx hb dX0_earliestPartner_50 rfl (lv_at hl 1 rfl) ?_
        refine lv_iconst (v := (nI (1))) hx hb dX0_earliestPartner_51 (by decide +kernel) ?_
        refine lv_iadd hx hb dX0_earliestPartner_52 ?_
        refine n_top (y := (nI (i + 1))) (nI_add _ _) ?_
        refine g_aald hx hb hK hP (i := i + 1) (by omega) dX0_earliestPartner_53 ?_
        refine lv_iload_n hx hb dX0_earliestPartner_54 rfl (lv_at hl 3 rfl) ?_
        refine lv_iconst (v := (nI (1))) hx hb dX0_earliestPartner_55 (by decide +kernel) ?_
        refine lv_iadd hx hb dX0_earliestPartner_56 ?_
        refine n_top (y := (nI (z + 1))) (nI_add _ _) ?_
        refine g_iald hx hb hK hP (i := (i + 1)) (j := z + 1) (by omega) (by omega) dX0_earliestPartner_57 ?_
        refine lv_iadd hx hb dX0_earliestPartner_58 ?_
        refine n_top (y := (nI (1 + (T (i + 1) (z + 1))))) (nI_add _ _) ?_
        refine lv_aload_n hx hb dX0_earliestPartner_59 rfl (lv_at hl 0 rfl) ?_
        refine va_get (D := D) (ci := 2) (v := .ref (ax 14)) (C := RX0) (T := TX0) (N := 3) hx hb hts hin hown hK hP 0 rfl rfl 2 (by decide) hf_20 (fun _ h9 => h9) rfl dX0_earliestPartner_60 ?_
        refine lv_iload_n hx hb dX0_earliestPartner_63 rfl (lv_at hl 1 rfl) ?_
        refine g_aald hx hb hK hP (i := i) (by omega) dX0_earliestPartner_64 ?_
        refine lv_iload_n hx hb dX0_earliestPartner_65 rfl (lv_at hl 2 rfl) ?_
        refine g_iald hx hb hK hP (i := i) (j := a) (by omega) (by omega) dX0_earliestPartner_66 ?_
        refine n_ne (tgt := 72) hx hb (by omega) (by omega) dX0_earliestPartner_67 (by decide) (fun c_4 => ?_) (fun c_4 => ?_)
        · refine lv_iinc (v := (nI (z + 1))) (lv' := [(3, .int (nI (z + 1))), (0, .ref (ax 11)), (1, .int (nI (i))), (2, .int (nI (a)))]) hx hb dX0_earliestPartner_72 hl (k := 3) rfl (nI_1 _) (by decide) rfl (fun ls hl => ?_)
          refine lv_goto (tgt := 24) hx hb dX0_earliestPartner_75 (by decide) ?_
          exact ih_24 (z + 1) (by omega) (by omega) (by omega) (by first | (show s_fst _ a (a - a) = none; rw [Nat.sub_self]; rfl) | exact s_sr8_n h_s h_az (Or.inl c_4) | exact s_sr8_n h_s h_az (Or.inr (by rw [← hT1, ← hT2]; exact c_4))) _ (show lv_has ls 4 [(0, .ref (ax 11)), (1, .int (nI (i))), (2, .int (nI (a))), (3, .int (nI (z + 1)))] from by exact lv_sub hl [1, 2, 3, 0] rfl)
        refine lv_iload_n hx hb dX0_earliestPartner_70 rfl (lv_at hl 3 rfl) ?_
        exact W.iret (v := (nI (z))) hx hb hr (fun t ht hW => ⟨_, rfl, by first | (rw [s_pt_8 (of_decide_eq_false c_4 |> Nat.not_lt.mp)]; done) | (rw [s_sr8_x h_s (by omega) h_z]; done) | (rw [s_sr8_y h_s h_az (by omega) (by assumption) (by rw [← hT1, ← hT2]; exact c_4)]; rfl), ht⟩) (fun _ h => nomatch h) dX0_earliestPartner_71
    exact loop_24 (8 - a + 1) a (by omega) (by omega) (by omega) (by first | (show s_fst _ a (a - a) = none; rw [Nat.sub_self]; rfl) | exact s_sr8_n h_s h_az (Or.inl c_1) | exact s_sr8_n h_s h_az (Or.inr (by rw [← hT1, ← hT2]; exact c_1))) _ (show lv_has ls 4 [(0, .ref (ax 11)), (1, .int (nI (i))), (2, .int (nI (a))), (3, .int (nI (a)))] from by exact lv_sub hl [1, 2, 3, 0] rfl)
  refine lv_iconst (v := (oI (none))) hx hb dX0_earliestPartner_20 (by decide +kernel) ?_
  exact W.iret (v := (oI (none))) hx hb hr (fun t ht hW => ⟨_, rfl, by first | (rw [s_pt_8 (of_decide_eq_false c_1 |> Nat.not_lt.mp)]; done) | (rw [s_sr8_x h_s (by omega) h_z]; done) | (rw [s_sr8_y h_s h_az (by omega) (by assumption) (by rw [← hT1, ← hT2]; exact c_1)]; rfl), ht⟩) (fun _ h => nomatch h) dX0_earliestPartner_21
theorem hdX0_earliestPartner : yX0_earliestPartner.cls = RX0 ∧ yX0_earliestPartner.cls ≠ "java/lang/invoke/MethodHandle" ∧ yX0_earliestPartner.cls ≠ "java/lang/invoke/VarHandle" ∧ (parseMethodDescriptor yX0_earliestPartner.desc).map (fun d => d.parameters.length) = some 2 := by decide +kernel
set_option maxHeartbeats 4000000 in
set_option maxRecDepth 100000 in
theorem kX0_tryFrom_8 (l : Launch) (D : va_G) (cI cZ cA : ClassId) (ax : Nat → Nat) (wd : Nat → Option Nat) (qf : Nat → Option Nat) (T : Nat → Nat → Nat) (a : Nat) (hBD : BD wd qf) (h_a : a ≤ 8) : Met l yX0_tryFrom wsX0_tryFrom ({ frames := 0, cells := 0, slots := 0, locals := 0 }) (PcR D [(cI, .int), (cZ, .boolean), (cA, .array .int)] (wA cI cA ax wd qf T) [.ref (ax 12), .ref (ax 13), .int (nI (8)), .int (nI (a))]) (vp_Si (fun r => r = (nI (FL wd qf 8 a)))) 0 0 (fun _ => False) := by
  refine Met.ofW (cc := cX0_tryFrom) (maxL := 6) (ret := (some .int)) (by decide) rfl ?_
  intro p e s m args below meth c s₁ BL hml hv
  obtain ⟨rfl, hP, hK⟩ := hv
  have hx := BL.exec
  have hb := BL.bytes
  have hr := BL.returns
  have hts := atoms_spec (ws := wsX0_tryFrom) BL.pre
  have hown : s.vm.findClass RX0 = some m.cls := findClass_of_methodNamed BL.named
  have hlocks := BL.notSynchronized
  have hl := lv_entry ([.ref (ax 12), .ref (ax 13), .int (nI (8)), .int (nI (a))]) (n := 6) (Nat.le_of_ble_eq_true rfl)
  rw [lg_entry_eq]
  generalize (lg_sl ([.ref (ax 12), .ref (ax 13), .int (nI (8)), .int (nI (a))]) ++ List.replicate (6 - (lg_sl ([.ref (ax 12), .ref (ax 13), .int (nI (8)), .int (nI (a))])).length) Slot.unset).toArray = ls at hl ⊢
  have hl : lv_has ls 6 [(0, .ref (ax 12)), (1, .ref (ax 13)), (2, .int (nI (8))), (3, .int (nI (a)))] := hl
  refine lv_iload_n hx hb dX0_tryFrom_0 rfl (lv_at hl 2 rfl) ?_
  refine lv_bipush (v := (nI (8))) hx hb dX0_tryFrom_1 (by decide +kernel) ?_
  refine n_lt (tgt := 8) hx hb (by omega) (by omega) dX0_tryFrom_3 (by decide) (fun q => absurd q (by decide)) (fun _ => ?_)
  refine lv_iconst (v := (nI (0))) hx hb dX0_tryFrom_6 (by decide +kernel) ?_
  exact W.iret (v := (nI (0))) hx hb hr (fun t ht hW => ⟨_, rfl, by rw [FL_8 (Or.inl (by omega))], ht⟩) (fun _ h => nomatch h) dX0_tryFrom_7
theorem hsX0_tryFrom : yX0_tryFrom.cls ≠ "java/lang/invoke/MethodHandle" ∧ yX0_tryFrom.cls ≠ "java/lang/invoke/VarHandle" ∧ (parseMethodDescriptor yX0_tryFrom.desc).map (fun d => d.parameters.length) = some 4 := by decide +kernel
set_option maxHeartbeats 4000000 in
set_option maxRecDepth 100000 in
theorem kX0_tryFrom_7 (l : Launch) (D : va_G) (cI cZ cA : ClassId) (ax : Nat → Nat) (wd : Nat → Option Nat) (qf : Nat → Option Nat) (T : Nat → Nat → Nat) (a : Nat) (hBD : BD wd qf) (h_a : a ≤ 8) : Met l yX0_tryFrom wsX0_tryFrom ({ frames := 1, cells := 0, slots := 0, locals := 25 }) (PcR D [(cI, .int), (cZ, .boolean), (cA, .array .int)] (wA cI cA ax wd qf T) [.ref (ax 12), .ref (ax 13), .int (nI (7)), .int (nI (a))]) (vp_Si (fun r => r = (nI (FL wd qf 7 a)))) 0 0 (fun _ => False) := by
  refine Met.ofW (cc := cX0_tryFrom) (maxL := 6) (ret := (some .int)) (by decide) rfl ?_
  intro p e s m args below meth c s₁ BL hml hv
  obtain ⟨rfl, hP, hK⟩ := hv
  have hx := BL.exec
  have hb := BL.bytes
  have hr := BL.returns
  have hts := atoms_spec (ws := wsX0_tryFrom) BL.pre
  have hown : s.vm.findClass RX0 = some m.cls := findClass_of_methodNamed BL.named
  have hlocks := BL.notSynchronized
  have hmi := hts (.initialized "java/lang/Math") (by decide +kernel)
  have hms_max := hts (.static Lib.Math.max.name) (by decide +kernel)
  have hmc_max := hts (.code Lib.Math.max.name Lib.Math.max.code 2 (some .int)) (by decide +kernel)
  have hm_31 := hts (.methodLink RX0 31 Lib.Math.max.name) (by decide +kernel)
  have hl := lv_entry ([.ref (ax 12), .ref (ax 13), .int (nI (7)), .int (nI (a))]) (n := 6) (Nat.le_of_ble_eq_true rfl)
  rw [lg_entry_eq]
  generalize (lg_sl ([.ref (ax 12), .ref (ax 13), .int (nI (7)), .int (nI (a))]) ++ List.replicate (6 - (lg_sl ([.ref (ax 12), .ref (ax 13), .int (nI (7)), .int (nI (a))])).length) Slot.unset).toArray = ls at hl ⊢
  have hl : lv_has ls 6 [(0, .ref (ax 12)), (1, .ref (ax 13)), (2, .int (nI (7))), (3, .int (nI (a)))] := hl
  refine lv_iload_n hx hb dX0_tryFrom_0 rfl (lv_at hl 2 rfl) ?_
  refine lv_bipush (v := (nI (8))) hx hb dX0_tryFrom_1 (by decide +kernel) ?_
  refine n_lt (tgt := 8) hx hb (by omega) (by omega) dX0_tryFrom_3 (by decide) (fun _ => ?_) (fun q => absurd q (by decide))
  refine lv_aload_n hx hb dX0_tryFrom_8 rfl (lv_at hl 0 rfl) ?_
  refine lv_aload_n hx hb dX0_tryFrom_9 rfl (lv_at hl 1 rfl) ?_
  refine lv_iload_n hx hb dX0_tryFrom_10 rfl (lv_at hl 2 rfl) ?_
  refine lv_iconst (v := (nI (1))) hx hb dX0_tryFrom_11 (by decide +kernel) ?_
  refine lv_iadd hx hb dX0_tryFrom_12 ?_
  refine n_top (y := (nI (8))) (nI_add _ _) ?_
  refine lv_iload_n hx hb dX0_tryFrom_13 rfl (lv_at hl 3 rfl) ?_
  refine ro2_S (As := [.ref (ax 12), .ref (ax 13), .int (nI (8)), .int (nI (a))]) (v := (nI (FL wd qf 8 a))) ⟨hx, hb, hml, hown, hts⟩ (kX0_tryFrom_8 l D cI cZ cA ax wd qf T a hBD h_a) (va_cwS 4 hts gX0_tryFrom_X0_tryFrom rfl rfl rfl hsX0_tryFrom ⟨Nat.le_of_ble_eq_true rfl, Nat.le_of_ble_eq_true rfl⟩) (preSR hK hP) rfl hl.1 rfl (Nat.le_of_ble_eq_true rfl) dX0_tryFrom_14 ⟨Nat.zero_le _, Nat.zero_le _⟩ ?_
  refine lv_istore (lv' := [(4, .int (nI (FL wd qf 8 a))), (0, .ref (ax 12)), (1, .ref (ax 13)), (2, .int (nI (7))), (3, .int (nI (a)))]) hx hb dX0_tryFrom_17 hl (by decide) rfl (fun ls hl => ?_)
  refine lv_iload_n hx hb dX0_tryFrom_19 rfl (lv_at hl 4 rfl) ?_
  refine lv_istore (lv' := [(5, .int (nI (a))), (4, .int (nI (FL wd qf 8 a))), (0, .ref (ax 12)), (1, .ref (ax 13)), (2, .int (nI (7))), (3, .int (nI (a)))]) hx hb dX0_tryFrom_20 hl (by decide) rfl (fun ls hl => ?_)
  have loop_22 : ∀ (N : Nat) (c9 : Nat), 8 - (a + c9) < N → (a + c9 ≤ 8) → ∀ (ls : Array Slot), lv_has ls 6 [(0, .ref (ax 12)), (1, .ref (ax 13)), (2, .int (nI (7))), (3, .int (nI (a))), (4, .int (nI (s_tm wd qf 7 a c9))), (5, .int (nI (a + c9)))] → W p l e (headSpec wsX0_tryFrom ({ frames := 1, cells := 0, slots := 0, locals := 25 })).room s m ([.ref (ax 12), .ref (ax 13), .int (nI (7)), .int (nI (a))] : List Value).toArray below meth c s.heap [] 0 0 (MQ below (vp_Si (fun r => r = (nI (FL wd qf 7 a)))) ([.ref (ax 12), .ref (ax 13), .int (nI (7)), .int (nI (a))] : List Value).toArray s 0 0 (fun _ => False)) (F0 m 22 ls []) := by
    intro N
    induction N with
    | zero => intro c9 hmu; exact absurd hmu (Nat.not_lt_zero _)
    | succ N ih_22 =>
      intro c9 hmu_22 h_z ls hl
      refine lv_iload hx hb dX0_tryFrom_22 (lv_at hl 5 rfl) ?_
      refine lv_bipush (v := (nI (8))) hx hb dX0_tryFrom_24 (by decide +kernel) ?_
      refine n_ge (tgt := 66) hx hb (by omega) (by omega) dX0_tryFrom_26 (by decide) (fun c_1 => ?_) (fun c_1 => ?_)
      · refine lv_iload hx hb dX0_tryFrom_66 (lv_at hl 4 rfl) ?_
        exact W.iret (v := (nI (s_tm wd qf 7 a c9))) hx hb hr (fun t ht hW => ⟨_, rfl, by exact congrArg nI (s_tm_x (by decide) h_a c_1 h_z), ht⟩) (fun _ h => nomatch h) dX0_tryFrom_68
      refine lv_aload_n hx hb dX0_tryFrom_29 rfl (lv_at hl 0 rfl) ?_
      refine lv_iload_n hx hb dX0_tryFrom_30 rfl (lv_at hl 2 rfl) ?_
      refine n_iald hx hb hK hP 1 0 rfl rfl (i := 7) (by omega) (by decide) dX0_tryFrom_31 ?_
      refine lv_aload_n hx hb dX0_tryFrom_32 rfl (lv_at hl 1 rfl) ?_
      refine lv_iload hx hb dX0_tryFrom_33 (lv_at hl 5 rfl) ?_
      refine n_iald hx hb hK hP 2 0 rfl rfl (i := a + c9) (by omega) (by decide) dX0_tryFrom_35 ?_
      refine oq_ne (wd := wd) (qf := qf) (i := 7) (j := (a + c9)) (tgt := 60) hx hb hBD (by omega) (by omega) dX0_tryFrom_36 (by decide) (fun c_2 => ?_) (fun c_2 => ?_)
      · refine lv_iinc (v := (nI (a + c9 + 1))) (lv' := [(5, .int (nI (a + c9 + 1))), (0, .ref (ax 12)), (1, .ref (ax 13)), (2, .int (nI (7))), (3, .int (nI (a))), (4, .int (nI (s_tm wd qf 7 a c9)))]) hx hb dX0_tryFrom_60 hl (k := 5) rfl (nI_1 _) (by decide) rfl (fun ls hl => ?_)
        refine lv_goto (tgt := 22) hx hb dX0_tryFrom_63 (by decide) ?_
        have e_3 : ((nI (s_tm wd qf 7 a c9)) : Int32) = (nI (s_tm wd qf 7 a (c9 + 1))) := by first | exact congrArg nI (s_tm_t c_2).symm | exact congrArg nI (s_tm_f c_2).symm | exact congrArg nI (by rw [s_tm_f c_2]) | rfl
        have e_4 : ((nI (a + c9 + 1)) : Int32) = (nI (a + (c9 + 1))) := by first | exact congrArg nI (s_tm_t c_2).symm | exact congrArg nI (s_tm_f c_2).symm | exact congrArg nI (by rw [s_tm_f c_2]) | rfl
        exact ih_22 (c9 + 1) (by omega) (by omega) _ (show lv_has ls 6 [(0, .ref (ax 12)), (1, .ref (ax 13)), (2, .int (nI (7))), (3, .int (nI (a))), (4, .int (nI (s_tm wd qf 7 a (c9 + 1)))), (5, .int (nI (a + (c9 + 1))))] from by rw [← e_3, ← e_4]; exact lv_sub hl [1, 2, 3, 4, 5, 0] rfl)
      have hF1 := FL_le wd qf 8 (a + c9 + 1)
      have hF2 := s_tm_b (wd := wd) (qf := qf) (i := 7) (a := a) c9
      refine lv_iload hx hb dX0_tryFrom_39 (lv_at hl 4 rfl) ?_
      refine lv_iconst (v := (nI (1))) hx hb dX0_tryFrom_41 (by decide +kernel) ?_
      refine lv_aload_n hx hb dX0_tryFrom_42 rfl (lv_at hl 0 rfl) ?_
      refine lv_aload_n hx hb dX0_tryFrom_43 rfl (lv_at hl 1 rfl) ?_
      refine lv_iload_n hx hb dX0_tryFrom_44 rfl (lv_at hl 2 rfl) ?_
      refine lv_iconst (v := (nI (1))) hx hb dX0_tryFrom_45 (by decide +kernel) ?_
      refine lv_iadd hx hb dX0_tryFrom_46 ?_
      refine n_top (y := (nI (8))) (nI_add _ _) ?_
      refine lv_iload hx hb dX0_tryFrom_47 (lv_at hl 5 rfl) ?_
      refine lv_iconst (v := (nI (1))) hx hb dX0_tryFrom_49 (by decide +kernel) ?_
      refine lv_iadd hx hb dX0_tryFrom_50 ?_
      refine n_top (y := (nI (a + c9 + 1))) (nI_add _ _) ?_
      refine ro2_S (As := [.ref (ax 12), .ref (ax 13), .int (nI (8)), .int (nI (a + c9 + 1))]) (v := (nI (FL wd qf 8 (a + c9 + 1)))) ⟨hx, hb, hml, hown, hts⟩ (kX0_tryFrom_8 l D cI cZ cA ax wd qf T (a + c9 + 1) hBD (by omega)) (va_cwS 4 hts gX0_tryFrom_X0_tryFrom rfl rfl rfl hsX0_tryFrom ⟨Nat.le_of_ble_eq_true rfl, Nat.le_of_ble_eq_true rfl⟩) (preSR hK hP) rfl hl.1 rfl (Nat.le_of_ble_eq_true rfl) dX0_tryFrom_51 ⟨Nat.zero_le _, Nat.zero_le _⟩ ?_
      refine lv_iadd hx hb dX0_tryFrom_54 ?_
      refine n_top (y := (nI (1 + (FL wd qf 8 (a + c9 + 1))))) (nI_add _ _) ?_
      refine va_mmax hx hb (hml.trans hl.1.symm) hown hm_31 hms_max hmi hmc_max (Nat.le_of_ble_eq_true rfl) (Nat.le_of_ble_eq_true rfl) (Nat.zero_le _) (Nat.zero_le _) dX0_tryFrom_55 ?_
      refine n_top (y := (nI (if (s_tm wd qf 7 a c9) < (1 + (FL wd qf 8 (a + c9 + 1))) then (1 + (FL wd qf 8 (a + c9 + 1))) else (s_tm wd qf 7 a c9)))) (n_max (by omega) (by omega)) ?_
      refine lv_istore (lv' := [(4, .int (nI (if (s_tm wd qf 7 a c9) < (1 + (FL wd qf 8 (a + c9 + 1))) then (1 + (FL wd qf 8 (a + c9 + 1))) else (s_tm wd qf 7 a c9)))), (0, .ref (ax 12)), (1, .ref (ax 13)), (2, .int (nI (7))), (3, .int (nI (a))), (5, .int (nI (a + c9)))]) hx hb dX0_tryFrom_58 hl (by decide) rfl (fun ls hl => ?_)
      refine lv_iinc (v := (nI (a + c9 + 1))) (lv' := [(5, .int (nI (a + c9 + 1))), (4, .int (nI (if (s_tm wd qf 7 a c9) < (1 + (FL wd qf 8 (a + c9 + 1))) then (1 + (FL wd qf 8 (a + c9 + 1))) else (s_tm wd qf 7 a c9)))), (0, .ref (ax 12)), (1, .ref (ax 13)), (2, .int (nI (7))), (3, .int (nI (a)))]) hx hb dX0_tryFrom_60 hl (k := 5) rfl (nI_1 _) (by decide) rfl (fun ls hl => ?_)
      refine lv_goto (tgt := 22) hx hb dX0_tryFrom_63 (by decide) ?_
      have e_5 : ((nI (if (s_tm wd qf 7 a c9) < (1 + (FL wd qf 8 (a + c9 + 1))) then (1 + (FL wd qf 8 (a + c9 + 1))) else (s_tm wd qf 7 a c9))) : Int32) = (nI (s_tm wd qf 7 a (c9 + 1))) := by first | exact congrArg nI (s_tm_t c_2).symm | exact congrArg nI (s_tm_f c_2).symm | exact congrArg nI (by rw [s_tm_f c_2]) | rfl
      have e_6 : ((nI (a + c9 + 1)) : Int32) = (nI (a + (c9 + 1))) := by first | exact congrArg nI (s_tm_t c_2).symm | exact congrArg nI (s_tm_f c_2).symm | exact congrArg nI (by rw [s_tm_f c_2]) | rfl
      exact ih_22 (c9 + 1) (by omega) (by omega) _ (show lv_has ls 6 [(0, .ref (ax 12)), (1, .ref (ax 13)), (2, .int (nI (7))), (3, .int (nI (a))), (4, .int (nI (s_tm wd qf 7 a (c9 + 1)))), (5, .int (nI (a + (c9 + 1))))] from by rw [← e_5, ← e_6]; exact lv_sub hl [2, 3, 4, 5, 1, 0] rfl)
  have e_7 : ((nI (FL wd qf 8 a)) : Int32) = (nI (s_tm wd qf 7 a 0)) := by rfl
  have e_8 : ((nI (a)) : Int32) = (nI (a + 0)) := by rfl
  exact loop_22 (8 - (a + 0) + 1) 0 (by omega) (by omega) _ (show lv_has ls 6 [(0, .ref (ax 12)), (1, .ref (ax 13)), (2, .int (nI (7))), (3, .int (nI (a))), (4, .int (nI (s_tm wd qf 7 a 0))), (5, .int (nI (a + 0)))] from by rw [← e_7, ← e_8]; exact lv_sub hl [2, 3, 4, 5, 1, 0] rfl)
set_option maxHeartbeats 4000000 in
set_option maxRecDepth 100000 in
theorem kX0_tryFrom_6 (l : Launch) (D : va_G) (cI cZ cA : ClassId) (ax : Nat → Nat) (wd : Nat → Option Nat) (qf : Nat → Option Nat) (T : Nat → Nat → Nat) (a : Nat) (hBD : BD wd qf) (h_a : a ≤ 8) : Met l yX0_tryFrom wsX0_tryFrom ({ frames := 2, cells := 0, slots := 0, locals := 50 }) (PcR D [(cI, .int), (cZ, .boolean), (cA, .array .int)] (wA cI cA ax wd qf T) [.ref (ax 12), .ref (ax 13), .int (nI (6)), .int (nI (a))]) (vp_Si (fun r => r = (nI (FL wd qf 6 a)))) 0 0 (fun _ => False) := by
  refine Met.ofW (cc := cX0_tryFrom) (maxL := 6) (ret := (some .int)) (by decide) rfl ?_
  intro p e s m args below meth c s₁ BL hml hv
  obtain ⟨rfl, hP, hK⟩ := hv
  have hx := BL.exec
  have hb := BL.bytes
  have hr := BL.returns
  have hts := atoms_spec (ws := wsX0_tryFrom) BL.pre
  have hown : s.vm.findClass RX0 = some m.cls := findClass_of_methodNamed BL.named
  have hlocks := BL.notSynchronized
  have hmi := hts (.initialized "java/lang/Math") (by decide +kernel)
  have hms_max := hts (.static Lib.Math.max.name) (by decide +kernel)
  have hmc_max := hts (.code Lib.Math.max.name Lib.Math.max.code 2 (some .int)) (by decide +kernel)
  have hm_31 := hts (.methodLink RX0 31 Lib.Math.max.name) (by decide +kernel)
  have hl := lv_entry ([.ref (ax 12), .ref (ax 13), .int (nI (6)), .int (nI (a))]) (n := 6) (Nat.le_of_ble_eq_true rfl)
  rw [lg_entry_eq]
  generalize (lg_sl ([.ref (ax 12), .ref (ax 13), .int (nI (6)), .int (nI (a))]) ++ List.replicate (6 - (lg_sl ([.ref (ax 12), .ref (ax 13), .int (nI (6)), .int (nI (a))])).length) Slot.unset).toArray = ls at hl ⊢
  have hl : lv_has ls 6 [(0, .ref (ax 12)), (1, .ref (ax 13)), (2, .int (nI (6))), (3, .int (nI (a)))] := hl
  refine lv_iload_n hx hb dX0_tryFrom_0 rfl (lv_at hl 2 rfl) ?_
  refine lv_bipush (v := (nI (8))) hx hb dX0_tryFrom_1 (by decide +kernel) ?_
  refine n_lt (tgt := 8) hx hb (by omega) (by omega) dX0_tryFrom_3 (by decide) (fun _ => ?_) (fun q => absurd q (by decide))
  refine lv_aload_n hx hb dX0_tryFrom_8 rfl (lv_at hl 0 rfl) ?_
  refine lv_aload_n hx hb dX0_tryFrom_9 rfl (lv_at hl 1 rfl) ?_
  refine lv_iload_n hx hb dX0_tryFrom_10 rfl (lv_at hl 2 rfl) ?_
  refine lv_iconst (v := (nI (1))) hx hb dX0_tryFrom_11 (by decide +kernel) ?_
  refine lv_iadd hx hb dX0_tryFrom_12 ?_
  refine n_top (y := (nI (7))) (nI_add _ _) ?_
  refine lv_iload_n hx hb dX0_tryFrom_13 rfl (lv_at hl 3 rfl) ?_
  refine ro2_S (As := [.ref (ax 12), .ref (ax 13), .int (nI (7)), .int (nI (a))]) (v := (nI (FL wd qf 7 a))) ⟨hx, hb, hml, hown, hts⟩ (kX0_tryFrom_7 l D cI cZ cA ax wd qf T a hBD h_a) (va_cwS 4 hts gX0_tryFrom_X0_tryFrom rfl rfl rfl hsX0_tryFrom ⟨Nat.le_of_ble_eq_true rfl, Nat.le_of_ble_eq_true rfl⟩) (preSR hK hP) rfl hl.1 rfl (Nat.le_of_ble_eq_true rfl) dX0_tryFrom_14 ⟨Nat.zero_le _, Nat.zero_le _⟩ ?_
  refine lv_istore (lv' := [(4, .int (nI (FL wd qf 7 a))), (0, .ref (ax 12)), (1, .ref (ax 13)), (2, .int (nI (6))), (3, .int (nI (a)))]) hx hb dX0_tryFrom_17 hl (by decide) rfl (fun ls hl => ?_)
  refine lv_iload_n hx hb dX0_tryFrom_19 rfl (lv_at hl 4 rfl) ?_
  refine lv_istore (lv' := [(5, .int (nI (a))), (4, .int (nI (FL wd qf 7 a))), (0, .ref (ax 12)), (1, .ref (ax 13)), (2, .int (nI (6))), (3, .int (nI (a)))]) hx hb dX0_tryFrom_20 hl (by decide) rfl (fun ls hl => ?_)
  have loop_22 : ∀ (N : Nat) (c9 : Nat), 8 - (a + c9) < N → (a + c9 ≤ 8) → ∀ (ls : Array Slot), lv_has ls 6 [(0, .ref (ax 12)), (1, .ref (ax 13)), (2, .int (nI (6))), (3, .int (nI (a))), (4, .int (nI (s_tm wd qf 6 a c9))), (5, .int (nI (a + c9)))] → W p l e (headSpec wsX0_tryFrom ({ frames := 2, cells := 0, slots := 0, locals := 50 })).room s m ([.ref (ax 12), .ref (ax 13), .int (nI (6)), .int (nI (a))] : List Value).toArray below meth c s.heap [] 0 0 (MQ below (vp_Si (fun r => r = (nI (FL wd qf 6 a)))) ([.ref (ax 12), .ref (ax 13), .int (nI (6)), .int (nI (a))] : List Value).toArray s 0 0 (fun _ => False)) (F0 m 22 ls []) := by
    intro N
    induction N with
    | zero => intro c9 hmu; exact absurd hmu (Nat.not_lt_zero _)
    | succ N ih_22 =>
      intro c9 hmu_22 h_z ls hl
      refine lv_iload hx hb dX0_tryFrom_22 (lv_at hl 5 rfl) ?_
      refine lv_bipush (v := (nI (8))) hx hb dX0_tryFrom_24 (by decide +kernel) ?_
      refine n_ge (tgt := 66) hx hb (by omega) (by omega) dX0_tryFrom_26 (by decide) (fun c_1 => ?_) (fun c_1 => ?_)
      · refine lv_iload hx hb dX0_tryFrom_66 (lv_at hl 4 rfl) ?_
        exact W.iret (v := (nI (s_tm wd qf 6 a c9))) hx hb hr (fun t ht hW => ⟨_, rfl, by exact congrArg nI (s_tm_x (by decide) h_a c_1 h_z), ht⟩) (fun _ h => nomatch h) dX0_tryFrom_68
      refine lv_aload_n hx hb dX0_tryFrom_29 rfl (lv_at hl 0 rfl) ?_
      refine lv_iload_n hx hb dX0_tryFrom_30 rfl (lv_at hl 2 rfl) ?_
      refine n_iald hx hb hK hP 1 0 rfl rfl (i := 6) (by omega) (by decide) dX0_tryFrom_31 ?_
      refine lv_aload_n hx hb dX0_tryFrom_32 rfl (lv_at hl 1 rfl) ?_
      refine lv_iload hx hb dX0_tryFrom_33 (lv_at hl 5 rfl) ?_
      refine n_iald hx hb hK hP 2 0 rfl rfl (i := a + c9) (by omega) (by decide) dX0_tryFrom_35 ?_
      refine oq_ne (wd := wd) (qf := qf) (i := 6) (j := (a + c9)) (tgt := 60) hx hb hBD (by omega) (by omega) dX0_tryFrom_36 (by decide) (fun c_2 => ?_) (fun c_2 => ?_)
      · refine lv_iinc (v := (nI (a + c9 + 1))) (lv' := [(5, .int (nI (a + c9 + 1))), (0, .ref (ax 12)), (1, .ref (ax 13)), (2, .int (nI (6))), (3, .int (nI (a))), (4, .int (nI (s_tm wd qf 6 a c9)))]) hx hb dX0_tryFrom_60 hl (k := 5) rfl (nI_1 _) (by decide) rfl (fun ls hl => ?_)
        refine lv_goto (tgt := 22) hx hb dX0_tryFrom_63 (by decide) ?_
        have e_3 : ((nI (s_tm wd qf 6 a c9)) : Int32) = (nI (s_tm wd qf 6 a (c9 + 1))) := by first | exact congrArg nI (s_tm_t c_2).symm | exact congrArg nI (s_tm_f c_2).symm | exact congrArg nI (by rw [s_tm_f c_2]) | rfl
        have e_4 : ((nI (a + c9 + 1)) : Int32) = (nI (a + (c9 + 1))) := by first | exact congrArg nI (s_tm_t c_2).symm | exact congrArg nI (s_tm_f c_2).symm | exact congrArg nI (by rw [s_tm_f c_2]) | rfl
        exact ih_22 (c9 + 1) (by omega) (by omega) _ (show lv_has ls 6 [(0, .ref (ax 12)), (1, .ref (ax 13)), (2, .int (nI (6))), (3, .int (nI (a))), (4, .int (nI (s_tm wd qf 6 a (c9 + 1)))), (5, .int (nI (a + (c9 + 1))))] from by rw [← e_3, ← e_4]; exact lv_sub hl [1, 2, 3, 4, 5, 0] rfl)
      have hF1 := FL_le wd qf 7 (a + c9 + 1)
      have hF2 := s_tm_b (wd := wd) (qf := qf) (i := 6) (a := a) c9
      refine lv_iload hx hb dX0_tryFrom_39 (lv_at hl 4 rfl) ?_
      refine lv_iconst (v := (nI (1))) hx hb dX0_tryFrom_41 (by decide +kernel) ?_
      refine lv_aload_n hx hb dX0_tryFrom_42 rfl (lv_at hl 0 rfl) ?_
      refine lv_aload_n hx hb dX0_tryFrom_43 rfl (lv_at hl 1 rfl) ?_
      refine lv_iload_n hx hb dX0_tryFrom_44 rfl (lv_at hl 2 rfl) ?_
      refine lv_iconst (v := (nI (1))) hx hb dX0_tryFrom_45 (by decide +kernel) ?_
      refine lv_iadd hx hb dX0_tryFrom_46 ?_
      refine n_top (y := (nI (7))) (nI_add _ _) ?_
      refine lv_iload hx hb dX0_tryFrom_47 (lv_at hl 5 rfl) ?_
      refine lv_iconst (v := (nI (1))) hx hb dX0_tryFrom_49 (by decide +kernel) ?_
      refine lv_iadd hx hb dX0_tryFrom_50 ?_
      refine n_top (y := (nI (a + c9 + 1))) (nI_add _ _) ?_
      refine ro2_S (As := [.ref (ax 12), .ref (ax 13), .int (nI (7)), .int (nI (a + c9 + 1))]) (v := (nI (FL wd qf 7 (a + c9 + 1)))) ⟨hx, hb, hml, hown, hts⟩ (kX0_tryFrom_7 l D cI cZ cA ax wd qf T (a + c9 + 1) hBD (by omega)) (va_cwS 4 hts gX0_tryFrom_X0_tryFrom rfl rfl rfl hsX0_tryFrom ⟨Nat.le_of_ble_eq_true rfl, Nat.le_of_ble_eq_true rfl⟩) (preSR hK hP) rfl hl.1 rfl (Nat.le_of_ble_eq_true rfl) dX0_tryFrom_51 ⟨Nat.zero_le _, Nat.zero_le _⟩ ?_
      refine lv_iadd hx hb dX0_tryFrom_54 ?_
      refine n_top (y := (nI (1 + (FL wd qf 7 (a + c9 + 1))))) (nI_add _ _) ?_
      refine va_mmax hx hb (hml.trans hl.1.symm) hown hm_31 hms_max hmi hmc_max (Nat.le_of_ble_eq_true rfl) (Nat.le_of_ble_eq_true rfl) (Nat.zero_le _) (Nat.zero_le _) dX0_tryFrom_55 ?_
      refine n_top (y := (nI (if (s_tm wd qf 6 a c9) < (1 + (FL wd qf 7 (a + c9 + 1))) then (1 + (FL wd qf 7 (a + c9 + 1))) else (s_tm wd qf 6 a c9)))) (n_max (by omega) (by omega)) ?_
      refine lv_istore (lv' := [(4, .int (nI (if (s_tm wd qf 6 a c9) < (1 + (FL wd qf 7 (a + c9 + 1))) then (1 + (FL wd qf 7 (a + c9 + 1))) else (s_tm wd qf 6 a c9)))), (0, .ref (ax 12)), (1, .ref (ax 13)), (2, .int (nI (6))), (3, .int (nI (a))), (5, .int (nI (a + c9)))]) hx hb dX0_tryFrom_58 hl (by decide) rfl (fun ls hl => ?_)
      refine lv_iinc (v := (nI (a + c9 + 1))) (lv' := [(5, .int (nI (a + c9 + 1))), (4, .int (nI (if (s_tm wd qf 6 a c9) < (1 + (FL wd qf 7 (a + c9 + 1))) then (1 + (FL wd qf 7 (a + c9 + 1))) else (s_tm wd qf 6 a c9)))), (0, .ref (ax 12)), (1, .ref (ax 13)), (2, .int (nI (6))), (3, .int (nI (a)))]) hx hb dX0_tryFrom_60 hl (k := 5) rfl (nI_1 _) (by decide) rfl (fun ls hl => ?_)
      refine lv_goto (tgt := 22) hx hb dX0_tryFrom_63 (by decide) ?_
      have e_5 : ((nI (if (s_tm wd qf 6 a c9) < (1 + (FL wd qf 7 (a + c9 + 1))) then (1 + (FL wd qf 7 (a + c9 + 1))) else (s_tm wd qf 6 a c9))) : Int32) = (nI (s_tm wd qf 6 a (c9 + 1))) := by first | exact congrArg nI (s_tm_t c_2).symm | exact congrArg nI (s_tm_f c_2).symm | exact congrArg nI (by rw [s_tm_f c_2]) | rfl
      have e_6 : ((nI (a + c9 + 1)) : Int32) = (nI (a + (c9 + 1))) := by first | exact congrArg nI (s_tm_t c_2).symm | exact congrArg nI (s_tm_f c_2).symm | exact congrArg nI (by rw [s_tm_f c_2]) | rfl
      exact ih_22 (c9 + 1) (by omega) (by omega) _ (show lv_has ls 6 [(0, .ref (ax 12)), (1, .ref (ax 13)), (2, .int (nI (6))), (3, .int (nI (a))), (4, .int (nI (s_tm wd qf 6 a (c9 + 1)))), (5, .int (nI (a + (c9 + 1))))] from by rw [← e_5, ← e_6]; exact lv_sub hl [2, 3, 4, 5, 1, 0] rfl)
  have e_7 : ((nI (FL wd qf 7 a)) : Int32) = (nI (s_tm wd qf 6 a 0)) := by rfl
  have e_8 : ((nI (a)) : Int32) = (nI (a + 0)) := by rfl
  exact loop_22 (8 - (a + 0) + 1) 0 (by omega) (by omega) _ (show lv_has ls 6 [(0, .ref (ax 12)), (1, .ref (ax 13)), (2, .int (nI (6))), (3, .int (nI (a))), (4, .int (nI (s_tm wd qf 6 a 0))), (5, .int (nI (a + 0)))] from by rw [← e_7, ← e_8]; exact lv_sub hl [2, 3, 4, 5, 1, 0] rfl)
set_option maxHeartbeats 4000000 in
set_option maxRecDepth 100000 in
theorem kX0_tryFrom_5 (l : Launch) (D : va_G) (cI cZ cA : ClassId) (ax : Nat → Nat) (wd : Nat → Option Nat) (qf : Nat → Option Nat) (T : Nat → Nat → Nat) (a : Nat) (hBD : BD wd qf) (h_a : a ≤ 8) : Met l yX0_tryFrom wsX0_tryFrom ({ frames := 3, cells := 0, slots := 0, locals := 75 }) (PcR D [(cI, .int), (cZ, .boolean), (cA, .array .int)] (wA cI cA ax wd qf T) [.ref (ax 12), .ref (ax 13), .int (nI (5)), .int (nI (a))]) (vp_Si (fun r => r = (nI (FL wd qf 5 a)))) 0 0 (fun _ => False) := by
  refine Met.ofW (cc := cX0_tryFrom) (maxL := 6) (ret := (some .int)) (by decide) rfl ?_
  intro p e s m args below meth c s₁ BL hml hv
  obtain ⟨rfl, hP, hK⟩ := hv
  have hx := BL.exec
  have hb := BL.bytes
  have hr := BL.returns
  have hts := atoms_spec (ws := wsX0_tryFrom) BL.pre
  have hown : s.vm.findClass RX0 = some m.cls := findClass_of_methodNamed BL.named
  have hlocks := BL.notSynchronized
  have hmi := hts (.initialized "java/lang/Math") (by decide +kernel)
  have hms_max := hts (.static Lib.Math.max.name) (by decide +kernel)
  have hmc_max := hts (.code Lib.Math.max.name Lib.Math.max.code 2 (some .int)) (by decide +kernel)
  have hm_31 := hts (.methodLink RX0 31 Lib.Math.max.name) (by decide +kernel)
  have hl := lv_entry ([.ref (ax 12), .ref (ax 13), .int (nI (5)), .int (nI (a))]) (n := 6) (Nat.le_of_ble_eq_true rfl)
  rw [lg_entry_eq]
  generalize (lg_sl ([.ref (ax 12), .ref (ax 13), .int (nI (5)), .int (nI (a))]) ++ List.replicate (6 - (lg_sl ([.ref (ax 12), .ref (ax 13), .int (nI (5)), .int (nI (a))])).length) Slot.unset).toArray = ls at hl ⊢
  have hl : lv_has ls 6 [(0, .ref (ax 12)), (1, .ref (ax 13)), (2, .int (nI (5))), (3, .int (nI (a)))] := hl
  refine lv_iload_n hx hb dX0_tryFrom_0 rfl (lv_at hl 2 rfl) ?_
  refine lv_bipush (v := (nI (8))) hx hb dX0_tryFrom_1 (by decide +kernel) ?_
  refine n_lt (tgt := 8) hx hb (by omega) (by omega) dX0_tryFrom_3 (by decide) (fun _ => ?_) (fun q => absurd q (by decide))
  refine lv_aload_n hx hb dX0_tryFrom_8 rfl (lv_at hl 0 rfl) ?_
  refine lv_aload_n hx hb dX0_tryFrom_9 rfl (lv_at hl 1 rfl) ?_
  refine lv_iload_n hx hb dX0_tryFrom_10 rfl (lv_at hl 2 rfl) ?_
  refine lv_iconst (v := (nI (1))) hx hb dX0_tryFrom_11 (by decide +kernel) ?_
  refine lv_iadd hx hb dX0_tryFrom_12 ?_
  refine n_top (y := (nI (6))) (nI_add _ _) ?_
  refine lv_iload_n hx hb dX0_tryFrom_13 rfl (lv_at hl 3 rfl) ?_
  refine ro2_S (As := [.ref (ax 12), .ref (ax 13), .int (nI (6)), .int (nI (a))]) (v := (nI (FL wd qf 6 a))) ⟨hx, hb, hml, hown, hts⟩ (kX0_tryFrom_6 l D cI cZ cA ax wd qf T a hBD h_a) (va_cwS 4 hts gX0_tryFrom_X0_tryFrom rfl rfl rfl hsX0_tryFrom ⟨Nat.le_of_ble_eq_true rfl, Nat.le_of_ble_eq_true rfl⟩) (preSR hK hP) rfl hl.1 rfl (Nat.le_of_ble_eq_true rfl) dX0_tryFrom_14 ⟨Nat.zero_le _, Nat.zero_le _⟩ ?_
  refine lv_istore (lv' := [(4, .int (nI (FL wd qf 6 a))), (0, .ref (ax 12)), (1, .ref (ax 13)), (2, .int (nI (5))), (3, .int (nI (a)))]) hx hb dX0_tryFrom_17 hl (by decide) rfl (fun ls hl => ?_)
  refine lv_iload_n hx hb dX0_tryFrom_19 rfl (lv_at hl 4 rfl) ?_
  refine lv_istore (lv' := [(5, .int (nI (a))), (4, .int (nI (FL wd qf 6 a))), (0, .ref (ax 12)), (1, .ref (ax 13)), (2, .int (nI (5))), (3, .int (nI (a)))]) hx hb dX0_tryFrom_20 hl (by decide) rfl (fun ls hl => ?_)
  have loop_22 : ∀ (N : Nat) (c9 : Nat), 8 - (a + c9) < N → (a + c9 ≤ 8) → ∀ (ls : Array Slot), lv_has ls 6 [(0, .ref (ax 12)), (1, .ref (ax 13)), (2, .int (nI (5))), (3, .int (nI (a))), (4, .int (nI (s_tm wd qf 5 a c9))), (5, .int (nI (a + c9)))] → W p l e (headSpec wsX0_tryFrom ({ frames := 3, cells := 0, slots := 0, locals := 75 })).room s m ([.ref (ax 12), .ref (ax 13), .int (nI (5)), .int (nI (a))] : List Value).toArray below meth c s.heap [] 0 0 (MQ below (vp_Si (fun r => r = (nI (FL wd qf 5 a)))) ([.ref (ax 12), .ref (ax 13), .int (nI (5)), .int (nI (a))] : List Value).toArray s 0 0 (fun _ => False)) (F0 m 22 ls []) := by
    intro N
    induction N with
    | zero => intro c9 hmu; exact absurd hmu (Nat.not_lt_zero _)
    | succ N ih_22 =>
      intro c9 hmu_22 h_z ls hl
      refine lv_iload hx hb dX0_tryFrom_22 (lv_at hl 5 rfl) ?_
      refine lv_bipush (v := (nI (8))) hx hb dX0_tryFrom_24 (by decide +kernel) ?_
      refine n_ge (tgt := 66) hx hb (by omega) (by omega) dX0_tryFrom_26 (by decide) (fun c_1 => ?_) (fun c_1 => ?_)
      · refine lv_iload hx hb dX0_tryFrom_66 (lv_at hl 4 rfl) ?_
        exact W.iret (v := (nI (s_tm wd qf 5 a c9))) hx hb hr (fun t ht hW => ⟨_, rfl, by exact congrArg nI (s_tm_x (by decide) h_a c_1 h_z), ht⟩) (fun _ h => nomatch h) dX0_tryFrom_68
      refine lv_aload_n hx hb dX0_tryFrom_29 rfl (lv_at hl 0 rfl) ?_
      refine lv_iload_n hx hb dX0_tryFrom_30 rfl (lv_at hl 2 rfl) ?_
      refine n_iald hx hb hK hP 1 0 rfl rfl (i := 5) (by omega) (by decide) dX0_tryFrom_31 ?_
      refine lv_aload_n hx hb dX0_tryFrom_32 rfl (lv_at hl 1 rfl) ?_
      refine lv_iload hx hb dX0_tryFrom_33 (lv_at hl 5 rfl) ?_
      refine n_iald hx hb hK hP 2 0 rfl rfl (i := a + c9) (by omega) (by decide) dX0_tryFrom_35 ?_
      refine oq_ne (wd := wd) (qf := qf) (i := 5) (j := (a + c9)) (tgt := 60) hx hb hBD (by omega) (by omega) dX0_tryFrom_36 (by decide) (fun c_2 => ?_) (fun c_2 => ?_)
      · refine lv_iinc (v := (nI (a + c9 + 1))) (lv' := [(5, .int (nI (a + c9 + 1))), (0, .ref (ax 12)), (1, .ref (ax 13)), (2, .int (nI (5))), (3, .int (nI (a))), (4, .int (nI (s_tm wd qf 5 a c9)))]) hx hb dX0_tryFrom_60 hl (k := 5) rfl (nI_1 _) (by decide) rfl (fun ls hl => ?_)
        refine lv_goto (tgt := 22) hx hb dX0_tryFrom_63 (by decide) ?_
        have e_3 : ((nI (s_tm wd qf 5 a c9)) : Int32) = (nI (s_tm wd qf 5 a (c9 + 1))) := by first | exact congrArg nI (s_tm_t c_2).symm | exact congrArg nI (s_tm_f c_2).symm | exact congrArg nI (by rw [s_tm_f c_2]) | rfl
        have e_4 : ((nI (a + c9 + 1)) : Int32) = (nI (a + (c9 + 1))) := by first | exact congrArg nI (s_tm_t c_2).symm | exact congrArg nI (s_tm_f c_2).symm | exact congrArg nI (by rw [s_tm_f c_2]) | rfl
        exact ih_22 (c9 + 1) (by omega) (by omega) _ (show lv_has ls 6 [(0, .ref (ax 12)), (1, .ref (ax 13)), (2, .int (nI (5))), (3, .int (nI (a))), (4, .int (nI (s_tm wd qf 5 a (c9 + 1)))), (5, .int (nI (a + (c9 + 1))))] from by rw [← e_3, ← e_4]; exact lv_sub hl [1, 2, 3, 4, 5, 0] rfl)
      have hF1 := FL_le wd qf 6 (a + c9 + 1)
      have hF2 := s_tm_b (wd := wd) (qf := qf) (i := 5) (a := a) c9
      refine lv_iload hx hb dX0_tryFrom_39 (lv_at hl 4 rfl) ?_
      refine lv_iconst (v := (nI (1))) hx hb dX0_tryFrom_41 (by decide +kernel) ?_
      refine lv_aload_n hx hb dX0_tryFrom_42 rfl (lv_at hl 0 rfl) ?_
      refine lv_aload_n hx hb dX0_tryFrom_43 rfl (lv_at hl 1 rfl) ?_
      refine lv_iload_n hx hb dX0_tryFrom_44 rfl (lv_at hl 2 rfl) ?_
      refine lv_iconst (v := (nI (1))) hx hb dX0_tryFrom_45 (by decide +kernel) ?_
      refine lv_iadd hx hb dX0_tryFrom_46 ?_
      refine n_top (y := (nI (6))) (nI_add _ _) ?_
      refine lv_iload hx hb dX0_tryFrom_47 (lv_at hl 5 rfl) ?_
      refine lv_iconst (v := (nI (1))) hx hb dX0_tryFrom_49 (by decide +kernel) ?_
      refine lv_iadd hx hb dX0_tryFrom_50 ?_
      refine n_top (y := (nI (a + c9 + 1))) (nI_add _ _) ?_
      refine ro2_S (As := [.ref (ax 12), .ref (ax 13), .int (nI (6)), .int (nI (a + c9 + 1))]) (v := (nI (FL wd qf 6 (a + c9 + 1)))) ⟨hx, hb, hml, hown, hts⟩ (kX0_tryFrom_6 l D cI cZ cA ax wd qf T (a + c9 + 1) hBD (by omega)) (va_cwS 4 hts gX0_tryFrom_X0_tryFrom rfl rfl rfl hsX0_tryFrom ⟨Nat.le_of_ble_eq_true rfl, Nat.le_of_ble_eq_true rfl⟩) (preSR hK hP) rfl hl.1 rfl (Nat.le_of_ble_eq_true rfl) dX0_tryFrom_51 ⟨Nat.zero_le _, Nat.zero_le _⟩ ?_
      refine lv_iadd hx hb dX0_tryFrom_54 ?_
      refine n_top (y := (nI (1 + (FL wd qf 6 (a + c9 + 1))))) (nI_add _ _) ?_
      refine va_mmax hx hb (hml.trans hl.1.symm) hown hm_31 hms_max hmi hmc_max (Nat.le_of_ble_eq_true rfl) (Nat.le_of_ble_eq_true rfl) (Nat.zero_le _) (Nat.zero_le _) dX0_tryFrom_55 ?_
      refine n_top (y := (nI (if (s_tm wd qf 5 a c9) < (1 + (FL wd qf 6 (a + c9 + 1))) then (1 + (FL wd qf 6 (a + c9 + 1))) else (s_tm wd qf 5 a c9)))) (n_max (by omega) (by omega)) ?_
      refine lv_istore (lv' := [(4, .int (nI (if (s_tm wd qf 5 a c9) < (1 + (FL wd qf 6 (a + c9 + 1))) then (1 + (FL wd qf 6 (a + c9 + 1))) else (s_tm wd qf 5 a c9)))), (0, .ref (ax 12)), (1, .ref (ax 13)), (2, .int (nI (5))), (3, .int (nI (a))), (5, .int (nI (a + c9)))]) hx hb dX0_tryFrom_58 hl (by decide) rfl (fun ls hl => ?_)
      refine lv_iinc (v := (nI (a + c9 + 1))) (lv' := [(5, .int (nI (a + c9 + 1))), (4, .int (nI (if (s_tm wd qf 5 a c9) < (1 + (FL wd qf 6 (a + c9 + 1))) then (1 + (FL wd qf 6 (a + c9 + 1))) else (s_tm wd qf 5 a c9)))), (0, .ref (ax 12)), (1, .ref (ax 13)), (2, .int (nI (5))), (3, .int (nI (a)))]) hx hb dX0_tryFrom_60 hl (k := 5) rfl (nI_1 _) (by decide) rfl (fun ls hl => ?_)
      refine lv_goto (tgt := 22) hx hb dX0_tryFrom_63 (by decide) ?_
      have e_5 : ((nI (if (s_tm wd qf 5 a c9) < (1 + (FL wd qf 6 (a + c9 + 1))) then (1 + (FL wd qf 6 (a + c9 + 1))) else (s_tm wd qf 5 a c9))) : Int32) = (nI (s_tm wd qf 5 a (c9 + 1))) := by first | exact congrArg nI (s_tm_t c_2).symm | exact congrArg nI (s_tm_f c_2).symm | exact congrArg nI (by rw [s_tm_f c_2]) | rfl
      have e_6 : ((nI (a + c9 + 1)) : Int32) = (nI (a + (c9 + 1))) := by first | exact congrArg nI (s_tm_t c_2).symm | exact congrArg nI (s_tm_f c_2).symm | exact congrArg nI (by rw [s_tm_f c_2]) | rfl
      exact ih_22 (c9 + 1) (by omega) (by omega) _ (show lv_has ls 6 [(0, .ref (ax 12)), (1, .ref (ax 13)), (2, .int (nI (5))), (3, .int (nI (a))), (4, .int (nI (s_tm wd qf 5 a (c9 + 1)))), (5, .int (nI (a + (c9 + 1))))] from by rw [← e_5, ← e_6]; exact lv_sub hl [2, 3, 4, 5, 1, 0] rfl)
  have e_7 : ((nI (FL wd qf 6 a)) : Int32) = (nI (s_tm wd qf 5 a 0)) := by rfl
  have e_8 : ((nI (a)) : Int32) = (nI (a + 0)) := by rfl
  exact loop_22 (8 - (a + 0) + 1) 0 (by omega) (by omega) _ (show lv_has ls 6 [(0, .ref (ax 12)), (1, .ref (ax 13)), (2, .int (nI (5))), (3, .int (nI (a))), (4, .int (nI (s_tm wd qf 5 a 0))), (5, .int (nI (a + 0)))] from by rw [← e_7, ← e_8]; exact lv_sub hl [2, 3, 4, 5, 1, 0] rfl)
set_option maxHeartbeats 4000000 in
set_option maxRecDepth 100000 in
theorem kX0_tryFrom_4 (l : Launch) (D : va_G) (cI cZ cA : ClassId) (ax : Nat → Nat) (wd : Nat → Option Nat) (qf : Nat → Option Nat) (T : Nat → Nat → Nat) (a : Nat) (hBD : BD wd qf) (h_a : a ≤ 8) : Met l yX0_tryFrom wsX0_tryFrom ({ frames := 4, cells := 0, slots := 0, locals := 100 }) (PcR D [(cI, .int), (cZ, .boolean), (cA, .array .int)] (wA cI cA ax wd qf T) [.ref (ax 12), .ref (ax 13), .int (nI (4)), .int (nI (a))]) (vp_Si (fun r => r = (nI (FL wd qf 4 a)))) 0 0 (fun _ => False) := by
  refine Met.ofW (cc := cX0_tryFrom) (maxL := 6) (ret := (some .int)) (by decide) rfl ?_
  intro p e s m args below meth c s₁ BL hml hv
  obtain ⟨rfl, hP, hK⟩ := hv
  have hx := BL.exec
  have hb := BL.bytes
  have hr := BL.returns
  have hts := atoms_spec (ws := wsX0_tryFrom) BL.pre
  have hown : s.vm.findClass RX0 = some m.cls := findClass_of_methodNamed BL.named
  have hlocks := BL.notSynchronized
  have hmi := hts (.initialized "java/lang/Math") (by decide +kernel)
  have hms_max := hts (.static Lib.Math.max.name) (by decide +kernel)
  have hmc_max := hts (.code Lib.Math.max.name Lib.Math.max.code 2 (some .int)) (by decide +kernel)
  have hm_31 := hts (.methodLink RX0 31 Lib.Math.max.name) (by decide +kernel)
  have hl := lv_entry ([.ref (ax 12), .ref (ax 13), .int (nI (4)), .int (nI (a))]) (n := 6) (Nat.le_of_ble_eq_true rfl)
  rw [lg_entry_eq]
  generalize (lg_sl ([.ref (ax 12), .ref (ax 13), .int (nI (4)), .int (nI (a))]) ++ List.replicate (6 - (lg_sl ([.ref (ax 12), .ref (ax 13), .int (nI (4)), .int (nI (a))])).length) Slot.unset).toArray = ls at hl ⊢
  have hl : lv_has ls 6 [(0, .ref (ax 12)), (1, .ref (ax 13)), (2, .int (nI (4))), (3, .int (nI (a)))] := hl
  refine lv_iload_n hx hb dX0_tryFrom_0 rfl (lv_at hl 2 rfl) ?_
  refine lv_bipush (v := (nI (8))) hx hb dX0_tryFrom_1 (by decide +kernel) ?_
  refine n_lt (tgt := 8) hx hb (by omega) (by omega) dX0_tryFrom_3 (by decide) (fun _ => ?_) (fun q => absurd q (by decide))
  refine lv_aload_n hx hb dX0_tryFrom_8 rfl (lv_at hl 0 rfl) ?_
  refine lv_aload_n hx hb dX0_tryFrom_9 rfl (lv_at hl 1 rfl) ?_
  refine lv_iload_n hx hb dX0_tryFrom_10 rfl (lv_at hl 2 rfl) ?_
  refine lv_iconst (v := (nI (1))) hx hb dX0_tryFrom_11 (by decide +kernel) ?_
  refine lv_iadd hx hb dX0_tryFrom_12 ?_
  refine n_top (y := (nI (5))) (nI_add _ _) ?_
  refine lv_iload_n hx hb dX0_tryFrom_13 rfl (lv_at hl 3 rfl) ?_
  refine ro2_S (As := [.ref (ax 12), .ref (ax 13), .int (nI (5)), .int (nI (a))]) (v := (nI (FL wd qf 5 a))) ⟨hx, hb, hml, hown, hts⟩ (kX0_tryFrom_5 l D cI cZ cA ax wd qf T a hBD h_a) (va_cwS 4 hts gX0_tryFrom_X0_tryFrom rfl rfl rfl hsX0_tryFrom ⟨Nat.le_of_ble_eq_true rfl, Nat.le_of_ble_eq_true rfl⟩) (preSR hK hP) rfl hl.1 rfl (Nat.le_of_ble_eq_true rfl) dX0_tryFrom_14 ⟨Nat.zero_le _, Nat.zero_le _⟩ ?_
  refine lv_istore (lv' := [(4, .int (nI (FL wd qf 5 a))), (0, .ref (ax 12)), (1, .ref (ax 13)), (2, .int (nI (4))), (3, .int (nI (a)))]) hx hb dX0_tryFrom_17 hl (by decide) rfl (fun ls hl => ?_)
  refine lv_iload_n hx hb dX0_tryFrom_19 rfl (lv_at hl 4 rfl) ?_
  refine lv_istore (lv' := [(5, .int (nI (a))), (4, .int (nI (FL wd qf 5 a))), (0, .ref (ax 12)), (1, .ref (ax 13)), (2, .int (nI (4))), (3, .int (nI (a)))]) hx hb dX0_tryFrom_20 hl (by decide) rfl (fun ls hl => ?_)
  have loop_22 : ∀ (N : Nat) (c9 : Nat), 8 - (a + c9) < N → (a + c9 ≤ 8) → ∀ (ls : Array Slot), lv_has ls 6 [(0, .ref (ax 12)), (1, .ref (ax 13)), (2, .int (nI (4))), (3, .int (nI (a))), (4, .int (nI (s_tm wd qf 4 a c9))), (5, .int (nI (a + c9)))] → W p l e (headSpec wsX0_tryFrom ({ frames := 4, cells := 0, slots := 0, locals := 100 })).room s m ([.ref (ax 12), .ref (ax 13), .int (nI (4)), .int (nI (a))] : List Value).toArray below meth c s.heap [] 0 0 (MQ below (vp_Si (fun r => r = (nI (FL wd qf 4 a)))) ([.ref (ax 12), .ref (ax 13), .int (nI (4)), .int (nI (a))] : List Value).toArray s 0 0 (fun _ => False)) (F0 m 22 ls []) := by
    intro N
    induction N with
    | zero => intro c9 hmu; exact absurd hmu (Nat.not_lt_zero _)
    | succ N ih_22 =>
      intro c9 hmu_22 h_z ls hl
      refine lv_iload hx hb dX0_tryFrom_22 (lv_at hl 5 rfl) ?_
      refine lv_bipush (v := (nI (8))) hx hb dX0_tryFrom_24 (by decide +kernel) ?_
      refine n_ge (tgt := 66) hx hb (by omega) (by omega) dX0_tryFrom_26 (by decide) (fun c_1 => ?_) (fun c_1 => ?_)
      · refine lv_iload hx hb dX0_tryFrom_66 (lv_at hl 4 rfl) ?_
        exact W.iret (v := (nI (s_tm wd qf 4 a c9))) hx hb hr (fun t ht hW => ⟨_, rfl, by exact congrArg nI (s_tm_x (by decide) h_a c_1 h_z), ht⟩) (fun _ h => nomatch h) dX0_tryFrom_68
      refine lv_aload_n hx hb dX0_tryFrom_29 rfl (lv_at hl 0 rfl) ?_
      refine lv_iload_n hx hb dX0_tryFrom_30 rfl (lv_at hl 2 rfl) ?_
      refine n_iald hx hb hK hP 1 0 rfl rfl (i := 4) (by omega) (by decide) dX0_tryFrom_31 ?_
      refine lv_aload_n hx hb dX0_tryFrom_32 rfl (lv_at hl 1 rfl) ?_
      refine lv_iload hx hb dX0_tryFrom_33 (lv_at hl 5 rfl) ?_
      refine n_iald hx hb hK hP 2 0 rfl rfl (i := a + c9) (by omega) (by decide) dX0_tryFrom_35 ?_
      refine oq_ne (wd := wd) (qf := qf) (i := 4) (j := (a + c9)) (tgt := 60) hx hb hBD (by omega) (by omega) dX0_tryFrom_36 (by decide) (fun c_2 => ?_) (fun c_2 => ?_)
      · refine lv_iinc (v := (nI (a + c9 + 1))) (lv' := [(5, .int (nI (a + c9 + 1))), (0, .ref (ax 12)), (1, .ref (ax 13)), (2, .int (nI (4))), (3, .int (nI (a))), (4, .int (nI (s_tm wd qf 4 a c9)))]) hx hb dX0_tryFrom_60 hl (k := 5) rfl (nI_1 _) (by decide) rfl (fun ls hl => ?_)
        refine lv_goto (tgt := 22) hx hb dX0_tryFrom_63 (by decide) ?_
        have e_3 : ((nI (s_tm wd qf 4 a c9)) : Int32) = (nI (s_tm wd qf 4 a (c9 + 1))) := by first | exact congrArg nI (s_tm_t c_2).symm | exact congrArg nI (s_tm_f c_2).symm | exact congrArg nI (by rw [s_tm_f c_2]) | rfl
        have e_4 : ((nI (a + c9 + 1)) : Int32) = (nI (a + (c9 + 1))) := by first | exact congrArg nI (s_tm_t c_2).symm | exact congrArg nI (s_tm_f c_2).symm | exact congrArg nI (by rw [s_tm_f c_2]) | rfl
        exact ih_22 (c9 + 1) (by omega) (by omega) _ (show lv_has ls 6 [(0, .ref (ax 12)), (1, .ref (ax 13)), (2, .int (nI (4))), (3, .int (nI (a))), (4, .int (nI (s_tm wd qf 4 a (c9 + 1)))), (5, .int (nI (a + (c9 + 1))))] from by rw [← e_3, ← e_4]; exact lv_sub hl [1, 2, 3, 4, 5, 0] rfl)
      have hF1 := FL_le wd qf 5 (a + c9 + 1)
      have hF2 := s_tm_b (wd := wd) (qf := qf) (i := 4) (a := a) c9
      refine lv_iload hx hb dX0_tryFrom_39 (lv_at hl 4 rfl) ?_
      refine lv_iconst (v := (nI (1))) hx hb dX0_tryFrom_41 (by decide +kernel) ?_
      refine lv_aload_n hx hb dX0_tryFrom_42 rfl (lv_at hl 0 rfl) ?_
      refine lv_aload_n hx hb dX0_tryFrom_43 rfl (lv_at hl 1 rfl) ?_
      refine lv_iload_n hx hb dX0_tryFrom_44 rfl (lv_at hl 2 rfl) ?_
      refine lv_iconst (v := (nI (1))) hx hb dX0_tryFrom_45 (by decide +kernel) ?_
      refine lv_iadd hx hb dX0_tryFrom_46 ?_
      refine n_top (y := (nI (5))) (nI_add _ _) ?_
      refine lv_iload hx hb dX0_tryFrom_47 (lv_at hl 5 rfl) ?_
      refine lv_iconst (v := (nI (1))) hx hb dX0_tryFrom_49 (by decide +kernel) ?_
      refine lv_iadd hx hb dX0_tryFrom_50 ?_
      refine n_top (y := (nI (a + c9 + 1))) (nI_add _ _) ?_
      refine ro2_S (As := [.ref (ax 12), .ref (ax 13), .int (nI (5)), .int (nI (a + c9 + 1))]) (v := (nI (FL wd qf 5 (a + c9 + 1)))) ⟨hx, hb, hml, hown, hts⟩ (kX0_tryFrom_5 l D cI cZ cA ax wd qf T (a + c9 + 1) hBD (by omega)) (va_cwS 4 hts gX0_tryFrom_X0_tryFrom rfl rfl rfl hsX0_tryFrom ⟨Nat.le_of_ble_eq_true rfl, Nat.le_of_ble_eq_true rfl⟩) (preSR hK hP) rfl hl.1 rfl (Nat.le_of_ble_eq_true rfl) dX0_tryFrom_51 ⟨Nat.zero_le _, Nat.zero_le _⟩ ?_
      refine lv_iadd hx hb dX0_tryFrom_54 ?_
      refine n_top (y := (nI (1 + (FL wd qf 5 (a + c9 + 1))))) (nI_add _ _) ?_
      refine va_mmax hx hb (hml.trans hl.1.symm) hown hm_31 hms_max hmi hmc_max (Nat.le_of_ble_eq_true rfl) (Nat.le_of_ble_eq_true rfl) (Nat.zero_le _) (Nat.zero_le _) dX0_tryFrom_55 ?_
      refine n_top (y := (nI (if (s_tm wd qf 4 a c9) < (1 + (FL wd qf 5 (a + c9 + 1))) then (1 + (FL wd qf 5 (a + c9 + 1))) else (s_tm wd qf 4 a c9)))) (n_max (by omega) (by omega)) ?_
      refine lv_istore (lv' := [(4, .int (nI (if (s_tm wd qf 4 a c9) < (1 + (FL wd qf 5 (a + c9 + 1))) then (1 + (FL wd qf 5 (a + c9 + 1))) else (s_tm wd qf 4 a c9)))), (0, .ref (ax 12)), (1, .ref (ax 13)), (2, .int (nI (4))), (3, .int (nI (a))), (5, .int (nI (a + c9)))]) hx hb dX0_tryFrom_58 hl (by decide) rfl (fun ls hl => ?_)
      refine lv_iinc (v := (nI (a + c9 + 1))) (lv' := [(5, .int (nI (a + c9 + 1))), (4, .int (nI (if (s_tm wd qf 4 a c9) < (1 + (FL wd qf 5 (a + c9 + 1))) then (1 + (FL wd qf 5 (a + c9 + 1))) else (s_tm wd qf 4 a c9)))), (0, .ref (ax 12)), (1, .ref (ax 13)), (2, .int (nI (4))), (3, .int (nI (a)))]) hx hb dX0_tryFrom_60 hl (k := 5) rfl (nI_1 _) (by decide) rfl (fun ls hl => ?_)
      refine lv_goto (tgt := 22) hx hb dX0_tryFrom_63 (by decide) ?_
      have e_5 : ((nI (if (s_tm wd qf 4 a c9) < (1 + (FL wd qf 5 (a + c9 + 1))) then (1 + (FL wd qf 5 (a + c9 + 1))) else (s_tm wd qf 4 a c9))) : Int32) = (nI (s_tm wd qf 4 a (c9 + 1))) := by first | exact congrArg nI (s_tm_t c_2).symm | exact congrArg nI (s_tm_f c_2).symm | exact congrArg nI (by rw [s_tm_f c_2]) | rfl
      have e_6 : ((nI (a + c9 + 1)) : Int32) = (nI (a + (c9 + 1))) := by first | exact congrArg nI (s_tm_t c_2).symm | exact congrArg nI (s_tm_f c_2).symm | exact congrArg nI (by rw [s_tm_f c_2]) | rfl
      exact ih_22 (c9 + 1) (by omega) (by omega) _ (show lv_has ls 6 [(0, .ref (ax 12)), (1, .ref (ax 13)), (2, .int (nI (4))), (3, .int (nI (a))), (4, .int (nI (s_tm wd qf 4 a (c9 + 1)))), (5, .int (nI (a + (c9 + 1))))] from by rw [← e_5, ← e_6]; exact lv_sub hl [2, 3, 4, 5, 1, 0] rfl)
  have e_7 : ((nI (FL wd qf 5 a)) : Int32) = (nI (s_tm wd qf 4 a 0)) := by rfl
  have e_8 : ((nI (a)) : Int32) = (nI (a + 0)) := by rfl
  exact loop_22 (8 - (a + 0) + 1) 0 (by omega) (by omega) _ (show lv_has ls 6 [(0, .ref (ax 12)), (1, .ref (ax 13)), (2, .int (nI (4))), (3, .int (nI (a))), (4, .int (nI (s_tm wd qf 4 a 0))), (5, .int (nI (a + 0)))] from by rw [← e_7, ← e_8]; exact lv_sub hl [2, 3, 4, 5, 1, 0] rfl)
set_option maxHeartbeats 4000000 in
set_option maxRecDepth 100000 in
theorem kX0_tryFrom_3 (l : Launch) (D : va_G) (cI cZ cA : ClassId) (ax : Nat → Nat) (wd : Nat → Option Nat) (qf : Nat → Option Nat) (T : Nat → Nat → Nat) (a : Nat) (hBD : BD wd qf) (h_a : a ≤ 8) : Met l yX0_tryFrom wsX0_tryFrom ({ frames := 5, cells := 0, slots := 0, locals := 125 }) (PcR D [(cI, .int), (cZ, .boolean), (cA, .array .int)] (wA cI cA ax wd qf T) [.ref (ax 12), .ref (ax 13), .int (nI (3)), .int (nI (a))]) (vp_Si (fun r => r = (nI (FL wd qf 3 a)))) 0 0 (fun _ => False) := by
  refine Met.ofW (cc := cX0_tryFrom) (maxL := 6) (ret := (some .int)) (by decide) rfl ?_
  intro p e s m args below meth c s₁ BL hml hv
  obtain ⟨rfl, hP, hK⟩ := hv
  have hx := BL.exec
  have hb := BL.bytes
  have hr := BL.returns
  have hts := atoms_spec (ws := wsX0_tryFrom) BL.pre
  have hown : s.vm.findClass RX0 = some m.cls := findClass_of_methodNamed BL.named
  have hlocks := BL.notSynchronized
  have hmi := hts (.initialized "java/lang/Math") (by decide +kernel)
  have hms_max := hts (.static Lib.Math.max.name) (by decide +kernel)
  have hmc_max := hts (.code Lib.Math.max.name Lib.Math.max.code 2 (some .int)) (by decide +kernel)
  have hm_31 := hts (.methodLink RX0 31 Lib.Math.max.name) (by decide +kernel)
  have hl := lv_entry ([.ref (ax 12), .ref (ax 13), .int (nI (3)), .int (nI (a))]) (n := 6) (Nat.le_of_ble_eq_true rfl)
  rw [lg_entry_eq]
  generalize (lg_sl ([.ref (ax 12), .ref (ax 13), .int (nI (3)), .int (nI (a))]) ++ List.replicate (6 - (lg_sl ([.ref (ax 12), .ref (ax 13), .int (nI (3)), .int (nI (a))])).length) Slot.unset).toArray = ls at hl ⊢
  have hl : lv_has ls 6 [(0, .ref (ax 12)), (1, .ref (ax 13)), (2, .int (nI (3))), (3, .int (nI (a)))] := hl
  refine lv_iload_n hx hb dX0_tryFrom_0 rfl (lv_at hl 2 rfl) ?_
  refine lv_bipush (v := (nI (8))) hx hb dX0_tryFrom_1 (by decide +kernel) ?_
  refine n_lt (tgt := 8) hx hb (by omega) (by omega) dX0_tryFrom_3 (by decide) (fun _ => ?_) (fun q => absurd q (by decide))
  refine lv_aload_n hx hb dX0_tryFrom_8 rfl (lv_at hl 0 rfl) ?_
  refine lv_aload_n hx hb dX0_tryFrom_9 rfl (lv_at hl 1 rfl) ?_
  refine lv_iload_n hx hb dX0_tryFrom_10 rfl (lv_at hl 2 rfl) ?_
  refine lv_iconst (v := (nI (1))) hx hb dX0_tryFrom_11 (by decide +kernel) ?_
  refine lv_iadd hx hb dX0_tryFrom_12 ?_
  refine n_top (y := (nI (4))) (nI_add _ _) ?_
  refine lv_iload_n hx hb dX0_tryFrom_13 rfl (lv_at hl 3 rfl) ?_
  refine ro2_S (As := [.ref (ax 12), .ref (ax 13), .int (nI (4)), .int (nI (a))]) (v := (nI (FL wd qf 4 a))) ⟨hx, hb, hml, hown, hts⟩ (kX0_tryFrom_4 l D cI cZ cA ax wd qf T a hBD h_a) (va_cwS 4 hts gX0_tryFrom_X0_tryFrom rfl rfl rfl hsX0_tryFrom ⟨Nat.le_of_ble_eq_true rfl, Nat.le_of_ble_eq_true rfl⟩) (preSR hK hP) rfl hl.1 rfl (Nat.le_of_ble_eq_true rfl) dX0_tryFrom_14 ⟨Nat.zero_le _, Nat.zero_le _⟩ ?_
  refine lv_istore (lv' := [(4, .int (nI (FL wd qf 4 a))), (0, .ref (ax 12)), (1, .ref (ax 13)), (2, .int (nI (3))), (3, .int (nI (a)))]) hx hb dX0_tryFrom_17 hl (by decide) rfl (fun ls hl => ?_)
  refine lv_iload_n hx hb dX0_tryFrom_19 rfl (lv_at hl 4 rfl) ?_
  refine lv_istore (lv' := [(5, .int (nI (a))), (4, .int (nI (FL wd qf 4 a))), (0, .ref (ax 12)), (1, .ref (ax 13)), (2, .int (nI (3))), (3, .int (nI (a)))]) hx hb dX0_tryFrom_20 hl (by decide) rfl (fun ls hl => ?_)
  have loop_22 : ∀ (N : Nat) (c9 : Nat), 8 - (a + c9) < N → (a + c9 ≤ 8) → ∀ (ls : Array Slot), lv_has ls 6 [(0, .ref (ax 12)), (1, .ref (ax 13)), (2, .int (nI (3))), (3, .int (nI (a))), (4, .int (nI (s_tm wd qf 3 a c9))), (5, .int (nI (a + c9)))] → W p l e (headSpec wsX0_tryFrom ({ frames := 5, cells := 0, slots := 0, locals := 125 })).room s m ([.ref (ax 12), .ref (ax 13), .int (nI (3)), .int (nI (a))] : List Value).toArray below meth c s.heap [] 0 0 (MQ below (vp_Si (fun r => r = (nI (FL wd qf 3 a)))) ([.ref (ax 12), .ref (ax 13), .int (nI (3)), .int (nI (a))] : List Value).toArray s 0 0 (fun _ => False)) (F0 m 22 ls []) := by
    intro N
    induction N with
    | zero => intro c9 hmu; exact absurd hmu (Nat.not_lt_zero _)
    | succ N ih_22 =>
      intro c9 hmu_22 h_z ls hl
      refine lv_iload hx hb dX0_tryFrom_22 (lv_at hl 5 rfl) ?_
      refine lv_bipush (v := (nI (8))) hx hb dX0_tryFrom_24 (by decide +kernel) ?_
      refine n_ge (tgt := 66) hx hb (by omega) (by omega) dX0_tryFrom_26 (by decide) (fun c_1 => ?_) (fun c_1 => ?_)
      · refine lv_iload hx hb dX0_tryFrom_66 (lv_at hl 4 rfl) ?_
        exact W.iret (v := (nI (s_tm wd qf 3 a c9))) hx hb hr (fun t ht hW => ⟨_, rfl, by exact congrArg nI (s_tm_x (by decide) h_a c_1 h_z), ht⟩) (fun _ h => nomatch h) dX0_tryFrom_68
      refine lv_aload_n hx hb dX0_tryFrom_29 rfl (lv_at hl 0 rfl) ?_
      refine lv_iload_n hx hb dX0_tryFrom_30 rfl (lv_at hl 2 rfl) ?_
      refine n_iald hx hb hK hP 1 0 rfl rfl (i := 3) (by omega) (by decide) dX0_tryFrom_31 ?_
      refine lv_aload_n hx hb dX0_tryFrom_32 rfl (lv_at hl 1 rfl) ?_
      refine lv_iload hx hb dX0_tryFrom_33 (lv_at hl 5 rfl) ?_
      refine n_iald hx hb hK hP 2 0 rfl rfl (i := a + c9) (by omega) (by decide) dX0_tryFrom_35 ?_
      refine oq_ne (wd := wd) (qf := qf) (i := 3) (j := (a + c9)) (tgt := 60) hx hb hBD (by omega) (by omega) dX0_tryFrom_36 (by decide) (fun c_2 => ?_) (fun c_2 => ?_)
      · refine lv_iinc (v := (nI (a + c9 + 1))) (lv' := [(5, .int (nI (a + c9 + 1))), (0, .ref (ax 12)), (1, .ref (ax 13)), (2, .int (nI (3))), (3, .int (nI (a))), (4, .int (nI (s_tm wd qf 3 a c9)))]) hx hb dX0_tryFrom_60 hl (k := 5) rfl (nI_1 _) (by decide) rfl (fun ls hl => ?_)
        refine lv_goto (tgt := 22) hx hb dX0_tryFrom_63 (by decide) ?_
        have e_3 : ((nI (s_tm wd qf 3 a c9)) : Int32) = (nI (s_tm wd qf 3 a (c9 + 1))) := by first | exact congrArg nI (s_tm_t c_2).symm | exact congrArg nI (s_tm_f c_2).symm | exact congrArg nI (by rw [s_tm_f c_2]) | rfl
        have e_4 : ((nI (a + c9 + 1)) : Int32) = (nI (a + (c9 + 1))) := by first | exact congrArg nI (s_tm_t c_2).symm | exact congrArg nI (s_tm_f c_2).symm | exact congrArg nI (by rw [s_tm_f c_2]) | rfl
        exact ih_22 (c9 + 1) (by omega) (by omega) _ (show lv_has ls 6 [(0, .ref (ax 12)), (1, .ref (ax 13)), (2, .int (nI (3))), (3, .int (nI (a))), (4, .int (nI (s_tm wd qf 3 a (c9 + 1)))), (5, .int (nI (a + (c9 + 1))))] from by rw [← e_3, ← e_4]; exact lv_sub hl [1, 2, 3, 4, 5, 0] rfl)
      have hF1 := FL_le wd qf 4 (a + c9 + 1)
      have hF2 := s_tm_b (wd := wd) (qf := qf) (i := 3) (a := a) c9
      refine lv_iload hx hb dX0_tryFrom_39 (lv_at hl 4 rfl) ?_
      refine lv_iconst (v := (nI (1))) hx hb dX0_tryFrom_41 (by decide +kernel) ?_
      refine lv_aload_n hx hb dX0_tryFrom_42 rfl (lv_at hl 0 rfl) ?_
      refine lv_aload_n hx hb dX0_tryFrom_43 rfl (lv_at hl 1 rfl) ?_
      refine lv_iload_n hx hb dX0_tryFrom_44 rfl (lv_at hl 2 rfl) ?_
      refine lv_iconst (v := (nI (1))) hx hb dX0_tryFrom_45 (by decide +kernel) ?_
      refine lv_iadd hx hb dX0_tryFrom_46 ?_
      refine n_top (y := (nI (4))) (nI_add _ _) ?_
      refine lv_iload hx hb dX0_tryFrom_47 (lv_at hl 5 rfl) ?_
      refine lv_iconst (v := (nI (1))) hx hb dX0_tryFrom_49 (by decide +kernel) ?_
      refine lv_iadd hx hb dX0_tryFrom_50 ?_
      refine n_top (y := (nI (a + c9 + 1))) (nI_add _ _) ?_
      refine ro2_S (As := [.ref (ax 12), .ref (ax 13), .int (nI (4)), .int (nI (a + c9 + 1))]) (v := (nI (FL wd qf 4 (a + c9 + 1)))) ⟨hx, hb, hml, hown, hts⟩ (kX0_tryFrom_4 l D cI cZ cA ax wd qf T (a + c9 + 1) hBD (by omega)) (va_cwS 4 hts gX0_tryFrom_X0_tryFrom rfl rfl rfl hsX0_tryFrom ⟨Nat.le_of_ble_eq_true rfl, Nat.le_of_ble_eq_true rfl⟩) (preSR hK hP) rfl hl.1 rfl (Nat.le_of_ble_eq_true rfl) dX0_tryFrom_51 ⟨Nat.zero_le _, Nat.zero_le _⟩ ?_
      refine lv_iadd hx hb dX0_tryFrom_54 ?_
      refine n_top (y := (nI (1 + (FL wd qf 4 (a + c9 + 1))))) (nI_add _ _) ?_
      refine va_mmax hx hb (hml.trans hl.1.symm) hown hm_31 hms_max hmi hmc_max (Nat.le_of_ble_eq_true rfl) (Nat.le_of_ble_eq_true rfl) (Nat.zero_le _) (Nat.zero_le _) dX0_tryFrom_55 ?_
      refine n_top (y := (nI (if (s_tm wd qf 3 a c9) < (1 + (FL wd qf 4 (a + c9 + 1))) then (1 + (FL wd qf 4 (a + c9 + 1))) else (s_tm wd qf 3 a c9)))) (n_max (by omega) (by omega)) ?_
      refine lv_istore (lv' := [(4, .int (nI (if (s_tm wd qf 3 a c9) < (1 + (FL wd qf 4 (a + c9 + 1))) then (1 + (FL wd qf 4 (a + c9 + 1))) else (s_tm wd qf 3 a c9)))), (0, .ref (ax 12)), (1, .ref (ax 13)), (2, .int (nI (3))), (3, .int (nI (a))), (5, .int (nI (a + c9)))]) hx hb dX0_tryFrom_58 hl (by decide) rfl (fun ls hl => ?_)
      refine lv_iinc (v := (nI (a + c9 + 1))) (lv' := [(5, .int (nI (a + c9 + 1))), (4, .int (nI (if (s_tm wd qf 3 a c9) < (1 + (FL wd qf 4 (a + c9 + 1))) then (1 + (FL wd qf 4 (a + c9 + 1))) else (s_tm wd qf 3 a c9)))), (0, .ref (ax 12)), (1, .ref (ax 13)), (2, .int (nI (3))), (3, .int (nI (a)))]) hx hb dX0_tryFrom_60 hl (k := 5) rfl (nI_1 _) (by decide) rfl (fun ls hl => ?_)
      refine lv_goto (tgt := 22) hx hb dX0_tryFrom_63 (by decide) ?_
      have e_5 : ((nI (if (s_tm wd qf 3 a c9) < (1 + (FL wd qf 4 (a + c9 + 1))) then (1 + (FL wd qf 4 (a + c9 + 1))) else (s_tm wd qf 3 a c9))) : Int32) = (nI (s_tm wd qf 3 a (c9 + 1))) := by first | exact congrArg nI (s_tm_t c_2).symm | exact congrArg nI (s_tm_f c_2).symm | exact congrArg nI (by rw [s_tm_f c_2]) | rfl
      have e_6 : ((nI (a + c9 + 1)) : Int32) = (nI (a + (c9 + 1))) := by first | exact congrArg nI (s_tm_t c_2).symm | exact congrArg nI (s_tm_f c_2).symm | exact congrArg nI (by rw [s_tm_f c_2]) | rfl
      exact ih_22 (c9 + 1) (by omega) (by omega) _ (show lv_has ls 6 [(0, .ref (ax 12)), (1, .ref (ax 13)), (2, .int (nI (3))), (3, .int (nI (a))), (4, .int (nI (s_tm wd qf 3 a (c9 + 1)))), (5, .int (nI (a + (c9 + 1))))] from by rw [← e_5, ← e_6]; exact lv_sub hl [2, 3, 4, 5, 1, 0] rfl)
  have e_7 : ((nI (FL wd qf 4 a)) : Int32) = (nI (s_tm wd qf 3 a 0)) := by rfl
  have e_8 : ((nI (a)) : Int32) = (nI (a + 0)) := by rfl
  exact loop_22 (8 - (a + 0) + 1) 0 (by omega) (by omega) _ (show lv_has ls 6 [(0, .ref (ax 12)), (1, .ref (ax 13)), (2, .int (nI (3))), (3, .int (nI (a))), (4, .int (nI (s_tm wd qf 3 a 0))), (5, .int (nI (a + 0)))] from by rw [← e_7, ← e_8]; exact lv_sub hl [2, 3, 4, 5, 1, 0] rfl)
set_option maxHeartbeats 4000000 in
set_option maxRecDepth 100000 in
theorem kX0_tryFrom_2 (l : Launch) (D : va_G) (cI cZ cA : ClassId) (ax : Nat → Nat) (wd : Nat → Option Nat) (qf : Nat → Option Nat) (T : Nat → Nat → Nat) (a : Nat) (hBD : BD wd qf) (h_a : a ≤ 8) : Met l yX0_tryFrom wsX0_tryFrom ({ frames := 6, cells := 0, slots := 0, locals := 150 }) (PcR D [(cI, .int), (cZ, .boolean), (cA, .array .int)] (wA cI cA ax wd qf T) [.ref (ax 12), .ref (ax 13), .int (nI (2)), .int (nI (a))]) (vp_Si (fun r => r = (nI (FL wd qf 2 a)))) 0 0 (fun _ => False) := by
  refine Met.ofW (cc := cX0_tryFrom) (maxL := 6) (ret := (some .int)) (by decide) rfl ?_
  intro p e s m args below meth c s₁ BL hml hv
  obtain ⟨rfl, hP, hK⟩ := hv
  have hx := BL.exec
  have hb := BL.bytes
  have hr := BL.returns
  have hts := atoms_spec (ws := wsX0_tryFrom) BL.pre
  have hown : s.vm.findClass RX0 = some m.cls := findClass_of_methodNamed BL.named
  have hlocks := BL.notSynchronized
  have hmi := hts (.initialized "java/lang/Math") (by decide +kernel)
  have hms_max := hts (.static Lib.Math.max.name) (by decide +kernel)
  have hmc_max := hts (.code Lib.Math.max.name Lib.Math.max.code 2 (some .int)) (by decide +kernel)
  have hm_31 := hts (.methodLink RX0 31 Lib.Math.max.name) (by decide +kernel)
  have hl := lv_entry ([.ref (ax 12), .ref (ax 13), .int (nI (2)), .int (nI (a))]) (n := 6) (Nat.le_of_ble_eq_true rfl)
  rw [lg_entry_eq]
  generalize (lg_sl ([.ref (ax 12), .ref (ax 13), .int (nI (2)), .int (nI (a))]) ++ List.replicate (6 - (lg_sl ([.ref (ax 12), .ref (ax 13), .int (nI (2)), .int (nI (a))])).length) Slot.unset).toArray = ls at hl ⊢
  have hl : lv_has ls 6 [(0, .ref (ax 12)), (1, .ref (ax 13)), (2, .int (nI (2))), (3, .int (nI (a)))] := hl
  refine lv_iload_n hx hb dX0_tryFrom_0 rfl (lv_at hl 2 rfl) ?_
  refine lv_bipush (v := (nI (8))) hx hb dX0_tryFrom_1 (by decide +kernel) ?_
  refine n_lt (tgt := 8) hx hb (by omega) (by omega) dX0_tryFrom_3 (by decide) (fun _ => ?_) (fun q => absurd q (by decide))
  refine lv_aload_n hx hb dX0_tryFrom_8 rfl (lv_at hl 0 rfl) ?_
  refine lv_aload_n hx hb dX0_tryFrom_9 rfl (lv_at hl 1 rfl) ?_
  refine lv_iload_n hx hb dX0_tryFrom_10 rfl (lv_at hl 2 rfl) ?_
  refine lv_iconst (v := (nI (1))) hx hb dX0_tryFrom_11 (by decide +kernel) ?_
  refine lv_iadd hx hb dX0_tryFrom_12 ?_
  refine n_top (y := (nI (3))) (nI_add _ _) ?_
  refine lv_iload_n hx hb dX0_tryFrom_13 rfl (lv_at hl 3 rfl) ?_
  refine ro2_S (As := [.ref (ax 12), .ref (ax 13), .int (nI (3)), .int (nI (a))]) (v := (nI (FL wd qf 3 a))) ⟨hx, hb, hml, hown, hts⟩ (kX0_tryFrom_3 l D cI cZ cA ax wd qf T a hBD h_a) (va_cwS 4 hts gX0_tryFrom_X0_tryFrom rfl rfl rfl hsX0_tryFrom ⟨Nat.le_of_ble_eq_true rfl, Nat.le_of_ble_eq_true rfl⟩) (preSR hK hP) rfl hl.1 rfl (Nat.le_of_ble_eq_true rfl) dX0_tryFrom_14 ⟨Nat.zero_le _, Nat.zero_le _⟩ ?_
  refine lv_istore (lv' := [(4, .int (nI (FL wd qf 3 a))), (0, .ref (ax 12)), (1, .ref (ax 13)), (2, .int (nI (2))), (3, .int (nI (a)))]) hx hb dX0_tryFrom_17 hl (by decide) rfl (fun ls hl => ?_)
  refine lv_iload_n hx hb dX0_tryFrom_19 rfl (lv_at hl 4 rfl) ?_
  refine lv_istore (lv' := [(5, .int (nI (a))), (4, .int (nI (FL wd qf 3 a))), (0, .ref (ax 12)), (1, .ref (ax 13)), (2, .int (nI (2))), (3, .int (nI (a)))]) hx hb dX0_tryFrom_20 hl (by decide) rfl (fun ls hl => ?_)
  have loop_22 : ∀ (N : Nat) (c9 : Nat), 8 - (a + c9) < N → (a + c9 ≤ 8) → ∀ (ls : Array Slot), lv_has ls 6 [(0, .ref (ax 12)), (1, .ref (ax 13)), (2, .int (nI (2))), (3, .int (nI (a))), (4, .int (nI (s_tm wd qf 2 a c9))), (5, .int (nI (a + c9)))] → W p l e (headSpec wsX0_tryFrom ({ frames := 6, cells := 0, slots := 0, locals := 150 })).room s m ([.ref (ax 12), .ref (ax 13), .int (nI (2)), .int (nI (a))] : List Value).toArray below meth c s.heap [] 0 0 (MQ below (vp_Si (fun r => r = (nI (FL wd qf 2 a)))) ([.ref (ax 12), .ref (ax 13), .int (nI (2)), .int (nI (a))] : List Value).toArray s 0 0 (fun _ => False)) (F0 m 22 ls []) := by
    intro N
    induction N with
    | zero => intro c9 hmu; exact absurd hmu (Nat.not_lt_zero _)
    | succ N ih_22 =>
      intro c9 hmu_22 h_z ls hl
      refine lv_iload hx hb dX0_tryFrom_22 (lv_at hl 5 rfl) ?_
      refine lv_bipush (v := (nI (8))) hx hb dX0_tryFrom_24 (by decide +kernel) ?_
      refine n_ge (tgt := 66) hx hb (by omega) (by omega) dX0_tryFrom_26 (by decide) (fun c_1 => ?_) (fun c_1 => ?_)
      · refine lv_iload hx hb dX0_tryFrom_66 (lv_at hl 4 rfl) ?_
        exact W.iret (v := (nI (s_tm wd qf 2 a c9))) hx hb hr (fun t ht hW => ⟨_, rfl, by exact congrArg nI (s_tm_x (by decide) h_a c_1 h_z), ht⟩) (fun _ h => nomatch h) dX0_tryFrom_68
      refine lv_aload_n hx hb dX0_tryFrom_29 rfl (lv_at hl 0 rfl) ?_
      refine lv_iload_n hx hb dX0_tryFrom_30 rfl (lv_at hl 2 rfl) ?_
      refine n_iald hx hb hK hP 1 0 rfl rfl (i := 2) (by omega) (by decide) dX0_tryFrom_31 ?_
      refine lv_aload_n hx hb dX0_tryFrom_32 rfl (lv_at hl 1 rfl) ?_
      refine lv_iload hx hb dX0_tryFrom_33 (lv_at hl 5 rfl) ?_
      refine n_iald hx hb hK hP 2 0 rfl rfl (i := a + c9) (by omega) (by decide) dX0_tryFrom_35 ?_
      refine oq_ne (wd := wd) (qf := qf) (i := 2) (j := (a + c9)) (tgt := 60) hx hb hBD (by omega) (by omega) dX0_tryFrom_36 (by decide) (fun c_2 => ?_) (fun c_2 => ?_)
      · refine lv_iinc (v := (nI (a + c9 + 1))) (lv' := [(5, .int (nI (a + c9 + 1))), (0, .ref (ax 12)), (1, .ref (ax 13)), (2, .int (nI (2))), (3, .int (nI (a))), (4, .int (nI (s_tm wd qf 2 a c9)))]) hx hb dX0_tryFrom_60 hl (k := 5) rfl (nI_1 _) (by decide) rfl (fun ls hl => ?_)
        refine lv_goto (tgt := 22) hx hb dX0_tryFrom_63 (by decide) ?_
        have e_3 : ((nI (s_tm wd qf 2 a c9)) : Int32) = (nI (s_tm wd qf 2 a (c9 + 1))) := by first | exact congrArg nI (s_tm_t c_2).symm | exact congrArg nI (s_tm_f c_2).symm | exact congrArg nI (by rw [s_tm_f c_2]) | rfl
        have e_4 : ((nI (a + c9 + 1)) : Int32) = (nI (a + (c9 + 1))) := by first | exact congrArg nI (s_tm_t c_2).symm | exact congrArg nI (s_tm_f c_2).symm | exact congrArg nI (by rw [s_tm_f c_2]) | rfl
        exact ih_22 (c9 + 1) (by omega) (by omega) _ (show lv_has ls 6 [(0, .ref (ax 12)), (1, .ref (ax 13)), (2, .int (nI (2))), (3, .int (nI (a))), (4, .int (nI (s_tm wd qf 2 a (c9 + 1)))), (5, .int (nI (a + (c9 + 1))))] from by rw [← e_3, ← e_4]; exact lv_sub hl [1, 2, 3, 4, 5, 0] rfl)
      have hF1 := FL_le wd qf 3 (a + c9 + 1)
      have hF2 := s_tm_b (wd := wd) (qf := qf) (i := 2) (a := a) c9
      refine lv_iload hx hb dX0_tryFrom_39 (lv_at hl 4 rfl) ?_
      refine lv_iconst (v := (nI (1))) hx hb dX0_tryFrom_41 (by decide +kernel) ?_
      refine lv_aload_n hx hb dX0_tryFrom_42 rfl (lv_at hl 0 rfl) ?_
      refine lv_aload_n hx hb dX0_tryFrom_43 rfl (lv_at hl 1 rfl) ?_
      refine lv_iload_n hx hb dX0_tryFrom_44 rfl (lv_at hl 2 rfl) ?_
      refine lv_iconst (v := (nI (1))) hx hb dX0_tryFrom_45 (by decide +kernel) ?_
      refine lv_iadd hx hb dX0_tryFrom_46 ?_
      refine n_top (y := (nI (3))) (nI_add _ _) ?_
      refine lv_iload hx hb dX0_tryFrom_47 (lv_at hl 5 rfl) ?_
      refine lv_iconst (v := (nI (1))) hx hb dX0_tryFrom_49 (by decide +kernel) ?_
      refine lv_iadd hx hb dX0_tryFrom_50 ?_
      refine n_top (y := (nI (a + c9 + 1))) (nI_add _ _) ?_
      refine ro2_S (As := [.ref (ax 12), .ref (ax 13), .int (nI (3)), .int (nI (a + c9 + 1))]) (v := (nI (FL wd qf 3 (a + c9 + 1)))) ⟨hx, hb, hml, hown, hts⟩ (kX0_tryFrom_3 l D cI cZ cA ax wd qf T (a + c9 + 1) hBD (by omega)) (va_cwS 4 hts gX0_tryFrom_X0_tryFrom rfl rfl rfl hsX0_tryFrom ⟨Nat.le_of_ble_eq_true rfl, Nat.le_of_ble_eq_true rfl⟩) (preSR hK hP) rfl hl.1 rfl (Nat.le_of_ble_eq_true rfl) dX0_tryFrom_51 ⟨Nat.zero_le _, Nat.zero_le _⟩ ?_
      refine lv_iadd hx hb dX0_tryFrom_54 ?_
      refine n_top (y := (nI (1 + (FL wd qf 3 (a + c9 + 1))))) (nI_add _ _) ?_
      refine va_mmax hx hb (hml.trans hl.1.symm) hown hm_31 hms_max hmi hmc_max (Nat.le_of_ble_eq_true rfl) (Nat.le_of_ble_eq_true rfl) (Nat.zero_le _) (Nat.zero_le _) dX0_tryFrom_55 ?_
      refine n_top (y := (nI (if (s_tm wd qf 2 a c9) < (1 + (FL wd qf 3 (a + c9 + 1))) then (1 + (FL wd qf 3 (a + c9 + 1))) else (s_tm wd qf 2 a c9)))) (n_max (by omega) (by omega)) ?_
      refine lv_istore (lv' := [(4, .int (nI (if (s_tm wd qf 2 a c9) < (1 + (FL wd qf 3 (a + c9 + 1))) then (1 + (FL wd qf 3 (a + c9 + 1))) else (s_tm wd qf 2 a c9)))), (0, .ref (ax 12)), (1, .ref (ax 13)), (2, .int (nI (2))), (3, .int (nI (a))), (5, .int (nI (a + c9)))]) hx hb dX0_tryFrom_58 hl (by decide) rfl (fun ls hl => ?_)
      refine lv_iinc (v := (nI (a + c9 + 1))) (lv' := [(5, .int (nI (a + c9 + 1))), (4, .int (nI (if (s_tm wd qf 2 a c9) < (1 + (FL wd qf 3 (a + c9 + 1))) then (1 + (FL wd qf 3 (a + c9 + 1))) else (s_tm wd qf 2 a c9)))), (0, .ref (ax 12)), (1, .ref (ax 13)), (2, .int (nI (2))), (3, .int (nI (a)))]) hx hb dX0_tryFrom_60 hl (k := 5) rfl (nI_1 _) (by decide) rfl (fun ls hl => ?_)
      refine lv_goto (tgt := 22) hx hb dX0_tryFrom_63 (by decide) ?_
      have e_5 : ((nI (if (s_tm wd qf 2 a c9) < (1 + (FL wd qf 3 (a + c9 + 1))) then (1 + (FL wd qf 3 (a + c9 + 1))) else (s_tm wd qf 2 a c9))) : Int32) = (nI (s_tm wd qf 2 a (c9 + 1))) := by first | exact congrArg nI (s_tm_t c_2).symm | exact congrArg nI (s_tm_f c_2).symm | exact congrArg nI (by rw [s_tm_f c_2]) | rfl
      have e_6 : ((nI (a + c9 + 1)) : Int32) = (nI (a + (c9 + 1))) := by first | exact congrArg nI (s_tm_t c_2).symm | exact congrArg nI (s_tm_f c_2).symm | exact congrArg nI (by rw [s_tm_f c_2]) | rfl
      exact ih_22 (c9 + 1) (by omega) (by omega) _ (show lv_has ls 6 [(0, .ref (ax 12)), (1, .ref (ax 13)), (2, .int (nI (2))), (3, .int (nI (a))), (4, .int (nI (s_tm wd qf 2 a (c9 + 1)))), (5, .int (nI (a + (c9 + 1))))] from by rw [← e_5, ← e_6]; exact lv_sub hl [2, 3, 4, 5, 1, 0] rfl)
  have e_7 : ((nI (FL wd qf 3 a)) : Int32) = (nI (s_tm wd qf 2 a 0)) := by rfl
  have e_8 : ((nI (a)) : Int32) = (nI (a + 0)) := by rfl
  exact loop_22 (8 - (a + 0) + 1) 0 (by omega) (by omega) _ (show lv_has ls 6 [(0, .ref (ax 12)), (1, .ref (ax 13)), (2, .int (nI (2))), (3, .int (nI (a))), (4, .int (nI (s_tm wd qf 2 a 0))), (5, .int (nI (a + 0)))] from by rw [← e_7, ← e_8]; exact lv_sub hl [2, 3, 4, 5, 1, 0] rfl)
set_option maxHeartbeats 4000000 in
set_option maxRecDepth 100000 in
theorem kX0_tryFrom_1 (l : Launch) (D : va_G) (cI cZ cA : ClassId) (ax : Nat → Nat) (wd : Nat → Option Nat) (qf : Nat → Option Nat) (T : Nat → Nat → Nat) (a : Nat) (hBD : BD wd qf) (h_a : a ≤ 8) : Met l yX0_tryFrom wsX0_tryFrom ({ frames := 7, cells := 0, slots := 0, locals := 175 }) (PcR D [(cI, .int), (cZ, .boolean), (cA, .array .int)] (wA cI cA ax wd qf T) [.ref (ax 12), .ref (ax 13), .int (nI (1)), .int (nI (a))]) (vp_Si (fun r => r = (nI (FL wd qf 1 a)))) 0 0 (fun _ => False) := by
  refine Met.ofW (cc := cX0_tryFrom) (maxL := 6) (ret := (some .int)) (by decide) rfl ?_
  intro p e s m args below meth c s₁ BL hml hv
  obtain ⟨rfl, hP, hK⟩ := hv
  have hx := BL.exec
  have hb := BL.bytes
  have hr := BL.returns
  have hts := atoms_spec (ws := wsX0_tryFrom) BL.pre
  have hown : s.vm.findClass RX0 = some m.cls := findClass_of_methodNamed BL.named
  have hlocks := BL.notSynchronized
  have hmi := hts (.initialized "java/lang/Math") (by decide +kernel)
  have hms_max := hts (.static Lib.Math.max.name) (by decide +kernel)
  have hmc_max := hts (.code Lib.Math.max.name Lib.Math.max.code 2 (some .int)) (by decide +kernel)
  have hm_31 := hts (.methodLink RX0 31 Lib.Math.max.name) (by decide +kernel)
  have hl := lv_entry ([.ref (ax 12), .ref (ax 13), .int (nI (1)), .int (nI (a))]) (n := 6) (Nat.le_of_ble_eq_true rfl)
  rw [lg_entry_eq]
  generalize (lg_sl ([.ref (ax 12), .ref (ax 13), .int (nI (1)), .int (nI (a))]) ++ List.replicate (6 - (lg_sl ([.ref (ax 12), .ref (ax 13), .int (nI (1)), .int (nI (a))])).length) Slot.unset).toArray = ls at hl ⊢
  have hl : lv_has ls 6 [(0, .ref (ax 12)), (1, .ref (ax 13)), (2, .int (nI (1))), (3, .int (nI (a)))] := hl
  refine lv_iload_n hx hb dX0_tryFrom_0 rfl (lv_at hl 2 rfl) ?_
  refine lv_bipush (v := (nI (8))) hx hb dX0_tryFrom_1 (by decide +kernel) ?_
  refine n_lt (tgt := 8) hx hb (by omega) (by omega) dX0_tryFrom_3 (by decide) (fun _ => ?_) (fun q => absurd q (by decide))
  refine lv_aload_n hx hb dX0_tryFrom_8 rfl (lv_at hl 0 rfl) ?_
  refine lv_aload_n hx hb dX0_tryFrom_9 rfl (lv_at hl 1 rfl) ?_
  refine lv_iload_n hx hb dX0_tryFrom_10 rfl (lv_at hl 2 rfl) ?_
  refine lv_iconst (v := (nI (1))) hx hb dX0_tryFrom_11 (by decide +kernel) ?_
  refine lv_iadd hx hb dX0_tryFrom_12 ?_
  refine n_top (y := (nI (2))) (nI_add _ _) ?_
  refine lv_iload_n hx hb dX0_tryFrom_13 rfl (lv_at hl 3 rfl) ?_
  refine ro2_S (As := [.ref (ax 12), .ref (ax 13), .int (nI (2)), .int (nI (a))]) (v := (nI (FL wd qf 2 a))) ⟨hx, hb, hml, hown, hts⟩ (kX0_tryFrom_2 l D cI cZ cA ax wd qf T a hBD h_a) (va_cwS 4 hts gX0_tryFrom_X0_tryFrom rfl rfl rfl hsX0_tryFrom ⟨Nat.le_of_ble_eq_true rfl, Nat.le_of_ble_eq_true rfl⟩) (preSR hK hP) rfl hl.1 rfl (Nat.le_of_ble_eq_true rfl) dX0_tryFrom_14 ⟨Nat.zero_le _, Nat.zero_le _⟩ ?_
  refine lv_istore (lv' := [(4, .int (nI (FL wd qf 2 a))), (0, .ref (ax 12)), (1, .ref (ax 13)), (2, .int (nI (1))), (3, .int (nI (a)))]) hx hb dX0_tryFrom_17 hl (by decide) rfl (fun ls hl => ?_)
  refine lv_iload_n hx hb dX0_tryFrom_19 rfl (lv_at hl 4 rfl) ?_
  refine lv_istore (lv' := [(5, .int (nI (a))), (4, .int (nI (FL wd qf 2 a))), (0, .ref (ax 12)), (1, .ref (ax 13)), (2, .int (nI (1))), (3, .int (nI (a)))]) hx hb dX0_tryFrom_20 hl (by decide) rfl (fun ls hl => ?_)
  have loop_22 : ∀ (N : Nat) (c9 : Nat), 8 - (a + c9) < N → (a + c9 ≤ 8) → ∀ (ls : Array Slot), lv_has ls 6 [(0, .ref (ax 12)), (1, .ref (ax 13)), (2, .int (nI (1))), (3, .int (nI (a))), (4, .int (nI (s_tm wd qf 1 a c9))), (5, .int (nI (a + c9)))] → W p l e (headSpec wsX0_tryFrom ({ frames := 7, cells := 0, slots := 0, locals := 175 })).room s m ([.ref (ax 12), .ref (ax 13), .int (nI (1)), .int (nI (a))] : List Value).toArray below meth c s.heap [] 0 0 (MQ below (vp_Si (fun r => r = (nI (FL wd qf 1 a)))) ([.ref (ax 12), .ref (ax 13), .int (nI (1)), .int (nI (a))] : List Value).toArray s 0 0 (fun _ => False)) (F0 m 22 ls []) := by
    intro N
    induction N with
    | zero => intro c9 hmu; exact absurd hmu (Nat.not_lt_zero _)
    | succ N ih_22 =>
      intro c9 hmu_22 h_z ls hl
      refine lv_iload hx hb dX0_tryFrom_22 (lv_at hl 5 rfl) ?_
      refine lv_bipush (v := (nI (8))) hx hb dX0_tryFrom_24 (by decide +kernel) ?_
      refine n_ge (tgt := 66) hx hb (by omega) (by omega) dX0_tryFrom_26 (by decide) (fun c_1 => ?_) (fun c_1 => ?_)
      · refine lv_iload hx hb dX0_tryFrom_66 (lv_at hl 4 rfl) ?_
        exact W.iret (v := (nI (s_tm wd qf 1 a c9))) hx hb hr (fun t ht hW => ⟨_, rfl, by exact congrArg nI (s_tm_x (by decide) h_a c_1 h_z), ht⟩) (fun _ h => nomatch h) dX0_tryFrom_68
      refine lv_aload_n hx hb dX0_tryFrom_29 rfl (lv_at hl 0 rfl) ?_
      refine lv_iload_n hx hb dX0_tryFrom_30 rfl (lv_at hl 2 rfl) ?_
      refine n_iald hx hb hK hP 1 0 rfl rfl (i := 1) (by omega) (by decide) dX0_tryFrom_31 ?_
      refine lv_aload_n hx hb dX0_tryFrom_32 rfl (lv_at hl 1 rfl) ?_
      refine lv_iload hx hb dX0_tryFrom_33 (lv_at hl 5 rfl) ?_
      refine n_iald hx hb hK hP 2 0 rfl rfl (i := a + c9) (by omega) (by decide) dX0_tryFrom_35 ?_
      refine oq_ne (wd := wd) (qf := qf) (i := 1) (j := (a + c9)) (tgt := 60) hx hb hBD (by omega) (by omega) dX0_tryFrom_36 (by decide) (fun c_2 => ?_) (fun c_2 => ?_)
      · refine lv_iinc (v := (nI (a + c9 + 1))) (lv' := [(5, .int (nI (a + c9 + 1))), (0, .ref (ax 12)), (1, .ref (ax 13)), (2, .int (nI (1))), (3, .int (nI (a))), (4, .int (nI (s_tm wd qf 1 a c9)))]) hx hb dX0_tryFrom_60 hl (k := 5) rfl (nI_1 _) (by decide) rfl (fun ls hl => ?_)
        refine lv_goto (tgt := 22) hx hb dX0_tryFrom_63 (by decide) ?_
        have e_3 : ((nI (s_tm wd qf 1 a c9)) : Int32) = (nI (s_tm wd qf 1 a (c9 + 1))) := by first | exact congrArg nI (s_tm_t c_2).symm | exact congrArg nI (s_tm_f c_2).symm | exact congrArg nI (by rw [s_tm_f c_2]) | rfl
        have e_4 : ((nI (a + c9 + 1)) : Int32) = (nI (a + (c9 + 1))) := by first | exact congrArg nI (s_tm_t c_2).symm | exact congrArg nI (s_tm_f c_2).symm | exact congrArg nI (by rw [s_tm_f c_2]) | rfl
        exact ih_22 (c9 + 1) (by omega) (by omega) _ (show lv_has ls 6 [(0, .ref (ax 12)), (1, .ref (ax 13)), (2, .int (nI (1))), (3, .int (nI (a))), (4, .int (nI (s_tm wd qf 1 a (c9 + 1)))), (5, .int (nI (a + (c9 + 1))))] from by rw [← e_3, ← e_4]; exact lv_sub hl [1, 2, 3, 4, 5, 0] rfl)
      have hF1 := FL_le wd qf 2 (a + c9 + 1)
      have hF2 := s_tm_b (wd := wd) (qf := qf) (i := 1) (a := a) c9
      refine lv_iload hx hb dX0_tryFrom_39 (lv_at hl 4 rfl) ?_
      refine lv_iconst (v := (nI (1))) hx hb dX0_tryFrom_41 (by decide +kernel) ?_
      refine lv_aload_n hx hb dX0_tryFrom_42 rfl (lv_at hl 0 rfl) ?_
      refine lv_aload_n hx hb dX0_tryFrom_43 rfl (lv_at hl 1 rfl) ?_
      refine lv_iload_n hx hb dX0_tryFrom_44 rfl (lv_at hl 2 rfl) ?_
      refine lv_iconst (v := (nI (1))) hx hb dX0_tryFrom_45 (by decide +kernel) ?_
      refine lv_iadd hx hb dX0_tryFrom_46 ?_
      refine n_top (y := (nI (2))) (nI_add _ _) ?_
      refine lv_iload hx hb dX0_tryFrom_47 (lv_at hl 5 rfl) ?_
      refine lv_iconst (v := (nI (1))) hx hb dX0_tryFrom_49 (by decide +kernel) ?_
      refine lv_iadd hx hb dX0_tryFrom_50 ?_
      refine n_top (y := (nI (a + c9 + 1))) (nI_add _ _) ?_
      refine ro2_S (As := [.ref (ax 12), .ref (ax 13), .int (nI (2)), .int (nI (a + c9 + 1))]) (v := (nI (FL wd qf 2 (a + c9 + 1)))) ⟨hx, hb, hml, hown, hts⟩ (kX0_tryFrom_2 l D cI cZ cA ax wd qf T (a + c9 + 1) hBD (by omega)) (va_cwS 4 hts gX0_tryFrom_X0_tryFrom rfl rfl rfl hsX0_tryFrom ⟨Nat.le_of_ble_eq_true rfl, Nat.le_of_ble_eq_true rfl⟩) (preSR hK hP) rfl hl.1 rfl (Nat.le_of_ble_eq_true rfl) dX0_tryFrom_51 ⟨Nat.zero_le _, Nat.zero_le _⟩ ?_
      refine lv_iadd hx hb dX0_tryFrom_54 ?_
      refine n_top (y := (nI (1 + (FL wd qf 2 (a + c9 + 1))))) (nI_add _ _) ?_
      refine va_mmax hx hb (hml.trans hl.1.symm) hown hm_31 hms_max hmi hmc_max (Nat.le_of_ble_eq_true rfl) (Nat.le_of_ble_eq_true rfl) (Nat.zero_le _) (Nat.zero_le _) dX0_tryFrom_55 ?_
      refine n_top (y := (nI (if (s_tm wd qf 1 a c9) < (1 + (FL wd qf 2 (a + c9 + 1))) then (1 + (FL wd qf 2 (a + c9 + 1))) else (s_tm wd qf 1 a c9)))) (n_max (by omega) (by omega)) ?_
      refine lv_istore (lv' := [(4, .int (nI (if (s_tm wd qf 1 a c9) < (1 + (FL wd qf 2 (a + c9 + 1))) then (1 + (FL wd qf 2 (a + c9 + 1))) else (s_tm wd qf 1 a c9)))), (0, .ref (ax 12)), (1, .ref (ax 13)), (2, .int (nI (1))), (3, .int (nI (a))), (5, .int (nI (a + c9)))]) hx hb dX0_tryFrom_58 hl (by decide) rfl (fun ls hl => ?_)
      refine lv_iinc (v := (nI (a + c9 + 1))) (lv' := [(5, .int (nI (a + c9 + 1))), (4, .int (nI (if (s_tm wd qf 1 a c9) < (1 + (FL wd qf 2 (a + c9 + 1))) then (1 + (FL wd qf 2 (a + c9 + 1))) else (s_tm wd qf 1 a c9)))), (0, .ref (ax 12)), (1, .ref (ax 13)), (2, .int (nI (1))), (3, .int (nI (a)))]) hx hb dX0_tryFrom_60 hl (k := 5) rfl (nI_1 _) (by decide) rfl (fun ls hl => ?_)
      refine lv_goto (tgt := 22) hx hb dX0_tryFrom_63 (by decide) ?_
      have e_5 : ((nI (if (s_tm wd qf 1 a c9) < (1 + (FL wd qf 2 (a + c9 + 1))) then (1 + (FL wd qf 2 (a + c9 + 1))) else (s_tm wd qf 1 a c9))) : Int32) = (nI (s_tm wd qf 1 a (c9 + 1))) := by first | exact congrArg nI (s_tm_t c_2).symm | exact congrArg nI (s_tm_f c_2).symm | exact congrArg nI (by rw [s_tm_f c_2]) | rfl
      have e_6 : ((nI (a + c9 + 1)) : Int32) = (nI (a + (c9 + 1))) := by first | exact congrArg nI (s_tm_t c_2).symm | exact congrArg nI (s_tm_f c_2).symm | exact congrArg nI (by rw [s_tm_f c_2]) | rfl
      exact ih_22 (c9 + 1) (by omega) (by omega) _ (show lv_has ls 6 [(0, .ref (ax 12)), (1, .ref (ax 13)), (2, .int (nI (1))), (3, .int (nI (a))), (4, .int (nI (s_tm wd qf 1 a (c9 + 1)))), (5, .int (nI (a + (c9 + 1))))] from by rw [← e_5, ← e_6]; exact lv_sub hl [2, 3, 4, 5, 1, 0] rfl)
  have e_7 : ((nI (FL wd qf 2 a)) : Int32) = (nI (s_tm wd qf 1 a 0)) := by rfl
  have e_8 : ((nI (a)) : Int32) = (nI (a + 0)) := by rfl
  exact loop_22 (8 - (a + 0) + 1) 0 (by omega) (by omega) _ (show lv_has ls 6 [(0, .ref (ax 12)), (1, .ref (ax 13)), (2, .int (nI (1))), (3, .int (nI (a))), (4, .int (nI (s_tm wd qf 1 a 0))), (5, .int (nI (a + 0)))] from by rw [← e_7, ← e_8]; exact lv_sub hl [2, 3, 4, 5, 1, 0] rfl)
set_option maxHeartbeats 4000000 in
set_option maxRecDepth 100000 in
theorem kX0_tryFrom_0 (l : Launch) (D : va_G) (cI cZ cA : ClassId) (ax : Nat → Nat) (wd : Nat → Option Nat) (qf : Nat → Option Nat) (T : Nat → Nat → Nat) (a : Nat) (hBD : BD wd qf) (h_a : a ≤ 8) : Met l yX0_tryFrom wsX0_tryFrom ({ frames := 8, cells := 0, slots := 0, locals := 200 }) (PcR D [(cI, .int), (cZ, .boolean), (cA, .array .int)] (wA cI cA ax wd qf T) [.ref (ax 12), .ref (ax 13), .int (nI (0)), .int (nI (a))]) (vp_Si (fun r => r = (nI (FL wd qf 0 a)))) 0 0 (fun _ => False) := by
  refine Met.ofW (cc := cX0_tryFrom) (maxL := 6) (ret := (some .int)) (by decide) rfl ?_
  intro p e s m args below meth c s₁ BL hml hv
  obtain ⟨rfl, hP, hK⟩ := hv
  have hx := BL.exec
  have hb := BL.bytes
  have hr := BL.returns
  have hts := atoms_spec (ws := wsX0_tryFrom) BL.pre
  have hown : s.vm.findClass RX0 = some m.cls := findClass_of_methodNamed BL.named
  have hlocks := BL.notSynchronized
  have hmi := hts (.initialized "java/lang/Math") (by decide +kernel)
  have hms_max := hts (.static Lib.Math.max.name) (by decide +kernel)
  have hmc_max := hts (.code Lib.Math.max.name Lib.Math.max.code 2 (some .int)) (by decide +kernel)
  have hm_31 := hts (.methodLink RX0 31 Lib.Math.max.name) (by decide +kernel)
  have hl := lv_entry ([.ref (ax 12), .ref (ax 13), .int (nI (0)), .int (nI (a))]) (n := 6) (Nat.le_of_ble_eq_true rfl)
  rw [lg_entry_eq]
  generalize (lg_sl ([.ref (ax 12), .ref (ax 13), .int (nI (0)), .int (nI (a))]) ++ List.replicate (6 - (lg_sl ([.ref (ax 12), .ref (ax 13), .int (nI (0)), .int (nI (a))])).length) Slot.unset).toArray = ls at hl ⊢
  have hl : lv_has ls 6 [(0, .ref (ax 12)), (1, .ref (ax 13)), (2, .int (nI (0))), (3, .int (nI (a)))] := hl
  refine lv_iload_n hx hb dX0_tryFrom_0 rfl (lv_at hl 2 rfl) ?_
  refine lv_bipush (v := (nI (8))) hx hb dX0_tryFrom_1 (by decide +kernel) ?_
  refine n_lt (tgt := 8) hx hb (by omega) (by omega) dX0_tryFrom_3 (by decide) (fun _ => ?_) (fun q => absurd q (by decide))
  refine lv_aload_n hx hb dX0_tryFrom_8 rfl (lv_at hl 0 rfl) ?_
  refine lv_aload_n hx hb dX0_tryFrom_9 rfl (lv_at hl 1 rfl) ?_
  refine lv_iload_n hx hb dX0_tryFrom_10 rfl (lv_at hl 2 rfl) ?_
  refine lv_iconst (v := (nI (1))) hx hb dX0_tryFrom_11 (by decide +kernel) ?_
  refine lv_iadd hx hb dX0_tryFrom_12 ?_
  refine n_top (y := (nI (1))) (nI_add _ _) ?_
  refine lv_iload_n hx hb dX0_tryFrom_13 rfl (lv_at hl 3 rfl) ?_
  refine ro2_S (As := [.ref (ax 12), .ref (ax 13), .int (nI (1)), .int (nI (a))]) (v := (nI (FL wd qf 1 a))) ⟨hx, hb, hml, hown, hts⟩ (kX0_tryFrom_1 l D cI cZ cA ax wd qf T a hBD h_a) (va_cwS 4 hts gX0_tryFrom_X0_tryFrom rfl rfl rfl hsX0_tryFrom ⟨Nat.le_of_ble_eq_true rfl, Nat.le_of_ble_eq_true rfl⟩) (preSR hK hP) rfl hl.1 rfl (Nat.le_of_ble_eq_true rfl) dX0_tryFrom_14 ⟨Nat.zero_le _, Nat.zero_le _⟩ ?_
  refine lv_istore (lv' := [(4, .int (nI (FL wd qf 1 a))), (0, .ref (ax 12)), (1, .ref (ax 13)), (2, .int (nI (0))), (3, .int (nI (a)))]) hx hb dX0_tryFrom_17 hl (by decide) rfl (fun ls hl => ?_)
  refine lv_iload_n hx hb dX0_tryFrom_19 rfl (lv_at hl 4 rfl) ?_
  refine lv_istore (lv' := [(5, .int (nI (a))), (4, .int (nI (FL wd qf 1 a))), (0, .ref (ax 12)), (1, .ref (ax 13)), (2, .int (nI (0))), (3, .int (nI (a)))]) hx hb dX0_tryFrom_20 hl (by decide) rfl (fun ls hl => ?_)
  have loop_22 : ∀ (N : Nat) (c9 : Nat), 8 - (a + c9) < N → (a + c9 ≤ 8) → ∀ (ls : Array Slot), lv_has ls 6 [(0, .ref (ax 12)), (1, .ref (ax 13)), (2, .int (nI (0))), (3, .int (nI (a))), (4, .int (nI (s_tm wd qf 0 a c9))), (5, .int (nI (a + c9)))] → W p l e (headSpec wsX0_tryFrom ({ frames := 8, cells := 0, slots := 0, locals := 200 })).room s m ([.ref (ax 12), .ref (ax 13), .int (nI (0)), .int (nI (a))] : List Value).toArray below meth c s.heap [] 0 0 (MQ below (vp_Si (fun r => r = (nI (FL wd qf 0 a)))) ([.ref (ax 12), .ref (ax 13), .int (nI (0)), .int (nI (a))] : List Value).toArray s 0 0 (fun _ => False)) (F0 m 22 ls []) := by
    intro N
    induction N with
    | zero => intro c9 hmu; exact absurd hmu (Nat.not_lt_zero _)
    | succ N ih_22 =>
      intro c9 hmu_22 h_z ls hl
      refine lv_iload hx hb dX0_tryFrom_22 (lv_at hl 5 rfl) ?_
      refine lv_bipush (v := (nI (8))) hx hb dX0_tryFrom_24 (by decide +kernel) ?_
      refine n_ge (tgt := 66) hx hb (by omega) (by omega) dX0_tryFrom_26 (by decide) (fun c_1 => ?_) (fun c_1 => ?_)
      · refine lv_iload hx hb dX0_tryFrom_66 (lv_at hl 4 rfl) ?_
        exact W.iret (v := (nI (s_tm wd qf 0 a c9))) hx hb hr (fun t ht hW => ⟨_, rfl, by exact congrArg nI (s_tm_x (by decide) h_a c_1 h_z), ht⟩) (fun _ h => nomatch h) dX0_tryFrom_68
      refine lv_aload_n hx hb dX0_tryFrom_29 rfl (lv_at hl 0 rfl) ?_
      refine lv_iload_n hx hb dX0_tryFrom_30 rfl (lv_at hl 2 rfl) ?_
      refine n_iald hx hb hK hP 1 0 rfl rfl (i := 0) (by omega) (by decide) dX0_tryFrom_31 ?_
      refine lv_aload_n hx hb dX0_tryFrom_32 rfl (lv_at hl 1 rfl) ?_
      refine lv_iload hx hb dX0_tryFrom_33 (lv_at hl 5 rfl) ?_
      refine n_iald hx hb hK hP 2 0 rfl rfl (i := a + c9) (by omega) (by decide) dX0_tryFrom_35 ?_
      refine oq_ne (wd := wd) (qf := qf) (i := 0) (j := (a + c9)) (tgt := 60) hx hb hBD (by omega) (by omega) dX0_tryFrom_36 (by decide) (fun c_2 => ?_) (fun c_2 => ?_)
      · refine lv_iinc (v := (nI (a + c9 + 1))) (lv' := [(5, .int (nI (a + c9 + 1))), (0, .ref (ax 12)), (1, .ref (ax 13)), (2, .int (nI (0))), (3, .int (nI (a))), (4, .int (nI (s_tm wd qf 0 a c9)))]) hx hb dX0_tryFrom_60 hl (k := 5) rfl (nI_1 _) (by decide) rfl (fun ls hl => ?_)
        refine lv_goto (tgt := 22) hx hb dX0_tryFrom_63 (by decide) ?_
        have e_3 : ((nI (s_tm wd qf 0 a c9)) : Int32) = (nI (s_tm wd qf 0 a (c9 + 1))) := by first | exact congrArg nI (s_tm_t c_2).symm | exact congrArg nI (s_tm_f c_2).symm | exact congrArg nI (by rw [s_tm_f c_2]) | rfl
        have e_4 : ((nI (a + c9 + 1)) : Int32) = (nI (a + (c9 + 1))) := by first | exact congrArg nI (s_tm_t c_2).symm | exact congrArg nI (s_tm_f c_2).symm | exact congrArg nI (by rw [s_tm_f c_2]) | rfl
        exact ih_22 (c9 + 1) (by omega) (by omega) _ (show lv_has ls 6 [(0, .ref (ax 12)), (1, .ref (ax 13)), (2, .int (nI (0))), (3, .int (nI (a))), (4, .int (nI (s_tm wd qf 0 a (c9 + 1)))), (5, .int (nI (a + (c9 + 1))))] from by rw [← e_3, ← e_4]; exact lv_sub hl [1, 2, 3, 4, 5, 0] rfl)
      have hF1 := FL_le wd qf 1 (a + c9 + 1)
      have hF2 := s_tm_b (wd := wd) (qf := qf) (i := 0) (a := a) c9
      refine lv_iload hx hb dX0_tryFrom_39 (lv_at hl 4 rfl) ?_
      refine lv_iconst (v := (nI (1))) hx hb dX0_tryFrom_41 (by decide +kernel) ?_
      refine lv_aload_n hx hb dX0_tryFrom_42 rfl (lv_at hl 0 rfl) ?_
      refine lv_aload_n hx hb dX0_tryFrom_43 rfl (lv_at hl 1 rfl) ?_
      refine lv_iload_n hx hb dX0_tryFrom_44 rfl (lv_at hl 2 rfl) ?_
      refine lv_iconst (v := (nI (1))) hx hb dX0_tryFrom_45 (by decide +kernel) ?_
      refine lv_iadd hx hb dX0_tryFrom_46 ?_
      refine n_top (y := (nI (1))) (nI_add _ _) ?_
      refine lv_iload hx hb dX0_tryFrom_47 (lv_at hl 5 rfl) ?_
      refine lv_iconst (v := (nI (1))) hx hb dX0_tryFrom_49 (by decide +kernel) ?_
      refine lv_iadd hx hb dX0_tryFrom_50 ?_
      refine n_top (y := (nI (a + c9 + 1))) (nI_add _ _) ?_
      refine ro2_S (As := [.ref (ax 12), .ref (ax 13), .int (nI (1)), .int (nI (a + c9 + 1))]) (v := (nI (FL wd qf 1 (a + c9 + 1)))) ⟨hx, hb, hml, hown, hts⟩ (kX0_tryFrom_1 l D cI cZ cA ax wd qf T (a + c9 + 1) hBD (by omega)) (va_cwS 4 hts gX0_tryFrom_X0_tryFrom rfl rfl rfl hsX0_tryFrom ⟨Nat.le_of_ble_eq_true rfl, Nat.le_of_ble_eq_true rfl⟩) (preSR hK hP) rfl hl.1 rfl (Nat.le_of_ble_eq_true rfl) dX0_tryFrom_51 ⟨Nat.zero_le _, Nat.zero_le _⟩ ?_
      refine lv_iadd hx hb dX0_tryFrom_54 ?_
      refine n_top (y := (nI (1 + (FL wd qf 1 (a + c9 + 1))))) (nI_add _ _) ?_
      refine va_mmax hx hb (hml.trans hl.1.symm) hown hm_31 hms_max hmi hmc_max (Nat.le_of_ble_eq_true rfl) (Nat.le_of_ble_eq_true rfl) (Nat.zero_le _) (Nat.zero_le _) dX0_tryFrom_55 ?_
      refine n_top (y := (nI (if (s_tm wd qf 0 a c9) < (1 + (FL wd qf 1 (a + c9 + 1))) then (1 + (FL wd qf 1 (a + c9 + 1))) else (s_tm wd qf 0 a c9)))) (n_max (by omega) (by omega)) ?_
      refine lv_istore (lv' := [(4, .int (nI (if (s_tm wd qf 0 a c9) < (1 + (FL wd qf 1 (a + c9 + 1))) then (1 + (FL wd qf 1 (a + c9 + 1))) else (s_tm wd qf 0 a c9)))), (0, .ref (ax 12)), (1, .ref (ax 13)), (2, .int (nI (0))), (3, .int (nI (a))), (5, .int (nI (a + c9)))]) hx hb dX0_tryFrom_58 hl (by decide) rfl (fun ls hl => ?_)
      refine lv_iinc (v := (nI (a + c9 + 1))) (lv' := [(5, .int (nI (a + c9 + 1))), (4, .int (nI (if (s_tm wd qf 0 a c9) < (1 + (FL wd qf 1 (a + c9 + 1))) then (1 + (FL wd qf 1 (a + c9 + 1))) else (s_tm wd qf 0 a c9)))), (0, .ref (ax 12)), (1, .ref (ax 13)), (2, .int (nI (0))), (3, .int (nI (a)))]) hx hb dX0_tryFrom_60 hl (k := 5) rfl (nI_1 _) (by decide) rfl (fun ls hl => ?_)
      refine lv_goto (tgt := 22) hx hb dX0_tryFrom_63 (by decide) ?_
      have e_5 : ((nI (if (s_tm wd qf 0 a c9) < (1 + (FL wd qf 1 (a + c9 + 1))) then (1 + (FL wd qf 1 (a + c9 + 1))) else (s_tm wd qf 0 a c9))) : Int32) = (nI (s_tm wd qf 0 a (c9 + 1))) := by first | exact congrArg nI (s_tm_t c_2).symm | exact congrArg nI (s_tm_f c_2).symm | exact congrArg nI (by rw [s_tm_f c_2]) | rfl
      have e_6 : ((nI (a + c9 + 1)) : Int32) = (nI (a + (c9 + 1))) := by first | exact congrArg nI (s_tm_t c_2).symm | exact congrArg nI (s_tm_f c_2).symm | exact congrArg nI (by rw [s_tm_f c_2]) | rfl
      exact ih_22 (c9 + 1) (by omega) (by omega) _ (show lv_has ls 6 [(0, .ref (ax 12)), (1, .ref (ax 13)), (2, .int (nI (0))), (3, .int (nI (a))), (4, .int (nI (s_tm wd qf 0 a (c9 + 1)))), (5, .int (nI (a + (c9 + 1))))] from by rw [← e_5, ← e_6]; exact lv_sub hl [2, 3, 4, 5, 1, 0] rfl)
  have e_7 : ((nI (FL wd qf 1 a)) : Int32) = (nI (s_tm wd qf 0 a 0)) := by rfl
  have e_8 : ((nI (a)) : Int32) = (nI (a + 0)) := by rfl
  exact loop_22 (8 - (a + 0) + 1) 0 (by omega) (by omega) _ (show lv_has ls 6 [(0, .ref (ax 12)), (1, .ref (ax 13)), (2, .int (nI (0))), (3, .int (nI (a))), (4, .int (nI (s_tm wd qf 0 a 0))), (5, .int (nI (a + 0)))] from by rw [← e_7, ← e_8]; exact lv_sub hl [2, 3, 4, 5, 1, 0] rfl)
set_option maxHeartbeats 4000000 in
set_option maxRecDepth 100000 in
theorem kX0_mostPartnersByTrying (l : Launch) (D : va_G) (cI cZ cA : ClassId) (ax : Nat → Nat) (wd : Nat → Option Nat) (qf : Nat → Option Nat) (T : Nat → Nat → Nat) (hBD : BD wd qf) : Met l yX0_mostPartnersByTrying wsX0_mostPartnersByTrying ({ frames := 9, cells := 0, slots := 0, locals := 225 }) (PcR D [(cI, .int), (cZ, .boolean), (cA, .array .int)] (wA cI cA ax wd qf T) [.ref (ax 11)]) (vp_Si (fun r => r = (nI (FL wd qf 0 0)))) 0 0 (fun _ => False) := by
  refine Met.ofW (cc := cX0_mostPartnersByTrying) (maxL := 1) (ret := (some .int)) (by decide) rfl ?_
  intro p e s m args below meth c s₁ BL hml hv
  obtain ⟨rfl, hP, hK⟩ := hv
  have hx := BL.exec
  have hb := BL.bytes
  have hr := BL.returns
  have hts := atoms_spec (ws := wsX0_mostPartnersByTrying) BL.pre
  have hown : s.vm.findClass RX0 = some m.cls := findClass_of_methodNamed BL.named
  have hlocks := BL.notSynchronized
  have hin : ∀ w ∈ wsX00, w ∈ wsX0_mostPartnersByTrying := by decide +kernel
  have hf_9 := hts (.fieldLink RX0 9 "TalkRebuilder$Alignment" "wanted" "[I") (by decide +kernel)
  have hf_15 := hts (.fieldLink RX0 15 "TalkRebuilder$Alignment" "offered" "[I") (by decide +kernel)
  have hl := lv_entry ([.ref (ax 11)]) (n := 1) (Nat.le_of_ble_eq_true rfl)
  rw [lg_entry_eq]
  generalize (lg_sl ([.ref (ax 11)]) ++ List.replicate (1 - (lg_sl ([.ref (ax 11)])).length) Slot.unset).toArray = ls at hl ⊢
  have hl : lv_has ls 1 [(0, .ref (ax 11))] := hl
  refine lv_aload_n hx hb dX0_mostPartnersByTrying_0 rfl (lv_at hl 0 rfl) ?_
  refine va_get (D := D) (ci := 2) (v := .ref (ax 12)) (C := RX0) (T := TX0) (N := 3) hx hb hts hin hown hK hP 0 rfl rfl 0 (by decide) hf_9 (fun _ h9 => h9) rfl dX0_mostPartnersByTrying_1 ?_
  refine lv_aload_n hx hb dX0_mostPartnersByTrying_4 rfl (lv_at hl 0 rfl) ?_
  refine va_get (D := D) (ci := 2) (v := .ref (ax 13)) (C := RX0) (T := TX0) (N := 3) hx hb hts hin hown hK hP 0 rfl rfl 1 (by decide) hf_15 (fun _ h9 => h9) rfl dX0_mostPartnersByTrying_5 ?_
  refine lv_iconst (v := (nI (0))) hx hb dX0_mostPartnersByTrying_8 (by decide +kernel) ?_
  refine lv_iconst (v := (nI (0))) hx hb dX0_mostPartnersByTrying_9 (by decide +kernel) ?_
  refine ro2_S (As := [.ref (ax 12), .ref (ax 13), .int (nI (0)), .int (nI (0))]) (v := (nI (FL wd qf 0 0))) ⟨hx, hb, hml, hown, hts⟩ (kX0_tryFrom_0 l D cI cZ cA ax wd qf T 0 hBD (by omega)) (va_cwS 4 hts gX0_mostPartnersByTrying_X0_tryFrom rfl rfl rfl hsX0_tryFrom ⟨Nat.le_of_ble_eq_true rfl, Nat.le_of_ble_eq_true rfl⟩) (preSR hK hP) rfl hl.1 rfl (Nat.le_of_ble_eq_true rfl) dX0_mostPartnersByTrying_10 ⟨Nat.zero_le _, Nat.zero_le _⟩ ?_
  exact W.iret (v := (nI (FL wd qf 0 0))) hx hb hr (fun t ht hW => ⟨_, rfl, rfl, ht⟩) (fun _ h => nomatch h) dX0_mostPartnersByTrying_13
theorem hdX0_mostPartnersByTrying : yX0_mostPartnersByTrying.cls = RX0 ∧ yX0_mostPartnersByTrying.cls ≠ "java/lang/invoke/MethodHandle" ∧ yX0_mostPartnersByTrying.cls ≠ "java/lang/invoke/VarHandle" ∧ (parseMethodDescriptor yX0_mostPartnersByTrying.desc).map (fun d => d.parameters.length) = some 0 := by decide +kernel
