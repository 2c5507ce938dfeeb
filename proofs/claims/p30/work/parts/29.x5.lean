set_option maxHeartbeats 4000000 in
set_option maxRecDepth 100000 in
theorem kX1_faceParent (l : Launch) (D : va_G) (cI cZ cA : ClassId) (ax : Nat → Nat) (n : Nat) (B : Nat → Nat → Nat) (Q : Nat → Option Nat) (cn : Nat → Bool) (rt : Nat → Nat) (wd : Nat → Option Nat) (qf : Nat → Option Nat) (T : Nat → Nat → Nat) (sz : Nat) (u : Nat) (hB : Bok n B) (h_u : u < n) : Met l yX1_faceParent wsX1_faceParent ({ frames := 2, cells := 0, slots := 0, locals := 45 }) (PcMN D [(cI, .int), (cZ, .boolean), (cA, .array .int)] (wX cI cZ cA ax n B Q cn rt wd qf T) sz [.ref (ax 0), .int (nI (u))]) (va_Qv (fun (u9 : (Nat → Option Nat) × (Nat → Option Nat)) => FW n B u u9.1 u9.2) (fun (u9 : (Nat → Option Nat) × (Nat → Option Nat)) t => AtW D [(cI, .int), (cZ, .boolean), (cA, .array .int)] (va_A (wX cI cZ cA ax n B Q cn rt wd qf T) sz) (wX cI cZ cA ax n B Q cn rt u9.1 u9.2 T) t) (va_A (wX cI cZ cA ax n B Q cn rt wd qf T) sz)) 0 0 (va_A (wX cI cZ cA ax n B Q cn rt wd qf T) sz) := by
  refine Met.ofW (cc := cX1_faceParent) (maxL := 5) (ret := none) (by decide) rfl ?_
  intro p e s m args below meth c s₁ BL hml hv
  obtain ⟨rfl, hsz, hP, hK, hD0, hN⟩ := hv
  have hx := BL.exec
  have hb := BL.bytes
  have hr := BL.returns
  have hts := atoms_spec (ws := wsX1_faceParent) BL.pre
  have hown : s.vm.findClass RX1 = some m.cls := findClass_of_methodNamed BL.named
  have hlocks := BL.notSynchronized
  have hin : ∀ w ∈ wsX10, w ∈ wsX1_faceParent := by decide +kernel
  have hf_26 := hts (.fieldLink RX1 26 "TalkRebuilder" "lineCounts" "[I") (by decide +kernel)
  have hf_29 := hts (.fieldLink RX1 29 "TalkRebuilder" "marksAt" "[I") (by decide +kernel)
  have hf_32 := hts (.fieldLink RX1 32 "TalkRebuilder" "wordsAt" "[I") (by decide +kernel)
  have hf_41 := hts (.fieldLink RX1 41 "TalkRebuilder" "alignment" "LTalkRebuilder$Alignment;") (by decide +kernel)
  have hl := lv_entry ([.ref (ax 0), .int (nI (u))]) (n := 5) (Nat.le_of_ble_eq_true rfl)
  rw [lg_entry_eq]
  generalize (lg_sl ([.ref (ax 0), .int (nI (u))]) ++ List.replicate (5 - (lg_sl ([.ref (ax 0), .int (nI (u))])).length) Slot.unset).toArray = ls at hl ⊢
  have hl : lv_has ls 5 [(0, .ref (ax 0)), (1, .int (nI (u)))] := hl
  subst hsz
  have hD := hD0.self (sz := s.heap.size)
  generalize hAe : va_A (wX cI cZ cA ax n B Q cn rt wd qf T) s.heap.size = A at hD ⊢
  have hA : ∀ q : Nat, s.heap.size ≤ q → A q := fun q h => by rw [← hAe]; exact Or.inr h
  have hS : va_S A s.heap s.heap [] := va_S.rf
  have hP : va_P D vwCl (wX cI cZ cA ax n B Q cn rt wd qf T) s.heap := hP
  have hD : va_D A (wX cI cZ cA ax n B Q cn rt wd qf T) := hD
  have hn10 := hB.1
  have h8u := hB.2.2.1 u
  refine lv_aload_n hx hb dX1_faceParent_0 rfl (lv_at hl 0 rfl) ?_
  refine va_get (D := D) (ci := 3) (v := .ref (ax 11)) (C := RX1) (T := TX1) (N := 12) hx hb hts hin hown hK hP 0 rfl rfl 9 (by decide) hf_41 (fun _ h9 => h9) rfl dX1_faceParent_1 ?_
  refine mo2_Vv (wr := (wX0 cI cZ ax n B Q cn rt)) (As := []) ⟨hx, hb, hml, hown, hts⟩ (kX0_clear l D cI cZ cA ax wd qf T s.heap.size  ) (cwV 0 hts gX1_faceParent_X0_clear rfl rfl rfl hdX0_clear ⟨Nat.le_of_ble_eq_true rfl, Nat.le_of_ble_eq_true rfl⟩) (preM (wr := (wX0 cI cZ ax n B Q cn rt)) hK hP hD (ci := 2) rfl (q0 := 11) rfl rfl) hP hD hS hA rfl hl.1 rfl (Nat.le_of_ble_eq_true rfl) dX1_faceParent_4 ⟨Nat.zero_le _, Nat.zero_le _⟩ (fun u_1 H locs hw_1 hP hD hS => ?_)
  obtain ⟨wd_1, qf_1⟩ := u_1
  have hP : va_P D vwCl (wX cI cZ cA ax n B Q cn rt wd_1 qf_1 T) H := hP
  have hD : va_D A (wX cI cZ cA ax n B Q cn rt wd_1 qf_1 T) := hD
  have hcl := hw_1
  refine lv_aload_n hx hb dX1_faceParent_7 rfl (lv_at hl 0 rfl) ?_
  refine lv_iload_n hx hb dX1_faceParent_8 rfl (lv_at hl 1 rfl) ?_
  refine ro_V (As := [.int (nI (u))]) (v := (oI (s_par n B u))) ⟨hx, hb, hml, hown, hts⟩ (kX1_parentOf l D cI cZ cA ax n B Q cn rt wd_1 qf_1 T u hB h_u) (cwV 1 hts gX1_faceParent_X1_parentOf rfl rfl rfl hdX1_parentOf ⟨Nat.le_of_ble_eq_true rfl, Nat.le_of_ble_eq_true rfl⟩) hK hP (ci := 3) rfl (q0 := 0) rfl rfl rfl hl.1 rfl (Nat.le_of_ble_eq_true rfl) dX1_faceParent_9 ⟨Nat.zero_le _, Nat.zero_le _⟩ ?_
  refine lv_istore_n (lv' := [(2, .int (oI (s_par n B u))), (0, .ref (ax 0)), (1, .int (nI (u)))]) hx hb dX1_faceParent_12 rfl hl (by decide) rfl (fun ls hl => ?_)
  refine lv_iload_n hx hb dX1_faceParent_13 rfl (lv_at hl 0 rfl) ?_
  refine lv_iconst (v := (oI (none))) hx hb dX1_faceParent_14 (by decide +kernel) ?_
  refine o_ne (tgt := 19) hx hb (s_par_b hn10) dX1_faceParent_15 (by decide) (fun q1 c_2 => ?_) (fun c_2 => ?_)
  · rw [c_2] at hl
    have hl : lv_has ls 5 [(2, .int (nI (q1))), (0, .ref (ax 0)), (1, .int (nI (u)))] := hl
    have hp1 := c_2
    have hq1 := (s_par_lt hp1).1
    have h8q := hB.2.2.1 q1
    refine lv_iconst (v := (nI (0))) hx hb dX1_faceParent_19 (by decide +kernel) ?_
    refine lv_istore_n (lv' := [(3, .int (nI (0))), (2, .int (nI (q1))), (0, .ref (ax 0)), (1, .int (nI (u)))]) hx hb dX1_faceParent_20 rfl hl (by decide) rfl (fun ls hl => ?_)
    have loop_21 : ∀ (N : Nat) (z : Nat) (wd : Nat → Option Nat) (qf : Nat → Option Nat), B 4 u - z < N → (z ≤ B 4 u) → (FWa n B u z wd qf) → ∀ (H : Heap) (locs : List Loc), va_P D vwCl (wX cI cZ cA ax n B Q cn rt wd qf T) H → va_D A (wX cI cZ cA ax n B Q cn rt wd qf T) → va_S A s.heap H locs → ∀ (ls : Array Slot), lv_has ls 5 [(0, .ref (ax 0)), (1, .int (nI (u))), (2, .int (nI (q1))), (3, .int (nI (z)))] → W p l e (headSpec wsX1_faceParent ({ frames := 2, cells := 0, slots := 0, locals := 45 })).room s m ([.ref (ax 0), .int (nI (u))] : List Value).toArray below meth c H locs 0 0 (MQ below (va_Qv (fun (u9 : (Nat → Option Nat) × (Nat → Option Nat)) => FW n B u u9.1 u9.2) (fun (u9 : (Nat → Option Nat) × (Nat → Option Nat)) t => AtW D [(cI, .int), (cZ, .boolean), (cA, .array .int)] A (wX cI cZ cA ax n B Q cn rt u9.1 u9.2 T) t) A) ([.ref (ax 0), .int (nI (u))] : List Value).toArray s 0 0 A) (F0 m 21 ls []) := by
      intro N
      induction N with
      | zero => intro z wd qf hmu; exact absurd hmu (Nat.not_lt_zero _)
      | succ N ih_21 =>
        intro z wd qf hmu_21 h_z h_a H locs hP hD hS ls hl
        refine lv_iload_n hx hb dX1_faceParent_21 rfl (lv_at hl 3 rfl) ?_
        refine lv_aload_n hx hb dX1_faceParent_22 rfl (lv_at hl 0 rfl) ?_
        refine va_get (D := D) (ci := 3) (v := .ref (ax 5)) (C := RX1) (T := TX1) (N := 12) hx hb hts hin hown hK hP 0 rfl rfl 5 (by decide) hf_26 (fun _ h9 => h9) rfl dX1_faceParent_23 ?_
        refine lv_iload_n hx hb dX1_faceParent_26 rfl (lv_at hl 1 rfl) ?_
        refine n_iald hx hb hK hP 5 0 rfl rfl (i := u) (by omega) (by decide) dX1_faceParent_27 ?_
        have hq_3 := hB.2.2.1 u
        refine n_ge (tgt := 66) hx hb (by omega) (by omega) dX1_faceParent_28 (by decide) (fun c_4 => ?_) (fun c_4 => ?_)
        · refine lv_iconst (v := (nI (0))) hx hb dX1_faceParent_66 (by decide +kernel) ?_
          refine lv_istore_n (lv' := [(3, .int (nI (0))), (0, .ref (ax 0)), (1, .int (nI (u))), (2, .int (nI (q1)))]) hx hb dX1_faceParent_67 rfl hl (by decide) rfl (fun ls hl => ?_)
          have loop_68 : ∀ (N : Nat) (y : Nat) (wd : Nat → Option Nat) (qf : Nat → Option Nat), B 4 q1 - y < N → (y ≤ B 4 q1) → (FWb n B u y wd qf) → ∀ (H : Heap) (locs : List Loc), va_P D vwCl (wX cI cZ cA ax n B Q cn rt wd qf T) H → va_D A (wX cI cZ cA ax n B Q cn rt wd qf T) → va_S A s.heap H locs → ∀ (ls : Array Slot), lv_has ls 5 [(0, .ref (ax 0)), (1, .int (nI (u))), (2, .int (nI (q1))), (3, .int (nI (y)))] → W p l e (headSpec wsX1_faceParent ({ frames := 2, cells := 0, slots := 0, locals := 45 })).room s m ([.ref (ax 0), .int (nI (u))] : List Value).toArray below meth c H locs 0 0 (MQ below (va_Qv (fun (u9 : (Nat → Option Nat) × (Nat → Option Nat)) => FW n B u u9.1 u9.2) (fun (u9 : (Nat → Option Nat) × (Nat → Option Nat)) t => AtW D [(cI, .int), (cZ, .boolean), (cA, .array .int)] A (wX cI cZ cA ax n B Q cn rt u9.1 u9.2 T) t) A) ([.ref (ax 0), .int (nI (u))] : List Value).toArray s 0 0 A) (F0 m 68 ls []) := by
            intro N
            induction N with
            | zero => intro y wd qf hmu; exact absurd hmu (Nat.not_lt_zero _)
            | succ N ih_68 =>
              intro y wd qf hmu_68 h_y h_b H locs hP hD hS ls hl
              refine lv_iload_n hx hb dX1_faceParent_68 rfl (lv_at hl 3 rfl) ?_
              refine lv_aload_n hx hb dX1_faceParent_69 rfl (lv_at hl 0 rfl) ?_
              refine va_get (D := D) (ci := 3) (v := .ref (ax 5)) (C := RX1) (T := TX1) (N := 12) hx hb hts hin hown hK hP 0 rfl rfl 5 (by decide) hf_26 (fun _ h9 => h9) rfl dX1_faceParent_70 ?_
              refine lv_iload_n hx hb dX1_faceParent_73 rfl (lv_at hl 2 rfl) ?_
              refine n_iald hx hb hK hP 5 0 rfl rfl (i := q1) (by omega) (by decide) dX1_faceParent_74 ?_
              have hq_5 := hB.2.2.1 q1
              refine n_ge (tgt := 113) hx hb (by omega) (by omega) dX1_faceParent_75 (by decide) (fun c_6 => ?_) (fun c_6 => ?_)
              · exact W.vret hx hb hr (fun t ht hW => ⟨⟨(wd, qf), rfl, (by first | exact FW_n hcl c_6 | exact FWb_e h_b hp1 c_6 h_y), by rw [ht]; exact hP, va_K.moved hW.alike hK, hD⟩, hS.F ht⟩) hS.2.2 dX1_faceParent_113
              refine lv_iload_n hx hb dX1_faceParent_78 rfl (lv_at hl 2 rfl) ?_
              refine lv_iload_n hx hb dX1_faceParent_79 rfl (lv_at hl 3 rfl) ?_
              refine ro_S (As := [.int (nI (q1)), .int (nI (y))]) (v := (nI (8 * q1 + y))) ⟨hx, hb, hml, hown, hts⟩ (kX1_placeOf l q1 y (by omega) (by omega)) (va_cwS 2 hts gX1_faceParent_X1_placeOf rfl rfl rfl hsX1_placeOf ⟨Nat.le_of_ble_eq_true rfl, Nat.le_of_ble_eq_true rfl⟩) rfl hl.1 rfl (Nat.le_of_ble_eq_true rfl) dX1_faceParent_80 ⟨Nat.zero_le _, Nat.zero_le _⟩ ?_
              refine lv_istore (lv' := [(4, .int (nI (8 * q1 + y))), (0, .ref (ax 0)), (1, .int (nI (u))), (2, .int (nI (q1))), (3, .int (nI (y)))]) hx hb dX1_faceParent_83 hl (by decide) rfl (fun ls hl => ?_)
              refine lv_aload_n hx hb dX1_faceParent_85 rfl (lv_at hl 1 rfl) ?_
              refine va_get (D := D) (ci := 3) (v := .ref (ax 11)) (C := RX1) (T := TX1) (N := 12) hx hb hts hin hown hK hP 0 rfl rfl 9 (by decide) hf_41 (fun _ h9 => h9) rfl dX1_faceParent_86 ?_
              refine lv_iload_n hx hb dX1_faceParent_89 rfl (lv_at hl 4 rfl) ?_
              refine lv_aload_n hx hb dX1_faceParent_90 rfl (lv_at hl 1 rfl) ?_
              refine va_get (D := D) (ci := 3) (v := .ref (ax 6)) (C := RX1) (T := TX1) (N := 12) hx hb hts hin hown hK hP 0 rfl rfl 6 (by decide) hf_29 (fun _ h9 => h9) rfl dX1_faceParent_91 ?_
              refine lv_iload hx hb dX1_faceParent_94 (lv_at hl 0 rfl) ?_
              refine n_iald hx hb hK hP 6 0 rfl rfl (i := 8 * q1 + y) (by omega) (by decide) dX1_faceParent_96 ?_
              have hq_7 := hB.2.2.2.2.2.1 (8 * q1 + y)
              refine lv_aload_n hx hb dX1_faceParent_97 rfl (lv_at hl 1 rfl) ?_
              refine va_get (D := D) (ci := 3) (v := .ref (ax 7)) (C := RX1) (T := TX1) (N := 12) hx hb hts hin hown hK hP 0 rfl rfl 7 (by decide) hf_32 (fun _ h9 => h9) rfl dX1_faceParent_98 ?_
              refine lv_iload hx hb dX1_faceParent_101 (lv_at hl 0 rfl) ?_
              refine n_iald hx hb hK hP 7 0 rfl rfl (i := 8 * q1 + y) (by omega) (by decide) dX1_faceParent_103 ?_
              have hq_8 := hB.2.1 6 (8 * q1 + y)
              refine mo2_Vv (wr := (wX0 cI cZ ax n B Q cn rt)) (As := [.int (nI (y)), .int (nI (B 5 (8 * q1 + y))), .int (nI (B 6 (8 * q1 + y)))]) ⟨hx, hb, hml, hown, hts⟩ (kX0_putParentLine l D cI cZ cA ax wd qf T H.size y (B 5 (8 * q1 + y)) (B 6 (8 * q1 + y)) (by omega)) (cwV 3 hts gX1_faceParent_X0_putParentLine rfl rfl rfl hdX0_putParentLine ⟨Nat.le_of_ble_eq_true rfl, Nat.le_of_ble_eq_true rfl⟩) (preMN (wr := (wX0 cI cZ ax n B Q cn rt)) hN hK hP hD (ci := 2) rfl (q0 := 11) rfl rfl) hP hD hS hA rfl hl.1 rfl (Nat.le_of_ble_eq_true rfl) dX1_faceParent_104 ⟨Nat.zero_le _, Nat.zero_le _⟩ (fun (u9 : Unit) H locs hw_9 hP hD hS => ?_)
              have hP : va_P D vwCl (wX cI cZ cA ax n B Q cn rt wd (va_up qf y (some (s_mw (B 5 (8 * q1 + y)) (B 6 (8 * q1 + y))))) T) H := hP
              have hD : va_D A (wX cI cZ cA ax n B Q cn rt wd (va_up qf y (some (s_mw (B 5 (8 * q1 + y)) (B 6 (8 * q1 + y))))) T) := hD
              refine lv_iinc (v := (nI (y + 1))) (lv' := [(3, .int (nI (y + 1))), (4, .int (nI (8 * q1 + y))), (0, .ref (ax 0)), (1, .int (nI (u))), (2, .int (nI (q1)))]) hx hb dX1_faceParent_107 hl (k := 4) rfl (nI_1 _) (by decide) rfl (fun ls hl => ?_)
              refine lv_goto (tgt := 68) hx hb dX1_faceParent_110 (by decide) ?_
              exact ih_68 (y + 1) wd (va_up qf y (some (s_mw (B 5 (8 * q1 + y)) (B 6 (8 * q1 + y))))) (by omega) (by omega) (by first | exact FWb_0 h_a c_6 h_z | exact FWb_s hp1 (by omega) h_b) _ _ hP hD hS _ (show lv_has ls 5 [(0, .ref (ax 0)), (1, .int (nI (u))), (2, .int (nI (q1))), (3, .int (nI (y + 1)))] from by exact lv_sub hl [2, 3, 4, 0] rfl)
          exact loop_68 (B 4 q1 - 0 + 1) 0 wd qf (by omega) (by omega) (by first | exact FWb_0 h_a c_4 h_z | exact FWb_s hp1 (by omega) h_b) _ _ hP hD hS _ (show lv_has ls 5 [(0, .ref (ax 0)), (1, .int (nI (u))), (2, .int (nI (q1))), (3, .int (nI (0)))] from by exact lv_sub hl [1, 2, 3, 0] rfl)
        refine lv_iload_n hx hb dX1_faceParent_31 rfl (lv_at hl 1 rfl) ?_
        refine lv_iload_n hx hb dX1_faceParent_32 rfl (lv_at hl 3 rfl) ?_
        refine ro_S (As := [.int (nI (u)), .int (nI (z))]) (v := (nI (8 * u + z))) ⟨hx, hb, hml, hown, hts⟩ (kX1_placeOf l u z (by omega) (by omega)) (va_cwS 2 hts gX1_faceParent_X1_placeOf rfl rfl rfl hsX1_placeOf ⟨Nat.le_of_ble_eq_true rfl, Nat.le_of_ble_eq_true rfl⟩) rfl hl.1 rfl (Nat.le_of_ble_eq_true rfl) dX1_faceParent_33 ⟨Nat.zero_le _, Nat.zero_le _⟩ ?_
        refine lv_istore (lv' := [(4, .int (nI (8 * u + z))), (0, .ref (ax 0)), (1, .int (nI (u))), (2, .int (nI (q1))), (3, .int (nI (z)))]) hx hb dX1_faceParent_36 hl (by decide) rfl (fun ls hl => ?_)
        refine lv_aload_n hx hb dX1_faceParent_38 rfl (lv_at hl 1 rfl) ?_
        refine va_get (D := D) (ci := 3) (v := .ref (ax 11)) (C := RX1) (T := TX1) (N := 12) hx hb hts hin hown hK hP 0 rfl rfl 9 (by decide) hf_41 (fun _ h9 => h9) rfl dX1_faceParent_39 ?_
        refine lv_iload_n hx hb dX1_faceParent_42 rfl (lv_at hl 4 rfl) ?_
        refine lv_aload_n hx hb dX1_faceParent_43 rfl (lv_at hl 1 rfl) ?_
        refine va_get (D := D) (ci := 3) (v := .ref (ax 6)) (C := RX1) (T := TX1) (N := 12) hx hb hts hin hown hK hP 0 rfl rfl 6 (by decide) hf_29 (fun _ h9 => h9) rfl dX1_faceParent_44 ?_
        refine lv_iload hx hb dX1_faceParent_47 (lv_at hl 0 rfl) ?_
        refine n_iald hx hb hK hP 6 0 rfl rfl (i := 8 * u + z) (by omega) (by decide) dX1_faceParent_49 ?_
        have hq_10 := hB.2.2.2.2.2.1 (8 * u + z)
        refine lv_aload_n hx hb dX1_faceParent_50 rfl (lv_at hl 1 rfl) ?_
        refine va_get (D := D) (ci := 3) (v := .ref (ax 7)) (C := RX1) (T := TX1) (N := 12) hx hb hts hin hown hK hP 0 rfl rfl 7 (by decide) hf_32 (fun _ h9 => h9) rfl dX1_faceParent_51 ?_
        refine lv_iload hx hb dX1_faceParent_54 (lv_at hl 0 rfl) ?_
        refine n_iald hx hb hK hP 7 0 rfl rfl (i := 8 * u + z) (by omega) (by decide) dX1_faceParent_56 ?_
        have hq_11 := hB.2.1 6 (8 * u + z)
        refine mo2_Vv (wr := (wX0 cI cZ ax n B Q cn rt)) (As := [.int (nI (z)), .int (nI (B 5 (8 * u + z))), .int (nI (B 6 (8 * u + z)))]) ⟨hx, hb, hml, hown, hts⟩ (kX0_putLine l D cI cZ cA ax wd qf T H.size z (B 5 (8 * u + z)) (B 6 (8 * u + z)) (by omega) (by omega)) (cwV 3 hts gX1_faceParent_X0_putLine rfl rfl rfl hdX0_putLine ⟨Nat.le_of_ble_eq_true rfl, Nat.le_of_ble_eq_true rfl⟩) (preMN (wr := (wX0 cI cZ ax n B Q cn rt)) hN hK hP hD (ci := 2) rfl (q0 := 11) rfl rfl) hP hD hS hA rfl hl.1 rfl (Nat.le_of_ble_eq_true rfl) dX1_faceParent_57 ⟨Nat.zero_le _, Nat.zero_le _⟩ (fun (u9 : Unit) H locs hw_12 hP hD hS => ?_)
        have hP : va_P D vwCl (wX cI cZ cA ax n B Q cn rt (va_up wd z (if (B 5 (8 * u + z)) = 0 then none else some (s_mw ((B 5 (8 * u + z)) - 1) (B 6 (8 * u + z))))) qf T) H := hP
        have hD : va_D A (wX cI cZ cA ax n B Q cn rt (va_up wd z (if (B 5 (8 * u + z)) = 0 then none else some (s_mw ((B 5 (8 * u + z)) - 1) (B 6 (8 * u + z))))) qf T) := hD
        refine lv_iinc (v := (nI (z + 1))) (lv' := [(3, .int (nI (z + 1))), (4, .int (nI (8 * u + z))), (0, .ref (ax 0)), (1, .int (nI (u))), (2, .int (nI (q1)))]) hx hb dX1_faceParent_60 hl (k := 4) rfl (nI_1 _) (by decide) rfl (fun ls hl => ?_)
        refine lv_goto (tgt := 21) hx hb dX1_faceParent_63 (by decide) ?_
        exact ih_21 (z + 1) (va_up wd z (if (B 5 (8 * u + z)) = 0 then none else some (s_mw ((B 5 (8 * u + z)) - 1) (B 6 (8 * u + z))))) qf (by omega) (by omega) (by first | exact FWa_0 hcl | exact FWa_s hp1 (by omega) h_a) _ _ hP hD hS _ (show lv_has ls 5 [(0, .ref (ax 0)), (1, .int (nI (u))), (2, .int (nI (q1))), (3, .int (nI (z + 1)))] from by exact lv_sub hl [2, 3, 4, 0] rfl)
    exact loop_21 (B 4 u - 0 + 1) 0 wd_1 qf_1 (by omega) (by omega) (by first | exact FWa_0 hcl | exact FWa_s hp1 (by omega) h_a) _ _ hP hD hS _ (show lv_has ls 5 [(0, .ref (ax 0)), (1, .int (nI (u))), (2, .int (nI (q1))), (3, .int (nI (0)))] from by exact lv_sub hl [2, 3, 1, 0] rfl)
  rw [c_2] at hl
  have hl : lv_has ls 5 [(2, .int (oI (none))), (0, .ref (ax 0)), (1, .int (nI (u)))] := hl
  exact W.vret hx hb hr (fun t ht hW => ⟨⟨(wd_1, qf_1), rfl, (by first | exact FW_n hcl c_2 | exact FWb_e h_b hp1 c_2 h_y), by rw [ht]; exact hP, va_K.moved hW.alike hK, hD⟩, hS.F ht⟩) hS.2.2 dX1_faceParent_18
theorem hdX1_faceParent : yX1_faceParent.cls = RX1 ∧ yX1_faceParent.cls ≠ "java/lang/invoke/MethodHandle" ∧ yX1_faceParent.cls ≠ "java/lang/invoke/VarHandle" ∧ (parseMethodDescriptor yX1_faceParent.desc).map (fun d => d.parameters.length) = some 1 := by decide +kernel
set_option maxHeartbeats 4000000 in
set_option maxRecDepth 100000 in
theorem kX1_realign (l : Launch) (D : va_G) (cI cZ cA : ClassId) (ax : Nat → Nat) (n : Nat) (B : Nat → Nat → Nat) (Q : Nat → Option Nat) (cn : Nat → Bool) (rt : Nat → Nat) (wd : Nat → Option Nat) (qf : Nat → Option Nat) (T : Nat → Nat → Nat) (sz : Nat) (u : Nat) (hB : Bok n B) (h_u : u < n) (h_T : TB T) : Met l yX1_realign wsX1_realign ({ frames := 3, cells := 0, slots := 0, locals := 69 }) (PcMN D [(cI, .int), (cZ, .boolean), (cA, .array .int)] (wX cI cZ cA ax n B Q cn rt wd qf T) sz [.ref (ax 0), .int (nI (u))]) (va_Qv (fun (u9 : (Nat → Option Nat) × (Nat → Option Nat) × (Nat → Option Nat) × (Nat → Nat → Nat)) => QU n B u Q u9.1 ∧ TB u9.2.2.2) (fun (u9 : (Nat → Option Nat) × (Nat → Option Nat) × (Nat → Option Nat) × (Nat → Nat → Nat)) t => AtW D [(cI, .int), (cZ, .boolean), (cA, .array .int)] (va_A (wX cI cZ cA ax n B Q cn rt wd qf T) sz) (wX cI cZ cA ax n B u9.1 cn rt u9.2.1 u9.2.2.1 u9.2.2.2) t) (va_A (wX cI cZ cA ax n B Q cn rt wd qf T) sz)) 0 0 (va_A (wX cI cZ cA ax n B Q cn rt wd qf T) sz) := by
  refine Met.ofW (cc := cX1_realign) (maxL := 6) (ret := none) (by decide) rfl ?_
  intro p e s m args below meth c s₁ BL hml hv
  obtain ⟨rfl, hsz, hP, hK, hD0, hN⟩ := hv
  have hx := BL.exec
  have hb := BL.bytes
  have hr := BL.returns
  have hts := atoms_spec (ws := wsX1_realign) BL.pre
  have hown : s.vm.findClass RX1 = some m.cls := findClass_of_methodNamed BL.named
  have hlocks := BL.notSynchronized
  have hin : ∀ w ∈ wsX10, w ∈ wsX1_realign := by decide +kernel
  have hf_35 := hts (.fieldLink RX1 35 "TalkRebuilder" "partnersAt" "[I") (by decide +kernel)
  have hf_41 := hts (.fieldLink RX1 41 "TalkRebuilder" "alignment" "LTalkRebuilder$Alignment;") (by decide +kernel)
  have hl := lv_entry ([.ref (ax 0), .int (nI (u))]) (n := 6) (Nat.le_of_ble_eq_true rfl)
  rw [lg_entry_eq]
  generalize (lg_sl ([.ref (ax 0), .int (nI (u))]) ++ List.replicate (6 - (lg_sl ([.ref (ax 0), .int (nI (u))])).length) Slot.unset).toArray = ls at hl ⊢
  have hl : lv_has ls 6 [(0, .ref (ax 0)), (1, .int (nI (u)))] := hl
  subst hsz
  have hD := hD0.self (sz := s.heap.size)
  generalize hAe : va_A (wX cI cZ cA ax n B Q cn rt wd qf T) s.heap.size = A at hD ⊢
  have hA : ∀ q : Nat, s.heap.size ≤ q → A q := fun q h => by rw [← hAe]; exact Or.inr h
  have hS : va_S A s.heap s.heap [] := va_S.rf
  have hP : va_P D vwCl (wX cI cZ cA ax n B Q cn rt wd qf T) s.heap := hP
  have hD : va_D A (wX cI cZ cA ax n B Q cn rt wd qf T) := hD
  have hn10 := hB.1
  have h8u := hB.2.2.1 u
  have hcl := s_col_le hB.2.2.1 (n := n) u
  refine lv_aload_n hx hb dX1_realign_0 rfl (lv_at hl 0 rfl) ?_
  refine lv_iload_n hx hb dX1_realign_1 rfl (lv_at hl 1 rfl) ?_
  refine mo2_Vv (wr := []) (As := [.int (nI (u))]) ⟨hx, hb, hml, hown, hts⟩ (kX1_faceParent l D cI cZ cA ax n B Q cn rt wd qf T s.heap.size u hB h_u) (cwV 1 hts gX1_realign_X1_faceParent rfl rfl rfl hdX1_faceParent ⟨Nat.le_of_ble_eq_true rfl, Nat.le_of_ble_eq_true rfl⟩) (preMN (wr := []) hN hK hP hD (ci := 3) rfl (q0 := 0) rfl rfl) hP hD hS hA rfl hl.1 rfl (Nat.le_of_ble_eq_true rfl) dX1_realign_2 ⟨Nat.zero_le _, Nat.zero_le _⟩ (fun u_1 H locs hw_1 hP hD hS => ?_)
  obtain ⟨wd_1, qf_1⟩ := u_1
  have hP : va_P D vwCl (wX cI cZ cA ax n B Q cn rt wd_1 qf_1 T) H := hP
  have hD : va_D A (wX cI cZ cA ax n B Q cn rt wd_1 qf_1 T) := hD
  have hFW := hw_1
  have hBD := FW_BD hB hFW
  refine lv_aload_n hx hb dX1_realign_5 rfl (lv_at hl 0 rfl) ?_
  refine va_get (D := D) (ci := 3) (v := .ref (ax 11)) (C := RX1) (T := TX1) (N := 12) hx hb hts hin hown hK hP 0 rfl rfl 9 (by decide) hf_41 (fun _ h9 => h9) rfl dX1_realign_6 ?_
  refine mo2_Vv (wr := (wX0 cI cZ ax n B Q cn rt)) (As := []) ⟨hx, hb, hml, hown, hts⟩ (kX0_fillTable l D cI cZ cA ax wd_1 qf_1 T H.size  hBD h_T) (cwV 0 hts gX1_realign_X0_fillTable rfl rfl rfl hdX0_fillTable ⟨Nat.le_of_ble_eq_true rfl, Nat.le_of_ble_eq_true rfl⟩) (preM (wr := (wX0 cI cZ ax n B Q cn rt)) hK hP hD (ci := 2) rfl (q0 := 11) rfl rfl) hP hD hS hA rfl hl.1 rfl (Nat.le_of_ble_eq_true rfl) dX1_realign_9 ⟨Nat.zero_le _, Nat.zero_le _⟩ (fun (T_2 : Nat → Nat → Nat) H locs hw_2 hP hD hS => ?_)
  have hP : va_P D vwCl (wX cI cZ cA ax n B Q cn rt wd_1 qf_1 T_2) H := hP
  have hD : va_D A (wX cI cZ cA ax n B Q cn rt wd_1 qf_1 T_2) := hD
  have hTF := hw_2
  refine lv_aload_n hx hb dX1_realign_12 rfl (lv_at hl 0 rfl) ?_
  refine lv_iload_n hx hb dX1_realign_13 rfl (lv_at hl 1 rfl) ?_
  refine ro_V (As := [.int (nI (u))]) (v := (oI (s_par n B u))) ⟨hx, hb, hml, hown, hts⟩ (kX1_parentOf l D cI cZ cA ax n B Q cn rt wd_1 qf_1 T_2 u hB h_u) (cwV 1 hts gX1_realign_X1_parentOf rfl rfl rfl hdX1_parentOf ⟨Nat.le_of_ble_eq_true rfl, Nat.le_of_ble_eq_true rfl⟩) hK hP (ci := 3) rfl (q0 := 0) rfl rfl rfl hl.1 rfl (Nat.le_of_ble_eq_true rfl) dX1_realign_14 ⟨Nat.zero_le _, Nat.zero_le _⟩ ?_
  refine lv_istore_n (lv' := [(2, .int (oI (s_par n B u))), (0, .ref (ax 0)), (1, .int (nI (u)))]) hx hb dX1_realign_17 rfl hl (by decide) rfl (fun ls hl => ?_)
  refine lv_iconst (v := (nI (0))) hx hb dX1_realign_18 (by decide +kernel) ?_
  refine lv_istore_n (lv' := [(3, .int (nI (0))), (2, .int (oI (s_par n B u))), (0, .ref (ax 0)), (1, .int (nI (u)))]) hx hb dX1_realign_19 rfl hl (by decide) rfl (fun ls hl => ?_)
  refine lv_iconst (v := (nI (0))) hx hb dX1_realign_20 (by decide +kernel) ?_
  refine lv_istore (lv' := [(4, .int (nI (0))), (3, .int (nI (0))), (2, .int (oI (s_par n B u))), (0, .ref (ax 0)), (1, .int (nI (u)))]) hx hb dX1_realign_21 hl (by decide) rfl (fun ls hl => ?_)
  have loop_23 : ∀ (N : Nat) (z : Nat) (Q1 : Nat → Option Nat), 8 - z < N → (z ≤ 8) → (QI n B u Q z Q1) → ∀ (H : Heap) (locs : List Loc), va_P D vwCl (wX cI cZ cA ax n B Q1 cn rt wd_1 qf_1 T_2) H → va_D A (wX cI cZ cA ax n B Q1 cn rt wd_1 qf_1 T_2) → va_S A s.heap H locs → ∀ (ls : Array Slot), lv_has ls 6 [(0, .ref (ax 0)), (1, .int (nI (u))), (2, .int (oI (s_par n B u))), (3, .int (nI (s_fr n B u z))), (4, .int (nI (z)))] → W p l e (headSpec wsX1_realign ({ frames := 3, cells := 0, slots := 0, locals := 69 })).room s m ([.ref (ax 0), .int (nI (u))] : List Value).toArray below meth c H locs 0 0 (MQ below (va_Qv (fun (u9 : (Nat → Option Nat) × (Nat → Option Nat) × (Nat → Option Nat) × (Nat → Nat → Nat)) => QU n B u Q u9.1 ∧ TB u9.2.2.2) (fun (u9 : (Nat → Option Nat) × (Nat → Option Nat) × (Nat → Option Nat) × (Nat → Nat → Nat)) t => AtW D [(cI, .int), (cZ, .boolean), (cA, .array .int)] A (wX cI cZ cA ax n B u9.1 cn rt u9.2.1 u9.2.2.1 u9.2.2.2) t) A) ([.ref (ax 0), .int (nI (u))] : List Value).toArray s 0 0 A) (F0 m 23 ls []) := by
    intro N
    induction N with
    | zero => intro z Q1 hmu; exact absurd hmu (Nat.not_lt_zero _)
    | succ N ih_23 =>
      intro z Q1 hmu_23 h_z h_q H locs hP hD hS ls hl
      refine lv_iload hx hb dX1_realign_23 (lv_at hl 4 rfl) ?_
      refine lv_bipush (v := (nI (8))) hx hb dX1_realign_25 (by decide +kernel) ?_
      refine n_ge (tgt := 96) hx hb (by omega) (by omega) dX1_realign_27 (by decide) (fun c_3 => ?_) (fun c_3 => ?_)
      · exact W.vret hx hb hr (fun t ht hW => ⟨⟨(Q1, wd_1, qf_1, T_2), rfl, (⟨QI_U h_q c_3, TF_B hTF⟩), by rw [ht]; exact hP, va_K.moved hW.alike hK, hD⟩, hS.F ht⟩) hS.2.2 dX1_realign_96
      have hfr := s_fr_le (n := n) (B := B) (u := u) (z := z)
      refine lv_aload_n hx hb dX1_realign_30 rfl (lv_at hl 0 rfl) ?_
      refine va_get (D := D) (ci := 3) (v := .ref (ax 11)) (C := RX1) (T := TX1) (N := 12) hx hb hts hin hown hK hP 0 rfl rfl 9 (by decide) hf_41 (fun _ h9 => h9) rfl dX1_realign_31 ?_
      refine lv_iload hx hb dX1_realign_34 (lv_at hl 4 rfl) ?_
      refine lv_iload_n hx hb dX1_realign_36 rfl (lv_at hl 3 rfl) ?_
      refine ro2_V (As := [.int (nI (z)), .int (nI (s_fr n B u z))]) (v := (oI (s_pt (s_fq wd_1 qf_1) 8 8 z (s_fr n B u z)))) ⟨hx, hb, hml, hown, hts⟩ (kX0_earliestPartner l D cI cZ cA ax wd_1 qf_1 T_2 z (s_fr n B u z) hBD hTF (by omega) (by omega)) (cwV 2 hts gX1_realign_X0_earliestPartner rfl rfl rfl hdX0_earliestPartner ⟨Nat.le_of_ble_eq_true rfl, Nat.le_of_ble_eq_true rfl⟩) (preRN hN (wr := (wX0 cI cZ ax n B Q1 cn rt)) hK hP (ci := 2) rfl (q0 := 11) rfl rfl) rfl hl.1 rfl (Nat.le_of_ble_eq_true rfl) dX1_realign_37 ⟨Nat.zero_le _, Nat.zero_le _⟩ ?_
      refine n_top (y := (oI (s_pa n B u z))) (by rw [pt8f hB hFW (by omega)]) ?_
      refine lv_istore (lv' := [(5, .int (oI (s_pa n B u z))), (0, .ref (ax 0)), (1, .int (nI (u))), (2, .int (oI (s_par n B u))), (3, .int (nI (s_fr n B u z))), (4, .int (nI (z)))]) hx hb dX1_realign_40 hl (by decide) rfl (fun ls hl => ?_)
      refine lv_iload_n hx hb dX1_realign_42 rfl (lv_at hl 3 rfl) ?_
      refine lv_iconst (v := (oI (none))) hx hb dX1_realign_43 (by decide +kernel) ?_
      refine o_eq (tgt := 53) hx hb (s_par_b hn10) dX1_realign_44 (by decide) (fun c_4 => ?_) (fun q1 c_4 => ?_)
      · rw [c_4] at hl
        have hl : lv_has ls 6 [(5, .int (oI (s_pa n B u z))), (0, .ref (ax 0)), (1, .int (nI (u))), (2, .int (oI (none))), (3, .int (nI (s_fr n B u z))), (4, .int (nI (z)))] := hl
        refine lv_aload_n hx hb dX1_realign_53 rfl (lv_at hl 1 rfl) ?_
        refine va_get (D := D) (ci := 3) (v := .ref (ax 8)) (C := RX1) (T := TX1) (N := 12) hx hb hts hin hown hK hP 0 rfl rfl 8 (by decide) hf_35 (fun _ h9 => h9) rfl dX1_realign_54 ?_
        refine lv_iload_n hx hb dX1_realign_57 rfl (lv_at hl 2 rfl) ?_
        refine lv_iload hx hb dX1_realign_58 (lv_at hl 5 rfl) ?_
        refine ro_S (As := [.int (nI (u)), .int (nI (z))]) (v := (nI (8 * u + z))) ⟨hx, hb, hml, hown, hts⟩ (kX1_placeOf l u z (by omega) (by omega)) (va_cwS 2 hts gX1_realign_X1_placeOf rfl rfl rfl hsX1_placeOf ⟨Nat.le_of_ble_eq_true rfl, Nat.le_of_ble_eq_true rfl⟩) rfl hl.1 rfl (Nat.le_of_ble_eq_true rfl) dX1_realign_60 ⟨Nat.zero_le _, Nat.zero_le _⟩ ?_
        refine lv_iconst (v := (oI (none))) hx hb dX1_realign_63 (by decide +kernel) ?_
        refine r_iast hx hb hK hP hD hS 8 0 rfl rfl (i := 8 * u + z) (by omega) (by decide) dX1_realign_64 (ws' := (wX cI cZ cA ax n B (va_up Q1 (8 * u + z) none) cn rt wd_1 qf_1 T_2)) (oI_upd _ _ _) rfl (fun H locs hP hD hS => ?_)
        refine lv_goto (tgt := 90) hx hb dX1_realign_65 (by decide) ?_
        refine lv_iinc (v := (nI (z + 1))) (lv' := [(4, .int (nI (z + 1))), (5, .int (oI (s_pa n B u z))), (0, .ref (ax 0)), (1, .int (nI (u))), (2, .int (oI (none))), (3, .int (nI (s_fr n B u z)))]) hx hb dX1_realign_90 hl (k := 5) rfl (nI_1 _) (by decide) rfl (fun ls hl => ?_)
        refine lv_goto (tgt := 23) hx hb dX1_realign_93 (by decide) ?_
        have e_5 : ((oI (none)) : Int32) = (oI (s_par n B u)) := by first | rfl | (rw [hp1]; rfl) | (rw [c_4]; done) | exact congrArg nI (s_fr_n c_4).symm | exact congrArg nI (s_fr_n (s_pa_np c_4)).symm | exact congrArg nI (s_fr_y hk1).symm
        have e_6 : ((nI (s_fr n B u z)) : Int32) = (nI (s_fr n B u (z + 1))) := by first | rfl | (rw [hp1]; rfl) | (rw [c_4]; done) | exact congrArg nI (s_fr_n c_4).symm | exact congrArg nI (s_fr_n (s_pa_np c_4)).symm | exact congrArg nI (s_fr_y hk1).symm
        exact ih_23 (z + 1) (va_up Q1 (8 * u + z) none) (by omega) (by omega) (by first | exact QI_0 | exact QI_n h_q (by omega) c_4 | exact QI_n h_q (by omega) (s_pa_np c_4) | exact QI_y h_q (by omega) hk1 hp1) _ _ hP hD hS _ (show lv_has ls 6 [(0, .ref (ax 0)), (1, .int (nI (u))), (2, .int (oI (s_par n B u))), (3, .int (nI (s_fr n B u (z + 1)))), (4, .int (nI (z + 1)))] from by rw [← e_5, ← e_6]; exact lv_sub hl [2, 3, 4, 5, 0] rfl)
      rw [c_4] at hl
      have hl : lv_has ls 6 [(5, .int (oI (s_pa n B u z))), (0, .ref (ax 0)), (1, .int (nI (u))), (2, .int (nI (q1))), (3, .int (nI (s_fr n B u z))), (4, .int (nI (z)))] := hl
      have hp1 := c_4
      have hq1 := (s_par_lt hp1).1
      refine lv_iload hx hb dX1_realign_47 (lv_at hl 0 rfl) ?_
      refine lv_iconst (v := (oI (none))) hx hb dX1_realign_49 (by decide +kernel) ?_
      refine o_ne (tgt := 68) hx hb (s_pa_b hB.2.2.1) dX1_realign_50 (by decide) (fun k1 c_7 => ?_) (fun c_7 => ?_)
      · rw [c_7] at hl
        have hl : lv_has ls 6 [(5, .int (nI (k1))), (0, .ref (ax 0)), (1, .int (nI (u))), (2, .int (nI (q1))), (3, .int (nI (s_fr n B u z))), (4, .int (nI (z)))] := hl
        have hk1 := c_7
        obtain ⟨q9, hk2, -, hk3, -⟩ := s_pa_some hk1
        have hk4 := hB.2.2.1 q9
        refine lv_aload_n hx hb dX1_realign_68 rfl (lv_at hl 1 rfl) ?_
        refine va_get (D := D) (ci := 3) (v := .ref (ax 8)) (C := RX1) (T := TX1) (N := 12) hx hb hts hin hown hK hP 0 rfl rfl 8 (by decide) hf_35 (fun _ h9 => h9) rfl dX1_realign_69 ?_
        refine lv_iload_n hx hb dX1_realign_72 rfl (lv_at hl 2 rfl) ?_
        refine lv_iload hx hb dX1_realign_73 (lv_at hl 5 rfl) ?_
        refine ro_S (As := [.int (nI (u)), .int (nI (z))]) (v := (nI (8 * u + z))) ⟨hx, hb, hml, hown, hts⟩ (kX1_placeOf l u z (by omega) (by omega)) (va_cwS 2 hts gX1_realign_X1_placeOf rfl rfl rfl hsX1_placeOf ⟨Nat.le_of_ble_eq_true rfl, Nat.le_of_ble_eq_true rfl⟩) rfl hl.1 rfl (Nat.le_of_ble_eq_true rfl) dX1_realign_75 ⟨Nat.zero_le _, Nat.zero_le _⟩ ?_
        refine lv_iload_n hx hb dX1_realign_78 rfl (lv_at hl 3 rfl) ?_
        refine lv_iload hx hb dX1_realign_79 (lv_at hl 0 rfl) ?_
        refine ro_S (As := [.int (nI (q1)), .int (nI (k1))]) (v := (nI (8 * q1 + k1))) ⟨hx, hb, hml, hown, hts⟩ (kX1_placeOf l q1 k1 (by omega) (by omega)) (va_cwS 2 hts gX1_realign_X1_placeOf rfl rfl rfl hsX1_placeOf ⟨Nat.le_of_ble_eq_true rfl, Nat.le_of_ble_eq_true rfl⟩) rfl hl.1 rfl (Nat.le_of_ble_eq_true rfl) dX1_realign_81 ⟨Nat.zero_le _, Nat.zero_le _⟩ ?_
        refine n_top (y := oI (some (8 * q1 + k1))) rfl ?_
        refine r_iast hx hb hK hP hD hS 8 0 rfl rfl (i := 8 * u + z) (by omega) (by decide) dX1_realign_84 (ws' := (wX cI cZ cA ax n B (va_up Q1 (8 * u + z) (some (8 * q1 + k1))) cn rt wd_1 qf_1 T_2)) (oI_upd _ _ _) rfl (fun H locs hP hD hS => ?_)
        refine lv_iload hx hb dX1_realign_85 (lv_at hl 0 rfl) ?_
        refine lv_iconst (v := (nI (1))) hx hb dX1_realign_87 (by decide +kernel) ?_
        refine lv_iadd hx hb dX1_realign_88 ?_
        refine n_top (y := (nI (k1 + 1))) (nI_add _ _) ?_
        refine lv_istore_n (lv' := [(3, .int (nI (k1 + 1))), (5, .int (nI (k1))), (0, .ref (ax 0)), (1, .int (nI (u))), (2, .int (nI (q1))), (4, .int (nI (z)))]) hx hb dX1_realign_89 rfl hl (by decide) rfl (fun ls hl => ?_)
        refine lv_iinc (v := (nI (z + 1))) (lv' := [(4, .int (nI (z + 1))), (3, .int (nI (k1 + 1))), (5, .int (nI (k1))), (0, .ref (ax 0)), (1, .int (nI (u))), (2, .int (nI (q1)))]) hx hb dX1_realign_90 hl (k := 5) rfl (nI_1 _) (by decide) rfl (fun ls hl => ?_)
        refine lv_goto (tgt := 23) hx hb dX1_realign_93 (by decide) ?_
        have e_8 : ((nI (q1)) : Int32) = (oI (s_par n B u)) := by first | rfl | (rw [hp1]; rfl) | (rw [c_7]; done) | exact congrArg nI (s_fr_n c_7).symm | exact congrArg nI (s_fr_n (s_pa_np c_7)).symm | exact congrArg nI (s_fr_y hk1).symm
        have e_9 : ((nI (k1 + 1)) : Int32) = (nI (s_fr n B u (z + 1))) := by first | rfl | (rw [hp1]; rfl) | (rw [c_7]; done) | exact congrArg nI (s_fr_n c_7).symm | exact congrArg nI (s_fr_n (s_pa_np c_7)).symm | exact congrArg nI (s_fr_y hk1).symm
        exact ih_23 (z + 1) (va_up Q1 (8 * u + z) (some (8 * q1 + k1))) (by omega) (by omega) (by first | exact QI_0 | exact QI_n h_q (by omega) c_7 | exact QI_n h_q (by omega) (s_pa_np c_7) | exact QI_y h_q (by omega) hk1 hp1) _ _ hP hD hS _ (show lv_has ls 6 [(0, .ref (ax 0)), (1, .int (nI (u))), (2, .int (oI (s_par n B u))), (3, .int (nI (s_fr n B u (z + 1)))), (4, .int (nI (z + 1)))] from by rw [← e_8, ← e_9]; exact lv_sub hl [3, 4, 5, 1, 0] rfl)
      rw [c_7] at hl
      have hl : lv_has ls 6 [(5, .int (oI (none))), (0, .ref (ax 0)), (1, .int (nI (u))), (2, .int (nI (q1))), (3, .int (nI (s_fr n B u z))), (4, .int (nI (z)))] := hl
      refine lv_aload_n hx hb dX1_realign_53 rfl (lv_at hl 1 rfl) ?_
      refine va_get (D := D) (ci := 3) (v := .ref (ax 8)) (C := RX1) (T := TX1) (N := 12) hx hb hts hin hown hK hP 0 rfl rfl 8 (by decide) hf_35 (fun _ h9 => h9) rfl dX1_realign_54 ?_
      refine lv_iload_n hx hb dX1_realign_57 rfl (lv_at hl 2 rfl) ?_
      refine lv_iload hx hb dX1_realign_58 (lv_at hl 5 rfl) ?_
      refine ro_S (As := [.int (nI (u)), .int (nI (z))]) (v := (nI (8 * u + z))) ⟨hx, hb, hml, hown, hts⟩ (kX1_placeOf l u z (by omega) (by omega)) (va_cwS 2 hts gX1_realign_X1_placeOf rfl rfl rfl hsX1_placeOf ⟨Nat.le_of_ble_eq_true rfl, Nat.le_of_ble_eq_true rfl⟩) rfl hl.1 rfl (Nat.le_of_ble_eq_true rfl) dX1_realign_60 ⟨Nat.zero_le _, Nat.zero_le _⟩ ?_
      refine lv_iconst (v := (oI (none))) hx hb dX1_realign_63 (by decide +kernel) ?_
      refine r_iast hx hb hK hP hD hS 8 0 rfl rfl (i := 8 * u + z) (by omega) (by decide) dX1_realign_64 (ws' := (wX cI cZ cA ax n B (va_up Q1 (8 * u + z) none) cn rt wd_1 qf_1 T_2)) (oI_upd _ _ _) rfl (fun H locs hP hD hS => ?_)
      refine lv_goto (tgt := 90) hx hb dX1_realign_65 (by decide) ?_
      refine lv_iinc (v := (nI (z + 1))) (lv' := [(4, .int (nI (z + 1))), (5, .int (oI (none))), (0, .ref (ax 0)), (1, .int (nI (u))), (2, .int (nI (q1))), (3, .int (nI (s_fr n B u z)))]) hx hb dX1_realign_90 hl (k := 5) rfl (nI_1 _) (by decide) rfl (fun ls hl => ?_)
      refine lv_goto (tgt := 23) hx hb dX1_realign_93 (by decide) ?_
      have e_10 : ((nI (q1)) : Int32) = (oI (s_par n B u)) := by first | rfl | (rw [hp1]; rfl) | (rw [c_7]; done) | exact congrArg nI (s_fr_n c_7).symm | exact congrArg nI (s_fr_n (s_pa_np c_7)).symm | exact congrArg nI (s_fr_y hk1).symm
      have e_11 : ((nI (s_fr n B u z)) : Int32) = (nI (s_fr n B u (z + 1))) := by first | rfl | (rw [hp1]; rfl) | (rw [c_7]; done) | exact congrArg nI (s_fr_n c_7).symm | exact congrArg nI (s_fr_n (s_pa_np c_7)).symm | exact congrArg nI (s_fr_y hk1).symm
      exact ih_23 (z + 1) (va_up Q1 (8 * u + z) none) (by omega) (by omega) (by first | exact QI_0 | exact QI_n h_q (by omega) c_7 | exact QI_n h_q (by omega) (s_pa_np c_7) | exact QI_y h_q (by omega) hk1 hp1) _ _ hP hD hS _ (show lv_has ls 6 [(0, .ref (ax 0)), (1, .int (nI (u))), (2, .int (oI (s_par n B u))), (3, .int (nI (s_fr n B u (z + 1)))), (4, .int (nI (z + 1)))] from by rw [← e_10, ← e_11]; exact lv_sub hl [2, 3, 4, 5, 0] rfl)
  have e_12 : ((nI (0)) : Int32) = (nI (s_fr n B u 0)) := by first | rfl | (rw [hp1]; rfl) | (rw [rfl]; done) | exact congrArg nI (s_fr_n rfl).symm | exact congrArg nI (s_fr_n (s_pa_np rfl)).symm | exact congrArg nI (s_fr_y hk1).symm
  exact loop_23 (8 - 0 + 1) 0 Q (by omega) (by omega) (by first | exact QI_0 | exact QI_n h_q (by omega) rfl | exact QI_n h_q (by omega) (s_pa_np rfl) | exact QI_y h_q (by omega) hk1 hp1) _ _ hP hD hS _ (show lv_has ls 6 [(0, .ref (ax 0)), (1, .int (nI (u))), (2, .int (oI (s_par n B u))), (3, .int (nI (s_fr n B u 0))), (4, .int (nI (0)))] from by rw [← e_12]; exact lv_sub hl [3, 4, 2, 1, 0] rfl)
theorem hdX1_realign : yX1_realign.cls = RX1 ∧ yX1_realign.cls ≠ "java/lang/invoke/MethodHandle" ∧ yX1_realign.cls ≠ "java/lang/invoke/VarHandle" ∧ (parseMethodDescriptor yX1_realign.desc).map (fun d => d.parameters.length) = some 1 := by decide +kernel
set_option maxHeartbeats 4000000 in
set_option maxRecDepth 100000 in
theorem kX1_realignAround (l : Launch) (D : va_G) (cI cZ cA : ClassId) (ax : Nat → Nat) (n : Nat) (B : Nat → Nat → Nat) (Q : Nat → Option Nat) (cn : Nat → Bool) (rt : Nat → Nat) (wd : Nat → Option Nat) (qf : Nat → Option Nat) (T : Nat → Nat → Nat) (sz : Nat) (u : Nat) (hB : Bok n B) (h_u : u < n) (h_Q : QR n B u 0 Q) (h_T : TB T) : Met l yX1_realignAround wsX1_realignAround ({ frames := 4, cells := 0, slots := 0, locals := 94 }) (PcMN D [(cI, .int), (cZ, .boolean), (cA, .array .int)] (wX cI cZ cA ax n B Q cn rt wd qf T) sz [.ref (ax 0), .int (nI (u))]) (va_Qv (fun (u9 : (Nat → Option Nat) × (Nat → Option Nat) × (Nat → Option Nat) × (Nat → Nat → Nat)) => QA n B u9.1 ∧ TB u9.2.2.2) (fun (u9 : (Nat → Option Nat) × (Nat → Option Nat) × (Nat → Option Nat) × (Nat → Nat → Nat)) t => AtW D [(cI, .int), (cZ, .boolean), (cA, .array .int)] (va_A (wX cI cZ cA ax n B Q cn rt wd qf T) sz) (wX cI cZ cA ax n B u9.1 cn rt u9.2.1 u9.2.2.1 u9.2.2.2) t) (va_A (wX cI cZ cA ax n B Q cn rt wd qf T) sz)) 0 0 (va_A (wX cI cZ cA ax n B Q cn rt wd qf T) sz) := by
  refine Met.ofW (cc := cX1_realignAround) (maxL := 3) (ret := none) (by decide) rfl ?_
  intro p e s m args below meth c s₁ BL hml hv
  obtain ⟨rfl, hsz, hP, hK, hD0, hN⟩ := hv
  have hx := BL.exec
  have hb := BL.bytes
  have hr := BL.returns
  have hts := atoms_spec (ws := wsX1_realignAround) BL.pre
  have hown : s.vm.findClass RX1 = some m.cls := findClass_of_methodNamed BL.named
  have hlocks := BL.notSynchronized
  have hin : ∀ w ∈ wsX10, w ∈ wsX1_realignAround := by decide +kernel
  have hf_9 := hts (.fieldLink RX1 9 "TalkRebuilder" "mailCount" "I") (by decide +kernel)
  have hl := lv_entry ([.ref (ax 0), .int (nI (u))]) (n := 3) (Nat.le_of_ble_eq_true rfl)
  rw [lg_entry_eq]
  generalize (lg_sl ([.ref (ax 0), .int (nI (u))]) ++ List.replicate (3 - (lg_sl ([.ref (ax 0), .int (nI (u))])).length) Slot.unset).toArray = ls at hl ⊢
  have hl : lv_has ls 3 [(0, .ref (ax 0)), (1, .int (nI (u)))] := hl
  subst hsz
  have hD := hD0.self (sz := s.heap.size)
  generalize hAe : va_A (wX cI cZ cA ax n B Q cn rt wd qf T) s.heap.size = A at hD ⊢
  have hA : ∀ q : Nat, s.heap.size ≤ q → A q := fun q h => by rw [← hAe]; exact Or.inr h
  have hS : va_S A s.heap s.heap [] := va_S.rf
  have hP : va_P D vwCl (wX cI cZ cA ax n B Q cn rt wd qf T) s.heap := hP
  have hD : va_D A (wX cI cZ cA ax n B Q cn rt wd qf T) := hD
  have hn10 := hB.1
  refine lv_iconst (v := (nI (0))) hx hb dX1_realignAround_0 (by decide +kernel) ?_
  refine lv_istore_n (lv' := [(2, .int (nI (0))), (0, .ref (ax 0)), (1, .int (nI (u)))]) hx hb dX1_realignAround_1 rfl hl (by decide) rfl (fun ls hl => ?_)
  have loop_2 : ∀ (N : Nat) (z : Nat) (Q : Nat → Option Nat) (wd : Nat → Option Nat) (qf : Nat → Option Nat) (T : Nat → Nat → Nat), n - z < N → (z ≤ n) → (QR n B u z Q) → (TB T) → ∀ (H : Heap) (locs : List Loc), va_P D vwCl (wX cI cZ cA ax n B Q cn rt wd qf T) H → va_D A (wX cI cZ cA ax n B Q cn rt wd qf T) → va_S A s.heap H locs → ∀ (ls : Array Slot), lv_has ls 3 [(0, .ref (ax 0)), (1, .int (nI (u))), (2, .int (nI (z)))] → W p l e (headSpec wsX1_realignAround ({ frames := 4, cells := 0, slots := 0, locals := 94 })).room s m ([.ref (ax 0), .int (nI (u))] : List Value).toArray below meth c H locs 0 0 (MQ below (va_Qv (fun (u9 : (Nat → Option Nat) × (Nat → Option Nat) × (Nat → Option Nat) × (Nat → Nat → Nat)) => QA n B u9.1 ∧ TB u9.2.2.2) (fun (u9 : (Nat → Option Nat) × (Nat → Option Nat) × (Nat → Option Nat) × (Nat → Nat → Nat)) t => AtW D [(cI, .int), (cZ, .boolean), (cA, .array .int)] A (wX cI cZ cA ax n B u9.1 cn rt u9.2.1 u9.2.2.1 u9.2.2.2) t) A) ([.ref (ax 0), .int (nI (u))] : List Value).toArray s 0 0 A) (F0 m 2 ls []) := by
    intro N
    induction N with
    | zero => intro z Q wd qf T hmu; exact absurd hmu (Nat.not_lt_zero _)
    | succ N ih_2 =>
      intro z Q wd qf T hmu_2 h_z h_q h_t H locs hP hD hS ls hl
      refine lv_iload_n hx hb dX1_realignAround_2 rfl (lv_at hl 2 rfl) ?_
      refine lv_aload_n hx hb dX1_realignAround_3 rfl (lv_at hl 0 rfl) ?_
      refine va_get (D := D) (ci := 3) (v := .int (nI (n))) (C := RX1) (T := TX1) (N := 12) hx hb hts hin hown hK hP 0 rfl rfl 0 (by decide) hf_9 (fun _ h9 => h9) rfl dX1_realignAround_4 ?_
      refine n_ge (tgt := 35) hx hb (by omega) (by omega) dX1_realignAround_7 (by decide) (fun c_1 => ?_) (fun c_1 => ?_)
      · exact W.vret hx hb hr (fun t ht hW => ⟨⟨(Q, wd, qf, T), rfl, (⟨QR_A h_q c_1, h_t⟩), by rw [ht]; exact hP, va_K.moved hW.alike hK, hD⟩, hS.F ht⟩) hS.2.2 dX1_realignAround_35
      refine lv_iload_n hx hb dX1_realignAround_10 rfl (lv_at hl 2 rfl) ?_
      refine lv_iload_n hx hb dX1_realignAround_11 rfl (lv_at hl 1 rfl) ?_
      refine n_eq (tgt := 24) hx hb (by omega) (by omega) dX1_realignAround_12 (by decide) (fun c_2 => ?_) (fun c_2 => ?_)
      · refine lv_aload_n hx hb dX1_realignAround_24 rfl (lv_at hl 0 rfl) ?_
        refine lv_iload_n hx hb dX1_realignAround_25 rfl (lv_at hl 2 rfl) ?_
        refine mo2_Vv (wr := []) (As := [.int (nI (z))]) ⟨hx, hb, hml, hown, hts⟩ (kX1_realign l D cI cZ cA ax n B Q cn rt wd qf T H.size z hB (by omega) h_t) (cwV 1 hts gX1_realignAround_X1_realign rfl rfl rfl hdX1_realign ⟨Nat.le_of_ble_eq_true rfl, Nat.le_of_ble_eq_true rfl⟩) (preMN (wr := []) hN hK hP hD (ci := 3) rfl (q0 := 0) rfl rfl) hP hD hS hA rfl hl.1 rfl (Nat.le_of_ble_eq_true rfl) dX1_realignAround_26 ⟨Nat.zero_le _, Nat.zero_le _⟩ (fun u_3 H locs hw_3 hP hD hS => ?_)
        obtain ⟨Q_3, wd_3, qf_3, T_3⟩ := u_3
        have hP : va_P D vwCl (wX cI cZ cA ax n B Q_3 cn rt wd_3 qf_3 T_3) H := hP
        have hD : va_D A (wX cI cZ cA ax n B Q_3 cn rt wd_3 qf_3 T_3) := hD
        obtain ⟨hU, hTB⟩ := hw_3
        refine lv_iinc (v := (nI (z + 1))) (lv' := [(2, .int (nI (z + 1))), (0, .ref (ax 0)), (1, .int (nI (u)))]) hx hb dX1_realignAround_29 hl (k := 2) rfl (nI_1 _) (by decide) rfl (fun ls hl => ?_)
        refine lv_goto (tgt := 2) hx hb dX1_realignAround_32 (by decide) ?_
        exact ih_2 (z + 1) Q_3 wd_3 qf_3 T_3 (by omega) (by omega) (by first | exact h_Q | exact QR_s h_q hU | exact QR_n h_q (by assumption) c_2) (by first | exact hTB | exact h_t | exact h_T) _ _ hP hD hS _ (show lv_has ls 3 [(0, .ref (ax 0)), (1, .int (nI (u))), (2, .int (nI (z + 1)))] from by exact lv_sub hl [1, 2, 0] rfl)
      refine lv_aload_n hx hb dX1_realignAround_15 rfl (lv_at hl 0 rfl) ?_
      refine lv_iload_n hx hb dX1_realignAround_16 rfl (lv_at hl 2 rfl) ?_
      refine ro_V (As := [.int (nI (z))]) (v := (oI (s_par n B z))) ⟨hx, hb, hml, hown, hts⟩ (kX1_parentOf l D cI cZ cA ax n B Q cn rt wd qf T z hB (by omega)) (cwV 1 hts gX1_realignAround_X1_parentOf rfl rfl rfl hdX1_parentOf ⟨Nat.le_of_ble_eq_true rfl, Nat.le_of_ble_eq_true rfl⟩) hK hP (ci := 3) rfl (q0 := 0) rfl rfl rfl hl.1 rfl (Nat.le_of_ble_eq_true rfl) dX1_realignAround_17 ⟨Nat.zero_le _, Nat.zero_le _⟩ ?_
      refine lv_iload_n hx hb dX1_realignAround_20 rfl (lv_at hl 1 rfl) ?_
      refine p_ne (tgt := 29) hx hb (s_par_b hn10) (by omega) dX1_realignAround_21 (by decide) (fun c_4 => ?_) (fun c_4 => ?_)
      · refine lv_iinc (v := (nI (z + 1))) (lv' := [(2, .int (nI (z + 1))), (0, .ref (ax 0)), (1, .int (nI (u)))]) hx hb dX1_realignAround_29 hl (k := 2) rfl (nI_1 _) (by decide) rfl (fun ls hl => ?_)
        refine lv_goto (tgt := 2) hx hb dX1_realignAround_32 (by decide) ?_
        exact ih_2 (z + 1) Q wd qf T (by omega) (by omega) (by first | exact h_Q | exact QR_s h_q hU | exact QR_n h_q (by assumption) c_4) (by first | exact hTB | exact h_t | exact h_T) _ _ hP hD hS _ (show lv_has ls 3 [(0, .ref (ax 0)), (1, .int (nI (u))), (2, .int (nI (z + 1)))] from by exact lv_sub hl [1, 2, 0] rfl)
      refine lv_aload_n hx hb dX1_realignAround_24 rfl (lv_at hl 0 rfl) ?_
      refine lv_iload_n hx hb dX1_realignAround_25 rfl (lv_at hl 2 rfl) ?_
      refine mo2_Vv (wr := []) (As := [.int (nI (z))]) ⟨hx, hb, hml, hown, hts⟩ (kX1_realign l D cI cZ cA ax n B Q cn rt wd qf T H.size z hB (by omega) h_t) (cwV 1 hts gX1_realignAround_X1_realign rfl rfl rfl hdX1_realign ⟨Nat.le_of_ble_eq_true rfl, Nat.le_of_ble_eq_true rfl⟩) (preMN (wr := []) hN hK hP hD (ci := 3) rfl (q0 := 0) rfl rfl) hP hD hS hA rfl hl.1 rfl (Nat.le_of_ble_eq_true rfl) dX1_realignAround_26 ⟨Nat.zero_le _, Nat.zero_le _⟩ (fun u_5 H locs hw_5 hP hD hS => ?_)
      obtain ⟨Q_5, wd_5, qf_5, T_5⟩ := u_5
      have hP : va_P D vwCl (wX cI cZ cA ax n B Q_5 cn rt wd_5 qf_5 T_5) H := hP
      have hD : va_D A (wX cI cZ cA ax n B Q_5 cn rt wd_5 qf_5 T_5) := hD
      obtain ⟨hU, hTB⟩ := hw_5
      refine lv_iinc (v := (nI (z + 1))) (lv' := [(2, .int (nI (z + 1))), (0, .ref (ax 0)), (1, .int (nI (u)))]) hx hb dX1_realignAround_29 hl (k := 2) rfl (nI_1 _) (by decide) rfl (fun ls hl => ?_)
      refine lv_goto (tgt := 2) hx hb dX1_realignAround_32 (by decide) ?_
      exact ih_2 (z + 1) Q_5 wd_5 qf_5 T_5 (by omega) (by omega) (by first | exact h_Q | exact QR_s h_q hU | exact QR_n h_q (by assumption) c_4) (by first | exact hTB | exact h_t | exact h_T) _ _ hP hD hS _ (show lv_has ls 3 [(0, .ref (ax 0)), (1, .int (nI (u))), (2, .int (nI (z + 1)))] from by exact lv_sub hl [1, 2, 0] rfl)
  exact loop_2 (n - 0 + 1) 0 Q wd qf T (by omega) (by omega) (by first | exact h_Q | exact QR_s h_q hU | exact QR_n h_q (by assumption) rfl) (by first | exact hTB | exact h_t | exact h_T) _ _ hP hD hS _ (show lv_has ls 3 [(0, .ref (ax 0)), (1, .int (nI (u))), (2, .int (nI (0)))] from by exact lv_sub hl [1, 2, 0] rfl)
theorem hdX1_realignAround : yX1_realignAround.cls = RX1 ∧ yX1_realignAround.cls ≠ "java/lang/invoke/MethodHandle" ∧ yX1_realignAround.cls ≠ "java/lang/invoke/VarHandle" ∧ (parseMethodDescriptor yX1_realignAround.desc).map (fun d => d.parameters.length) = some 1 := by decide +kernel
set_option maxHeartbeats 4000000 in
set_option maxRecDepth 100000 in
theorem kX1_aligned (l : Launch) (hfl : l.stackTraces = false) (D : va_G) (cI cZ cA : ClassId) (ax : Nat → Nat) (n : Nat) (B : Nat → Nat → Nat) (Q : Nat → Option Nat) (cn : Nat → Bool) (rt : Nat → Nat) (wd : Nat → Option Nat) (qf : Nat → Option Nat) (T : Nat → Nat → Nat) (sz : Nat) (u : Int32) (hB : Bok n B) (h_T : TB T) : vx_Met l yX1_aligned wsX1_aligned ({ frames := 7, cells := 1, slots := 6, locals := 103 }) (PcXM D [(cI, .int), (cZ, .boolean), (cA, .array .int)] (wX cI cZ cA ax n B Q cn rt wd qf T) sz [.ref (ax 0), .int (u)]) (va_Qi (fun (r : Int32) (u9 : (Nat → Option Nat) × (Nat → Option Nat) × (Nat → Nat → Nat)) => r = (nI ((s_alc n B u).2)) ∧ (s_alc n B u).1 = 0 ∧ TB u9.2.2) (fun (u9 : (Nat → Option Nat) × (Nat → Option Nat) × (Nat → Nat → Nat)) t => AtW D [(cI, .int), (cZ, .boolean), (cA, .array .int)] (va_A (wX cI cZ cA ax n B Q cn rt wd qf T) sz) (wX cI cZ cA ax n B Q cn rt u9.1 u9.2.1 u9.2.2) t) (va_A (wX cI cZ cA ax n B Q cn rt wd qf T) sz)) (XCf (fun E => E = "java/lang/IndexOutOfBoundsException" ∧ (s_alc n B u).1 = 1)) 1 6 (va_A (wX cI cZ cA ax n B Q cn rt wd qf T) sz) := by
  refine vx_ofW (cc := cX1_aligned) (maxL := 2) (ret := (some .int)) (by decide) rfl ?_
  intro p e s m args below meth c s₁ BL hml hno hv
  obtain ⟨rfl, hsz, hP, hK, hD0, hE⟩ := hv
  have hx := BL.exec
  have hb := BL.bytes
  have hr := BL.returns
  have hts := atoms_spec (ws := wsX1_aligned) BL.pre
  have hown : s.vm.findClass RX1 = some m.cls := findClass_of_methodNamed BL.named
  have hlocks := BL.notSynchronized
  have hin : ∀ w ∈ wsX10, w ∈ wsX1_aligned := by decide +kernel
  have hf_41 := hts (.fieldLink RX1 41 "TalkRebuilder" "alignment" "LTalkRebuilder$Alignment;") (by decide +kernel)
  have hl := lv_entry ([.ref (ax 0), .int (u)]) (n := 2) (Nat.le_of_ble_eq_true rfl)
  rw [lg_entry_eq]
  generalize (lg_sl ([.ref (ax 0), .int (u)]) ++ List.replicate (2 - (lg_sl ([.ref (ax 0), .int (u)])).length) Slot.unset).toArray = ls at hl ⊢
  have hl : lv_has ls 2 [(0, .ref (ax 0)), (1, .int (u))] := hl
  subst hsz
  have hD := hD0.self (sz := s.heap.size)
  generalize hAe : va_A (wX cI cZ cA ax n B Q cn rt wd qf T) s.heap.size = A at hD ⊢
  have hA : ∀ q : Nat, s.heap.size ≤ q → A q := fun q h => by rw [← hAe]; exact Or.inr h
  have hS : va_S A s.heap s.heap [] := va_S.rf
  have hP : va_P D vwCl (wX cI cZ cA ax n B Q cn rt wd qf T) s.heap := hP
  have hD : va_D A (wX cI cZ cA ax n B Q cn rt wd qf T) := hD
  have hn10 := hB.1
  refine lv_aload_n hx hb dX1_aligned_0 rfl (lv_at hl 0 rfl) ?_
  refine lv_iload_n hx hb dX1_aligned_1 rfl (lv_at hl 1 rfl) ?_
  refine xr_Vv (As := [.int (u)]) ⟨hx, hb, hml, hown, hts⟩ (kX1_requireMail l hfl D cI cZ cA ax n B Q cn rt wd qf T (u) hB) (cwV 1 hts gX1_aligned_X1_requireMail rfl rfl rfl hdX1_requireMail ⟨Nat.le_of_ble_eq_true rfl, Nat.le_of_ble_eq_true rfl⟩) hK hP hE (ci := 3) rfl (q0 := 0) rfl rfl rfl hl.1 rfl (Nat.le_of_ble_eq_true rfl) dX1_aligned_2 ⟨Nat.le_of_ble_eq_true rfl, Nat.le_of_ble_eq_true rfl⟩ hno hlocks (fun E h => ⟨h.1, by simp [s_alc, h.2]⟩) (Nat.le_of_ble_eq_true rfl) (Nat.le_of_ble_eq_true rfl) (fun h_1 => ?_)
  have hm_u := h_1
  obtain ⟨k_u, hk_u, rfl⟩ := s_ism_t hB.1 h_1
  have h8_u := hB.2.2.1 k_u
  have hc_k_u : (nI k_u).toNatClampNeg = k_u := nI_clamp (by omega)
  refine lv_aload_n hx hb dX1_aligned_5 rfl (lv_at hl 0 rfl) ?_
  refine lv_iload_n hx hb dX1_aligned_6 rfl (lv_at hl 1 rfl) ?_
  refine mo2_Vv (wr := []) (As := [.int (nI (k_u))]) ⟨hx, hb, hml, hown, hts⟩ (kX1_faceParent l D cI cZ cA ax n B Q cn rt wd qf T s.heap.size k_u hB (by omega)) (cwV 1 hts gX1_aligned_X1_faceParent rfl rfl rfl hdX1_faceParent ⟨Nat.le_of_ble_eq_true rfl, Nat.le_of_ble_eq_true rfl⟩) (preMN (wr := []) hE.2.2.2.2 hK hP hD (ci := 3) rfl (q0 := 0) rfl rfl) hP hD hS hA rfl hl.1 rfl (Nat.le_of_ble_eq_true rfl) dX1_aligned_7 ⟨Nat.le_of_ble_eq_true rfl, Nat.le_of_ble_eq_true rfl⟩ (fun u_2 H locs hw_2 hP hD hS => ?_)
  obtain ⟨wd_2, qf_2⟩ := u_2
  have hP : va_P D vwCl (wX cI cZ cA ax n B Q cn rt wd_2 qf_2 T) H := hP
  have hD : va_D A (wX cI cZ cA ax n B Q cn rt wd_2 qf_2 T) := hD
  have hFW := hw_2
  have hBD := FW_BD hB hFW
  refine lv_aload_n hx hb dX1_aligned_10 rfl (lv_at hl 0 rfl) ?_
  refine va_get (D := D) (ci := 3) (v := .ref (ax 11)) (C := RX1) (T := TX1) (N := 12) hx hb hts hin hown hK hP 0 rfl rfl 9 (by decide) hf_41 (fun _ h9 => h9) rfl dX1_aligned_11 ?_
  refine mo2_Vv (wr := (wX0 cI cZ ax n B Q cn rt)) (As := []) ⟨hx, hb, hml, hown, hts⟩ (kX0_fillTable l D cI cZ cA ax wd_2 qf_2 T H.size  hBD h_T) (cwV 0 hts gX1_aligned_X0_fillTable rfl rfl rfl hdX0_fillTable ⟨Nat.le_of_ble_eq_true rfl, Nat.le_of_ble_eq_true rfl⟩) (preM (wr := (wX0 cI cZ ax n B Q cn rt)) hK hP hD (ci := 2) rfl (q0 := 11) rfl rfl) hP hD hS hA rfl hl.1 rfl (Nat.le_of_ble_eq_true rfl) dX1_aligned_14 ⟨Nat.le_of_ble_eq_true rfl, Nat.le_of_ble_eq_true rfl⟩ (fun (T_3 : Nat → Nat → Nat) H locs hw_3 hP hD hS => ?_)
  have hP : va_P D vwCl (wX cI cZ cA ax n B Q cn rt wd_2 qf_2 T_3) H := hP
  have hD : va_D A (wX cI cZ cA ax n B Q cn rt wd_2 qf_2 T_3) := hD
  have hTF := hw_3
  refine lv_aload_n hx hb dX1_aligned_17 rfl (lv_at hl 0 rfl) ?_
  refine va_get (D := D) (ci := 3) (v := .ref (ax 11)) (C := RX1) (T := TX1) (N := 12) hx hb hts hin hown hK hP 0 rfl rfl 9 (by decide) hf_41 (fun _ h9 => h9) rfl dX1_aligned_18 ?_
  refine ro2_V (As := []) (v := (nI (T_3 0 0))) ⟨hx, hb, hml, hown, hts⟩ (kX0_mostPartners l D cI cZ cA ax wd_2 qf_2 T_3  ) (cwV 0 hts gX1_aligned_X0_mostPartners rfl rfl rfl hdX0_mostPartners ⟨Nat.le_of_ble_eq_true rfl, Nat.le_of_ble_eq_true rfl⟩) (preR (wr := (wX0 cI cZ ax n B Q cn rt)) hK hP (ci := 2) rfl (q0 := 11) rfl rfl) rfl hl.1 rfl (Nat.le_of_ble_eq_true rfl) dX1_aligned_21 ⟨Nat.le_of_ble_eq_true rfl, Nat.le_of_ble_eq_true rfl⟩ ?_
  refine vx_ret ?_
  refine W.widen (k := 1) (n := 6) (Nat.le_of_ble_eq_true rfl) (Nat.le_of_ble_eq_true rfl) ?_
  exact W.iret (v := (nI (T_3 0 0))) hx hb hr (fun t ht hW => ⟨⟨_, (wd_2, qf_2, T_3), rfl, ⟨(by exact congrArg nI (by unfold s_alc; rw [if_pos hm_u]; show _ = ct (s_alp n B (nI k_u).toNatClampNeg) (B 4 (nI k_u).toNatClampNeg); rw [hc_k_u, ← FL_al hB hFW]; exact hTF 0 0 (Nat.zero_le _) (Nat.zero_le _))), (⟨by unfold s_alc; rw [if_pos hm_u], TF_B hTF⟩)⟩, by rw [ht]; exact hP, va_K.moved hW.alike hK, hD⟩, hS.F ht⟩) hS.2.2 dX1_aligned_24
theorem hdX1_aligned : yX1_aligned.cls = RX1 ∧ yX1_aligned.cls ≠ "java/lang/invoke/MethodHandle" ∧ yX1_aligned.cls ≠ "java/lang/invoke/VarHandle" ∧ (parseMethodDescriptor yX1_aligned.desc).map (fun d => d.parameters.length) = some 1 := by decide +kernel
set_option maxHeartbeats 4000000 in
set_option maxRecDepth 100000 in
theorem kX1_alignedByTrying (l : Launch) (hfl : l.stackTraces = false) (D : va_G) (cI cZ cA : ClassId) (ax : Nat → Nat) (n : Nat) (B : Nat → Nat → Nat) (Q : Nat → Option Nat) (cn : Nat → Bool) (rt : Nat → Nat) (wd : Nat → Option Nat) (qf : Nat → Option Nat) (T : Nat → Nat → Nat) (sz : Nat) (u : Int32) (hB : Bok n B) : vx_Met l yX1_alignedByTrying wsX1_alignedByTrying ({ frames := 10, cells := 1, slots := 6, locals := 245 }) (PcXM D [(cI, .int), (cZ, .boolean), (cA, .array .int)] (wX cI cZ cA ax n B Q cn rt wd qf T) sz [.ref (ax 0), .int (u)]) (va_Qi (fun (r : Int32) (u9 : (Nat → Option Nat) × (Nat → Option Nat)) => r = (nI ((s_alc n B u).2)) ∧ (s_alc n B u).1 = 0) (fun (u9 : (Nat → Option Nat) × (Nat → Option Nat)) t => AtW D [(cI, .int), (cZ, .boolean), (cA, .array .int)] (va_A (wX cI cZ cA ax n B Q cn rt wd qf T) sz) (wX cI cZ cA ax n B Q cn rt u9.1 u9.2 T) t) (va_A (wX cI cZ cA ax n B Q cn rt wd qf T) sz)) (XCf (fun E => E = "java/lang/IndexOutOfBoundsException" ∧ (s_alc n B u).1 = 1)) 1 6 (va_A (wX cI cZ cA ax n B Q cn rt wd qf T) sz) := by
  refine vx_ofW (cc := cX1_alignedByTrying) (maxL := 2) (ret := (some .int)) (by decide) rfl ?_
  intro p e s m args below meth c s₁ BL hml hno hv
  obtain ⟨rfl, hsz, hP, hK, hD0, hE⟩ := hv
  have hx := BL.exec
  have hb := BL.bytes
  have hr := BL.returns
  have hts := atoms_spec (ws := wsX1_alignedByTrying) BL.pre
  have hown : s.vm.findClass RX1 = some m.cls := findClass_of_methodNamed BL.named
  have hlocks := BL.notSynchronized
  have hin : ∀ w ∈ wsX10, w ∈ wsX1_alignedByTrying := by decide +kernel
  have hf_41 := hts (.fieldLink RX1 41 "TalkRebuilder" "alignment" "LTalkRebuilder$Alignment;") (by decide +kernel)
  have hl := lv_entry ([.ref (ax 0), .int (u)]) (n := 2) (Nat.le_of_ble_eq_true rfl)
  rw [lg_entry_eq]
  generalize (lg_sl ([.ref (ax 0), .int (u)]) ++ List.replicate (2 - (lg_sl ([.ref (ax 0), .int (u)])).length) Slot.unset).toArray = ls at hl ⊢
  have hl : lv_has ls 2 [(0, .ref (ax 0)), (1, .int (u))] := hl
  subst hsz
  have hD := hD0.self (sz := s.heap.size)
  generalize hAe : va_A (wX cI cZ cA ax n B Q cn rt wd qf T) s.heap.size = A at hD ⊢
  have hA : ∀ q : Nat, s.heap.size ≤ q → A q := fun q h => by rw [← hAe]; exact Or.inr h
  have hS : va_S A s.heap s.heap [] := va_S.rf
  have hP : va_P D vwCl (wX cI cZ cA ax n B Q cn rt wd qf T) s.heap := hP
  have hD : va_D A (wX cI cZ cA ax n B Q cn rt wd qf T) := hD
  have hn10 := hB.1
  refine lv_aload_n hx hb dX1_alignedByTrying_0 rfl (lv_at hl 0 rfl) ?_
  refine lv_iload_n hx hb dX1_alignedByTrying_1 rfl (lv_at hl 1 rfl) ?_
  refine xr_Vv (As := [.int (u)]) ⟨hx, hb, hml, hown, hts⟩ (kX1_requireMail l hfl D cI cZ cA ax n B Q cn rt wd qf T (u) hB) (cwV 1 hts gX1_alignedByTrying_X1_requireMail rfl rfl rfl hdX1_requireMail ⟨Nat.le_of_ble_eq_true rfl, Nat.le_of_ble_eq_true rfl⟩) hK hP hE (ci := 3) rfl (q0 := 0) rfl rfl rfl hl.1 rfl (Nat.le_of_ble_eq_true rfl) dX1_alignedByTrying_2 ⟨Nat.le_of_ble_eq_true rfl, Nat.le_of_ble_eq_true rfl⟩ hno hlocks (fun E h => ⟨h.1, by simp [s_alc, h.2]⟩) (Nat.le_of_ble_eq_true rfl) (Nat.le_of_ble_eq_true rfl) (fun h_1 => ?_)
  have hm_u := h_1
  obtain ⟨k_u, hk_u, rfl⟩ := s_ism_t hB.1 h_1
  have h8_u := hB.2.2.1 k_u
  have hc_k_u : (nI k_u).toNatClampNeg = k_u := nI_clamp (by omega)
  refine lv_aload_n hx hb dX1_alignedByTrying_5 rfl (lv_at hl 0 rfl) ?_
  refine lv_iload_n hx hb dX1_alignedByTrying_6 rfl (lv_at hl 1 rfl) ?_
  refine mo2_Vv (wr := []) (As := [.int (nI (k_u))]) ⟨hx, hb, hml, hown, hts⟩ (kX1_faceParent l D cI cZ cA ax n B Q cn rt wd qf T s.heap.size k_u hB (by omega)) (cwV 1 hts gX1_alignedByTrying_X1_faceParent rfl rfl rfl hdX1_faceParent ⟨Nat.le_of_ble_eq_true rfl, Nat.le_of_ble_eq_true rfl⟩) (preMN (wr := []) hE.2.2.2.2 hK hP hD (ci := 3) rfl (q0 := 0) rfl rfl) hP hD hS hA rfl hl.1 rfl (Nat.le_of_ble_eq_true rfl) dX1_alignedByTrying_7 ⟨Nat.le_of_ble_eq_true rfl, Nat.le_of_ble_eq_true rfl⟩ (fun u_2 H locs hw_2 hP hD hS => ?_)
  obtain ⟨wd_2, qf_2⟩ := u_2
  have hP : va_P D vwCl (wX cI cZ cA ax n B Q cn rt wd_2 qf_2 T) H := hP
  have hD : va_D A (wX cI cZ cA ax n B Q cn rt wd_2 qf_2 T) := hD
  have hFW := hw_2
  have hBD := FW_BD hB hFW
  refine lv_aload_n hx hb dX1_alignedByTrying_10 rfl (lv_at hl 0 rfl) ?_
  refine va_get (D := D) (ci := 3) (v := .ref (ax 11)) (C := RX1) (T := TX1) (N := 12) hx hb hts hin hown hK hP 0 rfl rfl 9 (by decide) hf_41 (fun _ h9 => h9) rfl dX1_alignedByTrying_11 ?_
  refine ro2_V (As := []) (v := (nI (FL wd_2 qf_2 0 0))) ⟨hx, hb, hml, hown, hts⟩ (kX0_mostPartnersByTrying l D cI cZ cA ax wd_2 qf_2 T  hBD) (cwV 0 hts gX1_alignedByTrying_X0_mostPartnersByTrying rfl rfl rfl hdX0_mostPartnersByTrying ⟨Nat.le_of_ble_eq_true rfl, Nat.le_of_ble_eq_true rfl⟩) (preR (wr := (wX0 cI cZ ax n B Q cn rt)) hK hP (ci := 2) rfl (q0 := 11) rfl rfl) rfl hl.1 rfl (Nat.le_of_ble_eq_true rfl) dX1_alignedByTrying_14 ⟨Nat.le_of_ble_eq_true rfl, Nat.le_of_ble_eq_true rfl⟩ ?_
  refine vx_ret ?_
  refine W.widen (k := 1) (n := 6) (Nat.le_of_ble_eq_true rfl) (Nat.le_of_ble_eq_true rfl) ?_
  exact W.iret (v := (nI (FL wd_2 qf_2 0 0))) hx hb hr (fun t ht hW => ⟨⟨_, (wd_2, qf_2), rfl, ⟨(by exact congrArg nI (by unfold s_alc; rw [if_pos hm_u]; show _ = ct (s_alp n B (nI k_u).toNatClampNeg) (B 4 (nI k_u).toNatClampNeg); rw [hc_k_u, ← FL_al hB hFW])), (by unfold s_alc; rw [if_pos hm_u])⟩, by rw [ht]; exact hP, va_K.moved hW.alike hK, hD⟩, hS.F ht⟩) hS.2.2 dX1_alignedByTrying_17
theorem hdX1_alignedByTrying : yX1_alignedByTrying.cls = RX1 ∧ yX1_alignedByTrying.cls ≠ "java/lang/invoke/MethodHandle" ∧ yX1_alignedByTrying.cls ≠ "java/lang/invoke/VarHandle" ∧ (parseMethodDescriptor yX1_alignedByTrying.desc).map (fun d => d.parameters.length) = some 1 := by decide +kernel
