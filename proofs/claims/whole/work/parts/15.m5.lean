set_option maxHeartbeats 4000000 in
set_option maxRecDepth 100000 in
theorem kX2_alignedOf (l : Launch) (D : va_G) (cI : ClassId) (ad : Nat → Nat) (th : Nat) (n : Nat) (B : Nat → Nat → Nat) (P : Nat → Option Nat) (bs : Nat → Nat) (sz : Nat) (u : Int32) (hB : Bok n B) : Met l yX2_alignedOf wsX2_alignedOf ({ frames := 3, cells := 0, slots := 0, locals := 72 }) (PcM D [(cI, .int)] (wM cI ad th n B P bs) sz [.ref (ad 0), .int (u)]) (va_Qi (fun (r : Int32) (u9 : (Nat → Option Nat) × (Nat → Nat)) => r = (nI ((s_alc n B u).2))) (fun (u9 : (Nat → Option Nat) × (Nat → Nat)) t => AtW D [(cI, .int)] (va_A (wM cI ad th n B P bs) sz) (wM cI ad ((s_alc n B u).1) n B u9.1 u9.2) t) (va_A (wM cI ad th n B P bs) sz)) 0 0 (va_A (wM cI ad th n B P bs) sz) := by
  refine Met.ofW (cc := cX2_alignedOf) (maxL := 4) (ret := (some .int)) (by decide) rfl ?_
  intro p e s m args below meth c s₁ BL hml hv
  obtain ⟨rfl, hsz, hP, hK, hD0⟩ := hv
  have hx := BL.exec
  have hb := BL.bytes
  have hr := BL.returns
  have hts := atoms_spec (ws := wsX2_alignedOf) BL.pre
  have hown : s.vm.findClass RX2 = some m.cls := findClass_of_methodNamed BL.named
  have hlocks := BL.notSynchronized
  have hin : ∀ w ∈ wsX20, w ∈ wsX2_alignedOf := by decide +kernel
  have hf_22 := hts (.fieldLink RX2 22 "TalkRebuilderModel" "many" "[I") (by decide +kernel)
  have hf_31 := hts (.fieldLink RX2 31 "TalkRebuilderModel" "partnerOf" "[I") (by decide +kernel)
  have hl := lv_entry ([.ref (ad 0), .int (u)]) (n := 4) (Nat.le_of_ble_eq_true rfl)
  rw [lg_entry_eq]
  generalize (lg_sl ([.ref (ad 0), .int (u)]) ++ List.replicate (4 - (lg_sl ([.ref (ad 0), .int (u)])).length) Slot.unset).toArray = ls at hl ⊢
  have hl : lv_has ls 4 [(0, .ref (ad 0)), (1, .int (u))] := hl
  subst hsz
  have hD := hD0.self (sz := s.heap.size)
  generalize hAe : va_A (wM cI ad th n B P bs) s.heap.size = A at hD ⊢
  have hA : ∀ q : Nat, s.heap.size ≤ q → A q := fun q h => by rw [← hAe]; exact Or.inr h
  have hS : va_S A s.heap s.heap [] := va_S.rf
  have hP : va_P D vwCl (wM cI ad th n B P bs) s.heap := hP
  have hD : va_D A (wM cI ad th n B P bs) := hD
  have hn10 := hB.1
  refine lv_aload_n hx hb dX2_alignedOf_0 rfl (lv_at hl 0 rfl) ?_
  refine lv_iload_n hx hb dX2_alignedOf_1 rfl (lv_at hl 1 rfl) ?_
  refine ro_V (As := [.int (u)]) (v := (bI (s_ism n u))) ⟨hx, hb, hml, hown, hts⟩ (kX2_isMail l D cI ad th n B P bs (u) hB) (cwV 1 hts gX2_alignedOf_X2_isMail rfl rfl rfl hdX2_isMail ⟨Nat.le_of_ble_eq_true rfl, Nat.le_of_ble_eq_true rfl⟩) hK hP (ci := 4) rfl (q0 := 0) rfl rfl rfl hl.1 rfl (Nat.le_of_ble_eq_true rfl) dX2_alignedOf_2 ⟨Nat.zero_le _, Nat.zero_le _⟩ ?_
  refine y_ne (tgt := 14) hx hb dX2_alignedOf_5 (by decide) (fun c_1 => ?_) (fun c_1 => ?_)
  · obtain ⟨k_u, hk_u, rfl⟩ := s_ism_t hB.1 c_1
    have hc_k_u : (nI k_u).toNatClampNeg = k_u := nI_clamp (by omega)
    refine lv_aload_n hx hb dX2_alignedOf_14 rfl (lv_at hl 0 rfl) ?_
    refine lv_iload_n hx hb dX2_alignedOf_15 rfl (lv_at hl 1 rfl) ?_
    refine mo_Vv (wr := []) (As := [.int (nI (k_u))]) ⟨hx, hb, hml, hown, hts⟩ (kX2_aligns l D cI ad th n B P bs s.heap.size k_u hB (by omega)) (cwV 1 hts gX2_alignedOf_X2_aligns rfl rfl rfl hdX2_aligns ⟨Nat.le_of_ble_eq_true rfl, Nat.le_of_ble_eq_true rfl⟩) hK hP hD hS hA (ci := 4) rfl (q0 := 0) rfl rfl rfl hl.1 rfl (Nat.le_of_ble_eq_true rfl) dX2_alignedOf_16 ⟨Nat.zero_le _, Nat.zero_le _⟩ (fun (bs_2 : Nat → Nat) H locs hw_2 hP hD hS => ?_)
    have hP : va_P D vwCl (wM cI ad th n B (s_al n B k_u P) bs_2) H := hP
    have hD : va_D A (wM cI ad th n B (s_al n B k_u P) bs_2) := hD
    refine lv_iconst (v := (nI (0))) hx hb dX2_alignedOf_19 (by decide +kernel) ?_
    refine lv_istore_n (lv' := [(2, .int (nI (0))), (0, .ref (ad 0)), (1, .int (nI (k_u)))]) hx hb dX2_alignedOf_20 rfl hl (by decide) rfl (fun ls hl => ?_)
    refine lv_iconst (v := (nI (0))) hx hb dX2_alignedOf_21 (by decide +kernel) ?_
    refine lv_istore_n (lv' := [(3, .int (nI (0))), (2, .int (nI (0))), (0, .ref (ad 0)), (1, .int (nI (k_u)))]) hx hb dX2_alignedOf_22 rfl hl (by decide) rfl (fun ls hl => ?_)
    have loop_23 : ∀ (N : Nat) (z : Nat), B 4 k_u - z < N → (z ≤ B 4 k_u) → ∀ (H : Heap) (locs : List Loc), va_P D vwCl (wM cI ad th n B (s_al n B k_u P) bs_2) H → va_D A (wM cI ad th n B (s_al n B k_u P) bs_2) → va_S A s.heap H locs → ∀ (ls : Array Slot), lv_has ls 4 [(0, .ref (ad 0)), (1, .int (nI (k_u))), (2, .int (nI (ct (s_alp n B k_u) z))), (3, .int (nI (z)))] → W p l e (headSpec wsX2_alignedOf ({ frames := 3, cells := 0, slots := 0, locals := 72 })).room s m ([.ref (ad 0), .int (nI k_u)] : List Value).toArray below meth c H locs 0 0 (MQ below (va_Qi (fun (r : Int32) (u9 : (Nat → Option Nat) × (Nat → Nat)) => r = (nI ((s_alc n B (nI k_u)).2))) (fun (u9 : (Nat → Option Nat) × (Nat → Nat)) t => AtW D [(cI, .int)] A (wM cI ad ((s_alc n B (nI k_u)).1) n B u9.1 u9.2) t) A) ([.ref (ad 0), .int (nI k_u)] : List Value).toArray s 0 0 A) (F0 m 23 ls []) := by
      intro N
      induction N with
      | zero => intro z hmu; exact absurd hmu (Nat.not_lt_zero _)
      | succ N ih_23 =>
        intro z hmu_23 h_z H locs hP hD hS ls hl
        have h8u := hB.2.2.1 k_u
        refine lv_iload_n hx hb dX2_alignedOf_23 rfl (lv_at hl 3 rfl) ?_
        refine lv_aload_n hx hb dX2_alignedOf_24 rfl (lv_at hl 0 rfl) ?_
        refine va_get (D := D) (ci := 4) (v := .ref (ad 5)) (C := RX2) (T := TX2) (N := 11) hx hb hts hin hown hK hP 0 rfl rfl 6 (by decide) hf_22 (fun _ h9 => h9) rfl dX2_alignedOf_25 ?_
        refine lv_iload_n hx hb dX2_alignedOf_28 rfl (lv_at hl 1 rfl) ?_
        refine n_iald hx hb hK hP 5 0 rfl rfl (i := k_u) (by omega) (by decide) dX2_alignedOf_29 ?_
        have hq_3 := hB.2.2.1 k_u
        refine n_ge (tgt := 62) hx hb (by omega) (by omega) dX2_alignedOf_30 (by decide) (fun c_4 => ?_) (fun c_4 => ?_)
        · have hyk : B 4 k_u = z := by omega
          have hct := ct_le (s_alp n B k_u) z
          refine lv_aload_n hx hb dX2_alignedOf_62 rfl (lv_at hl 0 rfl) ?_
          refine lv_iload_n hx hb dX2_alignedOf_63 rfl (lv_at hl 2 rfl) ?_
          refine mo_V (wr := []) (As := [.int (nI (ct (s_alp n B k_u) z))]) ⟨hx, hb, hml, hown, hts⟩ (kX2_tells l D cI ad th n B (s_al n B k_u P) bs_2 H.size (nI (ct (s_alp n B k_u) z)) ) (cwV 1 hts gX2_alignedOf_X2_tells rfl rfl rfl hdX2_tells ⟨Nat.le_of_ble_eq_true rfl, Nat.le_of_ble_eq_true rfl⟩) hK hP hD hS hA (ci := 4) rfl (q0 := 0) rfl rfl rfl hl.1 rfl (Nat.le_of_ble_eq_true rfl) dX2_alignedOf_64 ⟨Nat.zero_le _, Nat.zero_le _⟩ (fun r_5 (u9 : Unit) H locs hw_5 hP hD hS => ?_)
          subst hw_5
          have hP : va_P D vwCl (wM cI ad 0 n B (s_al n B k_u P) bs_2) H := hP
          have hD : va_D A (wM cI ad 0 n B (s_al n B k_u P) bs_2) := hD
          have ew_6 : 0 = ((s_alc n B (nI k_u)).1) := by first | rfl | (simp [oI_s, bI_t, bI_f, s_alc, s_ocode, c_1, hc_k_u, c_4, hyk, Nat.not_lt.mpr c_4]; done) | (simp [oI_s, bI_t, bI_f, s_alc, s_ocode, c_1, hc_k_u, c_4, hyk, Nat.not_lt.mpr c_4]; omega) | (simp only [s_alc, s_ocode]; (repeat' split) <;> first | rfl | omega | (simp_all; done) | (simp_all; omega))
          have hP : va_P D vwCl (wM cI ad ((s_alc n B (nI k_u)).1) n B (s_al n B k_u P) bs_2) H := by rw [← ew_6]; exact hP
          have hD : va_D A (wM cI ad ((s_alc n B (nI k_u)).1) n B (s_al n B k_u P) bs_2) := by rw [← ew_6]; exact hD
          exact W.iret (v := (nI (ct (s_alp n B k_u) z))) hx hb hr (fun t ht hW => ⟨⟨_, ((s_al n B k_u P), bs_2), rfl, (by first | rfl | (simp [oI_s, bI_t, bI_f, s_alc, s_ocode, c_1, hc_k_u, c_4, hyk, Nat.not_lt.mpr c_4]; done) | (simp [oI_s, bI_t, bI_f, s_alc, s_ocode, c_1, hc_k_u, c_4, hyk, Nat.not_lt.mpr c_4]; omega) | (simp only [s_alc, s_ocode]; (repeat' split) <;> first | rfl | omega | (simp_all; done) | (simp_all; omega))), by rw [ht]; exact hP, va_K.moved hW.alike hK, hD⟩, hS.F ht⟩) hS.2.2 dX2_alignedOf_67
        refine lv_iload_n hx hb dX2_alignedOf_33 rfl (lv_at hl 2 rfl) ?_
        refine lv_aload_n hx hb dX2_alignedOf_34 rfl (lv_at hl 0 rfl) ?_
        refine va_get (D := D) (ci := 4) (v := .ref (ad 8)) (C := RX2) (T := TX2) (N := 11) hx hb hts hin hown hK hP 0 rfl rfl 9 (by decide) hf_31 (fun _ h9 => h9) rfl dX2_alignedOf_35 ?_
        refine lv_bipush (v := (nI (8))) hx hb dX2_alignedOf_38 (by decide +kernel) ?_
        refine lv_iload_n hx hb dX2_alignedOf_40 rfl (lv_at hl 1 rfl) ?_
        refine lv_imul hx hb dX2_alignedOf_41 ?_
        refine n_top (y := (nI (8 * k_u))) (pk_mul _ _) ?_
        refine lv_iload_n hx hb dX2_alignedOf_42 rfl (lv_at hl 3 rfl) ?_
        refine lv_iadd hx hb dX2_alignedOf_43 ?_
        refine n_top (y := (nI (8 * k_u + z))) (nI_add _ _) ?_
        refine n_iald hx hb hK hP 8 0 rfl rfl (i := 8 * k_u + z) (by omega) (by decide) dX2_alignedOf_44 ?_
        refine n_top (y := (oI (s_pa n B k_u z))) (by rw [s_al_in (by omega)]) ?_
        refine lv_iconst (v := (oI (none))) hx hb dX2_alignedOf_45 (by decide +kernel) ?_
        refine o_ne (tgt := 53) hx hb (s_pa_b hB.2.2.1) dX2_alignedOf_46 (by decide) (fun kc_7 c_7 => ?_) (fun c_7 => ?_)
        · refine lv_iconst (v := (nI (1))) hx hb dX2_alignedOf_53 (by decide +kernel) ?_
          refine lv_iadd hx hb dX2_alignedOf_54 ?_
          refine n_top (y := (nI (ct (s_alp n B k_u) z + 1))) (nI_add _ _) ?_
          refine lv_istore_n (lv' := [(2, .int (nI (ct (s_alp n B k_u) z + 1))), (0, .ref (ad 0)), (1, .int (nI (k_u))), (3, .int (nI (z)))]) hx hb dX2_alignedOf_55 rfl hl (by decide) rfl (fun ls hl => ?_)
          refine lv_iinc (v := (nI (z + 1))) (lv' := [(3, .int (nI (z + 1))), (2, .int (nI (ct (s_alp n B k_u) z + 1))), (0, .ref (ad 0)), (1, .int (nI (k_u)))]) hx hb dX2_alignedOf_56 hl (k := 3) rfl (nI_1 _) (by decide) rfl (fun ls hl => ?_)
          refine lv_goto (tgt := 23) hx hb dX2_alignedOf_59 (by decide) ?_
          have e_8 : ((nI (ct (s_alp n B k_u) z + 1)) : Int32) = (nI (ct (s_alp n B k_u) (z + 1))) := by first | rfl | (simp [oI_s, bI_t, bI_f, ct, s_alp, c_1, hc_k_u, c_4, c_7, Nat.not_le.mp c_4]; done) | (simp [oI_s, bI_t, bI_f, ct, s_alp, c_1, hc_k_u, c_4, c_7, Nat.not_le.mp c_4]; omega) | (simp only [ct, s_alp]; (repeat' split) <;> first | rfl | omega | (simp_all; done) | (simp_all; omega))
          exact ih_23 (z + 1) (by omega) (by omega) _ _ hP hD hS _ (show lv_has ls 4 [(0, .ref (ad 0)), (1, .int (nI (k_u))), (2, .int (nI (ct (s_alp n B k_u) (z + 1)))), (3, .int (nI (z + 1)))] from by rw [← e_8]; exact lv_sub hl [2, 3, 1, 0] rfl)
        refine lv_iconst (v := (nI (0))) hx hb dX2_alignedOf_49 (by decide +kernel) ?_
        refine lv_goto (tgt := 54) hx hb dX2_alignedOf_50 (by decide) ?_
        refine lv_iadd hx hb dX2_alignedOf_54 ?_
        refine n_top (y := (nI (ct (s_alp n B k_u) z + 0))) (nI_add _ _) ?_
        refine lv_istore_n (lv' := [(2, .int (nI (ct (s_alp n B k_u) z + 0))), (0, .ref (ad 0)), (1, .int (nI (k_u))), (3, .int (nI (z)))]) hx hb dX2_alignedOf_55 rfl hl (by decide) rfl (fun ls hl => ?_)
        refine lv_iinc (v := (nI (z + 1))) (lv' := [(3, .int (nI (z + 1))), (2, .int (nI (ct (s_alp n B k_u) z + 0))), (0, .ref (ad 0)), (1, .int (nI (k_u)))]) hx hb dX2_alignedOf_56 hl (k := 3) rfl (nI_1 _) (by decide) rfl (fun ls hl => ?_)
        refine lv_goto (tgt := 23) hx hb dX2_alignedOf_59 (by decide) ?_
        have e_9 : ((nI (ct (s_alp n B k_u) z + 0)) : Int32) = (nI (ct (s_alp n B k_u) (z + 1))) := by first | rfl | (simp [oI_s, bI_t, bI_f, ct, s_alp, c_1, hc_k_u, c_4, c_7, Nat.not_le.mp c_4]; done) | (simp [oI_s, bI_t, bI_f, ct, s_alp, c_1, hc_k_u, c_4, c_7, Nat.not_le.mp c_4]; omega) | (simp only [ct, s_alp]; (repeat' split) <;> first | rfl | omega | (simp_all; done) | (simp_all; omega))
        exact ih_23 (z + 1) (by omega) (by omega) _ _ hP hD hS _ (show lv_has ls 4 [(0, .ref (ad 0)), (1, .int (nI (k_u))), (2, .int (nI (ct (s_alp n B k_u) (z + 1)))), (3, .int (nI (z + 1)))] from by rw [← e_9]; exact lv_sub hl [2, 3, 1, 0] rfl)
    have e_10 : ((nI (0)) : Int32) = (nI (ct (s_alp n B k_u) 0)) := by first | rfl | (simp [oI_s, bI_t, bI_f, ct, s_alp, c_1, hc_k_u]; done) | (simp [oI_s, bI_t, bI_f, ct, s_alp, c_1, hc_k_u]; omega) | (simp only [ct, s_alp]; (repeat' split) <;> first | rfl | omega | (simp_all; done) | (simp_all; omega))
    exact loop_23 (B 4 k_u - 0 + 1) 0 (by omega) (by omega) _ _ hP hD hS _ (show lv_has ls 4 [(0, .ref (ad 0)), (1, .int (nI (k_u))), (2, .int (nI (ct (s_alp n B k_u) 0))), (3, .int (nI (0)))] from by rw [← e_10]; exact lv_sub hl [2, 3, 1, 0] rfl)
  refine lv_aload_n hx hb dX2_alignedOf_8 rfl (lv_at hl 0 rfl) ?_
  refine lv_iconst (v := (nI (1))) hx hb dX2_alignedOf_9 (by decide +kernel) ?_
  refine mo_V (wr := []) (As := [.int (nI (1))]) ⟨hx, hb, hml, hown, hts⟩ (kX2_fails l D cI ad th n B P bs s.heap.size 1 ) (cwV 1 hts gX2_alignedOf_X2_fails rfl rfl rfl hdX2_fails ⟨Nat.le_of_ble_eq_true rfl, Nat.le_of_ble_eq_true rfl⟩) hK hP hD hS hA (ci := 4) rfl (q0 := 0) rfl rfl rfl hl.1 rfl (Nat.le_of_ble_eq_true rfl) dX2_alignedOf_10 ⟨Nat.zero_le _, Nat.zero_le _⟩ (fun r_11 (u9 : Unit) H locs hw_11 hP hD hS => ?_)
  subst hw_11
  have hP : va_P D vwCl (wM cI ad 1 n B P bs) H := hP
  have hD : va_D A (wM cI ad 1 n B P bs) := hD
  have ew_12 : 1 = ((s_alc n B u).1) := by first | rfl | (simp [oI_s, bI_t, bI_f, s_alc, s_ocode, c_1]; done) | (simp [oI_s, bI_t, bI_f, s_alc, s_ocode, c_1]; omega) | (simp only [s_alc, s_ocode]; (repeat' split) <;> first | rfl | omega | (simp_all; done) | (simp_all; omega))
  have hP : va_P D vwCl (wM cI ad ((s_alc n B u).1) n B P bs) H := by rw [← ew_12]; exact hP
  have hD : va_D A (wM cI ad ((s_alc n B u).1) n B P bs) := by rw [← ew_12]; exact hD
  exact W.iret (v := (nI (0))) hx hb hr (fun t ht hW => ⟨⟨_, (P, bs), rfl, (by first | rfl | (simp [oI_s, bI_t, bI_f, s_alc, s_ocode, c_1]; done) | (simp [oI_s, bI_t, bI_f, s_alc, s_ocode, c_1]; omega) | (simp only [s_alc, s_ocode]; (repeat' split) <;> first | rfl | omega | (simp_all; done) | (simp_all; omega))), by rw [ht]; exact hP, va_K.moved hW.alike hK, hD⟩, hS.F ht⟩) hS.2.2 dX2_alignedOf_13
theorem hdX2_alignedOf : yX2_alignedOf.cls = RX2 ∧ yX2_alignedOf.cls ≠ "java/lang/invoke/MethodHandle" ∧ yX2_alignedOf.cls ≠ "java/lang/invoke/VarHandle" ∧ (parseMethodDescriptor yX2_alignedOf.desc).map (fun d => d.parameters.length) = some 1 := by decide +kernel
set_option maxHeartbeats 4000000 in
set_option maxRecDepth 100000 in
theorem kX2_aligned (l : Launch) (D : va_G) (cI : ClassId) (ad : Nat → Nat) (th : Nat) (n : Nat) (B : Nat → Nat → Nat) (P : Nat → Option Nat) (bs : Nat → Nat) (sz : Nat) (u : Int32) (hB : Bok n B) : Met l yX2_aligned wsX2_aligned ({ frames := 4, cells := 0, slots := 0, locals := 95 }) (PcM D [(cI, .int)] (wM cI ad th n B P bs) sz [.ref (ad 0), .int (u)]) (va_Qi (fun (r : Int32) (u9 : (Nat → Option Nat) × (Nat → Nat)) => r = (nI ((s_alc n B u).2))) (fun (u9 : (Nat → Option Nat) × (Nat → Nat)) t => AtW D [(cI, .int)] (va_A (wM cI ad th n B P bs) sz) (wM cI ad ((s_alc n B u).1) n B u9.1 u9.2) t) (va_A (wM cI ad th n B P bs) sz)) 0 0 (va_A (wM cI ad th n B P bs) sz) := by
  refine Met.ofW (cc := cX2_aligned) (maxL := 2) (ret := (some .int)) (by decide) rfl ?_
  intro p e s m args below meth c s₁ BL hml hv
  obtain ⟨rfl, hsz, hP, hK, hD0⟩ := hv
  have hx := BL.exec
  have hb := BL.bytes
  have hr := BL.returns
  have hts := atoms_spec (ws := wsX2_aligned) BL.pre
  have hown : s.vm.findClass RX2 = some m.cls := findClass_of_methodNamed BL.named
  have hlocks := BL.notSynchronized
  have hl := lv_entry ([.ref (ad 0), .int (u)]) (n := 2) (Nat.le_of_ble_eq_true rfl)
  rw [lg_entry_eq]
  generalize (lg_sl ([.ref (ad 0), .int (u)]) ++ List.replicate (2 - (lg_sl ([.ref (ad 0), .int (u)])).length) Slot.unset).toArray = ls at hl ⊢
  have hl : lv_has ls 2 [(0, .ref (ad 0)), (1, .int (u))] := hl
  subst hsz
  have hD := hD0.self (sz := s.heap.size)
  generalize hAe : va_A (wM cI ad th n B P bs) s.heap.size = A at hD ⊢
  have hA : ∀ q : Nat, s.heap.size ≤ q → A q := fun q h => by rw [← hAe]; exact Or.inr h
  have hS : va_S A s.heap s.heap [] := va_S.rf
  have hP : va_P D vwCl (wM cI ad th n B P bs) s.heap := hP
  have hD : va_D A (wM cI ad th n B P bs) := hD
  have hn10 := hB.1
  refine lv_aload_n hx hb dX2_aligned_0 rfl (lv_at hl 0 rfl) ?_
  refine lv_iload_n hx hb dX2_aligned_1 rfl (lv_at hl 1 rfl) ?_
  refine mo_V (wr := []) (As := [.int (u)]) ⟨hx, hb, hml, hown, hts⟩ (kX2_alignedOf l D cI ad th n B P bs s.heap.size (u) hB) (cwV 1 hts gX2_aligned_X2_alignedOf rfl rfl rfl hdX2_alignedOf ⟨Nat.le_of_ble_eq_true rfl, Nat.le_of_ble_eq_true rfl⟩) hK hP hD hS hA (ci := 4) rfl (q0 := 0) rfl rfl rfl hl.1 rfl (Nat.le_of_ble_eq_true rfl) dX2_aligned_2 ⟨Nat.zero_le _, Nat.zero_le _⟩ (fun r_1 u_1 H locs hw_1 hP hD hS => ?_)
  obtain ⟨P_1, bs_1⟩ := u_1
  subst hw_1
  have hP : va_P D vwCl (wM cI ad ((s_alc n B u).1) n B P_1 bs_1) H := hP
  have hD : va_D A (wM cI ad ((s_alc n B u).1) n B P_1 bs_1) := hD
  exact W.iret (v := (nI ((s_alc n B u).2))) hx hb hr (fun t ht hW => ⟨⟨_, (P_1, bs_1), rfl, rfl, by rw [ht]; exact hP, va_K.moved hW.alike hK, hD⟩, hS.F ht⟩) hS.2.2 dX2_aligned_5
theorem hdX2_aligned : yX2_aligned.cls = RX2 ∧ yX2_aligned.cls ≠ "java/lang/invoke/MethodHandle" ∧ yX2_aligned.cls ≠ "java/lang/invoke/VarHandle" ∧ (parseMethodDescriptor yX2_aligned.desc).map (fun d => d.parameters.length) = some 1 := by decide +kernel
set_option maxHeartbeats 4000000 in
set_option maxRecDepth 100000 in
theorem kX2_alignedByTrying (l : Launch) (D : va_G) (cI : ClassId) (ad : Nat → Nat) (th : Nat) (n : Nat) (B : Nat → Nat → Nat) (P : Nat → Option Nat) (bs : Nat → Nat) (sz : Nat) (u : Int32) (hB : Bok n B) : Met l yX2_alignedByTrying wsX2_alignedByTrying ({ frames := 4, cells := 0, slots := 0, locals := 95 }) (PcM D [(cI, .int)] (wM cI ad th n B P bs) sz [.ref (ad 0), .int (u)]) (va_Qi (fun (r : Int32) (u9 : (Nat → Option Nat) × (Nat → Nat)) => r = (nI ((s_alc n B u).2))) (fun (u9 : (Nat → Option Nat) × (Nat → Nat)) t => AtW D [(cI, .int)] (va_A (wM cI ad th n B P bs) sz) (wM cI ad ((s_alc n B u).1) n B u9.1 u9.2) t) (va_A (wM cI ad th n B P bs) sz)) 0 0 (va_A (wM cI ad th n B P bs) sz) := by
  refine Met.ofW (cc := cX2_alignedByTrying) (maxL := 2) (ret := (some .int)) (by decide) rfl ?_
  intro p e s m args below meth c s₁ BL hml hv
  obtain ⟨rfl, hsz, hP, hK, hD0⟩ := hv
  have hx := BL.exec
  have hb := BL.bytes
  have hr := BL.returns
  have hts := atoms_spec (ws := wsX2_alignedByTrying) BL.pre
  have hown : s.vm.findClass RX2 = some m.cls := findClass_of_methodNamed BL.named
  have hlocks := BL.notSynchronized
  have hl := lv_entry ([.ref (ad 0), .int (u)]) (n := 2) (Nat.le_of_ble_eq_true rfl)
  rw [lg_entry_eq]
  generalize (lg_sl ([.ref (ad 0), .int (u)]) ++ List.replicate (2 - (lg_sl ([.ref (ad 0), .int (u)])).length) Slot.unset).toArray = ls at hl ⊢
  have hl : lv_has ls 2 [(0, .ref (ad 0)), (1, .int (u))] := hl
  subst hsz
  have hD := hD0.self (sz := s.heap.size)
  generalize hAe : va_A (wM cI ad th n B P bs) s.heap.size = A at hD ⊢
  have hA : ∀ q : Nat, s.heap.size ≤ q → A q := fun q h => by rw [← hAe]; exact Or.inr h
  have hS : va_S A s.heap s.heap [] := va_S.rf
  have hP : va_P D vwCl (wM cI ad th n B P bs) s.heap := hP
  have hD : va_D A (wM cI ad th n B P bs) := hD
  have hn10 := hB.1
  refine lv_aload_n hx hb dX2_alignedByTrying_0 rfl (lv_at hl 0 rfl) ?_
  refine lv_iload_n hx hb dX2_alignedByTrying_1 rfl (lv_at hl 1 rfl) ?_
  refine mo_V (wr := []) (As := [.int (u)]) ⟨hx, hb, hml, hown, hts⟩ (kX2_alignedOf l D cI ad th n B P bs s.heap.size (u) hB) (cwV 1 hts gX2_alignedByTrying_X2_alignedOf rfl rfl rfl hdX2_alignedOf ⟨Nat.le_of_ble_eq_true rfl, Nat.le_of_ble_eq_true rfl⟩) hK hP hD hS hA (ci := 4) rfl (q0 := 0) rfl rfl rfl hl.1 rfl (Nat.le_of_ble_eq_true rfl) dX2_alignedByTrying_2 ⟨Nat.zero_le _, Nat.zero_le _⟩ (fun r_1 u_1 H locs hw_1 hP hD hS => ?_)
  obtain ⟨P_1, bs_1⟩ := u_1
  subst hw_1
  have hP : va_P D vwCl (wM cI ad ((s_alc n B u).1) n B P_1 bs_1) H := hP
  have hD : va_D A (wM cI ad ((s_alc n B u).1) n B P_1 bs_1) := hD
  exact W.iret (v := (nI ((s_alc n B u).2))) hx hb hr (fun t ht hW => ⟨⟨_, (P_1, bs_1), rfl, rfl, by rw [ht]; exact hP, va_K.moved hW.alike hK, hD⟩, hS.F ht⟩) hS.2.2 dX2_alignedByTrying_5
theorem hdX2_alignedByTrying : yX2_alignedByTrying.cls = RX2 ∧ yX2_alignedByTrying.cls ≠ "java/lang/invoke/MethodHandle" ∧ yX2_alignedByTrying.cls ≠ "java/lang/invoke/VarHandle" ∧ (parseMethodDescriptor yX2_alignedByTrying.desc).map (fun d => d.parameters.length) = some 1 := by decide +kernel
set_option maxHeartbeats 4000000 in
set_option maxRecDepth 100000 in
theorem kX2_partner (l : Launch) (D : va_G) (cI : ClassId) (ad : Nat → Nat) (th : Nat) (n : Nat) (B : Nat → Nat → Nat) (P : Nat → Option Nat) (bs : Nat → Nat) (sz : Nat) (u : Int32) (w : Int32) (hB : Bok n B) : Met l yX2_partner wsX2_partner ({ frames := 3, cells := 0, slots := 0, locals := 72 }) (PcM D [(cI, .int)] (wM cI ad th n B P bs) sz [.ref (ad 0), .int (u), .int (w)]) (va_Qi (fun (r : Int32) (u9 : (Nat → Option Nat) × (Nat → Nat)) => r = (nI ((s_pr n B u w).2))) (fun (u9 : (Nat → Option Nat) × (Nat → Nat)) t => AtW D [(cI, .int)] (va_A (wM cI ad th n B P bs) sz) (wM cI ad ((s_pr n B u w).1) n B u9.1 u9.2) t) (va_A (wM cI ad th n B P bs) sz)) 0 0 (va_A (wM cI ad th n B P bs) sz) := by
  refine Met.ofW (cc := cX2_partner) (maxL := 3) (ret := (some .int)) (by decide) rfl ?_
  intro p e s m args below meth c s₁ BL hml hv
  obtain ⟨rfl, hsz, hP, hK, hD0⟩ := hv
  have hx := BL.exec
  have hb := BL.bytes
  have hr := BL.returns
  have hts := atoms_spec (ws := wsX2_partner) BL.pre
  have hown : s.vm.findClass RX2 = some m.cls := findClass_of_methodNamed BL.named
  have hlocks := BL.notSynchronized
  have hin : ∀ w ∈ wsX20, w ∈ wsX2_partner := by decide +kernel
  have hf_31 := hts (.fieldLink RX2 31 "TalkRebuilderModel" "partnerOf" "[I") (by decide +kernel)
  have hl := lv_entry ([.ref (ad 0), .int (u), .int (w)]) (n := 3) (Nat.le_of_ble_eq_true rfl)
  rw [lg_entry_eq]
  generalize (lg_sl ([.ref (ad 0), .int (u), .int (w)]) ++ List.replicate (3 - (lg_sl ([.ref (ad 0), .int (u), .int (w)])).length) Slot.unset).toArray = ls at hl ⊢
  have hl : lv_has ls 3 [(0, .ref (ad 0)), (1, .int (u)), (2, .int (w))] := hl
  subst hsz
  have hD := hD0.self (sz := s.heap.size)
  generalize hAe : va_A (wM cI ad th n B P bs) s.heap.size = A at hD ⊢
  have hA : ∀ q : Nat, s.heap.size ≤ q → A q := fun q h => by rw [← hAe]; exact Or.inr h
  have hS : va_S A s.heap s.heap [] := va_S.rf
  have hP : va_P D vwCl (wM cI ad th n B P bs) s.heap := hP
  have hD : va_D A (wM cI ad th n B P bs) := hD
  have hn10 := hB.1
  refine lv_aload_n hx hb dX2_partner_0 rfl (lv_at hl 0 rfl) ?_
  refine lv_iload_n hx hb dX2_partner_1 rfl (lv_at hl 1 rfl) ?_
  refine lv_iload_n hx hb dX2_partner_2 rfl (lv_at hl 2 rfl) ?_
  refine ro_V (As := [.int (u), .int (w)]) (v := (bI (s_isl n B u w))) ⟨hx, hb, hml, hown, hts⟩ (kX2_isLine l D cI ad th n B P bs (u) (w) hB) (cwV 2 hts gX2_partner_X2_isLine rfl rfl rfl hdX2_isLine ⟨Nat.le_of_ble_eq_true rfl, Nat.le_of_ble_eq_true rfl⟩) hK hP (ci := 4) rfl (q0 := 0) rfl rfl rfl hl.1 rfl (Nat.le_of_ble_eq_true rfl) dX2_partner_3 ⟨Nat.zero_le _, Nat.zero_le _⟩ ?_
  refine y_ne (tgt := 15) hx hb dX2_partner_6 (by decide) (fun c_1 => ?_) (fun c_1 => ?_)
  · obtain ⟨k_u, k_w, hk_u, hk_w, rfl, rfl⟩ := s_isl_t hB c_1
    have h8_u := hB.2.2.1 k_u
    have hc_k_u : (nI k_u).toNatClampNeg = k_u := nI_clamp (by omega)
    have hc_k_w : (nI k_w).toNatClampNeg = k_w := nI_clamp (by omega)
    refine lv_aload_n hx hb dX2_partner_15 rfl (lv_at hl 0 rfl) ?_
    refine lv_iload_n hx hb dX2_partner_16 rfl (lv_at hl 1 rfl) ?_
    refine mo_Vv (wr := []) (As := [.int (nI (k_u))]) ⟨hx, hb, hml, hown, hts⟩ (kX2_aligns l D cI ad th n B P bs s.heap.size k_u hB (by omega)) (cwV 1 hts gX2_partner_X2_aligns rfl rfl rfl hdX2_aligns ⟨Nat.le_of_ble_eq_true rfl, Nat.le_of_ble_eq_true rfl⟩) hK hP hD hS hA (ci := 4) rfl (q0 := 0) rfl rfl rfl hl.1 rfl (Nat.le_of_ble_eq_true rfl) dX2_partner_17 ⟨Nat.zero_le _, Nat.zero_le _⟩ (fun (bs_2 : Nat → Nat) H locs hw_2 hP hD hS => ?_)
    have hP : va_P D vwCl (wM cI ad th n B (s_al n B k_u P) bs_2) H := hP
    have hD : va_D A (wM cI ad th n B (s_al n B k_u P) bs_2) := hD
    refine lv_aload_n hx hb dX2_partner_20 rfl (lv_at hl 0 rfl) ?_
    refine va_get (D := D) (ci := 4) (v := .ref (ad 8)) (C := RX2) (T := TX2) (N := 11) hx hb hts hin hown hK hP 0 rfl rfl 9 (by decide) hf_31 (fun _ h9 => h9) rfl dX2_partner_21 ?_
    refine lv_bipush (v := (nI (8))) hx hb dX2_partner_24 (by decide +kernel) ?_
    refine lv_iload_n hx hb dX2_partner_26 rfl (lv_at hl 1 rfl) ?_
    refine lv_imul hx hb dX2_partner_27 ?_
    refine n_top (y := (nI (8 * k_u))) (pk_mul _ _) ?_
    refine lv_iload_n hx hb dX2_partner_28 rfl (lv_at hl 2 rfl) ?_
    refine lv_iadd hx hb dX2_partner_29 ?_
    refine n_top (y := (nI (8 * k_u + k_w))) (nI_add _ _) ?_
    refine n_iald hx hb hK hP 8 0 rfl rfl (i := 8 * k_u + k_w) (by omega) (by decide) dX2_partner_30 ?_
    refine n_top (y := (oI (s_pa n B k_u k_w))) (by rw [s_al_in (by omega)]) ?_
    refine lv_iconst (v := (oI (none))) hx hb dX2_partner_31 (by decide +kernel) ?_
    refine o_ne (tgt := 43) hx hb (s_pa_b hB.2.2.1) dX2_partner_32 (by decide) (fun kc_3 c_3 => ?_) (fun c_3 => ?_)
    · refine lv_aload_n hx hb dX2_partner_43 rfl (lv_at hl 0 rfl) ?_
      refine lv_aload_n hx hb dX2_partner_44 rfl (lv_at hl 0 rfl) ?_
      refine va_get (D := D) (ci := 4) (v := .ref (ad 8)) (C := RX2) (T := TX2) (N := 11) hx hb hts hin hown hK hP 0 rfl rfl 9 (by decide) hf_31 (fun _ h9 => h9) rfl dX2_partner_45 ?_
      refine lv_bipush (v := (nI (8))) hx hb dX2_partner_48 (by decide +kernel) ?_
      refine lv_iload_n hx hb dX2_partner_50 rfl (lv_at hl 1 rfl) ?_
      refine lv_imul hx hb dX2_partner_51 ?_
      refine n_top (y := (nI (8 * k_u))) (pk_mul _ _) ?_
      refine lv_iload_n hx hb dX2_partner_52 rfl (lv_at hl 2 rfl) ?_
      refine lv_iadd hx hb dX2_partner_53 ?_
      refine n_top (y := (nI (8 * k_u + k_w))) (nI_add _ _) ?_
      refine n_iald hx hb hK hP 8 0 rfl rfl (i := 8 * k_u + k_w) (by omega) (by decide) dX2_partner_54 ?_
      refine n_top (y := (oI (s_pa n B k_u k_w))) (by rw [s_al_in (by omega)]) ?_
      refine n_top (y := (nI (kc_3))) (by rw [c_3]; rfl) ?_
      refine mo_V (wr := []) (As := [.int (nI (kc_3))]) ⟨hx, hb, hml, hown, hts⟩ (kX2_tells l D cI ad th n B (s_al n B k_u P) bs_2 H.size (nI (kc_3)) ) (cwV 1 hts gX2_partner_X2_tells rfl rfl rfl hdX2_tells ⟨Nat.le_of_ble_eq_true rfl, Nat.le_of_ble_eq_true rfl⟩) hK hP hD hS hA (ci := 4) rfl (q0 := 0) rfl rfl rfl hl.1 rfl (Nat.le_of_ble_eq_true rfl) dX2_partner_55 ⟨Nat.zero_le _, Nat.zero_le _⟩ (fun r_4 (u9 : Unit) H locs hw_4 hP hD hS => ?_)
      subst hw_4
      have hP : va_P D vwCl (wM cI ad 0 n B (s_al n B k_u P) bs_2) H := hP
      have hD : va_D A (wM cI ad 0 n B (s_al n B k_u P) bs_2) := hD
      have ew_5 : 0 = ((s_pr n B (nI k_u) (nI k_w)).1) := by first | rfl | (simp [oI_s, bI_t, bI_f, s_pr, s_ocode, c_1, hc_k_u, hc_k_w, c_3]; done) | (simp [oI_s, bI_t, bI_f, s_pr, s_ocode, c_1, hc_k_u, hc_k_w, c_3]; omega) | (simp only [s_pr, s_ocode]; (repeat' split) <;> first | rfl | omega | (simp_all; done) | (simp_all; omega))
      have hP : va_P D vwCl (wM cI ad ((s_pr n B (nI k_u) (nI k_w)).1) n B (s_al n B k_u P) bs_2) H := by rw [← ew_5]; exact hP
      have hD : va_D A (wM cI ad ((s_pr n B (nI k_u) (nI k_w)).1) n B (s_al n B k_u P) bs_2) := by rw [← ew_5]; exact hD
      exact W.iret (v := (nI (kc_3))) hx hb hr (fun t ht hW => ⟨⟨_, ((s_al n B k_u P), bs_2), rfl, (by first | rfl | (simp [oI_s, bI_t, bI_f, s_pr, s_ocode, c_1, hc_k_u, hc_k_w, c_3]; done) | (simp [oI_s, bI_t, bI_f, s_pr, s_ocode, c_1, hc_k_u, hc_k_w, c_3]; omega) | (simp only [s_pr, s_ocode]; (repeat' split) <;> first | rfl | omega | (simp_all; done) | (simp_all; omega))), by rw [ht]; exact hP, va_K.moved hW.alike hK, hD⟩, hS.F ht⟩) hS.2.2 dX2_partner_58
    refine lv_aload_n hx hb dX2_partner_35 rfl (lv_at hl 0 rfl) ?_
    refine lv_iconst (v := (nI (2))) hx hb dX2_partner_36 (by decide +kernel) ?_
    refine mo_V (wr := []) (As := [.int (nI (2))]) ⟨hx, hb, hml, hown, hts⟩ (kX2_fails l D cI ad th n B (s_al n B k_u P) bs_2 H.size 2 ) (cwV 1 hts gX2_partner_X2_fails rfl rfl rfl hdX2_fails ⟨Nat.le_of_ble_eq_true rfl, Nat.le_of_ble_eq_true rfl⟩) hK hP hD hS hA (ci := 4) rfl (q0 := 0) rfl rfl rfl hl.1 rfl (Nat.le_of_ble_eq_true rfl) dX2_partner_37 ⟨Nat.zero_le _, Nat.zero_le _⟩ (fun r_6 (u9 : Unit) H locs hw_6 hP hD hS => ?_)
    subst hw_6
    have hP : va_P D vwCl (wM cI ad 2 n B (s_al n B k_u P) bs_2) H := hP
    have hD : va_D A (wM cI ad 2 n B (s_al n B k_u P) bs_2) := hD
    refine lv_goto (tgt := 58) hx hb dX2_partner_40 (by decide) ?_
    have ew_7 : 2 = ((s_pr n B (nI k_u) (nI k_w)).1) := by first | rfl | (simp [oI_s, bI_t, bI_f, s_pr, s_ocode, c_1, hc_k_u, hc_k_w, c_3]; done) | (simp [oI_s, bI_t, bI_f, s_pr, s_ocode, c_1, hc_k_u, hc_k_w, c_3]; omega) | (simp only [s_pr, s_ocode]; (repeat' split) <;> first | rfl | omega | (simp_all; done) | (simp_all; omega))
    have hP : va_P D vwCl (wM cI ad ((s_pr n B (nI k_u) (nI k_w)).1) n B (s_al n B k_u P) bs_2) H := by rw [← ew_7]; exact hP
    have hD : va_D A (wM cI ad ((s_pr n B (nI k_u) (nI k_w)).1) n B (s_al n B k_u P) bs_2) := by rw [← ew_7]; exact hD
    exact W.iret (v := (nI (0))) hx hb hr (fun t ht hW => ⟨⟨_, ((s_al n B k_u P), bs_2), rfl, (by first | rfl | (simp [oI_s, bI_t, bI_f, s_pr, s_ocode, c_1, hc_k_u, hc_k_w, c_3]; done) | (simp [oI_s, bI_t, bI_f, s_pr, s_ocode, c_1, hc_k_u, hc_k_w, c_3]; omega) | (simp only [s_pr, s_ocode]; (repeat' split) <;> first | rfl | omega | (simp_all; done) | (simp_all; omega))), by rw [ht]; exact hP, va_K.moved hW.alike hK, hD⟩, hS.F ht⟩) hS.2.2 dX2_partner_58
  refine lv_aload_n hx hb dX2_partner_9 rfl (lv_at hl 0 rfl) ?_
  refine lv_iconst (v := (nI (1))) hx hb dX2_partner_10 (by decide +kernel) ?_
  refine mo_V (wr := []) (As := [.int (nI (1))]) ⟨hx, hb, hml, hown, hts⟩ (kX2_fails l D cI ad th n B P bs s.heap.size 1 ) (cwV 1 hts gX2_partner_X2_fails rfl rfl rfl hdX2_fails ⟨Nat.le_of_ble_eq_true rfl, Nat.le_of_ble_eq_true rfl⟩) hK hP hD hS hA (ci := 4) rfl (q0 := 0) rfl rfl rfl hl.1 rfl (Nat.le_of_ble_eq_true rfl) dX2_partner_11 ⟨Nat.zero_le _, Nat.zero_le _⟩ (fun r_8 (u9 : Unit) H locs hw_8 hP hD hS => ?_)
  subst hw_8
  have hP : va_P D vwCl (wM cI ad 1 n B P bs) H := hP
  have hD : va_D A (wM cI ad 1 n B P bs) := hD
  have ew_9 : 1 = ((s_pr n B u w).1) := by first | rfl | (simp [oI_s, bI_t, bI_f, s_pr, s_ocode, c_1]; done) | (simp [oI_s, bI_t, bI_f, s_pr, s_ocode, c_1]; omega) | (simp only [s_pr, s_ocode]; (repeat' split) <;> first | rfl | omega | (simp_all; done) | (simp_all; omega))
  have hP : va_P D vwCl (wM cI ad ((s_pr n B u w).1) n B P bs) H := by rw [← ew_9]; exact hP
  have hD : va_D A (wM cI ad ((s_pr n B u w).1) n B P bs) := by rw [← ew_9]; exact hD
  exact W.iret (v := (nI (0))) hx hb hr (fun t ht hW => ⟨⟨_, (P, bs), rfl, (by first | rfl | (simp [oI_s, bI_t, bI_f, s_pr, s_ocode, c_1]; done) | (simp [oI_s, bI_t, bI_f, s_pr, s_ocode, c_1]; omega) | (simp only [s_pr, s_ocode]; (repeat' split) <;> first | rfl | omega | (simp_all; done) | (simp_all; omega))), by rw [ht]; exact hP, va_K.moved hW.alike hK, hD⟩, hS.F ht⟩) hS.2.2 dX2_partner_14
theorem hdX2_partner : yX2_partner.cls = RX2 ∧ yX2_partner.cls ≠ "java/lang/invoke/MethodHandle" ∧ yX2_partner.cls ≠ "java/lang/invoke/VarHandle" ∧ (parseMethodDescriptor yX2_partner.desc).map (fun d => d.parameters.length) = some 2 := by decide +kernel
set_option maxHeartbeats 4000000 in
set_option maxRecDepth 100000 in
theorem kX2_originMail (l : Launch) (D : va_G) (cI : ClassId) (ad : Nat → Nat) (th : Nat) (n : Nat) (B : Nat → Nat → Nat) (P : Nat → Option Nat) (bs : Nat → Nat) (sz : Nat) (u : Int32) (w : Int32) (hB : Bok n B) : Met l yX2_originMail wsX2_originMail ({ frames := 4, cells := 0, slots := 0, locals := 93 }) (PcM D [(cI, .int)] (wM cI ad th n B P bs) sz [.ref (ad 0), .int (u), .int (w)]) (va_Qi (fun (r : Int32) (u9 : (Nat → Option Nat) × (Nat → Nat)) => r = (nI ((s_orc n B u w).2 / 8))) (fun (u9 : (Nat → Option Nat) × (Nat → Nat)) t => AtW D [(cI, .int)] (va_A (wM cI ad th n B P bs) sz) (wM cI ad ((s_orc n B u w).1) n B u9.1 u9.2) t) (va_A (wM cI ad th n B P bs) sz)) 0 0 (va_A (wM cI ad th n B P bs) sz) := by
  refine Met.ofW (cc := cX2_originMail) (maxL := 3) (ret := (some .int)) (by decide) rfl ?_
  intro p e s m args below meth c s₁ BL hml hv
  obtain ⟨rfl, hsz, hP, hK, hD0⟩ := hv
  have hx := BL.exec
  have hb := BL.bytes
  have hr := BL.returns
  have hts := atoms_spec (ws := wsX2_originMail) BL.pre
  have hown : s.vm.findClass RX2 = some m.cls := findClass_of_methodNamed BL.named
  have hlocks := BL.notSynchronized
  have hl := lv_entry ([.ref (ad 0), .int (u), .int (w)]) (n := 3) (Nat.le_of_ble_eq_true rfl)
  rw [lg_entry_eq]
  generalize (lg_sl ([.ref (ad 0), .int (u), .int (w)]) ++ List.replicate (3 - (lg_sl ([.ref (ad 0), .int (u), .int (w)])).length) Slot.unset).toArray = ls at hl ⊢
  have hl : lv_has ls 3 [(0, .ref (ad 0)), (1, .int (u)), (2, .int (w))] := hl
  subst hsz
  have hD := hD0.self (sz := s.heap.size)
  generalize hAe : va_A (wM cI ad th n B P bs) s.heap.size = A at hD ⊢
  have hA : ∀ q : Nat, s.heap.size ≤ q → A q := fun q h => by rw [← hAe]; exact Or.inr h
  have hS : va_S A s.heap s.heap [] := va_S.rf
  have hP : va_P D vwCl (wM cI ad th n B P bs) s.heap := hP
  have hD : va_D A (wM cI ad th n B P bs) := hD
  have hn10 := hB.1
  refine lv_aload_n hx hb dX2_originMail_0 rfl (lv_at hl 0 rfl) ?_
  refine lv_iload_n hx hb dX2_originMail_1 rfl (lv_at hl 1 rfl) ?_
  refine lv_iload_n hx hb dX2_originMail_2 rfl (lv_at hl 2 rfl) ?_
  refine ro_V (As := [.int (u), .int (w)]) (v := (bI (s_isl n B u w))) ⟨hx, hb, hml, hown, hts⟩ (kX2_isLine l D cI ad th n B P bs (u) (w) hB) (cwV 2 hts gX2_originMail_X2_isLine rfl rfl rfl hdX2_isLine ⟨Nat.le_of_ble_eq_true rfl, Nat.le_of_ble_eq_true rfl⟩) hK hP (ci := 4) rfl (q0 := 0) rfl rfl rfl hl.1 rfl (Nat.le_of_ble_eq_true rfl) dX2_originMail_3 ⟨Nat.zero_le _, Nat.zero_le _⟩ ?_
  refine y_ne (tgt := 15) hx hb dX2_originMail_6 (by decide) (fun c_1 => ?_) (fun c_1 => ?_)
  · obtain ⟨k_u, k_w, hk_u, hk_w, rfl, rfl⟩ := s_isl_t hB c_1
    have h8_u := hB.2.2.1 k_u
    have hc_k_u : (nI k_u).toNatClampNeg = k_u := nI_clamp (by omega)
    have hc_k_w : (nI k_w).toNatClampNeg = k_w := nI_clamp (by omega)
    refine lv_aload_n hx hb dX2_originMail_15 rfl (lv_at hl 0 rfl) ?_
    refine mo_Vv (wr := []) (As := []) ⟨hx, hb, hml, hown, hts⟩ (kX2_alignsAll l D cI ad th n B P bs s.heap.size  hB) (cwV 0 hts gX2_originMail_X2_alignsAll rfl rfl rfl hdX2_alignsAll ⟨Nat.le_of_ble_eq_true rfl, Nat.le_of_ble_eq_true rfl⟩) hK hP hD hS hA (ci := 4) rfl (q0 := 0) rfl rfl rfl hl.1 rfl (Nat.le_of_ble_eq_true rfl) dX2_originMail_16 ⟨Nat.zero_le _, Nat.zero_le _⟩ (fun u_2 H locs hw_2 hP hD hS => ?_)
    obtain ⟨P_2, bs_2⟩ := u_2
    have hP : va_P D vwCl (wM cI ad th n B P_2 bs_2) H := hP
    have hD : va_D A (wM cI ad th n B P_2 bs_2) := hD
    have hPA := hw_2
    have hol := s_or_lt hB.2.2.1 (k := 4) hk_u hk_w
    have hol2 : s_org n B k_u k_w < 8 * n := hol
    refine lv_aload_n hx hb dX2_originMail_19 rfl (lv_at hl 0 rfl) ?_
    refine lv_aload_n hx hb dX2_originMail_20 rfl (lv_at hl 0 rfl) ?_
    refine lv_iload_n hx hb dX2_originMail_21 rfl (lv_at hl 1 rfl) ?_
    refine lv_iload_n hx hb dX2_originMail_22 rfl (lv_at hl 2 rfl) ?_
    refine ro_V (As := [.int (nI (k_u)), .int (nI (k_w))]) (v := (nI (s_org n B k_u k_w))) ⟨hx, hb, hml, hown, hts⟩ (kX2_origin l D cI ad th n B P_2 bs_2 k_u k_w hB hPA (by omega) (by omega)) (cwV 2 hts gX2_originMail_X2_origin rfl rfl rfl hdX2_origin ⟨Nat.le_of_ble_eq_true rfl, Nat.le_of_ble_eq_true rfl⟩) hK hP (ci := 4) rfl (q0 := 0) rfl rfl rfl hl.1 rfl (Nat.le_of_ble_eq_true rfl) dX2_originMail_23 ⟨Nat.zero_le _, Nat.zero_le _⟩ ?_
    refine lv_bipush (v := (nI (8))) hx hb dX2_originMail_26 (by decide +kernel) ?_
    refine lv_idiv hx hb dX2_originMail_28 (nI_ne0 (by omega) (by omega)) ?_
    refine n_top (y := (nI ((s_org n B k_u k_w) / 8))) (pk_div (by omega) (by omega) (by omega)) ?_
    refine mo_V (wr := []) (As := [.int (nI ((s_org n B k_u k_w) / 8))]) ⟨hx, hb, hml, hown, hts⟩ (kX2_tells l D cI ad th n B P_2 bs_2 H.size (nI ((s_org n B k_u k_w) / 8)) ) (cwV 1 hts gX2_originMail_X2_tells rfl rfl rfl hdX2_tells ⟨Nat.le_of_ble_eq_true rfl, Nat.le_of_ble_eq_true rfl⟩) hK hP hD hS hA (ci := 4) rfl (q0 := 0) rfl rfl rfl hl.1 rfl (Nat.le_of_ble_eq_true rfl) dX2_originMail_29 ⟨Nat.zero_le _, Nat.zero_le _⟩ (fun r_3 (u9 : Unit) H locs hw_3 hP hD hS => ?_)
    subst hw_3
    have hP : va_P D vwCl (wM cI ad 0 n B P_2 bs_2) H := hP
    have hD : va_D A (wM cI ad 0 n B P_2 bs_2) := hD
    have ew_4 : 0 = ((s_orc n B (nI k_u) (nI k_w)).1) := by first | rfl | (simp [oI_s, bI_t, bI_f, s_orc, s_ocode, c_1, hc_k_u, hc_k_w]; done) | (simp [oI_s, bI_t, bI_f, s_orc, s_ocode, c_1, hc_k_u, hc_k_w]; omega) | (simp only [s_orc, s_ocode]; (repeat' split) <;> first | rfl | omega | (simp_all; done) | (simp_all; omega))
    have hP : va_P D vwCl (wM cI ad ((s_orc n B (nI k_u) (nI k_w)).1) n B P_2 bs_2) H := by rw [← ew_4]; exact hP
    have hD : va_D A (wM cI ad ((s_orc n B (nI k_u) (nI k_w)).1) n B P_2 bs_2) := by rw [← ew_4]; exact hD
    exact W.iret (v := (nI ((s_org n B k_u k_w) / 8))) hx hb hr (fun t ht hW => ⟨⟨_, (P_2, bs_2), rfl, (by first | rfl | (simp [oI_s, bI_t, bI_f, s_orc, s_ocode, c_1, hc_k_u, hc_k_w]; done) | (simp [oI_s, bI_t, bI_f, s_orc, s_ocode, c_1, hc_k_u, hc_k_w]; omega) | (simp only [s_orc, s_ocode]; (repeat' split) <;> first | rfl | omega | (simp_all; done) | (simp_all; omega))), by rw [ht]; exact hP, va_K.moved hW.alike hK, hD⟩, hS.F ht⟩) hS.2.2 dX2_originMail_32
  refine lv_aload_n hx hb dX2_originMail_9 rfl (lv_at hl 0 rfl) ?_
  refine lv_iconst (v := (nI (1))) hx hb dX2_originMail_10 (by decide +kernel) ?_
  refine mo_V (wr := []) (As := [.int (nI (1))]) ⟨hx, hb, hml, hown, hts⟩ (kX2_fails l D cI ad th n B P bs s.heap.size 1 ) (cwV 1 hts gX2_originMail_X2_fails rfl rfl rfl hdX2_fails ⟨Nat.le_of_ble_eq_true rfl, Nat.le_of_ble_eq_true rfl⟩) hK hP hD hS hA (ci := 4) rfl (q0 := 0) rfl rfl rfl hl.1 rfl (Nat.le_of_ble_eq_true rfl) dX2_originMail_11 ⟨Nat.zero_le _, Nat.zero_le _⟩ (fun r_5 (u9 : Unit) H locs hw_5 hP hD hS => ?_)
  subst hw_5
  have hP : va_P D vwCl (wM cI ad 1 n B P bs) H := hP
  have hD : va_D A (wM cI ad 1 n B P bs) := hD
  have ew_6 : 1 = ((s_orc n B u w).1) := by first | rfl | (simp [oI_s, bI_t, bI_f, s_orc, s_ocode, c_1]; done) | (simp [oI_s, bI_t, bI_f, s_orc, s_ocode, c_1]; omega) | (simp only [s_orc, s_ocode]; (repeat' split) <;> first | rfl | omega | (simp_all; done) | (simp_all; omega))
  have hP : va_P D vwCl (wM cI ad ((s_orc n B u w).1) n B P bs) H := by rw [← ew_6]; exact hP
  have hD : va_D A (wM cI ad ((s_orc n B u w).1) n B P bs) := by rw [← ew_6]; exact hD
  exact W.iret (v := (nI (0))) hx hb hr (fun t ht hW => ⟨⟨_, (P, bs), rfl, (by first | rfl | (simp [oI_s, bI_t, bI_f, s_orc, s_ocode, c_1]; done) | (simp [oI_s, bI_t, bI_f, s_orc, s_ocode, c_1]; omega) | (simp only [s_orc, s_ocode]; (repeat' split) <;> first | rfl | omega | (simp_all; done) | (simp_all; omega))), by rw [ht]; exact hP, va_K.moved hW.alike hK, hD⟩, hS.F ht⟩) hS.2.2 dX2_originMail_14
theorem hdX2_originMail : yX2_originMail.cls = RX2 ∧ yX2_originMail.cls ≠ "java/lang/invoke/MethodHandle" ∧ yX2_originMail.cls ≠ "java/lang/invoke/VarHandle" ∧ (parseMethodDescriptor yX2_originMail.desc).map (fun d => d.parameters.length) = some 2 := by decide +kernel
set_option maxHeartbeats 4000000 in
set_option maxRecDepth 100000 in
theorem kX2_originLine (l : Launch) (D : va_G) (cI : ClassId) (ad : Nat → Nat) (th : Nat) (n : Nat) (B : Nat → Nat → Nat) (P : Nat → Option Nat) (bs : Nat → Nat) (sz : Nat) (u : Int32) (w : Int32) (hB : Bok n B) : Met l yX2_originLine wsX2_originLine ({ frames := 4, cells := 0, slots := 0, locals := 93 }) (PcM D [(cI, .int)] (wM cI ad th n B P bs) sz [.ref (ad 0), .int (u), .int (w)]) (va_Qi (fun (r : Int32) (u9 : (Nat → Option Nat) × (Nat → Nat)) => r = (nI ((s_orc n B u w).2 % 8))) (fun (u9 : (Nat → Option Nat) × (Nat → Nat)) t => AtW D [(cI, .int)] (va_A (wM cI ad th n B P bs) sz) (wM cI ad ((s_orc n B u w).1) n B u9.1 u9.2) t) (va_A (wM cI ad th n B P bs) sz)) 0 0 (va_A (wM cI ad th n B P bs) sz) := by
  refine Met.ofW (cc := cX2_originLine) (maxL := 3) (ret := (some .int)) (by decide) rfl ?_
  intro p e s m args below meth c s₁ BL hml hv
  obtain ⟨rfl, hsz, hP, hK, hD0⟩ := hv
  have hx := BL.exec
  have hb := BL.bytes
  have hr := BL.returns
  have hts := atoms_spec (ws := wsX2_originLine) BL.pre
  have hown : s.vm.findClass RX2 = some m.cls := findClass_of_methodNamed BL.named
  have hlocks := BL.notSynchronized
  have hl := lv_entry ([.ref (ad 0), .int (u), .int (w)]) (n := 3) (Nat.le_of_ble_eq_true rfl)
  rw [lg_entry_eq]
  generalize (lg_sl ([.ref (ad 0), .int (u), .int (w)]) ++ List.replicate (3 - (lg_sl ([.ref (ad 0), .int (u), .int (w)])).length) Slot.unset).toArray = ls at hl ⊢
  have hl : lv_has ls 3 [(0, .ref (ad 0)), (1, .int (u)), (2, .int (w))] := hl
  subst hsz
  have hD := hD0.self (sz := s.heap.size)
  generalize hAe : va_A (wM cI ad th n B P bs) s.heap.size = A at hD ⊢
  have hA : ∀ q : Nat, s.heap.size ≤ q → A q := fun q h => by rw [← hAe]; exact Or.inr h
  have hS : va_S A s.heap s.heap [] := va_S.rf
  have hP : va_P D vwCl (wM cI ad th n B P bs) s.heap := hP
  have hD : va_D A (wM cI ad th n B P bs) := hD
  have hn10 := hB.1
  refine lv_aload_n hx hb dX2_originLine_0 rfl (lv_at hl 0 rfl) ?_
  refine lv_iload_n hx hb dX2_originLine_1 rfl (lv_at hl 1 rfl) ?_
  refine lv_iload_n hx hb dX2_originLine_2 rfl (lv_at hl 2 rfl) ?_
  refine ro_V (As := [.int (u), .int (w)]) (v := (bI (s_isl n B u w))) ⟨hx, hb, hml, hown, hts⟩ (kX2_isLine l D cI ad th n B P bs (u) (w) hB) (cwV 2 hts gX2_originLine_X2_isLine rfl rfl rfl hdX2_isLine ⟨Nat.le_of_ble_eq_true rfl, Nat.le_of_ble_eq_true rfl⟩) hK hP (ci := 4) rfl (q0 := 0) rfl rfl rfl hl.1 rfl (Nat.le_of_ble_eq_true rfl) dX2_originLine_3 ⟨Nat.zero_le _, Nat.zero_le _⟩ ?_
  refine y_ne (tgt := 15) hx hb dX2_originLine_6 (by decide) (fun c_1 => ?_) (fun c_1 => ?_)
  · obtain ⟨k_u, k_w, hk_u, hk_w, rfl, rfl⟩ := s_isl_t hB c_1
    have h8_u := hB.2.2.1 k_u
    have hc_k_u : (nI k_u).toNatClampNeg = k_u := nI_clamp (by omega)
    have hc_k_w : (nI k_w).toNatClampNeg = k_w := nI_clamp (by omega)
    refine lv_aload_n hx hb dX2_originLine_15 rfl (lv_at hl 0 rfl) ?_
    refine mo_Vv (wr := []) (As := []) ⟨hx, hb, hml, hown, hts⟩ (kX2_alignsAll l D cI ad th n B P bs s.heap.size  hB) (cwV 0 hts gX2_originLine_X2_alignsAll rfl rfl rfl hdX2_alignsAll ⟨Nat.le_of_ble_eq_true rfl, Nat.le_of_ble_eq_true rfl⟩) hK hP hD hS hA (ci := 4) rfl (q0 := 0) rfl rfl rfl hl.1 rfl (Nat.le_of_ble_eq_true rfl) dX2_originLine_16 ⟨Nat.zero_le _, Nat.zero_le _⟩ (fun u_2 H locs hw_2 hP hD hS => ?_)
    obtain ⟨P_2, bs_2⟩ := u_2
    have hP : va_P D vwCl (wM cI ad th n B P_2 bs_2) H := hP
    have hD : va_D A (wM cI ad th n B P_2 bs_2) := hD
    have hPA := hw_2
    have hol := s_or_lt hB.2.2.1 (k := 4) hk_u hk_w
    have hol2 : s_org n B k_u k_w < 8 * n := hol
    refine lv_aload_n hx hb dX2_originLine_19 rfl (lv_at hl 0 rfl) ?_
    refine lv_aload_n hx hb dX2_originLine_20 rfl (lv_at hl 0 rfl) ?_
    refine lv_iload_n hx hb dX2_originLine_21 rfl (lv_at hl 1 rfl) ?_
    refine lv_iload_n hx hb dX2_originLine_22 rfl (lv_at hl 2 rfl) ?_
    refine ro_V (As := [.int (nI (k_u)), .int (nI (k_w))]) (v := (nI (s_org n B k_u k_w))) ⟨hx, hb, hml, hown, hts⟩ (kX2_origin l D cI ad th n B P_2 bs_2 k_u k_w hB hPA (by omega) (by omega)) (cwV 2 hts gX2_originLine_X2_origin rfl rfl rfl hdX2_origin ⟨Nat.le_of_ble_eq_true rfl, Nat.le_of_ble_eq_true rfl⟩) hK hP (ci := 4) rfl (q0 := 0) rfl rfl rfl hl.1 rfl (Nat.le_of_ble_eq_true rfl) dX2_originLine_23 ⟨Nat.zero_le _, Nat.zero_le _⟩ ?_
    refine lv_bipush (v := (nI (8))) hx hb dX2_originLine_26 (by decide +kernel) ?_
    refine lv_irem hx hb dX2_originLine_28 (nI_ne0 (by omega) (by omega)) ?_
    refine n_top (y := (nI ((s_org n B k_u k_w) % 8))) (pk_rem (by omega) (by omega) (by omega)) ?_
    refine mo_V (wr := []) (As := [.int (nI ((s_org n B k_u k_w) % 8))]) ⟨hx, hb, hml, hown, hts⟩ (kX2_tells l D cI ad th n B P_2 bs_2 H.size (nI ((s_org n B k_u k_w) % 8)) ) (cwV 1 hts gX2_originLine_X2_tells rfl rfl rfl hdX2_tells ⟨Nat.le_of_ble_eq_true rfl, Nat.le_of_ble_eq_true rfl⟩) hK hP hD hS hA (ci := 4) rfl (q0 := 0) rfl rfl rfl hl.1 rfl (Nat.le_of_ble_eq_true rfl) dX2_originLine_29 ⟨Nat.zero_le _, Nat.zero_le _⟩ (fun r_3 (u9 : Unit) H locs hw_3 hP hD hS => ?_)
    subst hw_3
    have hP : va_P D vwCl (wM cI ad 0 n B P_2 bs_2) H := hP
    have hD : va_D A (wM cI ad 0 n B P_2 bs_2) := hD
    have ew_4 : 0 = ((s_orc n B (nI k_u) (nI k_w)).1) := by first | rfl | (simp [oI_s, bI_t, bI_f, s_orc, s_ocode, c_1, hc_k_u, hc_k_w]; done) | (simp [oI_s, bI_t, bI_f, s_orc, s_ocode, c_1, hc_k_u, hc_k_w]; omega) | (simp only [s_orc, s_ocode]; (repeat' split) <;> first | rfl | omega | (simp_all; done) | (simp_all; omega))
    have hP : va_P D vwCl (wM cI ad ((s_orc n B (nI k_u) (nI k_w)).1) n B P_2 bs_2) H := by rw [← ew_4]; exact hP
    have hD : va_D A (wM cI ad ((s_orc n B (nI k_u) (nI k_w)).1) n B P_2 bs_2) := by rw [← ew_4]; exact hD
    exact W.iret (v := (nI ((s_org n B k_u k_w) % 8))) hx hb hr (fun t ht hW => ⟨⟨_, (P_2, bs_2), rfl, (by first | rfl | (simp [oI_s, bI_t, bI_f, s_orc, s_ocode, c_1, hc_k_u, hc_k_w]; done) | (simp [oI_s, bI_t, bI_f, s_orc, s_ocode, c_1, hc_k_u, hc_k_w]; omega) | (simp only [s_orc, s_ocode]; (repeat' split) <;> first | rfl | omega | (simp_all; done) | (simp_all; omega))), by rw [ht]; exact hP, va_K.moved hW.alike hK, hD⟩, hS.F ht⟩) hS.2.2 dX2_originLine_32
  refine lv_aload_n hx hb dX2_originLine_9 rfl (lv_at hl 0 rfl) ?_
  refine lv_iconst (v := (nI (1))) hx hb dX2_originLine_10 (by decide +kernel) ?_
  refine mo_V (wr := []) (As := [.int (nI (1))]) ⟨hx, hb, hml, hown, hts⟩ (kX2_fails l D cI ad th n B P bs s.heap.size 1 ) (cwV 1 hts gX2_originLine_X2_fails rfl rfl rfl hdX2_fails ⟨Nat.le_of_ble_eq_true rfl, Nat.le_of_ble_eq_true rfl⟩) hK hP hD hS hA (ci := 4) rfl (q0 := 0) rfl rfl rfl hl.1 rfl (Nat.le_of_ble_eq_true rfl) dX2_originLine_11 ⟨Nat.zero_le _, Nat.zero_le _⟩ (fun r_5 (u9 : Unit) H locs hw_5 hP hD hS => ?_)
  subst hw_5
  have hP : va_P D vwCl (wM cI ad 1 n B P bs) H := hP
  have hD : va_D A (wM cI ad 1 n B P bs) := hD
  have ew_6 : 1 = ((s_orc n B u w).1) := by first | rfl | (simp [oI_s, bI_t, bI_f, s_orc, s_ocode, c_1]; done) | (simp [oI_s, bI_t, bI_f, s_orc, s_ocode, c_1]; omega) | (simp only [s_orc, s_ocode]; (repeat' split) <;> first | rfl | omega | (simp_all; done) | (simp_all; omega))
  have hP : va_P D vwCl (wM cI ad ((s_orc n B u w).1) n B P bs) H := by rw [← ew_6]; exact hP
  have hD : va_D A (wM cI ad ((s_orc n B u w).1) n B P bs) := by rw [← ew_6]; exact hD
  exact W.iret (v := (nI (0))) hx hb hr (fun t ht hW => ⟨⟨_, (P, bs), rfl, (by first | rfl | (simp [oI_s, bI_t, bI_f, s_orc, s_ocode, c_1]; done) | (simp [oI_s, bI_t, bI_f, s_orc, s_ocode, c_1]; omega) | (simp only [s_orc, s_ocode]; (repeat' split) <;> first | rfl | omega | (simp_all; done) | (simp_all; omega))), by rw [ht]; exact hP, va_K.moved hW.alike hK, hD⟩, hS.F ht⟩) hS.2.2 dX2_originLine_14
theorem hdX2_originLine : yX2_originLine.cls = RX2 ∧ yX2_originLine.cls ≠ "java/lang/invoke/MethodHandle" ∧ yX2_originLine.cls ≠ "java/lang/invoke/VarHandle" ∧ (parseMethodDescriptor yX2_originLine.desc).map (fun d => d.parameters.length) = some 2 := by decide +kernel
set_option maxHeartbeats 4000000 in
set_option maxRecDepth 100000 in
theorem kX2_kind (l : Launch) (D : va_G) (cI : ClassId) (ad : Nat → Nat) (th : Nat) (n : Nat) (B : Nat → Nat → Nat) (P : Nat → Option Nat) (bs : Nat → Nat) (sz : Nat) (u : Int32) (w : Int32) (hB : Bok n B) : Met l yX2_kind wsX2_kind ({ frames := 4, cells := 0, slots := 0, locals := 93 }) (PcM D [(cI, .int)] (wM cI ad th n B P bs) sz [.ref (ad 0), .int (u), .int (w)]) (va_Qi (fun (r : Int32) (u9 : (Nat → Option Nat) × (Nat → Nat)) => r = (nI ((s_kd n B u w).2))) (fun (u9 : (Nat → Option Nat) × (Nat → Nat)) t => AtW D [(cI, .int)] (va_A (wM cI ad th n B P bs) sz) (wM cI ad ((s_kd n B u w).1) n B u9.1 u9.2) t) (va_A (wM cI ad th n B P bs) sz)) 0 0 (va_A (wM cI ad th n B P bs) sz) := by
  refine Met.ofW (cc := cX2_kind) (maxL := 3) (ret := (some .char)) (by decide) rfl ?_
  intro p e s m args below meth c s₁ BL hml hv
  obtain ⟨rfl, hsz, hP, hK, hD0⟩ := hv
  have hx := BL.exec
  have hb := BL.bytes
  have hr := BL.returns
  have hts := atoms_spec (ws := wsX2_kind) BL.pre
  have hown : s.vm.findClass RX2 = some m.cls := findClass_of_methodNamed BL.named
  have hlocks := BL.notSynchronized
  have hin : ∀ w ∈ wsX20, w ∈ wsX2_kind := by decide +kernel
  have hf_37 := hts (.fieldLink RX2 37 "TalkRebuilderModel" "thrown" "I") (by decide +kernel)
  have hl := lv_entry ([.ref (ad 0), .int (u), .int (w)]) (n := 3) (Nat.le_of_ble_eq_true rfl)
  rw [lg_entry_eq]
  generalize (lg_sl ([.ref (ad 0), .int (u), .int (w)]) ++ List.replicate (3 - (lg_sl ([.ref (ad 0), .int (u), .int (w)])).length) Slot.unset).toArray = ls at hl ⊢
  have hl : lv_has ls 3 [(0, .ref (ad 0)), (1, .int (u)), (2, .int (w))] := hl
  subst hsz
  have hD := hD0.self (sz := s.heap.size)
  generalize hAe : va_A (wM cI ad th n B P bs) s.heap.size = A at hD ⊢
  have hA : ∀ q : Nat, s.heap.size ≤ q → A q := fun q h => by rw [← hAe]; exact Or.inr h
  have hS : va_S A s.heap s.heap [] := va_S.rf
  have hP : va_P D vwCl (wM cI ad th n B P bs) s.heap := hP
  have hD : va_D A (wM cI ad th n B P bs) := hD
  have hn10 := hB.1
  refine lv_aload_n hx hb dX2_kind_0 rfl (lv_at hl 0 rfl) ?_
  refine lv_aload_n hx hb dX2_kind_1 rfl (lv_at hl 0 rfl) ?_
  refine lv_iload_n hx hb dX2_kind_2 rfl (lv_at hl 1 rfl) ?_
  refine lv_iload_n hx hb dX2_kind_3 rfl (lv_at hl 2 rfl) ?_
  refine ro_V (As := [.int (u), .int (w)]) (v := (bI (s_isl n B u w))) ⟨hx, hb, hml, hown, hts⟩ (kX2_isLine l D cI ad th n B P bs (u) (w) hB) (cwV 2 hts gX2_kind_X2_isLine rfl rfl rfl hdX2_isLine ⟨Nat.le_of_ble_eq_true rfl, Nat.le_of_ble_eq_true rfl⟩) hK hP (ci := 4) rfl (q0 := 0) rfl rfl rfl hl.1 rfl (Nat.le_of_ble_eq_true rfl) dX2_kind_4 ⟨Nat.zero_le _, Nat.zero_le _⟩ ?_
  refine y_eq (tgt := 14) hx hb dX2_kind_7 (by decide) (fun c_1 => ?_) (fun c_1 => ?_)
  · refine lv_iconst (v := (nI (1))) hx hb dX2_kind_14 (by decide +kernel) ?_
    refine va_put (D := D) (ci := 4) (v := .int (nI (1))) (ty := .int) (C := RX2) (T := TX2) (N := 11) hx hb hts hin tyX2 tyX2_ok nmX2 hown hK hP hD hS 0 rfl rfl 0 (by decide) hf_37 (fun _ h9 => h9) rfl (by decide +kernel) rfl rfl (Nat.le_of_ble_eq_true rfl) dX2_kind_15 (fun H locs hP hD hS => ?_)
    have hP : va_P D vwCl (wM cI ad 1 n B P bs) H := hP
    have hD : va_D A (wM cI ad 1 n B P bs) := hD
    refine lv_aload_n hx hb dX2_kind_18 rfl (lv_at hl 0 rfl) ?_
    refine va_get (D := D) (ci := 4) (v := .int (nI (1))) (C := RX2) (T := TX2) (N := 11) hx hb hts hin hown hK hP 0 rfl rfl 0 (by decide) hf_37 (fun _ h9 => h9) rfl dX2_kind_19 ?_
    refine z_le (tgt := 28) hx hb (by decide) dX2_kind_22 (by decide) (fun q => absurd q (by decide)) (fun _ => ?_)
    refine lv_bipush (v := (nI (97))) hx hb dX2_kind_25 (by decide +kernel) ?_
    have ew_2 : 1 = ((s_kd n B u w).1) := by first | rfl | (simp [oI_s, bI_t, bI_f, s_kd, s_ocode, c_1]; done) | (simp [oI_s, bI_t, bI_f, s_kd, s_ocode, c_1]; omega) | (simp only [s_kd, s_ocode]; (repeat' split) <;> first | rfl | omega | (simp_all; done) | (simp_all; omega))
    have hP : va_P D vwCl (wM cI ad ((s_kd n B u w).1) n B P bs) H := by rw [← ew_2]; exact hP
    have hD : va_D A (wM cI ad ((s_kd n B u w).1) n B P bs) := by rw [← ew_2]; exact hD
    exact W.zret (v := (nI (97))) hx hb hr (by decide +kernel) (fun t ht hW => ⟨⟨_, (P, bs), rfl, (by first | rfl | (simp [oI_s, bI_t, bI_f, s_kd, s_ocode, c_1]; done) | (simp [oI_s, bI_t, bI_f, s_kd, s_ocode, c_1]; omega) | (simp only [s_kd, s_ocode]; (repeat' split) <;> first | rfl | omega | (simp_all; done) | (simp_all; omega))), by rw [ht]; exact hP, va_K.moved hW.alike hK, hD⟩, hS.F ht⟩) hS.2.2 dX2_kind_27
  obtain ⟨k_u, k_w, hk_u, hk_w, rfl, rfl⟩ := s_isl_t hB c_1
  have h8_u := hB.2.2.1 k_u
  have hc_k_u : (nI k_u).toNatClampNeg = k_u := nI_clamp (by omega)
  have hc_k_w : (nI k_w).toNatClampNeg = k_w := nI_clamp (by omega)
  refine lv_iconst (v := (nI (0))) hx hb dX2_kind_10 (by decide +kernel) ?_
  refine lv_goto (tgt := 15) hx hb dX2_kind_11 (by decide) ?_
  refine va_put (D := D) (ci := 4) (v := .int (nI (0))) (ty := .int) (C := RX2) (T := TX2) (N := 11) hx hb hts hin tyX2 tyX2_ok nmX2 hown hK hP hD hS 0 rfl rfl 0 (by decide) hf_37 (fun _ h9 => h9) rfl (by decide +kernel) rfl rfl (Nat.le_of_ble_eq_true rfl) dX2_kind_15 (fun H locs hP hD hS => ?_)
  have hP : va_P D vwCl (wM cI ad 0 n B P bs) H := hP
  have hD : va_D A (wM cI ad 0 n B P bs) := hD
  refine lv_aload_n hx hb dX2_kind_18 rfl (lv_at hl 0 rfl) ?_
  refine va_get (D := D) (ci := 4) (v := .int (nI (0))) (C := RX2) (T := TX2) (N := 11) hx hb hts hin hown hK hP 0 rfl rfl 0 (by decide) hf_37 (fun _ h9 => h9) rfl dX2_kind_19 ?_
  refine z_le (tgt := 28) hx hb (by decide) dX2_kind_22 (by decide) (fun _ => ?_) (fun q => absurd q (by decide))
  refine lv_aload_n hx hb dX2_kind_28 rfl (lv_at hl 0 rfl) ?_
  refine mo_Vv (wr := []) (As := []) ⟨hx, hb, hml, hown, hts⟩ (kX2_alignsAll l D cI ad 0 n B P bs H.size  hB) (cwV 0 hts gX2_kind_X2_alignsAll rfl rfl rfl hdX2_alignsAll ⟨Nat.le_of_ble_eq_true rfl, Nat.le_of_ble_eq_true rfl⟩) hK hP hD hS hA (ci := 4) rfl (q0 := 0) rfl rfl rfl hl.1 rfl (Nat.le_of_ble_eq_true rfl) dX2_kind_29 ⟨Nat.zero_le _, Nat.zero_le _⟩ (fun u_3 H locs hw_3 hP hD hS => ?_)
  obtain ⟨P_3, bs_3⟩ := u_3
  have hP : va_P D vwCl (wM cI ad 0 n B P_3 bs_3) H := hP
  have hD : va_D A (wM cI ad 0 n B P_3 bs_3) := hD
  have hPA := hw_3
  refine lv_aload_n hx hb dX2_kind_32 rfl (lv_at hl 0 rfl) ?_
  refine lv_iload_n hx hb dX2_kind_33 rfl (lv_at hl 1 rfl) ?_
  refine lv_iload_n hx hb dX2_kind_34 rfl (lv_at hl 2 rfl) ?_
  refine ro_V (As := [.int (nI (k_u)), .int (nI (k_w))]) (v := (nI (s_knd n B k_u k_w))) ⟨hx, hb, hml, hown, hts⟩ (kX2_kindOf l D cI ad 0 n B P_3 bs_3 k_u k_w hB hPA (by omega) (by omega)) (cwV 2 hts gX2_kind_X2_kindOf rfl rfl rfl hdX2_kindOf ⟨Nat.le_of_ble_eq_true rfl, Nat.le_of_ble_eq_true rfl⟩) hK hP (ci := 4) rfl (q0 := 0) rfl rfl rfl hl.1 rfl (Nat.le_of_ble_eq_true rfl) dX2_kind_35 ⟨Nat.zero_le _, Nat.zero_le _⟩ ?_
  have ew_4 : 0 = ((s_kd n B (nI k_u) (nI k_w)).1) := by first | rfl | (simp [oI_s, bI_t, bI_f, s_kd, s_ocode, c_1, hc_k_u, hc_k_w]; done) | (simp [oI_s, bI_t, bI_f, s_kd, s_ocode, c_1, hc_k_u, hc_k_w]; omega) | (simp only [s_kd, s_ocode]; (repeat' split) <;> first | rfl | omega | (simp_all; done) | (simp_all; omega))
  have hP : va_P D vwCl (wM cI ad ((s_kd n B (nI k_u) (nI k_w)).1) n B P_3 bs_3) H := by rw [← ew_4]; exact hP
  have hD : va_D A (wM cI ad ((s_kd n B (nI k_u) (nI k_w)).1) n B P_3 bs_3) := by rw [← ew_4]; exact hD
  exact W.zret (v := (nI (s_knd n B k_u k_w))) hx hb hr (s_nar (Nat.le_trans (s_knd_b n B k_u k_w) (by decide))) (fun t ht hW => ⟨⟨_, (P_3, bs_3), rfl, (by first | rfl | (simp [oI_s, bI_t, bI_f, s_kd, s_ocode, c_1, hc_k_u, hc_k_w]; done) | (simp [oI_s, bI_t, bI_f, s_kd, s_ocode, c_1, hc_k_u, hc_k_w]; omega) | (simp only [s_kd, s_ocode]; (repeat' split) <;> first | rfl | omega | (simp_all; done) | (simp_all; omega))), by rw [ht]; exact hP, va_K.moved hW.alike hK, hD⟩, hS.F ht⟩) hS.2.2 dX2_kind_38
theorem hdX2_kind : yX2_kind.cls = RX2 ∧ yX2_kind.cls ≠ "java/lang/invoke/MethodHandle" ∧ yX2_kind.cls ≠ "java/lang/invoke/VarHandle" ∧ (parseMethodDescriptor yX2_kind.desc).map (fun d => d.parameters.length) = some 2 := by decide +kernel
set_option maxHeartbeats 4000000 in
set_option maxRecDepth 100000 in
theorem kX2_signature (l : Launch) (D : va_G) (cI : ClassId) (ad : Nat → Nat) (th : Nat) (n : Nat) (B : Nat → Nat → Nat) (P : Nat → Option Nat) (bs : Nat → Nat) (sz : Nat) (u : Int32) (hB : Bok n B) : Met l yX2_signature wsX2_signature ({ frames := 2, cells := 0, slots := 0, locals := 51 }) (PcM D [(cI, .int)] (wM cI ad th n B P bs) sz [.ref (ad 0), .int (u)]) (va_Qi (fun (r : Int32) (u9 : Unit) => r = (nI ((s_sgc n B u).2))) (fun (u9 : Unit) t => AtW D [(cI, .int)] (va_A (wM cI ad th n B P bs) sz) (wM cI ad ((s_sgc n B u).1) n B P bs) t) (va_A (wM cI ad th n B P bs) sz)) 0 0 (va_A (wM cI ad th n B P bs) sz) := by
  refine Met.ofW (cc := cX2_signature) (maxL := 2) (ret := (some .int)) (by decide) rfl ?_
  intro p e s m args below meth c s₁ BL hml hv
  obtain ⟨rfl, hsz, hP, hK, hD0⟩ := hv
  have hx := BL.exec
  have hb := BL.bytes
  have hr := BL.returns
  have hts := atoms_spec (ws := wsX2_signature) BL.pre
  have hown : s.vm.findClass RX2 = some m.cls := findClass_of_methodNamed BL.named
  have hlocks := BL.notSynchronized
  have hl := lv_entry ([.ref (ad 0), .int (u)]) (n := 2) (Nat.le_of_ble_eq_true rfl)
  rw [lg_entry_eq]
  generalize (lg_sl ([.ref (ad 0), .int (u)]) ++ List.replicate (2 - (lg_sl ([.ref (ad 0), .int (u)])).length) Slot.unset).toArray = ls at hl ⊢
  have hl : lv_has ls 2 [(0, .ref (ad 0)), (1, .int (u))] := hl
  subst hsz
  have hD := hD0.self (sz := s.heap.size)
  generalize hAe : va_A (wM cI ad th n B P bs) s.heap.size = A at hD ⊢
  have hA : ∀ q : Nat, s.heap.size ≤ q → A q := fun q h => by rw [← hAe]; exact Or.inr h
  have hS : va_S A s.heap s.heap [] := va_S.rf
  have hP : va_P D vwCl (wM cI ad th n B P bs) s.heap := hP
  have hD : va_D A (wM cI ad th n B P bs) := hD
  have hn10 := hB.1
  refine lv_aload_n hx hb dX2_signature_0 rfl (lv_at hl 0 rfl) ?_
  refine lv_iload_n hx hb dX2_signature_1 rfl (lv_at hl 1 rfl) ?_
  refine ro_V (As := [.int (u)]) (v := (bI (s_ism n u))) ⟨hx, hb, hml, hown, hts⟩ (kX2_isMail l D cI ad th n B P bs (u) hB) (cwV 1 hts gX2_signature_X2_isMail rfl rfl rfl hdX2_isMail ⟨Nat.le_of_ble_eq_true rfl, Nat.le_of_ble_eq_true rfl⟩) hK hP (ci := 4) rfl (q0 := 0) rfl rfl rfl hl.1 rfl (Nat.le_of_ble_eq_true rfl) dX2_signature_2 ⟨Nat.zero_le _, Nat.zero_le _⟩ ?_
  refine y_eq (tgt := 20) hx hb dX2_signature_5 (by decide) (fun c_1 => ?_) (fun c_1 => ?_)
  · refine lv_aload_n hx hb dX2_signature_20 rfl (lv_at hl 0 rfl) ?_
    refine lv_iconst (v := (nI (1))) hx hb dX2_signature_21 (by decide +kernel) ?_
    refine mo_V (wr := []) (As := [.int (nI (1))]) ⟨hx, hb, hml, hown, hts⟩ (kX2_fails l D cI ad th n B P bs s.heap.size 1 ) (cwV 1 hts gX2_signature_X2_fails rfl rfl rfl hdX2_fails ⟨Nat.le_of_ble_eq_true rfl, Nat.le_of_ble_eq_true rfl⟩) hK hP hD hS hA (ci := 4) rfl (q0 := 0) rfl rfl rfl hl.1 rfl (Nat.le_of_ble_eq_true rfl) dX2_signature_22 ⟨Nat.zero_le _, Nat.zero_le _⟩ (fun r_2 (u9 : Unit) H locs hw_2 hP hD hS => ?_)
    subst hw_2
    have hP : va_P D vwCl (wM cI ad 1 n B P bs) H := hP
    have hD : va_D A (wM cI ad 1 n B P bs) := hD
    have ew_3 : 1 = ((s_sgc n B u).1) := by first | rfl | (simp [oI_s, bI_t, bI_f, s_sgc, s_ocode, c_1]; done) | (simp [oI_s, bI_t, bI_f, s_sgc, s_ocode, c_1]; omega) | (simp only [s_sgc, s_ocode]; (repeat' split) <;> first | rfl | omega | (simp_all; done) | (simp_all; omega))
    have hP : va_P D vwCl (wM cI ad ((s_sgc n B u).1) n B P bs) H := by rw [← ew_3]; exact hP
    have hD : va_D A (wM cI ad ((s_sgc n B u).1) n B P bs) := by rw [← ew_3]; exact hD
    exact W.iret (v := (nI (0))) hx hb hr (fun t ht hW => ⟨⟨_, (), rfl, (by first | rfl | (simp [oI_s, bI_t, bI_f, s_sgc, s_ocode, c_1]; done) | (simp [oI_s, bI_t, bI_f, s_sgc, s_ocode, c_1]; omega) | (simp only [s_sgc, s_ocode]; (repeat' split) <;> first | rfl | omega | (simp_all; done) | (simp_all; omega))), by rw [ht]; exact hP, va_K.moved hW.alike hK, hD⟩, hS.F ht⟩) hS.2.2 dX2_signature_25
  obtain ⟨k_u, hk_u, rfl⟩ := s_ism_t hB.1 c_1
  have hc_k_u : (nI k_u).toNatClampNeg = k_u := nI_clamp (by omega)
  refine lv_aload_n hx hb dX2_signature_8 rfl (lv_at hl 0 rfl) ?_
  refine lv_aload_n hx hb dX2_signature_9 rfl (lv_at hl 0 rfl) ?_
  refine lv_iload_n hx hb dX2_signature_10 rfl (lv_at hl 1 rfl) ?_
  refine ro_V (As := [.int (nI (k_u))]) (v := (nI (s_sig n B k_u))) ⟨hx, hb, hml, hown, hts⟩ (kX2_signed l D cI ad th n B P bs k_u hB (by omega)) (cwV 1 hts gX2_signature_X2_signed rfl rfl rfl hdX2_signed ⟨Nat.le_of_ble_eq_true rfl, Nat.le_of_ble_eq_true rfl⟩) hK hP (ci := 4) rfl (q0 := 0) rfl rfl rfl hl.1 rfl (Nat.le_of_ble_eq_true rfl) dX2_signature_11 ⟨Nat.zero_le _, Nat.zero_le _⟩ ?_
  refine mo_V (wr := []) (As := [.int (nI (s_sig n B k_u))]) ⟨hx, hb, hml, hown, hts⟩ (kX2_tells l D cI ad th n B P bs s.heap.size (nI (s_sig n B k_u)) ) (cwV 1 hts gX2_signature_X2_tells rfl rfl rfl hdX2_tells ⟨Nat.le_of_ble_eq_true rfl, Nat.le_of_ble_eq_true rfl⟩) hK hP hD hS hA (ci := 4) rfl (q0 := 0) rfl rfl rfl hl.1 rfl (Nat.le_of_ble_eq_true rfl) dX2_signature_14 ⟨Nat.zero_le _, Nat.zero_le _⟩ (fun r_4 (u9 : Unit) H locs hw_4 hP hD hS => ?_)
  subst hw_4
  have hP : va_P D vwCl (wM cI ad 0 n B P bs) H := hP
  have hD : va_D A (wM cI ad 0 n B P bs) := hD
  refine lv_goto (tgt := 25) hx hb dX2_signature_17 (by decide) ?_
  have ew_5 : 0 = ((s_sgc n B (nI k_u)).1) := by first | rfl | (simp [oI_s, bI_t, bI_f, s_sgc, s_ocode, c_1, hc_k_u]; done) | (simp [oI_s, bI_t, bI_f, s_sgc, s_ocode, c_1, hc_k_u]; omega) | (simp only [s_sgc, s_ocode]; (repeat' split) <;> first | rfl | omega | (simp_all; done) | (simp_all; omega))
  have hP : va_P D vwCl (wM cI ad ((s_sgc n B (nI k_u)).1) n B P bs) H := by rw [← ew_5]; exact hP
  have hD : va_D A (wM cI ad ((s_sgc n B (nI k_u)).1) n B P bs) := by rw [← ew_5]; exact hD
  exact W.iret (v := (nI (s_sig n B k_u))) hx hb hr (fun t ht hW => ⟨⟨_, (), rfl, (by first | rfl | (simp [oI_s, bI_t, bI_f, s_sgc, s_ocode, c_1, hc_k_u]; done) | (simp [oI_s, bI_t, bI_f, s_sgc, s_ocode, c_1, hc_k_u]; omega) | (simp only [s_sgc, s_ocode]; (repeat' split) <;> first | rfl | omega | (simp_all; done) | (simp_all; omega))), by rw [ht]; exact hP, va_K.moved hW.alike hK, hD⟩, hS.F ht⟩) hS.2.2 dX2_signature_25
theorem hdX2_signature : yX2_signature.cls = RX2 ∧ yX2_signature.cls ≠ "java/lang/invoke/MethodHandle" ∧ yX2_signature.cls ≠ "java/lang/invoke/VarHandle" ∧ (parseMethodDescriptor yX2_signature.desc).map (fun d => d.parameters.length) = some 1 := by decide +kernel
set_option maxHeartbeats 4000000 in
set_option maxRecDepth 100000 in
theorem kX2_asksAnswered (l : Launch) (D : va_G) (cI : ClassId) (ad : Nat → Nat) (th : Nat) (n : Nat) (B : Nat → Nat → Nat) (P : Nat → Option Nat) (bs : Nat → Nat) (sz : Nat) (u : Int32) (w : Int32) (hB : Bok n B) : Met l yX2_asksAnswered wsX2_asksAnswered ({ frames := 4, cells := 0, slots := 0, locals := 98 }) (PcM D [(cI, .int)] (wM cI ad th n B P bs) sz [.ref (ad 0), .int (u), .int (w)]) (va_Qi (fun (r : Int32) (u9 : (Nat → Option Nat) × (Nat → Nat)) => r = (nI ((s_ans n B u w).2))) (fun (u9 : (Nat → Option Nat) × (Nat → Nat)) t => AtW D [(cI, .int)] (va_A (wM cI ad th n B P bs) sz) (wM cI ad ((s_ans n B u w).1) n B u9.1 u9.2) t) (va_A (wM cI ad th n B P bs) sz)) 0 0 (va_A (wM cI ad th n B P bs) sz) := by
  refine Met.ofW (cc := cX2_asksAnswered) (maxL := 4) (ret := (some .int)) (by decide) rfl ?_
  intro p e s m args below meth c s₁ BL hml hv
  obtain ⟨rfl, hsz, hP, hK, hD0⟩ := hv
  have hx := BL.exec
  have hb := BL.bytes
  have hr := BL.returns
  have hts := atoms_spec (ws := wsX2_asksAnswered) BL.pre
  have hown : s.vm.findClass RX2 = some m.cls := findClass_of_methodNamed BL.named
  have hlocks := BL.notSynchronized
  have hl := lv_entry ([.ref (ad 0), .int (u), .int (w)]) (n := 4) (Nat.le_of_ble_eq_true rfl)
  rw [lg_entry_eq]
  generalize (lg_sl ([.ref (ad 0), .int (u), .int (w)]) ++ List.replicate (4 - (lg_sl ([.ref (ad 0), .int (u), .int (w)])).length) Slot.unset).toArray = ls at hl ⊢
  have hl : lv_has ls 4 [(0, .ref (ad 0)), (1, .int (u)), (2, .int (w))] := hl
  subst hsz
  have hD := hD0.self (sz := s.heap.size)
  generalize hAe : va_A (wM cI ad th n B P bs) s.heap.size = A at hD ⊢
  have hA : ∀ q : Nat, s.heap.size ≤ q → A q := fun q h => by rw [← hAe]; exact Or.inr h
  have hS : va_S A s.heap s.heap [] := va_S.rf
  have hP : va_P D vwCl (wM cI ad th n B P bs) s.heap := hP
  have hD : va_D A (wM cI ad th n B P bs) := hD
  have hn10 := hB.1
  refine lv_aload_n hx hb dX2_asksAnswered_0 rfl (lv_at hl 0 rfl) ?_
  refine lv_iload_n hx hb dX2_asksAnswered_1 rfl (lv_at hl 1 rfl) ?_
  refine lv_iload_n hx hb dX2_asksAnswered_2 rfl (lv_at hl 2 rfl) ?_
  refine ro_V (As := [.int (u), .int (w)]) (v := (bI (s_isl n B u w))) ⟨hx, hb, hml, hown, hts⟩ (kX2_isLine l D cI ad th n B P bs (u) (w) hB) (cwV 2 hts gX2_asksAnswered_X2_isLine rfl rfl rfl hdX2_isLine ⟨Nat.le_of_ble_eq_true rfl, Nat.le_of_ble_eq_true rfl⟩) hK hP (ci := 4) rfl (q0 := 0) rfl rfl rfl hl.1 rfl (Nat.le_of_ble_eq_true rfl) dX2_asksAnswered_3 ⟨Nat.zero_le _, Nat.zero_le _⟩ ?_
  refine y_ne (tgt := 15) hx hb dX2_asksAnswered_6 (by decide) (fun c_1 => ?_) (fun c_1 => ?_)
  · obtain ⟨k_u, k_w, hk_u, hk_w, rfl, rfl⟩ := s_isl_t hB c_1
    have h8_u := hB.2.2.1 k_u
    have hc_k_u : (nI k_u).toNatClampNeg = k_u := nI_clamp (by omega)
    have hc_k_w : (nI k_w).toNatClampNeg = k_w := nI_clamp (by omega)
    refine lv_aload_n hx hb dX2_asksAnswered_15 rfl (lv_at hl 0 rfl) ?_
    refine mo_Vv (wr := []) (As := []) ⟨hx, hb, hml, hown, hts⟩ (kX2_alignsAll l D cI ad th n B P bs s.heap.size  hB) (cwV 0 hts gX2_asksAnswered_X2_alignsAll rfl rfl rfl hdX2_alignsAll ⟨Nat.le_of_ble_eq_true rfl, Nat.le_of_ble_eq_true rfl⟩) hK hP hD hS hA (ci := 4) rfl (q0 := 0) rfl rfl rfl hl.1 rfl (Nat.le_of_ble_eq_true rfl) dX2_asksAnswered_16 ⟨Nat.zero_le _, Nat.zero_le _⟩ (fun u_2 H locs hw_2 hP hD hS => ?_)
    obtain ⟨P_2, bs_2⟩ := u_2
    have hP : va_P D vwCl (wM cI ad th n B P_2 bs_2) H := hP
    have hD : va_D A (wM cI ad th n B P_2 bs_2) := hD
    have hPA := hw_2
    refine lv_aload_n hx hb dX2_asksAnswered_19 rfl (lv_at hl 0 rfl) ?_
    refine lv_iload_n hx hb dX2_asksAnswered_20 rfl (lv_at hl 1 rfl) ?_
    refine lv_iload_n hx hb dX2_asksAnswered_21 rfl (lv_at hl 2 rfl) ?_
    refine ro_V (As := [.int (nI (k_u)), .int (nI (k_w))]) (v := (nI (s_knd n B k_u k_w))) ⟨hx, hb, hml, hown, hts⟩ (kX2_kindOf l D cI ad th n B P_2 bs_2 k_u k_w hB hPA (by omega) (by omega)) (cwV 2 hts gX2_asksAnswered_X2_kindOf rfl rfl rfl hdX2_kindOf ⟨Nat.le_of_ble_eq_true rfl, Nat.le_of_ble_eq_true rfl⟩) hK hP (ci := 4) rfl (q0 := 0) rfl rfl rfl hl.1 rfl (Nat.le_of_ble_eq_true rfl) dX2_asksAnswered_22 ⟨Nat.zero_le _, Nat.zero_le _⟩ ?_
    have hkd := s_knd_b n B k_u k_w
    refine lv_bipush (v := (nI (110))) hx hb dX2_asksAnswered_25 (by decide +kernel) ?_
    refine n_eq (tgt := 36) hx hb (by omega) (by omega) dX2_asksAnswered_27 (by decide) (fun c_3 => ?_) (fun c_3 => ?_)
    · refine lv_aload_n hx hb dX2_asksAnswered_36 rfl (lv_at hl 0 rfl) ?_
      refine lv_iload_n hx hb dX2_asksAnswered_37 rfl (lv_at hl 1 rfl) ?_
      refine lv_iload_n hx hb dX2_asksAnswered_38 rfl (lv_at hl 2 rfl) ?_
      refine ro_V (As := [.int (nI (k_u)), .int (nI (k_w))]) (v := (oI (s_an n B k_u k_w))) ⟨hx, hb, hml, hown, hts⟩ (kX2_answersOf l D cI ad th n B P_2 bs_2 k_u k_w hB hPA (by omega) (by omega)) (cwV 2 hts gX2_asksAnswered_X2_answersOf rfl rfl rfl hdX2_answersOf ⟨Nat.le_of_ble_eq_true rfl, Nat.le_of_ble_eq_true rfl⟩) hK hP (ci := 4) rfl (q0 := 0) rfl rfl rfl hl.1 rfl (Nat.le_of_ble_eq_true rfl) dX2_asksAnswered_39 ⟨Nat.zero_le _, Nat.zero_le _⟩ ?_
      refine lv_istore_n (lv' := [(3, .int (oI (s_an n B k_u k_w))), (0, .ref (ad 0)), (1, .int (nI (k_u))), (2, .int (nI (k_w)))]) hx hb dX2_asksAnswered_42 rfl hl (by decide) rfl (fun ls hl => ?_)
      refine lv_iload_n hx hb dX2_asksAnswered_43 rfl (lv_at hl 0 rfl) ?_
      refine lv_iconst (v := (oI (none))) hx hb dX2_asksAnswered_44 (by decide +kernel) ?_
      refine o_ne (tgt := 54) hx hb (fun k hk => by have := s_an_b hB hk_u (by omega) k hk; omega) dX2_asksAnswered_45 (by decide) (fun kc_4 c_4 => ?_) (fun c_4 => ?_)
      · rw [c_4] at hl
        have hl : lv_has ls 4 [(3, .int (nI (kc_4))), (0, .ref (ad 0)), (1, .int (nI (k_u))), (2, .int (nI (k_w)))] := hl
        refine lv_aload_n hx hb dX2_asksAnswered_54 rfl (lv_at hl 1 rfl) ?_
        refine lv_iload_n hx hb dX2_asksAnswered_55 rfl (lv_at hl 0 rfl) ?_
        refine mo_V (wr := []) (As := [.int (nI (kc_4))]) ⟨hx, hb, hml, hown, hts⟩ (kX2_tells l D cI ad th n B P_2 bs_2 H.size (nI (kc_4)) ) (cwV 1 hts gX2_asksAnswered_X2_tells rfl rfl rfl hdX2_tells ⟨Nat.le_of_ble_eq_true rfl, Nat.le_of_ble_eq_true rfl⟩) hK hP hD hS hA (ci := 4) rfl (q0 := 0) rfl rfl rfl hl.1 rfl (Nat.le_of_ble_eq_true rfl) dX2_asksAnswered_56 ⟨Nat.zero_le _, Nat.zero_le _⟩ (fun r_5 (u9 : Unit) H locs hw_5 hP hD hS => ?_)
        subst hw_5
        have hP : va_P D vwCl (wM cI ad 0 n B P_2 bs_2) H := hP
        have hD : va_D A (wM cI ad 0 n B P_2 bs_2) := hD
        have ew_6 : 0 = ((s_ans n B (nI k_u) (nI k_w)).1) := by first | rfl | (simp [oI_s, bI_t, bI_f, s_ans, s_ocode, c_1, hc_k_u, hc_k_w, c_3, c_4]; done) | (simp [oI_s, bI_t, bI_f, s_ans, s_ocode, c_1, hc_k_u, hc_k_w, c_3, c_4]; omega) | (simp only [s_ans, s_ocode]; (repeat' split) <;> first | rfl | omega | (simp_all; done) | (simp_all; omega))
        have hP : va_P D vwCl (wM cI ad ((s_ans n B (nI k_u) (nI k_w)).1) n B P_2 bs_2) H := by rw [← ew_6]; exact hP
        have hD : va_D A (wM cI ad ((s_ans n B (nI k_u) (nI k_w)).1) n B P_2 bs_2) := by rw [← ew_6]; exact hD
        exact W.iret (v := (nI (kc_4))) hx hb hr (fun t ht hW => ⟨⟨_, (P_2, bs_2), rfl, (by first | rfl | (simp [oI_s, bI_t, bI_f, s_ans, s_ocode, c_1, hc_k_u, hc_k_w, c_3, c_4]; done) | (simp [oI_s, bI_t, bI_f, s_ans, s_ocode, c_1, hc_k_u, hc_k_w, c_3, c_4]; omega) | (simp only [s_ans, s_ocode]; (repeat' split) <;> first | rfl | omega | (simp_all; done) | (simp_all; omega))), by rw [ht]; exact hP, va_K.moved hW.alike hK, hD⟩, hS.F ht⟩) hS.2.2 dX2_asksAnswered_59
      rw [c_4] at hl
      have hl : lv_has ls 4 [(3, .int (oI (none))), (0, .ref (ad 0)), (1, .int (nI (k_u))), (2, .int (nI (k_w)))] := hl
      refine lv_aload_n hx hb dX2_asksAnswered_48 rfl (lv_at hl 1 rfl) ?_
      refine lv_iconst (v := (nI (3))) hx hb dX2_asksAnswered_49 (by decide +kernel) ?_
      refine mo_V (wr := []) (As := [.int (nI (3))]) ⟨hx, hb, hml, hown, hts⟩ (kX2_fails l D cI ad th n B P_2 bs_2 H.size 3 ) (cwV 1 hts gX2_asksAnswered_X2_fails rfl rfl rfl hdX2_fails ⟨Nat.le_of_ble_eq_true rfl, Nat.le_of_ble_eq_true rfl⟩) hK hP hD hS hA (ci := 4) rfl (q0 := 0) rfl rfl rfl hl.1 rfl (Nat.le_of_ble_eq_true rfl) dX2_asksAnswered_50 ⟨Nat.zero_le _, Nat.zero_le _⟩ (fun r_7 (u9 : Unit) H locs hw_7 hP hD hS => ?_)
      subst hw_7
      have hP : va_P D vwCl (wM cI ad 3 n B P_2 bs_2) H := hP
      have hD : va_D A (wM cI ad 3 n B P_2 bs_2) := hD
      have ew_8 : 3 = ((s_ans n B (nI k_u) (nI k_w)).1) := by first | rfl | (simp [oI_s, bI_t, bI_f, s_ans, s_ocode, c_1, hc_k_u, hc_k_w, c_3, c_4]; done) | (simp [oI_s, bI_t, bI_f, s_ans, s_ocode, c_1, hc_k_u, hc_k_w, c_3, c_4]; omega) | (simp only [s_ans, s_ocode]; (repeat' split) <;> first | rfl | omega | (simp_all; done) | (simp_all; omega))
      have hP : va_P D vwCl (wM cI ad ((s_ans n B (nI k_u) (nI k_w)).1) n B P_2 bs_2) H := by rw [← ew_8]; exact hP
      have hD : va_D A (wM cI ad ((s_ans n B (nI k_u) (nI k_w)).1) n B P_2 bs_2) := by rw [← ew_8]; exact hD
      exact W.iret (v := (nI (0))) hx hb hr (fun t ht hW => ⟨⟨_, (P_2, bs_2), rfl, (by first | rfl | (simp [oI_s, bI_t, bI_f, s_ans, s_ocode, c_1, hc_k_u, hc_k_w, c_3, c_4]; done) | (simp [oI_s, bI_t, bI_f, s_ans, s_ocode, c_1, hc_k_u, hc_k_w, c_3, c_4]; omega) | (simp only [s_ans, s_ocode]; (repeat' split) <;> first | rfl | omega | (simp_all; done) | (simp_all; omega))), by rw [ht]; exact hP, va_K.moved hW.alike hK, hD⟩, hS.F ht⟩) hS.2.2 dX2_asksAnswered_53
    refine lv_aload_n hx hb dX2_asksAnswered_30 rfl (lv_at hl 0 rfl) ?_
    refine lv_iconst (v := (nI (2))) hx hb dX2_asksAnswered_31 (by decide +kernel) ?_
    refine mo_V (wr := []) (As := [.int (nI (2))]) ⟨hx, hb, hml, hown, hts⟩ (kX2_fails l D cI ad th n B P_2 bs_2 H.size 2 ) (cwV 1 hts gX2_asksAnswered_X2_fails rfl rfl rfl hdX2_fails ⟨Nat.le_of_ble_eq_true rfl, Nat.le_of_ble_eq_true rfl⟩) hK hP hD hS hA (ci := 4) rfl (q0 := 0) rfl rfl rfl hl.1 rfl (Nat.le_of_ble_eq_true rfl) dX2_asksAnswered_32 ⟨Nat.zero_le _, Nat.zero_le _⟩ (fun r_9 (u9 : Unit) H locs hw_9 hP hD hS => ?_)
    subst hw_9
    have hP : va_P D vwCl (wM cI ad 2 n B P_2 bs_2) H := hP
    have hD : va_D A (wM cI ad 2 n B P_2 bs_2) := hD
    have ew_10 : 2 = ((s_ans n B (nI k_u) (nI k_w)).1) := by first | rfl | (simp [oI_s, bI_t, bI_f, s_ans, s_ocode, c_1, hc_k_u, hc_k_w, c_3]; done) | (simp [oI_s, bI_t, bI_f, s_ans, s_ocode, c_1, hc_k_u, hc_k_w, c_3]; omega) | (simp only [s_ans, s_ocode]; (repeat' split) <;> first | rfl | omega | (simp_all; done) | (simp_all; omega))
    have hP : va_P D vwCl (wM cI ad ((s_ans n B (nI k_u) (nI k_w)).1) n B P_2 bs_2) H := by rw [← ew_10]; exact hP
    have hD : va_D A (wM cI ad ((s_ans n B (nI k_u) (nI k_w)).1) n B P_2 bs_2) := by rw [← ew_10]; exact hD
    exact W.iret (v := (nI (0))) hx hb hr (fun t ht hW => ⟨⟨_, (P_2, bs_2), rfl, (by first | rfl | (simp [oI_s, bI_t, bI_f, s_ans, s_ocode, c_1, hc_k_u, hc_k_w, c_3]; done) | (simp [oI_s, bI_t, bI_f, s_ans, s_ocode, c_1, hc_k_u, hc_k_w, c_3]; omega) | (simp only [s_ans, s_ocode]; (repeat' split) <;> first | rfl | omega | (simp_all; done) | (simp_all; omega))), by rw [ht]; exact hP, va_K.moved hW.alike hK, hD⟩, hS.F ht⟩) hS.2.2 dX2_asksAnswered_35
  refine lv_aload_n hx hb dX2_asksAnswered_9 rfl (lv_at hl 0 rfl) ?_
  refine lv_iconst (v := (nI (1))) hx hb dX2_asksAnswered_10 (by decide +kernel) ?_
  refine mo_V (wr := []) (As := [.int (nI (1))]) ⟨hx, hb, hml, hown, hts⟩ (kX2_fails l D cI ad th n B P bs s.heap.size 1 ) (cwV 1 hts gX2_asksAnswered_X2_fails rfl rfl rfl hdX2_fails ⟨Nat.le_of_ble_eq_true rfl, Nat.le_of_ble_eq_true rfl⟩) hK hP hD hS hA (ci := 4) rfl (q0 := 0) rfl rfl rfl hl.1 rfl (Nat.le_of_ble_eq_true rfl) dX2_asksAnswered_11 ⟨Nat.zero_le _, Nat.zero_le _⟩ (fun r_11 (u9 : Unit) H locs hw_11 hP hD hS => ?_)
  subst hw_11
  have hP : va_P D vwCl (wM cI ad 1 n B P bs) H := hP
  have hD : va_D A (wM cI ad 1 n B P bs) := hD
  have ew_12 : 1 = ((s_ans n B u w).1) := by first | rfl | (simp [oI_s, bI_t, bI_f, s_ans, s_ocode, c_1]; done) | (simp [oI_s, bI_t, bI_f, s_ans, s_ocode, c_1]; omega) | (simp only [s_ans, s_ocode]; (repeat' split) <;> first | rfl | omega | (simp_all; done) | (simp_all; omega))
  have hP : va_P D vwCl (wM cI ad ((s_ans n B u w).1) n B P bs) H := by rw [← ew_12]; exact hP
  have hD : va_D A (wM cI ad ((s_ans n B u w).1) n B P bs) := by rw [← ew_12]; exact hD
  exact W.iret (v := (nI (0))) hx hb hr (fun t ht hW => ⟨⟨_, (P, bs), rfl, (by first | rfl | (simp [oI_s, bI_t, bI_f, s_ans, s_ocode, c_1]; done) | (simp [oI_s, bI_t, bI_f, s_ans, s_ocode, c_1]; omega) | (simp only [s_ans, s_ocode]; (repeat' split) <;> first | rfl | omega | (simp_all; done) | (simp_all; omega))), by rw [ht]; exact hP, va_K.moved hW.alike hK, hD⟩, hS.F ht⟩) hS.2.2 dX2_asksAnswered_14
theorem hdX2_asksAnswered : yX2_asksAnswered.cls = RX2 ∧ yX2_asksAnswered.cls ≠ "java/lang/invoke/MethodHandle" ∧ yX2_asksAnswered.cls ≠ "java/lang/invoke/VarHandle" ∧ (parseMethodDescriptor yX2_asksAnswered.desc).map (fun d => d.parameters.length) = some 2 := by decide +kernel
set_option maxHeartbeats 4000000 in
set_option maxRecDepth 100000 in
theorem kX2_answersMail (l : Launch) (D : va_G) (cI : ClassId) (ad : Nat → Nat) (th : Nat) (n : Nat) (B : Nat → Nat → Nat) (P : Nat → Option Nat) (bs : Nat → Nat) (sz : Nat) (u : Int32) (w : Int32) (hB : Bok n B) : Met l yX2_answersMail wsX2_answersMail ({ frames := 5, cells := 0, slots := 0, locals := 121 }) (PcM D [(cI, .int)] (wM cI ad th n B P bs) sz [.ref (ad 0), .int (u), .int (w)]) (va_Qi (fun (r : Int32) (u9 : (Nat → Option Nat) × (Nat → Nat)) => r = (nI ((s_ans n B u w).2 / 8))) (fun (u9 : (Nat → Option Nat) × (Nat → Nat)) t => AtW D [(cI, .int)] (va_A (wM cI ad th n B P bs) sz) (wM cI ad ((s_ans n B u w).1) n B u9.1 u9.2) t) (va_A (wM cI ad th n B P bs) sz)) 0 0 (va_A (wM cI ad th n B P bs) sz) := by
  refine Met.ofW (cc := cX2_answersMail) (maxL := 4) (ret := (some .int)) (by decide) rfl ?_
  intro p e s m args below meth c s₁ BL hml hv
  obtain ⟨rfl, hsz, hP, hK, hD0⟩ := hv
  have hx := BL.exec
  have hb := BL.bytes
  have hr := BL.returns
  have hts := atoms_spec (ws := wsX2_answersMail) BL.pre
  have hown : s.vm.findClass RX2 = some m.cls := findClass_of_methodNamed BL.named
  have hlocks := BL.notSynchronized
  have hin : ∀ w ∈ wsX20, w ∈ wsX2_answersMail := by decide +kernel
  have hf_37 := hts (.fieldLink RX2 37 "TalkRebuilderModel" "thrown" "I") (by decide +kernel)
  have hl := lv_entry ([.ref (ad 0), .int (u), .int (w)]) (n := 4) (Nat.le_of_ble_eq_true rfl)
  rw [lg_entry_eq]
  generalize (lg_sl ([.ref (ad 0), .int (u), .int (w)]) ++ List.replicate (4 - (lg_sl ([.ref (ad 0), .int (u), .int (w)])).length) Slot.unset).toArray = ls at hl ⊢
  have hl : lv_has ls 4 [(0, .ref (ad 0)), (1, .int (u)), (2, .int (w))] := hl
  subst hsz
  have hD := hD0.self (sz := s.heap.size)
  generalize hAe : va_A (wM cI ad th n B P bs) s.heap.size = A at hD ⊢
  have hA : ∀ q : Nat, s.heap.size ≤ q → A q := fun q h => by rw [← hAe]; exact Or.inr h
  have hS : va_S A s.heap s.heap [] := va_S.rf
  have hP : va_P D vwCl (wM cI ad th n B P bs) s.heap := hP
  have hD : va_D A (wM cI ad th n B P bs) := hD
  have hn10 := hB.1
  refine lv_aload_n hx hb dX2_answersMail_0 rfl (lv_at hl 0 rfl) ?_
  refine lv_iload_n hx hb dX2_answersMail_1 rfl (lv_at hl 1 rfl) ?_
  refine lv_iload_n hx hb dX2_answersMail_2 rfl (lv_at hl 2 rfl) ?_
  refine mo_V (wr := []) (As := [.int (u), .int (w)]) ⟨hx, hb, hml, hown, hts⟩ (kX2_asksAnswered l D cI ad th n B P bs s.heap.size (u) (w) hB) (cwV 2 hts gX2_answersMail_X2_asksAnswered rfl rfl rfl hdX2_asksAnswered ⟨Nat.le_of_ble_eq_true rfl, Nat.le_of_ble_eq_true rfl⟩) hK hP hD hS hA (ci := 4) rfl (q0 := 0) rfl rfl rfl hl.1 rfl (Nat.le_of_ble_eq_true rfl) dX2_answersMail_3 ⟨Nat.zero_le _, Nat.zero_le _⟩ (fun r_1 u_1 H locs hw_1 hP hD hS => ?_)
  obtain ⟨P_1, bs_1⟩ := u_1
  subst hw_1
  have hP : va_P D vwCl (wM cI ad ((s_ans n B u w).1) n B P_1 bs_1) H := hP
  have hD : va_D A (wM cI ad ((s_ans n B u w).1) n B P_1 bs_1) := hD
  refine lv_istore_n (lv' := [(3, .int (nI ((s_ans n B u w).2))), (0, .ref (ad 0)), (1, .int (u)), (2, .int (w))]) hx hb dX2_answersMail_6 rfl hl (by decide) rfl (fun ls hl => ?_)
  have hab := s_ans_b hB (u := u) (w := w)
  refine lv_aload_n hx hb dX2_answersMail_7 rfl (lv_at hl 1 rfl) ?_
  refine va_get (D := D) (ci := 4) (v := .int (nI ((s_ans n B u w).1))) (C := RX2) (T := TX2) (N := 11) hx hb hts hin hown hK hP 0 rfl rfl 0 (by decide) hf_37 (fun _ h9 => h9) rfl dX2_answersMail_8 ?_
  refine z_le (tgt := 18) hx hb (by omega) dX2_answersMail_11 (by decide) (fun c_2 => ?_) (fun c_2 => ?_)
  · refine lv_iload_n hx hb dX2_answersMail_18 rfl (lv_at hl 0 rfl) ?_
    refine lv_bipush (v := (nI (8))) hx hb dX2_answersMail_19 (by decide +kernel) ?_
    refine lv_idiv hx hb dX2_answersMail_21 (nI_ne0 (by omega) (by omega)) ?_
    refine n_top (y := (nI (((s_ans n B u w).2) / 8))) (pk_div (by omega) (by omega) (by omega)) ?_
    exact W.iret (v := (nI (((s_ans n B u w).2) / 8))) hx hb hr (fun t ht hW => ⟨⟨_, (P_1, bs_1), rfl, (by first | rfl | (rw [he0])), by rw [ht]; exact hP, va_K.moved hW.alike hK, hD⟩, hS.F ht⟩) hS.2.2 dX2_answersMail_22
  have he0 := hab.2.2 (by omega)
  refine lv_iconst (v := (nI (0))) hx hb dX2_answersMail_14 (by decide +kernel) ?_
  refine lv_goto (tgt := 22) hx hb dX2_answersMail_15 (by decide) ?_
  exact W.iret (v := (nI (0))) hx hb hr (fun t ht hW => ⟨⟨_, (P_1, bs_1), rfl, (by first | rfl | (rw [he0])), by rw [ht]; exact hP, va_K.moved hW.alike hK, hD⟩, hS.F ht⟩) hS.2.2 dX2_answersMail_22
theorem hdX2_answersMail : yX2_answersMail.cls = RX2 ∧ yX2_answersMail.cls ≠ "java/lang/invoke/MethodHandle" ∧ yX2_answersMail.cls ≠ "java/lang/invoke/VarHandle" ∧ (parseMethodDescriptor yX2_answersMail.desc).map (fun d => d.parameters.length) = some 2 := by decide +kernel
set_option maxHeartbeats 4000000 in
set_option maxRecDepth 100000 in
theorem kX2_answersLine (l : Launch) (D : va_G) (cI : ClassId) (ad : Nat → Nat) (th : Nat) (n : Nat) (B : Nat → Nat → Nat) (P : Nat → Option Nat) (bs : Nat → Nat) (sz : Nat) (u : Int32) (w : Int32) (hB : Bok n B) : Met l yX2_answersLine wsX2_answersLine ({ frames := 5, cells := 0, slots := 0, locals := 121 }) (PcM D [(cI, .int)] (wM cI ad th n B P bs) sz [.ref (ad 0), .int (u), .int (w)]) (va_Qi (fun (r : Int32) (u9 : (Nat → Option Nat) × (Nat → Nat)) => r = (nI ((s_ans n B u w).2 % 8))) (fun (u9 : (Nat → Option Nat) × (Nat → Nat)) t => AtW D [(cI, .int)] (va_A (wM cI ad th n B P bs) sz) (wM cI ad ((s_ans n B u w).1) n B u9.1 u9.2) t) (va_A (wM cI ad th n B P bs) sz)) 0 0 (va_A (wM cI ad th n B P bs) sz) := by
  refine Met.ofW (cc := cX2_answersLine) (maxL := 4) (ret := (some .int)) (by decide) rfl ?_
  intro p e s m args below meth c s₁ BL hml hv
  obtain ⟨rfl, hsz, hP, hK, hD0⟩ := hv
  have hx := BL.exec
  have hb := BL.bytes
  have hr := BL.returns
  have hts := atoms_spec (ws := wsX2_answersLine) BL.pre
  have hown : s.vm.findClass RX2 = some m.cls := findClass_of_methodNamed BL.named
  have hlocks := BL.notSynchronized
  have hin : ∀ w ∈ wsX20, w ∈ wsX2_answersLine := by decide +kernel
  have hf_37 := hts (.fieldLink RX2 37 "TalkRebuilderModel" "thrown" "I") (by decide +kernel)
  have hl := lv_entry ([.ref (ad 0), .int (u), .int (w)]) (n := 4) (Nat.le_of_ble_eq_true rfl)
  rw [lg_entry_eq]
  generalize (lg_sl ([.ref (ad 0), .int (u), .int (w)]) ++ List.replicate (4 - (lg_sl ([.ref (ad 0), .int (u), .int (w)])).length) Slot.unset).toArray = ls at hl ⊢
  have hl : lv_has ls 4 [(0, .ref (ad 0)), (1, .int (u)), (2, .int (w))] := hl
  subst hsz
  have hD := hD0.self (sz := s.heap.size)
  generalize hAe : va_A (wM cI ad th n B P bs) s.heap.size = A at hD ⊢
  have hA : ∀ q : Nat, s.heap.size ≤ q → A q := fun q h => by rw [← hAe]; exact Or.inr h
  have hS : va_S A s.heap s.heap [] := va_S.rf
  have hP : va_P D vwCl (wM cI ad th n B P bs) s.heap := hP
  have hD : va_D A (wM cI ad th n B P bs) := hD
  have hn10 := hB.1
  refine lv_aload_n hx hb dX2_answersLine_0 rfl (lv_at hl 0 rfl) ?_
  refine lv_iload_n hx hb dX2_answersLine_1 rfl (lv_at hl 1 rfl) ?_
  refine lv_iload_n hx hb dX2_answersLine_2 rfl (lv_at hl 2 rfl) ?_
  refine mo_V (wr := []) (As := [.int (u), .int (w)]) ⟨hx, hb, hml, hown, hts⟩ (kX2_asksAnswered l D cI ad th n B P bs s.heap.size (u) (w) hB) (cwV 2 hts gX2_answersLine_X2_asksAnswered rfl rfl rfl hdX2_asksAnswered ⟨Nat.le_of_ble_eq_true rfl, Nat.le_of_ble_eq_true rfl⟩) hK hP hD hS hA (ci := 4) rfl (q0 := 0) rfl rfl rfl hl.1 rfl (Nat.le_of_ble_eq_true rfl) dX2_answersLine_3 ⟨Nat.zero_le _, Nat.zero_le _⟩ (fun r_1 u_1 H locs hw_1 hP hD hS => ?_)
  obtain ⟨P_1, bs_1⟩ := u_1
  subst hw_1
  have hP : va_P D vwCl (wM cI ad ((s_ans n B u w).1) n B P_1 bs_1) H := hP
  have hD : va_D A (wM cI ad ((s_ans n B u w).1) n B P_1 bs_1) := hD
  refine lv_istore_n (lv' := [(3, .int (nI ((s_ans n B u w).2))), (0, .ref (ad 0)), (1, .int (u)), (2, .int (w))]) hx hb dX2_answersLine_6 rfl hl (by decide) rfl (fun ls hl => ?_)
  have hab := s_ans_b hB (u := u) (w := w)
  refine lv_aload_n hx hb dX2_answersLine_7 rfl (lv_at hl 1 rfl) ?_
  refine va_get (D := D) (ci := 4) (v := .int (nI ((s_ans n B u w).1))) (C := RX2) (T := TX2) (N := 11) hx hb hts hin hown hK hP 0 rfl rfl 0 (by decide) hf_37 (fun _ h9 => h9) rfl dX2_answersLine_8 ?_
  refine z_le (tgt := 18) hx hb (by omega) dX2_answersLine_11 (by decide) (fun c_2 => ?_) (fun c_2 => ?_)
  · refine lv_iload_n hx hb dX2_answersLine_18 rfl (lv_at hl 0 rfl) ?_
    refine lv_bipush (v := (nI (8))) hx hb dX2_answersLine_19 (by decide +kernel) ?_
    refine lv_irem hx hb dX2_answersLine_21 (nI_ne0 (by omega) (by omega)) ?_
    refine n_top (y := (nI (((s_ans n B u w).2) % 8))) (pk_rem (by omega) (by omega) (by omega)) ?_
    exact W.iret (v := (nI (((s_ans n B u w).2) % 8))) hx hb hr (fun t ht hW => ⟨⟨_, (P_1, bs_1), rfl, (by first | rfl | (rw [he0])), by rw [ht]; exact hP, va_K.moved hW.alike hK, hD⟩, hS.F ht⟩) hS.2.2 dX2_answersLine_22
  have he0 := hab.2.2 (by omega)
  refine lv_iconst (v := (nI (0))) hx hb dX2_answersLine_14 (by decide +kernel) ?_
  refine lv_goto (tgt := 22) hx hb dX2_answersLine_15 (by decide) ?_
  exact W.iret (v := (nI (0))) hx hb hr (fun t ht hW => ⟨⟨_, (P_1, bs_1), rfl, (by first | rfl | (rw [he0])), by rw [ht]; exact hP, va_K.moved hW.alike hK, hD⟩, hS.F ht⟩) hS.2.2 dX2_answersLine_22
theorem hdX2_answersLine : yX2_answersLine.cls = RX2 ∧ yX2_answersLine.cls ≠ "java/lang/invoke/MethodHandle" ∧ yX2_answersLine.cls ≠ "java/lang/invoke/VarHandle" ∧ (parseMethodDescriptor yX2_answersLine.desc).map (fun d => d.parameters.length) = some 2 := by decide +kernel
set_option maxHeartbeats 4000000 in
set_option maxRecDepth 100000 in
theorem kX2_answers (l : Launch) (D : va_G) (cI : ClassId) (ad : Nat → Nat) (th : Nat) (n : Nat) (B : Nat → Nat → Nat) (P : Nat → Option Nat) (bs : Nat → Nat) (sz : Nat) (u : Int32) (w : Int32) (hB : Bok n B) : Met l yX2_answers wsX2_answers ({ frames := 4, cells := 0, slots := 0, locals := 98 }) (PcM D [(cI, .int)] (wM cI ad th n B P bs) sz [.ref (ad 0), .int (u), .int (w)]) (va_Qi (fun (r : Int32) (u9 : (Nat → Option Nat) × (Nat → Nat)) => r = (nI ((s_asn n B u w).2))) (fun (u9 : (Nat → Option Nat) × (Nat → Nat)) t => AtW D [(cI, .int)] (va_A (wM cI ad th n B P bs) sz) (wM cI ad ((s_asn n B u w).1) n B u9.1 u9.2) t) (va_A (wM cI ad th n B P bs) sz)) 0 0 (va_A (wM cI ad th n B P bs) sz) := by
  refine Met.ofW (cc := cX2_answers) (maxL := 6) (ret := (some .int)) (by decide) rfl ?_
  intro p e s m args below meth c s₁ BL hml hv
  obtain ⟨rfl, hsz, hP, hK, hD0⟩ := hv
  have hx := BL.exec
  have hb := BL.bytes
  have hr := BL.returns
  have hts := atoms_spec (ws := wsX2_answers) BL.pre
  have hown : s.vm.findClass RX2 = some m.cls := findClass_of_methodNamed BL.named
  have hlocks := BL.notSynchronized
  have hin : ∀ w ∈ wsX20, w ∈ wsX2_answers := by decide +kernel
  have hf_22 := hts (.fieldLink RX2 22 "TalkRebuilderModel" "many" "[I") (by decide +kernel)
  have hf_41 := hts (.fieldLink RX2 41 "TalkRebuilderModel" "mails" "I") (by decide +kernel)
  have hl := lv_entry ([.ref (ad 0), .int (u), .int (w)]) (n := 6) (Nat.le_of_ble_eq_true rfl)
  rw [lg_entry_eq]
  generalize (lg_sl ([.ref (ad 0), .int (u), .int (w)]) ++ List.replicate (6 - (lg_sl ([.ref (ad 0), .int (u), .int (w)])).length) Slot.unset).toArray = ls at hl ⊢
  have hl : lv_has ls 6 [(0, .ref (ad 0)), (1, .int (u)), (2, .int (w))] := hl
  subst hsz
  have hD := hD0.self (sz := s.heap.size)
  generalize hAe : va_A (wM cI ad th n B P bs) s.heap.size = A at hD ⊢
  have hA : ∀ q : Nat, s.heap.size ≤ q → A q := fun q h => by rw [← hAe]; exact Or.inr h
  have hS : va_S A s.heap s.heap [] := va_S.rf
  have hP : va_P D vwCl (wM cI ad th n B P bs) s.heap := hP
  have hD : va_D A (wM cI ad th n B P bs) := hD
  have hn10 := hB.1
  refine lv_aload_n hx hb dX2_answers_0 rfl (lv_at hl 0 rfl) ?_
  refine lv_iload_n hx hb dX2_answers_1 rfl (lv_at hl 1 rfl) ?_
  refine lv_iload_n hx hb dX2_answers_2 rfl (lv_at hl 2 rfl) ?_
  refine ro_V (As := [.int (u), .int (w)]) (v := (bI (s_isl n B u w))) ⟨hx, hb, hml, hown, hts⟩ (kX2_isLine l D cI ad th n B P bs (u) (w) hB) (cwV 2 hts gX2_answers_X2_isLine rfl rfl rfl hdX2_isLine ⟨Nat.le_of_ble_eq_true rfl, Nat.le_of_ble_eq_true rfl⟩) hK hP (ci := 4) rfl (q0 := 0) rfl rfl rfl hl.1 rfl (Nat.le_of_ble_eq_true rfl) dX2_answers_3 ⟨Nat.zero_le _, Nat.zero_le _⟩ ?_
  refine y_ne (tgt := 15) hx hb dX2_answers_6 (by decide) (fun c_1 => ?_) (fun c_1 => ?_)
  · obtain ⟨k_u, k_w, hk_u, hk_w, rfl, rfl⟩ := s_isl_t hB c_1
    have h8_u := hB.2.2.1 k_u
    have hc_k_u : (nI k_u).toNatClampNeg = k_u := nI_clamp (by omega)
    have hc_k_w : (nI k_w).toNatClampNeg = k_w := nI_clamp (by omega)
    refine lv_aload_n hx hb dX2_answers_15 rfl (lv_at hl 0 rfl) ?_
    refine mo_Vv (wr := []) (As := []) ⟨hx, hb, hml, hown, hts⟩ (kX2_alignsAll l D cI ad th n B P bs s.heap.size  hB) (cwV 0 hts gX2_answers_X2_alignsAll rfl rfl rfl hdX2_alignsAll ⟨Nat.le_of_ble_eq_true rfl, Nat.le_of_ble_eq_true rfl⟩) hK hP hD hS hA (ci := 4) rfl (q0 := 0) rfl rfl rfl hl.1 rfl (Nat.le_of_ble_eq_true rfl) dX2_answers_16 ⟨Nat.zero_le _, Nat.zero_le _⟩ (fun u_2 H locs hw_2 hP hD hS => ?_)
    obtain ⟨P_2, bs_2⟩ := u_2
    have hP : va_P D vwCl (wM cI ad th n B P_2 bs_2) H := hP
    have hD : va_D A (wM cI ad th n B P_2 bs_2) := hD
    have hPA := hw_2
    refine lv_iconst (v := (nI (0))) hx hb dX2_answers_19 (by decide +kernel) ?_
    refine lv_istore_n (lv' := [(3, .int (nI (0))), (0, .ref (ad 0)), (1, .int (nI (k_u))), (2, .int (nI (k_w)))]) hx hb dX2_answers_20 rfl hl (by decide) rfl (fun ls hl => ?_)
    refine lv_iconst (v := (nI (0))) hx hb dX2_answers_21 (by decide +kernel) ?_
    refine lv_istore (lv' := [(4, .int (nI (0))), (3, .int (nI (0))), (0, .ref (ad 0)), (1, .int (nI (k_u))), (2, .int (nI (k_w)))]) hx hb dX2_answers_22 hl (by decide) rfl (fun ls hl => ?_)
    have loop_24 : ∀ (N : Nat) (z : Nat), n - z < N → (z ≤ n) → ∀ (H : Heap) (locs : List Loc), va_P D vwCl (wM cI ad th n B P_2 bs_2) H → va_D A (wM cI ad th n B P_2 bs_2) → va_S A s.heap H locs → ∀ (ls : Array Slot), lv_has ls 6 [(0, .ref (ad 0)), (1, .int (nI (k_u))), (2, .int (nI (k_w))), (3, .int (nI (sm (s_anp n B (8 * k_u + k_w)) (B 4) z))), (4, .int (nI (z)))] → W p l e (headSpec wsX2_answers ({ frames := 4, cells := 0, slots := 0, locals := 98 })).room s m ([.ref (ad 0), .int (nI k_u), .int (nI k_w)] : List Value).toArray below meth c H locs 0 0 (MQ below (va_Qi (fun (r : Int32) (u9 : (Nat → Option Nat) × (Nat → Nat)) => r = (nI ((s_asn n B (nI k_u) (nI k_w)).2))) (fun (u9 : (Nat → Option Nat) × (Nat → Nat)) t => AtW D [(cI, .int)] A (wM cI ad ((s_asn n B (nI k_u) (nI k_w)).1) n B u9.1 u9.2) t) A) ([.ref (ad 0), .int (nI k_u), .int (nI k_w)] : List Value).toArray s 0 0 A) (F0 m 24 ls []) := by
      intro N
      induction N with
      | zero => intro z hmu; exact absurd hmu (Nat.not_lt_zero _)
      | succ N ih_24 =>
        intro z hmu_24 h_z H locs hP hD hS ls hl
        refine lv_iload hx hb dX2_answers_24 (lv_at hl 4 rfl) ?_
        refine lv_aload_n hx hb dX2_answers_26 rfl (lv_at hl 0 rfl) ?_
        refine va_get (D := D) (ci := 4) (v := .int (nI (n))) (C := RX2) (T := TX2) (N := 11) hx hb hts hin hown hK hP 0 rfl rfl 1 (by decide) hf_41 (fun _ h9 => h9) rfl dX2_answers_27 ?_
        refine n_ge (tgt := 98) hx hb (by omega) (by omega) dX2_answers_30 (by decide) (fun c_3 => ?_) (fun c_3 => ?_)
        · have hzn : n = z := by omega
          refine lv_aload_n hx hb dX2_answers_98 rfl (lv_at hl 0 rfl) ?_
          refine lv_iload_n hx hb dX2_answers_99 rfl (lv_at hl 3 rfl) ?_
          refine mo_V (wr := []) (As := [.int (nI (sm (s_anp n B (8 * k_u + k_w)) (B 4) z))]) ⟨hx, hb, hml, hown, hts⟩ (kX2_tells l D cI ad th n B P_2 bs_2 H.size (nI (sm (s_anp n B (8 * k_u + k_w)) (B 4) z)) ) (cwV 1 hts gX2_answers_X2_tells rfl rfl rfl hdX2_tells ⟨Nat.le_of_ble_eq_true rfl, Nat.le_of_ble_eq_true rfl⟩) hK hP hD hS hA (ci := 4) rfl (q0 := 0) rfl rfl rfl hl.1 rfl (Nat.le_of_ble_eq_true rfl) dX2_answers_100 ⟨Nat.zero_le _, Nat.zero_le _⟩ (fun r_4 (u9 : Unit) H locs hw_4 hP hD hS => ?_)
          subst hw_4
          have hP : va_P D vwCl (wM cI ad 0 n B P_2 bs_2) H := hP
          have hD : va_D A (wM cI ad 0 n B P_2 bs_2) := hD
          have ew_5 : 0 = ((s_asn n B (nI k_u) (nI k_w)).1) := by first | rfl | (simp [oI_s, bI_t, bI_f, s_asn, s_ocode, c_1, hc_k_u, hc_k_w, c_3, hzn, Nat.not_lt.mpr c_3]; done) | (simp [oI_s, bI_t, bI_f, s_asn, s_ocode, c_1, hc_k_u, hc_k_w, c_3, hzn, Nat.not_lt.mpr c_3]; omega) | (simp only [s_asn, s_ocode]; (repeat' split) <;> first | rfl | omega | (simp_all; done) | (simp_all; omega))
          have hP : va_P D vwCl (wM cI ad ((s_asn n B (nI k_u) (nI k_w)).1) n B P_2 bs_2) H := by rw [← ew_5]; exact hP
          have hD : va_D A (wM cI ad ((s_asn n B (nI k_u) (nI k_w)).1) n B P_2 bs_2) := by rw [← ew_5]; exact hD
          exact W.iret (v := (nI (sm (s_anp n B (8 * k_u + k_w)) (B 4) z))) hx hb hr (fun t ht hW => ⟨⟨_, (P_2, bs_2), rfl, (by first | rfl | (simp [oI_s, bI_t, bI_f, s_asn, s_ocode, c_1, hc_k_u, hc_k_w, c_3, hzn, Nat.not_lt.mpr c_3]; done) | (simp [oI_s, bI_t, bI_f, s_asn, s_ocode, c_1, hc_k_u, hc_k_w, c_3, hzn, Nat.not_lt.mpr c_3]; omega) | (simp only [s_asn, s_ocode]; (repeat' split) <;> first | rfl | omega | (simp_all; done) | (simp_all; omega))), by rw [ht]; exact hP, va_K.moved hW.alike hK, hD⟩, hS.F ht⟩) hS.2.2 dX2_answers_103
        refine lv_iconst (v := (nI (0))) hx hb dX2_answers_33 (by decide +kernel) ?_
        refine lv_istore (lv' := [(5, .int (nI (0))), (0, .ref (ad 0)), (1, .int (nI (k_u))), (2, .int (nI (k_w))), (3, .int (nI (sm (s_anp n B (8 * k_u + k_w)) (B 4) z))), (4, .int (nI (z)))]) hx hb dX2_answers_34 hl (by decide) rfl (fun ls hl => ?_)
        have loop_36 : ∀ (N : Nat) (y : Nat), B 4 z - y < N → (y ≤ B 4 z) → ∀ (H : Heap) (locs : List Loc), va_P D vwCl (wM cI ad th n B P_2 bs_2) H → va_D A (wM cI ad th n B P_2 bs_2) → va_S A s.heap H locs → ∀ (ls : Array Slot), lv_has ls 6 [(0, .ref (ad 0)), (1, .int (nI (k_u))), (2, .int (nI (k_w))), (3, .int (nI (sm (s_anp n B (8 * k_u + k_w)) (B 4) z + ct (s_anp n B (8 * k_u + k_w) z) y))), (4, .int (nI (z))), (5, .int (nI (y)))] → W p l e (headSpec wsX2_answers ({ frames := 4, cells := 0, slots := 0, locals := 98 })).room s m ([.ref (ad 0), .int (nI k_u), .int (nI k_w)] : List Value).toArray below meth c H locs 0 0 (MQ below (va_Qi (fun (r : Int32) (u9 : (Nat → Option Nat) × (Nat → Nat)) => r = (nI ((s_asn n B (nI k_u) (nI k_w)).2))) (fun (u9 : (Nat → Option Nat) × (Nat → Nat)) t => AtW D [(cI, .int)] A (wM cI ad ((s_asn n B (nI k_u) (nI k_w)).1) n B u9.1 u9.2) t) A) ([.ref (ad 0), .int (nI k_u), .int (nI k_w)] : List Value).toArray s 0 0 A) (F0 m 36 ls []) := by
          intro N
          induction N with
          | zero => intro y hmu; exact absurd hmu (Nat.not_lt_zero _)
          | succ N ih_36 =>
            intro y hmu_36 h_y H locs hP hD hS ls hl
            refine lv_iload hx hb dX2_answers_36 (lv_at hl 5 rfl) ?_
            refine lv_aload_n hx hb dX2_answers_38 rfl (lv_at hl 0 rfl) ?_
            refine va_get (D := D) (ci := 4) (v := .ref (ad 5)) (C := RX2) (T := TX2) (N := 11) hx hb hts hin hown hK hP 0 rfl rfl 6 (by decide) hf_22 (fun _ h9 => h9) rfl dX2_answers_39 ?_
            refine lv_iload hx hb dX2_answers_42 (lv_at hl 4 rfl) ?_
            refine n_iald hx hb hK hP 5 0 rfl rfl (i := z) (by omega) (by decide) dX2_answers_44 ?_
            have hq_6 := hB.2.2.1 z
            refine n_ge (tgt := 92) hx hb (by omega) (by omega) dX2_answers_45 (by decide) (fun c_7 => ?_) (fun c_7 => ?_)
            · have hyk : B 4 z = y := by omega
              refine lv_iinc (v := (nI (z + 1))) (lv' := [(4, .int (nI (z + 1))), (0, .ref (ad 0)), (1, .int (nI (k_u))), (2, .int (nI (k_w))), (3, .int (nI (sm (s_anp n B (8 * k_u + k_w)) (B 4) z + ct (s_anp n B (8 * k_u + k_w) z) y))), (5, .int (nI (y)))]) hx hb dX2_answers_92 hl (k := 4) rfl (nI_1 _) (by decide) rfl (fun ls hl => ?_)
              refine lv_goto (tgt := 24) hx hb dX2_answers_95 (by decide) ?_
              have e_8 : ((nI (sm (s_anp n B (8 * k_u + k_w)) (B 4) z + ct (s_anp n B (8 * k_u + k_w) z) y)) : Int32) = (nI (sm (s_anp n B (8 * k_u + k_w)) (B 4) (z + 1))) := by first | rfl | (simp [oI_s, bI_t, bI_f, sm, c_1, hc_k_u, hc_k_w, c_3, c_7, hyk, Nat.not_le.mp c_3, Nat.not_lt.mpr c_7]; done) | (simp [oI_s, bI_t, bI_f, sm, c_1, hc_k_u, hc_k_w, c_3, c_7, hyk, Nat.not_le.mp c_3, Nat.not_lt.mpr c_7]; omega) | (simp only [sm]; (repeat' split) <;> first | rfl | omega | (simp_all; done) | (simp_all; omega))
              exact ih_24 (z + 1) (by omega) (by omega) _ _ hP hD hS _ (show lv_has ls 6 [(0, .ref (ad 0)), (1, .int (nI (k_u))), (2, .int (nI (k_w))), (3, .int (nI (sm (s_anp n B (8 * k_u + k_w)) (B 4) (z + 1)))), (4, .int (nI (z + 1)))] from by rw [← e_8]; exact lv_sub hl [1, 2, 3, 4, 0] rfl)
            have hkd := s_knd_b n B z y
            refine lv_iload_n hx hb dX2_answers_48 rfl (lv_at hl 3 rfl) ?_
            refine lv_aload_n hx hb dX2_answers_49 rfl (lv_at hl 0 rfl) ?_
            refine lv_iload hx hb dX2_answers_50 (lv_at hl 4 rfl) ?_
            refine lv_iload hx hb dX2_answers_52 (lv_at hl 5 rfl) ?_
            refine ro_V (As := [.int (nI (z)), .int (nI (y))]) (v := (nI (s_knd n B z y))) ⟨hx, hb, hml, hown, hts⟩ (kX2_kindOf l D cI ad th n B P_2 bs_2 z y hB hPA (by omega) (by omega)) (cwV 2 hts gX2_answers_X2_kindOf rfl rfl rfl hdX2_kindOf ⟨Nat.le_of_ble_eq_true rfl, Nat.le_of_ble_eq_true rfl⟩) hK hP (ci := 4) rfl (q0 := 0) rfl rfl rfl hl.1 rfl (Nat.le_of_ble_eq_true rfl) dX2_answers_54 ⟨Nat.zero_le _, Nat.zero_le _⟩ ?_
            refine lv_bipush (v := (nI (110))) hx hb dX2_answers_57 (by decide +kernel) ?_
            refine n_ne (tgt := 83) hx hb (by omega) (by omega) dX2_answers_59 (by decide) (fun c_9 => ?_) (fun c_9 => ?_)
            · refine lv_iconst (v := (nI (0))) hx hb dX2_answers_83 (by decide +kernel) ?_
              refine lv_iadd hx hb dX2_answers_84 ?_
              refine n_top (y := (nI (sm (s_anp n B (8 * k_u + k_w)) (B 4) z + ct (s_anp n B (8 * k_u + k_w) z) y + 0))) (nI_add _ _) ?_
              refine lv_istore_n (lv' := [(3, .int (nI (sm (s_anp n B (8 * k_u + k_w)) (B 4) z + ct (s_anp n B (8 * k_u + k_w) z) y + 0))), (0, .ref (ad 0)), (1, .int (nI (k_u))), (2, .int (nI (k_w))), (4, .int (nI (z))), (5, .int (nI (y)))]) hx hb dX2_answers_85 rfl hl (by decide) rfl (fun ls hl => ?_)
              refine lv_iinc (v := (nI (y + 1))) (lv' := [(5, .int (nI (y + 1))), (3, .int (nI (sm (s_anp n B (8 * k_u + k_w)) (B 4) z + ct (s_anp n B (8 * k_u + k_w) z) y + 0))), (0, .ref (ad 0)), (1, .int (nI (k_u))), (2, .int (nI (k_w))), (4, .int (nI (z)))]) hx hb dX2_answers_86 hl (k := 5) rfl (nI_1 _) (by decide) rfl (fun ls hl => ?_)
              refine lv_goto (tgt := 36) hx hb dX2_answers_89 (by decide) ?_
              have e_10 : ((nI (sm (s_anp n B (8 * k_u + k_w)) (B 4) z + ct (s_anp n B (8 * k_u + k_w) z) y + 0)) : Int32) = (nI (sm (s_anp n B (8 * k_u + k_w)) (B 4) z + ct (s_anp n B (8 * k_u + k_w) z) (y + 1))) := by first | exact congrArg nI (by rw [ct_t (by simp [s_anp, s_cpp, c_1, hc_k_u, hc_k_w, c_3, c_7, c_9, Nat.not_le.mp c_3, Nat.not_le.mp c_7])]; omega) | exact congrArg nI (by rw [ct_f (by simp [s_anp, s_cpp, c_1, hc_k_u, hc_k_w, c_3, c_7, c_9, Nat.not_le.mp c_3, Nat.not_le.mp c_7])]; omega) | exact congrArg nI (by rw [ct_f (by simp [s_anp, s_cpp, c_1, hc_k_u, hc_k_w, c_3, c_7, c_9, Nat.not_le.mp c_3, Nat.not_le.mp c_7])])
              exact ih_36 (y + 1) (by omega) (by omega) _ _ hP hD hS _ (show lv_has ls 6 [(0, .ref (ad 0)), (1, .int (nI (k_u))), (2, .int (nI (k_w))), (3, .int (nI (sm (s_anp n B (8 * k_u + k_w)) (B 4) z + ct (s_anp n B (8 * k_u + k_w) z) (y + 1)))), (4, .int (nI (z))), (5, .int (nI (y + 1)))] from by rw [← e_10]; exact lv_sub hl [2, 3, 4, 1, 5, 0] rfl)
            refine lv_aload_n hx hb dX2_answers_62 rfl (lv_at hl 0 rfl) ?_
            refine lv_iload hx hb dX2_answers_63 (lv_at hl 4 rfl) ?_
            refine lv_iload hx hb dX2_answers_65 (lv_at hl 5 rfl) ?_
            refine ro_V (As := [.int (nI (z)), .int (nI (y))]) (v := (oI (s_an n B z y))) ⟨hx, hb, hml, hown, hts⟩ (kX2_answersOf l D cI ad th n B P_2 bs_2 z y hB hPA (by omega) (by omega)) (cwV 2 hts gX2_answers_X2_answersOf rfl rfl rfl hdX2_answersOf ⟨Nat.le_of_ble_eq_true rfl, Nat.le_of_ble_eq_true rfl⟩) hK hP (ci := 4) rfl (q0 := 0) rfl rfl rfl hl.1 rfl (Nat.le_of_ble_eq_true rfl) dX2_answers_67 ⟨Nat.zero_le _, Nat.zero_le _⟩ ?_
            refine lv_bipush (v := (nI (8))) hx hb dX2_answers_70 (by decide +kernel) ?_
            refine lv_iload_n hx hb dX2_answers_72 rfl (lv_at hl 1 rfl) ?_
            refine lv_imul hx hb dX2_answers_73 ?_
            refine n_top (y := (nI (8 * k_u))) (pk_mul _ _) ?_
            refine lv_iload_n hx hb dX2_answers_74 rfl (lv_at hl 2 rfl) ?_
            refine lv_iadd hx hb dX2_answers_75 ?_
            refine n_top (y := (nI (8 * k_u + k_w))) (nI_add _ _) ?_
            refine p_ne (tgt := 83) hx hb (fun k hk => by have := s_an_b hB (a := z) (by omega) (by omega) k hk; omega) (by omega) dX2_answers_76 (by decide) (fun c_11 => ?_) (fun c_11 => ?_)
            · refine lv_iconst (v := (nI (0))) hx hb dX2_answers_83 (by decide +kernel) ?_
              refine lv_iadd hx hb dX2_answers_84 ?_
              refine n_top (y := (nI (sm (s_anp n B (8 * k_u + k_w)) (B 4) z + ct (s_anp n B (8 * k_u + k_w) z) y + 0))) (nI_add _ _) ?_
              refine lv_istore_n (lv' := [(3, .int (nI (sm (s_anp n B (8 * k_u + k_w)) (B 4) z + ct (s_anp n B (8 * k_u + k_w) z) y + 0))), (0, .ref (ad 0)), (1, .int (nI (k_u))), (2, .int (nI (k_w))), (4, .int (nI (z))), (5, .int (nI (y)))]) hx hb dX2_answers_85 rfl hl (by decide) rfl (fun ls hl => ?_)
              refine lv_iinc (v := (nI (y + 1))) (lv' := [(5, .int (nI (y + 1))), (3, .int (nI (sm (s_anp n B (8 * k_u + k_w)) (B 4) z + ct (s_anp n B (8 * k_u + k_w) z) y + 0))), (0, .ref (ad 0)), (1, .int (nI (k_u))), (2, .int (nI (k_w))), (4, .int (nI (z)))]) hx hb dX2_answers_86 hl (k := 5) rfl (nI_1 _) (by decide) rfl (fun ls hl => ?_)
              refine lv_goto (tgt := 36) hx hb dX2_answers_89 (by decide) ?_
              have e_12 : ((nI (sm (s_anp n B (8 * k_u + k_w)) (B 4) z + ct (s_anp n B (8 * k_u + k_w) z) y + 0)) : Int32) = (nI (sm (s_anp n B (8 * k_u + k_w)) (B 4) z + ct (s_anp n B (8 * k_u + k_w) z) (y + 1))) := by first | exact congrArg nI (by rw [ct_t (by simp [s_anp, s_cpp, c_1, hc_k_u, hc_k_w, c_3, c_7, c_9, c_11, Nat.not_le.mp c_3, Nat.not_le.mp c_7])]; omega) | exact congrArg nI (by rw [ct_f (by simp [s_anp, s_cpp, c_1, hc_k_u, hc_k_w, c_3, c_7, c_9, c_11, Nat.not_le.mp c_3, Nat.not_le.mp c_7])]; omega) | exact congrArg nI (by rw [ct_f (by simp [s_anp, s_cpp, c_1, hc_k_u, hc_k_w, c_3, c_7, c_9, c_11, Nat.not_le.mp c_3, Nat.not_le.mp c_7])])
              exact ih_36 (y + 1) (by omega) (by omega) _ _ hP hD hS _ (show lv_has ls 6 [(0, .ref (ad 0)), (1, .int (nI (k_u))), (2, .int (nI (k_w))), (3, .int (nI (sm (s_anp n B (8 * k_u + k_w)) (B 4) z + ct (s_anp n B (8 * k_u + k_w) z) (y + 1)))), (4, .int (nI (z))), (5, .int (nI (y + 1)))] from by rw [← e_12]; exact lv_sub hl [2, 3, 4, 1, 5, 0] rfl)
            refine lv_iconst (v := (nI (1))) hx hb dX2_answers_79 (by decide +kernel) ?_
            refine lv_goto (tgt := 84) hx hb dX2_answers_80 (by decide) ?_
            refine lv_iadd hx hb dX2_answers_84 ?_
            refine n_top (y := (nI (sm (s_anp n B (8 * k_u + k_w)) (B 4) z + ct (s_anp n B (8 * k_u + k_w) z) y + 1))) (nI_add _ _) ?_
            refine lv_istore_n (lv' := [(3, .int (nI (sm (s_anp n B (8 * k_u + k_w)) (B 4) z + ct (s_anp n B (8 * k_u + k_w) z) y + 1))), (0, .ref (ad 0)), (1, .int (nI (k_u))), (2, .int (nI (k_w))), (4, .int (nI (z))), (5, .int (nI (y)))]) hx hb dX2_answers_85 rfl hl (by decide) rfl (fun ls hl => ?_)
            refine lv_iinc (v := (nI (y + 1))) (lv' := [(5, .int (nI (y + 1))), (3, .int (nI (sm (s_anp n B (8 * k_u + k_w)) (B 4) z + ct (s_anp n B (8 * k_u + k_w) z) y + 1))), (0, .ref (ad 0)), (1, .int (nI (k_u))), (2, .int (nI (k_w))), (4, .int (nI (z)))]) hx hb dX2_answers_86 hl (k := 5) rfl (nI_1 _) (by decide) rfl (fun ls hl => ?_)
            refine lv_goto (tgt := 36) hx hb dX2_answers_89 (by decide) ?_
            have e_13 : ((nI (sm (s_anp n B (8 * k_u + k_w)) (B 4) z + ct (s_anp n B (8 * k_u + k_w) z) y + 1)) : Int32) = (nI (sm (s_anp n B (8 * k_u + k_w)) (B 4) z + ct (s_anp n B (8 * k_u + k_w) z) (y + 1))) := by first | exact congrArg nI (by rw [ct_t (by simp [s_anp, s_cpp, c_1, hc_k_u, hc_k_w, c_3, c_7, c_9, c_11, Nat.not_le.mp c_3, Nat.not_le.mp c_7])]; omega) | exact congrArg nI (by rw [ct_f (by simp [s_anp, s_cpp, c_1, hc_k_u, hc_k_w, c_3, c_7, c_9, c_11, Nat.not_le.mp c_3, Nat.not_le.mp c_7])]; omega) | exact congrArg nI (by rw [ct_f (by simp [s_anp, s_cpp, c_1, hc_k_u, hc_k_w, c_3, c_7, c_9, c_11, Nat.not_le.mp c_3, Nat.not_le.mp c_7])])
            exact ih_36 (y + 1) (by omega) (by omega) _ _ hP hD hS _ (show lv_has ls 6 [(0, .ref (ad 0)), (1, .int (nI (k_u))), (2, .int (nI (k_w))), (3, .int (nI (sm (s_anp n B (8 * k_u + k_w)) (B 4) z + ct (s_anp n B (8 * k_u + k_w) z) (y + 1)))), (4, .int (nI (z))), (5, .int (nI (y + 1)))] from by rw [← e_13]; exact lv_sub hl [2, 3, 4, 1, 5, 0] rfl)
        have e_14 : ((nI (sm (s_anp n B (8 * k_u + k_w)) (B 4) z)) : Int32) = (nI (sm (s_anp n B (8 * k_u + k_w)) (B 4) z + ct (s_anp n B (8 * k_u + k_w) z) 0)) := by simp [ct]
        exact loop_36 (B 4 z - 0 + 1) 0 (by omega) (by omega) _ _ hP hD hS _ (show lv_has ls 6 [(0, .ref (ad 0)), (1, .int (nI (k_u))), (2, .int (nI (k_w))), (3, .int (nI (sm (s_anp n B (8 * k_u + k_w)) (B 4) z + ct (s_anp n B (8 * k_u + k_w) z) 0))), (4, .int (nI (z))), (5, .int (nI (0)))] from by rw [← e_14]; exact lv_sub hl [1, 2, 3, 4, 5, 0] rfl)
    have e_15 : ((nI (0)) : Int32) = (nI (sm (s_anp n B (8 * k_u + k_w)) (B 4) 0)) := by first | rfl | (simp [oI_s, bI_t, bI_f, sm, c_1, hc_k_u, hc_k_w]; done) | (simp [oI_s, bI_t, bI_f, sm, c_1, hc_k_u, hc_k_w]; omega) | (simp only [sm]; (repeat' split) <;> first | rfl | omega | (simp_all; done) | (simp_all; omega))
    exact loop_24 (n - 0 + 1) 0 (by omega) (by omega) _ _ hP hD hS _ (show lv_has ls 6 [(0, .ref (ad 0)), (1, .int (nI (k_u))), (2, .int (nI (k_w))), (3, .int (nI (sm (s_anp n B (8 * k_u + k_w)) (B 4) 0))), (4, .int (nI (0)))] from by rw [← e_15]; exact lv_sub hl [2, 3, 4, 1, 0] rfl)
  refine lv_aload_n hx hb dX2_answers_9 rfl (lv_at hl 0 rfl) ?_
  refine lv_iconst (v := (nI (1))) hx hb dX2_answers_10 (by decide +kernel) ?_
  refine mo_V (wr := []) (As := [.int (nI (1))]) ⟨hx, hb, hml, hown, hts⟩ (kX2_fails l D cI ad th n B P bs s.heap.size 1 ) (cwV 1 hts gX2_answers_X2_fails rfl rfl rfl hdX2_fails ⟨Nat.le_of_ble_eq_true rfl, Nat.le_of_ble_eq_true rfl⟩) hK hP hD hS hA (ci := 4) rfl (q0 := 0) rfl rfl rfl hl.1 rfl (Nat.le_of_ble_eq_true rfl) dX2_answers_11 ⟨Nat.zero_le _, Nat.zero_le _⟩ (fun r_16 (u9 : Unit) H locs hw_16 hP hD hS => ?_)
  subst hw_16
  have hP : va_P D vwCl (wM cI ad 1 n B P bs) H := hP
  have hD : va_D A (wM cI ad 1 n B P bs) := hD
  have ew_17 : 1 = ((s_asn n B u w).1) := by first | rfl | (simp [oI_s, bI_t, bI_f, s_asn, s_ocode, c_1]; done) | (simp [oI_s, bI_t, bI_f, s_asn, s_ocode, c_1]; omega) | (simp only [s_asn, s_ocode]; (repeat' split) <;> first | rfl | omega | (simp_all; done) | (simp_all; omega))
  have hP : va_P D vwCl (wM cI ad ((s_asn n B u w).1) n B P bs) H := by rw [← ew_17]; exact hP
  have hD : va_D A (wM cI ad ((s_asn n B u w).1) n B P bs) := by rw [← ew_17]; exact hD
  exact W.iret (v := (nI (0))) hx hb hr (fun t ht hW => ⟨⟨_, (P, bs), rfl, (by first | rfl | (simp [oI_s, bI_t, bI_f, s_asn, s_ocode, c_1]; done) | (simp [oI_s, bI_t, bI_f, s_asn, s_ocode, c_1]; omega) | (simp only [s_asn, s_ocode]; (repeat' split) <;> first | rfl | omega | (simp_all; done) | (simp_all; omega))), by rw [ht]; exact hP, va_K.moved hW.alike hK, hD⟩, hS.F ht⟩) hS.2.2 dX2_answers_14
theorem hdX2_answers : yX2_answers.cls = RX2 ∧ yX2_answers.cls ≠ "java/lang/invoke/MethodHandle" ∧ yX2_answers.cls ≠ "java/lang/invoke/VarHandle" ∧ (parseMethodDescriptor yX2_answers.desc).map (fun d => d.parameters.length) = some 2 := by decide +kernel
set_option maxHeartbeats 4000000 in
set_option maxRecDepth 100000 in
theorem kX2_copies (l : Launch) (D : va_G) (cI : ClassId) (ad : Nat → Nat) (th : Nat) (n : Nat) (B : Nat → Nat → Nat) (P : Nat → Option Nat) (bs : Nat → Nat) (sz : Nat) (u : Int32) (w : Int32) (hB : Bok n B) : Met l yX2_copies wsX2_copies ({ frames := 4, cells := 0, slots := 0, locals := 96 }) (PcM D [(cI, .int)] (wM cI ad th n B P bs) sz [.ref (ad 0), .int (u), .int (w)]) (va_Qi (fun (r : Int32) (u9 : (Nat → Option Nat) × (Nat → Nat)) => r = (nI ((s_cop n B u w).2))) (fun (u9 : (Nat → Option Nat) × (Nat → Nat)) t => AtW D [(cI, .int)] (va_A (wM cI ad th n B P bs) sz) (wM cI ad ((s_cop n B u w).1) n B u9.1 u9.2) t) (va_A (wM cI ad th n B P bs) sz)) 0 0 (va_A (wM cI ad th n B P bs) sz) := by
  refine Met.ofW (cc := cX2_copies) (maxL := 6) (ret := (some .int)) (by decide) rfl ?_
  intro p e s m args below meth c s₁ BL hml hv
  obtain ⟨rfl, hsz, hP, hK, hD0⟩ := hv
  have hx := BL.exec
  have hb := BL.bytes
  have hr := BL.returns
  have hts := atoms_spec (ws := wsX2_copies) BL.pre
  have hown : s.vm.findClass RX2 = some m.cls := findClass_of_methodNamed BL.named
  have hlocks := BL.notSynchronized
  have hin : ∀ w ∈ wsX20, w ∈ wsX2_copies := by decide +kernel
  have hf_22 := hts (.fieldLink RX2 22 "TalkRebuilderModel" "many" "[I") (by decide +kernel)
  have hf_41 := hts (.fieldLink RX2 41 "TalkRebuilderModel" "mails" "I") (by decide +kernel)
  have hl := lv_entry ([.ref (ad 0), .int (u), .int (w)]) (n := 6) (Nat.le_of_ble_eq_true rfl)
  rw [lg_entry_eq]
  generalize (lg_sl ([.ref (ad 0), .int (u), .int (w)]) ++ List.replicate (6 - (lg_sl ([.ref (ad 0), .int (u), .int (w)])).length) Slot.unset).toArray = ls at hl ⊢
  have hl : lv_has ls 6 [(0, .ref (ad 0)), (1, .int (u)), (2, .int (w))] := hl
  subst hsz
  have hD := hD0.self (sz := s.heap.size)
  generalize hAe : va_A (wM cI ad th n B P bs) s.heap.size = A at hD ⊢
  have hA : ∀ q : Nat, s.heap.size ≤ q → A q := fun q h => by rw [← hAe]; exact Or.inr h
  have hS : va_S A s.heap s.heap [] := va_S.rf
  have hP : va_P D vwCl (wM cI ad th n B P bs) s.heap := hP
  have hD : va_D A (wM cI ad th n B P bs) := hD
  have hn10 := hB.1
  refine lv_aload_n hx hb dX2_copies_0 rfl (lv_at hl 0 rfl) ?_
  refine lv_iload_n hx hb dX2_copies_1 rfl (lv_at hl 1 rfl) ?_
  refine lv_iload_n hx hb dX2_copies_2 rfl (lv_at hl 2 rfl) ?_
  refine ro_V (As := [.int (u), .int (w)]) (v := (bI (s_isl n B u w))) ⟨hx, hb, hml, hown, hts⟩ (kX2_isLine l D cI ad th n B P bs (u) (w) hB) (cwV 2 hts gX2_copies_X2_isLine rfl rfl rfl hdX2_isLine ⟨Nat.le_of_ble_eq_true rfl, Nat.le_of_ble_eq_true rfl⟩) hK hP (ci := 4) rfl (q0 := 0) rfl rfl rfl hl.1 rfl (Nat.le_of_ble_eq_true rfl) dX2_copies_3 ⟨Nat.zero_le _, Nat.zero_le _⟩ ?_
  refine y_ne (tgt := 15) hx hb dX2_copies_6 (by decide) (fun c_1 => ?_) (fun c_1 => ?_)
  · obtain ⟨k_u, k_w, hk_u, hk_w, rfl, rfl⟩ := s_isl_t hB c_1
    have h8_u := hB.2.2.1 k_u
    have hc_k_u : (nI k_u).toNatClampNeg = k_u := nI_clamp (by omega)
    have hc_k_w : (nI k_w).toNatClampNeg = k_w := nI_clamp (by omega)
    refine lv_aload_n hx hb dX2_copies_15 rfl (lv_at hl 0 rfl) ?_
    refine mo_Vv (wr := []) (As := []) ⟨hx, hb, hml, hown, hts⟩ (kX2_alignsAll l D cI ad th n B P bs s.heap.size  hB) (cwV 0 hts gX2_copies_X2_alignsAll rfl rfl rfl hdX2_alignsAll ⟨Nat.le_of_ble_eq_true rfl, Nat.le_of_ble_eq_true rfl⟩) hK hP hD hS hA (ci := 4) rfl (q0 := 0) rfl rfl rfl hl.1 rfl (Nat.le_of_ble_eq_true rfl) dX2_copies_16 ⟨Nat.zero_le _, Nat.zero_le _⟩ (fun u_2 H locs hw_2 hP hD hS => ?_)
    obtain ⟨P_2, bs_2⟩ := u_2
    have hP : va_P D vwCl (wM cI ad th n B P_2 bs_2) H := hP
    have hD : va_D A (wM cI ad th n B P_2 bs_2) := hD
    have hPA := hw_2
    refine lv_aload_n hx hb dX2_copies_19 rfl (lv_at hl 0 rfl) ?_
    refine lv_iload_n hx hb dX2_copies_20 rfl (lv_at hl 1 rfl) ?_
    refine lv_iload_n hx hb dX2_copies_21 rfl (lv_at hl 2 rfl) ?_
    refine ro_V (As := [.int (nI (k_u)), .int (nI (k_w))]) (v := (bI (s_talk n B k_u k_w))) ⟨hx, hb, hml, hown, hts⟩ (kX2_isTalk l D cI ad th n B P_2 bs_2 k_u k_w hB hPA (by omega) (by omega)) (cwV 2 hts gX2_copies_X2_isTalk rfl rfl rfl hdX2_isTalk ⟨Nat.le_of_ble_eq_true rfl, Nat.le_of_ble_eq_true rfl⟩) hK hP (ci := 4) rfl (q0 := 0) rfl rfl rfl hl.1 rfl (Nat.le_of_ble_eq_true rfl) dX2_copies_22 ⟨Nat.zero_le _, Nat.zero_le _⟩ ?_
    refine y_ne (tgt := 34) hx hb dX2_copies_25 (by decide) (fun c_3 => ?_) (fun c_3 => ?_)
    · refine lv_iconst (v := (nI (0))) hx hb dX2_copies_34 (by decide +kernel) ?_
      refine lv_istore_n (lv' := [(3, .int (nI (0))), (0, .ref (ad 0)), (1, .int (nI (k_u))), (2, .int (nI (k_w)))]) hx hb dX2_copies_35 rfl hl (by decide) rfl (fun ls hl => ?_)
      refine lv_iconst (v := (nI (0))) hx hb dX2_copies_36 (by decide +kernel) ?_
      refine lv_istore (lv' := [(4, .int (nI (0))), (3, .int (nI (0))), (0, .ref (ad 0)), (1, .int (nI (k_u))), (2, .int (nI (k_w)))]) hx hb dX2_copies_37 hl (by decide) rfl (fun ls hl => ?_)
      have loop_39 : ∀ (N : Nat) (z : Nat), n - z < N → (z ≤ n) → ∀ (H : Heap) (locs : List Loc), va_P D vwCl (wM cI ad th n B P_2 bs_2) H → va_D A (wM cI ad th n B P_2 bs_2) → va_S A s.heap H locs → ∀ (ls : Array Slot), lv_has ls 6 [(0, .ref (ad 0)), (1, .int (nI (k_u))), (2, .int (nI (k_w))), (3, .int (nI (sm (s_cpp n B (8 * k_u + k_w)) (B 4) z))), (4, .int (nI (z)))] → W p l e (headSpec wsX2_copies ({ frames := 4, cells := 0, slots := 0, locals := 96 })).room s m ([.ref (ad 0), .int (nI k_u), .int (nI k_w)] : List Value).toArray below meth c H locs 0 0 (MQ below (va_Qi (fun (r : Int32) (u9 : (Nat → Option Nat) × (Nat → Nat)) => r = (nI ((s_cop n B (nI k_u) (nI k_w)).2))) (fun (u9 : (Nat → Option Nat) × (Nat → Nat)) t => AtW D [(cI, .int)] A (wM cI ad ((s_cop n B (nI k_u) (nI k_w)).1) n B u9.1 u9.2) t) A) ([.ref (ad 0), .int (nI k_u), .int (nI k_w)] : List Value).toArray s 0 0 A) (F0 m 39 ls []) := by
        intro N
        induction N with
        | zero => intro z hmu; exact absurd hmu (Nat.not_lt_zero _)
        | succ N ih_39 =>
          intro z hmu_39 h_z H locs hP hD hS ls hl
          refine lv_iload hx hb dX2_copies_39 (lv_at hl 4 rfl) ?_
          refine lv_aload_n hx hb dX2_copies_41 rfl (lv_at hl 0 rfl) ?_
          refine va_get (D := D) (ci := 4) (v := .int (nI (n))) (C := RX2) (T := TX2) (N := 11) hx hb hts hin hown hK hP 0 rfl rfl 1 (by decide) hf_41 (fun _ h9 => h9) rfl dX2_copies_42 ?_
          refine n_ge (tgt := 100) hx hb (by omega) (by omega) dX2_copies_45 (by decide) (fun c_4 => ?_) (fun c_4 => ?_)
          · have hzn : n = z := by omega
            refine lv_aload_n hx hb dX2_copies_100 rfl (lv_at hl 0 rfl) ?_
            refine lv_iload_n hx hb dX2_copies_101 rfl (lv_at hl 3 rfl) ?_
            refine mo_V (wr := []) (As := [.int (nI (sm (s_cpp n B (8 * k_u + k_w)) (B 4) z))]) ⟨hx, hb, hml, hown, hts⟩ (kX2_tells l D cI ad th n B P_2 bs_2 H.size (nI (sm (s_cpp n B (8 * k_u + k_w)) (B 4) z)) ) (cwV 1 hts gX2_copies_X2_tells rfl rfl rfl hdX2_tells ⟨Nat.le_of_ble_eq_true rfl, Nat.le_of_ble_eq_true rfl⟩) hK hP hD hS hA (ci := 4) rfl (q0 := 0) rfl rfl rfl hl.1 rfl (Nat.le_of_ble_eq_true rfl) dX2_copies_102 ⟨Nat.zero_le _, Nat.zero_le _⟩ (fun r_5 (u9 : Unit) H locs hw_5 hP hD hS => ?_)
            subst hw_5
            have hP : va_P D vwCl (wM cI ad 0 n B P_2 bs_2) H := hP
            have hD : va_D A (wM cI ad 0 n B P_2 bs_2) := hD
            have ew_6 : 0 = ((s_cop n B (nI k_u) (nI k_w)).1) := by first | rfl | (simp [oI_s, bI_t, bI_f, s_cop, s_ocode, c_1, hc_k_u, hc_k_w, c_3, c_4, hzn, Nat.not_lt.mpr c_4]; done) | (simp [oI_s, bI_t, bI_f, s_cop, s_ocode, c_1, hc_k_u, hc_k_w, c_3, c_4, hzn, Nat.not_lt.mpr c_4]; omega) | (simp only [s_cop, s_ocode]; (repeat' split) <;> first | rfl | omega | (simp_all; done) | (simp_all; omega))
            have hP : va_P D vwCl (wM cI ad ((s_cop n B (nI k_u) (nI k_w)).1) n B P_2 bs_2) H := by rw [← ew_6]; exact hP
            have hD : va_D A (wM cI ad ((s_cop n B (nI k_u) (nI k_w)).1) n B P_2 bs_2) := by rw [← ew_6]; exact hD
            exact W.iret (v := (nI (sm (s_cpp n B (8 * k_u + k_w)) (B 4) z))) hx hb hr (fun t ht hW => ⟨⟨_, (P_2, bs_2), rfl, (by first | rfl | (simp [oI_s, bI_t, bI_f, s_cop, s_ocode, c_1, hc_k_u, hc_k_w, c_3, c_4, hzn, Nat.not_lt.mpr c_4]; done) | (simp [oI_s, bI_t, bI_f, s_cop, s_ocode, c_1, hc_k_u, hc_k_w, c_3, c_4, hzn, Nat.not_lt.mpr c_4]; omega) | (simp only [s_cop, s_ocode]; (repeat' split) <;> first | rfl | omega | (simp_all; done) | (simp_all; omega))), by rw [ht]; exact hP, va_K.moved hW.alike hK, hD⟩, hS.F ht⟩) hS.2.2 dX2_copies_105
          refine lv_iconst (v := (nI (0))) hx hb dX2_copies_48 (by decide +kernel) ?_
          refine lv_istore (lv' := [(5, .int (nI (0))), (0, .ref (ad 0)), (1, .int (nI (k_u))), (2, .int (nI (k_w))), (3, .int (nI (sm (s_cpp n B (8 * k_u + k_w)) (B 4) z))), (4, .int (nI (z)))]) hx hb dX2_copies_49 hl (by decide) rfl (fun ls hl => ?_)
          have loop_51 : ∀ (N : Nat) (y : Nat), B 4 z - y < N → (y ≤ B 4 z) → ∀ (H : Heap) (locs : List Loc), va_P D vwCl (wM cI ad th n B P_2 bs_2) H → va_D A (wM cI ad th n B P_2 bs_2) → va_S A s.heap H locs → ∀ (ls : Array Slot), lv_has ls 6 [(0, .ref (ad 0)), (1, .int (nI (k_u))), (2, .int (nI (k_w))), (3, .int (nI (sm (s_cpp n B (8 * k_u + k_w)) (B 4) z + ct (s_cpp n B (8 * k_u + k_w) z) y))), (4, .int (nI (z))), (5, .int (nI (y)))] → W p l e (headSpec wsX2_copies ({ frames := 4, cells := 0, slots := 0, locals := 96 })).room s m ([.ref (ad 0), .int (nI k_u), .int (nI k_w)] : List Value).toArray below meth c H locs 0 0 (MQ below (va_Qi (fun (r : Int32) (u9 : (Nat → Option Nat) × (Nat → Nat)) => r = (nI ((s_cop n B (nI k_u) (nI k_w)).2))) (fun (u9 : (Nat → Option Nat) × (Nat → Nat)) t => AtW D [(cI, .int)] A (wM cI ad ((s_cop n B (nI k_u) (nI k_w)).1) n B u9.1 u9.2) t) A) ([.ref (ad 0), .int (nI k_u), .int (nI k_w)] : List Value).toArray s 0 0 A) (F0 m 51 ls []) := by
            intro N
            induction N with
            | zero => intro y hmu; exact absurd hmu (Nat.not_lt_zero _)
            | succ N ih_51 =>
              intro y hmu_51 h_y H locs hP hD hS ls hl
              refine lv_iload hx hb dX2_copies_51 (lv_at hl 5 rfl) ?_
              refine lv_aload_n hx hb dX2_copies_53 rfl (lv_at hl 0 rfl) ?_
              refine va_get (D := D) (ci := 4) (v := .ref (ad 5)) (C := RX2) (T := TX2) (N := 11) hx hb hts hin hown hK hP 0 rfl rfl 6 (by decide) hf_22 (fun _ h9 => h9) rfl dX2_copies_54 ?_
              refine lv_iload hx hb dX2_copies_57 (lv_at hl 4 rfl) ?_
              refine n_iald hx hb hK hP 5 0 rfl rfl (i := z) (by omega) (by decide) dX2_copies_59 ?_
              have hq_7 := hB.2.2.1 z
              refine n_ge (tgt := 94) hx hb (by omega) (by omega) dX2_copies_60 (by decide) (fun c_8 => ?_) (fun c_8 => ?_)
              · have hyk : B 4 z = y := by omega
                refine lv_iinc (v := (nI (z + 1))) (lv' := [(4, .int (nI (z + 1))), (0, .ref (ad 0)), (1, .int (nI (k_u))), (2, .int (nI (k_w))), (3, .int (nI (sm (s_cpp n B (8 * k_u + k_w)) (B 4) z + ct (s_cpp n B (8 * k_u + k_w) z) y))), (5, .int (nI (y)))]) hx hb dX2_copies_94 hl (k := 4) rfl (nI_1 _) (by decide) rfl (fun ls hl => ?_)
                refine lv_goto (tgt := 39) hx hb dX2_copies_97 (by decide) ?_
                have e_9 : ((nI (sm (s_cpp n B (8 * k_u + k_w)) (B 4) z + ct (s_cpp n B (8 * k_u + k_w) z) y)) : Int32) = (nI (sm (s_cpp n B (8 * k_u + k_w)) (B 4) (z + 1))) := by first | rfl | (simp [oI_s, bI_t, bI_f, sm, c_1, hc_k_u, hc_k_w, c_3, c_4, c_8, hyk, Nat.not_le.mp c_4, Nat.not_lt.mpr c_8]; done) | (simp [oI_s, bI_t, bI_f, sm, c_1, hc_k_u, hc_k_w, c_3, c_4, c_8, hyk, Nat.not_le.mp c_4, Nat.not_lt.mpr c_8]; omega) | (simp only [sm]; (repeat' split) <;> first | rfl | omega | (simp_all; done) | (simp_all; omega))
                exact ih_39 (z + 1) (by omega) (by omega) _ _ hP hD hS _ (show lv_has ls 6 [(0, .ref (ad 0)), (1, .int (nI (k_u))), (2, .int (nI (k_w))), (3, .int (nI (sm (s_cpp n B (8 * k_u + k_w)) (B 4) (z + 1)))), (4, .int (nI (z + 1)))] from by rw [← e_9]; exact lv_sub hl [1, 2, 3, 4, 0] rfl)
              have h8z := hB.2.2.1 z
              have hol : s_org n B z y < 8 * n := s_or_lt hB.2.2.1 (k := 4) (by omega) (by omega)
              refine lv_iload_n hx hb dX2_copies_63 rfl (lv_at hl 3 rfl) ?_
              refine lv_aload_n hx hb dX2_copies_64 rfl (lv_at hl 0 rfl) ?_
              refine lv_iload hx hb dX2_copies_65 (lv_at hl 4 rfl) ?_
              refine lv_iload hx hb dX2_copies_67 (lv_at hl 5 rfl) ?_
              refine ro_V (As := [.int (nI (z)), .int (nI (y))]) (v := (nI (s_org n B z y))) ⟨hx, hb, hml, hown, hts⟩ (kX2_origin l D cI ad th n B P_2 bs_2 z y hB hPA (by omega) (by omega)) (cwV 2 hts gX2_copies_X2_origin rfl rfl rfl hdX2_origin ⟨Nat.le_of_ble_eq_true rfl, Nat.le_of_ble_eq_true rfl⟩) hK hP (ci := 4) rfl (q0 := 0) rfl rfl rfl hl.1 rfl (Nat.le_of_ble_eq_true rfl) dX2_copies_69 ⟨Nat.zero_le _, Nat.zero_le _⟩ ?_
              refine lv_bipush (v := (nI (8))) hx hb dX2_copies_72 (by decide +kernel) ?_
              refine lv_iload_n hx hb dX2_copies_74 rfl (lv_at hl 1 rfl) ?_
              refine lv_imul hx hb dX2_copies_75 ?_
              refine n_top (y := (nI (8 * k_u))) (pk_mul _ _) ?_
              refine lv_iload_n hx hb dX2_copies_76 rfl (lv_at hl 2 rfl) ?_
              refine lv_iadd hx hb dX2_copies_77 ?_
              refine n_top (y := (nI (8 * k_u + k_w))) (nI_add _ _) ?_
              refine n_ne (tgt := 85) hx hb (by omega) (by omega) dX2_copies_78 (by decide) (fun c_10 => ?_) (fun c_10 => ?_)
              · refine lv_iconst (v := (nI (0))) hx hb dX2_copies_85 (by decide +kernel) ?_
                refine lv_iadd hx hb dX2_copies_86 ?_
                refine n_top (y := (nI (sm (s_cpp n B (8 * k_u + k_w)) (B 4) z + ct (s_cpp n B (8 * k_u + k_w) z) y + 0))) (nI_add _ _) ?_
                refine lv_istore_n (lv' := [(3, .int (nI (sm (s_cpp n B (8 * k_u + k_w)) (B 4) z + ct (s_cpp n B (8 * k_u + k_w) z) y + 0))), (0, .ref (ad 0)), (1, .int (nI (k_u))), (2, .int (nI (k_w))), (4, .int (nI (z))), (5, .int (nI (y)))]) hx hb dX2_copies_87 rfl hl (by decide) rfl (fun ls hl => ?_)
                refine lv_iinc (v := (nI (y + 1))) (lv' := [(5, .int (nI (y + 1))), (3, .int (nI (sm (s_cpp n B (8 * k_u + k_w)) (B 4) z + ct (s_cpp n B (8 * k_u + k_w) z) y + 0))), (0, .ref (ad 0)), (1, .int (nI (k_u))), (2, .int (nI (k_w))), (4, .int (nI (z)))]) hx hb dX2_copies_88 hl (k := 5) rfl (nI_1 _) (by decide) rfl (fun ls hl => ?_)
                refine lv_goto (tgt := 51) hx hb dX2_copies_91 (by decide) ?_
                have e_11 : ((nI (sm (s_cpp n B (8 * k_u + k_w)) (B 4) z + ct (s_cpp n B (8 * k_u + k_w) z) y + 0)) : Int32) = (nI (sm (s_cpp n B (8 * k_u + k_w)) (B 4) z + ct (s_cpp n B (8 * k_u + k_w) z) (y + 1))) := by first | exact congrArg nI (by rw [ct_t (by simp [s_anp, s_cpp, c_1, hc_k_u, hc_k_w, c_3, c_4, c_8, c_10, Nat.not_le.mp c_4, Nat.not_le.mp c_8])]; omega) | exact congrArg nI (by rw [ct_f (by simp [s_anp, s_cpp, c_1, hc_k_u, hc_k_w, c_3, c_4, c_8, c_10, Nat.not_le.mp c_4, Nat.not_le.mp c_8])]; omega) | exact congrArg nI (by rw [ct_f (by simp [s_anp, s_cpp, c_1, hc_k_u, hc_k_w, c_3, c_4, c_8, c_10, Nat.not_le.mp c_4, Nat.not_le.mp c_8])])
                exact ih_51 (y + 1) (by omega) (by omega) _ _ hP hD hS _ (show lv_has ls 6 [(0, .ref (ad 0)), (1, .int (nI (k_u))), (2, .int (nI (k_w))), (3, .int (nI (sm (s_cpp n B (8 * k_u + k_w)) (B 4) z + ct (s_cpp n B (8 * k_u + k_w) z) (y + 1)))), (4, .int (nI (z))), (5, .int (nI (y + 1)))] from by rw [← e_11]; exact lv_sub hl [2, 3, 4, 1, 5, 0] rfl)
              refine lv_iconst (v := (nI (1))) hx hb dX2_copies_81 (by decide +kernel) ?_
              refine lv_goto (tgt := 86) hx hb dX2_copies_82 (by decide) ?_
              refine lv_iadd hx hb dX2_copies_86 ?_
              refine n_top (y := (nI (sm (s_cpp n B (8 * k_u + k_w)) (B 4) z + ct (s_cpp n B (8 * k_u + k_w) z) y + 1))) (nI_add _ _) ?_
              refine lv_istore_n (lv' := [(3, .int (nI (sm (s_cpp n B (8 * k_u + k_w)) (B 4) z + ct (s_cpp n B (8 * k_u + k_w) z) y + 1))), (0, .ref (ad 0)), (1, .int (nI (k_u))), (2, .int (nI (k_w))), (4, .int (nI (z))), (5, .int (nI (y)))]) hx hb dX2_copies_87 rfl hl (by decide) rfl (fun ls hl => ?_)
              refine lv_iinc (v := (nI (y + 1))) (lv' := [(5, .int (nI (y + 1))), (3, .int (nI (sm (s_cpp n B (8 * k_u + k_w)) (B 4) z + ct (s_cpp n B (8 * k_u + k_w) z) y + 1))), (0, .ref (ad 0)), (1, .int (nI (k_u))), (2, .int (nI (k_w))), (4, .int (nI (z)))]) hx hb dX2_copies_88 hl (k := 5) rfl (nI_1 _) (by decide) rfl (fun ls hl => ?_)
              refine lv_goto (tgt := 51) hx hb dX2_copies_91 (by decide) ?_
              have e_12 : ((nI (sm (s_cpp n B (8 * k_u + k_w)) (B 4) z + ct (s_cpp n B (8 * k_u + k_w) z) y + 1)) : Int32) = (nI (sm (s_cpp n B (8 * k_u + k_w)) (B 4) z + ct (s_cpp n B (8 * k_u + k_w) z) (y + 1))) := by first | exact congrArg nI (by rw [ct_t (by simp [s_anp, s_cpp, c_1, hc_k_u, hc_k_w, c_3, c_4, c_8, c_10, Nat.not_le.mp c_4, Nat.not_le.mp c_8])]; omega) | exact congrArg nI (by rw [ct_f (by simp [s_anp, s_cpp, c_1, hc_k_u, hc_k_w, c_3, c_4, c_8, c_10, Nat.not_le.mp c_4, Nat.not_le.mp c_8])]; omega) | exact congrArg nI (by rw [ct_f (by simp [s_anp, s_cpp, c_1, hc_k_u, hc_k_w, c_3, c_4, c_8, c_10, Nat.not_le.mp c_4, Nat.not_le.mp c_8])])
              exact ih_51 (y + 1) (by omega) (by omega) _ _ hP hD hS _ (show lv_has ls 6 [(0, .ref (ad 0)), (1, .int (nI (k_u))), (2, .int (nI (k_w))), (3, .int (nI (sm (s_cpp n B (8 * k_u + k_w)) (B 4) z + ct (s_cpp n B (8 * k_u + k_w) z) (y + 1)))), (4, .int (nI (z))), (5, .int (nI (y + 1)))] from by rw [← e_12]; exact lv_sub hl [2, 3, 4, 1, 5, 0] rfl)
          have e_13 : ((nI (sm (s_cpp n B (8 * k_u + k_w)) (B 4) z)) : Int32) = (nI (sm (s_cpp n B (8 * k_u + k_w)) (B 4) z + ct (s_cpp n B (8 * k_u + k_w) z) 0)) := by simp [ct]
          exact loop_51 (B 4 z - 0 + 1) 0 (by omega) (by omega) _ _ hP hD hS _ (show lv_has ls 6 [(0, .ref (ad 0)), (1, .int (nI (k_u))), (2, .int (nI (k_w))), (3, .int (nI (sm (s_cpp n B (8 * k_u + k_w)) (B 4) z + ct (s_cpp n B (8 * k_u + k_w) z) 0))), (4, .int (nI (z))), (5, .int (nI (0)))] from by rw [← e_13]; exact lv_sub hl [1, 2, 3, 4, 5, 0] rfl)
      have e_14 : ((nI (0)) : Int32) = (nI (sm (s_cpp n B (8 * k_u + k_w)) (B 4) 0)) := by first | rfl | (simp [oI_s, bI_t, bI_f, sm, c_1, hc_k_u, hc_k_w, c_3]; done) | (simp [oI_s, bI_t, bI_f, sm, c_1, hc_k_u, hc_k_w, c_3]; omega) | (simp only [sm]; (repeat' split) <;> first | rfl | omega | (simp_all; done) | (simp_all; omega))
      exact loop_39 (n - 0 + 1) 0 (by omega) (by omega) _ _ hP hD hS _ (show lv_has ls 6 [(0, .ref (ad 0)), (1, .int (nI (k_u))), (2, .int (nI (k_w))), (3, .int (nI (sm (s_cpp n B (8 * k_u + k_w)) (B 4) 0))), (4, .int (nI (0)))] from by rw [← e_14]; exact lv_sub hl [2, 3, 4, 1, 0] rfl)
    refine lv_aload_n hx hb dX2_copies_28 rfl (lv_at hl 0 rfl) ?_
    refine lv_iconst (v := (nI (2))) hx hb dX2_copies_29 (by decide +kernel) ?_
    refine mo_V (wr := []) (As := [.int (nI (2))]) ⟨hx, hb, hml, hown, hts⟩ (kX2_fails l D cI ad th n B P_2 bs_2 H.size 2 ) (cwV 1 hts gX2_copies_X2_fails rfl rfl rfl hdX2_fails ⟨Nat.le_of_ble_eq_true rfl, Nat.le_of_ble_eq_true rfl⟩) hK hP hD hS hA (ci := 4) rfl (q0 := 0) rfl rfl rfl hl.1 rfl (Nat.le_of_ble_eq_true rfl) dX2_copies_30 ⟨Nat.zero_le _, Nat.zero_le _⟩ (fun r_15 (u9 : Unit) H locs hw_15 hP hD hS => ?_)
    subst hw_15
    have hP : va_P D vwCl (wM cI ad 2 n B P_2 bs_2) H := hP
    have hD : va_D A (wM cI ad 2 n B P_2 bs_2) := hD
    have ew_16 : 2 = ((s_cop n B (nI k_u) (nI k_w)).1) := by first | rfl | (simp [oI_s, bI_t, bI_f, s_cop, s_ocode, c_1, hc_k_u, hc_k_w, c_3]; done) | (simp [oI_s, bI_t, bI_f, s_cop, s_ocode, c_1, hc_k_u, hc_k_w, c_3]; omega) | (simp only [s_cop, s_ocode]; (repeat' split) <;> first | rfl | omega | (simp_all; done) | (simp_all; omega))
    have hP : va_P D vwCl (wM cI ad ((s_cop n B (nI k_u) (nI k_w)).1) n B P_2 bs_2) H := by rw [← ew_16]; exact hP
    have hD : va_D A (wM cI ad ((s_cop n B (nI k_u) (nI k_w)).1) n B P_2 bs_2) := by rw [← ew_16]; exact hD
    exact W.iret (v := (nI (0))) hx hb hr (fun t ht hW => ⟨⟨_, (P_2, bs_2), rfl, (by first | rfl | (simp [oI_s, bI_t, bI_f, s_cop, s_ocode, c_1, hc_k_u, hc_k_w, c_3]; done) | (simp [oI_s, bI_t, bI_f, s_cop, s_ocode, c_1, hc_k_u, hc_k_w, c_3]; omega) | (simp only [s_cop, s_ocode]; (repeat' split) <;> first | rfl | omega | (simp_all; done) | (simp_all; omega))), by rw [ht]; exact hP, va_K.moved hW.alike hK, hD⟩, hS.F ht⟩) hS.2.2 dX2_copies_33
  refine lv_aload_n hx hb dX2_copies_9 rfl (lv_at hl 0 rfl) ?_
  refine lv_iconst (v := (nI (1))) hx hb dX2_copies_10 (by decide +kernel) ?_
  refine mo_V (wr := []) (As := [.int (nI (1))]) ⟨hx, hb, hml, hown, hts⟩ (kX2_fails l D cI ad th n B P bs s.heap.size 1 ) (cwV 1 hts gX2_copies_X2_fails rfl rfl rfl hdX2_fails ⟨Nat.le_of_ble_eq_true rfl, Nat.le_of_ble_eq_true rfl⟩) hK hP hD hS hA (ci := 4) rfl (q0 := 0) rfl rfl rfl hl.1 rfl (Nat.le_of_ble_eq_true rfl) dX2_copies_11 ⟨Nat.zero_le _, Nat.zero_le _⟩ (fun r_17 (u9 : Unit) H locs hw_17 hP hD hS => ?_)
  subst hw_17
  have hP : va_P D vwCl (wM cI ad 1 n B P bs) H := hP
  have hD : va_D A (wM cI ad 1 n B P bs) := hD
  have ew_18 : 1 = ((s_cop n B u w).1) := by first | rfl | (simp [oI_s, bI_t, bI_f, s_cop, s_ocode, c_1]; done) | (simp [oI_s, bI_t, bI_f, s_cop, s_ocode, c_1]; omega) | (simp only [s_cop, s_ocode]; (repeat' split) <;> first | rfl | omega | (simp_all; done) | (simp_all; omega))
  have hP : va_P D vwCl (wM cI ad ((s_cop n B u w).1) n B P bs) H := by rw [← ew_18]; exact hP
  have hD : va_D A (wM cI ad ((s_cop n B u w).1) n B P bs) := by rw [← ew_18]; exact hD
  exact W.iret (v := (nI (0))) hx hb hr (fun t ht hW => ⟨⟨_, (P, bs), rfl, (by first | rfl | (simp [oI_s, bI_t, bI_f, s_cop, s_ocode, c_1]; done) | (simp [oI_s, bI_t, bI_f, s_cop, s_ocode, c_1]; omega) | (simp only [s_cop, s_ocode]; (repeat' split) <;> first | rfl | omega | (simp_all; done) | (simp_all; omega))), by rw [ht]; exact hP, va_K.moved hW.alike hK, hD⟩, hS.F ht⟩) hS.2.2 dX2_copies_14
theorem hdX2_copies : yX2_copies.cls = RX2 ∧ yX2_copies.cls ≠ "java/lang/invoke/MethodHandle" ∧ yX2_copies.cls ≠ "java/lang/invoke/VarHandle" ∧ (parseMethodDescriptor yX2_copies.desc).map (fun d => d.parameters.length) = some 2 := by decide +kernel
set_option maxHeartbeats 4000000 in
set_option maxRecDepth 100000 in
theorem kX2_talkOf (l : Launch) (D : va_G) (cI : ClassId) (ad : Nat → Nat) (th : Nat) (n : Nat) (B : Nat → Nat → Nat) (P : Nat → Option Nat) (bs : Nat → Nat) (sz : Nat) (hB : Bok n B) : Met l yX2_talkOf wsX2_talkOf ({ frames := 4, cells := 0, slots := 0, locals := 96 }) (PcM D [(cI, .int)] (wM cI ad th n B P bs) sz [.ref (ad 0)]) (va_Qi (fun (r : Int32) (u9 : (Nat → Option Nat) × (Nat → Nat)) => r = (nI (s_tk n B))) (fun (u9 : (Nat → Option Nat) × (Nat → Nat)) t => AtW D [(cI, .int)] (va_A (wM cI ad th n B P bs) sz) (wM cI ad th n B u9.1 u9.2) t) (va_A (wM cI ad th n B P bs) sz)) 0 0 (va_A (wM cI ad th n B P bs) sz) := by
  refine Met.ofW (cc := cX2_talkOf) (maxL := 4) (ret := (some .int)) (by decide) rfl ?_
  intro p e s m args below meth c s₁ BL hml hv
  obtain ⟨rfl, hsz, hP, hK, hD0⟩ := hv
  have hx := BL.exec
  have hb := BL.bytes
  have hr := BL.returns
  have hts := atoms_spec (ws := wsX2_talkOf) BL.pre
  have hown : s.vm.findClass RX2 = some m.cls := findClass_of_methodNamed BL.named
  have hlocks := BL.notSynchronized
  have hin : ∀ w ∈ wsX20, w ∈ wsX2_talkOf := by decide +kernel
  have hf_22 := hts (.fieldLink RX2 22 "TalkRebuilderModel" "many" "[I") (by decide +kernel)
  have hf_41 := hts (.fieldLink RX2 41 "TalkRebuilderModel" "mails" "I") (by decide +kernel)
  have hl := lv_entry ([.ref (ad 0)]) (n := 4) (Nat.le_of_ble_eq_true rfl)
  rw [lg_entry_eq]
  generalize (lg_sl ([.ref (ad 0)]) ++ List.replicate (4 - (lg_sl ([.ref (ad 0)])).length) Slot.unset).toArray = ls at hl ⊢
  have hl : lv_has ls 4 [(0, .ref (ad 0))] := hl
  subst hsz
  have hD := hD0.self (sz := s.heap.size)
  generalize hAe : va_A (wM cI ad th n B P bs) s.heap.size = A at hD ⊢
  have hA : ∀ q : Nat, s.heap.size ≤ q → A q := fun q h => by rw [← hAe]; exact Or.inr h
  have hS : va_S A s.heap s.heap [] := va_S.rf
  have hP : va_P D vwCl (wM cI ad th n B P bs) s.heap := hP
  have hD : va_D A (wM cI ad th n B P bs) := hD
  have hn10 := hB.1
  refine lv_aload_n hx hb dX2_talkOf_0 rfl (lv_at hl 0 rfl) ?_
  refine mo_Vv (wr := []) (As := []) ⟨hx, hb, hml, hown, hts⟩ (kX2_alignsAll l D cI ad th n B P bs s.heap.size  hB) (cwV 0 hts gX2_talkOf_X2_alignsAll rfl rfl rfl hdX2_alignsAll ⟨Nat.le_of_ble_eq_true rfl, Nat.le_of_ble_eq_true rfl⟩) hK hP hD hS hA (ci := 4) rfl (q0 := 0) rfl rfl rfl hl.1 rfl (Nat.le_of_ble_eq_true rfl) dX2_talkOf_1 ⟨Nat.zero_le _, Nat.zero_le _⟩ (fun u_1 H locs hw_1 hP hD hS => ?_)
  obtain ⟨P_1, bs_1⟩ := u_1
  have hP : va_P D vwCl (wM cI ad th n B P_1 bs_1) H := hP
  have hD : va_D A (wM cI ad th n B P_1 bs_1) := hD
  have hPA := hw_1
  refine lv_iconst (v := (nI (0))) hx hb dX2_talkOf_4 (by decide +kernel) ?_
  refine lv_istore_n (lv' := [(1, .int (nI (0))), (0, .ref (ad 0))]) hx hb dX2_talkOf_5 rfl hl (by decide) rfl (fun ls hl => ?_)
  refine lv_iconst (v := (nI (0))) hx hb dX2_talkOf_6 (by decide +kernel) ?_
  refine lv_istore_n (lv' := [(2, .int (nI (0))), (1, .int (nI (0))), (0, .ref (ad 0))]) hx hb dX2_talkOf_7 rfl hl (by decide) rfl (fun ls hl => ?_)
  have loop_8 : ∀ (N : Nat) (z : Nat), n - z < N → (z ≤ n) → ∀ (H : Heap) (locs : List Loc), va_P D vwCl (wM cI ad th n B P_1 bs_1) H → va_D A (wM cI ad th n B P_1 bs_1) → va_S A s.heap H locs → ∀ (ls : Array Slot), lv_has ls 4 [(0, .ref (ad 0)), (1, .int (nI (sm (s_talk n B) (B 4) z))), (2, .int (nI (z)))] → W p l e (headSpec wsX2_talkOf ({ frames := 4, cells := 0, slots := 0, locals := 96 })).room s m ([.ref (ad 0)] : List Value).toArray below meth c H locs 0 0 (MQ below (va_Qi (fun (r : Int32) (u9 : (Nat → Option Nat) × (Nat → Nat)) => r = (nI (s_tk n B))) (fun (u9 : (Nat → Option Nat) × (Nat → Nat)) t => AtW D [(cI, .int)] A (wM cI ad th n B u9.1 u9.2) t) A) ([.ref (ad 0)] : List Value).toArray s 0 0 A) (F0 m 8 ls []) := by
    intro N
    induction N with
    | zero => intro z hmu; exact absurd hmu (Nat.not_lt_zero _)
    | succ N ih_8 =>
      intro z hmu_8 h_z H locs hP hD hS ls hl
      refine lv_iload_n hx hb dX2_talkOf_8 rfl (lv_at hl 2 rfl) ?_
      refine lv_aload_n hx hb dX2_talkOf_9 rfl (lv_at hl 0 rfl) ?_
      refine va_get (D := D) (ci := 4) (v := .int (nI (n))) (C := RX2) (T := TX2) (N := 11) hx hb hts hin hown hK hP 0 rfl rfl 1 (by decide) hf_41 (fun _ h9 => h9) rfl dX2_talkOf_10 ?_
      refine n_ge (tgt := 57) hx hb (by omega) (by omega) dX2_talkOf_13 (by decide) (fun c_2 => ?_) (fun c_2 => ?_)
      · have hzn : n = z := by omega
        refine lv_iload_n hx hb dX2_talkOf_57 rfl (lv_at hl 1 rfl) ?_
        exact W.iret (v := (nI (sm (s_talk n B) (B 4) z))) hx hb hr (fun t ht hW => ⟨⟨_, (P_1, bs_1), rfl, (by first | rfl | (simp [oI_s, bI_t, bI_f, s_tk, c_2, hzn, Nat.not_lt.mpr c_2]; done) | (simp [oI_s, bI_t, bI_f, s_tk, c_2, hzn, Nat.not_lt.mpr c_2]; omega) | (simp only [s_tk]; (repeat' split) <;> first | rfl | omega | (simp_all; done) | (simp_all; omega))), by rw [ht]; exact hP, va_K.moved hW.alike hK, hD⟩, hS.F ht⟩) hS.2.2 dX2_talkOf_58
      refine lv_iconst (v := (nI (0))) hx hb dX2_talkOf_16 (by decide +kernel) ?_
      refine lv_istore_n (lv' := [(3, .int (nI (0))), (0, .ref (ad 0)), (1, .int (nI (sm (s_talk n B) (B 4) z))), (2, .int (nI (z)))]) hx hb dX2_talkOf_17 rfl hl (by decide) rfl (fun ls hl => ?_)
      have loop_18 : ∀ (N : Nat) (y : Nat), B 4 z - y < N → (y ≤ B 4 z) → ∀ (H : Heap) (locs : List Loc), va_P D vwCl (wM cI ad th n B P_1 bs_1) H → va_D A (wM cI ad th n B P_1 bs_1) → va_S A s.heap H locs → ∀ (ls : Array Slot), lv_has ls 4 [(0, .ref (ad 0)), (1, .int (nI (sm (s_talk n B) (B 4) z + ct (s_talk n B z) y))), (2, .int (nI (z))), (3, .int (nI (y)))] → W p l e (headSpec wsX2_talkOf ({ frames := 4, cells := 0, slots := 0, locals := 96 })).room s m ([.ref (ad 0)] : List Value).toArray below meth c H locs 0 0 (MQ below (va_Qi (fun (r : Int32) (u9 : (Nat → Option Nat) × (Nat → Nat)) => r = (nI (s_tk n B))) (fun (u9 : (Nat → Option Nat) × (Nat → Nat)) t => AtW D [(cI, .int)] A (wM cI ad th n B u9.1 u9.2) t) A) ([.ref (ad 0)] : List Value).toArray s 0 0 A) (F0 m 18 ls []) := by
        intro N
        induction N with
        | zero => intro y hmu; exact absurd hmu (Nat.not_lt_zero _)
        | succ N ih_18 =>
          intro y hmu_18 h_y H locs hP hD hS ls hl
          refine lv_iload_n hx hb dX2_talkOf_18 rfl (lv_at hl 3 rfl) ?_
          refine lv_aload_n hx hb dX2_talkOf_19 rfl (lv_at hl 0 rfl) ?_
          refine va_get (D := D) (ci := 4) (v := .ref (ad 5)) (C := RX2) (T := TX2) (N := 11) hx hb hts hin hown hK hP 0 rfl rfl 6 (by decide) hf_22 (fun _ h9 => h9) rfl dX2_talkOf_20 ?_
          refine lv_iload_n hx hb dX2_talkOf_23 rfl (lv_at hl 2 rfl) ?_
          refine n_iald hx hb hK hP 5 0 rfl rfl (i := z) (by omega) (by decide) dX2_talkOf_24 ?_
          have hq_3 := hB.2.2.1 z
          refine n_ge (tgt := 51) hx hb (by omega) (by omega) dX2_talkOf_25 (by decide) (fun c_4 => ?_) (fun c_4 => ?_)
          · have hyk : B 4 z = y := by omega
            refine lv_iinc (v := (nI (z + 1))) (lv' := [(2, .int (nI (z + 1))), (0, .ref (ad 0)), (1, .int (nI (sm (s_talk n B) (B 4) z + ct (s_talk n B z) y))), (3, .int (nI (y)))]) hx hb dX2_talkOf_51 hl (k := 2) rfl (nI_1 _) (by decide) rfl (fun ls hl => ?_)
            refine lv_goto (tgt := 8) hx hb dX2_talkOf_54 (by decide) ?_
            have e_5 : ((nI (sm (s_talk n B) (B 4) z + ct (s_talk n B z) y)) : Int32) = (nI (sm (s_talk n B) (B 4) (z + 1))) := by first | rfl | (simp [oI_s, bI_t, bI_f, sm, c_2, c_4, hyk, Nat.not_le.mp c_2, Nat.not_lt.mpr c_4]; done) | (simp [oI_s, bI_t, bI_f, sm, c_2, c_4, hyk, Nat.not_le.mp c_2, Nat.not_lt.mpr c_4]; omega) | (simp only [sm]; (repeat' split) <;> first | rfl | omega | (simp_all; done) | (simp_all; omega))
            exact ih_8 (z + 1) (by omega) (by omega) _ _ hP hD hS _ (show lv_has ls 4 [(0, .ref (ad 0)), (1, .int (nI (sm (s_talk n B) (B 4) (z + 1)))), (2, .int (nI (z + 1)))] from by rw [← e_5]; exact lv_sub hl [1, 2, 0] rfl)
          refine lv_iload_n hx hb dX2_talkOf_28 rfl (lv_at hl 1 rfl) ?_
          refine lv_aload_n hx hb dX2_talkOf_29 rfl (lv_at hl 0 rfl) ?_
          refine lv_iload_n hx hb dX2_talkOf_30 rfl (lv_at hl 2 rfl) ?_
          refine lv_iload_n hx hb dX2_talkOf_31 rfl (lv_at hl 3 rfl) ?_
          refine ro_V (As := [.int (nI (z)), .int (nI (y))]) (v := (bI (s_talk n B z y))) ⟨hx, hb, hml, hown, hts⟩ (kX2_isTalk l D cI ad th n B P_1 bs_1 z y hB hPA (by omega) (by omega)) (cwV 2 hts gX2_talkOf_X2_isTalk rfl rfl rfl hdX2_isTalk ⟨Nat.le_of_ble_eq_true rfl, Nat.le_of_ble_eq_true rfl⟩) hK hP (ci := 4) rfl (q0 := 0) rfl rfl rfl hl.1 rfl (Nat.le_of_ble_eq_true rfl) dX2_talkOf_32 ⟨Nat.zero_le _, Nat.zero_le _⟩ ?_
          refine y_eq (tgt := 42) hx hb dX2_talkOf_35 (by decide) (fun c_6 => ?_) (fun c_6 => ?_)
          · refine lv_iconst (v := (nI (0))) hx hb dX2_talkOf_42 (by decide +kernel) ?_
            refine lv_iadd hx hb dX2_talkOf_43 ?_
            refine n_top (y := (nI (sm (s_talk n B) (B 4) z + ct (s_talk n B z) y + 0))) (nI_add _ _) ?_
            refine lv_istore_n (lv' := [(1, .int (nI (sm (s_talk n B) (B 4) z + ct (s_talk n B z) y + 0))), (0, .ref (ad 0)), (2, .int (nI (z))), (3, .int (nI (y)))]) hx hb dX2_talkOf_44 rfl hl (by decide) rfl (fun ls hl => ?_)
            refine lv_iinc (v := (nI (y + 1))) (lv' := [(3, .int (nI (y + 1))), (1, .int (nI (sm (s_talk n B) (B 4) z + ct (s_talk n B z) y + 0))), (0, .ref (ad 0)), (2, .int (nI (z)))]) hx hb dX2_talkOf_45 hl (k := 3) rfl (nI_1 _) (by decide) rfl (fun ls hl => ?_)
            refine lv_goto (tgt := 18) hx hb dX2_talkOf_48 (by decide) ?_
            have e_7 : ((nI (sm (s_talk n B) (B 4) z + ct (s_talk n B z) y + 0)) : Int32) = (nI (sm (s_talk n B) (B 4) z + ct (s_talk n B z) (y + 1))) := by first | rfl | (simp [oI_s, bI_t, bI_f, ct, c_2, c_4, c_6, Nat.not_le.mp c_2, Nat.not_le.mp c_4]; done) | (simp [oI_s, bI_t, bI_f, ct, c_2, c_4, c_6, Nat.not_le.mp c_2, Nat.not_le.mp c_4]; omega) | (simp only [ct]; (repeat' split) <;> first | rfl | omega | (simp_all; done) | (simp_all; omega))
            exact ih_18 (y + 1) (by omega) (by omega) _ _ hP hD hS _ (show lv_has ls 4 [(0, .ref (ad 0)), (1, .int (nI (sm (s_talk n B) (B 4) z + ct (s_talk n B z) (y + 1)))), (2, .int (nI (z))), (3, .int (nI (y + 1)))] from by rw [← e_7]; exact lv_sub hl [2, 1, 3, 0] rfl)
          refine lv_iconst (v := (nI (1))) hx hb dX2_talkOf_38 (by decide +kernel) ?_
          refine lv_goto (tgt := 43) hx hb dX2_talkOf_39 (by decide) ?_
          refine lv_iadd hx hb dX2_talkOf_43 ?_
          refine n_top (y := (nI (sm (s_talk n B) (B 4) z + ct (s_talk n B z) y + 1))) (nI_add _ _) ?_
          refine lv_istore_n (lv' := [(1, .int (nI (sm (s_talk n B) (B 4) z + ct (s_talk n B z) y + 1))), (0, .ref (ad 0)), (2, .int (nI (z))), (3, .int (nI (y)))]) hx hb dX2_talkOf_44 rfl hl (by decide) rfl (fun ls hl => ?_)
          refine lv_iinc (v := (nI (y + 1))) (lv' := [(3, .int (nI (y + 1))), (1, .int (nI (sm (s_talk n B) (B 4) z + ct (s_talk n B z) y + 1))), (0, .ref (ad 0)), (2, .int (nI (z)))]) hx hb dX2_talkOf_45 hl (k := 3) rfl (nI_1 _) (by decide) rfl (fun ls hl => ?_)
          refine lv_goto (tgt := 18) hx hb dX2_talkOf_48 (by decide) ?_
          have e_8 : ((nI (sm (s_talk n B) (B 4) z + ct (s_talk n B z) y + 1)) : Int32) = (nI (sm (s_talk n B) (B 4) z + ct (s_talk n B z) (y + 1))) := by first | rfl | (simp [oI_s, bI_t, bI_f, ct, c_2, c_4, c_6, Nat.not_le.mp c_2, Nat.not_le.mp c_4]; done) | (simp [oI_s, bI_t, bI_f, ct, c_2, c_4, c_6, Nat.not_le.mp c_2, Nat.not_le.mp c_4]; omega) | (simp only [ct]; (repeat' split) <;> first | rfl | omega | (simp_all; done) | (simp_all; omega))
          exact ih_18 (y + 1) (by omega) (by omega) _ _ hP hD hS _ (show lv_has ls 4 [(0, .ref (ad 0)), (1, .int (nI (sm (s_talk n B) (B 4) z + ct (s_talk n B z) (y + 1)))), (2, .int (nI (z))), (3, .int (nI (y + 1)))] from by rw [← e_8]; exact lv_sub hl [2, 1, 3, 0] rfl)
      have e_9 : ((nI (sm (s_talk n B) (B 4) z)) : Int32) = (nI (sm (s_talk n B) (B 4) z + ct (s_talk n B z) 0)) := by simp [ct]
      exact loop_18 (B 4 z - 0 + 1) 0 (by omega) (by omega) _ _ hP hD hS _ (show lv_has ls 4 [(0, .ref (ad 0)), (1, .int (nI (sm (s_talk n B) (B 4) z + ct (s_talk n B z) 0))), (2, .int (nI (z))), (3, .int (nI (0)))] from by rw [← e_9]; exact lv_sub hl [1, 2, 3, 0] rfl)
  have e_10 : ((nI (0)) : Int32) = (nI (sm (s_talk n B) (B 4) 0)) := by first | rfl | (simp [oI_s, bI_t, bI_f, sm]; done) | (simp [oI_s, bI_t, bI_f, sm]; omega) | (simp only [sm]; (repeat' split) <;> first | rfl | omega | (simp_all; done) | (simp_all; omega))
  exact loop_8 (n - 0 + 1) 0 (by omega) (by omega) _ _ hP hD hS _ (show lv_has ls 4 [(0, .ref (ad 0)), (1, .int (nI (sm (s_talk n B) (B 4) 0))), (2, .int (nI (0)))] from by rw [← e_10]; exact lv_sub hl [2, 1, 0] rfl)
theorem hdX2_talkOf : yX2_talkOf.cls = RX2 ∧ yX2_talkOf.cls ≠ "java/lang/invoke/MethodHandle" ∧ yX2_talkOf.cls ≠ "java/lang/invoke/VarHandle" ∧ (parseMethodDescriptor yX2_talkOf.desc).map (fun d => d.parameters.length) = some 0 := by decide +kernel
set_option maxHeartbeats 4000000 in
set_option maxRecDepth 100000 in
theorem kX2_talk (l : Launch) (D : va_G) (cI : ClassId) (ad : Nat → Nat) (th : Nat) (n : Nat) (B : Nat → Nat → Nat) (P : Nat → Option Nat) (bs : Nat → Nat) (sz : Nat) (hB : Bok n B) : Met l yX2_talk wsX2_talk ({ frames := 5, cells := 0, slots := 0, locals := 119 }) (PcM D [(cI, .int)] (wM cI ad th n B P bs) sz [.ref (ad 0)]) (va_Qi (fun (r : Int32) (u9 : (Nat → Option Nat) × (Nat → Nat)) => r = (nI (s_tk n B))) (fun (u9 : (Nat → Option Nat) × (Nat → Nat)) t => AtW D [(cI, .int)] (va_A (wM cI ad th n B P bs) sz) (wM cI ad 0 n B u9.1 u9.2) t) (va_A (wM cI ad th n B P bs) sz)) 0 0 (va_A (wM cI ad th n B P bs) sz) := by
  refine Met.ofW (cc := cX2_talk) (maxL := 1) (ret := (some .int)) (by decide) rfl ?_
  intro p e s m args below meth c s₁ BL hml hv
  obtain ⟨rfl, hsz, hP, hK, hD0⟩ := hv
  have hx := BL.exec
  have hb := BL.bytes
  have hr := BL.returns
  have hts := atoms_spec (ws := wsX2_talk) BL.pre
  have hown : s.vm.findClass RX2 = some m.cls := findClass_of_methodNamed BL.named
  have hlocks := BL.notSynchronized
  have hl := lv_entry ([.ref (ad 0)]) (n := 1) (Nat.le_of_ble_eq_true rfl)
  rw [lg_entry_eq]
  generalize (lg_sl ([.ref (ad 0)]) ++ List.replicate (1 - (lg_sl ([.ref (ad 0)])).length) Slot.unset).toArray = ls at hl ⊢
  have hl : lv_has ls 1 [(0, .ref (ad 0))] := hl
  subst hsz
  have hD := hD0.self (sz := s.heap.size)
  generalize hAe : va_A (wM cI ad th n B P bs) s.heap.size = A at hD ⊢
  have hA : ∀ q : Nat, s.heap.size ≤ q → A q := fun q h => by rw [← hAe]; exact Or.inr h
  have hS : va_S A s.heap s.heap [] := va_S.rf
  have hP : va_P D vwCl (wM cI ad th n B P bs) s.heap := hP
  have hD : va_D A (wM cI ad th n B P bs) := hD
  have hn10 := hB.1
  refine lv_aload_n hx hb dX2_talk_0 rfl (lv_at hl 0 rfl) ?_
  refine lv_aload_n hx hb dX2_talk_1 rfl (lv_at hl 0 rfl) ?_
  refine mo_V (wr := []) (As := []) ⟨hx, hb, hml, hown, hts⟩ (kX2_talkOf l D cI ad th n B P bs s.heap.size  hB) (cwV 0 hts gX2_talk_X2_talkOf rfl rfl rfl hdX2_talkOf ⟨Nat.le_of_ble_eq_true rfl, Nat.le_of_ble_eq_true rfl⟩) hK hP hD hS hA (ci := 4) rfl (q0 := 0) rfl rfl rfl hl.1 rfl (Nat.le_of_ble_eq_true rfl) dX2_talk_2 ⟨Nat.zero_le _, Nat.zero_le _⟩ (fun r_1 u_1 H locs hw_1 hP hD hS => ?_)
  obtain ⟨P_1, bs_1⟩ := u_1
  subst hw_1
  have hP : va_P D vwCl (wM cI ad th n B P_1 bs_1) H := hP
  have hD : va_D A (wM cI ad th n B P_1 bs_1) := hD
  refine mo_V (wr := []) (As := [.int (nI (s_tk n B))]) ⟨hx, hb, hml, hown, hts⟩ (kX2_tells l D cI ad th n B P_1 bs_1 H.size (nI (s_tk n B)) ) (cwV 1 hts gX2_talk_X2_tells rfl rfl rfl hdX2_tells ⟨Nat.le_of_ble_eq_true rfl, Nat.le_of_ble_eq_true rfl⟩) hK hP hD hS hA (ci := 4) rfl (q0 := 0) rfl rfl rfl hl.1 rfl (Nat.le_of_ble_eq_true rfl) dX2_talk_5 ⟨Nat.zero_le _, Nat.zero_le _⟩ (fun r_2 (u9 : Unit) H locs hw_2 hP hD hS => ?_)
  subst hw_2
  have hP : va_P D vwCl (wM cI ad 0 n B P_1 bs_1) H := hP
  have hD : va_D A (wM cI ad 0 n B P_1 bs_1) := hD
  exact W.iret (v := (nI (s_tk n B))) hx hb hr (fun t ht hW => ⟨⟨_, (P_1, bs_1), rfl, rfl, by rw [ht]; exact hP, va_K.moved hW.alike hK, hD⟩, hS.F ht⟩) hS.2.2 dX2_talk_8
theorem hdX2_talk : yX2_talk.cls = RX2 ∧ yX2_talk.cls ≠ "java/lang/invoke/MethodHandle" ∧ yX2_talk.cls ≠ "java/lang/invoke/VarHandle" ∧ (parseMethodDescriptor yX2_talk.desc).map (fun d => d.parameters.length) = some 0 := by decide +kernel
set_option maxHeartbeats 4000000 in
set_option maxRecDepth 100000 in
theorem kX2_talkByOrigins (l : Launch) (D : va_G) (cI : ClassId) (ad : Nat → Nat) (th : Nat) (n : Nat) (B : Nat → Nat → Nat) (P : Nat → Option Nat) (bs : Nat → Nat) (sz : Nat) (hB : Bok n B) : Met l yX2_talkByOrigins wsX2_talkByOrigins ({ frames := 5, cells := 0, slots := 0, locals := 119 }) (PcM D [(cI, .int)] (wM cI ad th n B P bs) sz [.ref (ad 0)]) (va_Qi (fun (r : Int32) (u9 : (Nat → Option Nat) × (Nat → Nat)) => r = (nI (s_tk n B))) (fun (u9 : (Nat → Option Nat) × (Nat → Nat)) t => AtW D [(cI, .int)] (va_A (wM cI ad th n B P bs) sz) (wM cI ad 0 n B u9.1 u9.2) t) (va_A (wM cI ad th n B P bs) sz)) 0 0 (va_A (wM cI ad th n B P bs) sz) := by
  refine Met.ofW (cc := cX2_talkByOrigins) (maxL := 1) (ret := (some .int)) (by decide) rfl ?_
  intro p e s m args below meth c s₁ BL hml hv
  obtain ⟨rfl, hsz, hP, hK, hD0⟩ := hv
  have hx := BL.exec
  have hb := BL.bytes
  have hr := BL.returns
  have hts := atoms_spec (ws := wsX2_talkByOrigins) BL.pre
  have hown : s.vm.findClass RX2 = some m.cls := findClass_of_methodNamed BL.named
  have hlocks := BL.notSynchronized
  have hl := lv_entry ([.ref (ad 0)]) (n := 1) (Nat.le_of_ble_eq_true rfl)
  rw [lg_entry_eq]
  generalize (lg_sl ([.ref (ad 0)]) ++ List.replicate (1 - (lg_sl ([.ref (ad 0)])).length) Slot.unset).toArray = ls at hl ⊢
  have hl : lv_has ls 1 [(0, .ref (ad 0))] := hl
  subst hsz
  have hD := hD0.self (sz := s.heap.size)
  generalize hAe : va_A (wM cI ad th n B P bs) s.heap.size = A at hD ⊢
  have hA : ∀ q : Nat, s.heap.size ≤ q → A q := fun q h => by rw [← hAe]; exact Or.inr h
  have hS : va_S A s.heap s.heap [] := va_S.rf
  have hP : va_P D vwCl (wM cI ad th n B P bs) s.heap := hP
  have hD : va_D A (wM cI ad th n B P bs) := hD
  have hn10 := hB.1
  refine lv_aload_n hx hb dX2_talkByOrigins_0 rfl (lv_at hl 0 rfl) ?_
  refine lv_aload_n hx hb dX2_talkByOrigins_1 rfl (lv_at hl 0 rfl) ?_
  refine mo_V (wr := []) (As := []) ⟨hx, hb, hml, hown, hts⟩ (kX2_talkOf l D cI ad th n B P bs s.heap.size  hB) (cwV 0 hts gX2_talkByOrigins_X2_talkOf rfl rfl rfl hdX2_talkOf ⟨Nat.le_of_ble_eq_true rfl, Nat.le_of_ble_eq_true rfl⟩) hK hP hD hS hA (ci := 4) rfl (q0 := 0) rfl rfl rfl hl.1 rfl (Nat.le_of_ble_eq_true rfl) dX2_talkByOrigins_2 ⟨Nat.zero_le _, Nat.zero_le _⟩ (fun r_1 u_1 H locs hw_1 hP hD hS => ?_)
  obtain ⟨P_1, bs_1⟩ := u_1
  subst hw_1
  have hP : va_P D vwCl (wM cI ad th n B P_1 bs_1) H := hP
  have hD : va_D A (wM cI ad th n B P_1 bs_1) := hD
  refine mo_V (wr := []) (As := [.int (nI (s_tk n B))]) ⟨hx, hb, hml, hown, hts⟩ (kX2_tells l D cI ad th n B P_1 bs_1 H.size (nI (s_tk n B)) ) (cwV 1 hts gX2_talkByOrigins_X2_tells rfl rfl rfl hdX2_tells ⟨Nat.le_of_ble_eq_true rfl, Nat.le_of_ble_eq_true rfl⟩) hK hP hD hS hA (ci := 4) rfl (q0 := 0) rfl rfl rfl hl.1 rfl (Nat.le_of_ble_eq_true rfl) dX2_talkByOrigins_5 ⟨Nat.zero_le _, Nat.zero_le _⟩ (fun r_2 (u9 : Unit) H locs hw_2 hP hD hS => ?_)
  subst hw_2
  have hP : va_P D vwCl (wM cI ad 0 n B P_1 bs_1) H := hP
  have hD : va_D A (wM cI ad 0 n B P_1 bs_1) := hD
  exact W.iret (v := (nI (s_tk n B))) hx hb hr (fun t ht hW => ⟨⟨_, (P_1, bs_1), rfl, rfl, by rw [ht]; exact hP, va_K.moved hW.alike hK, hD⟩, hS.F ht⟩) hS.2.2 dX2_talkByOrigins_8
theorem hdX2_talkByOrigins : yX2_talkByOrigins.cls = RX2 ∧ yX2_talkByOrigins.cls ≠ "java/lang/invoke/MethodHandle" ∧ yX2_talkByOrigins.cls ≠ "java/lang/invoke/VarHandle" ∧ (parseMethodDescriptor yX2_talkByOrigins.desc).map (fun d => d.parameters.length) = some 0 := by decide +kernel
set_option maxHeartbeats 4000000 in
set_option maxRecDepth 100000 in
theorem kX2_root (l : Launch) (D : va_G) (cI : ClassId) (ad : Nat → Nat) (th : Nat) (n : Nat) (B : Nat → Nat → Nat) (P : Nat → Option Nat) (bs : Nat → Nat) (sz : Nat) (u : Int32) (hB : Bok n B) : Met l yX2_root wsX2_root ({ frames := 3, cells := 0, slots := 0, locals := 66 }) (PcM D [(cI, .int)] (wM cI ad th n B P bs) sz [.ref (ad 0), .int (u)]) (va_Qi (fun (r : Int32) (u9 : Unit) => r = (nI ((s_rtc n B u).2))) (fun (u9 : Unit) t => AtW D [(cI, .int)] (va_A (wM cI ad th n B P bs) sz) (wM cI ad ((s_rtc n B u).1) n B P bs) t) (va_A (wM cI ad th n B P bs) sz)) 0 0 (va_A (wM cI ad th n B P bs) sz) := by
  refine Met.ofW (cc := cX2_root) (maxL := 2) (ret := (some .int)) (by decide) rfl ?_
  intro p e s m args below meth c s₁ BL hml hv
  obtain ⟨rfl, hsz, hP, hK, hD0⟩ := hv
  have hx := BL.exec
  have hb := BL.bytes
  have hr := BL.returns
  have hts := atoms_spec (ws := wsX2_root) BL.pre
  have hown : s.vm.findClass RX2 = some m.cls := findClass_of_methodNamed BL.named
  have hlocks := BL.notSynchronized
  have hl := lv_entry ([.ref (ad 0), .int (u)]) (n := 2) (Nat.le_of_ble_eq_true rfl)
  rw [lg_entry_eq]
  generalize (lg_sl ([.ref (ad 0), .int (u)]) ++ List.replicate (2 - (lg_sl ([.ref (ad 0), .int (u)])).length) Slot.unset).toArray = ls at hl ⊢
  have hl : lv_has ls 2 [(0, .ref (ad 0)), (1, .int (u))] := hl
  subst hsz
  have hD := hD0.self (sz := s.heap.size)
  generalize hAe : va_A (wM cI ad th n B P bs) s.heap.size = A at hD ⊢
  have hA : ∀ q : Nat, s.heap.size ≤ q → A q := fun q h => by rw [← hAe]; exact Or.inr h
  have hS : va_S A s.heap s.heap [] := va_S.rf
  have hP : va_P D vwCl (wM cI ad th n B P bs) s.heap := hP
  have hD : va_D A (wM cI ad th n B P bs) := hD
  have hn10 := hB.1
  refine lv_aload_n hx hb dX2_root_0 rfl (lv_at hl 0 rfl) ?_
  refine lv_iload_n hx hb dX2_root_1 rfl (lv_at hl 1 rfl) ?_
  refine ro_V (As := [.int (u)]) (v := (bI (s_ism n u))) ⟨hx, hb, hml, hown, hts⟩ (kX2_isMail l D cI ad th n B P bs (u) hB) (cwV 1 hts gX2_root_X2_isMail rfl rfl rfl hdX2_isMail ⟨Nat.le_of_ble_eq_true rfl, Nat.le_of_ble_eq_true rfl⟩) hK hP (ci := 4) rfl (q0 := 0) rfl rfl rfl hl.1 rfl (Nat.le_of_ble_eq_true rfl) dX2_root_2 ⟨Nat.zero_le _, Nat.zero_le _⟩ ?_
  refine y_eq (tgt := 20) hx hb dX2_root_5 (by decide) (fun c_1 => ?_) (fun c_1 => ?_)
  · refine lv_aload_n hx hb dX2_root_20 rfl (lv_at hl 0 rfl) ?_
    refine lv_iconst (v := (nI (1))) hx hb dX2_root_21 (by decide +kernel) ?_
    refine mo_V (wr := []) (As := [.int (nI (1))]) ⟨hx, hb, hml, hown, hts⟩ (kX2_fails l D cI ad th n B P bs s.heap.size 1 ) (cwV 1 hts gX2_root_X2_fails rfl rfl rfl hdX2_fails ⟨Nat.le_of_ble_eq_true rfl, Nat.le_of_ble_eq_true rfl⟩) hK hP hD hS hA (ci := 4) rfl (q0 := 0) rfl rfl rfl hl.1 rfl (Nat.le_of_ble_eq_true rfl) dX2_root_22 ⟨Nat.zero_le _, Nat.zero_le _⟩ (fun r_2 (u9 : Unit) H locs hw_2 hP hD hS => ?_)
    subst hw_2
    have hP : va_P D vwCl (wM cI ad 1 n B P bs) H := hP
    have hD : va_D A (wM cI ad 1 n B P bs) := hD
    have ew_3 : 1 = ((s_rtc n B u).1) := by first | rfl | (simp [oI_s, bI_t, bI_f, s_rtc, s_ocode, c_1]; done) | (simp [oI_s, bI_t, bI_f, s_rtc, s_ocode, c_1]; omega) | (simp only [s_rtc, s_ocode]; (repeat' split) <;> first | rfl | omega | (simp_all; done) | (simp_all; omega))
    have hP : va_P D vwCl (wM cI ad ((s_rtc n B u).1) n B P bs) H := by rw [← ew_3]; exact hP
    have hD : va_D A (wM cI ad ((s_rtc n B u).1) n B P bs) := by rw [← ew_3]; exact hD
    exact W.iret (v := (nI (0))) hx hb hr (fun t ht hW => ⟨⟨_, (), rfl, (by first | rfl | (simp [oI_s, bI_t, bI_f, s_rtc, s_ocode, c_1]; done) | (simp [oI_s, bI_t, bI_f, s_rtc, s_ocode, c_1]; omega) | (simp only [s_rtc, s_ocode]; (repeat' split) <;> first | rfl | omega | (simp_all; done) | (simp_all; omega))), by rw [ht]; exact hP, va_K.moved hW.alike hK, hD⟩, hS.F ht⟩) hS.2.2 dX2_root_25
  obtain ⟨k_u, hk_u, rfl⟩ := s_ism_t hB.1 c_1
  have hc_k_u : (nI k_u).toNatClampNeg = k_u := nI_clamp (by omega)
  refine lv_aload_n hx hb dX2_root_8 rfl (lv_at hl 0 rfl) ?_
  refine lv_aload_n hx hb dX2_root_9 rfl (lv_at hl 0 rfl) ?_
  refine lv_iload_n hx hb dX2_root_10 rfl (lv_at hl 1 rfl) ?_
  refine ro_V (As := [.int (nI (k_u))]) (v := (nI (s_root n B k_u))) ⟨hx, hb, hml, hown, hts⟩ (kX2_rootOf l D cI ad th n B P bs k_u hB (by omega)) (cwV 1 hts gX2_root_X2_rootOf rfl rfl rfl hdX2_rootOf ⟨Nat.le_of_ble_eq_true rfl, Nat.le_of_ble_eq_true rfl⟩) hK hP (ci := 4) rfl (q0 := 0) rfl rfl rfl hl.1 rfl (Nat.le_of_ble_eq_true rfl) dX2_root_11 ⟨Nat.zero_le _, Nat.zero_le _⟩ ?_
  refine mo_V (wr := []) (As := [.int (nI (s_root n B k_u))]) ⟨hx, hb, hml, hown, hts⟩ (kX2_tells l D cI ad th n B P bs s.heap.size (nI (s_root n B k_u)) ) (cwV 1 hts gX2_root_X2_tells rfl rfl rfl hdX2_tells ⟨Nat.le_of_ble_eq_true rfl, Nat.le_of_ble_eq_true rfl⟩) hK hP hD hS hA (ci := 4) rfl (q0 := 0) rfl rfl rfl hl.1 rfl (Nat.le_of_ble_eq_true rfl) dX2_root_14 ⟨Nat.zero_le _, Nat.zero_le _⟩ (fun r_4 (u9 : Unit) H locs hw_4 hP hD hS => ?_)
  subst hw_4
  have hP : va_P D vwCl (wM cI ad 0 n B P bs) H := hP
  have hD : va_D A (wM cI ad 0 n B P bs) := hD
  refine lv_goto (tgt := 25) hx hb dX2_root_17 (by decide) ?_
  have ew_5 : 0 = ((s_rtc n B (nI k_u)).1) := by first | rfl | (simp [oI_s, bI_t, bI_f, s_rtc, s_ocode, c_1, hc_k_u]; done) | (simp [oI_s, bI_t, bI_f, s_rtc, s_ocode, c_1, hc_k_u]; omega) | (simp only [s_rtc, s_ocode]; (repeat' split) <;> first | rfl | omega | (simp_all; done) | (simp_all; omega))
  have hP : va_P D vwCl (wM cI ad ((s_rtc n B (nI k_u)).1) n B P bs) H := by rw [← ew_5]; exact hP
  have hD : va_D A (wM cI ad ((s_rtc n B (nI k_u)).1) n B P bs) := by rw [← ew_5]; exact hD
  exact W.iret (v := (nI (s_root n B k_u))) hx hb hr (fun t ht hW => ⟨⟨_, (), rfl, (by first | rfl | (simp [oI_s, bI_t, bI_f, s_rtc, s_ocode, c_1, hc_k_u]; done) | (simp [oI_s, bI_t, bI_f, s_rtc, s_ocode, c_1, hc_k_u]; omega) | (simp only [s_rtc, s_ocode]; (repeat' split) <;> first | rfl | omega | (simp_all; done) | (simp_all; omega))), by rw [ht]; exact hP, va_K.moved hW.alike hK, hD⟩, hS.F ht⟩) hS.2.2 dX2_root_25
theorem hdX2_root : yX2_root.cls = RX2 ∧ yX2_root.cls ≠ "java/lang/invoke/MethodHandle" ∧ yX2_root.cls ≠ "java/lang/invoke/VarHandle" ∧ (parseMethodDescriptor yX2_root.desc).map (fun d => d.parameters.length) = some 1 := by decide +kernel
set_option maxHeartbeats 4000000 in
set_option maxRecDepth 100000 in
theorem kX2_rootByRounds (l : Launch) (D : va_G) (cI : ClassId) (ad : Nat → Nat) (th : Nat) (n : Nat) (B : Nat → Nat → Nat) (P : Nat → Option Nat) (bs : Nat → Nat) (sz : Nat) (u : Int32) (hB : Bok n B) : Met l yX2_rootByRounds wsX2_rootByRounds ({ frames := 3, cells := 0, slots := 0, locals := 66 }) (PcM D [(cI, .int)] (wM cI ad th n B P bs) sz [.ref (ad 0), .int (u)]) (va_Qi (fun (r : Int32) (u9 : Unit) => r = (nI ((s_rtc n B u).2))) (fun (u9 : Unit) t => AtW D [(cI, .int)] (va_A (wM cI ad th n B P bs) sz) (wM cI ad ((s_rtc n B u).1) n B P bs) t) (va_A (wM cI ad th n B P bs) sz)) 0 0 (va_A (wM cI ad th n B P bs) sz) := by
  refine Met.ofW (cc := cX2_rootByRounds) (maxL := 2) (ret := (some .int)) (by decide) rfl ?_
  intro p e s m args below meth c s₁ BL hml hv
  obtain ⟨rfl, hsz, hP, hK, hD0⟩ := hv
  have hx := BL.exec
  have hb := BL.bytes
  have hr := BL.returns
  have hts := atoms_spec (ws := wsX2_rootByRounds) BL.pre
  have hown : s.vm.findClass RX2 = some m.cls := findClass_of_methodNamed BL.named
  have hlocks := BL.notSynchronized
  have hl := lv_entry ([.ref (ad 0), .int (u)]) (n := 2) (Nat.le_of_ble_eq_true rfl)
  rw [lg_entry_eq]
  generalize (lg_sl ([.ref (ad 0), .int (u)]) ++ List.replicate (2 - (lg_sl ([.ref (ad 0), .int (u)])).length) Slot.unset).toArray = ls at hl ⊢
  have hl : lv_has ls 2 [(0, .ref (ad 0)), (1, .int (u))] := hl
  subst hsz
  have hD := hD0.self (sz := s.heap.size)
  generalize hAe : va_A (wM cI ad th n B P bs) s.heap.size = A at hD ⊢
  have hA : ∀ q : Nat, s.heap.size ≤ q → A q := fun q h => by rw [← hAe]; exact Or.inr h
  have hS : va_S A s.heap s.heap [] := va_S.rf
  have hP : va_P D vwCl (wM cI ad th n B P bs) s.heap := hP
  have hD : va_D A (wM cI ad th n B P bs) := hD
  have hn10 := hB.1
  refine lv_aload_n hx hb dX2_rootByRounds_0 rfl (lv_at hl 0 rfl) ?_
  refine lv_iload_n hx hb dX2_rootByRounds_1 rfl (lv_at hl 1 rfl) ?_
  refine ro_V (As := [.int (u)]) (v := (bI (s_ism n u))) ⟨hx, hb, hml, hown, hts⟩ (kX2_isMail l D cI ad th n B P bs (u) hB) (cwV 1 hts gX2_rootByRounds_X2_isMail rfl rfl rfl hdX2_isMail ⟨Nat.le_of_ble_eq_true rfl, Nat.le_of_ble_eq_true rfl⟩) hK hP (ci := 4) rfl (q0 := 0) rfl rfl rfl hl.1 rfl (Nat.le_of_ble_eq_true rfl) dX2_rootByRounds_2 ⟨Nat.zero_le _, Nat.zero_le _⟩ ?_
  refine y_eq (tgt := 20) hx hb dX2_rootByRounds_5 (by decide) (fun c_1 => ?_) (fun c_1 => ?_)
  · refine lv_aload_n hx hb dX2_rootByRounds_20 rfl (lv_at hl 0 rfl) ?_
    refine lv_iconst (v := (nI (1))) hx hb dX2_rootByRounds_21 (by decide +kernel) ?_
    refine mo_V (wr := []) (As := [.int (nI (1))]) ⟨hx, hb, hml, hown, hts⟩ (kX2_fails l D cI ad th n B P bs s.heap.size 1 ) (cwV 1 hts gX2_rootByRounds_X2_fails rfl rfl rfl hdX2_fails ⟨Nat.le_of_ble_eq_true rfl, Nat.le_of_ble_eq_true rfl⟩) hK hP hD hS hA (ci := 4) rfl (q0 := 0) rfl rfl rfl hl.1 rfl (Nat.le_of_ble_eq_true rfl) dX2_rootByRounds_22 ⟨Nat.zero_le _, Nat.zero_le _⟩ (fun r_2 (u9 : Unit) H locs hw_2 hP hD hS => ?_)
    subst hw_2
    have hP : va_P D vwCl (wM cI ad 1 n B P bs) H := hP
    have hD : va_D A (wM cI ad 1 n B P bs) := hD
    have ew_3 : 1 = ((s_rtc n B u).1) := by first | rfl | (simp [oI_s, bI_t, bI_f, s_rtc, s_ocode, c_1]; done) | (simp [oI_s, bI_t, bI_f, s_rtc, s_ocode, c_1]; omega) | (simp only [s_rtc, s_ocode]; (repeat' split) <;> first | rfl | omega | (simp_all; done) | (simp_all; omega))
    have hP : va_P D vwCl (wM cI ad ((s_rtc n B u).1) n B P bs) H := by rw [← ew_3]; exact hP
    have hD : va_D A (wM cI ad ((s_rtc n B u).1) n B P bs) := by rw [← ew_3]; exact hD
    exact W.iret (v := (nI (0))) hx hb hr (fun t ht hW => ⟨⟨_, (), rfl, (by first | rfl | (simp [oI_s, bI_t, bI_f, s_rtc, s_ocode, c_1]; done) | (simp [oI_s, bI_t, bI_f, s_rtc, s_ocode, c_1]; omega) | (simp only [s_rtc, s_ocode]; (repeat' split) <;> first | rfl | omega | (simp_all; done) | (simp_all; omega))), by rw [ht]; exact hP, va_K.moved hW.alike hK, hD⟩, hS.F ht⟩) hS.2.2 dX2_rootByRounds_25
  obtain ⟨k_u, hk_u, rfl⟩ := s_ism_t hB.1 c_1
  have hc_k_u : (nI k_u).toNatClampNeg = k_u := nI_clamp (by omega)
  refine lv_aload_n hx hb dX2_rootByRounds_8 rfl (lv_at hl 0 rfl) ?_
  refine lv_aload_n hx hb dX2_rootByRounds_9 rfl (lv_at hl 0 rfl) ?_
  refine lv_iload_n hx hb dX2_rootByRounds_10 rfl (lv_at hl 1 rfl) ?_
  refine ro_V (As := [.int (nI (k_u))]) (v := (nI (s_root n B k_u))) ⟨hx, hb, hml, hown, hts⟩ (kX2_rootOf l D cI ad th n B P bs k_u hB (by omega)) (cwV 1 hts gX2_rootByRounds_X2_rootOf rfl rfl rfl hdX2_rootOf ⟨Nat.le_of_ble_eq_true rfl, Nat.le_of_ble_eq_true rfl⟩) hK hP (ci := 4) rfl (q0 := 0) rfl rfl rfl hl.1 rfl (Nat.le_of_ble_eq_true rfl) dX2_rootByRounds_11 ⟨Nat.zero_le _, Nat.zero_le _⟩ ?_
  refine mo_V (wr := []) (As := [.int (nI (s_root n B k_u))]) ⟨hx, hb, hml, hown, hts⟩ (kX2_tells l D cI ad th n B P bs s.heap.size (nI (s_root n B k_u)) ) (cwV 1 hts gX2_rootByRounds_X2_tells rfl rfl rfl hdX2_tells ⟨Nat.le_of_ble_eq_true rfl, Nat.le_of_ble_eq_true rfl⟩) hK hP hD hS hA (ci := 4) rfl (q0 := 0) rfl rfl rfl hl.1 rfl (Nat.le_of_ble_eq_true rfl) dX2_rootByRounds_14 ⟨Nat.zero_le _, Nat.zero_le _⟩ (fun r_4 (u9 : Unit) H locs hw_4 hP hD hS => ?_)
  subst hw_4
  have hP : va_P D vwCl (wM cI ad 0 n B P bs) H := hP
  have hD : va_D A (wM cI ad 0 n B P bs) := hD
  refine lv_goto (tgt := 25) hx hb dX2_rootByRounds_17 (by decide) ?_
  have ew_5 : 0 = ((s_rtc n B (nI k_u)).1) := by first | rfl | (simp [oI_s, bI_t, bI_f, s_rtc, s_ocode, c_1, hc_k_u]; done) | (simp [oI_s, bI_t, bI_f, s_rtc, s_ocode, c_1, hc_k_u]; omega) | (simp only [s_rtc, s_ocode]; (repeat' split) <;> first | rfl | omega | (simp_all; done) | (simp_all; omega))
  have hP : va_P D vwCl (wM cI ad ((s_rtc n B (nI k_u)).1) n B P bs) H := by rw [← ew_5]; exact hP
  have hD : va_D A (wM cI ad ((s_rtc n B (nI k_u)).1) n B P bs) := by rw [← ew_5]; exact hD
  exact W.iret (v := (nI (s_root n B k_u))) hx hb hr (fun t ht hW => ⟨⟨_, (), rfl, (by first | rfl | (simp [oI_s, bI_t, bI_f, s_rtc, s_ocode, c_1, hc_k_u]; done) | (simp [oI_s, bI_t, bI_f, s_rtc, s_ocode, c_1, hc_k_u]; omega) | (simp only [s_rtc, s_ocode]; (repeat' split) <;> first | rfl | omega | (simp_all; done) | (simp_all; omega))), by rw [ht]; exact hP, va_K.moved hW.alike hK, hD⟩, hS.F ht⟩) hS.2.2 dX2_rootByRounds_25
theorem hdX2_rootByRounds : yX2_rootByRounds.cls = RX2 ∧ yX2_rootByRounds.cls ≠ "java/lang/invoke/MethodHandle" ∧ yX2_rootByRounds.cls ≠ "java/lang/invoke/VarHandle" ∧ (parseMethodDescriptor yX2_rootByRounds.desc).map (fun d => d.parameters.length) = some 1 := by decide +kernel
set_option maxHeartbeats 4000000 in
set_option maxRecDepth 100000 in
theorem kX2_threads (l : Launch) (D : va_G) (cI : ClassId) (ad : Nat → Nat) (th : Nat) (n : Nat) (B : Nat → Nat → Nat) (P : Nat → Option Nat) (bs : Nat → Nat) (sz : Nat) (hB : Bok n B) : Met l yX2_threads wsX2_threads ({ frames := 4, cells := 0, slots := 0, locals := 88 }) (PcM D [(cI, .int)] (wM cI ad th n B P bs) sz [.ref (ad 0)]) (va_Qi (fun (r : Int32) (u9 : Unit) => r = (nI (s_heads n B))) (fun (u9 : Unit) t => AtW D [(cI, .int)] (va_A (wM cI ad th n B P bs) sz) (wM cI ad 0 n B P bs) t) (va_A (wM cI ad th n B P bs) sz)) 0 0 (va_A (wM cI ad th n B P bs) sz) := by
  refine Met.ofW (cc := cX2_threads) (maxL := 1) (ret := (some .int)) (by decide) rfl ?_
  intro p e s m args below meth c s₁ BL hml hv
  obtain ⟨rfl, hsz, hP, hK, hD0⟩ := hv
  have hx := BL.exec
  have hb := BL.bytes
  have hr := BL.returns
  have hts := atoms_spec (ws := wsX2_threads) BL.pre
  have hown : s.vm.findClass RX2 = some m.cls := findClass_of_methodNamed BL.named
  have hlocks := BL.notSynchronized
  have hl := lv_entry ([.ref (ad 0)]) (n := 1) (Nat.le_of_ble_eq_true rfl)
  rw [lg_entry_eq]
  generalize (lg_sl ([.ref (ad 0)]) ++ List.replicate (1 - (lg_sl ([.ref (ad 0)])).length) Slot.unset).toArray = ls at hl ⊢
  have hl : lv_has ls 1 [(0, .ref (ad 0))] := hl
  subst hsz
  have hD := hD0.self (sz := s.heap.size)
  generalize hAe : va_A (wM cI ad th n B P bs) s.heap.size = A at hD ⊢
  have hA : ∀ q : Nat, s.heap.size ≤ q → A q := fun q h => by rw [← hAe]; exact Or.inr h
  have hS : va_S A s.heap s.heap [] := va_S.rf
  have hP : va_P D vwCl (wM cI ad th n B P bs) s.heap := hP
  have hD : va_D A (wM cI ad th n B P bs) := hD
  have hn10 := hB.1
  refine lv_aload_n hx hb dX2_threads_0 rfl (lv_at hl 0 rfl) ?_
  refine lv_aload_n hx hb dX2_threads_1 rfl (lv_at hl 0 rfl) ?_
  refine ro_V (As := []) (v := (nI (s_heads n B))) ⟨hx, hb, hml, hown, hts⟩ (kX2_heads l D cI ad th n B P bs  hB) (cwV 0 hts gX2_threads_X2_heads rfl rfl rfl hdX2_heads ⟨Nat.le_of_ble_eq_true rfl, Nat.le_of_ble_eq_true rfl⟩) hK hP (ci := 4) rfl (q0 := 0) rfl rfl rfl hl.1 rfl (Nat.le_of_ble_eq_true rfl) dX2_threads_2 ⟨Nat.zero_le _, Nat.zero_le _⟩ ?_
  refine mo_V (wr := []) (As := [.int (nI (s_heads n B))]) ⟨hx, hb, hml, hown, hts⟩ (kX2_tells l D cI ad th n B P bs s.heap.size (nI (s_heads n B)) ) (cwV 1 hts gX2_threads_X2_tells rfl rfl rfl hdX2_tells ⟨Nat.le_of_ble_eq_true rfl, Nat.le_of_ble_eq_true rfl⟩) hK hP hD hS hA (ci := 4) rfl (q0 := 0) rfl rfl rfl hl.1 rfl (Nat.le_of_ble_eq_true rfl) dX2_threads_5 ⟨Nat.zero_le _, Nat.zero_le _⟩ (fun r_1 (u9 : Unit) H locs hw_1 hP hD hS => ?_)
  subst hw_1
  have hP : va_P D vwCl (wM cI ad 0 n B P bs) H := hP
  have hD : va_D A (wM cI ad 0 n B P bs) := hD
  exact W.iret (v := (nI (s_heads n B))) hx hb hr (fun t ht hW => ⟨⟨_, (), rfl, rfl, by rw [ht]; exact hP, va_K.moved hW.alike hK, hD⟩, hS.F ht⟩) hS.2.2 dX2_threads_8
theorem hdX2_threads : yX2_threads.cls = RX2 ∧ yX2_threads.cls ≠ "java/lang/invoke/MethodHandle" ∧ yX2_threads.cls ≠ "java/lang/invoke/VarHandle" ∧ (parseMethodDescriptor yX2_threads.desc).map (fun d => d.parameters.length) = some 0 := by decide +kernel
set_option maxHeartbeats 4000000 in
set_option maxRecDepth 100000 in
theorem kX2_size (l : Launch) (D : va_G) (cI : ClassId) (ad : Nat → Nat) (th : Nat) (n : Nat) (B : Nat → Nat → Nat) (P : Nat → Option Nat) (bs : Nat → Nat) (sz : Nat) (u : Int32) (hB : Bok n B) : Met l yX2_size wsX2_size ({ frames := 3, cells := 0, slots := 0, locals := 66 }) (PcM D [(cI, .int)] (wM cI ad th n B P bs) sz [.ref (ad 0), .int (u)]) (va_Qi (fun (r : Int32) (u9 : Unit) => r = (nI ((s_sz n B u).2))) (fun (u9 : Unit) t => AtW D [(cI, .int)] (va_A (wM cI ad th n B P bs) sz) (wM cI ad ((s_sz n B u).1) n B P bs) t) (va_A (wM cI ad th n B P bs) sz)) 0 0 (va_A (wM cI ad th n B P bs) sz) := by
  refine Met.ofW (cc := cX2_size) (maxL := 4) (ret := (some .int)) (by decide) rfl ?_
  intro p e s m args below meth c s₁ BL hml hv
  obtain ⟨rfl, hsz, hP, hK, hD0⟩ := hv
  have hx := BL.exec
  have hb := BL.bytes
  have hr := BL.returns
  have hts := atoms_spec (ws := wsX2_size) BL.pre
  have hown : s.vm.findClass RX2 = some m.cls := findClass_of_methodNamed BL.named
  have hlocks := BL.notSynchronized
  have hin : ∀ w ∈ wsX20, w ∈ wsX2_size := by decide +kernel
  have hf_41 := hts (.fieldLink RX2 41 "TalkRebuilderModel" "mails" "I") (by decide +kernel)
  have hl := lv_entry ([.ref (ad 0), .int (u)]) (n := 4) (Nat.le_of_ble_eq_true rfl)
  rw [lg_entry_eq]
  generalize (lg_sl ([.ref (ad 0), .int (u)]) ++ List.replicate (4 - (lg_sl ([.ref (ad 0), .int (u)])).length) Slot.unset).toArray = ls at hl ⊢
  have hl : lv_has ls 4 [(0, .ref (ad 0)), (1, .int (u))] := hl
  subst hsz
  have hD := hD0.self (sz := s.heap.size)
  generalize hAe : va_A (wM cI ad th n B P bs) s.heap.size = A at hD ⊢
  have hA : ∀ q : Nat, s.heap.size ≤ q → A q := fun q h => by rw [← hAe]; exact Or.inr h
  have hS : va_S A s.heap s.heap [] := va_S.rf
  have hP : va_P D vwCl (wM cI ad th n B P bs) s.heap := hP
  have hD : va_D A (wM cI ad th n B P bs) := hD
  have hn10 := hB.1
  refine lv_aload_n hx hb dX2_size_0 rfl (lv_at hl 0 rfl) ?_
  refine lv_iload_n hx hb dX2_size_1 rfl (lv_at hl 1 rfl) ?_
  refine ro_V (As := [.int (u)]) (v := (bI (s_ism n u))) ⟨hx, hb, hml, hown, hts⟩ (kX2_isMail l D cI ad th n B P bs (u) hB) (cwV 1 hts gX2_size_X2_isMail rfl rfl rfl hdX2_isMail ⟨Nat.le_of_ble_eq_true rfl, Nat.le_of_ble_eq_true rfl⟩) hK hP (ci := 4) rfl (q0 := 0) rfl rfl rfl hl.1 rfl (Nat.le_of_ble_eq_true rfl) dX2_size_2 ⟨Nat.zero_le _, Nat.zero_le _⟩ ?_
  refine y_ne (tgt := 14) hx hb dX2_size_5 (by decide) (fun c_1 => ?_) (fun c_1 => ?_)
  · obtain ⟨k_u, hk_u, rfl⟩ := s_ism_t hB.1 c_1
    have hc_k_u : (nI k_u).toNatClampNeg = k_u := nI_clamp (by omega)
    refine lv_iconst (v := (nI (0))) hx hb dX2_size_14 (by decide +kernel) ?_
    refine lv_istore_n (lv' := [(2, .int (nI (0))), (0, .ref (ad 0)), (1, .int (nI (k_u)))]) hx hb dX2_size_15 rfl hl (by decide) rfl (fun ls hl => ?_)
    refine lv_iconst (v := (nI (0))) hx hb dX2_size_16 (by decide +kernel) ?_
    refine lv_istore_n (lv' := [(3, .int (nI (0))), (2, .int (nI (0))), (0, .ref (ad 0)), (1, .int (nI (k_u)))]) hx hb dX2_size_17 rfl hl (by decide) rfl (fun ls hl => ?_)
    have loop_18 : ∀ (N : Nat) (z : Nat), n - z < N → (z ≤ n) → ∀ (H : Heap) (locs : List Loc), va_P D vwCl (wM cI ad th n B P bs) H → va_D A (wM cI ad th n B P bs) → va_S A s.heap H locs → ∀ (ls : Array Slot), lv_has ls 4 [(0, .ref (ad 0)), (1, .int (nI (k_u))), (2, .int (nI (ct (s_szp n B k_u) z))), (3, .int (nI (z)))] → W p l e (headSpec wsX2_size ({ frames := 3, cells := 0, slots := 0, locals := 66 })).room s m ([.ref (ad 0), .int (nI k_u)] : List Value).toArray below meth c H locs 0 0 (MQ below (va_Qi (fun (r : Int32) (u9 : Unit) => r = (nI ((s_sz n B (nI k_u)).2))) (fun (u9 : Unit) t => AtW D [(cI, .int)] A (wM cI ad ((s_sz n B (nI k_u)).1) n B P bs) t) A) ([.ref (ad 0), .int (nI k_u)] : List Value).toArray s 0 0 A) (F0 m 18 ls []) := by
      intro N
      induction N with
      | zero => intro z hmu; exact absurd hmu (Nat.not_lt_zero _)
      | succ N ih_18 =>
        intro z hmu_18 h_z H locs hP hD hS ls hl
        refine lv_iload_n hx hb dX2_size_18 rfl (lv_at hl 3 rfl) ?_
        refine lv_aload_n hx hb dX2_size_19 rfl (lv_at hl 0 rfl) ?_
        refine va_get (D := D) (ci := 4) (v := .int (nI (n))) (C := RX2) (T := TX2) (N := 11) hx hb hts hin hown hK hP 0 rfl rfl 1 (by decide) hf_41 (fun _ h9 => h9) rfl dX2_size_20 ?_
        refine n_ge (tgt := 53) hx hb (by omega) (by omega) dX2_size_23 (by decide) (fun c_2 => ?_) (fun c_2 => ?_)
        · have hzn : n = z := by omega
          refine lv_aload_n hx hb dX2_size_53 rfl (lv_at hl 0 rfl) ?_
          refine lv_iload_n hx hb dX2_size_54 rfl (lv_at hl 2 rfl) ?_
          refine mo_V (wr := []) (As := [.int (nI (ct (s_szp n B k_u) z))]) ⟨hx, hb, hml, hown, hts⟩ (kX2_tells l D cI ad th n B P bs H.size (nI (ct (s_szp n B k_u) z)) ) (cwV 1 hts gX2_size_X2_tells rfl rfl rfl hdX2_tells ⟨Nat.le_of_ble_eq_true rfl, Nat.le_of_ble_eq_true rfl⟩) hK hP hD hS hA (ci := 4) rfl (q0 := 0) rfl rfl rfl hl.1 rfl (Nat.le_of_ble_eq_true rfl) dX2_size_55 ⟨Nat.zero_le _, Nat.zero_le _⟩ (fun r_3 (u9 : Unit) H locs hw_3 hP hD hS => ?_)
          subst hw_3
          have hP : va_P D vwCl (wM cI ad 0 n B P bs) H := hP
          have hD : va_D A (wM cI ad 0 n B P bs) := hD
          have ew_4 : 0 = ((s_sz n B (nI k_u)).1) := by first | rfl | (simp [oI_s, bI_t, bI_f, s_sz, s_ocode, c_1, hc_k_u, c_2, hzn, Nat.not_lt.mpr c_2]; done) | (simp [oI_s, bI_t, bI_f, s_sz, s_ocode, c_1, hc_k_u, c_2, hzn, Nat.not_lt.mpr c_2]; omega) | (simp only [s_sz, s_ocode]; (repeat' split) <;> first | rfl | omega | (simp_all; done) | (simp_all; omega))
          have hP : va_P D vwCl (wM cI ad ((s_sz n B (nI k_u)).1) n B P bs) H := by rw [← ew_4]; exact hP
          have hD : va_D A (wM cI ad ((s_sz n B (nI k_u)).1) n B P bs) := by rw [← ew_4]; exact hD
          exact W.iret (v := (nI (ct (s_szp n B k_u) z))) hx hb hr (fun t ht hW => ⟨⟨_, (), rfl, (by first | rfl | (simp [oI_s, bI_t, bI_f, s_sz, s_ocode, c_1, hc_k_u, c_2, hzn, Nat.not_lt.mpr c_2]; done) | (simp [oI_s, bI_t, bI_f, s_sz, s_ocode, c_1, hc_k_u, c_2, hzn, Nat.not_lt.mpr c_2]; omega) | (simp only [s_sz, s_ocode]; (repeat' split) <;> first | rfl | omega | (simp_all; done) | (simp_all; omega))), by rw [ht]; exact hP, va_K.moved hW.alike hK, hD⟩, hS.F ht⟩) hS.2.2 dX2_size_58
        refine lv_iload_n hx hb dX2_size_26 rfl (lv_at hl 2 rfl) ?_
        refine lv_aload_n hx hb dX2_size_27 rfl (lv_at hl 0 rfl) ?_
        refine lv_iload_n hx hb dX2_size_28 rfl (lv_at hl 3 rfl) ?_
        refine ro_V (As := [.int (nI (z))]) (v := (nI (s_root n B z))) ⟨hx, hb, hml, hown, hts⟩ (kX2_rootOf l D cI ad th n B P bs z hB (by omega)) (cwV 1 hts gX2_size_X2_rootOf rfl rfl rfl hdX2_rootOf ⟨Nat.le_of_ble_eq_true rfl, Nat.le_of_ble_eq_true rfl⟩) hK hP (ci := 4) rfl (q0 := 0) rfl rfl rfl hl.1 rfl (Nat.le_of_ble_eq_true rfl) dX2_size_29 ⟨Nat.zero_le _, Nat.zero_le _⟩ ?_
        have hrt : s_root n B z < n := s_rt_lt (by omega)
        refine lv_aload_n hx hb dX2_size_32 rfl (lv_at hl 0 rfl) ?_
        refine lv_iload_n hx hb dX2_size_33 rfl (lv_at hl 1 rfl) ?_
        refine ro_V (As := [.int (nI (k_u))]) (v := (nI (s_root n B k_u))) ⟨hx, hb, hml, hown, hts⟩ (kX2_rootOf l D cI ad th n B P bs k_u hB (by omega)) (cwV 1 hts gX2_size_X2_rootOf rfl rfl rfl hdX2_rootOf ⟨Nat.le_of_ble_eq_true rfl, Nat.le_of_ble_eq_true rfl⟩) hK hP (ci := 4) rfl (q0 := 0) rfl rfl rfl hl.1 rfl (Nat.le_of_ble_eq_true rfl) dX2_size_34 ⟨Nat.zero_le _, Nat.zero_le _⟩ ?_
        have hrt2 : s_root n B k_u < n := s_rt_lt hk_u
        refine n_ne (tgt := 44) hx hb (by omega) (by omega) dX2_size_37 (by decide) (fun c_5 => ?_) (fun c_5 => ?_)
        · refine lv_iconst (v := (nI (0))) hx hb dX2_size_44 (by decide +kernel) ?_
          refine lv_iadd hx hb dX2_size_45 ?_
          refine n_top (y := (nI (ct (s_szp n B k_u) z + 0))) (nI_add _ _) ?_
          refine lv_istore_n (lv' := [(2, .int (nI (ct (s_szp n B k_u) z + 0))), (0, .ref (ad 0)), (1, .int (nI (k_u))), (3, .int (nI (z)))]) hx hb dX2_size_46 rfl hl (by decide) rfl (fun ls hl => ?_)
          refine lv_iinc (v := (nI (z + 1))) (lv' := [(3, .int (nI (z + 1))), (2, .int (nI (ct (s_szp n B k_u) z + 0))), (0, .ref (ad 0)), (1, .int (nI (k_u)))]) hx hb dX2_size_47 hl (k := 3) rfl (nI_1 _) (by decide) rfl (fun ls hl => ?_)
          refine lv_goto (tgt := 18) hx hb dX2_size_50 (by decide) ?_
          have e_6 : ((nI (ct (s_szp n B k_u) z + 0)) : Int32) = (nI (ct (s_szp n B k_u) (z + 1))) := by first | rfl | (simp [oI_s, bI_t, bI_f, ct, s_szp, c_1, hc_k_u, c_2, c_5, Nat.not_le.mp c_2]; done) | (simp [oI_s, bI_t, bI_f, ct, s_szp, c_1, hc_k_u, c_2, c_5, Nat.not_le.mp c_2]; omega) | (simp only [ct, s_szp]; (repeat' split) <;> first | rfl | omega | (simp_all; done) | (simp_all; omega))
          exact ih_18 (z + 1) (by omega) (by omega) _ _ hP hD hS _ (show lv_has ls 4 [(0, .ref (ad 0)), (1, .int (nI (k_u))), (2, .int (nI (ct (s_szp n B k_u) (z + 1)))), (3, .int (nI (z + 1)))] from by rw [← e_6]; exact lv_sub hl [2, 3, 1, 0] rfl)
        refine lv_iconst (v := (nI (1))) hx hb dX2_size_40 (by decide +kernel) ?_
        refine lv_goto (tgt := 45) hx hb dX2_size_41 (by decide) ?_
        refine lv_iadd hx hb dX2_size_45 ?_
        refine n_top (y := (nI (ct (s_szp n B k_u) z + 1))) (nI_add _ _) ?_
        refine lv_istore_n (lv' := [(2, .int (nI (ct (s_szp n B k_u) z + 1))), (0, .ref (ad 0)), (1, .int (nI (k_u))), (3, .int (nI (z)))]) hx hb dX2_size_46 rfl hl (by decide) rfl (fun ls hl => ?_)
        refine lv_iinc (v := (nI (z + 1))) (lv' := [(3, .int (nI (z + 1))), (2, .int (nI (ct (s_szp n B k_u) z + 1))), (0, .ref (ad 0)), (1, .int (nI (k_u)))]) hx hb dX2_size_47 hl (k := 3) rfl (nI_1 _) (by decide) rfl (fun ls hl => ?_)
        refine lv_goto (tgt := 18) hx hb dX2_size_50 (by decide) ?_
        have e_7 : ((nI (ct (s_szp n B k_u) z + 1)) : Int32) = (nI (ct (s_szp n B k_u) (z + 1))) := by first | rfl | (simp [oI_s, bI_t, bI_f, ct, s_szp, c_1, hc_k_u, c_2, c_5, Nat.not_le.mp c_2]; done) | (simp [oI_s, bI_t, bI_f, ct, s_szp, c_1, hc_k_u, c_2, c_5, Nat.not_le.mp c_2]; omega) | (simp only [ct, s_szp]; (repeat' split) <;> first | rfl | omega | (simp_all; done) | (simp_all; omega))
        exact ih_18 (z + 1) (by omega) (by omega) _ _ hP hD hS _ (show lv_has ls 4 [(0, .ref (ad 0)), (1, .int (nI (k_u))), (2, .int (nI (ct (s_szp n B k_u) (z + 1)))), (3, .int (nI (z + 1)))] from by rw [← e_7]; exact lv_sub hl [2, 3, 1, 0] rfl)
    have e_8 : ((nI (0)) : Int32) = (nI (ct (s_szp n B k_u) 0)) := by first | rfl | (simp [oI_s, bI_t, bI_f, ct, s_szp, c_1, hc_k_u]; done) | (simp [oI_s, bI_t, bI_f, ct, s_szp, c_1, hc_k_u]; omega) | (simp only [ct, s_szp]; (repeat' split) <;> first | rfl | omega | (simp_all; done) | (simp_all; omega))
    exact loop_18 (n - 0 + 1) 0 (by omega) (by omega) _ _ hP hD hS _ (show lv_has ls 4 [(0, .ref (ad 0)), (1, .int (nI (k_u))), (2, .int (nI (ct (s_szp n B k_u) 0))), (3, .int (nI (0)))] from by rw [← e_8]; exact lv_sub hl [2, 3, 1, 0] rfl)
  refine lv_aload_n hx hb dX2_size_8 rfl (lv_at hl 0 rfl) ?_
  refine lv_iconst (v := (nI (1))) hx hb dX2_size_9 (by decide +kernel) ?_
  refine mo_V (wr := []) (As := [.int (nI (1))]) ⟨hx, hb, hml, hown, hts⟩ (kX2_fails l D cI ad th n B P bs s.heap.size 1 ) (cwV 1 hts gX2_size_X2_fails rfl rfl rfl hdX2_fails ⟨Nat.le_of_ble_eq_true rfl, Nat.le_of_ble_eq_true rfl⟩) hK hP hD hS hA (ci := 4) rfl (q0 := 0) rfl rfl rfl hl.1 rfl (Nat.le_of_ble_eq_true rfl) dX2_size_10 ⟨Nat.zero_le _, Nat.zero_le _⟩ (fun r_9 (u9 : Unit) H locs hw_9 hP hD hS => ?_)
  subst hw_9
  have hP : va_P D vwCl (wM cI ad 1 n B P bs) H := hP
  have hD : va_D A (wM cI ad 1 n B P bs) := hD
  have ew_10 : 1 = ((s_sz n B u).1) := by first | rfl | (simp [oI_s, bI_t, bI_f, s_sz, s_ocode, c_1]; done) | (simp [oI_s, bI_t, bI_f, s_sz, s_ocode, c_1]; omega) | (simp only [s_sz, s_ocode]; (repeat' split) <;> first | rfl | omega | (simp_all; done) | (simp_all; omega))
  have hP : va_P D vwCl (wM cI ad ((s_sz n B u).1) n B P bs) H := by rw [← ew_10]; exact hP
  have hD : va_D A (wM cI ad ((s_sz n B u).1) n B P bs) := by rw [← ew_10]; exact hD
  exact W.iret (v := (nI (0))) hx hb hr (fun t ht hW => ⟨⟨_, (), rfl, (by first | rfl | (simp [oI_s, bI_t, bI_f, s_sz, s_ocode, c_1]; done) | (simp [oI_s, bI_t, bI_f, s_sz, s_ocode, c_1]; omega) | (simp only [s_sz, s_ocode]; (repeat' split) <;> first | rfl | omega | (simp_all; done) | (simp_all; omega))), by rw [ht]; exact hP, va_K.moved hW.alike hK, hD⟩, hS.F ht⟩) hS.2.2 dX2_size_13
theorem hdX2_size : yX2_size.cls = RX2 ∧ yX2_size.cls ≠ "java/lang/invoke/MethodHandle" ∧ yX2_size.cls ≠ "java/lang/invoke/VarHandle" ∧ (parseMethodDescriptor yX2_size.desc).map (fun d => d.parameters.length) = some 1 := by decide +kernel
set_option maxHeartbeats 4000000 in
set_option maxRecDepth 100000 in
theorem kX2_missing (l : Launch) (D : va_G) (cI : ClassId) (ad : Nat → Nat) (th : Nat) (n : Nat) (B : Nat → Nat → Nat) (P : Nat → Option Nat) (bs : Nat → Nat) (sz : Nat) (hB : Bok n B) : Met l yX2_missing wsX2_missing ({ frames := 1, cells := 0, slots := 0, locals := 23 }) (PcM D [(cI, .int)] (wM cI ad th n B P bs) sz [.ref (ad 0)]) (va_Qi (fun (r : Int32) (u9 : Unit) => r = (nI (s_ms n B))) (fun (u9 : Unit) t => AtW D [(cI, .int)] (va_A (wM cI ad th n B P bs) sz) (wM cI ad 0 n B P bs) t) (va_A (wM cI ad th n B P bs) sz)) 0 0 (va_A (wM cI ad th n B P bs) sz) := by
  refine Met.ofW (cc := cX2_missing) (maxL := 5) (ret := (some .int)) (by decide) rfl ?_
  intro p e s m args below meth c s₁ BL hml hv
  obtain ⟨rfl, hsz, hP, hK, hD0⟩ := hv
  have hx := BL.exec
  have hb := BL.bytes
  have hr := BL.returns
  have hts := atoms_spec (ws := wsX2_missing) BL.pre
  have hown : s.vm.findClass RX2 = some m.cls := findClass_of_methodNamed BL.named
  have hlocks := BL.notSynchronized
  have hin : ∀ w ∈ wsX20, w ∈ wsX2_missing := by decide +kernel
  have hf_19 := hts (.fieldLink RX2 19 "TalkRebuilderModel" "answered" "[I") (by decide +kernel)
  have hf_41 := hts (.fieldLink RX2 41 "TalkRebuilderModel" "mails" "I") (by decide +kernel)
  have hl := lv_entry ([.ref (ad 0)]) (n := 5) (Nat.le_of_ble_eq_true rfl)
  rw [lg_entry_eq]
  generalize (lg_sl ([.ref (ad 0)]) ++ List.replicate (5 - (lg_sl ([.ref (ad 0)])).length) Slot.unset).toArray = ls at hl ⊢
  have hl : lv_has ls 5 [(0, .ref (ad 0))] := hl
  subst hsz
  have hD := hD0.self (sz := s.heap.size)
  generalize hAe : va_A (wM cI ad th n B P bs) s.heap.size = A at hD ⊢
  have hA : ∀ q : Nat, s.heap.size ≤ q → A q := fun q h => by rw [← hAe]; exact Or.inr h
  have hS : va_S A s.heap s.heap [] := va_S.rf
  have hP : va_P D vwCl (wM cI ad th n B P bs) s.heap := hP
  have hD : va_D A (wM cI ad th n B P bs) := hD
  have hn10 := hB.1
  refine lv_iconst (v := (nI (0))) hx hb dX2_missing_0 (by decide +kernel) ?_
  refine lv_istore_n (lv' := [(1, .int (nI (0))), (0, .ref (ad 0))]) hx hb dX2_missing_1 rfl hl (by decide) rfl (fun ls hl => ?_)
  refine lv_iconst (v := (nI (1))) hx hb dX2_missing_2 (by decide +kernel) ?_
  refine lv_istore_n (lv' := [(2, .int (nI (1))), (1, .int (nI (0))), (0, .ref (ad 0))]) hx hb dX2_missing_3 rfl hl (by decide) rfl (fun ls hl => ?_)
  have loop_4 : ∀ (N : Nat) (z : Nat), 98 - z < N → (z ≤ 98) → ∀ (H : Heap) (locs : List Loc), va_P D vwCl (wM cI ad th n B P bs) H → va_D A (wM cI ad th n B P bs) → va_S A s.heap H locs → ∀ (ls : Array Slot), lv_has ls 5 [(0, .ref (ad 0)), (1, .int (nI (ct (s_msd n B) z))), (2, .int (nI (z + 1)))] → W p l e (headSpec wsX2_missing ({ frames := 1, cells := 0, slots := 0, locals := 23 })).room s m ([.ref (ad 0)] : List Value).toArray below meth c H locs 0 0 (MQ below (va_Qi (fun (r : Int32) (u9 : Unit) => r = (nI (s_ms n B))) (fun (u9 : Unit) t => AtW D [(cI, .int)] A (wM cI ad 0 n B P bs) t) A) ([.ref (ad 0)] : List Value).toArray s 0 0 A) (F0 m 4 ls []) := by
    intro N
    induction N with
    | zero => intro z hmu; exact absurd hmu (Nat.not_lt_zero _)
    | succ N ih_4 =>
      intro z hmu_4 h_z H locs hP hD hS ls hl
      refine lv_iload_n hx hb dX2_missing_4 rfl (lv_at hl 2 rfl) ?_
      refine lv_bipush (v := (nI (99))) hx hb dX2_missing_5 (by decide +kernel) ?_
      refine n_ge (tgt := 78) hx hb (by omega) (by omega) dX2_missing_7 (by decide) (fun c_1 => ?_) (fun c_1 => ?_)
      · have hz9 : z = 98 := by omega
        refine lv_aload_n hx hb dX2_missing_78 rfl (lv_at hl 0 rfl) ?_
        refine lv_iload_n hx hb dX2_missing_79 rfl (lv_at hl 1 rfl) ?_
        refine mo_V (wr := []) (As := [.int (nI (ct (s_msd n B) z))]) ⟨hx, hb, hml, hown, hts⟩ (kX2_tells l D cI ad th n B P bs H.size (nI (ct (s_msd n B) z)) ) (cwV 1 hts gX2_missing_X2_tells rfl rfl rfl hdX2_tells ⟨Nat.le_of_ble_eq_true rfl, Nat.le_of_ble_eq_true rfl⟩) hK hP hD hS hA (ci := 4) rfl (q0 := 0) rfl rfl rfl hl.1 rfl (Nat.le_of_ble_eq_true rfl) dX2_missing_80 ⟨Nat.zero_le _, Nat.zero_le _⟩ (fun r_2 (u9 : Unit) H locs hw_2 hP hD hS => ?_)
        subst hw_2
        have hP : va_P D vwCl (wM cI ad 0 n B P bs) H := hP
        have hD : va_D A (wM cI ad 0 n B P bs) := hD
        exact W.iret (v := (nI (ct (s_msd n B) z))) hx hb hr (fun t ht hW => ⟨⟨_, (), rfl, (by first | rfl | (simp [oI_s, bI_t, bI_f, s_ms, c_1, hz9, Nat.not_lt.mpr c_1]; done) | (simp [oI_s, bI_t, bI_f, s_ms, c_1, hz9, Nat.not_lt.mpr c_1]; omega) | (simp only [s_ms]; (repeat' split) <;> first | rfl | omega | (simp_all; done) | (simp_all; omega))), by rw [ht]; exact hP, va_K.moved hW.alike hK, hD⟩, hS.F ht⟩) hS.2.2 dX2_missing_83
      refine lv_iconst (v := (nI (0))) hx hb dX2_missing_10 (by decide +kernel) ?_
      refine lv_istore_n (lv' := [(3, .int (nI (0))), (0, .ref (ad 0)), (1, .int (nI (ct (s_msd n B) z))), (2, .int (nI (z + 1)))]) hx hb dX2_missing_11 rfl hl (by decide) rfl (fun ls hl => ?_)
      refine lv_iconst (v := (nI (0))) hx hb dX2_missing_12 (by decide +kernel) ?_
      refine lv_istore (lv' := [(4, .int (nI (0))), (3, .int (nI (0))), (0, .ref (ad 0)), (1, .int (nI (ct (s_msd n B) z))), (2, .int (nI (z + 1)))]) hx hb dX2_missing_13 hl (by decide) rfl (fun ls hl => ?_)
      have loop_15 : ∀ (N : Nat) (y : Nat), n - y < N → (y ≤ n) → ∀ (H : Heap) (locs : List Loc), va_P D vwCl (wM cI ad th n B P bs) H → va_D A (wM cI ad th n B P bs) → va_S A s.heap H locs → ∀ (ls : Array Slot), lv_has ls 5 [(0, .ref (ad 0)), (1, .int (nI (ct (s_msd n B) z))), (2, .int (nI (z + 1))), (3, .int (bI (an (s_msa B (z + 1)) y))), (4, .int (nI (y)))] → W p l e (headSpec wsX2_missing ({ frames := 1, cells := 0, slots := 0, locals := 23 })).room s m ([.ref (ad 0)] : List Value).toArray below meth c H locs 0 0 (MQ below (va_Qi (fun (r : Int32) (u9 : Unit) => r = (nI (s_ms n B))) (fun (u9 : Unit) t => AtW D [(cI, .int)] A (wM cI ad 0 n B P bs) t) A) ([.ref (ad 0)] : List Value).toArray s 0 0 A) (F0 m 15 ls []) := by
        intro N
        induction N with
        | zero => intro y hmu; exact absurd hmu (Nat.not_lt_zero _)
        | succ N ih_15 =>
          intro y hmu_15 h_y H locs hP hD hS ls hl
          refine lv_iload hx hb dX2_missing_15 (lv_at hl 4 rfl) ?_
          refine lv_aload_n hx hb dX2_missing_17 rfl (lv_at hl 0 rfl) ?_
          refine va_get (D := D) (ci := 4) (v := .int (nI (n))) (C := RX2) (T := TX2) (N := 11) hx hb hts hin hown hK hP 0 rfl rfl 1 (by decide) hf_41 (fun _ h9 => h9) rfl dX2_missing_18 ?_
          refine n_ge (tgt := 51) hx hb (by omega) (by omega) dX2_missing_21 (by decide) (fun c_3 => ?_) (fun c_3 => ?_)
          · have hyn : n = y := by omega
            refine lv_iload_n hx hb dX2_missing_51 rfl (lv_at hl 1 rfl) ?_
            refine lv_iload_n hx hb dX2_missing_52 rfl (lv_at hl 3 rfl) ?_
            refine y_eq (tgt := 69) hx hb dX2_missing_53 (by decide) (fun c_4 => ?_) (fun c_4 => ?_)
            · refine lv_iconst (v := (nI (0))) hx hb dX2_missing_69 (by decide +kernel) ?_
              refine lv_iadd hx hb dX2_missing_70 ?_
              refine n_top (y := (nI (ct (s_msd n B) z + 0))) (nI_add _ _) ?_
              refine lv_istore_n (lv' := [(1, .int (nI (ct (s_msd n B) z + 0))), (0, .ref (ad 0)), (2, .int (nI (z + 1))), (3, .int (bI (an (s_msa B (z + 1)) y))), (4, .int (nI (y)))]) hx hb dX2_missing_71 rfl hl (by decide) rfl (fun ls hl => ?_)
              refine lv_iinc (v := (nI (z + 1 + 1))) (lv' := [(2, .int (nI (z + 1 + 1))), (1, .int (nI (ct (s_msd n B) z + 0))), (0, .ref (ad 0)), (3, .int (bI (an (s_msa B (z + 1)) y))), (4, .int (nI (y)))]) hx hb dX2_missing_72 hl (k := 2) rfl (nI_1 _) (by decide) rfl (fun ls hl => ?_)
              refine lv_goto (tgt := 4) hx hb dX2_missing_75 (by decide) ?_
              have e_5 : ((nI (ct (s_msd n B) z + 0)) : Int32) = (nI (ct (s_msd n B) (z + 1))) := by first | rfl | (simp [oI_s, bI_t, bI_f, ct, s_msd, c_1, c_3, hyn, c_4, Nat.not_le.mp c_1, Nat.not_lt.mpr c_3]; done) | (simp [oI_s, bI_t, bI_f, ct, s_msd, c_1, c_3, hyn, c_4, Nat.not_le.mp c_1, Nat.not_lt.mpr c_3]; omega) | (simp only [ct, s_msd]; (repeat' split) <;> first | rfl | omega | (simp_all; done) | (simp_all; omega))
              have e_6 : ((nI (z + 1 + 1)) : Int32) = (nI ((z + 1) + 1)) := by first | rfl | (simp [oI_s, bI_t, bI_f, ct, s_msd, c_1, c_3, hyn, c_4, Nat.not_le.mp c_1, Nat.not_lt.mpr c_3]; done) | (simp [oI_s, bI_t, bI_f, ct, s_msd, c_1, c_3, hyn, c_4, Nat.not_le.mp c_1, Nat.not_lt.mpr c_3]; omega) | (simp only [ct, s_msd]; (repeat' split) <;> first | rfl | omega | (simp_all; done) | (simp_all; omega))
              exact ih_4 (z + 1) (by omega) (by omega) _ _ hP hD hS _ (show lv_has ls 5 [(0, .ref (ad 0)), (1, .int (nI (ct (s_msd n B) (z + 1)))), (2, .int (nI ((z + 1) + 1)))] from by rw [← e_5, ← e_6]; exact lv_sub hl [2, 1, 0] rfl)
            refine lv_aload_n hx hb dX2_missing_56 rfl (lv_at hl 0 rfl) ?_
            refine lv_iload_n hx hb dX2_missing_57 rfl (lv_at hl 2 rfl) ?_
            refine ro_V (As := [.int (nI (z + 1))]) (v := (oI (s_dated (B 0) (z + 1) n))) ⟨hx, hb, hml, hown, hts⟩ (kX2_dated l D cI ad th n B P bs (z + 1) hB (by omega)) (cwV 1 hts gX2_missing_X2_dated rfl rfl rfl hdX2_dated ⟨Nat.le_of_ble_eq_true rfl, Nat.le_of_ble_eq_true rfl⟩) hK hP (ci := 4) rfl (q0 := 0) rfl rfl rfl hl.1 rfl (Nat.le_of_ble_eq_true rfl) dX2_missing_58 ⟨Nat.zero_le _, Nat.zero_le _⟩ ?_
            refine lv_iconst (v := (oI (none))) hx hb dX2_missing_61 (by decide +kernel) ?_
            refine o_ne (tgt := 69) hx hb (s_dated_b hn10) dX2_missing_62 (by decide) (fun kc_7 c_7 => ?_) (fun c_7 => ?_)
            · refine lv_iconst (v := (nI (0))) hx hb dX2_missing_69 (by decide +kernel) ?_
              refine lv_iadd hx hb dX2_missing_70 ?_
              refine n_top (y := (nI (ct (s_msd n B) z + 0))) (nI_add _ _) ?_
              refine lv_istore_n (lv' := [(1, .int (nI (ct (s_msd n B) z + 0))), (0, .ref (ad 0)), (2, .int (nI (z + 1))), (3, .int (bI (an (s_msa B (z + 1)) y))), (4, .int (nI (y)))]) hx hb dX2_missing_71 rfl hl (by decide) rfl (fun ls hl => ?_)
              refine lv_iinc (v := (nI (z + 1 + 1))) (lv' := [(2, .int (nI (z + 1 + 1))), (1, .int (nI (ct (s_msd n B) z + 0))), (0, .ref (ad 0)), (3, .int (bI (an (s_msa B (z + 1)) y))), (4, .int (nI (y)))]) hx hb dX2_missing_72 hl (k := 2) rfl (nI_1 _) (by decide) rfl (fun ls hl => ?_)
              refine lv_goto (tgt := 4) hx hb dX2_missing_75 (by decide) ?_
              have e_8 : ((nI (ct (s_msd n B) z + 0)) : Int32) = (nI (ct (s_msd n B) (z + 1))) := by first | rfl | (simp [oI_s, bI_t, bI_f, ct, s_msd, c_1, c_3, hyn, c_4, c_7, Nat.not_le.mp c_1, Nat.not_lt.mpr c_3]; done) | (simp [oI_s, bI_t, bI_f, ct, s_msd, c_1, c_3, hyn, c_4, c_7, Nat.not_le.mp c_1, Nat.not_lt.mpr c_3]; omega) | (simp only [ct, s_msd]; (repeat' split) <;> first | rfl | omega | (simp_all; done) | (simp_all; omega))
              have e_9 : ((nI (z + 1 + 1)) : Int32) = (nI ((z + 1) + 1)) := by first | rfl | (simp [oI_s, bI_t, bI_f, ct, s_msd, c_1, c_3, hyn, c_4, c_7, Nat.not_le.mp c_1, Nat.not_lt.mpr c_3]; done) | (simp [oI_s, bI_t, bI_f, ct, s_msd, c_1, c_3, hyn, c_4, c_7, Nat.not_le.mp c_1, Nat.not_lt.mpr c_3]; omega) | (simp only [ct, s_msd]; (repeat' split) <;> first | rfl | omega | (simp_all; done) | (simp_all; omega))
              exact ih_4 (z + 1) (by omega) (by omega) _ _ hP hD hS _ (show lv_has ls 5 [(0, .ref (ad 0)), (1, .int (nI (ct (s_msd n B) (z + 1)))), (2, .int (nI ((z + 1) + 1)))] from by rw [← e_8, ← e_9]; exact lv_sub hl [2, 1, 0] rfl)
            refine lv_iconst (v := (nI (1))) hx hb dX2_missing_65 (by decide +kernel) ?_
            refine lv_goto (tgt := 70) hx hb dX2_missing_66 (by decide) ?_
            refine lv_iadd hx hb dX2_missing_70 ?_
            refine n_top (y := (nI (ct (s_msd n B) z + 1))) (nI_add _ _) ?_
            refine lv_istore_n (lv' := [(1, .int (nI (ct (s_msd n B) z + 1))), (0, .ref (ad 0)), (2, .int (nI (z + 1))), (3, .int (bI (an (s_msa B (z + 1)) y))), (4, .int (nI (y)))]) hx hb dX2_missing_71 rfl hl (by decide) rfl (fun ls hl => ?_)
            refine lv_iinc (v := (nI (z + 1 + 1))) (lv' := [(2, .int (nI (z + 1 + 1))), (1, .int (nI (ct (s_msd n B) z + 1))), (0, .ref (ad 0)), (3, .int (bI (an (s_msa B (z + 1)) y))), (4, .int (nI (y)))]) hx hb dX2_missing_72 hl (k := 2) rfl (nI_1 _) (by decide) rfl (fun ls hl => ?_)
            refine lv_goto (tgt := 4) hx hb dX2_missing_75 (by decide) ?_
            have e_10 : ((nI (ct (s_msd n B) z + 1)) : Int32) = (nI (ct (s_msd n B) (z + 1))) := by first | rfl | (simp [oI_s, bI_t, bI_f, ct, s_msd, c_1, c_3, hyn, c_4, c_7, Nat.not_le.mp c_1, Nat.not_lt.mpr c_3]; done) | (simp [oI_s, bI_t, bI_f, ct, s_msd, c_1, c_3, hyn, c_4, c_7, Nat.not_le.mp c_1, Nat.not_lt.mpr c_3]; omega) | (simp only [ct, s_msd]; (repeat' split) <;> first | rfl | omega | (simp_all; done) | (simp_all; omega))
            have e_11 : ((nI (z + 1 + 1)) : Int32) = (nI ((z + 1) + 1)) := by first | rfl | (simp [oI_s, bI_t, bI_f, ct, s_msd, c_1, c_3, hyn, c_4, c_7, Nat.not_le.mp c_1, Nat.not_lt.mpr c_3]; done) | (simp [oI_s, bI_t, bI_f, ct, s_msd, c_1, c_3, hyn, c_4, c_7, Nat.not_le.mp c_1, Nat.not_lt.mpr c_3]; omega) | (simp only [ct, s_msd]; (repeat' split) <;> first | rfl | omega | (simp_all; done) | (simp_all; omega))
            exact ih_4 (z + 1) (by omega) (by omega) _ _ hP hD hS _ (show lv_has ls 5 [(0, .ref (ad 0)), (1, .int (nI (ct (s_msd n B) (z + 1)))), (2, .int (nI ((z + 1) + 1)))] from by rw [← e_10, ← e_11]; exact lv_sub hl [2, 1, 0] rfl)
          refine lv_iload_n hx hb dX2_missing_24 rfl (lv_at hl 3 rfl) ?_
          refine y_ne (tgt := 39) hx hb dX2_missing_25 (by decide) (fun c_12 => ?_) (fun c_12 => ?_)
          · refine lv_iconst (v := (nI (1))) hx hb dX2_missing_39 (by decide +kernel) ?_
            refine lv_goto (tgt := 44) hx hb dX2_missing_40 (by decide) ?_
            refine lv_istore_n (lv' := [(3, .int (nI (1))), (0, .ref (ad 0)), (1, .int (nI (ct (s_msd n B) z))), (2, .int (nI (z + 1))), (4, .int (nI (y)))]) hx hb dX2_missing_44 rfl hl (by decide) rfl (fun ls hl => ?_)
            refine lv_iinc (v := (nI (y + 1))) (lv' := [(4, .int (nI (y + 1))), (3, .int (nI (1))), (0, .ref (ad 0)), (1, .int (nI (ct (s_msd n B) z))), (2, .int (nI (z + 1)))]) hx hb dX2_missing_45 hl (k := 4) rfl (nI_1 _) (by decide) rfl (fun ls hl => ?_)
            refine lv_goto (tgt := 15) hx hb dX2_missing_48 (by decide) ?_
            have e_13 : ((nI (1)) : Int32) = (bI (an (s_msa B (z + 1)) (y + 1))) := by first | rfl | (simp [oI_s, bI_t, bI_f, an, s_msa, c_1, c_3, c_12, Nat.not_le.mp c_1, Nat.not_le.mp c_3]; done) | (simp [oI_s, bI_t, bI_f, an, s_msa, c_1, c_3, c_12, Nat.not_le.mp c_1, Nat.not_le.mp c_3]; omega) | (simp only [an, s_msa]; (repeat' split) <;> first | rfl | omega | (simp_all; done) | (simp_all; omega))
            exact ih_15 (y + 1) (by omega) (by omega) _ _ hP hD hS _ (show lv_has ls 5 [(0, .ref (ad 0)), (1, .int (nI (ct (s_msd n B) z))), (2, .int (nI (z + 1))), (3, .int (bI (an (s_msa B (z + 1)) (y + 1)))), (4, .int (nI (y + 1)))] from by rw [← e_13]; exact lv_sub hl [2, 3, 4, 1, 0] rfl)
          refine lv_aload_n hx hb dX2_missing_28 rfl (lv_at hl 0 rfl) ?_
          refine va_get (D := D) (ci := 4) (v := .ref (ad 4)) (C := RX2) (T := TX2) (N := 11) hx hb hts hin hown hK hP 0 rfl rfl 5 (by decide) hf_19 (fun _ h9 => h9) rfl dX2_missing_29 ?_
          refine lv_iload hx hb dX2_missing_32 (lv_at hl 4 rfl) ?_
          refine n_iald hx hb hK hP 4 0 rfl rfl (i := y) (by omega) (by decide) dX2_missing_34 ?_
          have hq_14 := hB.2.1 3 y
          refine lv_iload_n hx hb dX2_missing_35 rfl (lv_at hl 2 rfl) ?_
          refine n_ne (tgt := 43) hx hb (by omega) (by omega) dX2_missing_36 (by decide) (fun c_15 => ?_) (fun c_15 => ?_)
          · refine lv_iconst (v := (nI (0))) hx hb dX2_missing_43 (by decide +kernel) ?_
            refine lv_istore_n (lv' := [(3, .int (nI (0))), (0, .ref (ad 0)), (1, .int (nI (ct (s_msd n B) z))), (2, .int (nI (z + 1))), (4, .int (nI (y)))]) hx hb dX2_missing_44 rfl hl (by decide) rfl (fun ls hl => ?_)
            refine lv_iinc (v := (nI (y + 1))) (lv' := [(4, .int (nI (y + 1))), (3, .int (nI (0))), (0, .ref (ad 0)), (1, .int (nI (ct (s_msd n B) z))), (2, .int (nI (z + 1)))]) hx hb dX2_missing_45 hl (k := 4) rfl (nI_1 _) (by decide) rfl (fun ls hl => ?_)
            refine lv_goto (tgt := 15) hx hb dX2_missing_48 (by decide) ?_
            have e_16 : ((nI (0)) : Int32) = (bI (an (s_msa B (z + 1)) (y + 1))) := by first | rfl | (simp [oI_s, bI_t, bI_f, an, s_msa, c_1, c_3, c_12, c_15, Nat.not_le.mp c_1, Nat.not_le.mp c_3]; done) | (simp [oI_s, bI_t, bI_f, an, s_msa, c_1, c_3, c_12, c_15, Nat.not_le.mp c_1, Nat.not_le.mp c_3]; omega) | (simp only [an, s_msa]; (repeat' split) <;> first | rfl | omega | (simp_all; done) | (simp_all; omega))
            exact ih_15 (y + 1) (by omega) (by omega) _ _ hP hD hS _ (show lv_has ls 5 [(0, .ref (ad 0)), (1, .int (nI (ct (s_msd n B) z))), (2, .int (nI (z + 1))), (3, .int (bI (an (s_msa B (z + 1)) (y + 1)))), (4, .int (nI (y + 1)))] from by rw [← e_16]; exact lv_sub hl [2, 3, 4, 1, 0] rfl)
          refine lv_iconst (v := (nI (1))) hx hb dX2_missing_39 (by decide +kernel) ?_
          refine lv_goto (tgt := 44) hx hb dX2_missing_40 (by decide) ?_
          refine lv_istore_n (lv' := [(3, .int (nI (1))), (0, .ref (ad 0)), (1, .int (nI (ct (s_msd n B) z))), (2, .int (nI (z + 1))), (4, .int (nI (y)))]) hx hb dX2_missing_44 rfl hl (by decide) rfl (fun ls hl => ?_)
          refine lv_iinc (v := (nI (y + 1))) (lv' := [(4, .int (nI (y + 1))), (3, .int (nI (1))), (0, .ref (ad 0)), (1, .int (nI (ct (s_msd n B) z))), (2, .int (nI (z + 1)))]) hx hb dX2_missing_45 hl (k := 4) rfl (nI_1 _) (by decide) rfl (fun ls hl => ?_)
          refine lv_goto (tgt := 15) hx hb dX2_missing_48 (by decide) ?_
          have e_17 : ((nI (1)) : Int32) = (bI (an (s_msa B (z + 1)) (y + 1))) := by first | rfl | (simp [oI_s, bI_t, bI_f, an, s_msa, c_1, c_3, c_12, c_15, Nat.not_le.mp c_1, Nat.not_le.mp c_3]; done) | (simp [oI_s, bI_t, bI_f, an, s_msa, c_1, c_3, c_12, c_15, Nat.not_le.mp c_1, Nat.not_le.mp c_3]; omega) | (simp only [an, s_msa]; (repeat' split) <;> first | rfl | omega | (simp_all; done) | (simp_all; omega))
          exact ih_15 (y + 1) (by omega) (by omega) _ _ hP hD hS _ (show lv_has ls 5 [(0, .ref (ad 0)), (1, .int (nI (ct (s_msd n B) z))), (2, .int (nI (z + 1))), (3, .int (bI (an (s_msa B (z + 1)) (y + 1)))), (4, .int (nI (y + 1)))] from by rw [← e_17]; exact lv_sub hl [2, 3, 4, 1, 0] rfl)
      have e_18 : ((nI (0)) : Int32) = (bI (an (s_msa B (z + 1)) 0)) := by first | rfl | (simp [oI_s, bI_t, bI_f, an, s_msa, c_1, Nat.not_le.mp c_1]; done) | (simp [oI_s, bI_t, bI_f, an, s_msa, c_1, Nat.not_le.mp c_1]; omega) | (simp only [an, s_msa]; (repeat' split) <;> first | rfl | omega | (simp_all; done) | (simp_all; omega))
      exact loop_15 (n - 0 + 1) 0 (by omega) (by omega) _ _ hP hD hS _ (show lv_has ls 5 [(0, .ref (ad 0)), (1, .int (nI (ct (s_msd n B) z))), (2, .int (nI (z + 1))), (3, .int (bI (an (s_msa B (z + 1)) 0))), (4, .int (nI (0)))] from by rw [← e_18]; exact lv_sub hl [2, 3, 4, 1, 0] rfl)
  have e_19 : ((nI (0)) : Int32) = (nI (ct (s_msd n B) 0)) := by first | rfl | (simp [oI_s, bI_t, bI_f, ct, s_msd]; done) | (simp [oI_s, bI_t, bI_f, ct, s_msd]; omega) | (simp only [ct, s_msd]; (repeat' split) <;> first | rfl | omega | (simp_all; done) | (simp_all; omega))
  have e_20 : ((nI (1)) : Int32) = (nI (0 + 1)) := by first | rfl | (simp [oI_s, bI_t, bI_f, ct, s_msd]; done) | (simp [oI_s, bI_t, bI_f, ct, s_msd]; omega) | (simp only [ct, s_msd]; (repeat' split) <;> first | rfl | omega | (simp_all; done) | (simp_all; omega))
  exact loop_4 (98 - 0 + 1) 0 (by omega) (by omega) _ _ hP hD hS _ (show lv_has ls 5 [(0, .ref (ad 0)), (1, .int (nI (ct (s_msd n B) 0))), (2, .int (nI (0 + 1)))] from by rw [← e_19, ← e_20]; exact lv_sub hl [2, 1, 0] rfl)
theorem hdX2_missing : yX2_missing.cls = RX2 ∧ yX2_missing.cls ≠ "java/lang/invoke/MethodHandle" ∧ yX2_missing.cls ≠ "java/lang/invoke/VarHandle" ∧ (parseMethodDescriptor yX2_missing.desc).map (fun d => d.parameters.length) = some 0 := by decide +kernel
set_option maxHeartbeats 4000000 in
set_option maxRecDepth 100000 in
theorem kX2_arrive (l : Launch) (D : va_G) (cI : ClassId) (ad : Nat → Nat) (th : Nat) (n : Nat) (B : Nat → Nat → Nat) (P : Nat → Option Nat) (bs : Nat → Nat) (sz : Nat) (d : Int32) (x : Int32) (y : Int32) (g : Int32) (hB : Bok n B) : Met l yX2_arrive wsX2_arrive ({ frames := 1, cells := 0, slots := 0, locals := 23 }) (PcM D [(cI, .int)] (wM cI ad th n B P bs) sz [.ref (ad 0), .int (d), .int (x), .int (y), .int (g)]) (va_Qi (fun (r : Int32) (u9 : Unit) => r = (nI (s_arv n B d x y g))) (fun (u9 : Unit) t => AtW D [(cI, .int)] (va_A (wM cI ad th n B P bs) sz) (wM cI ad (s_arc n B d x y g) (s_arn n B d x y g) (s_arB n B d x y g) P bs) t) (va_A (wM cI ad th n B P bs) sz)) 0 0 (va_A (wM cI ad th n B P bs) sz) := by
  refine Met.ofW (cc := cX2_arrive) (maxL := 5) (ret := (some .int)) (by decide) rfl ?_
  intro p e s m args below meth c s₁ BL hml hv
  obtain ⟨rfl, hsz, hP, hK, hD0⟩ := hv
  have hx := BL.exec
  have hb := BL.bytes
  have hr := BL.returns
  have hts := atoms_spec (ws := wsX2_arrive) BL.pre
  have hown : s.vm.findClass RX2 = some m.cls := findClass_of_methodNamed BL.named
  have hlocks := BL.notSynchronized
  have hin : ∀ w ∈ wsX20, w ∈ wsX2_arrive := by decide +kernel
  have hf_7 := hts (.fieldLink RX2 7 "TalkRebuilderModel" "date" "[I") (by decide +kernel)
  have hf_13 := hts (.fieldLink RX2 13 "TalkRebuilderModel" "author" "[I") (by decide +kernel)
  have hf_16 := hts (.fieldLink RX2 16 "TalkRebuilderModel" "subject" "[I") (by decide +kernel)
  have hf_19 := hts (.fieldLink RX2 19 "TalkRebuilderModel" "answered" "[I") (by decide +kernel)
  have hf_41 := hts (.fieldLink RX2 41 "TalkRebuilderModel" "mails" "I") (by decide +kernel)
  have hl := lv_entry ([.ref (ad 0), .int (d), .int (x), .int (y), .int (g)]) (n := 5) (Nat.le_of_ble_eq_true rfl)
  rw [lg_entry_eq]
  generalize (lg_sl ([.ref (ad 0), .int (d), .int (x), .int (y), .int (g)]) ++ List.replicate (5 - (lg_sl ([.ref (ad 0), .int (d), .int (x), .int (y), .int (g)])).length) Slot.unset).toArray = ls at hl ⊢
  have hl : lv_has ls 5 [(0, .ref (ad 0)), (1, .int (d)), (2, .int (x)), (3, .int (y)), (4, .int (g))] := hl
  subst hsz
  have hD := hD0.self (sz := s.heap.size)
  generalize hAe : va_A (wM cI ad th n B P bs) s.heap.size = A at hD ⊢
  have hA : ∀ q : Nat, s.heap.size ≤ q → A q := fun q h => by rw [← hAe]; exact Or.inr h
  have hS : va_S A s.heap s.heap [] := va_S.rf
  have hP : va_P D vwCl (wM cI ad th n B P bs) s.heap := hP
  have hD : va_D A (wM cI ad th n B P bs) := hD
  have hn10 := hB.1
  refine lv_iload_n hx hb dX2_arrive_0 rfl (lv_at hl 1 rfl) ?_
  refine lv_iconst (v := (nI (1))) hx hb dX2_arrive_1 (by decide +kernel) ?_
  refine lv_bipush (v := (nI (99))) hx hb dX2_arrive_2 (by decide +kernel) ?_
  refine ro_S (As := [.int (d), .int (nI (1)), .int (nI (99))]) (v := (bI (s_in d (nI (1)) (nI (99))))) ⟨hx, hb, hml, hown, hts⟩ (kX2_in l (d) (nI (1)) (nI (99)) ) (va_cwS 3 hts gX2_arrive_X2_in rfl rfl rfl hsX2_in ⟨Nat.le_of_ble_eq_true rfl, Nat.le_of_ble_eq_true rfl⟩) rfl hl.1 rfl (Nat.le_of_ble_eq_true rfl) dX2_arrive_4 ⟨Nat.zero_le _, Nat.zero_le _⟩ ?_
  refine y_eq (tgt := 50) hx hb dX2_arrive_7 (by decide) (fun c_1 => ?_) (fun c_1 => ?_)
  · refine lv_aload_n hx hb dX2_arrive_50 rfl (lv_at hl 0 rfl) ?_
    refine lv_iconst (v := (nI (1))) hx hb dX2_arrive_51 (by decide +kernel) ?_
    refine mo_V (wr := []) (As := [.int (nI (1))]) ⟨hx, hb, hml, hown, hts⟩ (kX2_fails l D cI ad th n B P bs s.heap.size 1 ) (cwV 1 hts gX2_arrive_X2_fails rfl rfl rfl hdX2_fails ⟨Nat.le_of_ble_eq_true rfl, Nat.le_of_ble_eq_true rfl⟩) hK hP hD hS hA (ci := 4) rfl (q0 := 0) rfl rfl rfl hl.1 rfl (Nat.le_of_ble_eq_true rfl) dX2_arrive_52 ⟨Nat.zero_le _, Nat.zero_le _⟩ (fun r_2 (u9 : Unit) H locs hw_2 hP hD hS => ?_)
    subst hw_2
    have hP : va_P D vwCl (wM cI ad 1 n B P bs) H := hP
    have hD : va_D A (wM cI ad 1 n B P bs) := hD
    have ew_3 : 1 = (s_arc n B d x y g) := by first | rfl | (simp [oI_s, bI_t, bI_f, s_arc, c_1]; done) | (simp [oI_s, bI_t, bI_f, s_arc, c_1]; omega) | (simp only [s_arc]; (repeat' split) <;> first | rfl | omega | (simp_all; done) | (simp_all; omega))
    have ew_4 : n = (s_arn n B d x y g) := by first | rfl | (simp [oI_s, bI_t, bI_f, s_arn, s_arc, c_1]; done) | (simp [oI_s, bI_t, bI_f, s_arn, s_arc, c_1]; omega) | (simp only [s_arn, s_arc]; (repeat' split) <;> first | rfl | omega | (simp_all; done) | (simp_all; omega))
    have ew_5 : B = (s_arB n B d x y g) := by first | rfl | (simp [oI_s, bI_t, bI_f, s_arB, s_arc, c_1]; done) | (simp [oI_s, bI_t, bI_f, s_arB, s_arc, c_1]; omega) | (simp only [s_arB, s_arc]; (repeat' split) <;> first | rfl | omega | (simp_all; done) | (simp_all; omega))
    have hP : va_P D vwCl (wM cI ad (s_arc n B d x y g) (s_arn n B d x y g) (s_arB n B d x y g) P bs) H := by rw [← ew_3, ← ew_4, ← ew_5]; exact hP
    have hD : va_D A (wM cI ad (s_arc n B d x y g) (s_arn n B d x y g) (s_arB n B d x y g) P bs) := by rw [← ew_3, ← ew_4, ← ew_5]; exact hD
    exact W.iret (v := (nI (0))) hx hb hr (fun t ht hW => ⟨⟨_, (), rfl, (by first | rfl | (simp [oI_s, bI_t, bI_f, s_arv, s_arc, c_1]; done) | (simp [oI_s, bI_t, bI_f, s_arv, s_arc, c_1]; omega) | (simp only [s_arv, s_arc]; (repeat' split) <;> first | rfl | omega | (simp_all; done) | (simp_all; omega))), by rw [ht]; exact hP, va_K.moved hW.alike hK, hD⟩, hS.F ht⟩) hS.2.2 dX2_arrive_55
  obtain ⟨k_d, hk_da, hk_db, rfl⟩ := s_in_n (by decide) c_1
  have hc_k_d : (nI k_d).toNatClampNeg = k_d := nI_clamp (by omega)
  refine lv_iload_n hx hb dX2_arrive_10 rfl (lv_at hl 2 rfl) ?_
  refine lv_iconst (v := (nI (0))) hx hb dX2_arrive_11 (by decide +kernel) ?_
  refine lv_iconst (v := (nI (5))) hx hb dX2_arrive_12 (by decide +kernel) ?_
  refine ro_S (As := [.int (x), .int (nI (0)), .int (nI (5))]) (v := (bI (s_in x (nI (0)) (nI (5))))) ⟨hx, hb, hml, hown, hts⟩ (kX2_in l (x) (nI (0)) (nI (5)) ) (va_cwS 3 hts gX2_arrive_X2_in rfl rfl rfl hsX2_in ⟨Nat.le_of_ble_eq_true rfl, Nat.le_of_ble_eq_true rfl⟩) rfl hl.1 rfl (Nat.le_of_ble_eq_true rfl) dX2_arrive_13 ⟨Nat.zero_le _, Nat.zero_le _⟩ ?_
  refine y_eq (tgt := 50) hx hb dX2_arrive_16 (by decide) (fun c_6 => ?_) (fun c_6 => ?_)
  · refine lv_aload_n hx hb dX2_arrive_50 rfl (lv_at hl 0 rfl) ?_
    refine lv_iconst (v := (nI (1))) hx hb dX2_arrive_51 (by decide +kernel) ?_
    refine mo_V (wr := []) (As := [.int (nI (1))]) ⟨hx, hb, hml, hown, hts⟩ (kX2_fails l D cI ad th n B P bs s.heap.size 1 ) (cwV 1 hts gX2_arrive_X2_fails rfl rfl rfl hdX2_fails ⟨Nat.le_of_ble_eq_true rfl, Nat.le_of_ble_eq_true rfl⟩) hK hP hD hS hA (ci := 4) rfl (q0 := 0) rfl rfl rfl hl.1 rfl (Nat.le_of_ble_eq_true rfl) dX2_arrive_52 ⟨Nat.zero_le _, Nat.zero_le _⟩ (fun r_7 (u9 : Unit) H locs hw_7 hP hD hS => ?_)
    subst hw_7
    have hP : va_P D vwCl (wM cI ad 1 n B P bs) H := hP
    have hD : va_D A (wM cI ad 1 n B P bs) := hD
    have ew_8 : 1 = (s_arc n B (nI k_d) x y g) := by first | rfl | (simp [oI_s, bI_t, bI_f, s_arc, c_1, hc_k_d, c_6]; done) | (simp [oI_s, bI_t, bI_f, s_arc, c_1, hc_k_d, c_6]; omega) | (simp only [s_arc]; (repeat' split) <;> first | rfl | omega | (simp_all; done) | (simp_all; omega))
    have ew_9 : n = (s_arn n B (nI k_d) x y g) := by first | rfl | (simp [oI_s, bI_t, bI_f, s_arn, s_arc, c_1, hc_k_d, c_6]; done) | (simp [oI_s, bI_t, bI_f, s_arn, s_arc, c_1, hc_k_d, c_6]; omega) | (simp only [s_arn, s_arc]; (repeat' split) <;> first | rfl | omega | (simp_all; done) | (simp_all; omega))
    have ew_10 : B = (s_arB n B (nI k_d) x y g) := by first | rfl | (simp [oI_s, bI_t, bI_f, s_arB, s_arc, c_1, hc_k_d, c_6]; done) | (simp [oI_s, bI_t, bI_f, s_arB, s_arc, c_1, hc_k_d, c_6]; omega) | (simp only [s_arB, s_arc]; (repeat' split) <;> first | rfl | omega | (simp_all; done) | (simp_all; omega))
    have hP : va_P D vwCl (wM cI ad (s_arc n B (nI k_d) x y g) (s_arn n B (nI k_d) x y g) (s_arB n B (nI k_d) x y g) P bs) H := by rw [← ew_8, ← ew_9, ← ew_10]; exact hP
    have hD : va_D A (wM cI ad (s_arc n B (nI k_d) x y g) (s_arn n B (nI k_d) x y g) (s_arB n B (nI k_d) x y g) P bs) := by rw [← ew_8, ← ew_9, ← ew_10]; exact hD
    exact W.iret (v := (nI (0))) hx hb hr (fun t ht hW => ⟨⟨_, (), rfl, (by first | rfl | (simp [oI_s, bI_t, bI_f, s_arv, s_arc, c_1, hc_k_d, c_6]; done) | (simp [oI_s, bI_t, bI_f, s_arv, s_arc, c_1, hc_k_d, c_6]; omega) | (simp only [s_arv, s_arc]; (repeat' split) <;> first | rfl | omega | (simp_all; done) | (simp_all; omega))), by rw [ht]; exact hP, va_K.moved hW.alike hK, hD⟩, hS.F ht⟩) hS.2.2 dX2_arrive_55
  obtain ⟨k_x, hk_xa, hk_xb, rfl⟩ := s_in_n (by decide) c_6
  have hc_k_x : (nI k_x).toNatClampNeg = k_x := nI_clamp (by omega)
  refine lv_iload_n hx hb dX2_arrive_19 rfl (lv_at hl 3 rfl) ?_
  refine lv_iconst (v := (nI (0))) hx hb dX2_arrive_20 (by decide +kernel) ?_
  refine lv_bipush (v := (nI (9))) hx hb dX2_arrive_21 (by decide +kernel) ?_
  refine ro_S (As := [.int (y), .int (nI (0)), .int (nI (9))]) (v := (bI (s_in y (nI (0)) (nI (9))))) ⟨hx, hb, hml, hown, hts⟩ (kX2_in l (y) (nI (0)) (nI (9)) ) (va_cwS 3 hts gX2_arrive_X2_in rfl rfl rfl hsX2_in ⟨Nat.le_of_ble_eq_true rfl, Nat.le_of_ble_eq_true rfl⟩) rfl hl.1 rfl (Nat.le_of_ble_eq_true rfl) dX2_arrive_23 ⟨Nat.zero_le _, Nat.zero_le _⟩ ?_
  refine y_eq (tgt := 50) hx hb dX2_arrive_26 (by decide) (fun c_11 => ?_) (fun c_11 => ?_)
  · refine lv_aload_n hx hb dX2_arrive_50 rfl (lv_at hl 0 rfl) ?_
    refine lv_iconst (v := (nI (1))) hx hb dX2_arrive_51 (by decide +kernel) ?_
    refine mo_V (wr := []) (As := [.int (nI (1))]) ⟨hx, hb, hml, hown, hts⟩ (kX2_fails l D cI ad th n B P bs s.heap.size 1 ) (cwV 1 hts gX2_arrive_X2_fails rfl rfl rfl hdX2_fails ⟨Nat.le_of_ble_eq_true rfl, Nat.le_of_ble_eq_true rfl⟩) hK hP hD hS hA (ci := 4) rfl (q0 := 0) rfl rfl rfl hl.1 rfl (Nat.le_of_ble_eq_true rfl) dX2_arrive_52 ⟨Nat.zero_le _, Nat.zero_le _⟩ (fun r_12 (u9 : Unit) H locs hw_12 hP hD hS => ?_)
    subst hw_12
    have hP : va_P D vwCl (wM cI ad 1 n B P bs) H := hP
    have hD : va_D A (wM cI ad 1 n B P bs) := hD
    have ew_13 : 1 = (s_arc n B (nI k_d) (nI k_x) y g) := by first | rfl | (simp [oI_s, bI_t, bI_f, s_arc, c_1, hc_k_d, c_6, hc_k_x, c_11]; done) | (simp [oI_s, bI_t, bI_f, s_arc, c_1, hc_k_d, c_6, hc_k_x, c_11]; omega) | (simp only [s_arc]; (repeat' split) <;> first | rfl | omega | (simp_all; done) | (simp_all; omega))
    have ew_14 : n = (s_arn n B (nI k_d) (nI k_x) y g) := by first | rfl | (simp [oI_s, bI_t, bI_f, s_arn, s_arc, c_1, hc_k_d, c_6, hc_k_x, c_11]; done) | (simp [oI_s, bI_t, bI_f, s_arn, s_arc, c_1, hc_k_d, c_6, hc_k_x, c_11]; omega) | (simp only [s_arn, s_arc]; (repeat' split) <;> first | rfl | omega | (simp_all; done) | (simp_all; omega))
    have ew_15 : B = (s_arB n B (nI k_d) (nI k_x) y g) := by first | rfl | (simp [oI_s, bI_t, bI_f, s_arB, s_arc, c_1, hc_k_d, c_6, hc_k_x, c_11]; done) | (simp [oI_s, bI_t, bI_f, s_arB, s_arc, c_1, hc_k_d, c_6, hc_k_x, c_11]; omega) | (simp only [s_arB, s_arc]; (repeat' split) <;> first | rfl | omega | (simp_all; done) | (simp_all; omega))
    have hP : va_P D vwCl (wM cI ad (s_arc n B (nI k_d) (nI k_x) y g) (s_arn n B (nI k_d) (nI k_x) y g) (s_arB n B (nI k_d) (nI k_x) y g) P bs) H := by rw [← ew_13, ← ew_14, ← ew_15]; exact hP
    have hD : va_D A (wM cI ad (s_arc n B (nI k_d) (nI k_x) y g) (s_arn n B (nI k_d) (nI k_x) y g) (s_arB n B (nI k_d) (nI k_x) y g) P bs) := by rw [← ew_13, ← ew_14, ← ew_15]; exact hD
    exact W.iret (v := (nI (0))) hx hb hr (fun t ht hW => ⟨⟨_, (), rfl, (by first | rfl | (simp [oI_s, bI_t, bI_f, s_arv, s_arc, c_1, hc_k_d, c_6, hc_k_x, c_11]; done) | (simp [oI_s, bI_t, bI_f, s_arv, s_arc, c_1, hc_k_d, c_6, hc_k_x, c_11]; omega) | (simp only [s_arv, s_arc]; (repeat' split) <;> first | rfl | omega | (simp_all; done) | (simp_all; omega))), by rw [ht]; exact hP, va_K.moved hW.alike hK, hD⟩, hS.F ht⟩) hS.2.2 dX2_arrive_55
  obtain ⟨k_y, hk_ya, hk_yb, rfl⟩ := s_in_n (by decide) c_11
  have hc_k_y : (nI k_y).toNatClampNeg = k_y := nI_clamp (by omega)
  refine lv_iload hx hb dX2_arrive_29 (lv_at hl 4 rfl) ?_
  refine lv_iconst (v := (nI (0))) hx hb dX2_arrive_31 (by decide +kernel) ?_
  refine lv_iload_n hx hb dX2_arrive_32 rfl (lv_at hl 1 rfl) ?_
  refine lv_iconst (v := (nI (1))) hx hb dX2_arrive_33 (by decide +kernel) ?_
  refine lv_isub hx hb dX2_arrive_34 ?_
  refine n_top (y := (nI (k_d - 1))) (pk_sub (by omega)) ?_
  refine ro_S (As := [.int (g), .int (nI (0)), .int (nI (k_d - 1))]) (v := (bI (s_in g (nI (0)) (nI (k_d - 1))))) ⟨hx, hb, hml, hown, hts⟩ (kX2_in l (g) (nI (0)) (nI (k_d - 1)) ) (va_cwS 3 hts gX2_arrive_X2_in rfl rfl rfl hsX2_in ⟨Nat.le_of_ble_eq_true rfl, Nat.le_of_ble_eq_true rfl⟩) rfl hl.1 rfl (Nat.le_of_ble_eq_true rfl) dX2_arrive_35 ⟨Nat.zero_le _, Nat.zero_le _⟩ ?_
  refine y_eq (tgt := 50) hx hb dX2_arrive_38 (by decide) (fun c_16 => ?_) (fun c_16 => ?_)
  · refine lv_aload_n hx hb dX2_arrive_50 rfl (lv_at hl 0 rfl) ?_
    refine lv_iconst (v := (nI (1))) hx hb dX2_arrive_51 (by decide +kernel) ?_
    refine mo_V (wr := []) (As := [.int (nI (1))]) ⟨hx, hb, hml, hown, hts⟩ (kX2_fails l D cI ad th n B P bs s.heap.size 1 ) (cwV 1 hts gX2_arrive_X2_fails rfl rfl rfl hdX2_fails ⟨Nat.le_of_ble_eq_true rfl, Nat.le_of_ble_eq_true rfl⟩) hK hP hD hS hA (ci := 4) rfl (q0 := 0) rfl rfl rfl hl.1 rfl (Nat.le_of_ble_eq_true rfl) dX2_arrive_52 ⟨Nat.zero_le _, Nat.zero_le _⟩ (fun r_17 (u9 : Unit) H locs hw_17 hP hD hS => ?_)
    subst hw_17
    have hP : va_P D vwCl (wM cI ad 1 n B P bs) H := hP
    have hD : va_D A (wM cI ad 1 n B P bs) := hD
    have ew_18 : 1 = (s_arc n B (nI k_d) (nI k_x) (nI k_y) g) := by first | rfl | (simp [oI_s, bI_t, bI_f, s_arc, c_1, hc_k_d, c_6, hc_k_x, c_11, hc_k_y, c_16]; done) | (simp [oI_s, bI_t, bI_f, s_arc, c_1, hc_k_d, c_6, hc_k_x, c_11, hc_k_y, c_16]; omega) | (simp only [s_arc]; (repeat' split) <;> first | rfl | omega | (simp_all; done) | (simp_all; omega))
    have ew_19 : n = (s_arn n B (nI k_d) (nI k_x) (nI k_y) g) := by first | rfl | (simp [oI_s, bI_t, bI_f, s_arn, s_arc, c_1, hc_k_d, c_6, hc_k_x, c_11, hc_k_y, c_16]; done) | (simp [oI_s, bI_t, bI_f, s_arn, s_arc, c_1, hc_k_d, c_6, hc_k_x, c_11, hc_k_y, c_16]; omega) | (simp only [s_arn, s_arc]; (repeat' split) <;> first | rfl | omega | (simp_all; done) | (simp_all; omega))
    have ew_20 : B = (s_arB n B (nI k_d) (nI k_x) (nI k_y) g) := by first | rfl | (simp [oI_s, bI_t, bI_f, s_arB, s_arc, c_1, hc_k_d, c_6, hc_k_x, c_11, hc_k_y, c_16]; done) | (simp [oI_s, bI_t, bI_f, s_arB, s_arc, c_1, hc_k_d, c_6, hc_k_x, c_11, hc_k_y, c_16]; omega) | (simp only [s_arB, s_arc]; (repeat' split) <;> first | rfl | omega | (simp_all; done) | (simp_all; omega))
    have hP : va_P D vwCl (wM cI ad (s_arc n B (nI k_d) (nI k_x) (nI k_y) g) (s_arn n B (nI k_d) (nI k_x) (nI k_y) g) (s_arB n B (nI k_d) (nI k_x) (nI k_y) g) P bs) H := by rw [← ew_18, ← ew_19, ← ew_20]; exact hP
    have hD : va_D A (wM cI ad (s_arc n B (nI k_d) (nI k_x) (nI k_y) g) (s_arn n B (nI k_d) (nI k_x) (nI k_y) g) (s_arB n B (nI k_d) (nI k_x) (nI k_y) g) P bs) := by rw [← ew_18, ← ew_19, ← ew_20]; exact hD
    exact W.iret (v := (nI (0))) hx hb hr (fun t ht hW => ⟨⟨_, (), rfl, (by first | rfl | (simp [oI_s, bI_t, bI_f, s_arv, s_arc, c_1, hc_k_d, c_6, hc_k_x, c_11, hc_k_y, c_16]; done) | (simp [oI_s, bI_t, bI_f, s_arv, s_arc, c_1, hc_k_d, c_6, hc_k_x, c_11, hc_k_y, c_16]; omega) | (simp only [s_arv, s_arc]; (repeat' split) <;> first | rfl | omega | (simp_all; done) | (simp_all; omega))), by rw [ht]; exact hP, va_K.moved hW.alike hK, hD⟩, hS.F ht⟩) hS.2.2 dX2_arrive_55
  obtain ⟨k_g, hk_ga, hk_gb, rfl⟩ := s_in_n (by decide) c_16
  have hc_k_g : (nI k_g).toNatClampNeg = k_g := nI_clamp (by omega)
  refine lv_aload_n hx hb dX2_arrive_41 rfl (lv_at hl 0 rfl) ?_
  refine lv_iload_n hx hb dX2_arrive_42 rfl (lv_at hl 1 rfl) ?_
  refine ro_V (As := [.int (nI (k_d))]) (v := (oI (s_dated (B 0) k_d n))) ⟨hx, hb, hml, hown, hts⟩ (kX2_dated l D cI ad th n B P bs k_d hB (by omega)) (cwV 1 hts gX2_arrive_X2_dated rfl rfl rfl hdX2_dated ⟨Nat.le_of_ble_eq_true rfl, Nat.le_of_ble_eq_true rfl⟩) hK hP (ci := 4) rfl (q0 := 0) rfl rfl rfl hl.1 rfl (Nat.le_of_ble_eq_true rfl) dX2_arrive_43 ⟨Nat.zero_le _, Nat.zero_le _⟩ ?_
  refine lv_iconst (v := (oI (none))) hx hb dX2_arrive_46 (by decide +kernel) ?_
  refine o_eq (tgt := 56) hx hb (s_dated_b hn10) dX2_arrive_47 (by decide) (fun c_21 => ?_) (fun kc_21 c_21 => ?_)
  · refine lv_aload_n hx hb dX2_arrive_56 rfl (lv_at hl 0 rfl) ?_
    refine va_get (D := D) (ci := 4) (v := .int (nI (n))) (C := RX2) (T := TX2) (N := 11) hx hb hts hin hown hK hP 0 rfl rfl 1 (by decide) hf_41 (fun _ h9 => h9) rfl dX2_arrive_57 ?_
    refine lv_bipush (v := (nI (10))) hx hb dX2_arrive_60 (by decide +kernel) ?_
    refine n_ne (tgt := 71) hx hb (by omega) (by omega) dX2_arrive_62 (by decide) (fun c_22 => ?_) (fun c_22 => ?_)
    · refine lv_aload_n hx hb dX2_arrive_71 rfl (lv_at hl 0 rfl) ?_
      refine va_get (D := D) (ci := 4) (v := .ref (ad 1)) (C := RX2) (T := TX2) (N := 11) hx hb hts hin hown hK hP 0 rfl rfl 2 (by decide) hf_7 (fun _ h9 => h9) rfl dX2_arrive_72 ?_
      refine lv_aload_n hx hb dX2_arrive_75 rfl (lv_at hl 0 rfl) ?_
      refine va_get (D := D) (ci := 4) (v := .int (nI (n))) (C := RX2) (T := TX2) (N := 11) hx hb hts hin hown hK hP 0 rfl rfl 1 (by decide) hf_41 (fun _ h9 => h9) rfl dX2_arrive_76 ?_
      refine lv_iload_n hx hb dX2_arrive_79 rfl (lv_at hl 1 rfl) ?_
      refine r_iast hx hb hK hP hD hS 1 0 rfl rfl (i := n) (by omega) (by decide) dX2_arrive_80 (ws' := (wM cI ad th n (b_up B 0 n k_d) P bs)) (nI_upd _ _ _) rfl (fun H locs hP hD hS => ?_)
      refine lv_aload_n hx hb dX2_arrive_81 rfl (lv_at hl 0 rfl) ?_
      refine va_get (D := D) (ci := 4) (v := .ref (ad 2)) (C := RX2) (T := TX2) (N := 11) hx hb hts hin hown hK hP 0 rfl rfl 3 (by decide) hf_13 (fun _ h9 => h9) rfl dX2_arrive_82 ?_
      refine lv_aload_n hx hb dX2_arrive_85 rfl (lv_at hl 0 rfl) ?_
      refine va_get (D := D) (ci := 4) (v := .int (nI (n))) (C := RX2) (T := TX2) (N := 11) hx hb hts hin hown hK hP 0 rfl rfl 1 (by decide) hf_41 (fun _ h9 => h9) rfl dX2_arrive_86 ?_
      refine lv_iload_n hx hb dX2_arrive_89 rfl (lv_at hl 2 rfl) ?_
      refine r_iast hx hb hK hP hD hS 2 0 rfl rfl (i := n) (by omega) (by decide) dX2_arrive_90 (ws' := (wM cI ad th n (b_up (b_up B 0 n k_d) 1 n k_x) P bs)) (nI_upd _ _ _) rfl (fun H locs hP hD hS => ?_)
      refine lv_aload_n hx hb dX2_arrive_91 rfl (lv_at hl 0 rfl) ?_
      refine va_get (D := D) (ci := 4) (v := .ref (ad 3)) (C := RX2) (T := TX2) (N := 11) hx hb hts hin hown hK hP 0 rfl rfl 4 (by decide) hf_16 (fun _ h9 => h9) rfl dX2_arrive_92 ?_
      refine lv_aload_n hx hb dX2_arrive_95 rfl (lv_at hl 0 rfl) ?_
      refine va_get (D := D) (ci := 4) (v := .int (nI (n))) (C := RX2) (T := TX2) (N := 11) hx hb hts hin hown hK hP 0 rfl rfl 1 (by decide) hf_41 (fun _ h9 => h9) rfl dX2_arrive_96 ?_
      refine lv_iload_n hx hb dX2_arrive_99 rfl (lv_at hl 3 rfl) ?_
      refine r_iast hx hb hK hP hD hS 3 0 rfl rfl (i := n) (by omega) (by decide) dX2_arrive_100 (ws' := (wM cI ad th n (b_up (b_up (b_up B 0 n k_d) 1 n k_x) 2 n k_y) P bs)) (nI_upd _ _ _) rfl (fun H locs hP hD hS => ?_)
      refine lv_aload_n hx hb dX2_arrive_101 rfl (lv_at hl 0 rfl) ?_
      refine va_get (D := D) (ci := 4) (v := .ref (ad 4)) (C := RX2) (T := TX2) (N := 11) hx hb hts hin hown hK hP 0 rfl rfl 5 (by decide) hf_19 (fun _ h9 => h9) rfl dX2_arrive_102 ?_
      refine lv_aload_n hx hb dX2_arrive_105 rfl (lv_at hl 0 rfl) ?_
      refine va_get (D := D) (ci := 4) (v := .int (nI (n))) (C := RX2) (T := TX2) (N := 11) hx hb hts hin hown hK hP 0 rfl rfl 1 (by decide) hf_41 (fun _ h9 => h9) rfl dX2_arrive_106 ?_
      refine lv_iload hx hb dX2_arrive_109 (lv_at hl 4 rfl) ?_
      refine r_iast hx hb hK hP hD hS 4 0 rfl rfl (i := n) (by omega) (by decide) dX2_arrive_111 (ws' := (wM cI ad th n (b_up (b_up (b_up (b_up B 0 n k_d) 1 n k_x) 2 n k_y) 3 n k_g) P bs)) (nI_upd _ _ _) rfl (fun H locs hP hD hS => ?_)
      refine lv_aload_n hx hb dX2_arrive_112 rfl (lv_at hl 0 rfl) ?_
      refine lv_dup hx hb dX2_arrive_113 rfl ?_
      refine va_get (D := D) (ci := 4) (v := .int (nI (n))) (C := RX2) (T := TX2) (N := 11) hx hb hts hin hown hK hP 0 rfl rfl 1 (by decide) hf_41 (fun _ h9 => h9) rfl dX2_arrive_114 ?_
      refine lv_iconst (v := (nI (1))) hx hb dX2_arrive_117 (by decide +kernel) ?_
      refine lv_iadd hx hb dX2_arrive_118 ?_
      refine n_top (y := (nI (n + 1))) (nI_add _ _) ?_
      refine va_put (D := D) (ci := 4) (v := .int (nI (n + 1))) (ty := .int) (C := RX2) (T := TX2) (N := 11) hx hb hts hin tyX2 tyX2_ok nmX2 hown hK hP hD hS 0 rfl rfl 1 (by decide) hf_41 (fun _ h9 => h9) rfl (by decide +kernel) rfl rfl (Nat.le_of_ble_eq_true rfl) dX2_arrive_119 (fun H locs hP hD hS => ?_)
      have hP : va_P D vwCl (wM cI ad th (n + 1) (b_up (b_up (b_up (b_up B 0 n k_d) 1 n k_x) 2 n k_y) 3 n k_g) P bs) H := hP
      have hD : va_D A (wM cI ad th (n + 1) (b_up (b_up (b_up (b_up B 0 n k_d) 1 n k_x) 2 n k_y) 3 n k_g) P bs) := hD
      refine lv_aload_n hx hb dX2_arrive_122 rfl (lv_at hl 0 rfl) ?_
      refine lv_aload_n hx hb dX2_arrive_123 rfl (lv_at hl 0 rfl) ?_
      refine va_get (D := D) (ci := 4) (v := .int (nI (n + 1))) (C := RX2) (T := TX2) (N := 11) hx hb hts hin hown hK hP 0 rfl rfl 1 (by decide) hf_41 (fun _ h9 => h9) rfl dX2_arrive_124 ?_
      refine lv_iconst (v := (nI (1))) hx hb dX2_arrive_127 (by decide +kernel) ?_
      refine lv_isub hx hb dX2_arrive_128 ?_
      refine n_top (y := (nI (n + 1 - 1))) (pk_sub (by omega)) ?_
      refine mo_V (wr := []) (As := [.int (nI (n + 1 - 1))]) ⟨hx, hb, hml, hown, hts⟩ (kX2_tells l D cI ad th (n + 1) (b_up (b_up (b_up (b_up B 0 n k_d) 1 n k_x) 2 n k_y) 3 n k_g) P bs H.size (nI (n + 1 - 1)) ) (cwV 1 hts gX2_arrive_X2_tells rfl rfl rfl hdX2_tells ⟨Nat.le_of_ble_eq_true rfl, Nat.le_of_ble_eq_true rfl⟩) hK hP hD hS hA (ci := 4) rfl (q0 := 0) rfl rfl rfl hl.1 rfl (Nat.le_of_ble_eq_true rfl) dX2_arrive_129 ⟨Nat.zero_le _, Nat.zero_le _⟩ (fun r_23 (u9 : Unit) H locs hw_23 hP hD hS => ?_)
      subst hw_23
      have hP : va_P D vwCl (wM cI ad 0 (n + 1) (b_up (b_up (b_up (b_up B 0 n k_d) 1 n k_x) 2 n k_y) 3 n k_g) P bs) H := hP
      have hD : va_D A (wM cI ad 0 (n + 1) (b_up (b_up (b_up (b_up B 0 n k_d) 1 n k_x) 2 n k_y) 3 n k_g) P bs) := hD
      have ew_24 : 0 = (s_arc n B (nI k_d) (nI k_x) (nI k_y) (nI k_g)) := by first | rfl | (simp [oI_s, bI_t, bI_f, s_arc, c_1, hc_k_d, c_6, hc_k_x, c_11, hc_k_y, c_16, hc_k_g, c_21, c_22]; done) | (simp [oI_s, bI_t, bI_f, s_arc, c_1, hc_k_d, c_6, hc_k_x, c_11, hc_k_y, c_16, hc_k_g, c_21, c_22]; omega) | (simp only [s_arc]; (repeat' split) <;> first | rfl | omega | (simp_all; done) | (simp_all; omega))
      have ew_25 : (n + 1) = (s_arn n B (nI k_d) (nI k_x) (nI k_y) (nI k_g)) := by first | rfl | (simp [oI_s, bI_t, bI_f, s_arn, s_arc, c_1, hc_k_d, c_6, hc_k_x, c_11, hc_k_y, c_16, hc_k_g, c_21, c_22]; done) | (simp [oI_s, bI_t, bI_f, s_arn, s_arc, c_1, hc_k_d, c_6, hc_k_x, c_11, hc_k_y, c_16, hc_k_g, c_21, c_22]; omega) | (simp only [s_arn, s_arc]; (repeat' split) <;> first | rfl | omega | (simp_all; done) | (simp_all; omega))
      have ew_26 : (b_up (b_up (b_up (b_up B 0 n k_d) 1 n k_x) 2 n k_y) 3 n k_g) = (s_arB n B (nI k_d) (nI k_x) (nI k_y) (nI k_g)) := by first | rfl | (simp [oI_s, bI_t, bI_f, s_arB, s_arc, c_1, hc_k_d, c_6, hc_k_x, c_11, hc_k_y, c_16, hc_k_g, c_21, c_22]; done) | (simp [oI_s, bI_t, bI_f, s_arB, s_arc, c_1, hc_k_d, c_6, hc_k_x, c_11, hc_k_y, c_16, hc_k_g, c_21, c_22]; omega) | (simp only [s_arB, s_arc]; (repeat' split) <;> first | rfl | omega | (simp_all; done) | (simp_all; omega))
      have hP : va_P D vwCl (wM cI ad (s_arc n B (nI k_d) (nI k_x) (nI k_y) (nI k_g)) (s_arn n B (nI k_d) (nI k_x) (nI k_y) (nI k_g)) (s_arB n B (nI k_d) (nI k_x) (nI k_y) (nI k_g)) P bs) H := by rw [← ew_24, ← ew_25, ← ew_26]; exact hP
      have hD : va_D A (wM cI ad (s_arc n B (nI k_d) (nI k_x) (nI k_y) (nI k_g)) (s_arn n B (nI k_d) (nI k_x) (nI k_y) (nI k_g)) (s_arB n B (nI k_d) (nI k_x) (nI k_y) (nI k_g)) P bs) := by rw [← ew_24, ← ew_25, ← ew_26]; exact hD
      exact W.iret (v := (nI (n + 1 - 1))) hx hb hr (fun t ht hW => ⟨⟨_, (), rfl, (by first | rfl | (simp [oI_s, bI_t, bI_f, s_arv, s_arc, c_1, hc_k_d, c_6, hc_k_x, c_11, hc_k_y, c_16, hc_k_g, c_21, c_22]; done) | (simp [oI_s, bI_t, bI_f, s_arv, s_arc, c_1, hc_k_d, c_6, hc_k_x, c_11, hc_k_y, c_16, hc_k_g, c_21, c_22]; omega) | (simp only [s_arv, s_arc]; (repeat' split) <;> first | rfl | omega | (simp_all; done) | (simp_all; omega))), by rw [ht]; exact hP, va_K.moved hW.alike hK, hD⟩, hS.F ht⟩) hS.2.2 dX2_arrive_132
    refine lv_aload_n hx hb dX2_arrive_65 rfl (lv_at hl 0 rfl) ?_
    refine lv_iconst (v := (nI (2))) hx hb dX2_arrive_66 (by decide +kernel) ?_
    refine mo_V (wr := []) (As := [.int (nI (2))]) ⟨hx, hb, hml, hown, hts⟩ (kX2_fails l D cI ad th n B P bs s.heap.size 2 ) (cwV 1 hts gX2_arrive_X2_fails rfl rfl rfl hdX2_fails ⟨Nat.le_of_ble_eq_true rfl, Nat.le_of_ble_eq_true rfl⟩) hK hP hD hS hA (ci := 4) rfl (q0 := 0) rfl rfl rfl hl.1 rfl (Nat.le_of_ble_eq_true rfl) dX2_arrive_67 ⟨Nat.zero_le _, Nat.zero_le _⟩ (fun r_27 (u9 : Unit) H locs hw_27 hP hD hS => ?_)
    subst hw_27
    have hP : va_P D vwCl (wM cI ad 2 n B P bs) H := hP
    have hD : va_D A (wM cI ad 2 n B P bs) := hD
    have ew_28 : 2 = (s_arc n B (nI k_d) (nI k_x) (nI k_y) (nI k_g)) := by first | rfl | (simp [oI_s, bI_t, bI_f, s_arc, c_1, hc_k_d, c_6, hc_k_x, c_11, hc_k_y, c_16, hc_k_g, c_21, c_22]; done) | (simp [oI_s, bI_t, bI_f, s_arc, c_1, hc_k_d, c_6, hc_k_x, c_11, hc_k_y, c_16, hc_k_g, c_21, c_22]; omega) | (simp only [s_arc]; (repeat' split) <;> first | rfl | omega | (simp_all; done) | (simp_all; omega))
    have ew_29 : n = (s_arn n B (nI k_d) (nI k_x) (nI k_y) (nI k_g)) := by first | rfl | (simp [oI_s, bI_t, bI_f, s_arn, s_arc, c_1, hc_k_d, c_6, hc_k_x, c_11, hc_k_y, c_16, hc_k_g, c_21, c_22]; done) | (simp [oI_s, bI_t, bI_f, s_arn, s_arc, c_1, hc_k_d, c_6, hc_k_x, c_11, hc_k_y, c_16, hc_k_g, c_21, c_22]; omega) | (simp only [s_arn, s_arc]; (repeat' split) <;> first | rfl | omega | (simp_all; done) | (simp_all; omega))
    have ew_30 : B = (s_arB n B (nI k_d) (nI k_x) (nI k_y) (nI k_g)) := by first | rfl | (simp [oI_s, bI_t, bI_f, s_arB, s_arc, c_1, hc_k_d, c_6, hc_k_x, c_11, hc_k_y, c_16, hc_k_g, c_21, c_22]; done) | (simp [oI_s, bI_t, bI_f, s_arB, s_arc, c_1, hc_k_d, c_6, hc_k_x, c_11, hc_k_y, c_16, hc_k_g, c_21, c_22]; omega) | (simp only [s_arB, s_arc]; (repeat' split) <;> first | rfl | omega | (simp_all; done) | (simp_all; omega))
    have hP : va_P D vwCl (wM cI ad (s_arc n B (nI k_d) (nI k_x) (nI k_y) (nI k_g)) (s_arn n B (nI k_d) (nI k_x) (nI k_y) (nI k_g)) (s_arB n B (nI k_d) (nI k_x) (nI k_y) (nI k_g)) P bs) H := by rw [← ew_28, ← ew_29, ← ew_30]; exact hP
    have hD : va_D A (wM cI ad (s_arc n B (nI k_d) (nI k_x) (nI k_y) (nI k_g)) (s_arn n B (nI k_d) (nI k_x) (nI k_y) (nI k_g)) (s_arB n B (nI k_d) (nI k_x) (nI k_y) (nI k_g)) P bs) := by rw [← ew_28, ← ew_29, ← ew_30]; exact hD
    exact W.iret (v := (nI (0))) hx hb hr (fun t ht hW => ⟨⟨_, (), rfl, (by first | rfl | (simp [oI_s, bI_t, bI_f, s_arv, s_arc, c_1, hc_k_d, c_6, hc_k_x, c_11, hc_k_y, c_16, hc_k_g, c_21, c_22]; done) | (simp [oI_s, bI_t, bI_f, s_arv, s_arc, c_1, hc_k_d, c_6, hc_k_x, c_11, hc_k_y, c_16, hc_k_g, c_21, c_22]; omega) | (simp only [s_arv, s_arc]; (repeat' split) <;> first | rfl | omega | (simp_all; done) | (simp_all; omega))), by rw [ht]; exact hP, va_K.moved hW.alike hK, hD⟩, hS.F ht⟩) hS.2.2 dX2_arrive_70
  refine lv_aload_n hx hb dX2_arrive_50 rfl (lv_at hl 0 rfl) ?_
  refine lv_iconst (v := (nI (1))) hx hb dX2_arrive_51 (by decide +kernel) ?_
  refine mo_V (wr := []) (As := [.int (nI (1))]) ⟨hx, hb, hml, hown, hts⟩ (kX2_fails l D cI ad th n B P bs s.heap.size 1 ) (cwV 1 hts gX2_arrive_X2_fails rfl rfl rfl hdX2_fails ⟨Nat.le_of_ble_eq_true rfl, Nat.le_of_ble_eq_true rfl⟩) hK hP hD hS hA (ci := 4) rfl (q0 := 0) rfl rfl rfl hl.1 rfl (Nat.le_of_ble_eq_true rfl) dX2_arrive_52 ⟨Nat.zero_le _, Nat.zero_le _⟩ (fun r_31 (u9 : Unit) H locs hw_31 hP hD hS => ?_)
  subst hw_31
  have hP : va_P D vwCl (wM cI ad 1 n B P bs) H := hP
  have hD : va_D A (wM cI ad 1 n B P bs) := hD
  have ew_32 : 1 = (s_arc n B (nI k_d) (nI k_x) (nI k_y) (nI k_g)) := by first | rfl | (simp [oI_s, bI_t, bI_f, s_arc, c_1, hc_k_d, c_6, hc_k_x, c_11, hc_k_y, c_16, hc_k_g, c_21]; done) | (simp [oI_s, bI_t, bI_f, s_arc, c_1, hc_k_d, c_6, hc_k_x, c_11, hc_k_y, c_16, hc_k_g, c_21]; omega) | (simp only [s_arc]; (repeat' split) <;> first | rfl | omega | (simp_all; done) | (simp_all; omega))
  have ew_33 : n = (s_arn n B (nI k_d) (nI k_x) (nI k_y) (nI k_g)) := by first | rfl | (simp [oI_s, bI_t, bI_f, s_arn, s_arc, c_1, hc_k_d, c_6, hc_k_x, c_11, hc_k_y, c_16, hc_k_g, c_21]; done) | (simp [oI_s, bI_t, bI_f, s_arn, s_arc, c_1, hc_k_d, c_6, hc_k_x, c_11, hc_k_y, c_16, hc_k_g, c_21]; omega) | (simp only [s_arn, s_arc]; (repeat' split) <;> first | rfl | omega | (simp_all; done) | (simp_all; omega))
  have ew_34 : B = (s_arB n B (nI k_d) (nI k_x) (nI k_y) (nI k_g)) := by first | rfl | (simp [oI_s, bI_t, bI_f, s_arB, s_arc, c_1, hc_k_d, c_6, hc_k_x, c_11, hc_k_y, c_16, hc_k_g, c_21]; done) | (simp [oI_s, bI_t, bI_f, s_arB, s_arc, c_1, hc_k_d, c_6, hc_k_x, c_11, hc_k_y, c_16, hc_k_g, c_21]; omega) | (simp only [s_arB, s_arc]; (repeat' split) <;> first | rfl | omega | (simp_all; done) | (simp_all; omega))
  have hP : va_P D vwCl (wM cI ad (s_arc n B (nI k_d) (nI k_x) (nI k_y) (nI k_g)) (s_arn n B (nI k_d) (nI k_x) (nI k_y) (nI k_g)) (s_arB n B (nI k_d) (nI k_x) (nI k_y) (nI k_g)) P bs) H := by rw [← ew_32, ← ew_33, ← ew_34]; exact hP
  have hD : va_D A (wM cI ad (s_arc n B (nI k_d) (nI k_x) (nI k_y) (nI k_g)) (s_arn n B (nI k_d) (nI k_x) (nI k_y) (nI k_g)) (s_arB n B (nI k_d) (nI k_x) (nI k_y) (nI k_g)) P bs) := by rw [← ew_32, ← ew_33, ← ew_34]; exact hD
  exact W.iret (v := (nI (0))) hx hb hr (fun t ht hW => ⟨⟨_, (), rfl, (by first | rfl | (simp [oI_s, bI_t, bI_f, s_arv, s_arc, c_1, hc_k_d, c_6, hc_k_x, c_11, hc_k_y, c_16, hc_k_g, c_21]; done) | (simp [oI_s, bI_t, bI_f, s_arv, s_arc, c_1, hc_k_d, c_6, hc_k_x, c_11, hc_k_y, c_16, hc_k_g, c_21]; omega) | (simp only [s_arv, s_arc]; (repeat' split) <;> first | rfl | omega | (simp_all; done) | (simp_all; omega))), by rw [ht]; exact hP, va_K.moved hW.alike hK, hD⟩, hS.F ht⟩) hS.2.2 dX2_arrive_55
theorem hdX2_arrive : yX2_arrive.cls = RX2 ∧ yX2_arrive.cls ≠ "java/lang/invoke/MethodHandle" ∧ yX2_arrive.cls ≠ "java/lang/invoke/VarHandle" ∧ (parseMethodDescriptor yX2_arrive.desc).map (fun d => d.parameters.length) = some 4 := by decide +kernel
set_option maxHeartbeats 4000000 in
set_option maxRecDepth 100000 in
theorem kX2_addLine (l : Launch) (D : va_G) (cI : ClassId) (ad : Nat → Nat) (th : Nat) (n : Nat) (B : Nat → Nat → Nat) (P : Nat → Option Nat) (bs : Nat → Nat) (sz : Nat) (u : Int32) (k : Int32) (w : Int32) (hB : Bok n B) : Met l yX2_addLine wsX2_addLine ({ frames := 2, cells := 0, slots := 0, locals := 43 }) (PcM D [(cI, .int)] (wM cI ad th n B P bs) sz [.ref (ad 0), .int (u), .int (k), .int (w)]) (va_Qi (fun (r : Int32) (u9 : Unit) => r = (nI (s_adv n B u k w))) (fun (u9 : Unit) t => AtW D [(cI, .int)] (va_A (wM cI ad th n B P bs) sz) (wM cI ad (s_adc n B u k w) n (s_adB n B u k w) P bs) t) (va_A (wM cI ad th n B P bs) sz)) 0 0 (va_A (wM cI ad th n B P bs) sz) := by
  refine Met.ofW (cc := cX2_addLine) (maxL := 4) (ret := (some .int)) (by decide) rfl ?_
  intro p e s m args below meth c s₁ BL hml hv
  obtain ⟨rfl, hsz, hP, hK, hD0⟩ := hv
  have hx := BL.exec
  have hb := BL.bytes
  have hr := BL.returns
  have hts := atoms_spec (ws := wsX2_addLine) BL.pre
  have hown : s.vm.findClass RX2 = some m.cls := findClass_of_methodNamed BL.named
  have hlocks := BL.notSynchronized
  have hin : ∀ w ∈ wsX20, w ∈ wsX2_addLine := by decide +kernel
  have hf_22 := hts (.fieldLink RX2 22 "TalkRebuilderModel" "many" "[I") (by decide +kernel)
  have hf_25 := hts (.fieldLink RX2 25 "TalkRebuilderModel" "marks" "[I") (by decide +kernel)
  have hf_28 := hts (.fieldLink RX2 28 "TalkRebuilderModel" "words" "[I") (by decide +kernel)
  have hl := lv_entry ([.ref (ad 0), .int (u), .int (k), .int (w)]) (n := 4) (Nat.le_of_ble_eq_true rfl)
  rw [lg_entry_eq]
  generalize (lg_sl ([.ref (ad 0), .int (u), .int (k), .int (w)]) ++ List.replicate (4 - (lg_sl ([.ref (ad 0), .int (u), .int (k), .int (w)])).length) Slot.unset).toArray = ls at hl ⊢
  have hl : lv_has ls 4 [(0, .ref (ad 0)), (1, .int (u)), (2, .int (k)), (3, .int (w))] := hl
  subst hsz
  have hD := hD0.self (sz := s.heap.size)
  generalize hAe : va_A (wM cI ad th n B P bs) s.heap.size = A at hD ⊢
  have hA : ∀ q : Nat, s.heap.size ≤ q → A q := fun q h => by rw [← hAe]; exact Or.inr h
  have hS : va_S A s.heap s.heap [] := va_S.rf
  have hP : va_P D vwCl (wM cI ad th n B P bs) s.heap := hP
  have hD : va_D A (wM cI ad th n B P bs) := hD
  have hn10 := hB.1
  refine lv_aload_n hx hb dX2_addLine_0 rfl (lv_at hl 0 rfl) ?_
  refine lv_iload_n hx hb dX2_addLine_1 rfl (lv_at hl 1 rfl) ?_
  refine ro_V (As := [.int (u)]) (v := (bI (s_ism n u))) ⟨hx, hb, hml, hown, hts⟩ (kX2_isMail l D cI ad th n B P bs (u) hB) (cwV 1 hts gX2_addLine_X2_isMail rfl rfl rfl hdX2_isMail ⟨Nat.le_of_ble_eq_true rfl, Nat.le_of_ble_eq_true rfl⟩) hK hP (ci := 4) rfl (q0 := 0) rfl rfl rfl hl.1 rfl (Nat.le_of_ble_eq_true rfl) dX2_addLine_2 ⟨Nat.zero_le _, Nat.zero_le _⟩ ?_
  refine y_ne (tgt := 14) hx hb dX2_addLine_5 (by decide) (fun c_1 => ?_) (fun c_1 => ?_)
  · obtain ⟨k_u, hk_u, rfl⟩ := s_ism_t hB.1 c_1
    have hc_k_u : (nI k_u).toNatClampNeg = k_u := nI_clamp (by omega)
    refine lv_iload_n hx hb dX2_addLine_14 rfl (lv_at hl 2 rfl) ?_
    refine lv_iconst (v := (nI (0))) hx hb dX2_addLine_15 (by decide +kernel) ?_
    refine lv_iconst (v := (nI (3))) hx hb dX2_addLine_16 (by decide +kernel) ?_
    refine ro_S (As := [.int (k), .int (nI (0)), .int (nI (3))]) (v := (bI (s_in k (nI (0)) (nI (3))))) ⟨hx, hb, hml, hown, hts⟩ (kX2_in l (k) (nI (0)) (nI (3)) ) (va_cwS 3 hts gX2_addLine_X2_in rfl rfl rfl hsX2_in ⟨Nat.le_of_ble_eq_true rfl, Nat.le_of_ble_eq_true rfl⟩) rfl hl.1 rfl (Nat.le_of_ble_eq_true rfl) dX2_addLine_17 ⟨Nat.zero_le _, Nat.zero_le _⟩ ?_
    refine y_eq (tgt := 33) hx hb dX2_addLine_20 (by decide) (fun c_2 => ?_) (fun c_2 => ?_)
    · refine lv_aload_n hx hb dX2_addLine_33 rfl (lv_at hl 0 rfl) ?_
      refine lv_iconst (v := (nI (2))) hx hb dX2_addLine_34 (by decide +kernel) ?_
      refine mo_V (wr := []) (As := [.int (nI (2))]) ⟨hx, hb, hml, hown, hts⟩ (kX2_fails l D cI ad th n B P bs s.heap.size 2 ) (cwV 1 hts gX2_addLine_X2_fails rfl rfl rfl hdX2_fails ⟨Nat.le_of_ble_eq_true rfl, Nat.le_of_ble_eq_true rfl⟩) hK hP hD hS hA (ci := 4) rfl (q0 := 0) rfl rfl rfl hl.1 rfl (Nat.le_of_ble_eq_true rfl) dX2_addLine_35 ⟨Nat.zero_le _, Nat.zero_le _⟩ (fun r_3 (u9 : Unit) H locs hw_3 hP hD hS => ?_)
      subst hw_3
      have hP : va_P D vwCl (wM cI ad 2 n B P bs) H := hP
      have hD : va_D A (wM cI ad 2 n B P bs) := hD
      have ew_4 : 2 = (s_adc n B (nI k_u) k w) := by first | rfl | (simp [oI_s, bI_t, bI_f, s_adc, c_1, hc_k_u, c_2]; done) | (simp [oI_s, bI_t, bI_f, s_adc, c_1, hc_k_u, c_2]; omega) | (simp only [s_adc]; (repeat' split) <;> first | rfl | omega | (simp_all; done) | (simp_all; omega))
      have ew_5 : B = (s_adB n B (nI k_u) k w) := by first | rfl | (simp [oI_s, bI_t, bI_f, s_adB, s_adc, c_1, hc_k_u, c_2]; done) | (simp [oI_s, bI_t, bI_f, s_adB, s_adc, c_1, hc_k_u, c_2]; omega) | (simp only [s_adB, s_adc]; (repeat' split) <;> first | rfl | omega | (simp_all; done) | (simp_all; omega))
      have hP : va_P D vwCl (wM cI ad (s_adc n B (nI k_u) k w) n (s_adB n B (nI k_u) k w) P bs) H := by rw [← ew_4, ← ew_5]; exact hP
      have hD : va_D A (wM cI ad (s_adc n B (nI k_u) k w) n (s_adB n B (nI k_u) k w) P bs) := by rw [← ew_4, ← ew_5]; exact hD
      exact W.iret (v := (nI (0))) hx hb hr (fun t ht hW => ⟨⟨_, (), rfl, (by first | rfl | (simp [oI_s, bI_t, bI_f, s_adv, s_adc, c_1, hc_k_u, c_2]; done) | (simp [oI_s, bI_t, bI_f, s_adv, s_adc, c_1, hc_k_u, c_2]; omega) | (simp only [s_adv, s_adc]; (repeat' split) <;> first | rfl | omega | (simp_all; done) | (simp_all; omega))), by rw [ht]; exact hP, va_K.moved hW.alike hK, hD⟩, hS.F ht⟩) hS.2.2 dX2_addLine_38
    obtain ⟨k_k, hk_ka, hk_kb, rfl⟩ := s_in_n (by decide) c_2
    have hc_k_k : (nI k_k).toNatClampNeg = k_k := nI_clamp (by omega)
    refine lv_iload_n hx hb dX2_addLine_23 rfl (lv_at hl 3 rfl) ?_
    refine lv_iconst (v := (nI (1))) hx hb dX2_addLine_24 (by decide +kernel) ?_
    refine lv_bipush (v := (nI (99))) hx hb dX2_addLine_25 (by decide +kernel) ?_
    refine ro_S (As := [.int (w), .int (nI (1)), .int (nI (99))]) (v := (bI (s_in w (nI (1)) (nI (99))))) ⟨hx, hb, hml, hown, hts⟩ (kX2_in l (w) (nI (1)) (nI (99)) ) (va_cwS 3 hts gX2_addLine_X2_in rfl rfl rfl hsX2_in ⟨Nat.le_of_ble_eq_true rfl, Nat.le_of_ble_eq_true rfl⟩) rfl hl.1 rfl (Nat.le_of_ble_eq_true rfl) dX2_addLine_27 ⟨Nat.zero_le _, Nat.zero_le _⟩ ?_
    refine y_ne (tgt := 39) hx hb dX2_addLine_30 (by decide) (fun c_6 => ?_) (fun c_6 => ?_)
    · obtain ⟨k_w, hk_wa, hk_wb, rfl⟩ := s_in_n (by decide) c_6
      have hc_k_w : (nI k_w).toNatClampNeg = k_w := nI_clamp (by omega)
      refine lv_aload_n hx hb dX2_addLine_39 rfl (lv_at hl 0 rfl) ?_
      refine va_get (D := D) (ci := 4) (v := .ref (ad 5)) (C := RX2) (T := TX2) (N := 11) hx hb hts hin hown hK hP 0 rfl rfl 6 (by decide) hf_22 (fun _ h9 => h9) rfl dX2_addLine_40 ?_
      refine lv_iload_n hx hb dX2_addLine_43 rfl (lv_at hl 1 rfl) ?_
      refine n_iald hx hb hK hP 5 0 rfl rfl (i := k_u) (by omega) (by decide) dX2_addLine_44 ?_
      have hq_7 := hB.2.2.1 k_u
      refine lv_bipush (v := (nI (8))) hx hb dX2_addLine_45 (by decide +kernel) ?_
      refine n_ne (tgt := 56) hx hb (by omega) (by omega) dX2_addLine_47 (by decide) (fun c_8 => ?_) (fun c_8 => ?_)
      · refine lv_aload_n hx hb dX2_addLine_56 rfl (lv_at hl 0 rfl) ?_
        refine va_get (D := D) (ci := 4) (v := .ref (ad 6)) (C := RX2) (T := TX2) (N := 11) hx hb hts hin hown hK hP 0 rfl rfl 7 (by decide) hf_25 (fun _ h9 => h9) rfl dX2_addLine_57 ?_
        refine lv_bipush (v := (nI (8))) hx hb dX2_addLine_60 (by decide +kernel) ?_
        refine lv_iload_n hx hb dX2_addLine_62 rfl (lv_at hl 1 rfl) ?_
        refine lv_imul hx hb dX2_addLine_63 ?_
        refine n_top (y := (nI (8 * k_u))) (pk_mul _ _) ?_
        refine lv_aload_n hx hb dX2_addLine_64 rfl (lv_at hl 0 rfl) ?_
        refine va_get (D := D) (ci := 4) (v := .ref (ad 5)) (C := RX2) (T := TX2) (N := 11) hx hb hts hin hown hK hP 0 rfl rfl 6 (by decide) hf_22 (fun _ h9 => h9) rfl dX2_addLine_65 ?_
        refine lv_iload_n hx hb dX2_addLine_68 rfl (lv_at hl 1 rfl) ?_
        refine n_iald hx hb hK hP 5 0 rfl rfl (i := k_u) (by omega) (by decide) dX2_addLine_69 ?_
        have hq_9 := hB.2.2.1 k_u
        refine lv_iadd hx hb dX2_addLine_70 ?_
        refine n_top (y := (nI (8 * k_u + (B 4 k_u)))) (nI_add _ _) ?_
        refine lv_iload_n hx hb dX2_addLine_71 rfl (lv_at hl 2 rfl) ?_
        refine r_iast hx hb hK hP hD hS 6 0 rfl rfl (i := 8 * k_u + (B 4 k_u)) (by omega) (by decide) dX2_addLine_72 (ws' := (wM cI ad th n (b_up B 5 (8 * k_u + (B 4 k_u)) k_k) P bs)) (nI_upd _ _ _) rfl (fun H locs hP hD hS => ?_)
        refine lv_aload_n hx hb dX2_addLine_73 rfl (lv_at hl 0 rfl) ?_
        refine va_get (D := D) (ci := 4) (v := .ref (ad 7)) (C := RX2) (T := TX2) (N := 11) hx hb hts hin hown hK hP 0 rfl rfl 8 (by decide) hf_28 (fun _ h9 => h9) rfl dX2_addLine_74 ?_
        refine lv_bipush (v := (nI (8))) hx hb dX2_addLine_77 (by decide +kernel) ?_
        refine lv_iload_n hx hb dX2_addLine_79 rfl (lv_at hl 1 rfl) ?_
        refine lv_imul hx hb dX2_addLine_80 ?_
        refine n_top (y := (nI (8 * k_u))) (pk_mul _ _) ?_
        refine lv_aload_n hx hb dX2_addLine_81 rfl (lv_at hl 0 rfl) ?_
        refine va_get (D := D) (ci := 4) (v := .ref (ad 5)) (C := RX2) (T := TX2) (N := 11) hx hb hts hin hown hK hP 0 rfl rfl 6 (by decide) hf_22 (fun _ h9 => h9) rfl dX2_addLine_82 ?_
        refine lv_iload_n hx hb dX2_addLine_85 rfl (lv_at hl 1 rfl) ?_
        refine n_iald hx hb hK hP 5 0 rfl rfl (i := k_u) (by omega) (by decide) dX2_addLine_86 ?_
        have hq_10 := hB.2.2.1 k_u
        refine n_top (y := (nI (B 4 k_u))) (rfl) ?_
        refine lv_iadd hx hb dX2_addLine_87 ?_
        refine n_top (y := (nI (8 * k_u + (B 4 k_u)))) (nI_add _ _) ?_
        refine lv_iload_n hx hb dX2_addLine_88 rfl (lv_at hl 3 rfl) ?_
        refine r_iast hx hb hK hP hD hS 7 0 rfl rfl (i := 8 * k_u + (B 4 k_u)) (by omega) (by decide) dX2_addLine_89 (ws' := (wM cI ad th n (b_up (b_up B 5 (8 * k_u + (B 4 k_u)) k_k) 6 (8 * k_u + (B 4 k_u)) k_w) P bs)) (nI_upd _ _ _) rfl (fun H locs hP hD hS => ?_)
        refine lv_aload_n hx hb dX2_addLine_90 rfl (lv_at hl 0 rfl) ?_
        refine va_get (D := D) (ci := 4) (v := .ref (ad 5)) (C := RX2) (T := TX2) (N := 11) hx hb hts hin hown hK hP 0 rfl rfl 6 (by decide) hf_22 (fun _ h9 => h9) rfl dX2_addLine_91 ?_
        refine lv_iload_n hx hb dX2_addLine_94 rfl (lv_at hl 1 rfl) ?_
        refine lv_dup2_11 hx hb dX2_addLine_95 rfl rfl ?_
        refine n_iald hx hb hK hP 5 0 rfl rfl (i := k_u) (by omega) (by decide) dX2_addLine_96 ?_
        have hq_11 := hB.2.2.1 k_u
        refine n_top (y := (nI (B 4 k_u))) (rfl) ?_
        refine lv_iconst (v := (nI (1))) hx hb dX2_addLine_97 (by decide +kernel) ?_
        refine lv_iadd hx hb dX2_addLine_98 ?_
        refine n_top (y := (nI (B 4 k_u + 1))) (nI_add _ _) ?_
        refine r_iast hx hb hK hP hD hS 5 0 rfl rfl (i := k_u) (by omega) (by decide) dX2_addLine_99 (ws' := (wM cI ad th n (b_up (b_up (b_up B 5 (8 * k_u + (B 4 k_u)) k_k) 6 (8 * k_u + (B 4 k_u)) k_w) 4 k_u (B 4 k_u + 1)) P bs)) (nI_upd _ _ _) rfl (fun H locs hP hD hS => ?_)
        refine lv_aload_n hx hb dX2_addLine_100 rfl (lv_at hl 0 rfl) ?_
        refine lv_aload_n hx hb dX2_addLine_101 rfl (lv_at hl 0 rfl) ?_
        refine va_get (D := D) (ci := 4) (v := .ref (ad 5)) (C := RX2) (T := TX2) (N := 11) hx hb hts hin hown hK hP 0 rfl rfl 6 (by decide) hf_22 (fun _ h9 => h9) rfl dX2_addLine_102 ?_
        refine lv_iload_n hx hb dX2_addLine_105 rfl (lv_at hl 1 rfl) ?_
        refine n_iald hx hb hK hP 5 0 rfl rfl (i := k_u) (by omega) (by decide) dX2_addLine_106 ?_
        have hq_12 := hB.2.2.1 k_u
        refine n_top (y := (nI (B 4 k_u + 1))) (by simp [b_up, va_up]) ?_
        refine mo_V (wr := []) (As := [.int (nI (B 4 k_u + 1))]) ⟨hx, hb, hml, hown, hts⟩ (kX2_tells l D cI ad th n (b_up (b_up (b_up B 5 (8 * k_u + (B 4 k_u)) k_k) 6 (8 * k_u + (B 4 k_u)) k_w) 4 k_u (B 4 k_u + 1)) P bs H.size (nI (B 4 k_u + 1)) ) (cwV 1 hts gX2_addLine_X2_tells rfl rfl rfl hdX2_tells ⟨Nat.le_of_ble_eq_true rfl, Nat.le_of_ble_eq_true rfl⟩) hK hP hD hS hA (ci := 4) rfl (q0 := 0) rfl rfl rfl hl.1 rfl (Nat.le_of_ble_eq_true rfl) dX2_addLine_107 ⟨Nat.zero_le _, Nat.zero_le _⟩ (fun r_13 (u9 : Unit) H locs hw_13 hP hD hS => ?_)
        subst hw_13
        have hP : va_P D vwCl (wM cI ad 0 n (b_up (b_up (b_up B 5 (8 * k_u + (B 4 k_u)) k_k) 6 (8 * k_u + (B 4 k_u)) k_w) 4 k_u (B 4 k_u + 1)) P bs) H := hP
        have hD : va_D A (wM cI ad 0 n (b_up (b_up (b_up B 5 (8 * k_u + (B 4 k_u)) k_k) 6 (8 * k_u + (B 4 k_u)) k_w) 4 k_u (B 4 k_u + 1)) P bs) := hD
        have ew_14 : 0 = (s_adc n B (nI k_u) (nI k_k) (nI k_w)) := by first | rfl | (simp [oI_s, bI_t, bI_f, s_adc, c_1, hc_k_u, c_2, hc_k_k, c_6, hc_k_w, c_8]; done) | (simp [oI_s, bI_t, bI_f, s_adc, c_1, hc_k_u, c_2, hc_k_k, c_6, hc_k_w, c_8]; omega) | (simp only [s_adc]; (repeat' split) <;> first | rfl | omega | (simp_all; done) | (simp_all; omega))
        have ew_15 : (b_up (b_up (b_up B 5 (8 * k_u + (B 4 k_u)) k_k) 6 (8 * k_u + (B 4 k_u)) k_w) 4 k_u (B 4 k_u + 1)) = (s_adB n B (nI k_u) (nI k_k) (nI k_w)) := by first | rfl | (simp [oI_s, bI_t, bI_f, s_adB, s_adc, c_1, hc_k_u, c_2, hc_k_k, c_6, hc_k_w, c_8]; done) | (simp [oI_s, bI_t, bI_f, s_adB, s_adc, c_1, hc_k_u, c_2, hc_k_k, c_6, hc_k_w, c_8]; omega) | (simp only [s_adB, s_adc]; (repeat' split) <;> first | rfl | omega | (simp_all; done) | (simp_all; omega))
        have hP : va_P D vwCl (wM cI ad (s_adc n B (nI k_u) (nI k_k) (nI k_w)) n (s_adB n B (nI k_u) (nI k_k) (nI k_w)) P bs) H := by rw [← ew_14, ← ew_15]; exact hP
        have hD : va_D A (wM cI ad (s_adc n B (nI k_u) (nI k_k) (nI k_w)) n (s_adB n B (nI k_u) (nI k_k) (nI k_w)) P bs) := by rw [← ew_14, ← ew_15]; exact hD
        exact W.iret (v := (nI (B 4 k_u + 1))) hx hb hr (fun t ht hW => ⟨⟨_, (), rfl, (by first | rfl | (simp [oI_s, bI_t, bI_f, s_adv, s_adc, c_1, hc_k_u, c_2, hc_k_k, c_6, hc_k_w, c_8]; done) | (simp [oI_s, bI_t, bI_f, s_adv, s_adc, c_1, hc_k_u, c_2, hc_k_k, c_6, hc_k_w, c_8]; omega) | (simp only [s_adv, s_adc]; (repeat' split) <;> first | rfl | omega | (simp_all; done) | (simp_all; omega))), by rw [ht]; exact hP, va_K.moved hW.alike hK, hD⟩, hS.F ht⟩) hS.2.2 dX2_addLine_110
      refine lv_aload_n hx hb dX2_addLine_50 rfl (lv_at hl 0 rfl) ?_
      refine lv_iconst (v := (nI (3))) hx hb dX2_addLine_51 (by decide +kernel) ?_
      refine mo_V (wr := []) (As := [.int (nI (3))]) ⟨hx, hb, hml, hown, hts⟩ (kX2_fails l D cI ad th n B P bs s.heap.size 3 ) (cwV 1 hts gX2_addLine_X2_fails rfl rfl rfl hdX2_fails ⟨Nat.le_of_ble_eq_true rfl, Nat.le_of_ble_eq_true rfl⟩) hK hP hD hS hA (ci := 4) rfl (q0 := 0) rfl rfl rfl hl.1 rfl (Nat.le_of_ble_eq_true rfl) dX2_addLine_52 ⟨Nat.zero_le _, Nat.zero_le _⟩ (fun r_16 (u9 : Unit) H locs hw_16 hP hD hS => ?_)
      subst hw_16
      have hP : va_P D vwCl (wM cI ad 3 n B P bs) H := hP
      have hD : va_D A (wM cI ad 3 n B P bs) := hD
      have ew_17 : 3 = (s_adc n B (nI k_u) (nI k_k) (nI k_w)) := by first | rfl | (simp [oI_s, bI_t, bI_f, s_adc, c_1, hc_k_u, c_2, hc_k_k, c_6, hc_k_w, c_8]; done) | (simp [oI_s, bI_t, bI_f, s_adc, c_1, hc_k_u, c_2, hc_k_k, c_6, hc_k_w, c_8]; omega) | (simp only [s_adc]; (repeat' split) <;> first | rfl | omega | (simp_all; done) | (simp_all; omega))
      have ew_18 : B = (s_adB n B (nI k_u) (nI k_k) (nI k_w)) := by first | rfl | (simp [oI_s, bI_t, bI_f, s_adB, s_adc, c_1, hc_k_u, c_2, hc_k_k, c_6, hc_k_w, c_8]; done) | (simp [oI_s, bI_t, bI_f, s_adB, s_adc, c_1, hc_k_u, c_2, hc_k_k, c_6, hc_k_w, c_8]; omega) | (simp only [s_adB, s_adc]; (repeat' split) <;> first | rfl | omega | (simp_all; done) | (simp_all; omega))
      have hP : va_P D vwCl (wM cI ad (s_adc n B (nI k_u) (nI k_k) (nI k_w)) n (s_adB n B (nI k_u) (nI k_k) (nI k_w)) P bs) H := by rw [← ew_17, ← ew_18]; exact hP
      have hD : va_D A (wM cI ad (s_adc n B (nI k_u) (nI k_k) (nI k_w)) n (s_adB n B (nI k_u) (nI k_k) (nI k_w)) P bs) := by rw [← ew_17, ← ew_18]; exact hD
      exact W.iret (v := (nI (0))) hx hb hr (fun t ht hW => ⟨⟨_, (), rfl, (by first | rfl | (simp [oI_s, bI_t, bI_f, s_adv, s_adc, c_1, hc_k_u, c_2, hc_k_k, c_6, hc_k_w, c_8]; done) | (simp [oI_s, bI_t, bI_f, s_adv, s_adc, c_1, hc_k_u, c_2, hc_k_k, c_6, hc_k_w, c_8]; omega) | (simp only [s_adv, s_adc]; (repeat' split) <;> first | rfl | omega | (simp_all; done) | (simp_all; omega))), by rw [ht]; exact hP, va_K.moved hW.alike hK, hD⟩, hS.F ht⟩) hS.2.2 dX2_addLine_55
    refine lv_aload_n hx hb dX2_addLine_33 rfl (lv_at hl 0 rfl) ?_
    refine lv_iconst (v := (nI (2))) hx hb dX2_addLine_34 (by decide +kernel) ?_
    refine mo_V (wr := []) (As := [.int (nI (2))]) ⟨hx, hb, hml, hown, hts⟩ (kX2_fails l D cI ad th n B P bs s.heap.size 2 ) (cwV 1 hts gX2_addLine_X2_fails rfl rfl rfl hdX2_fails ⟨Nat.le_of_ble_eq_true rfl, Nat.le_of_ble_eq_true rfl⟩) hK hP hD hS hA (ci := 4) rfl (q0 := 0) rfl rfl rfl hl.1 rfl (Nat.le_of_ble_eq_true rfl) dX2_addLine_35 ⟨Nat.zero_le _, Nat.zero_le _⟩ (fun r_19 (u9 : Unit) H locs hw_19 hP hD hS => ?_)
    subst hw_19
    have hP : va_P D vwCl (wM cI ad 2 n B P bs) H := hP
    have hD : va_D A (wM cI ad 2 n B P bs) := hD
    have ew_20 : 2 = (s_adc n B (nI k_u) (nI k_k) w) := by first | rfl | (simp [oI_s, bI_t, bI_f, s_adc, c_1, hc_k_u, c_2, hc_k_k, c_6]; done) | (simp [oI_s, bI_t, bI_f, s_adc, c_1, hc_k_u, c_2, hc_k_k, c_6]; omega) | (simp only [s_adc]; (repeat' split) <;> first | rfl | omega | (simp_all; done) | (simp_all; omega))
    have ew_21 : B = (s_adB n B (nI k_u) (nI k_k) w) := by first | rfl | (simp [oI_s, bI_t, bI_f, s_adB, s_adc, c_1, hc_k_u, c_2, hc_k_k, c_6]; done) | (simp [oI_s, bI_t, bI_f, s_adB, s_adc, c_1, hc_k_u, c_2, hc_k_k, c_6]; omega) | (simp only [s_adB, s_adc]; (repeat' split) <;> first | rfl | omega | (simp_all; done) | (simp_all; omega))
    have hP : va_P D vwCl (wM cI ad (s_adc n B (nI k_u) (nI k_k) w) n (s_adB n B (nI k_u) (nI k_k) w) P bs) H := by rw [← ew_20, ← ew_21]; exact hP
    have hD : va_D A (wM cI ad (s_adc n B (nI k_u) (nI k_k) w) n (s_adB n B (nI k_u) (nI k_k) w) P bs) := by rw [← ew_20, ← ew_21]; exact hD
    exact W.iret (v := (nI (0))) hx hb hr (fun t ht hW => ⟨⟨_, (), rfl, (by first | rfl | (simp [oI_s, bI_t, bI_f, s_adv, s_adc, c_1, hc_k_u, c_2, hc_k_k, c_6]; done) | (simp [oI_s, bI_t, bI_f, s_adv, s_adc, c_1, hc_k_u, c_2, hc_k_k, c_6]; omega) | (simp only [s_adv, s_adc]; (repeat' split) <;> first | rfl | omega | (simp_all; done) | (simp_all; omega))), by rw [ht]; exact hP, va_K.moved hW.alike hK, hD⟩, hS.F ht⟩) hS.2.2 dX2_addLine_38
  refine lv_aload_n hx hb dX2_addLine_8 rfl (lv_at hl 0 rfl) ?_
  refine lv_iconst (v := (nI (1))) hx hb dX2_addLine_9 (by decide +kernel) ?_
  refine mo_V (wr := []) (As := [.int (nI (1))]) ⟨hx, hb, hml, hown, hts⟩ (kX2_fails l D cI ad th n B P bs s.heap.size 1 ) (cwV 1 hts gX2_addLine_X2_fails rfl rfl rfl hdX2_fails ⟨Nat.le_of_ble_eq_true rfl, Nat.le_of_ble_eq_true rfl⟩) hK hP hD hS hA (ci := 4) rfl (q0 := 0) rfl rfl rfl hl.1 rfl (Nat.le_of_ble_eq_true rfl) dX2_addLine_10 ⟨Nat.zero_le _, Nat.zero_le _⟩ (fun r_22 (u9 : Unit) H locs hw_22 hP hD hS => ?_)
  subst hw_22
  have hP : va_P D vwCl (wM cI ad 1 n B P bs) H := hP
  have hD : va_D A (wM cI ad 1 n B P bs) := hD
  have ew_23 : 1 = (s_adc n B u k w) := by first | rfl | (simp [oI_s, bI_t, bI_f, s_adc, c_1]; done) | (simp [oI_s, bI_t, bI_f, s_adc, c_1]; omega) | (simp only [s_adc]; (repeat' split) <;> first | rfl | omega | (simp_all; done) | (simp_all; omega))
  have ew_24 : B = (s_adB n B u k w) := by first | rfl | (simp [oI_s, bI_t, bI_f, s_adB, s_adc, c_1]; done) | (simp [oI_s, bI_t, bI_f, s_adB, s_adc, c_1]; omega) | (simp only [s_adB, s_adc]; (repeat' split) <;> first | rfl | omega | (simp_all; done) | (simp_all; omega))
  have hP : va_P D vwCl (wM cI ad (s_adc n B u k w) n (s_adB n B u k w) P bs) H := by rw [← ew_23, ← ew_24]; exact hP
  have hD : va_D A (wM cI ad (s_adc n B u k w) n (s_adB n B u k w) P bs) := by rw [← ew_23, ← ew_24]; exact hD
  exact W.iret (v := (nI (0))) hx hb hr (fun t ht hW => ⟨⟨_, (), rfl, (by first | rfl | (simp [oI_s, bI_t, bI_f, s_adv, s_adc, c_1]; done) | (simp [oI_s, bI_t, bI_f, s_adv, s_adc, c_1]; omega) | (simp only [s_adv, s_adc]; (repeat' split) <;> first | rfl | omega | (simp_all; done) | (simp_all; omega))), by rw [ht]; exact hP, va_K.moved hW.alike hK, hD⟩, hS.F ht⟩) hS.2.2 dX2_addLine_13
theorem hdX2_addLine : yX2_addLine.cls = RX2 ∧ yX2_addLine.cls ≠ "java/lang/invoke/MethodHandle" ∧ yX2_addLine.cls ≠ "java/lang/invoke/VarHandle" ∧ (parseMethodDescriptor yX2_addLine.desc).map (fun d => d.parameters.length) = some 3 := by decide +kernel
set_option maxHeartbeats 4000000 in
set_option maxRecDepth 100000 in
theorem kX2_removeLine (l : Launch) (D : va_G) (cI : ClassId) (ad : Nat → Nat) (th : Nat) (n : Nat) (B : Nat → Nat → Nat) (P : Nat → Option Nat) (bs : Nat → Nat) (sz : Nat) (u : Int32) (hB : Bok n B) : Met l yX2_removeLine wsX2_removeLine ({ frames := 2, cells := 0, slots := 0, locals := 43 }) (PcM D [(cI, .int)] (wM cI ad th n B P bs) sz [.ref (ad 0), .int (u)]) (va_Qi (fun (r : Int32) (u9 : Unit) => r = (nI (s_rmv n B u))) (fun (u9 : Unit) t => AtW D [(cI, .int)] (va_A (wM cI ad th n B P bs) sz) (wM cI ad (s_rmc n B u) n (s_rmB n B u) P bs) t) (va_A (wM cI ad th n B P bs) sz)) 0 0 (va_A (wM cI ad th n B P bs) sz) := by
  refine Met.ofW (cc := cX2_removeLine) (maxL := 2) (ret := (some .int)) (by decide) rfl ?_
  intro p e s m args below meth c s₁ BL hml hv
  obtain ⟨rfl, hsz, hP, hK, hD0⟩ := hv
  have hx := BL.exec
  have hb := BL.bytes
  have hr := BL.returns
  have hts := atoms_spec (ws := wsX2_removeLine) BL.pre
  have hown : s.vm.findClass RX2 = some m.cls := findClass_of_methodNamed BL.named
  have hlocks := BL.notSynchronized
  have hin : ∀ w ∈ wsX20, w ∈ wsX2_removeLine := by decide +kernel
  have hf_22 := hts (.fieldLink RX2 22 "TalkRebuilderModel" "many" "[I") (by decide +kernel)
  have hl := lv_entry ([.ref (ad 0), .int (u)]) (n := 2) (Nat.le_of_ble_eq_true rfl)
  rw [lg_entry_eq]
  generalize (lg_sl ([.ref (ad 0), .int (u)]) ++ List.replicate (2 - (lg_sl ([.ref (ad 0), .int (u)])).length) Slot.unset).toArray = ls at hl ⊢
  have hl : lv_has ls 2 [(0, .ref (ad 0)), (1, .int (u))] := hl
  subst hsz
  have hD := hD0.self (sz := s.heap.size)
  generalize hAe : va_A (wM cI ad th n B P bs) s.heap.size = A at hD ⊢
  have hA : ∀ q : Nat, s.heap.size ≤ q → A q := fun q h => by rw [← hAe]; exact Or.inr h
  have hS : va_S A s.heap s.heap [] := va_S.rf
  have hP : va_P D vwCl (wM cI ad th n B P bs) s.heap := hP
  have hD : va_D A (wM cI ad th n B P bs) := hD
  have hn10 := hB.1
  refine lv_aload_n hx hb dX2_removeLine_0 rfl (lv_at hl 0 rfl) ?_
  refine lv_iload_n hx hb dX2_removeLine_1 rfl (lv_at hl 1 rfl) ?_
  refine ro_V (As := [.int (u)]) (v := (bI (s_ism n u))) ⟨hx, hb, hml, hown, hts⟩ (kX2_isMail l D cI ad th n B P bs (u) hB) (cwV 1 hts gX2_removeLine_X2_isMail rfl rfl rfl hdX2_isMail ⟨Nat.le_of_ble_eq_true rfl, Nat.le_of_ble_eq_true rfl⟩) hK hP (ci := 4) rfl (q0 := 0) rfl rfl rfl hl.1 rfl (Nat.le_of_ble_eq_true rfl) dX2_removeLine_2 ⟨Nat.zero_le _, Nat.zero_le _⟩ ?_
  refine y_ne (tgt := 14) hx hb dX2_removeLine_5 (by decide) (fun c_1 => ?_) (fun c_1 => ?_)
  · obtain ⟨k_u, hk_u, rfl⟩ := s_ism_t hB.1 c_1
    have hc_k_u : (nI k_u).toNatClampNeg = k_u := nI_clamp (by omega)
    refine lv_aload_n hx hb dX2_removeLine_14 rfl (lv_at hl 0 rfl) ?_
    refine va_get (D := D) (ci := 4) (v := .ref (ad 5)) (C := RX2) (T := TX2) (N := 11) hx hb hts hin hown hK hP 0 rfl rfl 6 (by decide) hf_22 (fun _ h9 => h9) rfl dX2_removeLine_15 ?_
    refine lv_iload_n hx hb dX2_removeLine_18 rfl (lv_at hl 1 rfl) ?_
    refine n_iald hx hb hK hP 5 0 rfl rfl (i := k_u) (by omega) (by decide) dX2_removeLine_19 ?_
    have hq_2 := hB.2.2.1 k_u
    refine z_ne (tgt := 29) hx hb (by omega) dX2_removeLine_20 (by decide) (fun c_3 => ?_) (fun c_3 => ?_)
    · refine lv_aload_n hx hb dX2_removeLine_29 rfl (lv_at hl 0 rfl) ?_
      refine va_get (D := D) (ci := 4) (v := .ref (ad 5)) (C := RX2) (T := TX2) (N := 11) hx hb hts hin hown hK hP 0 rfl rfl 6 (by decide) hf_22 (fun _ h9 => h9) rfl dX2_removeLine_30 ?_
      refine lv_iload_n hx hb dX2_removeLine_33 rfl (lv_at hl 1 rfl) ?_
      refine lv_dup2_11 hx hb dX2_removeLine_34 rfl rfl ?_
      refine n_iald hx hb hK hP 5 0 rfl rfl (i := k_u) (by omega) (by decide) dX2_removeLine_35 ?_
      have hq_4 := hB.2.2.1 k_u
      refine lv_iconst (v := (nI (1))) hx hb dX2_removeLine_36 (by decide +kernel) ?_
      refine lv_isub hx hb dX2_removeLine_37 ?_
      refine n_top (y := (nI (B 4 k_u - 1))) (pk_sub (by omega)) ?_
      refine r_iast hx hb hK hP hD hS 5 0 rfl rfl (i := k_u) (by omega) (by decide) dX2_removeLine_38 (ws' := (wM cI ad th n (b_up B 4 k_u (B 4 k_u - 1)) P bs)) (nI_upd _ _ _) rfl (fun H locs hP hD hS => ?_)
      refine lv_aload_n hx hb dX2_removeLine_39 rfl (lv_at hl 0 rfl) ?_
      refine lv_aload_n hx hb dX2_removeLine_40 rfl (lv_at hl 0 rfl) ?_
      refine va_get (D := D) (ci := 4) (v := .ref (ad 5)) (C := RX2) (T := TX2) (N := 11) hx hb hts hin hown hK hP 0 rfl rfl 6 (by decide) hf_22 (fun _ h9 => h9) rfl dX2_removeLine_41 ?_
      refine lv_iload_n hx hb dX2_removeLine_44 rfl (lv_at hl 1 rfl) ?_
      refine n_iald hx hb hK hP 5 0 rfl rfl (i := k_u) (by omega) (by decide) dX2_removeLine_45 ?_
      have hq_5 := hB.2.2.1 k_u
      refine n_top (y := (nI (B 4 k_u - 1))) (by simp [b_up, va_up]) ?_
      refine mo_V (wr := []) (As := [.int (nI (B 4 k_u - 1))]) ⟨hx, hb, hml, hown, hts⟩ (kX2_tells l D cI ad th n (b_up B 4 k_u (B 4 k_u - 1)) P bs H.size (nI (B 4 k_u - 1)) ) (cwV 1 hts gX2_removeLine_X2_tells rfl rfl rfl hdX2_tells ⟨Nat.le_of_ble_eq_true rfl, Nat.le_of_ble_eq_true rfl⟩) hK hP hD hS hA (ci := 4) rfl (q0 := 0) rfl rfl rfl hl.1 rfl (Nat.le_of_ble_eq_true rfl) dX2_removeLine_46 ⟨Nat.zero_le _, Nat.zero_le _⟩ (fun r_6 (u9 : Unit) H locs hw_6 hP hD hS => ?_)
      subst hw_6
      have hP : va_P D vwCl (wM cI ad 0 n (b_up B 4 k_u (B 4 k_u - 1)) P bs) H := hP
      have hD : va_D A (wM cI ad 0 n (b_up B 4 k_u (B 4 k_u - 1)) P bs) := hD
      have ew_7 : 0 = (s_rmc n B (nI k_u)) := by first | rfl | (simp [oI_s, bI_t, bI_f, s_rmc, c_1, hc_k_u, c_3]; done) | (simp [oI_s, bI_t, bI_f, s_rmc, c_1, hc_k_u, c_3]; omega) | (simp only [s_rmc]; (repeat' split) <;> first | rfl | omega | (simp_all; done) | (simp_all; omega))
      have ew_8 : (b_up B 4 k_u (B 4 k_u - 1)) = (s_rmB n B (nI k_u)) := by first | rfl | (simp [oI_s, bI_t, bI_f, s_rmB, s_rmc, c_1, hc_k_u, c_3]; done) | (simp [oI_s, bI_t, bI_f, s_rmB, s_rmc, c_1, hc_k_u, c_3]; omega) | (simp only [s_rmB, s_rmc]; (repeat' split) <;> first | rfl | omega | (simp_all; done) | (simp_all; omega))
      have hP : va_P D vwCl (wM cI ad (s_rmc n B (nI k_u)) n (s_rmB n B (nI k_u)) P bs) H := by rw [← ew_7, ← ew_8]; exact hP
      have hD : va_D A (wM cI ad (s_rmc n B (nI k_u)) n (s_rmB n B (nI k_u)) P bs) := by rw [← ew_7, ← ew_8]; exact hD
      exact W.iret (v := (nI (B 4 k_u - 1))) hx hb hr (fun t ht hW => ⟨⟨_, (), rfl, (by first | rfl | (simp [oI_s, bI_t, bI_f, s_rmv, s_rmc, c_1, hc_k_u, c_3]; done) | (simp [oI_s, bI_t, bI_f, s_rmv, s_rmc, c_1, hc_k_u, c_3]; omega) | (simp only [s_rmv, s_rmc]; (repeat' split) <;> first | rfl | omega | (simp_all; done) | (simp_all; omega))), by rw [ht]; exact hP, va_K.moved hW.alike hK, hD⟩, hS.F ht⟩) hS.2.2 dX2_removeLine_49
    refine lv_aload_n hx hb dX2_removeLine_23 rfl (lv_at hl 0 rfl) ?_
    refine lv_iconst (v := (nI (2))) hx hb dX2_removeLine_24 (by decide +kernel) ?_
    refine mo_V (wr := []) (As := [.int (nI (2))]) ⟨hx, hb, hml, hown, hts⟩ (kX2_fails l D cI ad th n B P bs s.heap.size 2 ) (cwV 1 hts gX2_removeLine_X2_fails rfl rfl rfl hdX2_fails ⟨Nat.le_of_ble_eq_true rfl, Nat.le_of_ble_eq_true rfl⟩) hK hP hD hS hA (ci := 4) rfl (q0 := 0) rfl rfl rfl hl.1 rfl (Nat.le_of_ble_eq_true rfl) dX2_removeLine_25 ⟨Nat.zero_le _, Nat.zero_le _⟩ (fun r_9 (u9 : Unit) H locs hw_9 hP hD hS => ?_)
    subst hw_9
    have hP : va_P D vwCl (wM cI ad 2 n B P bs) H := hP
    have hD : va_D A (wM cI ad 2 n B P bs) := hD
    have ew_10 : 2 = (s_rmc n B (nI k_u)) := by first | rfl | (simp [oI_s, bI_t, bI_f, s_rmc, c_1, hc_k_u, c_3]; done) | (simp [oI_s, bI_t, bI_f, s_rmc, c_1, hc_k_u, c_3]; omega) | (simp only [s_rmc]; (repeat' split) <;> first | rfl | omega | (simp_all; done) | (simp_all; omega))
    have ew_11 : B = (s_rmB n B (nI k_u)) := by first | rfl | (simp [oI_s, bI_t, bI_f, s_rmB, s_rmc, c_1, hc_k_u, c_3]; done) | (simp [oI_s, bI_t, bI_f, s_rmB, s_rmc, c_1, hc_k_u, c_3]; omega) | (simp only [s_rmB, s_rmc]; (repeat' split) <;> first | rfl | omega | (simp_all; done) | (simp_all; omega))
    have hP : va_P D vwCl (wM cI ad (s_rmc n B (nI k_u)) n (s_rmB n B (nI k_u)) P bs) H := by rw [← ew_10, ← ew_11]; exact hP
    have hD : va_D A (wM cI ad (s_rmc n B (nI k_u)) n (s_rmB n B (nI k_u)) P bs) := by rw [← ew_10, ← ew_11]; exact hD
    exact W.iret (v := (nI (0))) hx hb hr (fun t ht hW => ⟨⟨_, (), rfl, (by first | rfl | (simp [oI_s, bI_t, bI_f, s_rmv, s_rmc, c_1, hc_k_u, c_3]; done) | (simp [oI_s, bI_t, bI_f, s_rmv, s_rmc, c_1, hc_k_u, c_3]; omega) | (simp only [s_rmv, s_rmc]; (repeat' split) <;> first | rfl | omega | (simp_all; done) | (simp_all; omega))), by rw [ht]; exact hP, va_K.moved hW.alike hK, hD⟩, hS.F ht⟩) hS.2.2 dX2_removeLine_28
  refine lv_aload_n hx hb dX2_removeLine_8 rfl (lv_at hl 0 rfl) ?_
  refine lv_iconst (v := (nI (1))) hx hb dX2_removeLine_9 (by decide +kernel) ?_
  refine mo_V (wr := []) (As := [.int (nI (1))]) ⟨hx, hb, hml, hown, hts⟩ (kX2_fails l D cI ad th n B P bs s.heap.size 1 ) (cwV 1 hts gX2_removeLine_X2_fails rfl rfl rfl hdX2_fails ⟨Nat.le_of_ble_eq_true rfl, Nat.le_of_ble_eq_true rfl⟩) hK hP hD hS hA (ci := 4) rfl (q0 := 0) rfl rfl rfl hl.1 rfl (Nat.le_of_ble_eq_true rfl) dX2_removeLine_10 ⟨Nat.zero_le _, Nat.zero_le _⟩ (fun r_12 (u9 : Unit) H locs hw_12 hP hD hS => ?_)
  subst hw_12
  have hP : va_P D vwCl (wM cI ad 1 n B P bs) H := hP
  have hD : va_D A (wM cI ad 1 n B P bs) := hD
  have ew_13 : 1 = (s_rmc n B u) := by first | rfl | (simp [oI_s, bI_t, bI_f, s_rmc, c_1]; done) | (simp [oI_s, bI_t, bI_f, s_rmc, c_1]; omega) | (simp only [s_rmc]; (repeat' split) <;> first | rfl | omega | (simp_all; done) | (simp_all; omega))
  have ew_14 : B = (s_rmB n B u) := by first | rfl | (simp [oI_s, bI_t, bI_f, s_rmB, s_rmc, c_1]; done) | (simp [oI_s, bI_t, bI_f, s_rmB, s_rmc, c_1]; omega) | (simp only [s_rmB, s_rmc]; (repeat' split) <;> first | rfl | omega | (simp_all; done) | (simp_all; omega))
  have hP : va_P D vwCl (wM cI ad (s_rmc n B u) n (s_rmB n B u) P bs) H := by rw [← ew_13, ← ew_14]; exact hP
  have hD : va_D A (wM cI ad (s_rmc n B u) n (s_rmB n B u) P bs) := by rw [← ew_13, ← ew_14]; exact hD
  exact W.iret (v := (nI (0))) hx hb hr (fun t ht hW => ⟨⟨_, (), rfl, (by first | rfl | (simp [oI_s, bI_t, bI_f, s_rmv, s_rmc, c_1]; done) | (simp [oI_s, bI_t, bI_f, s_rmv, s_rmc, c_1]; omega) | (simp only [s_rmv, s_rmc]; (repeat' split) <;> first | rfl | omega | (simp_all; done) | (simp_all; omega))), by rw [ht]; exact hP, va_K.moved hW.alike hK, hD⟩, hS.F ht⟩) hS.2.2 dX2_removeLine_13
theorem hdX2_removeLine : yX2_removeLine.cls = RX2 ∧ yX2_removeLine.cls ≠ "java/lang/invoke/MethodHandle" ∧ yX2_removeLine.cls ≠ "java/lang/invoke/VarHandle" ∧ (parseMethodDescriptor yX2_removeLine.desc).map (fun d => d.parameters.length) = some 1 := by decide +kernel
