set_option maxHeartbeats 4000000 in
set_option maxRecDepth 100000 in
theorem kX2_aligns (l : Launch) (D : va_G) (cI : ClassId) (ad : Nat → Nat) (th : Nat) (n : Nat) (B : Nat → Nat → Nat) (P : Nat → Option Nat) (bs : Nat → Nat) (sz : Nat) (u : Nat) (hB : Bok n B) (h_u : u < n) : Met l yX2_aligns wsX2_aligns ({ frames := 2, cells := 0, slots := 0, locals := 44 }) (PcM D [(cI, .int)] (wM cI ad th n B P bs) sz [.ref (ad 0), .int (nI (u))]) (va_Qv (fun (bs9 : Nat → Nat) => True) (fun (bs9 : Nat → Nat) t => AtW D [(cI, .int)] (va_A (wM cI ad th n B P bs) sz) (wM cI ad th n B (s_al n B u P) bs9) t) (va_A (wM cI ad th n B P bs) sz)) 0 0 (va_A (wM cI ad th n B P bs) sz) := by
  refine Met.ofW (cc := cX2_aligns) (maxL := 9) (ret := none) (by decide) rfl ?_
  intro p e s m args below meth c s₁ BL hml hv
  obtain ⟨rfl, hsz, hP, hK, hD0⟩ := hv
  have hx := BL.exec
  have hb := BL.bytes
  have hr := BL.returns
  have hts := atoms_spec (ws := wsX2_aligns) BL.pre
  have hown : s.vm.findClass RX2 = some m.cls := findClass_of_methodNamed BL.named
  have hlocks := BL.notSynchronized
  have hin : ∀ w ∈ wsX20, w ∈ wsX2_aligns := by decide +kernel
  have hf_22 := hts (.fieldLink RX2 22 "TalkRebuilderModel" "many" "[I") (by decide +kernel)
  have hf_31 := hts (.fieldLink RX2 31 "TalkRebuilderModel" "partnerOf" "[I") (by decide +kernel)
  have hf_34 := hts (.fieldLink RX2 34 "TalkRebuilderModel" "best" "[I") (by decide +kernel)
  have hl := lv_entry ([.ref (ad 0), .int (nI (u))]) (n := 9) (Nat.le_of_ble_eq_true rfl)
  rw [lg_entry_eq]
  generalize (lg_sl ([.ref (ad 0), .int (nI (u))]) ++ List.replicate (9 - (lg_sl ([.ref (ad 0), .int (nI (u))])).length) Slot.unset).toArray = ls at hl ⊢
  have hl : lv_has ls 9 [(0, .ref (ad 0)), (1, .int (nI (u)))] := hl
  subst hsz
  have hD := hD0.self (sz := s.heap.size)
  generalize hAe : va_A (wM cI ad th n B P bs) s.heap.size = A at hD ⊢
  have hA : ∀ q : Nat, s.heap.size ≤ q → A q := fun q h => by rw [← hAe]; exact Or.inr h
  have hS : va_S A s.heap s.heap [] := va_S.rf
  have hP : va_P D vwCl (wM cI ad th n B P bs) s.heap := hP
  have hD : va_D A (wM cI ad th n B P bs) := hD
  have hn10 := hB.1
  have h8u := hB.2.2.1 u
  have hC8 := s_col_le hB.2.2.1 (n := n) u
  refine lv_aload_n hx hb dX2_aligns_0 rfl (lv_at hl 0 rfl) ?_
  refine lv_iload_n hx hb dX2_aligns_1 rfl (lv_at hl 1 rfl) ?_
  refine ro_V (As := [.int (nI (u))]) (v := (oI (s_par n B u))) ⟨hx, hb, hml, hown, hts⟩ (kX2_parentOf l D cI ad th n B P bs u hB h_u) (cwV 1 hts gX2_aligns_X2_parentOf rfl rfl rfl hdX2_parentOf ⟨Nat.le_of_ble_eq_true rfl, Nat.le_of_ble_eq_true rfl⟩) hK hP (ci := 4) rfl (q0 := 0) rfl rfl rfl hl.1 rfl (Nat.le_of_ble_eq_true rfl) dX2_aligns_2 ⟨Nat.zero_le _, Nat.zero_le _⟩ ?_
  refine lv_istore_n (lv' := [(2, .int (oI (s_par n B u))), (0, .ref (ad 0)), (1, .int (nI (u)))]) hx hb dX2_aligns_5 rfl hl (by decide) rfl (fun ls hl => ?_)
  refine lv_aload_n hx hb dX2_aligns_6 rfl (lv_at hl 1 rfl) ?_
  refine va_get (D := D) (ci := 4) (v := .ref (ad 5)) (C := RX2) (T := TX2) (N := 11) hx hb hts hin hown hK hP 0 rfl rfl 6 (by decide) hf_22 (fun _ h9 => h9) rfl dX2_aligns_7 ?_
  refine lv_iload_n hx hb dX2_aligns_10 rfl (lv_at hl 2 rfl) ?_
  refine n_iald hx hb hK hP 5 0 rfl rfl (i := u) (by omega) (by decide) dX2_aligns_11 ?_
  have hq_1 := hB.2.2.1 u
  refine lv_istore_n (lv' := [(3, .int (nI (B 4 u))), (2, .int (oI (s_par n B u))), (0, .ref (ad 0)), (1, .int (nI (u)))]) hx hb dX2_aligns_12 rfl hl (by decide) rfl (fun ls hl => ?_)
  have join_28 : ∀ (H : Heap) (locs : List Loc), va_P D vwCl (wM cI ad th n B P bs) H → va_D A (wM cI ad th n B P bs) → va_S A s.heap H locs → ∀ (ls : Array Slot), lv_has ls 9 [(3, .int (nI (B 4 u))), (2, .int (oI (s_par n B u))), (0, .ref (ad 0)), (1, .int (nI (u)))] → W p l e (headSpec wsX2_aligns ({ frames := 2, cells := 0, slots := 0, locals := 44 })).room s m ([.ref (ad 0), .int (nI (u))] : List Value).toArray below meth c H locs 0 0 (MQ below (va_Qv (fun (bs9 : Nat → Nat) => True) (fun (bs9 : Nat → Nat) t => AtW D [(cI, .int)] A (wM cI ad th n B (s_al n B u P) bs9) t) A) ([.ref (ad 0), .int (nI (u))] : List Value).toArray s 0 0 A) (F0 m 28 ls [.int (nI (s_col n B u))]) := by
    intro   H locs hP hD hS ls hl
    refine lv_istore (lv' := [(4, .int (nI (s_col n B u))), (3, .int (nI (B 4 u))), (2, .int (oI (s_par n B u))), (0, .ref (ad 0)), (1, .int (nI (u)))]) hx hb dX2_aligns_28 hl (by decide) rfl (fun ls hl => ?_)
    refine lv_iconst (v := (nI (0))) hx hb dX2_aligns_30 (by decide +kernel) ?_
    refine lv_istore (lv' := [(5, .int (nI (0))), (4, .int (nI (s_col n B u))), (3, .int (nI (B 4 u))), (2, .int (oI (s_par n B u))), (0, .ref (ad 0)), (1, .int (nI (u)))]) hx hb dX2_aligns_31 hl (by decide) rfl (fun ls hl => ?_)
    have loop_33 : ∀ (N : Nat) (z : Nat) (bz : Nat → Nat), 81 - z < N → (z ≤ 81) → (∀ j, j < z → bz j = 0) → ∀ (H : Heap) (locs : List Loc), va_P D vwCl (wM cI ad th n B P bz) H → va_D A (wM cI ad th n B P bz) → va_S A s.heap H locs → ∀ (ls : Array Slot), lv_has ls 9 [(0, .ref (ad 0)), (1, .int (nI (u))), (2, .int (oI (s_par n B u))), (3, .int (nI (B 4 u))), (4, .int (nI (s_col n B u))), (5, .int (nI (z)))] → W p l e (headSpec wsX2_aligns ({ frames := 2, cells := 0, slots := 0, locals := 44 })).room s m ([.ref (ad 0), .int (nI (u))] : List Value).toArray below meth c H locs 0 0 (MQ below (va_Qv (fun (bs9 : Nat → Nat) => True) (fun (bs9 : Nat → Nat) t => AtW D [(cI, .int)] A (wM cI ad th n B (s_al n B u P) bs9) t) A) ([.ref (ad 0), .int (nI (u))] : List Value).toArray s 0 0 A) (F0 m 33 ls []) := by
      intro N
      induction N with
      | zero => intro z bz hmu; exact absurd hmu (Nat.not_lt_zero _)
      | succ N ih_33 =>
        intro z bz hmu_33 h_z h_bz H locs hP hD hS ls hl
        refine lv_iload hx hb dX2_aligns_33 (lv_at hl 5 rfl) ?_
        refine lv_bipush (v := (nI (80))) hx hb dX2_aligns_35 (by decide +kernel) ?_
        refine n_gt (tgt := 54) hx hb (by omega) (by omega) dX2_aligns_37 (by decide) (fun c_2 => ?_) (fun c_2 => ?_)
        · refine lv_iload_n hx hb dX2_aligns_54 rfl (lv_at hl 3 rfl) ?_
          refine lv_iconst (v := (nI (1))) hx hb dX2_aligns_55 (by decide +kernel) ?_
          refine lv_isub hx hb dX2_aligns_56 ?_
          refine n_top (y := (nI (B 4 u) - 1)) (by rw [nI_one]) ?_
          refine lv_istore (lv' := [(5, .int (nI (B 4 u) - 1)), (0, .ref (ad 0)), (1, .int (nI (u))), (2, .int (oI (s_par n B u))), (3, .int (nI (B 4 u))), (4, .int (nI (s_col n B u)))]) hx hb dX2_aligns_57 hl (by decide) rfl (fun ls hl => ?_)
          have loop_59 : ∀ (N : Nat) (x : Nat) (b2 : Nat → Nat), x < N → (x ≤ B 4 u) → (s_tbO n B u x b2) → ∀ (H : Heap) (locs : List Loc), va_P D vwCl (wM cI ad th n B P b2) H → va_D A (wM cI ad th n B P b2) → va_S A s.heap H locs → ∀ (ls : Array Slot), lv_has ls 9 [(0, .ref (ad 0)), (1, .int (nI (u))), (2, .int (oI (s_par n B u))), (3, .int (nI (B 4 u))), (4, .int (nI (s_col n B u))), (5, .int (nI (x) - 1))] → W p l e (headSpec wsX2_aligns ({ frames := 2, cells := 0, slots := 0, locals := 44 })).room s m ([.ref (ad 0), .int (nI (u))] : List Value).toArray below meth c H locs 0 0 (MQ below (va_Qv (fun (bs9 : Nat → Nat) => True) (fun (bs9 : Nat → Nat) t => AtW D [(cI, .int)] A (wM cI ad th n B (s_al n B u P) bs9) t) A) ([.ref (ad 0), .int (nI (u))] : List Value).toArray s 0 0 A) (F0 m 59 ls []) := by
            intro N
            induction N with
            | zero => intro x b2 hmu; exact absurd hmu (Nat.not_lt_zero _)
            | succ N ih_59 =>
              intro x b2 hmu_59 h_x h_b2 H locs hP hD hS ls hl
              refine lv_iload hx hb dX2_aligns_59 (lv_at hl 5 rfl) ?_
              refine m_lt (tgt := 228) hx hb (by omega) dX2_aligns_61 (by decide) (fun c_3 => ?_) (fun x1 c_3 => ?_)
              · have h_b2 : s_tbO n B u 0 b2 := by rw [c_3] at h_b2; exact h_b2
                refine lv_iconst (v := (nI (0))) hx hb dX2_aligns_228 (by decide +kernel) ?_
                refine lv_istore (lv' := [(5, .int (nI (0))), (0, .ref (ad 0)), (1, .int (nI (u))), (2, .int (oI (s_par n B u))), (3, .int (nI (B 4 u))), (4, .int (nI (s_col n B u)))]) hx hb dX2_aligns_229 hl (by decide) rfl (fun ls hl => ?_)
                refine lv_iconst (v := (nI (0))) hx hb dX2_aligns_231 (by decide +kernel) ?_
                refine lv_istore (lv' := [(6, .int (nI (0))), (5, .int (nI (0))), (0, .ref (ad 0)), (1, .int (nI (u))), (2, .int (oI (s_par n B u))), (3, .int (nI (B 4 u))), (4, .int (nI (s_col n B u)))]) hx hb dX2_aligns_232 hl (by decide) rfl (fun ls hl => ?_)
                have loop_234 : ∀ (N : Nat) (z : Nat), B 4 u - z < N → (z ≤ B 4 u) → ∀ (H : Heap) (locs : List Loc), va_P D vwCl (wM cI ad th n B (s_alk n B u P z) b2) H → va_D A (wM cI ad th n B (s_alk n B u P z) b2) → va_S A s.heap H locs → ∀ (ls : Array Slot), lv_has ls 9 [(0, .ref (ad 0)), (1, .int (nI (u))), (2, .int (oI (s_par n B u))), (3, .int (nI (B 4 u))), (4, .int (nI (s_col n B u))), (5, .int (nI (s_fr n B u z))), (6, .int (nI (z)))] → W p l e (headSpec wsX2_aligns ({ frames := 2, cells := 0, slots := 0, locals := 44 })).room s m ([.ref (ad 0), .int (nI (u))] : List Value).toArray below meth c H locs 0 0 (MQ below (va_Qv (fun (bs9 : Nat → Nat) => True) (fun (bs9 : Nat → Nat) t => AtW D [(cI, .int)] A (wM cI ad th n B (s_al n B u P) bs9) t) A) ([.ref (ad 0), .int (nI (u))] : List Value).toArray s 0 0 A) (F0 m 234 ls []) := by
                  intro N
                  induction N with
                  | zero => intro z hmu; exact absurd hmu (Nat.not_lt_zero _)
                  | succ N ih_234 =>
                    intro z hmu_234 h_z H locs hP hD hS ls hl
                    refine lv_iload hx hb dX2_aligns_234 (lv_at hl 6 rfl) ?_
                    refine lv_iload_n hx hb dX2_aligns_236 rfl (lv_at hl 3 rfl) ?_
                    refine n_ge (tgt := 363) hx hb (by omega) (by omega) dX2_aligns_237 (by decide) (fun c_4 => ?_) (fun c_4 => ?_)
                    · have hzn : B 4 u = z := by omega
                      have ew_5 : (s_alk n B u P z) = (s_al n B u P) := by first | rfl | (simp [oI_s, bI_t, bI_f, s_al, c_2, c_3, c_4, hzn, Nat.not_le.mpr c_2, Nat.not_lt.mpr c_4]; done) | (simp [oI_s, bI_t, bI_f, s_al, c_2, c_3, c_4, hzn, Nat.not_le.mpr c_2, Nat.not_lt.mpr c_4]; omega) | (simp only [s_al]; (repeat' split) <;> first | rfl | omega | (simp_all; done) | (simp_all; omega))
                      have hP : va_P D vwCl (wM cI ad th n B (s_al n B u P) b2) H := by rw [← ew_5]; exact hP
                      have hD : va_D A (wM cI ad th n B (s_al n B u P) b2) := by rw [← ew_5]; exact hD
                      exact W.vret hx hb hr (fun t ht hW => ⟨⟨b2, rfl, trivial, by rw [ht]; exact hP, va_K.moved hW.alike hK, hD⟩, hS.F ht⟩) hS.2.2 dX2_aligns_363
                    have join_326 : ∀ (H : Heap) (locs : List Loc), va_P D vwCl (wM cI ad th n B (s_alk n B u P z) b2) H → va_D A (wM cI ad th n B (s_alk n B u P z) b2) → va_S A s.heap H locs → ∀ (ls : Array Slot), lv_has ls 9 [(0, .ref (ad 0)), (1, .int (nI (u))), (2, .int (oI (s_par n B u))), (3, .int (nI (B 4 u))), (4, .int (nI (s_col n B u))), (5, .int (nI (s_fr n B u z))), (6, .int (nI (z))), (7, .int (oI (s_pa n B u z)))] → W p l e (headSpec wsX2_aligns ({ frames := 2, cells := 0, slots := 0, locals := 44 })).room s m ([.ref (ad 0), .int (nI (u))] : List Value).toArray below meth c H locs 0 0 (MQ below (va_Qv (fun (bs9 : Nat → Nat) => True) (fun (bs9 : Nat → Nat) t => AtW D [(cI, .int)] A (wM cI ad th n B (s_al n B u P) bs9) t) A) ([.ref (ad 0), .int (nI (u))] : List Value).toArray s 0 0 A) (F0 m 326 ls []) := by
                      intro   H locs hP hD hS ls hl
                      refine lv_aload_n hx hb dX2_aligns_326 rfl (lv_at hl 0 rfl) ?_
                      refine va_get (D := D) (ci := 4) (v := .ref (ad 8)) (C := RX2) (T := TX2) (N := 11) hx hb hts hin hown hK hP 0 rfl rfl 9 (by decide) hf_31 (fun _ h9 => h9) rfl dX2_aligns_327 ?_
                      refine lv_bipush (v := (nI (8))) hx hb dX2_aligns_330 (by decide +kernel) ?_
                      refine lv_iload_n hx hb dX2_aligns_332 rfl (lv_at hl 1 rfl) ?_
                      refine lv_imul hx hb dX2_aligns_333 ?_
                      refine n_top (y := (nI (8 * u))) (pk_mul _ _) ?_
                      refine lv_iload hx hb dX2_aligns_334 (lv_at hl 6 rfl) ?_
                      refine lv_iadd hx hb dX2_aligns_336 ?_
                      refine n_top (y := (nI (8 * u + z))) (nI_add _ _) ?_
                      refine lv_iload hx hb dX2_aligns_337 (lv_at hl 7 rfl) ?_
                      refine r_iast hx hb hK hP hD hS 8 0 rfl rfl (i := 8 * u + z) (by omega) (by decide) dX2_aligns_339 (ws' := (wM cI ad th n B (va_up (s_alk n B u P z) (8 * u + z) (s_pa n B u z)) b2)) (oI_upd _ _ _) rfl (fun H locs hP hD hS => ?_)
                      have join_355 : ∀ (H : Heap) (locs : List Loc), va_P D vwCl (wM cI ad th n B (va_up (s_alk n B u P z) (8 * u + z) (s_pa n B u z)) b2) H → va_D A (wM cI ad th n B (va_up (s_alk n B u P z) (8 * u + z) (s_pa n B u z)) b2) → va_S A s.heap H locs → ∀ (ls : Array Slot), lv_has ls 9 [(0, .ref (ad 0)), (1, .int (nI (u))), (2, .int (oI (s_par n B u))), (3, .int (nI (B 4 u))), (4, .int (nI (s_col n B u))), (5, .int (nI (s_fr n B u z))), (6, .int (nI (z))), (7, .int (oI (s_pa n B u z)))] → W p l e (headSpec wsX2_aligns ({ frames := 2, cells := 0, slots := 0, locals := 44 })).room s m ([.ref (ad 0), .int (nI (u))] : List Value).toArray below meth c H locs 0 0 (MQ below (va_Qv (fun (bs9 : Nat → Nat) => True) (fun (bs9 : Nat → Nat) t => AtW D [(cI, .int)] A (wM cI ad th n B (s_al n B u P) bs9) t) A) ([.ref (ad 0), .int (nI (u))] : List Value).toArray s 0 0 A) (F0 m 355 ls [.int (nI (s_fr n B u (z + 1)))]) := by
                        intro   H locs hP hD hS ls hl
                        refine lv_istore (lv' := [(5, .int (nI (s_fr n B u (z + 1)))), (0, .ref (ad 0)), (1, .int (nI (u))), (2, .int (oI (s_par n B u))), (3, .int (nI (B 4 u))), (4, .int (nI (s_col n B u))), (6, .int (nI (z))), (7, .int (oI (s_pa n B u z)))]) hx hb dX2_aligns_355 hl (by decide) rfl (fun ls hl => ?_)
                        refine lv_iinc (v := (nI (z + 1))) (lv' := [(6, .int (nI (z + 1))), (5, .int (nI (s_fr n B u (z + 1)))), (0, .ref (ad 0)), (1, .int (nI (u))), (2, .int (oI (s_par n B u))), (3, .int (nI (B 4 u))), (4, .int (nI (s_col n B u))), (7, .int (oI (s_pa n B u z)))]) hx hb dX2_aligns_357 hl (k := 6) rfl (nI_1 _) (by decide) rfl (fun ls hl => ?_)
                        refine lv_goto (tgt := 234) hx hb dX2_aligns_360 (by decide) ?_
                        have ew_6 : (va_up (s_alk n B u P z) (8 * u + z) (s_pa n B u z)) = (s_alk n B u P (z + 1)) := by first | exact s_alk_0 | exact s_alk_s
                        have hP : va_P D vwCl (wM cI ad th n B (s_alk n B u P (z + 1)) b2) H := by rw [← ew_6]; exact hP
                        have hD : va_D A (wM cI ad th n B (s_alk n B u P (z + 1)) b2) := by rw [← ew_6]; exact hD
                        exact ih_234 (z + 1) (by omega) (by omega) _ _ hP hD hS _ (show lv_has ls 9 [(0, .ref (ad 0)), (1, .int (nI (u))), (2, .int (oI (s_par n B u))), (3, .int (nI (B 4 u))), (4, .int (nI (s_col n B u))), (5, .int (nI (s_fr n B u (z + 1)))), (6, .int (nI (z + 1)))] from by exact lv_sub hl [2, 3, 4, 5, 6, 1, 0] rfl)
                      refine lv_iload hx hb dX2_aligns_340 (lv_at hl 7 rfl) ?_
                      refine lv_iconst (v := (oI (none))) hx hb dX2_aligns_342 (by decide +kernel) ?_
                      refine o_ne (tgt := 351) hx hb (s_pa_b hB.2.2.1) dX2_aligns_343 (by decide) (fun kc_7 c_7 => ?_) (fun c_7 => ?_)
                      · rw [c_7] at hl
                        have hl : lv_has ls 9 [(0, .ref (ad 0)), (1, .int (nI (u))), (2, .int (oI (s_par n B u))), (3, .int (nI (B 4 u))), (4, .int (nI (s_col n B u))), (5, .int (nI (s_fr n B u z))), (6, .int (nI (z))), (7, .int (nI (kc_7)))] := hl
                        refine lv_iload hx hb dX2_aligns_351 (lv_at hl 7 rfl) ?_
                        refine lv_iconst (v := (nI (1))) hx hb dX2_aligns_353 (by decide +kernel) ?_
                        refine lv_iadd hx hb dX2_aligns_354 ?_
                        refine n_top (y := (nI (kc_7 + 1))) (nI_add _ _) ?_
                        have e_8 : ((nI (kc_7)) : Int32) = (oI (s_pa n B u z)) := by first | rfl | (simp [oI_s, bI_t, bI_f, s_fr_s, c_2, c_3, c_4, c_7, Nat.not_le.mpr c_2, Nat.not_le.mp c_4]; done) | (simp [oI_s, bI_t, bI_f, s_fr_s, c_2, c_3, c_4, c_7, Nat.not_le.mpr c_2, Nat.not_le.mp c_4]; omega) | (simp only [s_fr_s]; (repeat' split) <;> first | rfl | omega | (simp_all; done) | (simp_all; omega))
                        refine n_top (y := (nI (s_fr n B u (z + 1)))) (by first | rfl | (simp [oI_s, bI_t, bI_f, s_fr_s, c_2, c_3, c_4, c_7, Nat.not_le.mpr c_2, Nat.not_le.mp c_4]; done) | (simp [oI_s, bI_t, bI_f, s_fr_s, c_2, c_3, c_4, c_7, Nat.not_le.mpr c_2, Nat.not_le.mp c_4]; omega) | (simp only [s_fr_s]; (repeat' split) <;> first | rfl | omega | (simp_all; done) | (simp_all; omega))) ?_
                        exact join_355   _ _ hP hD hS _ (show lv_has ls 9 [(0, .ref (ad 0)), (1, .int (nI (u))), (2, .int (oI (s_par n B u))), (3, .int (nI (B 4 u))), (4, .int (nI (s_col n B u))), (5, .int (nI (s_fr n B u z))), (6, .int (nI (z))), (7, .int (oI (s_pa n B u z)))] from by rw [← e_8]; exact lv_sub hl [0, 1, 2, 3, 4, 5, 6, 7] rfl)
                      rw [c_7] at hl
                      have hl : lv_has ls 9 [(0, .ref (ad 0)), (1, .int (nI (u))), (2, .int (oI (s_par n B u))), (3, .int (nI (B 4 u))), (4, .int (nI (s_col n B u))), (5, .int (nI (s_fr n B u z))), (6, .int (nI (z))), (7, .int (oI (none)))] := hl
                      refine lv_iload hx hb dX2_aligns_346 (lv_at hl 5 rfl) ?_
                      refine lv_goto (tgt := 355) hx hb dX2_aligns_348 (by decide) ?_
                      have e_9 : ((oI (none)) : Int32) = (oI (s_pa n B u z)) := by first | rfl | (simp [oI_s, bI_t, bI_f, s_fr_s, c_2, c_3, c_4, c_7, Nat.not_le.mpr c_2, Nat.not_le.mp c_4]; done) | (simp [oI_s, bI_t, bI_f, s_fr_s, c_2, c_3, c_4, c_7, Nat.not_le.mpr c_2, Nat.not_le.mp c_4]; omega) | (simp only [s_fr_s]; (repeat' split) <;> first | rfl | omega | (simp_all; done) | (simp_all; omega))
                      refine n_top (y := (nI (s_fr n B u (z + 1)))) (by first | rfl | (simp [oI_s, bI_t, bI_f, s_fr_s, c_2, c_3, c_4, c_7, Nat.not_le.mpr c_2, Nat.not_le.mp c_4]; done) | (simp [oI_s, bI_t, bI_f, s_fr_s, c_2, c_3, c_4, c_7, Nat.not_le.mpr c_2, Nat.not_le.mp c_4]; omega) | (simp only [s_fr_s]; (repeat' split) <;> first | rfl | omega | (simp_all; done) | (simp_all; omega))) ?_
                      exact join_355   _ _ hP hD hS _ (show lv_has ls 9 [(0, .ref (ad 0)), (1, .int (nI (u))), (2, .int (oI (s_par n B u))), (3, .int (nI (B 4 u))), (4, .int (nI (s_col n B u))), (5, .int (nI (s_fr n B u z))), (6, .int (nI (z))), (7, .int (oI (s_pa n B u z)))] from by rw [← e_9]; exact lv_sub hl [0, 1, 2, 3, 4, 5, 6, 7] rfl)
                    have hfl := s_fr_le (n := n) (B := B) (u := u) (z := z)
                    refine lv_iconst (v := (oI (none))) hx hb dX2_aligns_240 (by decide +kernel) ?_
                    refine lv_istore (lv' := [(7, .int (oI (none))), (0, .ref (ad 0)), (1, .int (nI (u))), (2, .int (oI (s_par n B u))), (3, .int (nI (B 4 u))), (4, .int (nI (s_col n B u))), (5, .int (nI (s_fr n B u z))), (6, .int (nI (z)))]) hx hb dX2_aligns_241 hl (by decide) rfl (fun ls hl => ?_)
                    refine lv_iload hx hb dX2_aligns_243 (lv_at hl 6 rfl) ?_
                    refine lv_istore (lv' := [(8, .int (nI (s_fr n B u z))), (7, .int (oI (none))), (0, .ref (ad 0)), (1, .int (nI (u))), (2, .int (oI (s_par n B u))), (3, .int (nI (B 4 u))), (4, .int (nI (s_col n B u))), (5, .int (nI (s_fr n B u z))), (6, .int (nI (z)))]) hx hb dX2_aligns_245 hl (by decide) rfl (fun ls hl => ?_)
                    have loop_247 : ∀ (N : Nat) (y : Nat), s_col n B u - y < N → (y ≤ s_col n B u) → (s_fr n B u z ≤ y) → ∀ (H : Heap) (locs : List Loc), va_P D vwCl (wM cI ad th n B (s_alk n B u P z) b2) H → va_D A (wM cI ad th n B (s_alk n B u P z) b2) → va_S A s.heap H locs → ∀ (ls : Array Slot), lv_has ls 9 [(0, .ref (ad 0)), (1, .int (nI (u))), (2, .int (oI (s_par n B u))), (3, .int (nI (B 4 u))), (4, .int (nI (s_col n B u))), (5, .int (nI (s_fr n B u z))), (6, .int (nI (z))), (7, .int (oI (s_sr n B u z y))), (8, .int (nI (y)))] → W p l e (headSpec wsX2_aligns ({ frames := 2, cells := 0, slots := 0, locals := 44 })).room s m ([.ref (ad 0), .int (nI (u))] : List Value).toArray below meth c H locs 0 0 (MQ below (va_Qv (fun (bs9 : Nat → Nat) => True) (fun (bs9 : Nat → Nat) t => AtW D [(cI, .int)] A (wM cI ad th n B (s_al n B u P) bs9) t) A) ([.ref (ad 0), .int (nI (u))] : List Value).toArray s 0 0 A) (F0 m 247 ls []) := by
                      intro N
                      induction N with
                      | zero => intro y hmu; exact absurd hmu (Nat.not_lt_zero _)
                      | succ N ih_247 =>
                        intro y hmu_247 h_y h_fy H locs hP hD hS ls hl
                        refine lv_iload hx hb dX2_aligns_247 (lv_at hl 8 rfl) ?_
                        refine lv_iload hx hb dX2_aligns_249 (lv_at hl 4 rfl) ?_
                        refine n_ge (tgt := 326) hx hb (by omega) (by omega) dX2_aligns_251 (by decide) (fun c_10 => ?_) (fun c_10 => ?_)
                        · have e_11 : ((oI (s_sr n B u z y)) : Int32) = (oI (s_pa n B u z)) := by first | (rw [s_sr_C (by omega)]; done) | (rw [s_sr_k c_10 (by omega) (by omega)]; rfl)
                          exact join_326   _ _ hP hD hS _ (show lv_has ls 9 [(0, .ref (ad 0)), (1, .int (nI (u))), (2, .int (oI (s_par n B u))), (3, .int (nI (B 4 u))), (4, .int (nI (s_col n B u))), (5, .int (nI (s_fr n B u z))), (6, .int (nI (z))), (7, .int (oI (s_pa n B u z)))] from by rw [← e_11]; exact lv_sub hl [0, 1, 2, 3, 4, 5, 6, 7] rfl)
                        refine lv_iload hx hb dX2_aligns_254 (lv_at hl 7 rfl) ?_
                        refine lv_iconst (v := (oI (none))) hx hb dX2_aligns_256 (by decide +kernel) ?_
                        refine o_ne (tgt := 326) hx hb (fun k hk => by have := (s_pt_some (s_sr_k hk h_y h_fy)).2.1; omega) dX2_aligns_257 (by decide) (fun kc_12 c_12 => ?_) (fun c_12 => ?_)
                        · rw [c_12] at hl
                          have hl : lv_has ls 9 [(0, .ref (ad 0)), (1, .int (nI (u))), (2, .int (oI (s_par n B u))), (3, .int (nI (B 4 u))), (4, .int (nI (s_col n B u))), (5, .int (nI (s_fr n B u z))), (6, .int (nI (z))), (7, .int (nI (kc_12))), (8, .int (nI (y)))] := hl
                          have e_13 : ((nI (kc_12)) : Int32) = (oI (s_pa n B u z)) := by first | (rw [s_sr_C (by omega)]; done) | (rw [s_sr_k c_12 (by omega) (by omega)]; rfl)
                          exact join_326   _ _ hP hD hS _ (show lv_has ls 9 [(0, .ref (ad 0)), (1, .int (nI (u))), (2, .int (oI (s_par n B u))), (3, .int (nI (B 4 u))), (4, .int (nI (s_col n B u))), (5, .int (nI (s_fr n B u z))), (6, .int (nI (z))), (7, .int (oI (s_pa n B u z)))] from by rw [← e_13]; exact lv_sub hl [0, 1, 2, 3, 4, 5, 6, 7] rfl)
                        rw [c_12] at hl
                        have hl : lv_has ls 9 [(0, .ref (ad 0)), (1, .int (nI (u))), (2, .int (oI (s_par n B u))), (3, .int (nI (B 4 u))), (4, .int (nI (s_col n B u))), (5, .int (nI (s_fr n B u z))), (6, .int (nI (z))), (7, .int (oI (none))), (8, .int (nI (y)))] := hl
                        obtain ⟨q1, hq1, hq2, hq3⟩ := s_col_pos (n := n) (B := B) (u := u) (j := y) (by omega)
                        have hq4 := hB.2.2.1 q1
                        refine lv_aload_n hx hb dX2_aligns_260 rfl (lv_at hl 0 rfl) ?_
                        refine lv_bipush (v := (nI (8))) hx hb dX2_aligns_261 (by decide +kernel) ?_
                        refine lv_iload_n hx hb dX2_aligns_263 rfl (lv_at hl 1 rfl) ?_
                        refine lv_imul hx hb dX2_aligns_264 ?_
                        refine n_top (y := (nI (8 * u))) (pk_mul _ _) ?_
                        refine lv_iload hx hb dX2_aligns_265 (lv_at hl 6 rfl) ?_
                        refine lv_iadd hx hb dX2_aligns_267 ?_
                        refine n_top (y := (nI (8 * u + z))) (nI_add _ _) ?_
                        refine lv_bipush (v := (nI (8))) hx hb dX2_aligns_268 (by decide +kernel) ?_
                        refine lv_iload_n hx hb dX2_aligns_270 rfl (lv_at hl 2 rfl) ?_
                        refine n_top (y := (nI (q1))) (by rw [hq1]; rfl) ?_
                        refine lv_imul hx hb dX2_aligns_271 ?_
                        refine n_top (y := (nI (8 * q1))) (pk_mul _ _) ?_
                        refine lv_iload hx hb dX2_aligns_272 (lv_at hl 8 rfl) ?_
                        refine lv_iadd hx hb dX2_aligns_274 ?_
                        refine n_top (y := (nI (8 * q1 + y))) (nI_add _ _) ?_
                        refine ro_V (As := [.int (nI (8 * u + z)), .int (nI (8 * q1 + y))]) (v := (bI (s_fits B (8 * u + z) (8 * q1 + y)))) ⟨hx, hb, hml, hown, hts⟩ (kX2_fits l D cI ad th n B (s_alk n B u P z) b2 (8 * u + z) (8 * q1 + y) hB (by omega) (by omega)) (cwV 2 hts gX2_aligns_X2_fits rfl rfl rfl hdX2_fits ⟨Nat.le_of_ble_eq_true rfl, Nat.le_of_ble_eq_true rfl⟩) hK hP (ci := 4) rfl (q0 := 0) rfl rfl rfl hl.1 rfl (Nat.le_of_ble_eq_true rfl) dX2_aligns_275 ⟨Nat.zero_le _, Nat.zero_le _⟩ ?_
                        refine y_eq (tgt := 320) hx hb dX2_aligns_278 (by decide) (fun c_14 => ?_) (fun c_14 => ?_)
                        · refine lv_iinc (v := (nI (y + 1))) (lv' := [(8, .int (nI (y + 1))), (0, .ref (ad 0)), (1, .int (nI (u))), (2, .int (oI (s_par n B u))), (3, .int (nI (B 4 u))), (4, .int (nI (s_col n B u))), (5, .int (nI (s_fr n B u z))), (6, .int (nI (z))), (7, .int (oI (none)))]) hx hb dX2_aligns_320 hl (k := 8) rfl (nI_1 _) (by decide) rfl (fun ls hl => ?_)
                          refine lv_goto (tgt := 247) hx hb dX2_aligns_323 (by decide) ?_
                          have e_15 : ((oI (none)) : Int32) = (oI (s_sr n B u z (y + 1))) := by rw [s_sr_s (by assumption) hq1 h_fy]; first | (rw [if_pos (by simp [c_2, c_3, c_4, c_10, c_12, c_14, Nat.not_le.mpr c_2, Nat.not_le.mp c_4, Nat.not_le.mp c_10])]; rfl) | (rw [if_neg (by simp [c_2, c_3, c_4, c_10, c_12, c_14, Nat.not_le.mpr c_2, Nat.not_le.mp c_4, Nat.not_le.mp c_10])])
                          exact ih_247 (y + 1) (by omega) (by first | omega | exact s_fr_le) (by omega) _ _ hP hD hS _ (show lv_has ls 9 [(0, .ref (ad 0)), (1, .int (nI (u))), (2, .int (oI (s_par n B u))), (3, .int (nI (B 4 u))), (4, .int (nI (s_col n B u))), (5, .int (nI (s_fr n B u z))), (6, .int (nI (z))), (7, .int (oI (s_sr n B u z (y + 1)))), (8, .int (nI (y + 1)))] from by rw [← e_15]; exact lv_sub hl [1, 2, 3, 4, 5, 6, 7, 8, 0] rfl)
                        have hl1 := s_LL_le hB.2.2.1 (n := n) u (z + 1) (y + 1)
                        have hl2 := s_LL_le hB.2.2.1 (n := n) u z (s_fr n B u z)
                        refine lv_iconst (v := (nI (1))) hx hb dX2_aligns_281 (by decide +kernel) ?_
                        refine lv_aload_n hx hb dX2_aligns_282 rfl (lv_at hl 0 rfl) ?_
                        refine va_get (D := D) (ci := 4) (v := .ref (ad 9)) (C := RX2) (T := TX2) (N := 11) hx hb hts hin hown hK hP 0 rfl rfl 10 (by decide) hf_34 (fun _ h9 => h9) rfl dX2_aligns_283 ?_
                        refine lv_bipush (v := (nI (9))) hx hb dX2_aligns_286 (by decide +kernel) ?_
                        refine lv_iload hx hb dX2_aligns_288 (lv_at hl 6 rfl) ?_
                        refine lv_iconst (v := (nI (1))) hx hb dX2_aligns_290 (by decide +kernel) ?_
                        refine lv_iadd hx hb dX2_aligns_291 ?_
                        refine n_top (y := (nI (z + 1))) (nI_add _ _) ?_
                        refine lv_imul hx hb dX2_aligns_292 ?_
                        refine n_top (y := (nI (9 * (z + 1)))) (pk_mul _ _) ?_
                        refine lv_iload hx hb dX2_aligns_293 (lv_at hl 8 rfl) ?_
                        refine lv_iadd hx hb dX2_aligns_295 ?_
                        refine n_top (y := (nI (9 * (z + 1) + y))) (nI_add _ _) ?_
                        refine lv_iconst (v := (nI (1))) hx hb dX2_aligns_296 (by decide +kernel) ?_
                        refine lv_iadd hx hb dX2_aligns_297 ?_
                        refine n_top (y := (nI (9 * (z + 1) + y + 1))) (nI_add _ _) ?_
                        refine n_iald hx hb hK hP 9 0 rfl rfl (i := 9 * (z + 1) + y + 1) (by omega) (by decide) dX2_aligns_298 ?_
                        refine n_top (y := (nI (s_LL n B u (z + 1) (y + 1)))) (congrArg nI (s_tbO_at h_b2 (i := z + 1) (j := y + 1) (by omega) (by omega))) ?_
                        refine lv_iadd hx hb dX2_aligns_299 ?_
                        refine n_top (y := (nI (1 + (s_LL n B u (z + 1) (y + 1))))) (nI_add _ _) ?_
                        refine lv_aload_n hx hb dX2_aligns_300 rfl (lv_at hl 0 rfl) ?_
                        refine va_get (D := D) (ci := 4) (v := .ref (ad 9)) (C := RX2) (T := TX2) (N := 11) hx hb hts hin hown hK hP 0 rfl rfl 10 (by decide) hf_34 (fun _ h9 => h9) rfl dX2_aligns_301 ?_
                        refine lv_bipush (v := (nI (9))) hx hb dX2_aligns_304 (by decide +kernel) ?_
                        refine lv_iload hx hb dX2_aligns_306 (lv_at hl 6 rfl) ?_
                        refine lv_imul hx hb dX2_aligns_308 ?_
                        refine n_top (y := (nI (9 * z))) (pk_mul _ _) ?_
                        refine lv_iload hx hb dX2_aligns_309 (lv_at hl 5 rfl) ?_
                        refine lv_iadd hx hb dX2_aligns_311 ?_
                        refine n_top (y := (nI (9 * z + (s_fr n B u z)))) (nI_add _ _) ?_
                        refine n_iald hx hb hK hP 9 0 rfl rfl (i := 9 * z + (s_fr n B u z)) (by omega) (by decide) dX2_aligns_312 ?_
                        refine n_top (y := (nI (s_LL n B u z (s_fr n B u z)))) (congrArg nI (s_tbO_at h_b2 (by omega) (by omega))) ?_
                        refine n_ne (tgt := 320) hx hb (by omega) (by omega) dX2_aligns_313 (by decide) (fun c_16 => ?_) (fun c_16 => ?_)
                        · refine lv_iinc (v := (nI (y + 1))) (lv' := [(8, .int (nI (y + 1))), (0, .ref (ad 0)), (1, .int (nI (u))), (2, .int (oI (s_par n B u))), (3, .int (nI (B 4 u))), (4, .int (nI (s_col n B u))), (5, .int (nI (s_fr n B u z))), (6, .int (nI (z))), (7, .int (oI (none)))]) hx hb dX2_aligns_320 hl (k := 8) rfl (nI_1 _) (by decide) rfl (fun ls hl => ?_)
                          refine lv_goto (tgt := 247) hx hb dX2_aligns_323 (by decide) ?_
                          have e_17 : ((oI (none)) : Int32) = (oI (s_sr n B u z (y + 1))) := by rw [s_sr_s (by assumption) hq1 h_fy]; first | (rw [if_pos (by simp [c_2, c_3, c_4, c_10, c_12, c_14, c_16, Nat.not_le.mpr c_2, Nat.not_le.mp c_4, Nat.not_le.mp c_10])]; rfl) | (rw [if_neg (by simp [c_2, c_3, c_4, c_10, c_12, c_14, c_16, Nat.not_le.mpr c_2, Nat.not_le.mp c_4, Nat.not_le.mp c_10])])
                          exact ih_247 (y + 1) (by omega) (by first | omega | exact s_fr_le) (by omega) _ _ hP hD hS _ (show lv_has ls 9 [(0, .ref (ad 0)), (1, .int (nI (u))), (2, .int (oI (s_par n B u))), (3, .int (nI (B 4 u))), (4, .int (nI (s_col n B u))), (5, .int (nI (s_fr n B u z))), (6, .int (nI (z))), (7, .int (oI (s_sr n B u z (y + 1)))), (8, .int (nI (y + 1)))] from by rw [← e_17]; exact lv_sub hl [1, 2, 3, 4, 5, 6, 7, 8, 0] rfl)
                        refine lv_iload hx hb dX2_aligns_316 (lv_at hl 8 rfl) ?_
                        refine lv_istore (lv' := [(7, .int (nI (y))), (0, .ref (ad 0)), (1, .int (nI (u))), (2, .int (oI (s_par n B u))), (3, .int (nI (B 4 u))), (4, .int (nI (s_col n B u))), (5, .int (nI (s_fr n B u z))), (6, .int (nI (z))), (8, .int (nI (y)))]) hx hb dX2_aligns_318 hl (by decide) rfl (fun ls hl => ?_)
                        refine lv_iinc (v := (nI (y + 1))) (lv' := [(8, .int (nI (y + 1))), (7, .int (nI (y))), (0, .ref (ad 0)), (1, .int (nI (u))), (2, .int (oI (s_par n B u))), (3, .int (nI (B 4 u))), (4, .int (nI (s_col n B u))), (5, .int (nI (s_fr n B u z))), (6, .int (nI (z)))]) hx hb dX2_aligns_320 hl (k := 8) rfl (nI_1 _) (by decide) rfl (fun ls hl => ?_)
                        refine lv_goto (tgt := 247) hx hb dX2_aligns_323 (by decide) ?_
                        have e_18 : ((nI (y)) : Int32) = (oI (s_sr n B u z (y + 1))) := by rw [s_sr_s (by assumption) hq1 h_fy]; first | (rw [if_pos (by simp [c_2, c_3, c_4, c_10, c_12, c_14, c_16, Nat.not_le.mpr c_2, Nat.not_le.mp c_4, Nat.not_le.mp c_10])]; rfl) | (rw [if_neg (by simp [c_2, c_3, c_4, c_10, c_12, c_14, c_16, Nat.not_le.mpr c_2, Nat.not_le.mp c_4, Nat.not_le.mp c_10])])
                        exact ih_247 (y + 1) (by omega) (by first | omega | exact s_fr_le) (by omega) _ _ hP hD hS _ (show lv_has ls 9 [(0, .ref (ad 0)), (1, .int (nI (u))), (2, .int (oI (s_par n B u))), (3, .int (nI (B 4 u))), (4, .int (nI (s_col n B u))), (5, .int (nI (s_fr n B u z))), (6, .int (nI (z))), (7, .int (oI (s_sr n B u z (y + 1)))), (8, .int (nI (y + 1)))] from by rw [← e_18]; exact lv_sub hl [2, 3, 4, 5, 6, 7, 8, 1, 0] rfl)
                    have e_19 : ((oI (none)) : Int32) = (oI (s_sr n B u z (s_fr n B u z))) := by rw [s_sr_0]
                    exact loop_247 (s_col n B u - (s_fr n B u z) + 1) (s_fr n B u z) (by omega) (by first | omega | exact s_fr_le) (by omega) _ _ hP hD hS _ (show lv_has ls 9 [(0, .ref (ad 0)), (1, .int (nI (u))), (2, .int (oI (s_par n B u))), (3, .int (nI (B 4 u))), (4, .int (nI (s_col n B u))), (5, .int (nI (s_fr n B u z))), (6, .int (nI (z))), (7, .int (oI (s_sr n B u z (s_fr n B u z)))), (8, .int (nI (s_fr n B u z)))] from by rw [← e_19]; exact lv_sub hl [2, 3, 4, 5, 6, 7, 8, 1, 0] rfl)
                have e_20 : ((nI (0)) : Int32) = (nI (s_fr n B u 0)) := by first | rfl | (simp [oI_s, bI_t, bI_f, c_2, c_3, Nat.not_le.mpr c_2]; done) | (simp [oI_s, bI_t, bI_f, c_2, c_3, Nat.not_le.mpr c_2]; omega)
                have ew_21 : P = (s_alk n B u P 0) := by first | exact s_alk_0 | exact s_alk_s
                have hP : va_P D vwCl (wM cI ad th n B (s_alk n B u P 0) b2) H := by rw [← ew_21]; exact hP
                have hD : va_D A (wM cI ad th n B (s_alk n B u P 0) b2) := by rw [← ew_21]; exact hD
                exact loop_234 (B 4 u - 0 + 1) 0 (by omega) (by omega) _ _ hP hD hS _ (show lv_has ls 9 [(0, .ref (ad 0)), (1, .int (nI (u))), (2, .int (oI (s_par n B u))), (3, .int (nI (B 4 u))), (4, .int (nI (s_col n B u))), (5, .int (nI (s_fr n B u 0))), (6, .int (nI (0)))] from by rw [← e_20]; exact lv_sub hl [2, 3, 4, 5, 6, 1, 0] rfl)
              subst c_3
              rw [nI_m1] at hl
              have hl : lv_has ls 9 [(0, .ref (ad 0)), (1, .int (nI (u))), (2, .int (oI (s_par n B u))), (3, .int (nI (B 4 u))), (4, .int (nI (s_col n B u))), (5, .int (nI (x1)))] := hl
              refine lv_iload hx hb dX2_aligns_64 (lv_at hl 4 rfl) ?_
              refine lv_iconst (v := (nI (1))) hx hb dX2_aligns_66 (by decide +kernel) ?_
              refine lv_isub hx hb dX2_aligns_67 ?_
              refine n_top (y := (nI (s_col n B u) - 1)) (by rw [nI_one]) ?_
              refine lv_istore (lv' := [(6, .int (nI (s_col n B u) - 1)), (0, .ref (ad 0)), (1, .int (nI (u))), (2, .int (oI (s_par n B u))), (3, .int (nI (B 4 u))), (4, .int (nI (s_col n B u))), (5, .int (nI (x1)))]) hx hb dX2_aligns_68 hl (by decide) rfl (fun ls hl => ?_)
              have loop_70 : ∀ (N : Nat) (y : Nat) (b3 : Nat → Nat), y < N → (y ≤ s_col n B u) → (s_tbI n B u x1 y b3) → ∀ (H : Heap) (locs : List Loc), va_P D vwCl (wM cI ad th n B P b3) H → va_D A (wM cI ad th n B P b3) → va_S A s.heap H locs → ∀ (ls : Array Slot), lv_has ls 9 [(0, .ref (ad 0)), (1, .int (nI (u))), (2, .int (oI (s_par n B u))), (3, .int (nI (B 4 u))), (4, .int (nI (s_col n B u))), (5, .int (nI (x1))), (6, .int (nI (y) - 1))] → W p l e (headSpec wsX2_aligns ({ frames := 2, cells := 0, slots := 0, locals := 44 })).room s m ([.ref (ad 0), .int (nI (u))] : List Value).toArray below meth c H locs 0 0 (MQ below (va_Qv (fun (bs9 : Nat → Nat) => True) (fun (bs9 : Nat → Nat) t => AtW D [(cI, .int)] A (wM cI ad th n B (s_al n B u P) bs9) t) A) ([.ref (ad 0), .int (nI (u))] : List Value).toArray s 0 0 A) (F0 m 70 ls []) := by
                intro N
                induction N with
                | zero => intro y b3 hmu; exact absurd hmu (Nat.not_lt_zero _)
                | succ N ih_70 =>
                  intro y b3 hmu_70 h_y h_b3 H locs hP hD hS ls hl
                  refine lv_iload hx hb dX2_aligns_70 (lv_at hl 6 rfl) ?_
                  refine m_lt (tgt := 222) hx hb (by omega) dX2_aligns_72 (by decide) (fun c_22 => ?_) (fun y1 c_22 => ?_)
                  · have h_b3 : s_tbI n B u x1 0 b3 := by rw [c_22] at h_b3; exact h_b3
                    refine lv_iinc (v := (nI (x1) - 1)) (lv' := [(5, .int (nI (x1) - 1)), (0, .ref (ad 0)), (1, .int (nI (u))), (2, .int (oI (s_par n B u))), (3, .int (nI (B 4 u))), (4, .int (nI (s_col n B u))), (6, .int (nI (y) - 1))]) hx hb dX2_aligns_222 hl (k := 5) rfl (n_dec _) (by decide) rfl (fun ls hl => ?_)
                    refine lv_goto (tgt := 59) hx hb dX2_aligns_225 (by decide) ?_
                    exact ih_59 x1 b3 (by omega) (by omega) (by first | exact s_tbO_0 (fun j hj => h_bz j (by omega)) | exact s_tbI_O h_b3) _ _ hP hD hS _ (show lv_has ls 9 [(0, .ref (ad 0)), (1, .int (nI (u))), (2, .int (oI (s_par n B u))), (3, .int (nI (B 4 u))), (4, .int (nI (s_col n B u))), (5, .int (nI (x1) - 1))] from by exact lv_sub hl [1, 2, 3, 4, 5, 0] rfl)
                  subst c_22
                  rw [nI_m1] at hl
                  have hl : lv_has ls 9 [(0, .ref (ad 0)), (1, .int (nI (u))), (2, .int (oI (s_par n B u))), (3, .int (nI (B 4 u))), (4, .int (nI (s_col n B u))), (5, .int (nI (x1))), (6, .int (nI (y1)))] := hl
                  have join_119 : ∀ (H : Heap) (locs : List Loc), va_P D vwCl (wM cI ad th n B P b3) H → va_D A (wM cI ad th n B P b3) → va_S A s.heap H locs → ∀ (ls : Array Slot), lv_has ls 9 [(0, .ref (ad 0)), (1, .int (nI (u))), (2, .int (oI (s_par n B u))), (3, .int (nI (B 4 u))), (4, .int (nI (s_col n B u))), (5, .int (nI (x1))), (6, .int (nI (y1)))] → W p l e (headSpec wsX2_aligns ({ frames := 2, cells := 0, slots := 0, locals := 44 })).room s m ([.ref (ad 0), .int (nI (u))] : List Value).toArray below meth c H locs 0 0 (MQ below (va_Qv (fun (bs9 : Nat → Nat) => True) (fun (bs9 : Nat → Nat) t => AtW D [(cI, .int)] A (wM cI ad th n B (s_al n B u P) bs9) t) A) ([.ref (ad 0), .int (nI (u))] : List Value).toArray s 0 0 A) (F0 m 119 ls [.int (nI (if s_f n B u x1 y1 = true then 1 + s_LL n B u (x1 + 1) (y1 + 1) else 0))]) := by
                    intro   H locs hP hD hS ls hl
                    have hl1 := s_LL_le hB.2.2.1 (n := n) u (x1 + 1) (y1 + 1)
                    have hl2 := s_LL_le hB.2.2.1 (n := n) u (x1 + 1) y1
                    have hl3 := s_LL_le hB.2.2.1 (n := n) u x1 (y1 + 1)
                    refine lv_istore (lv' := [(7, .int (nI (if s_f n B u x1 y1 = true then 1 + s_LL n B u (x1 + 1) (y1 + 1) else 0))), (0, .ref (ad 0)), (1, .int (nI (u))), (2, .int (oI (s_par n B u))), (3, .int (nI (B 4 u))), (4, .int (nI (s_col n B u))), (5, .int (nI (x1))), (6, .int (nI (y1)))]) hx hb dX2_aligns_119 hl (by decide) rfl (fun ls hl => ?_)
                    have join_187 : ∀ (H : Heap) (locs : List Loc), va_P D vwCl (wM cI ad th n B P b3) H → va_D A (wM cI ad th n B P b3) → va_S A s.heap H locs → ∀ (ls : Array Slot), lv_has ls 9 [(7, .int (nI (if s_f n B u x1 y1 = true then 1 + s_LL n B u (x1 + 1) (y1 + 1) else 0))), (0, .ref (ad 0)), (1, .int (nI (u))), (2, .int (oI (s_par n B u))), (3, .int (nI (B 4 u))), (4, .int (nI (s_col n B u))), (5, .int (nI (x1))), (6, .int (nI (y1)))] → W p l e (headSpec wsX2_aligns ({ frames := 2, cells := 0, slots := 0, locals := 44 })).room s m ([.ref (ad 0), .int (nI (u))] : List Value).toArray below meth c H locs 0 0 (MQ below (va_Qv (fun (bs9 : Nat → Nat) => True) (fun (bs9 : Nat → Nat) t => AtW D [(cI, .int)] A (wM cI ad th n B (s_al n B u P) bs9) t) A) ([.ref (ad 0), .int (nI (u))] : List Value).toArray s 0 0 A) (F0 m 187 ls [.int (nI (max (s_LL n B u (x1 + 1) y1) (s_LL n B u x1 (y1 + 1))))]) := by
                      intro   H locs hP hD hS ls hl
                      refine lv_istore (lv' := [(8, .int (nI (max (s_LL n B u (x1 + 1) y1) (s_LL n B u x1 (y1 + 1))))), (7, .int (nI (if s_f n B u x1 y1 = true then 1 + s_LL n B u (x1 + 1) (y1 + 1) else 0))), (0, .ref (ad 0)), (1, .int (nI (u))), (2, .int (oI (s_par n B u))), (3, .int (nI (B 4 u))), (4, .int (nI (s_col n B u))), (5, .int (nI (x1))), (6, .int (nI (y1)))]) hx hb dX2_aligns_187 hl (by decide) rfl (fun ls hl => ?_)
                      refine lv_aload_n hx hb dX2_aligns_189 rfl (lv_at hl 2 rfl) ?_
                      refine va_get (D := D) (ci := 4) (v := .ref (ad 9)) (C := RX2) (T := TX2) (N := 11) hx hb hts hin hown hK hP 0 rfl rfl 10 (by decide) hf_34 (fun _ h9 => h9) rfl dX2_aligns_190 ?_
                      refine lv_bipush (v := (nI (9))) hx hb dX2_aligns_193 (by decide +kernel) ?_
                      refine lv_iload hx hb dX2_aligns_195 (lv_at hl 7 rfl) ?_
                      refine lv_imul hx hb dX2_aligns_197 ?_
                      refine n_top (y := (nI (9 * x1))) (pk_mul _ _) ?_
                      refine lv_iload hx hb dX2_aligns_198 (lv_at hl 8 rfl) ?_
                      refine lv_iadd hx hb dX2_aligns_200 ?_
                      refine n_top (y := (nI (9 * x1 + y1))) (nI_add _ _) ?_
                      have join_215 : ∀ (H : Heap) (locs : List Loc), va_P D vwCl (wM cI ad th n B P b3) H → va_D A (wM cI ad th n B P b3) → va_S A s.heap H locs → ∀ (ls : Array Slot), lv_has ls 9 [(8, .int (nI (max (s_LL n B u (x1 + 1) y1) (s_LL n B u x1 (y1 + 1))))), (7, .int (nI (if s_f n B u x1 y1 = true then 1 + s_LL n B u (x1 + 1) (y1 + 1) else 0))), (0, .ref (ad 0)), (1, .int (nI (u))), (2, .int (oI (s_par n B u))), (3, .int (nI (B 4 u))), (4, .int (nI (s_col n B u))), (5, .int (nI (x1))), (6, .int (nI (y1)))] → W p l e (headSpec wsX2_aligns ({ frames := 2, cells := 0, slots := 0, locals := 44 })).room s m ([.ref (ad 0), .int (nI (u))] : List Value).toArray below meth c H locs 0 0 (MQ below (va_Qv (fun (bs9 : Nat → Nat) => True) (fun (bs9 : Nat → Nat) t => AtW D [(cI, .int)] A (wM cI ad th n B (s_al n B u P) bs9) t) A) ([.ref (ad 0), .int (nI (u))] : List Value).toArray s 0 0 A) (F0 m 215 ls [.int (nI (s_LL n B u x1 y1)), .int (nI (9 * x1 + y1)), .ref (ad 9)]) := by
                        intro   H locs hP hD hS ls hl
                        refine r_iast hx hb hK hP hD hS 9 0 rfl rfl (i := 9 * x1 + y1) (by omega) (by decide) dX2_aligns_215 (ws' := (wM cI ad th n B P (va_up b3 (9 * x1 + y1) (s_LL n B u x1 y1)))) (nI_upd _ _ _) rfl (fun H locs hP hD hS => ?_)
                        refine lv_iinc (v := (nI (y1) - 1)) (lv' := [(6, .int (nI (y1) - 1)), (8, .int (nI (max (s_LL n B u (x1 + 1) y1) (s_LL n B u x1 (y1 + 1))))), (7, .int (nI (if s_f n B u x1 y1 = true then 1 + s_LL n B u (x1 + 1) (y1 + 1) else 0))), (0, .ref (ad 0)), (1, .int (nI (u))), (2, .int (oI (s_par n B u))), (3, .int (nI (B 4 u))), (4, .int (nI (s_col n B u))), (5, .int (nI (x1)))]) hx hb dX2_aligns_216 hl (k := 8) rfl (n_dec _) (by decide) rfl (fun ls hl => ?_)
                        refine lv_goto (tgt := 70) hx hb dX2_aligns_219 (by decide) ?_
                        exact ih_70 y1 (va_up b3 (9 * x1 + y1) (s_LL n B u x1 y1)) (by omega) (by omega) (by first | exact s_tbO_I h_b2 | exact s_tbI_s h_b3 (by omega) (by omega)) _ _ hP hD hS _ (show lv_has ls 9 [(0, .ref (ad 0)), (1, .int (nI (u))), (2, .int (oI (s_par n B u))), (3, .int (nI (B 4 u))), (4, .int (nI (s_col n B u))), (5, .int (nI (x1))), (6, .int (nI (y1) - 1))] from by exact lv_sub hl [3, 4, 5, 6, 7, 8, 0] rfl)
                      have hl4 : (if s_f n B u x1 y1 = true then 1 + s_LL n B u (x1 + 1) (y1 + 1) else 0) ≤ 9 := by split <;> omega
                      refine lv_iload hx hb dX2_aligns_201 (lv_at hl 1 rfl) ?_
                      refine lv_iload hx hb dX2_aligns_203 (lv_at hl 0 rfl) ?_
                      refine n_le (tgt := 213) hx hb (by omega) (by omega) dX2_aligns_205 (by decide) (fun c_23 => ?_) (fun c_23 => ?_)
                      · refine lv_iload hx hb dX2_aligns_213 (lv_at hl 0 rfl) ?_
                        refine n_top (y := (nI (s_LL n B u x1 y1))) (by rw [s_LL_s (i := x1) (j := y1) (by omega) (by omega)]; exact congrArg nI (by omega)) ?_
                        exact join_215   _ _ hP hD hS _ (show lv_has ls 9 [(8, .int (nI (max (s_LL n B u (x1 + 1) y1) (s_LL n B u x1 (y1 + 1))))), (7, .int (nI (if s_f n B u x1 y1 = true then 1 + s_LL n B u (x1 + 1) (y1 + 1) else 0))), (0, .ref (ad 0)), (1, .int (nI (u))), (2, .int (oI (s_par n B u))), (3, .int (nI (B 4 u))), (4, .int (nI (s_col n B u))), (5, .int (nI (x1))), (6, .int (nI (y1)))] from by exact lv_sub hl [0, 1, 2, 3, 4, 5, 6, 7, 8] rfl)
                      refine lv_iload hx hb dX2_aligns_208 (lv_at hl 1 rfl) ?_
                      refine lv_goto (tgt := 215) hx hb dX2_aligns_210 (by decide) ?_
                      refine n_top (y := (nI (s_LL n B u x1 y1))) (by rw [s_LL_s (i := x1) (j := y1) (by omega) (by omega)]; exact congrArg nI (by omega)) ?_
                      exact join_215   _ _ hP hD hS _ (show lv_has ls 9 [(8, .int (nI (max (s_LL n B u (x1 + 1) y1) (s_LL n B u x1 (y1 + 1))))), (7, .int (nI (if s_f n B u x1 y1 = true then 1 + s_LL n B u (x1 + 1) (y1 + 1) else 0))), (0, .ref (ad 0)), (1, .int (nI (u))), (2, .int (oI (s_par n B u))), (3, .int (nI (B 4 u))), (4, .int (nI (s_col n B u))), (5, .int (nI (x1))), (6, .int (nI (y1)))] from by exact lv_sub hl [0, 1, 2, 3, 4, 5, 6, 7, 8] rfl)
                    refine lv_aload_n hx hb dX2_aligns_121 rfl (lv_at hl 1 rfl) ?_
                    refine va_get (D := D) (ci := 4) (v := .ref (ad 9)) (C := RX2) (T := TX2) (N := 11) hx hb hts hin hown hK hP 0 rfl rfl 10 (by decide) hf_34 (fun _ h9 => h9) rfl dX2_aligns_122 ?_
                    refine lv_bipush (v := (nI (9))) hx hb dX2_aligns_125 (by decide +kernel) ?_
                    refine lv_iload hx hb dX2_aligns_127 (lv_at hl 6 rfl) ?_
                    refine lv_iconst (v := (nI (1))) hx hb dX2_aligns_129 (by decide +kernel) ?_
                    refine lv_iadd hx hb dX2_aligns_130 ?_
                    refine n_top (y := (nI (x1 + 1))) (nI_add _ _) ?_
                    refine lv_imul hx hb dX2_aligns_131 ?_
                    refine n_top (y := (nI (9 * (x1 + 1)))) (pk_mul _ _) ?_
                    refine lv_iload hx hb dX2_aligns_132 (lv_at hl 7 rfl) ?_
                    refine lv_iadd hx hb dX2_aligns_134 ?_
                    refine n_top (y := (nI (9 * (x1 + 1) + y1))) (nI_add _ _) ?_
                    refine n_iald hx hb hK hP 9 0 rfl rfl (i := 9 * (x1 + 1) + y1) (by omega) (by decide) dX2_aligns_135 ?_
                    refine n_top (y := (nI (s_LL n B u (x1 + 1) y1))) (congrArg nI (s_tbI_at h_b3 (by omega) (by omega) (Or.inl (by omega)))) ?_
                    refine lv_aload_n hx hb dX2_aligns_136 rfl (lv_at hl 1 rfl) ?_
                    refine va_get (D := D) (ci := 4) (v := .ref (ad 9)) (C := RX2) (T := TX2) (N := 11) hx hb hts hin hown hK hP 0 rfl rfl 10 (by decide) hf_34 (fun _ h9 => h9) rfl dX2_aligns_137 ?_
                    refine lv_bipush (v := (nI (9))) hx hb dX2_aligns_140 (by decide +kernel) ?_
                    refine lv_iload hx hb dX2_aligns_142 (lv_at hl 6 rfl) ?_
                    refine lv_imul hx hb dX2_aligns_144 ?_
                    refine n_top (y := (nI (9 * x1))) (pk_mul _ _) ?_
                    refine lv_iload hx hb dX2_aligns_145 (lv_at hl 7 rfl) ?_
                    refine lv_iadd hx hb dX2_aligns_147 ?_
                    refine n_top (y := (nI (9 * x1 + y1))) (nI_add _ _) ?_
                    refine lv_iconst (v := (nI (1))) hx hb dX2_aligns_148 (by decide +kernel) ?_
                    refine lv_iadd hx hb dX2_aligns_149 ?_
                    refine n_top (y := (nI (9 * x1 + y1 + 1))) (nI_add _ _) ?_
                    refine n_iald hx hb hK hP 9 0 rfl rfl (i := 9 * x1 + y1 + 1) (by omega) (by decide) dX2_aligns_150 ?_
                    refine n_top (y := (nI (s_LL n B u x1 (y1 + 1)))) (congrArg nI (s_tbI_at h_b3 (i := x1) (j := y1 + 1) (by omega) (by omega) (Or.inr ⟨rfl, by omega⟩))) ?_
                    refine n_le (tgt := 172) hx hb (by omega) (by omega) dX2_aligns_151 (by decide) (fun c_24 => ?_) (fun c_24 => ?_)
                    · refine lv_aload_n hx hb dX2_aligns_172 rfl (lv_at hl 1 rfl) ?_
                      refine va_get (D := D) (ci := 4) (v := .ref (ad 9)) (C := RX2) (T := TX2) (N := 11) hx hb hts hin hown hK hP 0 rfl rfl 10 (by decide) hf_34 (fun _ h9 => h9) rfl dX2_aligns_173 ?_
                      refine lv_bipush (v := (nI (9))) hx hb dX2_aligns_176 (by decide +kernel) ?_
                      refine lv_iload hx hb dX2_aligns_178 (lv_at hl 6 rfl) ?_
                      refine lv_imul hx hb dX2_aligns_180 ?_
                      refine n_top (y := (nI (9 * x1))) (pk_mul _ _) ?_
                      refine lv_iload hx hb dX2_aligns_181 (lv_at hl 7 rfl) ?_
                      refine lv_iadd hx hb dX2_aligns_183 ?_
                      refine n_top (y := (nI (9 * x1 + y1))) (nI_add _ _) ?_
                      refine lv_iconst (v := (nI (1))) hx hb dX2_aligns_184 (by decide +kernel) ?_
                      refine lv_iadd hx hb dX2_aligns_185 ?_
                      refine n_top (y := (nI (9 * x1 + y1 + 1))) (nI_add _ _) ?_
                      refine n_iald hx hb hK hP 9 0 rfl rfl (i := 9 * x1 + y1 + 1) (by omega) (by decide) dX2_aligns_186 ?_
                      refine n_top (y := (nI (s_LL n B u x1 (y1 + 1)))) (congrArg nI (s_tbI_at h_b3 (i := x1) (j := y1 + 1) (by omega) (by omega) (Or.inr ⟨rfl, by omega⟩))) ?_
                      refine n_top (y := (nI (max (s_LL n B u (x1 + 1) y1) (s_LL n B u x1 (y1 + 1))))) (by exact congrArg nI (by omega)) ?_
                      exact join_187   _ _ hP hD hS _ (show lv_has ls 9 [(7, .int (nI (if s_f n B u x1 y1 = true then 1 + s_LL n B u (x1 + 1) (y1 + 1) else 0))), (0, .ref (ad 0)), (1, .int (nI (u))), (2, .int (oI (s_par n B u))), (3, .int (nI (B 4 u))), (4, .int (nI (s_col n B u))), (5, .int (nI (x1))), (6, .int (nI (y1)))] from by exact lv_sub hl [0, 1, 2, 3, 4, 5, 6, 7] rfl)
                    refine lv_aload_n hx hb dX2_aligns_154 rfl (lv_at hl 1 rfl) ?_
                    refine va_get (D := D) (ci := 4) (v := .ref (ad 9)) (C := RX2) (T := TX2) (N := 11) hx hb hts hin hown hK hP 0 rfl rfl 10 (by decide) hf_34 (fun _ h9 => h9) rfl dX2_aligns_155 ?_
                    refine lv_bipush (v := (nI (9))) hx hb dX2_aligns_158 (by decide +kernel) ?_
                    refine lv_iload hx hb dX2_aligns_160 (lv_at hl 6 rfl) ?_
                    refine lv_iconst (v := (nI (1))) hx hb dX2_aligns_162 (by decide +kernel) ?_
                    refine lv_iadd hx hb dX2_aligns_163 ?_
                    refine n_top (y := (nI (x1 + 1))) (nI_add _ _) ?_
                    refine lv_imul hx hb dX2_aligns_164 ?_
                    refine n_top (y := (nI (9 * (x1 + 1)))) (pk_mul _ _) ?_
                    refine lv_iload hx hb dX2_aligns_165 (lv_at hl 7 rfl) ?_
                    refine lv_iadd hx hb dX2_aligns_167 ?_
                    refine n_top (y := (nI (9 * (x1 + 1) + y1))) (nI_add _ _) ?_
                    refine n_iald hx hb hK hP 9 0 rfl rfl (i := 9 * (x1 + 1) + y1) (by omega) (by decide) dX2_aligns_168 ?_
                    refine n_top (y := (nI (s_LL n B u (x1 + 1) y1))) (congrArg nI (s_tbI_at h_b3 (by omega) (by omega) (Or.inl (by omega)))) ?_
                    refine lv_goto (tgt := 187) hx hb dX2_aligns_169 (by decide) ?_
                    refine n_top (y := (nI (max (s_LL n B u (x1 + 1) y1) (s_LL n B u x1 (y1 + 1))))) (by exact congrArg nI (by omega)) ?_
                    exact join_187   _ _ hP hD hS _ (show lv_has ls 9 [(7, .int (nI (if s_f n B u x1 y1 = true then 1 + s_LL n B u (x1 + 1) (y1 + 1) else 0))), (0, .ref (ad 0)), (1, .int (nI (u))), (2, .int (oI (s_par n B u))), (3, .int (nI (B 4 u))), (4, .int (nI (s_col n B u))), (5, .int (nI (x1))), (6, .int (nI (y1)))] from by exact lv_sub hl [0, 1, 2, 3, 4, 5, 6, 7] rfl)
                  obtain ⟨q1, hq1, hq2, hq3⟩ := s_col_pos (n := n) (B := B) (u := u) (j := y1) (by omega)
                  have hq4 := hB.2.2.1 q1
                  refine lv_aload_n hx hb dX2_aligns_75 rfl (lv_at hl 0 rfl) ?_
                  refine lv_bipush (v := (nI (8))) hx hb dX2_aligns_76 (by decide +kernel) ?_
                  refine lv_iload_n hx hb dX2_aligns_78 rfl (lv_at hl 1 rfl) ?_
                  refine lv_imul hx hb dX2_aligns_79 ?_
                  refine n_top (y := (nI (8 * u))) (pk_mul _ _) ?_
                  refine lv_iload hx hb dX2_aligns_80 (lv_at hl 5 rfl) ?_
                  refine lv_iadd hx hb dX2_aligns_82 ?_
                  refine n_top (y := (nI (8 * u + x1))) (nI_add _ _) ?_
                  refine lv_bipush (v := (nI (8))) hx hb dX2_aligns_83 (by decide +kernel) ?_
                  refine lv_iload_n hx hb dX2_aligns_85 rfl (lv_at hl 2 rfl) ?_
                  refine n_top (y := (nI (q1))) (by rw [hq1]; rfl) ?_
                  refine lv_imul hx hb dX2_aligns_86 ?_
                  refine n_top (y := (nI (8 * q1))) (pk_mul _ _) ?_
                  refine lv_iload hx hb dX2_aligns_87 (lv_at hl 6 rfl) ?_
                  refine lv_iadd hx hb dX2_aligns_89 ?_
                  refine n_top (y := (nI (8 * q1 + y1))) (nI_add _ _) ?_
                  refine ro_V (As := [.int (nI (8 * u + x1)), .int (nI (8 * q1 + y1))]) (v := (bI (s_fits B (8 * u + x1) (8 * q1 + y1)))) ⟨hx, hb, hml, hown, hts⟩ (kX2_fits l D cI ad th n B P b3 (8 * u + x1) (8 * q1 + y1) hB (by omega) (by omega)) (cwV 2 hts gX2_aligns_X2_fits rfl rfl rfl hdX2_fits ⟨Nat.le_of_ble_eq_true rfl, Nat.le_of_ble_eq_true rfl⟩) hK hP (ci := 4) rfl (q0 := 0) rfl rfl rfl hl.1 rfl (Nat.le_of_ble_eq_true rfl) dX2_aligns_90 ⟨Nat.zero_le _, Nat.zero_le _⟩ ?_
                  refine y_eq (tgt := 118) hx hb dX2_aligns_93 (by decide) (fun c_25 => ?_) (fun c_25 => ?_)
                  · refine lv_iconst (v := (nI (0))) hx hb dX2_aligns_118 (by decide +kernel) ?_
                    refine n_top (y := (nI (if s_f n B u x1 y1 = true then 1 + s_LL n B u (x1 + 1) (y1 + 1) else 0))) (by first | rfl | (simp [oI_s, bI_t, bI_f, s_f_q hq1, c_2, c_25, Nat.not_le.mpr c_2]; done) | (simp [oI_s, bI_t, bI_f, s_f_q hq1, c_2, c_25, Nat.not_le.mpr c_2]; omega) | (simp only [s_f_q hq1]; (repeat' split) <;> first | rfl | omega | (simp_all; done) | (simp_all; omega))) ?_
                    exact join_119   _ _ hP hD hS _ (show lv_has ls 9 [(0, .ref (ad 0)), (1, .int (nI (u))), (2, .int (oI (s_par n B u))), (3, .int (nI (B 4 u))), (4, .int (nI (s_col n B u))), (5, .int (nI (x1))), (6, .int (nI (y1)))] from by exact lv_sub hl [0, 1, 2, 3, 4, 5, 6] rfl)
                  refine lv_iconst (v := (nI (1))) hx hb dX2_aligns_96 (by decide +kernel) ?_
                  refine lv_aload_n hx hb dX2_aligns_97 rfl (lv_at hl 0 rfl) ?_
                  refine va_get (D := D) (ci := 4) (v := .ref (ad 9)) (C := RX2) (T := TX2) (N := 11) hx hb hts hin hown hK hP 0 rfl rfl 10 (by decide) hf_34 (fun _ h9 => h9) rfl dX2_aligns_98 ?_
                  refine lv_bipush (v := (nI (9))) hx hb dX2_aligns_101 (by decide +kernel) ?_
                  refine lv_iload hx hb dX2_aligns_103 (lv_at hl 5 rfl) ?_
                  refine lv_iconst (v := (nI (1))) hx hb dX2_aligns_105 (by decide +kernel) ?_
                  refine lv_iadd hx hb dX2_aligns_106 ?_
                  refine n_top (y := (nI (x1 + 1))) (nI_add _ _) ?_
                  refine lv_imul hx hb dX2_aligns_107 ?_
                  refine n_top (y := (nI (9 * (x1 + 1)))) (pk_mul _ _) ?_
                  refine lv_iload hx hb dX2_aligns_108 (lv_at hl 6 rfl) ?_
                  refine lv_iadd hx hb dX2_aligns_110 ?_
                  refine n_top (y := (nI (9 * (x1 + 1) + y1))) (nI_add _ _) ?_
                  refine lv_iconst (v := (nI (1))) hx hb dX2_aligns_111 (by decide +kernel) ?_
                  refine lv_iadd hx hb dX2_aligns_112 ?_
                  refine n_top (y := (nI (9 * (x1 + 1) + y1 + 1))) (nI_add _ _) ?_
                  refine n_iald hx hb hK hP 9 0 rfl rfl (i := 9 * (x1 + 1) + y1 + 1) (by omega) (by decide) dX2_aligns_113 ?_
                  refine n_top (y := (nI (s_LL n B u (x1 + 1) (y1 + 1)))) (congrArg nI (s_tbI_at h_b3 (i := x1 + 1) (j := y1 + 1) (by omega) (by omega) (Or.inl (by omega)))) ?_
                  refine lv_iadd hx hb dX2_aligns_114 ?_
                  refine n_top (y := (nI (1 + (s_LL n B u (x1 + 1) (y1 + 1))))) (nI_add _ _) ?_
                  refine lv_goto (tgt := 119) hx hb dX2_aligns_115 (by decide) ?_
                  refine n_top (y := (nI (if s_f n B u x1 y1 = true then 1 + s_LL n B u (x1 + 1) (y1 + 1) else 0))) (by first | rfl | (simp [oI_s, bI_t, bI_f, s_f_q hq1, c_2, c_25, Nat.not_le.mpr c_2]; done) | (simp [oI_s, bI_t, bI_f, s_f_q hq1, c_2, c_25, Nat.not_le.mpr c_2]; omega) | (simp only [s_f_q hq1]; (repeat' split) <;> first | rfl | omega | (simp_all; done) | (simp_all; omega))) ?_
                  exact join_119   _ _ hP hD hS _ (show lv_has ls 9 [(0, .ref (ad 0)), (1, .int (nI (u))), (2, .int (oI (s_par n B u))), (3, .int (nI (B 4 u))), (4, .int (nI (s_col n B u))), (5, .int (nI (x1))), (6, .int (nI (y1)))] from by exact lv_sub hl [0, 1, 2, 3, 4, 5, 6] rfl)
              exact loop_70 ((s_col n B u) + 1) (s_col n B u) b2 (by omega) (by omega) (by first | exact s_tbO_I h_b2 | exact s_tbI_s h_b3 (by omega) (by omega)) _ _ hP hD hS _ (show lv_has ls 9 [(0, .ref (ad 0)), (1, .int (nI (u))), (2, .int (oI (s_par n B u))), (3, .int (nI (B 4 u))), (4, .int (nI (s_col n B u))), (5, .int (nI (x1))), (6, .int (nI (s_col n B u) - 1))] from by exact lv_sub hl [1, 2, 3, 4, 5, 6, 0] rfl)
          exact loop_59 ((B 4 u) + 1) (B 4 u) bz (by omega) (by omega) (by first | exact s_tbO_0 (fun j hj => h_bz j (by omega)) | exact s_tbI_O h_b3) _ _ hP hD hS _ (show lv_has ls 9 [(0, .ref (ad 0)), (1, .int (nI (u))), (2, .int (oI (s_par n B u))), (3, .int (nI (B 4 u))), (4, .int (nI (s_col n B u))), (5, .int (nI (B 4 u) - 1))] from by exact lv_sub hl [1, 2, 3, 4, 5, 0] rfl)
        refine lv_aload_n hx hb dX2_aligns_40 rfl (lv_at hl 0 rfl) ?_
        refine va_get (D := D) (ci := 4) (v := .ref (ad 9)) (C := RX2) (T := TX2) (N := 11) hx hb hts hin hown hK hP 0 rfl rfl 10 (by decide) hf_34 (fun _ h9 => h9) rfl dX2_aligns_41 ?_
        refine lv_iload hx hb dX2_aligns_44 (lv_at hl 5 rfl) ?_
        refine lv_iconst (v := (nI (0))) hx hb dX2_aligns_46 (by decide +kernel) ?_
        refine r_iast hx hb hK hP hD hS 9 0 rfl rfl (i := z) (by omega) (by decide) dX2_aligns_47 (ws' := (wM cI ad th n B P (va_up bz z 0))) (nI_upd _ _ _) rfl (fun H locs hP hD hS => ?_)
        refine lv_iinc (v := (nI (z + 1))) (lv' := [(5, .int (nI (z + 1))), (0, .ref (ad 0)), (1, .int (nI (u))), (2, .int (oI (s_par n B u))), (3, .int (nI (B 4 u))), (4, .int (nI (s_col n B u)))]) hx hb dX2_aligns_48 hl (k := 5) rfl (nI_1 _) (by decide) rfl (fun ls hl => ?_)
        refine lv_goto (tgt := 33) hx hb dX2_aligns_51 (by decide) ?_
        exact ih_33 (z + 1) (va_up bz z 0) (by omega) (by omega) (by first | exact fun _ h => absurd h (Nat.not_lt_zero _) | exact up0 h_bz) _ _ hP hD hS _ (show lv_has ls 9 [(0, .ref (ad 0)), (1, .int (nI (u))), (2, .int (oI (s_par n B u))), (3, .int (nI (B 4 u))), (4, .int (nI (s_col n B u))), (5, .int (nI (z + 1)))] from by exact lv_sub hl [1, 2, 3, 4, 5, 0] rfl)
    exact loop_33 (81 - 0 + 1) 0 bs (by omega) (by omega) (by first | exact fun _ h => absurd h (Nat.not_lt_zero _) | exact up0 h_bz) _ _ hP hD hS _ (show lv_has ls 9 [(0, .ref (ad 0)), (1, .int (nI (u))), (2, .int (oI (s_par n B u))), (3, .int (nI (B 4 u))), (4, .int (nI (s_col n B u))), (5, .int (nI (0)))] from by exact lv_sub hl [4, 5, 3, 2, 1, 0] rfl)
  refine lv_iload_n hx hb dX2_aligns_13 rfl (lv_at hl 1 rfl) ?_
  refine lv_iconst (v := (oI (none))) hx hb dX2_aligns_14 (by decide +kernel) ?_
  refine o_ne (tgt := 22) hx hb (s_par_b hn10) dX2_aligns_15 (by decide) (fun kc_26 c_26 => ?_) (fun c_26 => ?_)
  · rw [c_26] at hl
    have hl : lv_has ls 9 [(3, .int (nI (B 4 u))), (2, .int (nI (kc_26))), (0, .ref (ad 0)), (1, .int (nI (u)))] := hl
    have hkq := s_par_lt c_26
    refine lv_aload_n hx hb dX2_aligns_22 rfl (lv_at hl 2 rfl) ?_
    refine va_get (D := D) (ci := 4) (v := .ref (ad 5)) (C := RX2) (T := TX2) (N := 11) hx hb hts hin hown hK hP 0 rfl rfl 6 (by decide) hf_22 (fun _ h9 => h9) rfl dX2_aligns_23 ?_
    refine lv_iload_n hx hb dX2_aligns_26 rfl (lv_at hl 1 rfl) ?_
    refine n_iald hx hb hK hP 5 0 rfl rfl (i := kc_26) (by omega) (by decide) dX2_aligns_27 ?_
    have hq_27 := hB.2.2.1 kc_26
    have e_28 : ((nI (kc_26)) : Int32) = (oI (s_par n B u)) := by first | rfl | (simp [oI_s, bI_t, bI_f, s_col, c_26]; done) | (simp [oI_s, bI_t, bI_f, s_col, c_26]; omega) | (simp only [s_col]; (repeat' split) <;> first | rfl | omega | (simp_all; done) | (simp_all; omega))
    refine n_top (y := (nI (s_col n B u))) (by first | rfl | (simp [oI_s, bI_t, bI_f, s_col, c_26]; done) | (simp [oI_s, bI_t, bI_f, s_col, c_26]; omega) | (simp only [s_col]; (repeat' split) <;> first | rfl | omega | (simp_all; done) | (simp_all; omega))) ?_
    exact join_28   _ _ hP hD hS _ (show lv_has ls 9 [(3, .int (nI (B 4 u))), (2, .int (oI (s_par n B u))), (0, .ref (ad 0)), (1, .int (nI (u)))] from by rw [← e_28]; exact lv_sub hl [0, 1, 2, 3] rfl)
  rw [c_26] at hl
  have hl : lv_has ls 9 [(3, .int (nI (B 4 u))), (2, .int (oI (none))), (0, .ref (ad 0)), (1, .int (nI (u)))] := hl
  refine lv_iconst (v := (nI (0))) hx hb dX2_aligns_18 (by decide +kernel) ?_
  refine lv_goto (tgt := 28) hx hb dX2_aligns_19 (by decide) ?_
  have e_29 : ((oI (none)) : Int32) = (oI (s_par n B u)) := by first | rfl | (simp [oI_s, bI_t, bI_f, s_col, c_26]; done) | (simp [oI_s, bI_t, bI_f, s_col, c_26]; omega) | (simp only [s_col]; (repeat' split) <;> first | rfl | omega | (simp_all; done) | (simp_all; omega))
  refine n_top (y := (nI (s_col n B u))) (by first | rfl | (simp [oI_s, bI_t, bI_f, s_col, c_26]; done) | (simp [oI_s, bI_t, bI_f, s_col, c_26]; omega) | (simp only [s_col]; (repeat' split) <;> first | rfl | omega | (simp_all; done) | (simp_all; omega))) ?_
  exact join_28   _ _ hP hD hS _ (show lv_has ls 9 [(3, .int (nI (B 4 u))), (2, .int (oI (s_par n B u))), (0, .ref (ad 0)), (1, .int (nI (u)))] from by rw [← e_29]; exact lv_sub hl [0, 1, 2, 3] rfl)
theorem hdX2_aligns : yX2_aligns.cls = RX2 ∧ yX2_aligns.cls ≠ "java/lang/invoke/MethodHandle" ∧ yX2_aligns.cls ≠ "java/lang/invoke/VarHandle" ∧ (parseMethodDescriptor yX2_aligns.desc).map (fun d => d.parameters.length) = some 1 := by decide +kernel
set_option maxHeartbeats 4000000 in
set_option maxRecDepth 100000 in
theorem kX2_alignsAll (l : Launch) (D : va_G) (cI : ClassId) (ad : Nat → Nat) (th : Nat) (n : Nat) (B : Nat → Nat → Nat) (P : Nat → Option Nat) (bs : Nat → Nat) (sz : Nat) (hB : Bok n B) : Met l yX2_alignsAll wsX2_alignsAll ({ frames := 3, cells := 0, slots := 0, locals := 72 }) (PcM D [(cI, .int)] (wM cI ad th n B P bs) sz [.ref (ad 0)]) (va_Qv (fun (u9 : (Nat → Option Nat) × (Nat → Nat)) => PA n B u9.1) (fun (u9 : (Nat → Option Nat) × (Nat → Nat)) t => AtW D [(cI, .int)] (va_A (wM cI ad th n B P bs) sz) (wM cI ad th n B u9.1 u9.2) t) (va_A (wM cI ad th n B P bs) sz)) 0 0 (va_A (wM cI ad th n B P bs) sz) := by
  refine Met.ofW (cc := cX2_alignsAll) (maxL := 2) (ret := none) (by decide) rfl ?_
  intro p e s m args below meth c s₁ BL hml hv
  obtain ⟨rfl, hsz, hP, hK, hD0⟩ := hv
  have hx := BL.exec
  have hb := BL.bytes
  have hr := BL.returns
  have hts := atoms_spec (ws := wsX2_alignsAll) BL.pre
  have hown : s.vm.findClass RX2 = some m.cls := findClass_of_methodNamed BL.named
  have hlocks := BL.notSynchronized
  have hin : ∀ w ∈ wsX20, w ∈ wsX2_alignsAll := by decide +kernel
  have hf_41 := hts (.fieldLink RX2 41 "TalkRebuilderModel" "mails" "I") (by decide +kernel)
  have hl := lv_entry ([.ref (ad 0)]) (n := 2) (Nat.le_of_ble_eq_true rfl)
  rw [lg_entry_eq]
  generalize (lg_sl ([.ref (ad 0)]) ++ List.replicate (2 - (lg_sl ([.ref (ad 0)])).length) Slot.unset).toArray = ls at hl ⊢
  have hl : lv_has ls 2 [(0, .ref (ad 0))] := hl
  subst hsz
  have hD := hD0.self (sz := s.heap.size)
  generalize hAe : va_A (wM cI ad th n B P bs) s.heap.size = A at hD ⊢
  have hA : ∀ q : Nat, s.heap.size ≤ q → A q := fun q h => by rw [← hAe]; exact Or.inr h
  have hS : va_S A s.heap s.heap [] := va_S.rf
  have hP : va_P D vwCl (wM cI ad th n B P bs) s.heap := hP
  have hD : va_D A (wM cI ad th n B P bs) := hD
  have hn10 := hB.1
  refine lv_iconst (v := (nI (0))) hx hb dX2_alignsAll_0 (by decide +kernel) ?_
  refine lv_istore_n (lv' := [(1, .int (nI (0))), (0, .ref (ad 0))]) hx hb dX2_alignsAll_1 rfl hl (by decide) rfl (fun ls hl => ?_)
  have loop_2 : ∀ (N : Nat) (z : Nat) (bz : Nat → Nat), n - z < N → (z ≤ n) → ∀ (H : Heap) (locs : List Loc), va_P D vwCl (wM cI ad th n B (s_alA n B P z) bz) H → va_D A (wM cI ad th n B (s_alA n B P z) bz) → va_S A s.heap H locs → ∀ (ls : Array Slot), lv_has ls 2 [(0, .ref (ad 0)), (1, .int (nI (z)))] → W p l e (headSpec wsX2_alignsAll ({ frames := 3, cells := 0, slots := 0, locals := 72 })).room s m ([.ref (ad 0)] : List Value).toArray below meth c H locs 0 0 (MQ below (va_Qv (fun (u9 : (Nat → Option Nat) × (Nat → Nat)) => PA n B u9.1) (fun (u9 : (Nat → Option Nat) × (Nat → Nat)) t => AtW D [(cI, .int)] A (wM cI ad th n B u9.1 u9.2) t) A) ([.ref (ad 0)] : List Value).toArray s 0 0 A) (F0 m 2 ls []) := by
    intro N
    induction N with
    | zero => intro z bz hmu; exact absurd hmu (Nat.not_lt_zero _)
    | succ N ih_2 =>
      intro z bz hmu_2 h_z H locs hP hD hS ls hl
      refine lv_iload_n hx hb dX2_alignsAll_2 rfl (lv_at hl 1 rfl) ?_
      refine lv_aload_n hx hb dX2_alignsAll_3 rfl (lv_at hl 0 rfl) ?_
      refine va_get (D := D) (ci := 4) (v := .int (nI (n))) (C := RX2) (T := TX2) (N := 11) hx hb hts hin hown hK hP 0 rfl rfl 1 (by decide) hf_41 (fun _ h9 => h9) rfl dX2_alignsAll_4 ?_
      refine n_ge (tgt := 21) hx hb (by omega) (by omega) dX2_alignsAll_7 (by decide) (fun c_1 => ?_) (fun c_1 => ?_)
      · have hzn : z = n := by omega
        exact W.vret hx hb hr (fun t ht hW => ⟨⟨(s_alA n B P z, bz), rfl, (hzn ▸ s_alA_PA hB.2.2.1), by rw [ht]; exact hP, va_K.moved hW.alike hK, hD⟩, hS.F ht⟩) hS.2.2 dX2_alignsAll_21
      refine lv_aload_n hx hb dX2_alignsAll_10 rfl (lv_at hl 0 rfl) ?_
      refine lv_iload_n hx hb dX2_alignsAll_11 rfl (lv_at hl 1 rfl) ?_
      refine mo_Vv (wr := []) (As := [.int (nI (z))]) ⟨hx, hb, hml, hown, hts⟩ (kX2_aligns l D cI ad th n B (s_alA n B P z) bz H.size z hB (by omega)) (cwV 1 hts gX2_alignsAll_X2_aligns rfl rfl rfl hdX2_aligns ⟨Nat.le_of_ble_eq_true rfl, Nat.le_of_ble_eq_true rfl⟩) hK hP hD hS hA (ci := 4) rfl (q0 := 0) rfl rfl rfl hl.1 rfl (Nat.le_of_ble_eq_true rfl) dX2_alignsAll_12 ⟨Nat.zero_le _, Nat.zero_le _⟩ (fun (bs_2 : Nat → Nat) H locs hw_2 hP hD hS => ?_)
      have hP : va_P D vwCl (wM cI ad th n B (s_al n B z (s_alA n B P z)) bs_2) H := hP
      have hD : va_D A (wM cI ad th n B (s_al n B z (s_alA n B P z)) bs_2) := hD
      refine lv_iinc (v := (nI (z + 1))) (lv' := [(1, .int (nI (z + 1))), (0, .ref (ad 0))]) hx hb dX2_alignsAll_15 hl (k := 1) rfl (nI_1 _) (by decide) rfl (fun ls hl => ?_)
      refine lv_goto (tgt := 2) hx hb dX2_alignsAll_18 (by decide) ?_
      have ew_3 : (s_al n B z (s_alA n B P z)) = (s_alA n B P (z + 1)) := by first | rfl | (simp [oI_s, bI_t, bI_f, c_1, Nat.not_le.mp c_1]; done) | (simp [oI_s, bI_t, bI_f, c_1, Nat.not_le.mp c_1]; omega)
      have hP : va_P D vwCl (wM cI ad th n B (s_alA n B P (z + 1)) bs_2) H := by rw [← ew_3]; exact hP
      have hD : va_D A (wM cI ad th n B (s_alA n B P (z + 1)) bs_2) := by rw [← ew_3]; exact hD
      exact ih_2 (z + 1) bs_2 (by omega) (by omega) _ _ hP hD hS _ (show lv_has ls 2 [(0, .ref (ad 0)), (1, .int (nI (z + 1)))] from by exact lv_sub hl [1, 0] rfl)
  have ew_4 : P = (s_alA n B P 0) := by first | rfl | (simp [oI_s, bI_t, bI_f]; done) | (simp [oI_s, bI_t, bI_f]; omega)
  have hP : va_P D vwCl (wM cI ad th n B (s_alA n B P 0) bs) s.heap := by rw [← ew_4]; exact hP
  have hD : va_D A (wM cI ad th n B (s_alA n B P 0) bs) := by rw [← ew_4]; exact hD
  exact loop_2 (n - 0 + 1) 0 bs (by omega) (by omega) _ _ hP hD hS _ (show lv_has ls 2 [(0, .ref (ad 0)), (1, .int (nI (0)))] from by exact lv_sub hl [1, 0] rfl)
theorem hdX2_alignsAll : yX2_alignsAll.cls = RX2 ∧ yX2_alignsAll.cls ≠ "java/lang/invoke/MethodHandle" ∧ yX2_alignsAll.cls ≠ "java/lang/invoke/VarHandle" ∧ (parseMethodDescriptor yX2_alignsAll.desc).map (fun d => d.parameters.length) = some 0 := by decide +kernel
