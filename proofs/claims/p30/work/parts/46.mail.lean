theorem lastno {a j : Nat} (h1 : a ≤ j) (hj : j < 2 ^ 31) : ¬ nI j ≤ nI a - 1 := by
  cases a with
  | zero =>
    intro q
    rw [Int32.le_iff_toInt_le, nI_toInt hj, show (nI 0 - 1).toInt = -1 from by decide +kernel] at q
    omega
  | succ a =>
    rw [nI_pred]
    exact nI_ge (by omega) hj
set_option maxHeartbeats 4000000 in
set_option maxRecDepth 100000 in
theorem zL_mail (l : Launch) (hfl : l.stackTraces = false) (D : va_G) (cI cZ cA : ClassId) (ax : Nat → Nat) (A : Nat → Prop) (n : Nat) (B : Nat → Nat → Nat) (u : Nat) (hB : Bok n B) (hBW : BW n B) (hu : u < n) : Met l yL_mail wsL_mail ({ frames := 12, cells := 460, slots := 2760, locals := 288 }) (PcZ D cI cZ cA ax A n B [.ref (ax 0), .int (nI u)]) (QZ D cI cZ cA ax A (nI 1) n B) 460 2760 A := by
  refine Met.ofW (cc := cL_mail) (maxL := 11) (ret := some .boolean) (by decide) rfl ?_
  intro p e s m args below meth c s₁ BL hml hv
  obtain ⟨rfl, hW, hK, hE, hNC, hA⟩ := hv
  have hx := BL.exec
  have hb := BL.bytes
  have hr := BL.returns
  have hts := atoms_spec (ws := wsL_mail) BL.pre
  have hown : s.vm.findClass RL = some m.cls := findClass_of_methodNamed BL.named
  have hlocks := BL.notSynchronized
  have hS : va_S A s.heap s.heap [] := va_S.rf
  have hn10 := hB.1
  have h8 := hB.2.2.1
  have h99 := hB.2.1 6
  have hl := lv_entry ([.ref (ax 0), .int (nI u)]) (n := 11) (Nat.le_of_ble_eq_true rfl)
  rw [lg_entry_eq]
  generalize (lg_sl ([.ref (ax 0), .int (nI u)]) ++ List.replicate (11 - (lg_sl ([.ref (ax 0), .int (nI u)])).length) Slot.unset).toArray = ls at hl ⊢
  have hl : lv_has ls 11 [(0, .ref (ax 0)), (1, .int (nI u))] := hl
  have h8u := h8 u
  refine lv_iconst (v := nI 0 - 1) hx hb dL_mail_0 (by decide +kernel) ?_
  refine n_top (y := nI (s_fr n B u 0) - 1) (rfl) ?_
  refine lv_istore_n (lv' := [(2, .int (nI (s_fr n B u 0) - 1)), (0, .ref (ax 0)), (1, .int (nI u))]) hx hb dL_mail_1 rfl hl (by decide) rfl (fun ls hl => ?_)
  refine lv_iconst (v := nI 0) hx hb dL_mail_2 (by decide +kernel) ?_
  refine n_top (y := nI (ct (s_alp n B u) 0)) (rfl) ?_
  refine lv_istore_n (lv' := [(3, .int (nI (ct (s_alp n B u) 0))), (2, .int (nI (s_fr n B u 0) - 1)), (0, .ref (ax 0)), (1, .int (nI u))]) hx hb dL_mail_3 rfl hl (by decide) rfl (fun ls hl => ?_)
  refine lv_aload_n hx hb dL_mail_4 rfl (lv_at hl 2 rfl) ?_
  refine lv_iload_n hx hb dL_mail_5 rfl (lv_at hl 3 rfl) ?_
  refine z_SX (As := [.ref (ax 0), .int (nI u)]) (rest := []) ⟨hx, hb, hml, hown, hts⟩ (zL_lines l hfl D cI cZ cA ax A n B (nI u) hB) (vx_cwSW 2 hts gL_mail_L_lines rfl rfl rfl hdL_lines ⟨Nat.le_of_ble_eq_true rfl, Nat.le_of_ble_eq_true rfl⟩) hK hW hS hA hE hNC rfl hl.1 rfl (Nat.le_of_ble_eq_true rfl) dL_mail_6 ⟨by show _ ≤ 460; omega, by show _ ≤ 2760; omega⟩ (fun H locs hW hS => ?_)
  refine n_top (y := nI (B 4 u)) (by rw [z_lines hB hu]; rfl) ?_
  refine lv_istore (lv' := [(4, .int (nI (B 4 u))), (3, .int (nI (ct (s_alp n B u) 0))), (2, .int (nI (s_fr n B u 0) - 1)), (0, .ref (ax 0)), (1, .int (nI u))]) hx hb dL_mail_9 hl (by decide) rfl (fun ls hl => ?_)
  refine lv_iconst (v := nI 0) hx hb dL_mail_11 (by decide +kernel) ?_
  refine lv_istore (lv' := [(5, .int (nI 0)), (4, .int (nI (B 4 u))), (3, .int (nI (ct (s_alp n B u) 0))), (2, .int (nI (s_fr n B u 0) - 1)), (0, .ref (ax 0)), (1, .int (nI u))]) hx hb dL_mail_12 hl (by decide) rfl (fun ls hl => ?_)
  have loop_14 : ∀ (N w : Nat), B 4 u - w < N → w ≤ B 4 u → ∀ (H : Heap) (locs : List Loc), LWh D cI cZ cA ax A n B H → va_S A s.heap H locs → ∀ (ls : Array Slot), lv_has ls 11 [(0, .ref (ax 0)), (1, .int (nI u)), (2, .int (nI (s_fr n B u (w)) - 1)), (3, .int (nI (ct (s_alp n B u) (w)))), (4, .int (nI (B 4 u))), (5, .int (nI (w)))] → W p l e (headSpec wsL_mail ({ frames := 12, cells := 460, slots := 2760, locals := 288 })).room s m ([.ref (ax 0), .int (nI u)] : List Value).toArray below meth c H locs (1 + 56 * w) (6 + 336 * w) (MQ below (QZ D cI cZ cA ax A (nI 1) n B) ([.ref (ax 0), .int (nI u)] : List Value).toArray s 460 2760 A) (F0 m 14 ls []) := by
    intro N
    induction N with
    | zero => intro w h; exact absurd h (Nat.not_lt_zero _)
    | succ N ih =>
      intro w hN hw9 H locs hW hS ls hl
      refine lv_iload hx hb dL_mail_14 (lv_at hl 5 rfl) ?_
      refine lv_iload hx hb dL_mail_16 (lv_at hl 4 rfl) ?_
      refine lv_icmp_ge (tgt := 249) hx hb dL_mail_18 (by decide) (fun h => ?_) (fun h => ?_)
      · have ew : w = B 4 u := by have := (nI_leI (by omega) (by omega)).mp h; omega
        have hct := ct_le (s_alp n B u) w
        refine lv_iload_n hx hb dL_mail_249 rfl (lv_at hl 3 rfl) ?_
        refine lv_aload_n hx hb dL_mail_250 rfl (lv_at hl 0 rfl) ?_
        refine lv_iload_n hx hb dL_mail_251 rfl (lv_at hl 1 rfl) ?_
        refine z_SX (As := [.ref (ax 0), .int (nI u)]) (rest := [.int (nI (ct (s_alp n B u) (w)))]) ⟨hx, hb, hml, hown, hts⟩ (zL_aligned l hfl D cI cZ cA ax A n B (nI u) hB) (vx_cwSW 2 hts gL_mail_L_aligned rfl rfl rfl hdL_aligned ⟨Nat.le_of_ble_eq_true rfl, Nat.le_of_ble_eq_true rfl⟩) hK hW hS hA hE hNC rfl hl.1 rfl (Nat.le_of_ble_eq_true rfl) dL_mail_252 ⟨by show _ ≤ 460; omega, by show _ ≤ 2760; omega⟩ (fun H locs hW hS => ?_)
        refine n_top (y := nI (ct (s_alp n B u) (B 4 u))) (by rw [z_alc hB hu]; rfl) ?_
        refine lv_icmp_ne (tgt := 284) hx hb dL_mail_255 (by decide) (fun h => False.elim (h (by rw [ew]))) (fun _ => ?_)
        refine lv_iload_n hx hb dL_mail_258 rfl (lv_at hl 3 rfl) ?_
        refine lv_aload_n hx hb dL_mail_259 rfl (lv_at hl 0 rfl) ?_
        refine lv_iload_n hx hb dL_mail_260 rfl (lv_at hl 1 rfl) ?_
        refine z_SX (As := [.ref (ax 0), .int (nI u)]) (rest := [.int (nI (ct (s_alp n B u) (w)))]) ⟨hx, hb, hml, hown, hts⟩ (zL_alignedByTrying l hfl D cI cZ cA ax A n B (nI u) hB) (vx_cwSW 2 hts gL_mail_L_alignedByTrying rfl rfl rfl hdL_alignedByTrying ⟨Nat.le_of_ble_eq_true rfl, Nat.le_of_ble_eq_true rfl⟩) hK hW hS hA hE hNC rfl hl.1 rfl (Nat.le_of_ble_eq_true rfl) dL_mail_261 ⟨by show _ ≤ 460; omega, by show _ ≤ 2760; omega⟩ (fun H locs hW hS => ?_)
        refine n_top (y := nI (ct (s_alp n B u) (B 4 u))) (by rw [z_alc hB hu]; rfl) ?_
        refine lv_icmp_ne (tgt := 284) hx hb dL_mail_264 (by decide) (fun h => False.elim (h (by rw [ew]))) (fun _ => ?_)
        refine lv_aload_n hx hb dL_mail_267 rfl (lv_at hl 0 rfl) ?_
        refine lv_iload_n hx hb dL_mail_268 rfl (lv_at hl 1 rfl) ?_
        refine lv_iload hx hb dL_mail_269 (lv_at hl 4 rfl) ?_
        refine z_SX (As := [.ref (ax 0), .int (nI u), .int (nI (B 4 u))]) (rest := []) ⟨hx, hb, hml, hown, hts⟩ (zL_partner l hfl D cI cZ cA ax A n B (nI u) (nI (B 4 u)) hB) (vx_cwSW 3 hts gL_mail_L_partner rfl rfl rfl hdL_partner ⟨Nat.le_of_ble_eq_true rfl, Nat.le_of_ble_eq_true rfl⟩) hK hW hS hA hE hNC rfl hl.1 rfl (Nat.le_of_ble_eq_true rfl) dL_mail_271 ⟨by show _ ≤ 460; omega, by show _ ≤ 2760; omega⟩ (fun H locs hW hS => ?_)
        refine n_top (y := xI 1) (by rw [z_prX hB hu]; rfl) ?_
        refine lv_sipush (v := xI 1) hx hb dL_mail_274 (by decide +kernel) ?_
        refine lv_icmp_ne (tgt := 284) hx hb dL_mail_277 (by decide) (fun h => False.elim (h rfl)) (fun _ => ?_)
        refine lv_iconst (v := nI 1) hx hb dL_mail_280 (by decide +kernel) ?_
        refine lv_goto (tgt := 285) hx hb dL_mail_281 (by decide) ?_
        refine W.widen (k := 460) (n := 2760) (by omega) (by omega) ?_
        exact W.zret (v := nI 1) hx hb hr (by decide +kernel) (fun t ht hW9 => ⟨⟨_, (), rfl, rfl, (by show LWh D cI cZ cA ax A n B t.heap; rw [ht]; exact hW)⟩, hS.F ht⟩) hS.2.2 dL_mail_285
      · have hw : w < B 4 u := Nat.lt_of_not_le (fun q => h ((nI_leI (by omega) (by omega)).mpr q))
        have hkb := s_knd_b n B u w
        have hfr := s_fr_le (n := n) (B := B) (u := u) (z := w)
        have hcl := s_col_le (n := n) h8 u
        obtain ⟨ho1, ho2, ho6⟩ := s_org_ok hB hu hw
        have ho8 := h8 (s_org n B u w / 8)
        have join_229 : ∀ (H : Heap) (locs : List Loc), LWh D cI cZ cA ax A n B H → va_S A s.heap H locs → ∀ (ls : Array Slot), lv_has ls 11 [(0, .ref (ax 0)), (1, .int (nI u)), (2, .int (nI (s_fr n B u (w + 1)) - 1)), (3, .int (nI (ct (s_alp n B u) (w + 1)))), (4, .int (nI (B 4 u))), (5, .int (nI w)), (6, .int (nI (s_knd n B u w)))] → W p l e (headSpec wsL_mail ({ frames := 12, cells := 460, slots := 2760, locals := 288 })).room s m ([.ref (ax 0), .int (nI u)] : List Value).toArray below meth c H locs (1 + 56 * w + 26) (6 + 336 * w + 156) (MQ below (QZ D cI cZ cA ax A (nI 1) n B) ([.ref (ax 0), .int (nI u)] : List Value).toArray s 460 2760 A) (F0 m 229 ls []) := by
          intro H locs hW hS ls hl
          refine lv_aload_n hx hb dL_mail_229 rfl (lv_at hl 0 rfl) ?_
          refine lv_iload_n hx hb dL_mail_230 rfl (lv_at hl 1 rfl) ?_
          refine lv_iload hx hb dL_mail_231 (lv_at hl 5 rfl) ?_
          refine lv_iload hx hb dL_mail_233 (lv_at hl 6 rfl) ?_
          refine z_S (As := [.ref (ax 0), .int (nI u), .int (nI w), .int (nI (s_knd n B u w))]) (rest := []) ⟨hx, hb, hml, hown, hts⟩ (zL_talks l hfl D cI cZ cA ax A n B u w hB hBW hu hw) (va_cwS 4 hts gL_mail_L_talks rfl rfl rfl hdL_talks ⟨Nat.le_of_ble_eq_true rfl, Nat.le_of_ble_eq_true rfl⟩) hK hW hS hA hE hNC rfl hl.1 rfl (Nat.le_of_ble_eq_true rfl) dL_mail_235 ⟨by show _ ≤ 460; omega, by show _ ≤ 2760; omega⟩ (fun H locs hW hS => ?_)
          refine lv_if_ne (tgt := 243) hx hb dL_mail_238 (by decide) (fun _ => ?_) (fun h => False.elim (absurd h (by decide +kernel)))
          refine lv_iinc (v := nI (w + 1)) (lv' := [(5, .int (nI (w + 1))), (0, .ref (ax 0)), (1, .int (nI u)), (2, .int (nI (s_fr n B u (w + 1)) - 1)), (3, .int (nI (ct (s_alp n B u) (w + 1)))), (4, .int (nI (B 4 u))), (6, .int (nI (s_knd n B u w)))]) hx hb dL_mail_243 hl (k := 5) rfl (nI_1 _) (by decide) rfl (fun ls hl => ?_)
          refine lv_goto (tgt := 14) hx hb dL_mail_246 (by decide) ?_
          refine W.widen (k := 1 + 56 * (w + 1)) (n := 6 + 336 * (w + 1)) (by omega) (by omega) ?_
          exact ih (w + 1) (by omega) (by omega) _ _ hW hS _ (lv_sub hl [1, 2, 3, 4, 5, 0] rfl)
        have join_205 : ∀ (H : Heap) (locs : List Loc), LWh D cI cZ cA ax A n B H → va_S A s.heap H locs → ∀ (ls : Array Slot), lv_has ls 11 [(0, .ref (ax 0)), (1, .int (nI u)), (2, .int (nI (s_fr n B u (w + 1)) - 1)), (3, .int (nI (ct (s_alp n B u) (w + 1)))), (4, .int (nI (B 4 u))), (5, .int (nI w)), (6, .int (nI (s_knd n B u w)))] → W p l e (headSpec wsL_mail ({ frames := 12, cells := 460, slots := 2760, locals := 288 })).room s m ([.ref (ax 0), .int (nI u)] : List Value).toArray below meth c H locs (1 + 56 * w + 24) (6 + 336 * w + 144) (MQ below (QZ D cI cZ cA ax A (nI 1) n B) ([.ref (ax 0), .int (nI u)] : List Value).toArray s 460 2760 A) (F0 m 205 ls []) := by
          intro H locs hW hS ls hl
          refine lv_iload hx hb dL_mail_205 (lv_at hl 6 rfl) ?_
          refine lv_bipush (v := nI 114) hx hb dL_mail_207 (by decide +kernel) ?_
          refine lv_icmp_eq (tgt := 219) hx hb dL_mail_209 (by decide) (fun h => ?_) (fun h => ?_)
          · have hrd : s_knd n B u w = 114 ∨ s_knd n B u w = 100 := Or.inl ((nI_eq (by omega) (by decide)).mp h)
            refine lv_aload_n hx hb dL_mail_219 rfl (lv_at hl 0 rfl) ?_
            refine lv_iload_n hx hb dL_mail_220 rfl (lv_at hl 1 rfl) ?_
            refine z_SX (As := [.ref (ax 0), .int (nI u)]) (rest := []) ⟨hx, hb, hml, hown, hts⟩ (zL_parent l hfl D cI cZ cA ax A n B (nI u) hB) (vx_cwSW 2 hts gL_mail_L_parent rfl rfl rfl hdL_parent ⟨Nat.le_of_ble_eq_true rfl, Nat.le_of_ble_eq_true rfl⟩) hK hW hS hA hE hNC rfl hl.1 rfl (Nat.le_of_ble_eq_true rfl) dL_mail_221 ⟨by show _ ≤ 460; omega, by show _ ≤ 2760; omega⟩ (fun H locs hW hS => ?_)
            refine n_top (y := xI 2) (by rw [z_parent hB hu, knd_rd hrd]; rfl) ?_
            refine lv_if_lt (tgt := 229) hx hb dL_mail_224 (by decide) (fun _ => ?_) (fun h => False.elim (h (xI_neg _)))
            refine W.widen (k := 1 + 56 * w + 26) (n := 6 + 336 * w + 156) (by omega) (by omega) ?_
            exact join_229 _ _ hW hS _ (show lv_has ls 11 [(0, .ref (ax 0)), (1, .int (nI u)), (2, .int (nI (s_fr n B u (w + 1)) - 1)), (3, .int (nI (ct (s_alp n B u) (w + 1)))), (4, .int (nI (B 4 u))), (5, .int (nI w)), (6, .int (nI (s_knd n B u w)))] from by exact lv_sub hl [0, 1, 2, 3, 4, 5, 6] rfl)
          · refine lv_iload hx hb dL_mail_212 (lv_at hl 6 rfl) ?_
            refine lv_bipush (v := nI 100) hx hb dL_mail_214 (by decide +kernel) ?_
            refine lv_icmp_ne (tgt := 229) hx hb dL_mail_216 (by decide) (fun h => ?_) (fun h => ?_)
            · refine W.widen (k := 1 + 56 * w + 26) (n := 6 + 336 * w + 156) (by omega) (by omega) ?_
              exact join_229 _ _ hW hS _ (show lv_has ls 11 [(0, .ref (ax 0)), (1, .int (nI u)), (2, .int (nI (s_fr n B u (w + 1)) - 1)), (3, .int (nI (ct (s_alp n B u) (w + 1)))), (4, .int (nI (B 4 u))), (5, .int (nI w)), (6, .int (nI (s_knd n B u w)))] from by exact lv_sub hl [0, 1, 2, 3, 4, 5, 6] rfl)
            · have hrd : s_knd n B u w = 114 ∨ s_knd n B u w = 100 := Or.inr ((nI_eq (by omega) (by decide)).mp h)
              refine lv_aload_n hx hb dL_mail_219 rfl (lv_at hl 0 rfl) ?_
              refine lv_iload_n hx hb dL_mail_220 rfl (lv_at hl 1 rfl) ?_
              refine z_SX (As := [.ref (ax 0), .int (nI u)]) (rest := []) ⟨hx, hb, hml, hown, hts⟩ (zL_parent l hfl D cI cZ cA ax A n B (nI u) hB) (vx_cwSW 2 hts gL_mail_L_parent rfl rfl rfl hdL_parent ⟨Nat.le_of_ble_eq_true rfl, Nat.le_of_ble_eq_true rfl⟩) hK hW hS hA hE hNC rfl hl.1 rfl (Nat.le_of_ble_eq_true rfl) dL_mail_221 ⟨by show _ ≤ 460; omega, by show _ ≤ 2760; omega⟩ (fun H locs hW hS => ?_)
              refine n_top (y := xI 2) (by rw [z_parent hB hu, knd_rd hrd]; rfl) ?_
              refine lv_if_lt (tgt := 229) hx hb dL_mail_224 (by decide) (fun _ => ?_) (fun h => False.elim (h (xI_neg _)))
              refine W.widen (k := 1 + 56 * w + 26) (n := 6 + 336 * w + 156) (by omega) (by omega) ?_
              exact join_229 _ _ hW hS _ (show lv_has ls 11 [(0, .ref (ax 0)), (1, .int (nI u)), (2, .int (nI (s_fr n B u (w + 1)) - 1)), (3, .int (nI (ct (s_alp n B u) (w + 1)))), (4, .int (nI (B 4 u))), (5, .int (nI w)), (6, .int (nI (s_knd n B u w)))] from by exact lv_sub hl [0, 1, 2, 3, 4, 5, 6] rfl)
        have join_172 : ∀ (H : Heap) (locs : List Loc), LWh D cI cZ cA ax A n B H → va_S A s.heap H locs → ∀ (ls : Array Slot), lv_has ls 11 [(0, .ref (ax 0)), (1, .int (nI u)), (2, .int (nI (s_fr n B u (w + 1)) - 1)), (3, .int (nI (ct (s_alp n B u) (w + 1)))), (4, .int (nI (B 4 u))), (5, .int (nI w)), (6, .int (nI (s_knd n B u w)))] → W p l e (headSpec wsL_mail ({ frames := 12, cells := 460, slots := 2760, locals := 288 })).room s m ([.ref (ax 0), .int (nI u)] : List Value).toArray below meth c H locs (1 + 56 * w + 22) (6 + 336 * w + 132) (MQ below (QZ D cI cZ cA ax A (nI 1) n B) ([.ref (ax 0), .int (nI u)] : List Value).toArray s 460 2760 A) (F0 m 172 ls []) := by
          intro H locs hW hS ls hl
          have hsl := s_sig_le n B u
          refine lv_iload hx hb dL_mail_172 (lv_at hl 6 rfl) ?_
          refine lv_bipush (v := nI 115) hx hb dL_mail_174 (by decide +kernel) ?_
          refine lv_icmp_ne (tgt := 183) hx hb dL_mail_176 (by decide) (fun h => ?_) (fun h => ?_)
          · have h115 : ¬ s_knd n B u w = 115 := fun q => h (congrArg nI q)
            refine lv_iconst (v := nI 0) hx hb dL_mail_183 (by decide +kernel) ?_
            refine lv_iload hx hb dL_mail_184 (lv_at hl 5 rfl) ?_
            refine lv_iload hx hb dL_mail_186 (lv_at hl 4 rfl) ?_
            refine lv_aload_n hx hb dL_mail_188 rfl (lv_at hl 0 rfl) ?_
            refine lv_iload_n hx hb dL_mail_189 rfl (lv_at hl 1 rfl) ?_
            refine z_SX (As := [.ref (ax 0), .int (nI u)]) (rest := [.int (nI (B 4 u)), .int (nI w), .int (nI 0)]) ⟨hx, hb, hml, hown, hts⟩ (zL_signature l hfl D cI cZ cA ax A n B (nI u) hB) (vx_cwSW 2 hts gL_mail_L_signature rfl rfl rfl hdL_signature ⟨Nat.le_of_ble_eq_true rfl, Nat.le_of_ble_eq_true rfl⟩) hK hW hS hA hE hNC rfl hl.1 rfl (Nat.le_of_ble_eq_true rfl) dL_mail_190 ⟨by show _ ≤ 460; omega, by show _ ≤ 2760; omega⟩ (fun H locs hW hS => ?_)
            refine n_top (y := nI (s_sig n B u)) (by rw [z_sgc hB hu]; rfl) ?_
            refine lv_isub hx hb dL_mail_193 ?_
            refine n_top (y := nI (B 4 u - s_sig n B u)) (by rw [show B 4 u = (B 4 u - s_sig n B u) + s_sig n B u by omega, ← nI_add, Int32.add_sub_cancel, Nat.add_sub_cancel]) ?_
            refine lv_icmp_lt (tgt := 201) hx hb dL_mail_194 (by decide) (fun _ => ?_) (fun h => False.elim (h (nI_lt (Nat.lt_of_not_le (fun q => h115 ((knd_s hw).mpr q))) (by omega))))
            refine lv_iconst (v := nI 0) hx hb dL_mail_201 (by decide +kernel) ?_
            refine lv_icmp_ne (tgt := 227) hx hb dL_mail_202 (by decide) (fun h => False.elim (h rfl)) (fun _ => ?_)
            refine W.widen (k := 1 + 56 * w + 24) (n := 6 + 336 * w + 144) (by omega) (by omega) ?_
            exact join_205 _ _ hW hS _ (show lv_has ls 11 [(0, .ref (ax 0)), (1, .int (nI u)), (2, .int (nI (s_fr n B u (w + 1)) - 1)), (3, .int (nI (ct (s_alp n B u) (w + 1)))), (4, .int (nI (B 4 u))), (5, .int (nI w)), (6, .int (nI (s_knd n B u w)))] from by exact lv_sub hl [0, 1, 2, 3, 4, 5, 6] rfl)
          · have h115 : s_knd n B u w = 115 := (nI_eq (by omega) (by decide)).mp h
            refine lv_iconst (v := nI 1) hx hb dL_mail_179 (by decide +kernel) ?_
            refine lv_goto (tgt := 184) hx hb dL_mail_180 (by decide) ?_
            refine lv_iload hx hb dL_mail_184 (lv_at hl 5 rfl) ?_
            refine lv_iload hx hb dL_mail_186 (lv_at hl 4 rfl) ?_
            refine lv_aload_n hx hb dL_mail_188 rfl (lv_at hl 0 rfl) ?_
            refine lv_iload_n hx hb dL_mail_189 rfl (lv_at hl 1 rfl) ?_
            refine z_SX (As := [.ref (ax 0), .int (nI u)]) (rest := [.int (nI (B 4 u)), .int (nI w), .int (nI 1)]) ⟨hx, hb, hml, hown, hts⟩ (zL_signature l hfl D cI cZ cA ax A n B (nI u) hB) (vx_cwSW 2 hts gL_mail_L_signature rfl rfl rfl hdL_signature ⟨Nat.le_of_ble_eq_true rfl, Nat.le_of_ble_eq_true rfl⟩) hK hW hS hA hE hNC rfl hl.1 rfl (Nat.le_of_ble_eq_true rfl) dL_mail_190 ⟨by show _ ≤ 460; omega, by show _ ≤ 2760; omega⟩ (fun H locs hW hS => ?_)
            refine n_top (y := nI (s_sig n B u)) (by rw [z_sgc hB hu]; rfl) ?_
            refine lv_isub hx hb dL_mail_193 ?_
            refine n_top (y := nI (B 4 u - s_sig n B u)) (by rw [show B 4 u = (B 4 u - s_sig n B u) + s_sig n B u by omega, ← nI_add, Int32.add_sub_cancel, Nat.add_sub_cancel]) ?_
            refine lv_icmp_lt (tgt := 201) hx hb dL_mail_194 (by decide) (fun h => False.elim (nI_nlt ((knd_s hw).mp h115) (by omega) h)) (fun _ => ?_)
            refine lv_iconst (v := nI 1) hx hb dL_mail_197 (by decide +kernel) ?_
            refine lv_goto (tgt := 202) hx hb dL_mail_198 (by decide) ?_
            refine lv_icmp_ne (tgt := 227) hx hb dL_mail_202 (by decide) (fun h => False.elim (h rfl)) (fun _ => ?_)
            refine W.widen (k := 1 + 56 * w + 24) (n := 6 + 336 * w + 144) (by omega) (by omega) ?_
            exact join_205 _ _ hW hS _ (show lv_has ls 11 [(0, .ref (ax 0)), (1, .int (nI u)), (2, .int (nI (s_fr n B u (w + 1)) - 1)), (3, .int (nI (ct (s_alp n B u) (w + 1)))), (4, .int (nI (B 4 u))), (5, .int (nI w)), (6, .int (nI (s_knd n B u w)))] from by exact lv_sub hl [0, 1, 2, 3, 4, 5, 6] rfl)
        rcases hpa : s_pa n B u w with _ | j
        · have hkq := knd_nq hpa
          obtain ⟨hon1, hon2⟩ := s_org_none hB hw hpa
          have ect : nI (ct (s_alp n B u) w) = nI (ct (s_alp n B u) (w + 1)) := congrArg nI (ct_f (by unfold s_alp; rw [hpa]; rfl)).symm
          have efr : nI (s_fr n B u w) - 1 = nI (s_fr n B u (w + 1)) - 1 := by rw [s_fr_n hpa]
          refine lv_aload_n hx hb dL_mail_21 rfl (lv_at hl 0 rfl) ?_
          refine lv_iload_n hx hb dL_mail_22 rfl (lv_at hl 1 rfl) ?_
          refine lv_iload hx hb dL_mail_23 (lv_at hl 5 rfl) ?_
          refine z_SX (As := [.ref (ax 0), .int (nI u), .int (nI (w))]) (rest := []) ⟨hx, hb, hml, hown, hts⟩ (zL_kind l hfl D cI cZ cA ax A n B (nI u) (nI (w)) hB) (vx_cwSW 3 hts gL_mail_L_kind rfl rfl rfl hdL_kind ⟨Nat.le_of_ble_eq_true rfl, Nat.le_of_ble_eq_true rfl⟩) hK hW hS hA hE hNC rfl hl.1 rfl (Nat.le_of_ble_eq_true rfl) dL_mail_25 ⟨by show _ ≤ 460; omega, by show _ ≤ 2760; omega⟩ (fun H locs hW hS => ?_)
          refine n_top (y := nI (s_knd n B u w)) (by rw [z_kd hB hu hw]; rfl) ?_
          refine lv_istore (lv' := [(6, .int (nI (s_knd n B u w))), (0, .ref (ax 0)), (1, .int (nI u)), (2, .int (nI (s_fr n B u (w)) - 1)), (3, .int (nI (ct (s_alp n B u) (w)))), (4, .int (nI (B 4 u))), (5, .int (nI (w)))]) hx hb dL_mail_28 hl (by decide) rfl (fun ls hl => ?_)
          refine lv_aload_n hx hb dL_mail_30 rfl (lv_at hl 1 rfl) ?_
          refine lv_iload_n hx hb dL_mail_31 rfl (lv_at hl 2 rfl) ?_
          refine lv_iload hx hb dL_mail_32 (lv_at hl 6 rfl) ?_
          refine z_SX (As := [.ref (ax 0), .int (nI u), .int (nI (w))]) (rest := []) ⟨hx, hb, hml, hown, hts⟩ (zL_partner l hfl D cI cZ cA ax A n B (nI u) (nI (w)) hB) (vx_cwSW 3 hts gL_mail_L_partner rfl rfl rfl hdL_partner ⟨Nat.le_of_ble_eq_true rfl, Nat.le_of_ble_eq_true rfl⟩) hK hW hS hA hE hNC rfl hl.1 rfl (Nat.le_of_ble_eq_true rfl) dL_mail_34 ⟨by show _ ≤ 460; omega, by show _ ≤ 2760; omega⟩ (fun H locs hW hS => ?_)
          refine n_top (y := xI 2) (by rw [z_pr hB hu hw, hpa]; rfl) ?_
          refine lv_istore (lv' := [(7, .int (xI 2)), (6, .int (nI (s_knd n B u w))), (0, .ref (ax 0)), (1, .int (nI u)), (2, .int (nI (s_fr n B u (w)) - 1)), (3, .int (nI (ct (s_alp n B u) (w)))), (4, .int (nI (B 4 u))), (5, .int (nI (w)))]) hx hb dL_mail_37 hl (by decide) rfl (fun ls hl => ?_)
          refine lv_aload_n hx hb dL_mail_39 rfl (lv_at hl 2 rfl) ?_
          refine lv_iload_n hx hb dL_mail_40 rfl (lv_at hl 3 rfl) ?_
          refine lv_iload hx hb dL_mail_41 (lv_at hl 7 rfl) ?_
          refine z_SX (As := [.ref (ax 0), .int (nI u), .int (nI (w))]) (rest := []) ⟨hx, hb, hml, hown, hts⟩ (zL_originMail l hfl D cI cZ cA ax A n B (nI u) (nI (w)) hB) (vx_cwSW 3 hts gL_mail_L_originMail rfl rfl rfl hdL_originMail ⟨Nat.le_of_ble_eq_true rfl, Nat.le_of_ble_eq_true rfl⟩) hK hW hS hA hE hNC rfl hl.1 rfl (Nat.le_of_ble_eq_true rfl) dL_mail_43 ⟨by show _ ≤ 460; omega, by show _ ≤ 2760; omega⟩ (fun H locs hW hS => ?_)
          refine n_top (y := nI (s_org n B u w / 8)) (by rw [z_orc hB hu hw]; rfl) ?_
          refine lv_istore (lv' := [(8, .int (nI (s_org n B u w / 8))), (7, .int (xI 2)), (6, .int (nI (s_knd n B u w))), (0, .ref (ax 0)), (1, .int (nI u)), (2, .int (nI (s_fr n B u (w)) - 1)), (3, .int (nI (ct (s_alp n B u) (w)))), (4, .int (nI (B 4 u))), (5, .int (nI (w)))]) hx hb dL_mail_46 hl (by decide) rfl (fun ls hl => ?_)
          refine lv_aload_n hx hb dL_mail_48 rfl (lv_at hl 3 rfl) ?_
          refine lv_iload_n hx hb dL_mail_49 rfl (lv_at hl 4 rfl) ?_
          refine lv_iload hx hb dL_mail_50 (lv_at hl 8 rfl) ?_
          refine z_SX (As := [.ref (ax 0), .int (nI u), .int (nI (w))]) (rest := []) ⟨hx, hb, hml, hown, hts⟩ (zL_originLine l hfl D cI cZ cA ax A n B (nI u) (nI (w)) hB) (vx_cwSW 3 hts gL_mail_L_originLine rfl rfl rfl hdL_originLine ⟨Nat.le_of_ble_eq_true rfl, Nat.le_of_ble_eq_true rfl⟩) hK hW hS hA hE hNC rfl hl.1 rfl (Nat.le_of_ble_eq_true rfl) dL_mail_52 ⟨by show _ ≤ 460; omega, by show _ ≤ 2760; omega⟩ (fun H locs hW hS => ?_)
          refine n_top (y := nI (s_org n B u w % 8)) (by rw [z_orc hB hu hw]; rfl) ?_
          refine lv_istore (lv' := [(9, .int (nI (s_org n B u w % 8))), (8, .int (nI (s_org n B u w / 8))), (7, .int (xI 2)), (6, .int (nI (s_knd n B u w))), (0, .ref (ax 0)), (1, .int (nI u)), (2, .int (nI (s_fr n B u (w)) - 1)), (3, .int (nI (ct (s_alp n B u) (w)))), (4, .int (nI (B 4 u))), (5, .int (nI (w)))]) hx hb dL_mail_55 hl (by decide) rfl (fun ls hl => ?_)
          refine lv_iload hx hb dL_mail_57 (lv_at hl 2 rfl) ?_
          refine lv_if_lt (tgt := 66) hx hb dL_mail_59 (by decide) (fun _ => ?_) (fun h => False.elim (h (xI_neg _)))
          refine lv_iconst (v := nI 0) hx hb dL_mail_66 (by decide +kernel) ?_
          refine lv_iload hx hb dL_mail_67 (lv_at hl 3 rfl) ?_
          refine lv_bipush (v := nI 113) hx hb dL_mail_69 (by decide +kernel) ?_
          refine lv_icmp_ne (tgt := 78) hx hb dL_mail_71 (by decide) (fun _ => ?_) (fun h => False.elim (hkq ((nI_eq (by omega) (by decide)).mp h)))
          refine lv_iconst (v := nI 0) hx hb dL_mail_78 (by decide +kernel) ?_
          refine lv_icmp_ne (tgt := 100) hx hb dL_mail_79 (by decide) (fun h => False.elim (h rfl)) (fun _ => ?_)
          refine lv_aload_n hx hb dL_mail_82 rfl (lv_at hl 4 rfl) ?_
          refine lv_iload hx hb dL_mail_83 (lv_at hl 1 rfl) ?_
          refine lv_iload hx hb dL_mail_85 (lv_at hl 0 rfl) ?_
          refine z_SX (As := [.ref (ax 0), .int (nI (s_org n B u w / 8)), .int (nI (s_org n B u w % 8))]) (rest := []) ⟨hx, hb, hml, hown, hts⟩ (zL_word l hfl D cI cZ cA ax A n B (nI (s_org n B u w / 8)) (nI (s_org n B u w % 8)) hB) (vx_cwSW 3 hts gL_mail_L_word rfl rfl rfl hdL_word ⟨Nat.le_of_ble_eq_true rfl, Nat.le_of_ble_eq_true rfl⟩) hK hW hS hA hE hNC rfl hl.1 rfl (Nat.le_of_ble_eq_true rfl) dL_mail_87 ⟨by show _ ≤ 460; omega, by show _ ≤ 2760; omega⟩ (fun H locs hW hS => ?_)
          refine n_top (y := nI (B 6 (8 * (s_org n B u w / 8) + s_org n B u w % 8))) (by rw [z_word hB ho1 ho2]; rfl) ?_
          refine lv_aload_n hx hb dL_mail_90 rfl (lv_at hl 4 rfl) ?_
          refine lv_iload_n hx hb dL_mail_91 rfl (lv_at hl 5 rfl) ?_
          refine lv_iload hx hb dL_mail_92 (lv_at hl 9 rfl) ?_
          refine z_SX (As := [.ref (ax 0), .int (nI u), .int (nI (w))]) (rest := [.int (nI (B 6 (8 * (s_org n B u w / 8) + s_org n B u w % 8)))]) ⟨hx, hb, hml, hown, hts⟩ (zL_word l hfl D cI cZ cA ax A n B (nI u) (nI (w)) hB) (vx_cwSW 3 hts gL_mail_L_word rfl rfl rfl hdL_word ⟨Nat.le_of_ble_eq_true rfl, Nat.le_of_ble_eq_true rfl⟩) hK hW hS hA hE hNC rfl hl.1 rfl (Nat.le_of_ble_eq_true rfl) dL_mail_94 ⟨by show _ ≤ 460; omega, by show _ ≤ 2760; omega⟩ (fun H locs hW hS => ?_)
          refine n_top (y := nI (B 6 (8 * u + w))) (by rw [z_word hB hu hw]; rfl) ?_
          refine lv_icmp_eq (tgt := 102) hx hb dL_mail_97 (by decide) (fun _ => ?_) (fun h => False.elim (h (congrArg nI ho6)))
          refine lv_iload hx hb dL_mail_102 (lv_at hl 2 rfl) ?_
          refine lv_if_lt (tgt := 157) hx hb dL_mail_104 (by decide) (fun _ => ?_) (fun h => False.elim (h (xI_neg _)))
          refine lv_iload hx hb dL_mail_157 (lv_at hl 1 rfl) ?_
          refine lv_iload_n hx hb dL_mail_159 rfl (lv_at hl 5 rfl) ?_
          refine lv_icmp_ne (tgt := 170) hx hb dL_mail_160 (by decide) (fun h => False.elim (h (congrArg nI hon1))) (fun _ => ?_)
          refine lv_iload hx hb dL_mail_163 (lv_at hl 0 rfl) ?_
          refine lv_iload hx hb dL_mail_165 (lv_at hl 9 rfl) ?_
          refine lv_icmp_eq (tgt := 172) hx hb dL_mail_167 (by decide) (fun _ => ?_) (fun h => False.elim (h (congrArg nI hon2)))
          refine W.widen (k := 1 + 56 * w + 22) (n := 6 + 336 * w + 132) (by omega) (by omega) ?_
          exact join_172 _ _ hW hS _ (show lv_has ls 11 [(0, .ref (ax 0)), (1, .int (nI u)), (2, .int (nI (s_fr n B u (w + 1)) - 1)), (3, .int (nI (ct (s_alp n B u) (w + 1)))), (4, .int (nI (B 4 u))), (5, .int (nI w)), (6, .int (nI (s_knd n B u w)))] from by rw [← efr, ← ect]; exact lv_sub hl [4, 5, 6, 7, 8, 9, 3] rfl)
        · obtain ⟨q, hq, hqn, hjq, -, -⟩ := s_pa_some hpa
          have h8q := h8 q
          obtain ⟨hj1, -, -⟩ := s_pt_some hpa
          have hj1 : s_fr n B u w ≤ j := hj1
          have hst := s_org_step hB hpa hq
          have hkq := knd_q hpa
          have ect : nI ((ct (s_alp n B u) w) + 1) = nI (ct (s_alp n B u) (w + 1)) := congrArg nI (ct_t (by unfold s_alp; rw [hpa]; rfl)).symm
          have efr : nI j = nI (s_fr n B u (w + 1)) - 1 := by rw [s_fr_y hpa, nI_pred]
          refine lv_aload_n hx hb dL_mail_21 rfl (lv_at hl 0 rfl) ?_
          refine lv_iload_n hx hb dL_mail_22 rfl (lv_at hl 1 rfl) ?_
          refine lv_iload hx hb dL_mail_23 (lv_at hl 5 rfl) ?_
          refine z_SX (As := [.ref (ax 0), .int (nI u), .int (nI (w))]) (rest := []) ⟨hx, hb, hml, hown, hts⟩ (zL_kind l hfl D cI cZ cA ax A n B (nI u) (nI (w)) hB) (vx_cwSW 3 hts gL_mail_L_kind rfl rfl rfl hdL_kind ⟨Nat.le_of_ble_eq_true rfl, Nat.le_of_ble_eq_true rfl⟩) hK hW hS hA hE hNC rfl hl.1 rfl (Nat.le_of_ble_eq_true rfl) dL_mail_25 ⟨by show _ ≤ 460; omega, by show _ ≤ 2760; omega⟩ (fun H locs hW hS => ?_)
          refine n_top (y := nI (s_knd n B u w)) (by rw [z_kd hB hu hw]; rfl) ?_
          refine lv_istore (lv' := [(6, .int (nI (s_knd n B u w))), (0, .ref (ax 0)), (1, .int (nI u)), (2, .int (nI (s_fr n B u (w)) - 1)), (3, .int (nI (ct (s_alp n B u) (w)))), (4, .int (nI (B 4 u))), (5, .int (nI (w)))]) hx hb dL_mail_28 hl (by decide) rfl (fun ls hl => ?_)
          refine lv_aload_n hx hb dL_mail_30 rfl (lv_at hl 1 rfl) ?_
          refine lv_iload_n hx hb dL_mail_31 rfl (lv_at hl 2 rfl) ?_
          refine lv_iload hx hb dL_mail_32 (lv_at hl 6 rfl) ?_
          refine z_SX (As := [.ref (ax 0), .int (nI u), .int (nI (w))]) (rest := []) ⟨hx, hb, hml, hown, hts⟩ (zL_partner l hfl D cI cZ cA ax A n B (nI u) (nI (w)) hB) (vx_cwSW 3 hts gL_mail_L_partner rfl rfl rfl hdL_partner ⟨Nat.le_of_ble_eq_true rfl, Nat.le_of_ble_eq_true rfl⟩) hK hW hS hA hE hNC rfl hl.1 rfl (Nat.le_of_ble_eq_true rfl) dL_mail_34 ⟨by show _ ≤ 460; omega, by show _ ≤ 2760; omega⟩ (fun H locs hW hS => ?_)
          refine n_top (y := nI j) (by rw [z_pr hB hu hw, hpa]; rfl) ?_
          refine lv_istore (lv' := [(7, .int (nI j)), (6, .int (nI (s_knd n B u w))), (0, .ref (ax 0)), (1, .int (nI u)), (2, .int (nI (s_fr n B u (w)) - 1)), (3, .int (nI (ct (s_alp n B u) (w)))), (4, .int (nI (B 4 u))), (5, .int (nI (w)))]) hx hb dL_mail_37 hl (by decide) rfl (fun ls hl => ?_)
          refine lv_aload_n hx hb dL_mail_39 rfl (lv_at hl 2 rfl) ?_
          refine lv_iload_n hx hb dL_mail_40 rfl (lv_at hl 3 rfl) ?_
          refine lv_iload hx hb dL_mail_41 (lv_at hl 7 rfl) ?_
          refine z_SX (As := [.ref (ax 0), .int (nI u), .int (nI (w))]) (rest := []) ⟨hx, hb, hml, hown, hts⟩ (zL_originMail l hfl D cI cZ cA ax A n B (nI u) (nI (w)) hB) (vx_cwSW 3 hts gL_mail_L_originMail rfl rfl rfl hdL_originMail ⟨Nat.le_of_ble_eq_true rfl, Nat.le_of_ble_eq_true rfl⟩) hK hW hS hA hE hNC rfl hl.1 rfl (Nat.le_of_ble_eq_true rfl) dL_mail_43 ⟨by show _ ≤ 460; omega, by show _ ≤ 2760; omega⟩ (fun H locs hW hS => ?_)
          refine n_top (y := nI (s_org n B u w / 8)) (by rw [z_orc hB hu hw]; rfl) ?_
          refine lv_istore (lv' := [(8, .int (nI (s_org n B u w / 8))), (7, .int (nI j)), (6, .int (nI (s_knd n B u w))), (0, .ref (ax 0)), (1, .int (nI u)), (2, .int (nI (s_fr n B u (w)) - 1)), (3, .int (nI (ct (s_alp n B u) (w)))), (4, .int (nI (B 4 u))), (5, .int (nI (w)))]) hx hb dL_mail_46 hl (by decide) rfl (fun ls hl => ?_)
          refine lv_aload_n hx hb dL_mail_48 rfl (lv_at hl 3 rfl) ?_
          refine lv_iload_n hx hb dL_mail_49 rfl (lv_at hl 4 rfl) ?_
          refine lv_iload hx hb dL_mail_50 (lv_at hl 8 rfl) ?_
          refine z_SX (As := [.ref (ax 0), .int (nI u), .int (nI (w))]) (rest := []) ⟨hx, hb, hml, hown, hts⟩ (zL_originLine l hfl D cI cZ cA ax A n B (nI u) (nI (w)) hB) (vx_cwSW 3 hts gL_mail_L_originLine rfl rfl rfl hdL_originLine ⟨Nat.le_of_ble_eq_true rfl, Nat.le_of_ble_eq_true rfl⟩) hK hW hS hA hE hNC rfl hl.1 rfl (Nat.le_of_ble_eq_true rfl) dL_mail_52 ⟨by show _ ≤ 460; omega, by show _ ≤ 2760; omega⟩ (fun H locs hW hS => ?_)
          refine n_top (y := nI (s_org n B u w % 8)) (by rw [z_orc hB hu hw]; rfl) ?_
          refine lv_istore (lv' := [(9, .int (nI (s_org n B u w % 8))), (8, .int (nI (s_org n B u w / 8))), (7, .int (nI j)), (6, .int (nI (s_knd n B u w))), (0, .ref (ax 0)), (1, .int (nI u)), (2, .int (nI (s_fr n B u (w)) - 1)), (3, .int (nI (ct (s_alp n B u) (w)))), (4, .int (nI (B 4 u))), (5, .int (nI (w)))]) hx hb dL_mail_55 hl (by decide) rfl (fun ls hl => ?_)
          refine lv_iload hx hb dL_mail_57 (lv_at hl 2 rfl) ?_
          refine lv_if_lt (tgt := 66) hx hb dL_mail_59 (by decide) (fun h => False.elim (nI_pos (by omega) h)) (fun _ => ?_)
          refine lv_iconst (v := nI 1) hx hb dL_mail_62 (by decide +kernel) ?_
          refine lv_goto (tgt := 67) hx hb dL_mail_63 (by decide) ?_
          refine lv_iload hx hb dL_mail_67 (lv_at hl 3 rfl) ?_
          refine lv_bipush (v := nI 113) hx hb dL_mail_69 (by decide +kernel) ?_
          refine lv_icmp_ne (tgt := 78) hx hb dL_mail_71 (by decide) (fun h => False.elim (h (congrArg nI hkq))) (fun _ => ?_)
          refine lv_iconst (v := nI 1) hx hb dL_mail_74 (by decide +kernel) ?_
          refine lv_goto (tgt := 79) hx hb dL_mail_75 (by decide) ?_
          refine lv_icmp_ne (tgt := 100) hx hb dL_mail_79 (by decide) (fun h => False.elim (h rfl)) (fun _ => ?_)
          refine lv_aload_n hx hb dL_mail_82 rfl (lv_at hl 4 rfl) ?_
          refine lv_iload hx hb dL_mail_83 (lv_at hl 1 rfl) ?_
          refine lv_iload hx hb dL_mail_85 (lv_at hl 0 rfl) ?_
          refine z_SX (As := [.ref (ax 0), .int (nI (s_org n B u w / 8)), .int (nI (s_org n B u w % 8))]) (rest := []) ⟨hx, hb, hml, hown, hts⟩ (zL_word l hfl D cI cZ cA ax A n B (nI (s_org n B u w / 8)) (nI (s_org n B u w % 8)) hB) (vx_cwSW 3 hts gL_mail_L_word rfl rfl rfl hdL_word ⟨Nat.le_of_ble_eq_true rfl, Nat.le_of_ble_eq_true rfl⟩) hK hW hS hA hE hNC rfl hl.1 rfl (Nat.le_of_ble_eq_true rfl) dL_mail_87 ⟨by show _ ≤ 460; omega, by show _ ≤ 2760; omega⟩ (fun H locs hW hS => ?_)
          refine n_top (y := nI (B 6 (8 * (s_org n B u w / 8) + s_org n B u w % 8))) (by rw [z_word hB ho1 ho2]; rfl) ?_
          refine lv_aload_n hx hb dL_mail_90 rfl (lv_at hl 4 rfl) ?_
          refine lv_iload_n hx hb dL_mail_91 rfl (lv_at hl 5 rfl) ?_
          refine lv_iload hx hb dL_mail_92 (lv_at hl 9 rfl) ?_
          refine z_SX (As := [.ref (ax 0), .int (nI u), .int (nI (w))]) (rest := [.int (nI (B 6 (8 * (s_org n B u w / 8) + s_org n B u w % 8)))]) ⟨hx, hb, hml, hown, hts⟩ (zL_word l hfl D cI cZ cA ax A n B (nI u) (nI (w)) hB) (vx_cwSW 3 hts gL_mail_L_word rfl rfl rfl hdL_word ⟨Nat.le_of_ble_eq_true rfl, Nat.le_of_ble_eq_true rfl⟩) hK hW hS hA hE hNC rfl hl.1 rfl (Nat.le_of_ble_eq_true rfl) dL_mail_94 ⟨by show _ ≤ 460; omega, by show _ ≤ 2760; omega⟩ (fun H locs hW hS => ?_)
          refine n_top (y := nI (B 6 (8 * u + w))) (by rw [z_word hB hu hw]; rfl) ?_
          refine lv_icmp_eq (tgt := 102) hx hb dL_mail_97 (by decide) (fun _ => ?_) (fun h => False.elim (h (congrArg nI ho6)))
          refine lv_iload hx hb dL_mail_102 (lv_at hl 2 rfl) ?_
          refine lv_if_lt (tgt := 157) hx hb dL_mail_104 (by decide) (fun h => False.elim (nI_pos (by omega) h)) (fun _ => ?_)
          refine lv_aload_n hx hb dL_mail_107 rfl (lv_at hl 4 rfl) ?_
          refine lv_iload_n hx hb dL_mail_108 rfl (lv_at hl 5 rfl) ?_
          refine z_SX (As := [.ref (ax 0), .int (nI u)]) (rest := []) ⟨hx, hb, hml, hown, hts⟩ (zL_parent l hfl D cI cZ cA ax A n B (nI u) hB) (vx_cwSW 2 hts gL_mail_L_parent rfl rfl rfl hdL_parent ⟨Nat.le_of_ble_eq_true rfl, Nat.le_of_ble_eq_true rfl⟩) hK hW hS hA hE hNC rfl hl.1 rfl (Nat.le_of_ble_eq_true rfl) dL_mail_109 ⟨by show _ ≤ 460; omega, by show _ ≤ 2760; omega⟩ (fun H locs hW hS => ?_)
          refine n_top (y := nI q) (by rw [z_parent hB hu, hq]; rfl) ?_
          refine lv_istore (lv' := [(10, .int (nI q)), (9, .int (nI (s_org n B u w % 8))), (8, .int (nI (s_org n B u w / 8))), (7, .int (nI j)), (6, .int (nI (s_knd n B u w))), (0, .ref (ax 0)), (1, .int (nI u)), (2, .int (nI (s_fr n B u (w)) - 1)), (3, .int (nI (ct (s_alp n B u) (w)))), (4, .int (nI (B 4 u))), (5, .int (nI (w)))]) hx hb dL_mail_112 hl (by decide) rfl (fun ls hl => ?_)
          refine lv_iload hx hb dL_mail_114 (lv_at hl 3 rfl) ?_
          refine lv_iload_n hx hb dL_mail_116 rfl (lv_at hl 7 rfl) ?_
          refine lv_icmp_le (tgt := 146) hx hb dL_mail_117 (by decide) (fun h => False.elim (lastno hj1 (by omega) h)) (fun _ => ?_)
          refine lv_iload hx hb dL_mail_120 (lv_at hl 2 rfl) ?_
          refine lv_aload_n hx hb dL_mail_122 rfl (lv_at hl 5 rfl) ?_
          refine lv_iload hx hb dL_mail_123 (lv_at hl 0 rfl) ?_
          refine lv_iload hx hb dL_mail_125 (lv_at hl 3 rfl) ?_
          refine z_SX (As := [.ref (ax 0), .int (nI q), .int (nI j)]) (rest := [.int (nI (s_org n B u w / 8))]) ⟨hx, hb, hml, hown, hts⟩ (zL_originMail l hfl D cI cZ cA ax A n B (nI q) (nI j) hB) (vx_cwSW 3 hts gL_mail_L_originMail rfl rfl rfl hdL_originMail ⟨Nat.le_of_ble_eq_true rfl, Nat.le_of_ble_eq_true rfl⟩) hK hW hS hA hE hNC rfl hl.1 rfl (Nat.le_of_ble_eq_true rfl) dL_mail_127 ⟨by show _ ≤ 460; omega, by show _ ≤ 2760; omega⟩ (fun H locs hW hS => ?_)
          refine n_top (y := nI (s_org n B q j / 8)) (by rw [z_orc hB hqn hjq]; rfl) ?_
          refine lv_icmp_ne (tgt := 146) hx hb dL_mail_130 (by decide) (fun h => False.elim (h (by rw [hst]))) (fun _ => ?_)
          refine lv_iload hx hb dL_mail_133 (lv_at hl 1 rfl) ?_
          refine lv_aload_n hx hb dL_mail_135 rfl (lv_at hl 5 rfl) ?_
          refine lv_iload hx hb dL_mail_136 (lv_at hl 0 rfl) ?_
          refine lv_iload hx hb dL_mail_138 (lv_at hl 3 rfl) ?_
          refine z_SX (As := [.ref (ax 0), .int (nI q), .int (nI j)]) (rest := [.int (nI (s_org n B u w % 8))]) ⟨hx, hb, hml, hown, hts⟩ (zL_originLine l hfl D cI cZ cA ax A n B (nI q) (nI j) hB) (vx_cwSW 3 hts gL_mail_L_originLine rfl rfl rfl hdL_originLine ⟨Nat.le_of_ble_eq_true rfl, Nat.le_of_ble_eq_true rfl⟩) hK hW hS hA hE hNC rfl hl.1 rfl (Nat.le_of_ble_eq_true rfl) dL_mail_140 ⟨by show _ ≤ 460; omega, by show _ ≤ 2760; omega⟩ (fun H locs hW hS => ?_)
          refine n_top (y := nI (s_org n B q j % 8)) (by rw [z_orc hB hqn hjq]; rfl) ?_
          refine lv_icmp_eq (tgt := 148) hx hb dL_mail_143 (by decide) (fun _ => ?_) (fun h => False.elim (h (by rw [hst])))
          refine lv_iload hx hb dL_mail_148 (lv_at hl 3 rfl) ?_
          refine lv_istore_n (lv' := [(2, .int (nI j)), (10, .int (nI q)), (9, .int (nI (s_org n B u w % 8))), (8, .int (nI (s_org n B u w / 8))), (7, .int (nI j)), (6, .int (nI (s_knd n B u w))), (0, .ref (ax 0)), (1, .int (nI u)), (3, .int (nI (ct (s_alp n B u) (w)))), (4, .int (nI (B 4 u))), (5, .int (nI (w)))]) hx hb dL_mail_150 rfl hl (by decide) rfl (fun ls hl => ?_)
          refine lv_iinc (v := nI (ct (s_alp n B u) (w) + 1)) (lv' := [(3, .int (nI (ct (s_alp n B u) (w) + 1))), (2, .int (nI j)), (10, .int (nI q)), (9, .int (nI (s_org n B u w % 8))), (8, .int (nI (s_org n B u w / 8))), (7, .int (nI j)), (6, .int (nI (s_knd n B u w))), (0, .ref (ax 0)), (1, .int (nI u)), (4, .int (nI (B 4 u))), (5, .int (nI (w)))]) hx hb dL_mail_151 hl (k := 8) rfl (nI_1 _) (by decide) rfl (fun ls hl => ?_)
          refine lv_goto (tgt := 172) hx hb dL_mail_154 (by decide) ?_
          refine W.widen (k := 1 + 56 * w + 22) (n := 6 + 336 * w + 132) (by omega) (by omega) ?_
          exact join_172 _ _ hW hS _ (show lv_has ls 11 [(0, .ref (ax 0)), (1, .int (nI u)), (2, .int (nI (s_fr n B u (w + 1)) - 1)), (3, .int (nI (ct (s_alp n B u) (w + 1)))), (4, .int (nI (B 4 u))), (5, .int (nI w)), (6, .int (nI (s_knd n B u w)))] from by rw [← efr, ← ect]; exact lv_sub hl [7, 8, 1, 0, 9, 10, 6] rfl)
  refine W.widen (k := 1 + 56 * 0) (n := 6 + 336 * 0) (by omega) (by omega) ?_
  exact loop_14 (B 4 u + 1) 0 (by omega) (Nat.zero_le _) _ _ hW hS _ (lv_sub hl [4, 5, 3, 2, 1, 0] rfl)
