theorem cpmax {n z y : Nat} {B : Nat → Nat → Nat} (hB : Bok n B) (hz : z < n) (hy : y < B 4 z) : (if nI 0 < rI (s_cop n B (nI z) (nI y)).1 (nI (s_cop n B (nI z) (nI y)).2) then rI (s_cop n B (nI z) (nI y)).1 (nI (s_cop n B (nI z) (nI y)).2) else nI 0) = nI (cpf n B z y) := by
  rw [z_cop hB hz hy]
  unfold cpf
  by_cases h : s_talk n B z y = true
  · rw [if_pos h, if_pos h]
    have h1 := cop_pos hB hz hy h
    have h2 := sm_80 hB (s_cpp n B (8 * z + y))
    exact if_pos (nI_lt h1 (by omega))
  · rw [if_neg h, if_neg h]
    exact if_neg (by decide +kernel)
theorem pit_par {n m q : Nat} {B : Nat → Nat → Nat} (h : s_pit n B m = some q) : s_par n B m = some q := by
  unfold s_pit at h
  cases hp : s_par n B m with
  | none => rw [hp] at h; cases h
  | some r =>
    rw [hp] at h
    by_cases g : B 2 r = B 2 m
    · simp [g] at h; rw [h]
    · simp [g] at h
set_option maxHeartbeats 4000000 in
set_option maxRecDepth 100000 in
theorem zL_all (l : Launch) (hfl : l.stackTraces = false) (D : va_G) (cI cZ cA : ClassId) (ax : Nat → Nat) (A : Nat → Prop) (n : Nat) (B : Nat → Nat → Nat) (hB : Bok n B) (hBW : BW n B) : Met l yL_all wsL_all ({ frames := 13, cells := 5410, slots := 32460, locals := 318 }) (PcZ D cI cZ cA ax A n B [.ref (ax 0)]) (QZ D cI cZ cA ax A (nI 1) n B) 5410 32460 A := by
  refine Met.ofW (cc := cL_all) (maxL := 11) (ret := some .boolean) (by decide) rfl ?_
  intro p e s m args below meth c s₁ BL hml hv
  obtain ⟨rfl, hW, hK, hE, hNC, hA⟩ := hv
  have hx := BL.exec
  have hb := BL.bytes
  have hr := BL.returns
  have hts := atoms_spec (ws := wsL_all) BL.pre
  have hown : s.vm.findClass RL = some m.cls := findClass_of_methodNamed BL.named
  have hlocks := BL.notSynchronized
  have hS : va_S A s.heap s.heap [] := va_S.rf
  have hn10 := hB.1
  have h8 := hB.2.2.1
  have h99 := hB.2.1 6
  have hl := lv_entry ([.ref (ax 0)]) (n := 11) (Nat.le_of_ble_eq_true rfl)
  rw [lg_entry_eq]
  generalize (lg_sl ([.ref (ax 0)]) ++ List.replicate (11 - (lg_sl ([.ref (ax 0)])).length) Slot.unset).toArray = ls at hl ⊢
  have hl : lv_has ls 11 [(0, .ref (ax 0))] := hl
  have hsl80 := s_sl_80 hB
  have htk80 := s_tk_le hB
  have hhl := heads_le n B
  have hcpl := cp_le hB
  have hasl := as_le hB
  refine lv_iconst (v := nI 0) hx hb dL_all_0 (by decide +kernel) ?_
  refine lv_istore_n (lv' := [(1, .int (nI 0)), (0, .ref (ax 0))]) hx hb dL_all_1 rfl hl (by decide) rfl (fun ls hl => ?_)
  refine lv_iconst (v := nI 0) hx hb dL_all_2 (by decide +kernel) ?_
  refine lv_istore_n (lv' := [(2, .int (nI 0)), (1, .int (nI 0)), (0, .ref (ax 0))]) hx hb dL_all_3 rfl hl (by decide) rfl (fun ls hl => ?_)
  refine lv_iconst (v := nI 0) hx hb dL_all_4 (by decide +kernel) ?_
  refine lv_istore_n (lv' := [(3, .int (nI 0)), (2, .int (nI 0)), (1, .int (nI 0)), (0, .ref (ax 0))]) hx hb dL_all_5 rfl hl (by decide) rfl (fun ls hl => ?_)
  refine lv_iconst (v := nI 0) hx hb dL_all_6 (by decide +kernel) ?_
  refine lv_istore (lv' := [(4, .int (nI 0)), (3, .int (nI 0)), (2, .int (nI 0)), (1, .int (nI 0)), (0, .ref (ax 0))]) hx hb dL_all_7 hl (by decide) rfl (fun ls hl => ?_)
  refine lv_iconst (v := nI 0) hx hb dL_all_9 (by decide +kernel) ?_
  refine lv_istore (lv' := [(5, .int (nI 0)), (4, .int (nI 0)), (3, .int (nI 0)), (2, .int (nI 0)), (1, .int (nI 0)), (0, .ref (ax 0))]) hx hb dL_all_10 hl (by decide) rfl (fun ls hl => ?_)
  refine lv_iconst (v := nI 0) hx hb dL_all_12 (by decide +kernel) ?_
  refine lv_istore (lv' := [(6, .int (nI 0)), (5, .int (nI 0)), (4, .int (nI 0)), (3, .int (nI 0)), (2, .int (nI 0)), (1, .int (nI 0)), (0, .ref (ax 0))]) hx hb dL_all_13 hl (by decide) rfl (fun ls hl => ?_)
  have loop_15 : ∀ (N z : Nat), n - z < N → z ≤ n → ∀ (H : Heap) (locs : List Loc), LWh D cI cZ cA ax A n B H → va_S A s.heap H locs → ∀ (ls : Array Slot), lv_has ls 11 [(0, .ref (ax 0)), (1, .int (nI (ct (fun m => decide (s_root n B m = m)) (z)))), (2, .int (nI (sm (s_talk n B) (B 4) (z)))), (3, .int (nI (SS (cpf n B) (B 4) (z)))), (4, .int (nI (SS (asf n B) (B 4) (z)))), (5, .int (nI (s_sl B (z)))), (6, .int (nI (z)))] → W p l e (headSpec wsL_all ({ frames := 13, cells := 5410, slots := 32460, locals := 318 })).room s m ([.ref (ax 0)] : List Value).toArray below meth c H locs (540 * z) (3240 * z) (MQ below (QZ D cI cZ cA ax A (nI 1) n B) ([.ref (ax 0)] : List Value).toArray s 5410 32460 A) (F0 m 15 ls []) := by
    intro N
    induction N with
    | zero => intro z h; exact absurd h (Nat.not_lt_zero _)
    | succ N ih =>
      intro z hN hz9 H locs hW hS ls hl
      refine lv_iload hx hb dL_all_15 (lv_at hl 6 rfl) ?_
      refine lv_aload_n hx hb dL_all_17 rfl (lv_at hl 0 rfl) ?_
      refine z_Vr (cq := (RX1, TX1, 12)) (As := []) (rest := [.int (nI (z))]) (v := nI n) ⟨hx, hb, hml, hown, hts⟩ (fun Q cn rt wd qf T hQ => kX1_mails l D cI cZ cA ax n B Q cn rt wd qf T ) (cwV 0 hts gL_all_X1_mails rfl rfl rfl hdX1_mails ⟨Nat.le_of_ble_eq_true rfl, Nat.le_of_ble_eq_true rfl⟩) hK hW rfl rfl hl.1 rfl (Nat.le_of_ble_eq_true rfl) dL_all_18 ⟨by show _ ≤ 5410; omega, by show _ ≤ 32460; omega⟩ ?_
      refine lv_icmp_ge (tgt := 229) hx hb dL_all_21 (by decide) (fun h => ?_) (fun h => ?_)
      · have ez : z = n := by have := (nI_leI (by omega) (by omega)).mp h; omega
        refine lv_iload_n hx hb dL_all_229 rfl (lv_at hl 1 rfl) ?_
        refine lv_aload_n hx hb dL_all_230 rfl (lv_at hl 0 rfl) ?_
        refine z_Vr (cq := (RX1, TX1, 12)) (As := []) (rest := [.int (nI (ct (fun m => decide (s_root n B m = m)) (z)))]) (v := nI (s_heads n B)) ⟨hx, hb, hml, hown, hts⟩ (fun Q cn rt wd qf T hQ => kX1_threads l D cI cZ cA ax n B Q cn rt wd qf T hB) (cwV 0 hts gL_all_X1_threads rfl rfl rfl hdX1_threads ⟨Nat.le_of_ble_eq_true rfl, Nat.le_of_ble_eq_true rfl⟩) hK hW rfl rfl hl.1 rfl (Nat.le_of_ble_eq_true rfl) dL_all_231 ⟨by show _ ≤ 5410; omega, by show _ ≤ 32460; omega⟩ ?_
        refine lv_icmp_ne (tgt := 269) hx hb dL_all_234 (by decide) (fun h => False.elim (h (by rw [ez]; rfl))) (fun _ => ?_)
        refine lv_iload_n hx hb dL_all_237 rfl (lv_at hl 2 rfl) ?_
        refine lv_aload_n hx hb dL_all_238 rfl (lv_at hl 0 rfl) ?_
        refine z_Vr (cq := (RX1, TX1, 12)) (As := []) (rest := [.int (nI (sm (s_talk n B) (B 4) (z)))]) (v := nI (s_tk n B)) ⟨hx, hb, hml, hown, hts⟩ (fun Q cn rt wd qf T hQ => kX1_talk l D cI cZ cA ax n B Q cn rt wd qf T hB hQ) (cwV 0 hts gL_all_X1_talk rfl rfl rfl hdX1_talk ⟨Nat.le_of_ble_eq_true rfl, Nat.le_of_ble_eq_true rfl⟩) hK hW rfl rfl hl.1 rfl (Nat.le_of_ble_eq_true rfl) dL_all_239 ⟨by show _ ≤ 5410; omega, by show _ ≤ 32460; omega⟩ ?_
        refine lv_icmp_ne (tgt := 269) hx hb dL_all_242 (by decide) (fun h => False.elim (h (by rw [ez]; rfl))) (fun _ => ?_)
        refine lv_iload_n hx hb dL_all_245 rfl (lv_at hl 2 rfl) ?_
        refine lv_aload_n hx hb dL_all_246 rfl (lv_at hl 0 rfl) ?_
        refine z_Vm (As := []) (rest := [.int (nI (sm (s_talk n B) (B 4) (z)))]) (v := nI (s_tk n B)) ⟨hx, hb, hml, hown, hts⟩ (fun Q cn rt wd qf T sz hQ => kX1_talkByOrigins l D cI cZ cA ax n B Q cn rt wd qf T sz hB hQ) (cwV 0 hts gL_all_X1_talkByOrigins rfl rfl rfl hdX1_talkByOrigins ⟨Nat.le_of_ble_eq_true rfl, Nat.le_of_ble_eq_true rfl⟩) hK hW hS hA rfl rfl hl.1 rfl (Nat.le_of_ble_eq_true rfl) dL_all_247 ⟨by show _ ≤ 5410; omega, by show _ ≤ 32460; omega⟩ (fun H locs hW hS => ?_)
        refine lv_icmp_ne (tgt := 269) hx hb dL_all_250 (by decide) (fun h => False.elim (h (by rw [ez]; rfl))) (fun _ => ?_)
        refine lv_iload_n hx hb dL_all_253 rfl (lv_at hl 3 rfl) ?_
        refine lv_iload hx hb dL_all_254 (lv_at hl 5 rfl) ?_
        refine lv_icmp_gt (tgt := 269) hx hb dL_all_256 (by decide) (fun h => False.elim (nI_nlt (by rw [ez]; exact hcpl) (by rw [ez]; omega) h)) (fun _ => ?_)
        refine lv_iload hx hb dL_all_259 (lv_at hl 4 rfl) ?_
        refine lv_iload_n hx hb dL_all_261 rfl (lv_at hl 2 rfl) ?_
        refine lv_icmp_gt (tgt := 269) hx hb dL_all_262 (by decide) (fun h => False.elim (nI_nlt (by rw [ez]; exact hasl) (by rw [ez]; have : sm (s_talk n B) (B 4) n = s_tk n B := rfl; omega) h)) (fun _ => ?_)
        refine lv_iconst (v := nI 1) hx hb dL_all_265 (by decide +kernel) ?_
        refine lv_goto (tgt := 270) hx hb dL_all_266 (by decide) ?_
        refine W.widen (k := 5410) (n := 32460) (by omega) (by omega) ?_
        exact W.zret (v := nI 1) hx hb hr (by decide +kernel) (fun t ht hW9 => ⟨⟨_, (), rfl, rfl, (by show LWh D cI cZ cA ax A n B t.heap; rw [ht]; exact hW)⟩, hS.F ht⟩) hS.2.2 dL_all_270
      · have hz : z < n := Nat.lt_of_not_le (fun q => h ((nI_leI (by omega) (by omega)).mpr q))
        have h8z := h8 z
        have hrl : s_root n B z < n := s_rt_lt hz
        have hrr := root_root hB (B 0 z + 1) z hz (Nat.lt_succ_self _)
        have join_140 : ∀ (H : Heap) (locs : List Loc), LWh D cI cZ cA ax A n B H → va_S A s.heap H locs → ∀ (ls : Array Slot), lv_has ls 11 [(0, .ref (ax 0)), (1, .int (nI (ct (fun m => decide (s_root n B m = m)) (z + 1)))), (2, .int (nI (sm (s_talk n B) (B 4) (z)))), (3, .int (nI (SS (cpf n B) (B 4) (z)))), (4, .int (nI (SS (asf n B) (B 4) (z)))), (5, .int (nI (s_sl B (z)))), (6, .int (nI (z)))] → W p l e (headSpec wsL_all ({ frames := 13, cells := 5410, slots := 32460, locals := 318 })).room s m ([.ref (ax 0)] : List Value).toArray below meth c H locs (540 * z + 470) (3240 * z + 2820) (MQ below (QZ D cI cZ cA ax A (nI 1) n B) ([.ref (ax 0)] : List Value).toArray s 5410 32460 A) (F0 m 140 ls []) := by
          intro H locs hW hS ls hl
          have loop_143 : ∀ (M y : Nat), B 4 z - y < M → y ≤ B 4 z → ∀ (H : Heap) (locs : List Loc), LWh D cI cZ cA ax A n B H → va_S A s.heap H locs → ∀ (ls : Array Slot), lv_has ls 11 [(0, .ref (ax 0)), (1, .int (nI (ct (fun m => decide (s_root n B m = m)) (z + 1)))), (2, .int (nI (sm (s_talk n B) (B 4) z + ct (s_talk n B z) (y)))), (3, .int (nI (SS (cpf n B) (B 4) z + s1 (cpf n B z) (y)))), (4, .int (nI (SS (asf n B) (B 4) z + s1 (asf n B z) (y)))), (5, .int (nI (s_sl B z + y))), (6, .int (nI z)), (9, .int (nI (y)))] → W p l e (headSpec wsL_all ({ frames := 13, cells := 5410, slots := 32460, locals := 318 })).room s m ([.ref (ax 0)] : List Value).toArray below meth c H locs (540 * z + 470 + 8 * y) (3240 * z + 2820 + 48 * y) (MQ below (QZ D cI cZ cA ax A (nI 1) n B) ([.ref (ax 0)] : List Value).toArray s 5410 32460 A) (F0 m 143 ls []) := by
            intro M
            induction M with
            | zero => intro y h; exact absurd h (Nat.not_lt_zero _)
            | succ M ih2 =>
              intro y hM hy9 H locs hW hS ls hl
              refine lv_iload hx hb dL_all_143 (lv_at hl 7 rfl) ?_
              refine lv_aload_n hx hb dL_all_145 rfl (lv_at hl 0 rfl) ?_
              refine lv_iload hx hb dL_all_146 (lv_at hl 6 rfl) ?_
              refine z_SX (As := [.ref (ax 0), .int (nI z)]) (rest := [.int (nI (y))]) ⟨hx, hb, hml, hown, hts⟩ (zL_lines l hfl D cI cZ cA ax A n B (nI z) hB) (vx_cwSW 2 hts gL_all_L_lines rfl rfl rfl hdL_lines ⟨Nat.le_of_ble_eq_true rfl, Nat.le_of_ble_eq_true rfl⟩) hK hW hS hA hE hNC rfl hl.1 rfl (Nat.le_of_ble_eq_true rfl) dL_all_148 ⟨by show _ ≤ 5410; omega, by show _ ≤ 32460; omega⟩ (fun H locs hW hS => ?_)
              refine n_top (y := nI (B 4 z)) (by rw [z_lines hB hz]; rfl) ?_
              refine lv_icmp_ge (tgt := 223) hx hb dL_all_151 (by decide) (fun h => ?_) (fun h => ?_)
              · have ey : y = B 4 z := by have := (nI_leI (by omega) (by omega)).mp h; omega
                subst ey
                refine lv_iinc (v := nI (z + 1)) (lv' := [(6, .int (nI (z + 1))), (0, .ref (ax 0)), (1, .int (nI (ct (fun m => decide (s_root n B m = m)) (z + 1)))), (2, .int (nI (sm (s_talk n B) (B 4) z + ct (s_talk n B z) ((B 4 z))))), (3, .int (nI (SS (cpf n B) (B 4) z + s1 (cpf n B z) ((B 4 z))))), (4, .int (nI (SS (asf n B) (B 4) z + s1 (asf n B z) ((B 4 z))))), (5, .int (nI (s_sl B z + (B 4 z)))), (9, .int (nI ((B 4 z))))]) hx hb dL_all_223 hl (k := 6) rfl (nI_1 _) (by decide) rfl (fun ls hl => ?_)
                refine lv_goto (tgt := 15) hx hb dL_all_226 (by decide) ?_
                refine W.widen (k := 540 * (z + 1)) (n := 3240 * (z + 1)) (by omega) (by omega) ?_
                exact ih (z + 1) (by omega) (by omega) _ _ hW hS _ (show lv_has ls 11 [(0, .ref (ax 0)), (1, .int (nI (ct (fun m => decide (s_root n B m = m)) (z + 1)))), (2, .int (nI (sm (s_talk n B) (B 4) (z + 1)))), (3, .int (nI (SS (cpf n B) (B 4) (z + 1)))), (4, .int (nI (SS (asf n B) (B 4) (z + 1)))), (5, .int (nI (s_sl B (z + 1)))), (6, .int (nI (z + 1)))] from lv_sub hl [1, 2, 3, 4, 5, 6, 0] rfl)
              · have hy : y < B 4 z := Nat.lt_of_not_le (fun q => h ((nI_leI (by omega) (by omega)).mpr q))
                have hkb := s_knd_b n B z y
                have join_189 : ∀ (H : Heap) (locs : List Loc), LWh D cI cZ cA ax A n B H → va_S A s.heap H locs → ∀ (ls : Array Slot), lv_has ls 11 [(0, .ref (ax 0)), (1, .int (nI (ct (fun m => decide (s_root n B m = m)) (z + 1)))), (2, .int (nI (sm (s_talk n B) (B 4) z + ct (s_talk n B z) (y + 1)))), (3, .int (nI (SS (cpf n B) (B 4) z + s1 (cpf n B z) (y)))), (4, .int (nI (SS (asf n B) (B 4) z + s1 (asf n B z) (y)))), (5, .int (nI (s_sl B z + y + 1))), (6, .int (nI z)), (9, .int (nI y))] → W p l e (headSpec wsL_all ({ frames := 13, cells := 5410, slots := 32460, locals := 318 })).room s m ([.ref (ax 0)] : List Value).toArray below meth c H locs (540 * z + 470 + 8 * y + 3) (3240 * z + 2820 + 48 * y + 18) (MQ below (QZ D cI cZ cA ax A (nI 1) n B) ([.ref (ax 0)] : List Value).toArray s 5410 32460 A) (F0 m 189 ls []) := by
                  intro H locs hW hS ls hl
                  refine lv_iload_n hx hb dL_all_189 rfl (lv_at hl 3 rfl) ?_
                  refine lv_iconst (v := nI 0) hx hb dL_all_190 (by decide +kernel) ?_
                  refine lv_aload_n hx hb dL_all_191 rfl (lv_at hl 0 rfl) ?_
                  refine lv_iload hx hb dL_all_192 (lv_at hl 6 rfl) ?_
                  refine lv_iload hx hb dL_all_194 (lv_at hl 7 rfl) ?_
                  refine z_SX (As := [.ref (ax 0), .int (nI z), .int (nI y)]) (rest := [.int (nI 0), .int (nI (SS (cpf n B) (B 4) z + s1 (cpf n B z) (y)))]) ⟨hx, hb, hml, hown, hts⟩ (zL_copies l hfl D cI cZ cA ax A n B (nI z) (nI y) hB) (vx_cwSW 3 hts gL_all_L_copies rfl rfl rfl hdL_copies ⟨Nat.le_of_ble_eq_true rfl, Nat.le_of_ble_eq_true rfl⟩) hK hW hS hA hE hNC rfl hl.1 rfl (Nat.le_of_ble_eq_true rfl) dL_all_196 ⟨by show _ ≤ 5410; omega, by show _ ≤ 32460; omega⟩ (fun H locs hW hS => ?_)
                  refine va_mmax hx hb (hml.trans hl.1.symm) hown (hts (.methodLink RL 135 Lib.Math.max.name) (lb_all_1 _ (List.mem_of_getElem? (i := 0) rfl))) (hts (.static Lib.Math.max.name) (lb_all_1 _ (List.mem_of_getElem? (i := 1) rfl))) (hts (.initialized "java/lang/Math") (lb_all_1 _ (List.mem_of_getElem? (i := 2) rfl))) (hts (.code Lib.Math.max.name Lib.Math.max.code 2 (some .int)) (lb_all_1 _ (List.mem_of_getElem? (i := 3) rfl))) (Nat.le_of_ble_eq_true rfl) (Nat.le_of_ble_eq_true rfl) (by show _ ≤ 5410; omega) (by show _ ≤ 32460; omega) dL_all_199 ?_
                  refine n_top (y := nI (cpf n B z y)) (cpmax hB hz hy) ?_
                  refine lv_iadd hx hb dL_all_202 ?_
                  refine n_top (nI_add (SS (cpf n B) (B 4) z + s1 (cpf n B z) (y)) (cpf n B z y)) ?_
                  refine n_top (y := nI (SS (cpf n B) (B 4) z + s1 (cpf n B z) (y + 1))) (congrArg nI (Nat.add_assoc _ _ _)) ?_
                  refine lv_istore_n (lv' := [(3, .int (nI (SS (cpf n B) (B 4) z + s1 (cpf n B z) (y + 1)))), (0, .ref (ax 0)), (1, .int (nI (ct (fun m => decide (s_root n B m = m)) (z + 1)))), (2, .int (nI (sm (s_talk n B) (B 4) z + ct (s_talk n B z) (y + 1)))), (4, .int (nI (SS (asf n B) (B 4) z + s1 (asf n B z) (y)))), (5, .int (nI (s_sl B z + y + 1))), (6, .int (nI z)), (9, .int (nI y))]) hx hb dL_all_203 rfl hl (by decide) rfl (fun ls hl => ?_)
                  refine lv_iload hx hb dL_all_204 (lv_at hl 4 rfl) ?_
                  refine lv_aload_n hx hb dL_all_206 rfl (lv_at hl 1 rfl) ?_
                  refine lv_iload hx hb dL_all_207 (lv_at hl 6 rfl) ?_
                  refine lv_iload hx hb dL_all_209 (lv_at hl 7 rfl) ?_
                  refine z_SX (As := [.ref (ax 0), .int (nI z), .int (nI y)]) (rest := [.int (nI (SS (asf n B) (B 4) z + s1 (asf n B z) (y)))]) ⟨hx, hb, hml, hown, hts⟩ (zL_answers l hfl D cI cZ cA ax A n B (nI z) (nI y) hB) (vx_cwSW 3 hts gL_all_L_answers rfl rfl rfl hdL_answers ⟨Nat.le_of_ble_eq_true rfl, Nat.le_of_ble_eq_true rfl⟩) hK hW hS hA hE hNC rfl hl.1 rfl (Nat.le_of_ble_eq_true rfl) dL_all_211 ⟨by show _ ≤ 5410; omega, by show _ ≤ 32460; omega⟩ (fun H locs hW hS => ?_)
                  refine n_top (y := nI (asf n B z y)) (by rw [z_asn hB hz hy]; rfl) ?_
                  refine lv_iadd hx hb dL_all_214 ?_
                  refine n_top (nI_add (SS (asf n B) (B 4) z + s1 (asf n B z) (y)) (asf n B z y)) ?_
                  refine n_top (y := nI (SS (asf n B) (B 4) z + s1 (asf n B z) (y + 1))) (congrArg nI (Nat.add_assoc _ _ _)) ?_
                  refine lv_istore (lv' := [(4, .int (nI (SS (asf n B) (B 4) z + s1 (asf n B z) (y + 1)))), (3, .int (nI (SS (cpf n B) (B 4) z + s1 (cpf n B z) (y + 1)))), (0, .ref (ax 0)), (1, .int (nI (ct (fun m => decide (s_root n B m = m)) (z + 1)))), (2, .int (nI (sm (s_talk n B) (B 4) z + ct (s_talk n B z) (y + 1)))), (5, .int (nI (s_sl B z + y + 1))), (6, .int (nI z)), (9, .int (nI y))]) hx hb dL_all_215 hl (by decide) rfl (fun ls hl => ?_)
                  refine lv_iinc (v := nI (y + 1)) (lv' := [(9, .int (nI (y + 1))), (4, .int (nI (SS (asf n B) (B 4) z + s1 (asf n B z) (y + 1)))), (3, .int (nI (SS (cpf n B) (B 4) z + s1 (cpf n B z) (y + 1)))), (0, .ref (ax 0)), (1, .int (nI (ct (fun m => decide (s_root n B m = m)) (z + 1)))), (2, .int (nI (sm (s_talk n B) (B 4) z + ct (s_talk n B z) (y + 1)))), (5, .int (nI (s_sl B z + y + 1))), (6, .int (nI z))]) hx hb dL_all_217 hl (k := 7) rfl (nI_1 _) (by decide) rfl (fun ls hl => ?_)
                  refine lv_goto (tgt := 143) hx hb dL_all_220 (by decide) ?_
                  refine W.widen (k := 540 * z + 470 + 8 * (y + 1)) (n := 3240 * z + 2820 + 48 * (y + 1)) (by omega) (by omega) ?_
                  exact ih2 (y + 1) (by omega) (by omega) _ _ hW hS _ (show lv_has ls 11 [(0, .ref (ax 0)), (1, .int (nI (ct (fun m => decide (s_root n B m = m)) (z + 1)))), (2, .int (nI (sm (s_talk n B) (B 4) z + ct (s_talk n B z) ((y + 1))))), (3, .int (nI (SS (cpf n B) (B 4) z + s1 (cpf n B z) ((y + 1))))), (4, .int (nI (SS (asf n B) (B 4) z + s1 (asf n B z) ((y + 1))))), (5, .int (nI (s_sl B z + (y + 1)))), (6, .int (nI z)), (9, .int (nI ((y + 1))))] from lv_sub hl [3, 4, 5, 2, 1, 6, 7, 0] rfl)
                refine lv_aload_n hx hb dL_all_154 rfl (lv_at hl 0 rfl) ?_
                refine lv_iload hx hb dL_all_155 (lv_at hl 6 rfl) ?_
                refine lv_iload hx hb dL_all_157 (lv_at hl 7 rfl) ?_
                refine z_SX (As := [.ref (ax 0), .int (nI z), .int (nI (y))]) (rest := []) ⟨hx, hb, hml, hown, hts⟩ (zL_kind l hfl D cI cZ cA ax A n B (nI z) (nI (y)) hB) (vx_cwSW 3 hts gL_all_L_kind rfl rfl rfl hdL_kind ⟨Nat.le_of_ble_eq_true rfl, Nat.le_of_ble_eq_true rfl⟩) hK hW hS hA hE hNC rfl hl.1 rfl (Nat.le_of_ble_eq_true rfl) dL_all_159 ⟨by show _ ≤ 5410; omega, by show _ ≤ 32460; omega⟩ (fun H locs hW hS => ?_)
                refine n_top (y := nI (s_knd n B z y)) (by rw [z_kd hB hz hy]; rfl) ?_
                refine lv_istore (lv' := [(10, .int (nI (s_knd n B z y))), (0, .ref (ax 0)), (1, .int (nI (ct (fun m => decide (s_root n B m = m)) (z + 1)))), (2, .int (nI (sm (s_talk n B) (B 4) z + ct (s_talk n B z) (y)))), (3, .int (nI (SS (cpf n B) (B 4) z + s1 (cpf n B z) (y)))), (4, .int (nI (SS (asf n B) (B 4) z + s1 (asf n B z) (y)))), (5, .int (nI (s_sl B z + y))), (6, .int (nI z)), (9, .int (nI (y)))]) hx hb dL_all_162 hl (by decide) rfl (fun ls hl => ?_)
                refine lv_iinc (v := nI (s_sl B z + y + 1)) (lv' := [(5, .int (nI (s_sl B z + y + 1))), (10, .int (nI (s_knd n B z y))), (0, .ref (ax 0)), (1, .int (nI (ct (fun m => decide (s_root n B m = m)) (z + 1)))), (2, .int (nI (sm (s_talk n B) (B 4) z + ct (s_talk n B z) (y)))), (3, .int (nI (SS (cpf n B) (B 4) z + s1 (cpf n B z) (y)))), (4, .int (nI (SS (asf n B) (B 4) z + s1 (asf n B z) (y)))), (6, .int (nI z)), (9, .int (nI (y)))]) hx hb dL_all_164 hl (k := 6) rfl (nI_1 _) (by decide) rfl (fun ls hl => ?_)
                refine lv_iload_n hx hb dL_all_167 rfl (lv_at hl 4 rfl) ?_
                refine lv_iload hx hb dL_all_168 (lv_at hl 1 rfl) ?_
                refine lv_bipush (v := nI 110) hx hb dL_all_170 (by decide +kernel) ?_
                refine lv_icmp_eq (tgt := 182) hx hb dL_all_172 (by decide) (fun h => ?_) (fun h => ?_)
                · have htk : s_talk n B z y = true := by unfold s_talk; rw [show s_knd n B z y = 110 from (nI_eq (by omega) (by decide)).mp h]; rfl
                  refine lv_iconst (v := nI 1) hx hb dL_all_182 (by decide +kernel) ?_
                  refine lv_goto (tgt := 187) hx hb dL_all_183 (by decide) ?_
                  refine lv_iadd hx hb dL_all_187 ?_
                  refine n_top (nI_add (sm (s_talk n B) (B 4) z + ct (s_talk n B z) (y)) (1)) ?_
                  refine n_top (y := nI (sm (s_talk n B) (B 4) z + ct (s_talk n B z) (y + 1))) (congrArg nI (by rw [ct_t htk, Nat.add_assoc])) ?_
                  refine lv_istore_n (lv' := [(2, .int (nI (sm (s_talk n B) (B 4) z + ct (s_talk n B z) (y + 1)))), (5, .int (nI (s_sl B z + y + 1))), (10, .int (nI (s_knd n B z y))), (0, .ref (ax 0)), (1, .int (nI (ct (fun m => decide (s_root n B m = m)) (z + 1)))), (3, .int (nI (SS (cpf n B) (B 4) z + s1 (cpf n B z) (y)))), (4, .int (nI (SS (asf n B) (B 4) z + s1 (asf n B z) (y)))), (6, .int (nI z)), (9, .int (nI (y)))]) hx hb dL_all_188 rfl hl (by decide) rfl (fun ls hl => ?_)
                  refine W.widen (k := 540 * z + 470 + 8 * y + 3) (n := 3240 * z + 2820 + 48 * y + 18) (by omega) (by omega) ?_
                  exact join_189 _ _ hW hS _ (show lv_has ls 11 [(0, .ref (ax 0)), (1, .int (nI (ct (fun m => decide (s_root n B m = m)) (z + 1)))), (2, .int (nI (sm (s_talk n B) (B 4) z + ct (s_talk n B z) (y + 1)))), (3, .int (nI (SS (cpf n B) (B 4) z + s1 (cpf n B z) (y)))), (4, .int (nI (SS (asf n B) (B 4) z + s1 (asf n B z) (y)))), (5, .int (nI (s_sl B z + y + 1))), (6, .int (nI z)), (9, .int (nI y))] from by exact lv_sub hl [3, 4, 0, 5, 6, 1, 7, 8] rfl)
                · have h110 : ¬ s_knd n B z y = 110 := fun q => h (congrArg nI q)
                  refine lv_iload hx hb dL_all_175 (lv_at hl 1 rfl) ?_
                  refine lv_bipush (v := nI 114) hx hb dL_all_177 (by decide +kernel) ?_
                  refine lv_icmp_ne (tgt := 186) hx hb dL_all_179 (by decide) (fun h => ?_) (fun h => ?_)
                  · have h114 : ¬ s_knd n B z y = 114 := fun q => h (congrArg nI q)
                    have htk : s_talk n B z y = false := by unfold s_talk; simp [h110, h114]
                    refine lv_iconst (v := nI 0) hx hb dL_all_186 (by decide +kernel) ?_
                    refine lv_iadd hx hb dL_all_187 ?_
                    refine n_top (nI_add (sm (s_talk n B) (B 4) z + ct (s_talk n B z) (y)) (0)) ?_
                    refine n_top (y := nI (sm (s_talk n B) (B 4) z + ct (s_talk n B z) (y + 1))) (congrArg nI (by rw [ct_f htk, Nat.add_zero])) ?_
                    refine lv_istore_n (lv' := [(2, .int (nI (sm (s_talk n B) (B 4) z + ct (s_talk n B z) (y + 1)))), (5, .int (nI (s_sl B z + y + 1))), (10, .int (nI (s_knd n B z y))), (0, .ref (ax 0)), (1, .int (nI (ct (fun m => decide (s_root n B m = m)) (z + 1)))), (3, .int (nI (SS (cpf n B) (B 4) z + s1 (cpf n B z) (y)))), (4, .int (nI (SS (asf n B) (B 4) z + s1 (asf n B z) (y)))), (6, .int (nI z)), (9, .int (nI (y)))]) hx hb dL_all_188 rfl hl (by decide) rfl (fun ls hl => ?_)
                    refine W.widen (k := 540 * z + 470 + 8 * y + 3) (n := 3240 * z + 2820 + 48 * y + 18) (by omega) (by omega) ?_
                    exact join_189 _ _ hW hS _ (show lv_has ls 11 [(0, .ref (ax 0)), (1, .int (nI (ct (fun m => decide (s_root n B m = m)) (z + 1)))), (2, .int (nI (sm (s_talk n B) (B 4) z + ct (s_talk n B z) (y + 1)))), (3, .int (nI (SS (cpf n B) (B 4) z + s1 (cpf n B z) (y)))), (4, .int (nI (SS (asf n B) (B 4) z + s1 (asf n B z) (y)))), (5, .int (nI (s_sl B z + y + 1))), (6, .int (nI z)), (9, .int (nI y))] from by exact lv_sub hl [3, 4, 0, 5, 6, 1, 7, 8] rfl)
                  · have htk : s_talk n B z y = true := by unfold s_talk; rw [show s_knd n B z y = 114 from (nI_eq (by omega) (by decide)).mp h]; rfl
                    refine lv_iconst (v := nI 1) hx hb dL_all_182 (by decide +kernel) ?_
                    refine lv_goto (tgt := 187) hx hb dL_all_183 (by decide) ?_
                    refine lv_iadd hx hb dL_all_187 ?_
                    refine n_top (nI_add (sm (s_talk n B) (B 4) z + ct (s_talk n B z) (y)) (1)) ?_
                    refine n_top (y := nI (sm (s_talk n B) (B 4) z + ct (s_talk n B z) (y + 1))) (congrArg nI (by rw [ct_t htk, Nat.add_assoc])) ?_
                    refine lv_istore_n (lv' := [(2, .int (nI (sm (s_talk n B) (B 4) z + ct (s_talk n B z) (y + 1)))), (5, .int (nI (s_sl B z + y + 1))), (10, .int (nI (s_knd n B z y))), (0, .ref (ax 0)), (1, .int (nI (ct (fun m => decide (s_root n B m = m)) (z + 1)))), (3, .int (nI (SS (cpf n B) (B 4) z + s1 (cpf n B z) (y)))), (4, .int (nI (SS (asf n B) (B 4) z + s1 (asf n B z) (y)))), (6, .int (nI z)), (9, .int (nI (y)))]) hx hb dL_all_188 rfl hl (by decide) rfl (fun ls hl => ?_)
                    refine W.widen (k := 540 * z + 470 + 8 * y + 3) (n := 3240 * z + 2820 + 48 * y + 18) (by omega) (by omega) ?_
                    exact join_189 _ _ hW hS _ (show lv_has ls 11 [(0, .ref (ax 0)), (1, .int (nI (ct (fun m => decide (s_root n B m = m)) (z + 1)))), (2, .int (nI (sm (s_talk n B) (B 4) z + ct (s_talk n B z) (y + 1)))), (3, .int (nI (SS (cpf n B) (B 4) z + s1 (cpf n B z) (y)))), (4, .int (nI (SS (asf n B) (B 4) z + s1 (asf n B z) (y)))), (5, .int (nI (s_sl B z + y + 1))), (6, .int (nI z)), (9, .int (nI y))] from by exact lv_sub hl [3, 4, 0, 5, 6, 1, 7, 8] rfl)
          refine lv_iconst (v := nI 0) hx hb dL_all_140 (by decide +kernel) ?_
          refine lv_istore (lv' := [(9, .int (nI 0)), (0, .ref (ax 0)), (1, .int (nI (ct (fun m => decide (s_root n B m = m)) (z + 1)))), (2, .int (nI (sm (s_talk n B) (B 4) (z)))), (3, .int (nI (SS (cpf n B) (B 4) (z)))), (4, .int (nI (SS (asf n B) (B 4) (z)))), (5, .int (nI (s_sl B (z)))), (6, .int (nI (z)))]) hx hb dL_all_141 hl (by decide) rfl (fun ls hl => ?_)
          refine W.widen (k := 540 * z + 470 + 8 * 0) (n := 3240 * z + 2820 + 48 * 0) (by omega) (by omega) ?_
          exact loop_143 (B 4 z + 1) 0 (by omega) (Nat.zero_le _) _ _ hW hS _ (show lv_has ls 11 [(0, .ref (ax 0)), (1, .int (nI (ct (fun m => decide (s_root n B m = m)) (z + 1)))), (2, .int (nI (sm (s_talk n B) (B 4) z + ct (s_talk n B z) (0)))), (3, .int (nI (SS (cpf n B) (B 4) z + s1 (cpf n B z) (0)))), (4, .int (nI (SS (asf n B) (B 4) z + s1 (asf n B z) (0)))), (5, .int (nI (s_sl B z + 0))), (6, .int (nI z)), (9, .int (nI (0)))] from lv_sub hl [1, 2, 3, 4, 5, 6, 7, 0] rfl)
        refine lv_aload_n hx hb dL_all_24 rfl (lv_at hl 0 rfl) ?_
        refine lv_iload hx hb dL_all_25 (lv_at hl 6 rfl) ?_
        refine z_S (As := [.ref (ax 0), .int (nI (z))]) (rest := []) ⟨hx, hb, hml, hown, hts⟩ (zL_mail l hfl D cI cZ cA ax A n B z hB hBW hz) (va_cwS 2 hts gL_all_L_mail rfl rfl rfl hdL_mail ⟨Nat.le_of_ble_eq_true rfl, Nat.le_of_ble_eq_true rfl⟩) hK hW hS hA hE hNC rfl hl.1 rfl (Nat.le_of_ble_eq_true rfl) dL_all_27 ⟨by show _ ≤ 5410; omega, by show _ ≤ 32460; omega⟩ (fun H locs hW hS => ?_)
        refine lv_if_ne (tgt := 35) hx hb dL_all_30 (by decide) (fun _ => ?_) (fun h => False.elim (absurd h (by decide +kernel)))
        refine lv_aload_n hx hb dL_all_35 rfl (lv_at hl 0 rfl) ?_
        refine lv_iload hx hb dL_all_36 (lv_at hl 6 rfl) ?_
        refine z_SX (As := [.ref (ax 0), .int (nI (z))]) (rest := []) ⟨hx, hb, hml, hown, hts⟩ (zL_root l hfl D cI cZ cA ax A n B (nI (z)) hB) (vx_cwSW 2 hts gL_all_L_root rfl rfl rfl hdL_root ⟨Nat.le_of_ble_eq_true rfl, Nat.le_of_ble_eq_true rfl⟩) hK hW hS hA hE hNC rfl hl.1 rfl (Nat.le_of_ble_eq_true rfl) dL_all_38 ⟨by show _ ≤ 5410; omega, by show _ ≤ 32460; omega⟩ (fun H locs hW hS => ?_)
        refine n_top (y := nI (s_root n B z)) (by rw [z_rtc hB hz]; rfl) ?_
        refine lv_istore (lv' := [(7, .int (nI (s_root n B z))), (0, .ref (ax 0)), (1, .int (nI (ct (fun m => decide (s_root n B m = m)) (z)))), (2, .int (nI (sm (s_talk n B) (B 4) (z)))), (3, .int (nI (SS (cpf n B) (B 4) (z)))), (4, .int (nI (SS (asf n B) (B 4) (z)))), (5, .int (nI (s_sl B (z)))), (6, .int (nI (z)))]) hx hb dL_all_41 hl (by decide) rfl (fun ls hl => ?_)
        refine lv_iload hx hb dL_all_43 (lv_at hl 0 rfl) ?_
        refine lv_aload_n hx hb dL_all_45 rfl (lv_at hl 1 rfl) ?_
        refine lv_iload hx hb dL_all_46 (lv_at hl 7 rfl) ?_
        refine z_SX (As := [.ref (ax 0), .int (nI (z))]) (rest := [.int (nI (s_root n B z))]) ⟨hx, hb, hml, hown, hts⟩ (zL_rootByRounds l hfl D cI cZ cA ax A n B (nI (z)) hB) (vx_cwSW 2 hts gL_all_L_rootByRounds rfl rfl rfl hdL_rootByRounds ⟨Nat.le_of_ble_eq_true rfl, Nat.le_of_ble_eq_true rfl⟩) hK hW hS hA hE hNC rfl hl.1 rfl (Nat.le_of_ble_eq_true rfl) dL_all_48 ⟨by show _ ≤ 5410; omega, by show _ ≤ 32460; omega⟩ (fun H locs hW hS => ?_)
        refine n_top (y := nI (s_root n B z)) (by rw [z_rtc hB hz]; rfl) ?_
        refine lv_icmp_ne (tgt := 90) hx hb dL_all_51 (by decide) (fun h => False.elim (h rfl)) (fun _ => ?_)
        refine lv_aload_n hx hb dL_all_54 rfl (lv_at hl 1 rfl) ?_
        refine lv_iload hx hb dL_all_55 (lv_at hl 0 rfl) ?_
        refine z_SX (As := [.ref (ax 0), .int (nI (s_root n B z))]) (rest := []) ⟨hx, hb, hml, hown, hts⟩ (zL_root l hfl D cI cZ cA ax A n B (nI (s_root n B z)) hB) (vx_cwSW 2 hts gL_all_L_root rfl rfl rfl hdL_root ⟨Nat.le_of_ble_eq_true rfl, Nat.le_of_ble_eq_true rfl⟩) hK hW hS hA hE hNC rfl hl.1 rfl (Nat.le_of_ble_eq_true rfl) dL_all_57 ⟨by show _ ≤ 5410; omega, by show _ ≤ 32460; omega⟩ (fun H locs hW hS => ?_)
        refine n_top (y := nI (s_root n B z)) (by rw [z_rtc hB hrl, hrr]; rfl) ?_
        refine lv_iload hx hb dL_all_60 (lv_at hl 0 rfl) ?_
        refine lv_icmp_ne (tgt := 90) hx hb dL_all_62 (by decide) (fun h => False.elim (h rfl)) (fun _ => ?_)
        have esz : s_szp n B (s_root n B z) = s_szp n B z := by funext k; unfold s_szp; rw [hrr]
        have hsz1 : 0 < ct (s_szp n B z) n := ct_pos (j := z) (by unfold s_szp; exact decide_eq_true rfl) n hz
        have hsz2 := ct_le (s_szp n B z) n
        refine lv_aload_n hx hb dL_all_65 rfl (lv_at hl 1 rfl) ?_
        refine lv_iload hx hb dL_all_66 (lv_at hl 0 rfl) ?_
        refine z_SX (As := [.ref (ax 0), .int (nI (s_root n B z))]) (rest := []) ⟨hx, hb, hml, hown, hts⟩ (zL_size l hfl D cI cZ cA ax A n B (nI (s_root n B z)) hB) (vx_cwSW 2 hts gL_all_L_size rfl rfl rfl hdL_size ⟨Nat.le_of_ble_eq_true rfl, Nat.le_of_ble_eq_true rfl⟩) hK hW hS hA hE hNC rfl hl.1 rfl (Nat.le_of_ble_eq_true rfl) dL_all_68 ⟨by show _ ≤ 5410; omega, by show _ ≤ 32460; omega⟩ (fun H locs hW hS => ?_)
        refine n_top (y := nI (ct (s_szp n B z) n)) (by rw [z_sz hB hrl, esz]; rfl) ?_
        refine lv_aload_n hx hb dL_all_71 rfl (lv_at hl 1 rfl) ?_
        refine lv_iload hx hb dL_all_72 (lv_at hl 7 rfl) ?_
        refine z_SX (As := [.ref (ax 0), .int (nI (z))]) (rest := [.int (nI (ct (s_szp n B z) n))]) ⟨hx, hb, hml, hown, hts⟩ (zL_size l hfl D cI cZ cA ax A n B (nI (z)) hB) (vx_cwSW 2 hts gL_all_L_size rfl rfl rfl hdL_size ⟨Nat.le_of_ble_eq_true rfl, Nat.le_of_ble_eq_true rfl⟩) hK hW hS hA hE hNC rfl hl.1 rfl (Nat.le_of_ble_eq_true rfl) dL_all_74 ⟨by show _ ≤ 5410; omega, by show _ ≤ 32460; omega⟩ (fun H locs hW hS => ?_)
        refine n_top (y := nI (ct (s_szp n B z) n)) (by rw [z_sz hB hz]; rfl) ?_
        refine lv_icmp_ne (tgt := 90) hx hb dL_all_77 (by decide) (fun h => False.elim (h rfl)) (fun _ => ?_)
        refine lv_aload_n hx hb dL_all_80 rfl (lv_at hl 1 rfl) ?_
        refine lv_iload hx hb dL_all_81 (lv_at hl 7 rfl) ?_
        refine z_SX (As := [.ref (ax 0), .int (nI (z))]) (rest := []) ⟨hx, hb, hml, hown, hts⟩ (zL_size l hfl D cI cZ cA ax A n B (nI (z)) hB) (vx_cwSW 2 hts gL_all_L_size rfl rfl rfl hdL_size ⟨Nat.le_of_ble_eq_true rfl, Nat.le_of_ble_eq_true rfl⟩) hK hW hS hA hE hNC rfl hl.1 rfl (Nat.le_of_ble_eq_true rfl) dL_all_83 ⟨by show _ ≤ 5410; omega, by show _ ≤ 32460; omega⟩ (fun H locs hW hS => ?_)
        refine n_top (y := nI (ct (s_szp n B z) n)) (by rw [z_sz hB hz]; rfl) ?_
        refine lv_iconst (v := nI 1) hx hb dL_all_86 (by decide +kernel) ?_
        refine lv_icmp_ge (tgt := 92) hx hb dL_all_87 (by decide) (fun _ => ?_) (fun h => False.elim (h ((nI_leI (by decide) (by omega)).mpr hsz1)))
        refine lv_iload_n hx hb dL_all_92 rfl (lv_at hl 2 rfl) ?_
        refine lv_iload hx hb dL_all_93 (lv_at hl 0 rfl) ?_
        refine lv_iload hx hb dL_all_95 (lv_at hl 7 rfl) ?_
        refine lv_icmp_ne (tgt := 104) hx hb dL_all_97 (by decide) (fun h => ?_) (fun h => ?_)
        · have hne : ¬ s_root n B z = z := fun q => h (congrArg nI q)
          obtain ⟨q, hpq⟩ : ∃ q, s_pit n B z = some q := by cases hp : s_pit n B z with | none => exact absurd (s_rt_none hp) hne | some q => exact ⟨q, rfl⟩
          have hqn := (s_pit_lt hpq).1
          have hpar := pit_par hpq
          have hrq := s_root_s hB hz hpq
          refine lv_iconst (v := nI 0) hx hb dL_all_104 (by decide +kernel) ?_
          refine lv_iadd hx hb dL_all_105 ?_
          refine n_top (nI_add (ct (fun m => decide (s_root n B m = m)) (z)) (0)) ?_
          refine n_top (y := nI (ct (fun m => decide (s_root n B m = m)) (z + 1))) (congrArg nI (by rw [ct_f (decide_eq_false hne), Nat.add_zero])) ?_
          refine lv_istore_n (lv' := [(1, .int (nI (ct (fun m => decide (s_root n B m = m)) (z + 1)))), (7, .int (nI (s_root n B z))), (0, .ref (ax 0)), (2, .int (nI (sm (s_talk n B) (B 4) (z)))), (3, .int (nI (SS (cpf n B) (B 4) (z)))), (4, .int (nI (SS (asf n B) (B 4) (z)))), (5, .int (nI (s_sl B (z)))), (6, .int (nI (z)))]) hx hb dL_all_106 rfl hl (by decide) rfl (fun ls hl => ?_)
          refine lv_aload_n hx hb dL_all_107 rfl (lv_at hl 2 rfl) ?_
          refine lv_iload hx hb dL_all_108 (lv_at hl 7 rfl) ?_
          refine z_SX (As := [.ref (ax 0), .int (nI (z))]) (rest := []) ⟨hx, hb, hml, hown, hts⟩ (zL_parent l hfl D cI cZ cA ax A n B (nI (z)) hB) (vx_cwSW 2 hts gL_all_L_parent rfl rfl rfl hdL_parent ⟨Nat.le_of_ble_eq_true rfl, Nat.le_of_ble_eq_true rfl⟩) hK hW hS hA hE hNC rfl hl.1 rfl (Nat.le_of_ble_eq_true rfl) dL_all_110 ⟨by show _ ≤ 5410; omega, by show _ ≤ 32460; omega⟩ (fun H locs hW hS => ?_)
          refine n_top (y := nI q) (by rw [z_parent hB hz, hpar]; rfl) ?_
          refine lv_istore (lv' := [(8, .int (nI q)), (1, .int (nI (ct (fun m => decide (s_root n B m = m)) (z + 1)))), (7, .int (nI (s_root n B z))), (0, .ref (ax 0)), (2, .int (nI (sm (s_talk n B) (B 4) (z)))), (3, .int (nI (SS (cpf n B) (B 4) (z)))), (4, .int (nI (SS (asf n B) (B 4) (z)))), (5, .int (nI (s_sl B (z)))), (6, .int (nI (z)))]) hx hb dL_all_113 hl (by decide) rfl (fun ls hl => ?_)
          refine lv_iload hx hb dL_all_115 (lv_at hl 2 rfl) ?_
          refine lv_iload hx hb dL_all_117 (lv_at hl 8 rfl) ?_
          refine lv_icmp_eq (tgt := 140) hx hb dL_all_119 (by decide) (fun h => False.elim (hne ((nI_eq (by omega) (by omega)).mp h))) (fun _ => ?_)
          refine lv_iload hx hb dL_all_122 (lv_at hl 0 rfl) ?_
          refine lv_if_lt (tgt := 138) hx hb dL_all_124 (by decide) (fun h => False.elim (nI_pos (by omega) h)) (fun _ => ?_)
          refine lv_aload_n hx hb dL_all_127 rfl (lv_at hl 3 rfl) ?_
          refine lv_iload hx hb dL_all_128 (lv_at hl 0 rfl) ?_
          refine z_SX (As := [.ref (ax 0), .int (nI q)]) (rest := []) ⟨hx, hb, hml, hown, hts⟩ (zL_root l hfl D cI cZ cA ax A n B (nI q) hB) (vx_cwSW 2 hts gL_all_L_root rfl rfl rfl hdL_root ⟨Nat.le_of_ble_eq_true rfl, Nat.le_of_ble_eq_true rfl⟩) hK hW hS hA hE hNC rfl hl.1 rfl (Nat.le_of_ble_eq_true rfl) dL_all_130 ⟨by show _ ≤ 5410; omega, by show _ ≤ 32460; omega⟩ (fun H locs hW hS => ?_)
          refine n_top (y := nI (s_root n B z)) (by rw [z_rtc hB hqn, ← hrq]; rfl) ?_
          refine lv_iload hx hb dL_all_133 (lv_at hl 2 rfl) ?_
          refine lv_icmp_eq (tgt := 140) hx hb dL_all_135 (by decide) (fun _ => ?_) (fun h => False.elim (h rfl))
          refine W.widen (k := 540 * z + 470) (n := 3240 * z + 2820) (by omega) (by omega) ?_
          exact join_140 _ _ hW hS _ (show lv_has ls 11 [(0, .ref (ax 0)), (1, .int (nI (ct (fun m => decide (s_root n B m = m)) (z + 1)))), (2, .int (nI (sm (s_talk n B) (B 4) (z)))), (3, .int (nI (SS (cpf n B) (B 4) (z)))), (4, .int (nI (SS (asf n B) (B 4) (z)))), (5, .int (nI (s_sl B (z)))), (6, .int (nI (z)))] from by exact lv_sub hl [3, 1, 4, 5, 6, 7, 8] rfl)
        · have heq : s_root n B z = z := (nI_eq (by omega) (by omega)).mp h
          refine lv_iconst (v := nI 1) hx hb dL_all_100 (by decide +kernel) ?_
          refine lv_goto (tgt := 105) hx hb dL_all_101 (by decide) ?_
          refine lv_iadd hx hb dL_all_105 ?_
          refine n_top (nI_add (ct (fun m => decide (s_root n B m = m)) (z)) (1)) ?_
          refine n_top (y := nI (ct (fun m => decide (s_root n B m = m)) (z + 1))) (congrArg nI (ct_t (decide_eq_true heq)).symm) ?_
          refine lv_istore_n (lv' := [(1, .int (nI (ct (fun m => decide (s_root n B m = m)) (z + 1)))), (7, .int (nI (s_root n B z))), (0, .ref (ax 0)), (2, .int (nI (sm (s_talk n B) (B 4) (z)))), (3, .int (nI (SS (cpf n B) (B 4) (z)))), (4, .int (nI (SS (asf n B) (B 4) (z)))), (5, .int (nI (s_sl B (z)))), (6, .int (nI (z)))]) hx hb dL_all_106 rfl hl (by decide) rfl (fun ls hl => ?_)
          refine lv_aload_n hx hb dL_all_107 rfl (lv_at hl 2 rfl) ?_
          refine lv_iload hx hb dL_all_108 (lv_at hl 7 rfl) ?_
          refine z_SX (As := [.ref (ax 0), .int (nI (z))]) (rest := []) ⟨hx, hb, hml, hown, hts⟩ (zL_parent l hfl D cI cZ cA ax A n B (nI (z)) hB) (vx_cwSW 2 hts gL_all_L_parent rfl rfl rfl hdL_parent ⟨Nat.le_of_ble_eq_true rfl, Nat.le_of_ble_eq_true rfl⟩) hK hW hS hA hE hNC rfl hl.1 rfl (Nat.le_of_ble_eq_true rfl) dL_all_110 ⟨by show _ ≤ 5410; omega, by show _ ≤ 32460; omega⟩ (fun H locs hW hS => ?_)
          refine lv_istore (lv' := [(8, .int (rI (s_parent n B (nI z)).1 (nI ((s_parent n B (nI z)).2)))), (1, .int (nI (ct (fun m => decide (s_root n B m = m)) (z + 1)))), (7, .int (nI (s_root n B z))), (0, .ref (ax 0)), (2, .int (nI (sm (s_talk n B) (B 4) (z)))), (3, .int (nI (SS (cpf n B) (B 4) (z)))), (4, .int (nI (SS (asf n B) (B 4) (z)))), (5, .int (nI (s_sl B (z)))), (6, .int (nI (z)))]) hx hb dL_all_113 hl (by decide) rfl (fun ls hl => ?_)
          refine lv_iload hx hb dL_all_115 (lv_at hl 2 rfl) ?_
          refine lv_iload hx hb dL_all_117 (lv_at hl 8 rfl) ?_
          refine lv_icmp_eq (tgt := 140) hx hb dL_all_119 (by decide) (fun _ => ?_) (fun h => False.elim (h (congrArg nI heq)))
          refine W.widen (k := 540 * z + 470) (n := 3240 * z + 2820) (by omega) (by omega) ?_
          exact join_140 _ _ hW hS _ (show lv_has ls 11 [(0, .ref (ax 0)), (1, .int (nI (ct (fun m => decide (s_root n B m = m)) (z + 1)))), (2, .int (nI (sm (s_talk n B) (B 4) (z)))), (3, .int (nI (SS (cpf n B) (B 4) (z)))), (4, .int (nI (SS (asf n B) (B 4) (z)))), (5, .int (nI (s_sl B (z)))), (6, .int (nI (z)))] from by exact lv_sub hl [3, 1, 4, 5, 6, 7, 8] rfl)
  refine W.widen (k := 540 * 0) (n := 3240 * 0) (by omega) (by omega) ?_
  exact loop_15 (n + 1) 0 (by omega) (Nat.zero_le _) _ _ hW hS _ (show lv_has ls 11 [(0, .ref (ax 0)), (1, .int (nI (ct (fun m => decide (s_root n B m = m)) (0)))), (2, .int (nI (sm (s_talk n B) (B 4) (0)))), (3, .int (nI (SS (cpf n B) (B 4) (0)))), (4, .int (nI (SS (asf n B) (B 4) (0)))), (5, .int (nI (s_sl B (0)))), (6, .int (nI (0)))] from lv_sub hl [6, 5, 4, 3, 2, 1, 0] rfl)
