/-- what stays through the law -/
def LC (p : Program) (s : State) (m : MethodId) (c : Code) (b L : Nat) (xs : Nat → Int32) (D : va_G) (cI cZ cA : ClassId) : Prop := p.tables.exec = Jvm.exec ∧ c.code = cL_law ∧ c.maxLocals = 11 ∧ s.vm.findClass RL = some m.cls ∧ (∀ w ∈ wsL_law, w.before #[Value.ref b] s = true) ∧ va_X b L xs s s.heap ∧ b < s.heap.size ∧ L ≤ 260 ∧ va_K D vwCl (tyZ cI cZ cA) s ∧ EV (LA s) s s.heap ∧ NCs s
/-- a turn's end, with the state that came -/
def KK (p : Program) (l : Launch) (e : Env) (s : State) (m : MethodId) (below : List Frame) (meth : Method) (c : Code) (b : Nat) (D : va_G) (cI cZ cA : ClassId) (ax : Nat → Nat) (i cells slots : Nat) (Z : State → Prop) : Prop := ∀ (n : Nat) (B : Nat → Nat → Nat) (H : Heap) (locs : List Loc) (ls : Array Slot), Bok n B → BW n B → LWh D cI cZ cA ax (LA s) n B H → va_S (LA s) s.heap H locs → lv_has ls 11 [(0, .ref b), (1, .ref (ax 0)), (2, .int (nI i))] → W p l e room_1 s m #[Value.ref b] below meth c H locs (cells + 60) (slots + 360) Z (F0 m 339 ls [])
set_option maxHeartbeats 4000000 in
set_option maxRecDepth 100000 in
theorem law_C {p : Program} {l : Launch} {e : Env} {s : State} {m : MethodId} {below : List Frame} {meth : Method} {c : Code} {b L : Nat} {xs : Nat → Int32} {D : va_G} {cI cZ cA : ClassId} {Z9 : State → Prop} (hfl : l.stackTraces = false) (C0 : LC p s m c b L xs D cI cZ cA) {ax : Nat → Nat} {n i cells slots V u : Nat} {B : Nat → Nat → Nat} (hB : Bok n B) (hBW : BW n B) (hu : u < n) {H : Heap} {locs : List Loc} {ls : Array Slot} (hroom : cells + 60 ≤ room_1.cells ∧ slots + 360 ≤ room_1.slots) (hW : LWh D cI cZ cA ax (LA s) n B H) (hS : va_S (LA s) s.heap H locs) (hl : lv_has ls 11 [(0, .ref b), (1, .ref (ax 0)), (2, .int (nI i)), (3, .int (nI V)), (4, .int (nI u))]) (kk : KK p l e s m below meth c b D cI cZ cA ax i cells slots Z9) : W p l e room_1 s m #[Value.ref b] below meth c H locs cells slots Z9 (F0 m 305 ls []) := by
  obtain ⟨hx, hb, hml, hown, hts, hX, hbl, hL, hK, hE, hNC⟩ := id C0
  have hA : ∀ q : Nat, s.heap.size ≤ q → LA s q := fun _ h => h
  have hn10 := hB.1
  have h8 := hB.2.2.1
  have h99 := hB.2.1 6
  have h8u := h8 u
  obtain ⟨q1, q2, q3⟩ := rm_step hB hBW hu
  refine lv_aload_n hx hb dL_law_305 rfl (lv_at hl 1 rfl) ?_
  refine lv_iload hx hb dL_law_306 (lv_at hl 4 rfl) ?_
  refine z_SX (As := [.ref (ax 0), .int (nI u)]) (rest := []) ⟨hx, hb, hml, hown, hts⟩ (zL_lines l hfl D cI cZ cA ax (LA s) n B (nI u) hB) (vx_cwSW 2 hts gL_law_L_lines rfl rfl rfl hdL_lines ⟨Nat.le_of_ble_eq_true rfl, Nat.le_of_ble_eq_true rfl⟩) hK hW hS hA hE hNC rfl hl.1 rfl (Nat.le_of_ble_eq_true rfl) dL_law_308 ⟨by omega, by omega⟩ (fun H locs hW hS => ?_)
  refine n_top (y := nI (B 4 u)) (by rw [z_lines hB hu]; rfl) ?_
  obtain ⟨v9, ev9⟩ : ∃ v, v = (if B 4 u = 0 then xI 2 else nI (B 4 u - 1)) := ⟨_, rfl⟩
  refine lv_istore (lv' := [(5, .int (nI (B 4 u))), (0, .ref b), (1, .ref (ax 0)), (2, .int (nI i)), (3, .int (nI V)), (4, .int (nI u))]) hx hb dL_law_311 hl (by decide) rfl (fun ls hl => ?_)
  refine lv_aload_n hx hb dL_law_313 rfl (lv_at hl 2 rfl) ?_
  refine lv_iload hx hb dL_law_314 (lv_at hl 5 rfl) ?_
  refine z_SX (As := [.ref (ax 0), .int (nI u)]) (rest := []) ⟨hx, hb, hml, hown, hts⟩ (zL_removeLine l hfl D cI cZ cA ax (LA s) n B (nI u) hB) (vx_cwSW 2 hts gL_law_L_removeLine rfl rfl rfl hdL_removeLine ⟨Nat.le_of_ble_eq_true rfl, Nat.le_of_ble_eq_true rfl⟩) hK hW hS hA hE hNC rfl hl.1 rfl (Nat.le_of_ble_eq_true rfl) dL_law_316 ⟨by omega, by omega⟩ (fun H locs hW hS => ?_)
  refine n_top (y := v9) (by rw [ev9]; exact q3) ?_
  refine lv_iload hx hb dL_law_319 (lv_at hl 0 rfl) ?_
  refine lv_if_ne (tgt := 330) hx hb dL_law_321 (by decide) (fun h => ?_) (fun h => ?_)
  · have h0 : ¬ B 4 u = 0 := fun q => h (congrArg nI q)
    refine lv_iload hx hb dL_law_330 (lv_at hl 0 rfl) ?_
    refine lv_iconst (v := nI 1) hx hb dL_law_332 (by decide +kernel) ?_
    refine lv_isub hx hb dL_law_333 ?_
    refine n_top (y := nI (B 4 u - 1)) (by rw [show B 4 u = (B 4 u - 1) + 1 by omega, ← nI_add, Int32.add_sub_cancel, Nat.add_sub_cancel]) ?_
    refine lv_icmp_eq (tgt := 339) hx hb dL_law_334 (by decide) (fun _ => ?_) (fun h => False.elim (h (by rw [ev9, if_neg h0])))
    refine W.widen (k := cells + 60) (n := slots + 360) (by omega) (by omega) ?_
    exact kk _ _ _ _ _ q1 q2 hW hS (lv_sub hl [1, 2, 3] rfl)
  · have h0 : B 4 u = 0 := (nI_eq (by omega) (by decide)).mp h
    refine lv_sipush (v := xI 2) hx hb dL_law_324 (by decide +kernel) ?_
    refine lv_goto (tgt := 334) hx hb dL_law_327 (by decide) ?_
    refine lv_icmp_eq (tgt := 339) hx hb dL_law_334 (by decide) (fun _ => ?_) (fun h => False.elim (h (by rw [ev9, if_pos h0])))
    refine W.widen (k := cells + 60) (n := slots + 360) (by omega) (by omega) ?_
    exact kk _ _ _ _ _ q1 q2 hW hS (lv_sub hl [1, 2, 3] rfl)
set_option maxHeartbeats 4000000 in
set_option maxRecDepth 100000 in
theorem law_A {p : Program} {l : Launch} {e : Env} {s : State} {m : MethodId} {below : List Frame} {meth : Method} {c : Code} {b L : Nat} {xs : Nat → Int32} {D : va_G} {cI cZ cA : ClassId} {Z9 : State → Prop} (hfl : l.stackTraces = false) (C0 : LC p s m c b L xs D cI cZ cA) {ax : Nat → Nat} {n i cells slots V : Nat} {B : Nat → Nat → Nat} (hB : Bok n B) (hBW : BW n B) (hV : V < 2 ^ 31) {H : Heap} {locs : List Loc} {ls : Array Slot} (hroom : cells + 60 ≤ room_1.cells ∧ slots + 360 ≤ room_1.slots) (hW : LWh D cI cZ cA ax (LA s) n B H) (hS : va_S (LA s) s.heap H locs) (hl : lv_has ls 11 [(0, .ref b), (1, .ref (ax 0)), (2, .int (nI i)), (3, .int (nI V))]) (kk : KK p l e s m below meth c b D cI cZ cA ax i cells slots Z9) : W p l e room_1 s m #[Value.ref b] below meth c H locs cells slots Z9 (F0 m 61 ls []) := by
  obtain ⟨hx, hb, hml, hown, hts, hX, hbl, hL, hK, hE, hNC⟩ := id C0
  have hA : ∀ q : Nat, s.heap.size ≤ q → LA s q := fun _ h => h
  have hn10 := hB.1
  have h8 := hB.2.2.1
  have h99 := hB.2.1 6
  refine lv_iconst (v := nI 1) hx hb dL_law_61 (by decide +kernel) ?_
  refine lv_iload_n hx hb dL_law_62 rfl (lv_at hl 3 rfl) ?_
  refine lv_bipush (v := nI 8) hx hb dL_law_63 (by decide +kernel) ?_
  refine lv_idiv hx hb dL_law_65 (nI_ne0 (by omega) (by omega)) ?_
  refine n_top (y := nI (V / 8)) (pk_div (by omega) (by omega) (by omega)) ?_
  refine lv_bipush (v := nI 12) hx hb dL_law_66 (by decide +kernel) ?_
  refine lv_irem hx hb dL_law_68 (nI_ne0 (by omega) (by omega)) ?_
  refine n_top (y := nI (V / 8 % 12)) (pk_rem (by omega) (by omega) (by omega)) ?_
  refine lv_iadd hx hb dL_law_69 ?_
  refine n_top (nI_add (1) (V / 8 % 12)) ?_
  obtain ⟨d, ed⟩ : ∃ d, d = 1 + V / 8 % 12 := ⟨_, rfl⟩
  refine n_top (y := nI d) (by rw [ed]) ?_
  refine lv_istore (lv' := [(5, .int (nI d)), (0, .ref b), (1, .ref (ax 0)), (2, .int (nI i)), (3, .int (nI V))]) hx hb dL_law_70 hl (by decide) rfl (fun ls hl => ?_)
  refine lv_aload_n hx hb dL_law_72 rfl (lv_at hl 2 rfl) ?_
  refine lv_iload hx hb dL_law_73 (lv_at hl 0 rfl) ?_
  refine lv_iload_n hx hb dL_law_75 rfl (lv_at hl 4 rfl) ?_
  refine lv_sipush (v := nI 128) hx hb dL_law_76 (by decide +kernel) ?_
  refine lv_idiv hx hb dL_law_79 (nI_ne0 (by omega) (by omega)) ?_
  refine n_top (y := nI (V / 128)) (pk_div (by omega) (by omega) (by omega)) ?_
  refine lv_iconst (v := nI 2) hx hb dL_law_80 (by decide +kernel) ?_
  refine lv_irem hx hb dL_law_81 (nI_ne0 (by omega) (by omega)) ?_
  refine n_top (y := nI (V / 128 % 2)) (pk_rem (by omega) (by omega) (by omega)) ?_
  refine lv_iload_n hx hb dL_law_82 rfl (lv_at hl 4 rfl) ?_
  refine lv_sipush (v := nI 256) hx hb dL_law_83 (by decide +kernel) ?_
  refine lv_idiv hx hb dL_law_86 (nI_ne0 (by omega) (by omega)) ?_
  refine n_top (y := nI (V / 256)) (pk_div (by omega) (by omega) (by omega)) ?_
  refine lv_iconst (v := nI 2) hx hb dL_law_87 (by decide +kernel) ?_
  refine lv_irem hx hb dL_law_88 (nI_ne0 (by omega) (by omega)) ?_
  refine n_top (y := nI (V / 256 % 2)) (pk_rem (by omega) (by omega) (by omega)) ?_
  refine lv_iload_n hx hb dL_law_89 rfl (lv_at hl 4 rfl) ?_
  refine lv_sipush (v := nI 512) hx hb dL_law_90 (by decide +kernel) ?_
  refine lv_idiv hx hb dL_law_93 (nI_ne0 (by omega) (by omega)) ?_
  refine n_top (y := nI (V / 512)) (pk_div (by omega) (by omega) (by omega)) ?_
  refine lv_iconst (v := nI 3) hx hb dL_law_94 (by decide +kernel) ?_
  refine lv_irem hx hb dL_law_95 (nI_ne0 (by omega) (by omega)) ?_
  refine n_top (y := nI (V / 512 % 3)) (pk_rem (by omega) (by omega) (by omega)) ?_
  have join_111 : ∀ (r : Nat), r < d → W p l e room_1 s m #[Value.ref b] below meth c H locs (cells) (slots) Z9 (F0 m 111 ls [.int (nI r), .int (nI (V / 256 % 2)), .int (nI (V / 128 % 2)), .int (nI d), .ref (ax 0)]) := by
    intro r hr
    obtain ⟨Q9, _, _, _, _, _, hQ9, -⟩ := id hW
    have hst := ar_step (d := d) (a := V / 128 % 2) (t := V / 256 % 2) (r := r) hB hBW hQ9 (by omega) (by omega) (by omega) (by omega) hr
    refine z_SX (As := [.ref (ax 0), .int (nI d), .int (nI (V / 128 % 2)), .int (nI (V / 256 % 2)), .int (nI r)]) (rest := []) ⟨hx, hb, hml, hown, hts⟩ (zL_arrive l hfl D cI cZ cA ax (LA s) n B (nI d) (nI (V / 128 % 2)) (nI (V / 256 % 2)) (nI r) hB) (vx_cwSW 5 hts gL_law_L_arrive rfl rfl rfl hdL_arrive ⟨Nat.le_of_ble_eq_true rfl, Nat.le_of_ble_eq_true rfl⟩) hK hW hS hA hE hNC rfl hl.1 rfl (Nat.le_of_ble_eq_true rfl) dL_law_111 ⟨by omega, by omega⟩ (fun H locs hW hS => ?_)
    rcases hst with ⟨c9, e1, e2, e3⟩ | ⟨e1, e2, e3, hB1, hW1, hn1⟩
    · refine n_top (y := xI c9) (e1) ?_
      rw [e2, e3] at hW
      refine lv_istore (lv' := [(6, .int (xI c9)), (5, .int (nI d)), (0, .ref b), (1, .ref (ax 0)), (2, .int (nI i)), (3, .int (nI V))]) hx hb dL_law_114 hl (by decide) rfl (fun ls hl => ?_)
      refine lv_iload hx hb dL_law_116 (lv_at hl 0 rfl) ?_
      refine lv_if_lt (tgt := 143) hx hb dL_law_118 (by decide) (fun _ => ?_) (fun h => False.elim (h (xI_neg _)))
      refine lv_goto (tgt := 339) hx hb dL_law_143 (by decide) ?_
      refine W.widen (k := cells + 60) (n := slots + 360) (by omega) (by omega) ?_
      exact kk _ _ _ _ _ hB hBW hW hS (lv_sub hl [2, 3, 4] rfl)
    · rw [e2] at hW
      refine n_top (y := nI n) (e1) ?_
      refine lv_istore (lv' := [(6, .int (nI n)), (5, .int (nI d)), (0, .ref b), (1, .ref (ax 0)), (2, .int (nI i)), (3, .int (nI V))]) hx hb dL_law_114 hl (by decide) rfl (fun ls hl => ?_)
      refine lv_iload hx hb dL_law_116 (lv_at hl 0 rfl) ?_
      refine lv_if_lt (tgt := 143) hx hb dL_law_118 (by decide) (fun h => False.elim (nI_pos (by omega) h)) (fun _ => ?_)
      refine lv_iload hx hb dL_law_121 (lv_at hl 0 rfl) ?_
      refine lv_aload_n hx hb dL_law_123 rfl (lv_at hl 3 rfl) ?_
      refine z_Vr (cq := (RX1, TX1, 12)) (As := []) (rest := [.int (nI n)]) (v := nI (n + 1)) ⟨hx, hb, hml, hown, hts⟩ (fun Q cn rt wd qf T hQ => kX1_mails l D cI cZ cA ax (n + 1) (s_arB n B (nI d) (nI (V / 128 % 2)) (nI (V / 256 % 2)) (nI r)) Q cn rt wd qf T) (cwV 0 hts gL_law_X1_mails rfl rfl rfl hdX1_mails ⟨Nat.le_of_ble_eq_true rfl, Nat.le_of_ble_eq_true rfl⟩) hK hW rfl rfl hl.1 rfl (Nat.le_of_ble_eq_true rfl) dL_law_124 ⟨by omega, by omega⟩ ?_
      refine lv_iconst (v := nI 1) hx hb dL_law_127 (by decide +kernel) ?_
      refine lv_isub hx hb dL_law_128 ?_
      refine n_top (y := nI n) (nI_pred n) ?_
      refine lv_icmp_ne (tgt := 141) hx hb dL_law_129 (by decide) (fun h => False.elim (h rfl)) (fun _ => ?_)
      refine lv_aload_n hx hb dL_law_132 rfl (lv_at hl 3 rfl) ?_
      refine lv_iload hx hb dL_law_133 (lv_at hl 0 rfl) ?_
      refine z_SX (As := [.ref (ax 0), .int (nI n)]) (rest := []) ⟨hx, hb, hml, hown, hts⟩ (zL_lines l hfl D cI cZ cA ax (LA s) (n + 1) (s_arB n B (nI d) (nI (V / 128 % 2)) (nI (V / 256 % 2)) (nI r)) (nI n) hB1) (vx_cwSW 2 hts gL_law_L_lines rfl rfl rfl hdL_lines ⟨Nat.le_of_ble_eq_true rfl, Nat.le_of_ble_eq_true rfl⟩) hK hW hS hA hE hNC rfl hl.1 rfl (Nat.le_of_ble_eq_true rfl) dL_law_135 ⟨by omega, by omega⟩ (fun H locs hW hS => ?_)
      refine n_top (y := nI 0) (by rw [z_lines hB1 (Nat.lt_succ_self n), e3]; rfl) ?_
      refine lv_if_eq (tgt := 143) hx hb dL_law_138 (by decide) (fun _ => ?_) (fun h => False.elim (h (by decide +kernel)))
      refine lv_goto (tgt := 339) hx hb dL_law_143 (by decide) ?_
      refine W.widen (k := cells + 60) (n := slots + 360) (by omega) (by omega) ?_
      exact kk _ _ _ _ _ hB1 hW1 hW hS (lv_sub hl [2, 3, 4] rfl)
  refine lv_if_ne (tgt := 103) hx hb dL_law_96 (by decide) (fun h => ?_) (fun h => ?_)
  · refine lv_iload_n hx hb dL_law_103 rfl (lv_at hl 4 rfl) ?_
    refine lv_sipush (v := nI 2048) hx hb dL_law_104 (by decide +kernel) ?_
    refine lv_idiv hx hb dL_law_107 (nI_ne0 (by omega) (by omega)) ?_
    refine n_top (y := nI (V / 2048)) (pk_div (by omega) (by omega) (by omega)) ?_
    refine lv_iload hx hb dL_law_108 (lv_at hl 0 rfl) ?_
    refine lv_irem hx hb dL_law_110 (nI_ne0 (by omega) (by omega)) ?_
    refine n_top (y := nI (V / 2048 % d)) (pk_rem (by omega) (by omega) (by omega)) ?_
    exact join_111 _ (Nat.mod_lt _ (by omega))
  · refine lv_iconst (v := nI 0) hx hb dL_law_99 (by decide +kernel) ?_
    refine lv_goto (tgt := 111) hx hb dL_law_100 (by decide) ?_
    exact join_111 0 (by omega)
set_option maxHeartbeats 4000000 in
set_option maxRecDepth 100000 in
theorem law_B {p : Program} {l : Launch} {e : Env} {s : State} {m : MethodId} {below : List Frame} {meth : Method} {c : Code} {b L : Nat} {xs : Nat → Int32} {D : va_G} {cI cZ cA : ClassId} {Z9 : State → Prop} (hfl : l.stackTraces = false) (C0 : LC p s m c b L xs D cI cZ cA) {ax : Nat → Nat} {n i cells slots V u : Nat} {B : Nat → Nat → Nat} (hB : Bok n B) (hBW : BW n B) (hu : u < n) (hV : V < 2 ^ 31) {H : Heap} {locs : List Loc} {ls : Array Slot} (hroom : cells + 60 ≤ room_1.cells ∧ slots + 360 ≤ room_1.slots) (hW : LWh D cI cZ cA ax (LA s) n B H) (hS : va_S (LA s) s.heap H locs) (hl : lv_has ls 11 [(0, .ref b), (1, .ref (ax 0)), (2, .int (nI i)), (3, .int (nI V)), (4, .int (nI u))]) (kk : KK p l e s m below meth c b D cI cZ cA ax i cells slots Z9) : W p l e room_1 s m #[Value.ref b] below meth c H locs cells slots Z9 (F0 m 155 ls []) := by
  obtain ⟨hx, hb, hml, hown, hts, hX, hbl, hL, hK, hE, hNC⟩ := id C0
  have hA : ∀ q : Nat, s.heap.size ≤ q → LA s q := fun _ h => h
  have hn10 := hB.1
  have h8 := hB.2.2.1
  have h99 := hB.2.1 6
  have h8u := h8 u
  have loop_183 : ∀ (pv : Int32) (Nn M j : Nat), Nn ≤ 8 → 3 - j < M → j ≤ 3 → ∀ (B : Nat → Nat → Nat), Bok n B → BW n B → (0 < Nn → ∃ q, pv = nI q ∧ q < n ∧ q ≠ u ∧ B 4 q = Nn) → ∀ (H : Heap) (locs : List Loc), LWh D cI cZ cA ax (LA s) n B H → va_S (LA s) s.heap H locs → ∀ (ls : Array Slot), lv_has ls 11 [(0, .ref b), (1, .ref (ax 0)), (2, .int (nI i)), (3, .int (nI V)), (4, .int (nI u)), (5, .int (pv)), (6, .int (nI Nn)), (7, .int (nI (j)))] → W p l e room_1 s m #[Value.ref b] below meth c H locs (cells + 3 + 5 * j) (slots + 18 + 30 * j) Z9 (F0 m 183 ls []) := by
    intro pv Nn M
    induction M with
    | zero => intro j _ h; exact absurd h (Nat.not_lt_zero _)
    | succ M ih =>
      intro j hNn hM hj B hB hBW hp H locs hW hS ls hl
      have h8 := hB.2.2.1
      have h99 := hB.2.1 6
      have h8u := h8 u
      refine lv_iload hx hb dL_law_183 (lv_at hl 7 rfl) ?_
      refine lv_iconst (v := nI 3) hx hb dL_law_185 (by decide +kernel) ?_
      refine lv_icmp_ge (tgt := 302) hx hb dL_law_186 (by decide) (fun h => ?_) (fun h => ?_)
      · refine lv_goto (tgt := 339) hx hb dL_law_302 (by decide) ?_
        refine W.widen (k := cells + 60) (n := slots + 360) (by omega) (by omega) ?_
        exact kk _ _ _ _ _ hB hBW hW hS (lv_sub hl [0, 1, 2] rfl)
      · have hj3 : j < 3 := Nat.lt_of_not_le (fun q => h ((nI_leI (by omega) (by omega)).mpr q))
        obtain ⟨Wd, hWd, eWd⟩ := ushr_ok (nI V) (nI 6 * nI j + nI 3) (by rcases (show j = 0 ∨ j = 1 ∨ j = 2 by omega) with rfl | rfl | rfl <;> decide +kernel)
        refine lv_iload_n hx hb dL_law_189 rfl (lv_at hl 3 rfl) ?_
        refine lv_bipush (v := nI 6) hx hb dL_law_190 (by decide +kernel) ?_
        refine lv_iload hx hb dL_law_192 (lv_at hl 7 rfl) ?_
        refine lv_imul hx hb dL_law_194 ?_
        refine lv_iconst (v := nI 3) hx hb dL_law_195 (by decide +kernel) ?_
        refine lv_iadd hx hb dL_law_196 ?_
        refine lv_iushr (v := nI Wd) hx hb dL_law_197 eWd ?_
        refine lv_istore (lv' := [(8, .int (nI Wd)), (0, .ref b), (1, .ref (ax 0)), (2, .int (nI i)), (3, .int (nI V)), (4, .int (nI u)), (5, .int (pv)), (6, .int (nI Nn)), (7, .int (nI (j)))]) hx hb dL_law_198 hl (by decide) rfl (fun ls hl => ?_)
        refine lv_aload_n hx hb dL_law_200 rfl (lv_at hl 2 rfl) ?_
        refine lv_iload hx hb dL_law_201 (lv_at hl 5 rfl) ?_
        refine z_SX (As := [.ref (ax 0), .int (nI u)]) (rest := []) ⟨hx, hb, hml, hown, hts⟩ (zL_lines l hfl D cI cZ cA ax (LA s) n B (nI u) hB) (vx_cwSW 2 hts gL_law_L_lines rfl rfl rfl hdL_lines ⟨Nat.le_of_ble_eq_true rfl, Nat.le_of_ble_eq_true rfl⟩) hK hW hS hA hE hNC rfl hl.1 rfl (Nat.le_of_ble_eq_true rfl) dL_law_203 ⟨by omega, by omega⟩ (fun H locs hW hS => ?_)
        refine n_top (y := nI (B 4 u)) (by rw [z_lines hB hu]; rfl) ?_
        refine lv_istore (lv' := [(9, .int (nI (B 4 u))), (8, .int (nI Wd)), (0, .ref b), (1, .ref (ax 0)), (2, .int (nI i)), (3, .int (nI V)), (4, .int (nI u)), (5, .int (pv)), (6, .int (nI Nn)), (7, .int (nI (j)))]) hx hb dL_law_206 hl (by decide) rfl (fun ls hl => ?_)
        have join_270 : ∀ (a9 w9 : Nat), a9 ≤ 3 → 1 ≤ w9 → w9 ≤ 99 → ∀ (H : Heap) (locs : List Loc), LWh D cI cZ cA ax (LA s) n (s_adB n B (nI u) (nI a9) (nI w9)) H → va_S (LA s) s.heap H locs → W p l e room_1 s m #[Value.ref b] below meth c H locs (cells + 3 + 5 * j + 5) (slots + 18 + 30 * j + 30) Z9 (F0 m 270 ls [.int (rI (s_adc n B (nI u) (nI a9) (nI w9)) (nI (s_adv n B (nI u) (nI a9) (nI w9))))]) := by
          intro a9 w9 ha9 hw1 hw2 H locs hW hS
          obtain ⟨q1, q2, q3, q4⟩ := ad_step hB hBW hu ha9 hw1 hw2
          obtain ⟨v9, ev9⟩ : ∃ v, v = (if B 4 u = 8 then xI 3 else nI (B 4 u + 1)) := ⟨_, rfl⟩
          refine n_top (y := v9) (by rw [ev9]; exact q4) ?_
          refine lv_istore (lv' := [(10, .int (v9)), (9, .int (nI (B 4 u))), (8, .int (nI Wd)), (0, .ref b), (1, .ref (ax 0)), (2, .int (nI i)), (3, .int (nI V)), (4, .int (nI u)), (5, .int (pv)), (6, .int (nI Nn)), (7, .int (nI (j)))]) hx hb dL_law_270 hl (by decide) rfl (fun ls hl => ?_)
          refine lv_iload hx hb dL_law_272 (lv_at hl 0 rfl) ?_
          refine lv_iload hx hb dL_law_274 (lv_at hl 1 rfl) ?_
          refine lv_bipush (v := nI 8) hx hb dL_law_276 (by decide +kernel) ?_
          refine lv_icmp_ne (tgt := 287) hx hb dL_law_278 (by decide) (fun h => ?_) (fun h => ?_)
          · have h9 : ¬ B 4 u = 8 := fun q => h (congrArg nI q)
            refine lv_iload hx hb dL_law_287 (lv_at hl 1 rfl) ?_
            refine lv_iconst (v := nI 1) hx hb dL_law_289 (by decide +kernel) ?_
            refine lv_iadd hx hb dL_law_290 ?_
            refine n_top (nI_add (B 4 u) (1)) ?_
            refine lv_icmp_eq (tgt := 296) hx hb dL_law_291 (by decide) (fun _ => ?_) (fun h => False.elim (h (by rw [ev9, if_neg h9])))
            refine lv_iinc (v := nI (j + 1)) (lv' := [(7, .int (nI (j + 1))), (10, .int (v9)), (9, .int (nI (B 4 u))), (8, .int (nI Wd)), (0, .ref b), (1, .ref (ax 0)), (2, .int (nI i)), (3, .int (nI V)), (4, .int (nI u)), (5, .int (pv)), (6, .int (nI Nn))]) hx hb dL_law_296 hl (k := 10) rfl (nI_1 _) (by decide) rfl (fun ls hl => ?_)
            refine lv_goto (tgt := 183) hx hb dL_law_299 (by decide) ?_
            refine W.widen (k := cells + 3 + 5 * (j + 1)) (n := slots + 18 + 30 * (j + 1)) (by omega) (by omega) ?_
            exact ih (j + 1) hNn (by omega) (by omega) _ q1 q2 (fun h0 => by obtain ⟨q, g1, g2, g3, g4⟩ := hp h0; exact ⟨q, g1, g2, g3, (q3 q g3).trans g4⟩) _ _ hW hS _ (lv_sub hl [4, 5, 6, 7, 8, 9, 10, 0] rfl)
          · have h9 : B 4 u = 8 := (nI_eq (by omega) (by decide)).mp h
            refine lv_sipush (v := xI 3) hx hb dL_law_281 (by decide +kernel) ?_
            refine lv_goto (tgt := 291) hx hb dL_law_284 (by decide) ?_
            refine lv_icmp_eq (tgt := 296) hx hb dL_law_291 (by decide) (fun _ => ?_) (fun h => False.elim (h (by rw [ev9, if_pos h9])))
            refine lv_iinc (v := nI (j + 1)) (lv' := [(7, .int (nI (j + 1))), (10, .int (v9)), (9, .int (nI (B 4 u))), (8, .int (nI Wd)), (0, .ref b), (1, .ref (ax 0)), (2, .int (nI i)), (3, .int (nI V)), (4, .int (nI u)), (5, .int (pv)), (6, .int (nI Nn))]) hx hb dL_law_296 hl (k := 10) rfl (nI_1 _) (by decide) rfl (fun ls hl => ?_)
            refine lv_goto (tgt := 183) hx hb dL_law_299 (by decide) ?_
            refine W.widen (k := cells + 3 + 5 * (j + 1)) (n := slots + 18 + 30 * (j + 1)) (by omega) (by omega) ?_
            exact ih (j + 1) hNn (by omega) (by omega) _ q1 q2 (fun h0 => by obtain ⟨q, g1, g2, g3, g4⟩ := hp h0; exact ⟨q, g1, g2, g3, (q3 q g3).trans g4⟩) _ _ hW hS _ (lv_sub hl [4, 5, 6, 7, 8, 9, 10, 0] rfl)
        have join_243 : ∀ (H : Heap) (locs : List Loc), LWh D cI cZ cA ax (LA s) n B H → va_S (LA s) s.heap H locs → W p l e room_1 s m #[Value.ref b] below meth c H locs (cells + 3 + 5 * j + 1) (slots + 18 + 30 * j + 6) Z9 (F0 m 243 ls []) := by
          intro H locs hW hS
          refine lv_aload_n hx hb dL_law_243 rfl (lv_at hl 3 rfl) ?_
          refine lv_iload hx hb dL_law_244 (lv_at hl 6 rfl) ?_
          refine lv_iload hx hb dL_law_246 (lv_at hl 1 rfl) ?_
          refine lv_iconst (v := nI 5) hx hb dL_law_248 (by decide +kernel) ?_
          refine lv_irem hx hb dL_law_249 (nI_ne0 (by omega) (by omega)) ?_
          refine n_top (y := nI (Wd % 5)) (pk_rem (by omega) (by omega) (by omega)) ?_
          refine lv_iconst (v := nI 3) hx hb dL_law_250 (by decide +kernel) ?_
          refine lv_icmp_ge (tgt := 258) hx hb dL_law_251 (by decide) (fun h => ?_) (fun h => ?_)
          · refine lv_iconst (v := nI 1) hx hb dL_law_258 (by decide +kernel) ?_
            refine lv_iconst (v := nI 1) hx hb dL_law_259 (by decide +kernel) ?_
            refine lv_iload hx hb dL_law_260 (lv_at hl 1 rfl) ?_
            refine lv_iconst (v := nI 4) hx hb dL_law_262 (by decide +kernel) ?_
            refine lv_idiv hx hb dL_law_263 (nI_ne0 (by omega) (by omega)) ?_
            refine n_top (y := nI (Wd / 4)) (pk_div (by omega) (by omega) (by omega)) ?_
            refine lv_iconst (v := nI 4) hx hb dL_law_264 (by decide +kernel) ?_
            refine lv_irem hx hb dL_law_265 (nI_ne0 (by omega) (by omega)) ?_
            refine n_top (y := nI (Wd / 4 % 4)) (pk_rem (by omega) (by omega) (by omega)) ?_
            refine lv_iadd hx hb dL_law_266 ?_
            refine n_top (nI_add (1) (Wd / 4 % 4)) ?_
            refine z_SX (As := [.ref (ax 0), .int (nI u), .int (nI 1), .int (nI (1 + Wd / 4 % 4))]) (rest := []) ⟨hx, hb, hml, hown, hts⟩ (zL_addLine l hfl D cI cZ cA ax (LA s) n B (nI u) (nI 1) (nI (1 + Wd / 4 % 4)) hB) (vx_cwSW 4 hts gL_law_L_addLine rfl rfl rfl hdL_addLine ⟨Nat.le_of_ble_eq_true rfl, Nat.le_of_ble_eq_true rfl⟩) hK hW hS hA hE hNC rfl hl.1 rfl (Nat.le_of_ble_eq_true rfl) dL_law_267 ⟨by omega, by omega⟩ (fun H locs hW hS => ?_)
            refine W.widen (k := cells + 3 + 5 * j + 5) (n := slots + 18 + 30 * j + 30) (by omega) (by omega) ?_
            exact join_270 1 (1 + Wd / 4 % 4) (by decide) (by omega) (by omega) _ _ hW hS
          · refine lv_iconst (v := nI 0) hx hb dL_law_254 (by decide +kernel) ?_
            refine lv_goto (tgt := 259) hx hb dL_law_255 (by decide) ?_
            refine lv_iconst (v := nI 1) hx hb dL_law_259 (by decide +kernel) ?_
            refine lv_iload hx hb dL_law_260 (lv_at hl 1 rfl) ?_
            refine lv_iconst (v := nI 4) hx hb dL_law_262 (by decide +kernel) ?_
            refine lv_idiv hx hb dL_law_263 (nI_ne0 (by omega) (by omega)) ?_
            refine n_top (y := nI (Wd / 4)) (pk_div (by omega) (by omega) (by omega)) ?_
            refine lv_iconst (v := nI 4) hx hb dL_law_264 (by decide +kernel) ?_
            refine lv_irem hx hb dL_law_265 (nI_ne0 (by omega) (by omega)) ?_
            refine n_top (y := nI (Wd / 4 % 4)) (pk_rem (by omega) (by omega) (by omega)) ?_
            refine lv_iadd hx hb dL_law_266 ?_
            refine n_top (nI_add (1) (Wd / 4 % 4)) ?_
            refine z_SX (As := [.ref (ax 0), .int (nI u), .int (nI 0), .int (nI (1 + Wd / 4 % 4))]) (rest := []) ⟨hx, hb, hml, hown, hts⟩ (zL_addLine l hfl D cI cZ cA ax (LA s) n B (nI u) (nI 0) (nI (1 + Wd / 4 % 4)) hB) (vx_cwSW 4 hts gL_law_L_addLine rfl rfl rfl hdL_addLine ⟨Nat.le_of_ble_eq_true rfl, Nat.le_of_ble_eq_true rfl⟩) hK hW hS hA hE hNC rfl hl.1 rfl (Nat.le_of_ble_eq_true rfl) dL_law_267 ⟨by omega, by omega⟩ (fun H locs hW hS => ?_)
            refine W.widen (k := cells + 3 + 5 * j + 5) (n := slots + 18 + 30 * j + 30) (by omega) (by omega) ?_
            exact join_270 0 (1 + Wd / 4 % 4) (by decide) (by omega) (by omega) _ _ hW hS
        refine lv_iload hx hb dL_law_208 (lv_at hl 8 rfl) ?_
        refine lv_if_le (tgt := 243) hx hb dL_law_210 (by decide) (fun h => ?_) (fun h => ?_)
        · exact join_243 _ _ hW hS
        · have hN0 : 0 < Nn := Nat.pos_of_ne_zero (fun q => h (by rw [q]; decide +kernel))
          obtain ⟨q, hpv, hqn, hqu, hq4⟩ := hp hN0
          subst hpv
          refine lv_iload hx hb dL_law_213 (lv_at hl 1 rfl) ?_
          refine lv_iconst (v := nI 3) hx hb dL_law_215 (by decide +kernel) ?_
          refine lv_irem hx hb dL_law_216 (nI_ne0 (by omega) (by omega)) ?_
          refine n_top (y := nI (Wd % 3)) (pk_rem (by omega) (by omega) (by omega)) ?_
          refine lv_if_le (tgt := 243) hx hb dL_law_217 (by decide) (fun h => ?_) (fun h => ?_)
          · exact join_243 _ _ hW hS
          · have hlt : Wd / 4 % Nn < B 4 q := by rw [hq4]; exact Nat.mod_lt _ hN0
            have hwd1 := hBW q (Wd / 4 % Nn) hqn hlt
            have hwd2 := h99 (8 * q + Wd / 4 % Nn)
            refine lv_aload_n hx hb dL_law_220 rfl (lv_at hl 3 rfl) ?_
            refine lv_iload hx hb dL_law_221 (lv_at hl 6 rfl) ?_
            refine lv_iconst (v := nI 1) hx hb dL_law_223 (by decide +kernel) ?_
            refine lv_aload_n hx hb dL_law_224 rfl (lv_at hl 3 rfl) ?_
            refine lv_iload hx hb dL_law_225 (lv_at hl 7 rfl) ?_
            refine lv_iload hx hb dL_law_227 (lv_at hl 1 rfl) ?_
            refine lv_iconst (v := nI 4) hx hb dL_law_229 (by decide +kernel) ?_
            refine lv_idiv hx hb dL_law_230 (nI_ne0 (by omega) (by omega)) ?_
            refine n_top (y := nI (Wd / 4)) (pk_div (by omega) (by omega) (by omega)) ?_
            refine lv_iload hx hb dL_law_231 (lv_at hl 8 rfl) ?_
            refine lv_irem hx hb dL_law_233 (nI_ne0 (by omega) (by omega)) ?_
            refine n_top (y := nI (Wd / 4 % Nn)) (pk_rem (by omega) (by omega) (by omega)) ?_
            refine z_SX (As := [.ref (ax 0), .int (nI q), .int (nI (Wd / 4 % Nn))]) (rest := [.int (nI 1), .int (nI u), .ref (ax 0)]) ⟨hx, hb, hml, hown, hts⟩ (zL_word l hfl D cI cZ cA ax (LA s) n B (nI q) (nI (Wd / 4 % Nn)) hB) (vx_cwSW 3 hts gL_law_L_word rfl rfl rfl hdL_word ⟨Nat.le_of_ble_eq_true rfl, Nat.le_of_ble_eq_true rfl⟩) hK hW hS hA hE hNC rfl hl.1 rfl (Nat.le_of_ble_eq_true rfl) dL_law_234 ⟨by omega, by omega⟩ (fun H locs hW hS => ?_)
            refine n_top (y := nI (B 6 (8 * q + Wd / 4 % Nn))) (by rw [z_word hB hqn hlt]; rfl) ?_
            refine z_SX (As := [.ref (ax 0), .int (nI u), .int (nI 1), .int (nI (B 6 (8 * q + Wd / 4 % Nn)))]) (rest := []) ⟨hx, hb, hml, hown, hts⟩ (zL_addLine l hfl D cI cZ cA ax (LA s) n B (nI u) (nI 1) (nI (B 6 (8 * q + Wd / 4 % Nn))) hB) (vx_cwSW 4 hts gL_law_L_addLine rfl rfl rfl hdL_addLine ⟨Nat.le_of_ble_eq_true rfl, Nat.le_of_ble_eq_true rfl⟩) hK hW hS hA hE hNC rfl hl.1 rfl (Nat.le_of_ble_eq_true rfl) dL_law_237 ⟨by omega, by omega⟩ (fun H locs hW hS => ?_)
            refine lv_goto (tgt := 270) hx hb dL_law_240 (by decide) ?_
            refine W.widen (k := cells + 3 + 5 * j + 5) (n := slots + 18 + 30 * j + 30) (by omega) (by omega) ?_
            exact join_270 1 (B 6 (8 * q + Wd / 4 % Nn)) (by decide) hwd1 hwd2 _ _ hW hS
  rcases hpa : s_par n B u with _ | q
  · refine lv_aload_n hx hb dL_law_155 rfl (lv_at hl 1 rfl) ?_
    refine lv_iload hx hb dL_law_156 (lv_at hl 4 rfl) ?_
    refine z_SX (As := [.ref (ax 0), .int (nI u)]) (rest := []) ⟨hx, hb, hml, hown, hts⟩ (zL_parent l hfl D cI cZ cA ax (LA s) n B (nI u) hB) (vx_cwSW 2 hts gL_law_L_parent rfl rfl rfl hdL_parent ⟨Nat.le_of_ble_eq_true rfl, Nat.le_of_ble_eq_true rfl⟩) hK hW hS hA hE hNC rfl hl.1 rfl (Nat.le_of_ble_eq_true rfl) dL_law_158 ⟨by omega, by omega⟩ (fun H locs hW hS => ?_)
    refine n_top (y := xI 2) (by rw [z_parent hB hu, hpa]; rfl) ?_
    refine lv_istore (lv' := [(5, .int (xI 2)), (0, .ref b), (1, .ref (ax 0)), (2, .int (nI i)), (3, .int (nI V)), (4, .int (nI u))]) hx hb dL_law_161 hl (by decide) rfl (fun ls hl => ?_)
    refine lv_iload hx hb dL_law_163 (lv_at hl 0 rfl) ?_
    refine lv_if_lt (tgt := 177) hx hb dL_law_165 (by decide) (fun _ => ?_) (fun h => False.elim (h (xI_neg _)))
    refine lv_iconst (v := nI 0) hx hb dL_law_177 (by decide +kernel) ?_
    refine lv_istore (lv' := [(6, .int (nI 0)), (5, .int (xI 2)), (0, .ref b), (1, .ref (ax 0)), (2, .int (nI i)), (3, .int (nI V)), (4, .int (nI u))]) hx hb dL_law_178 hl (by decide) rfl (fun ls hl => ?_)
    refine lv_iconst (v := nI 0) hx hb dL_law_180 (by decide +kernel) ?_
    refine lv_istore (lv' := [(7, .int (nI 0)), (6, .int (nI 0)), (5, .int (xI 2)), (0, .ref b), (1, .ref (ax 0)), (2, .int (nI i)), (3, .int (nI V)), (4, .int (nI u))]) hx hb dL_law_181 hl (by decide) rfl (fun ls hl => ?_)
    refine W.widen (k := cells + 3 + 5 * 0) (n := slots + 18 + 30 * 0) (by omega) (by omega) ?_
    exact loop_183 (xI 2) (0) 4 0 (Nat.zero_le _) (by decide) (by decide) B hB hBW (fun h => absurd h (Nat.lt_irrefl 0)) _ _ hW hS _ (lv_sub hl [3, 4, 5, 6, 7, 2, 1, 0] rfl)
  · obtain ⟨hqn, hqd⟩ := s_par_lt hpa
    have hdd := hB.2.2.2.1 u hu
    have hqu : q ≠ u := fun z => by rw [z] at hqd; omega
    have h8q := h8 q
    refine lv_aload_n hx hb dL_law_155 rfl (lv_at hl 1 rfl) ?_
    refine lv_iload hx hb dL_law_156 (lv_at hl 4 rfl) ?_
    refine z_SX (As := [.ref (ax 0), .int (nI u)]) (rest := []) ⟨hx, hb, hml, hown, hts⟩ (zL_parent l hfl D cI cZ cA ax (LA s) n B (nI u) hB) (vx_cwSW 2 hts gL_law_L_parent rfl rfl rfl hdL_parent ⟨Nat.le_of_ble_eq_true rfl, Nat.le_of_ble_eq_true rfl⟩) hK hW hS hA hE hNC rfl hl.1 rfl (Nat.le_of_ble_eq_true rfl) dL_law_158 ⟨by omega, by omega⟩ (fun H locs hW hS => ?_)
    refine n_top (y := nI q) (by rw [z_parent hB hu, hpa]; rfl) ?_
    refine lv_istore (lv' := [(5, .int (nI q)), (0, .ref b), (1, .ref (ax 0)), (2, .int (nI i)), (3, .int (nI V)), (4, .int (nI u))]) hx hb dL_law_161 hl (by decide) rfl (fun ls hl => ?_)
    refine lv_iload hx hb dL_law_163 (lv_at hl 0 rfl) ?_
    refine lv_if_lt (tgt := 177) hx hb dL_law_165 (by decide) (fun h => False.elim (nI_pos (by omega) h)) (fun _ => ?_)
    refine lv_aload_n hx hb dL_law_168 rfl (lv_at hl 2 rfl) ?_
    refine lv_iload hx hb dL_law_169 (lv_at hl 0 rfl) ?_
    refine z_SX (As := [.ref (ax 0), .int (nI q)]) (rest := []) ⟨hx, hb, hml, hown, hts⟩ (zL_lines l hfl D cI cZ cA ax (LA s) n B (nI q) hB) (vx_cwSW 2 hts gL_law_L_lines rfl rfl rfl hdL_lines ⟨Nat.le_of_ble_eq_true rfl, Nat.le_of_ble_eq_true rfl⟩) hK hW hS hA hE hNC rfl hl.1 rfl (Nat.le_of_ble_eq_true rfl) dL_law_171 ⟨by omega, by omega⟩ (fun H locs hW hS => ?_)
    refine n_top (y := nI (B 4 q)) (by rw [z_lines hB hqn]; rfl) ?_
    refine lv_goto (tgt := 178) hx hb dL_law_174 (by decide) ?_
    refine lv_istore (lv' := [(6, .int (nI (B 4 q))), (5, .int (nI q)), (0, .ref b), (1, .ref (ax 0)), (2, .int (nI i)), (3, .int (nI V)), (4, .int (nI u))]) hx hb dL_law_178 hl (by decide) rfl (fun ls hl => ?_)
    refine lv_iconst (v := nI 0) hx hb dL_law_180 (by decide +kernel) ?_
    refine lv_istore (lv' := [(7, .int (nI 0)), (6, .int (nI (B 4 q))), (5, .int (nI q)), (0, .ref b), (1, .ref (ax 0)), (2, .int (nI i)), (3, .int (nI V)), (4, .int (nI u))]) hx hb dL_law_181 hl (by decide) rfl (fun ls hl => ?_)
    refine W.widen (k := cells + 3 + 5 * 0) (n := slots + 18 + 30 * 0) (by omega) (by omega) ?_
    exact loop_183 (nI q) (B 4 q) 4 0 h8q (by decide) (by decide) B hB hBW (fun _ => ⟨q, rfl, hqn, hqu, rfl⟩) _ _ hW hS _ (lv_sub hl [3, 4, 5, 6, 7, 2, 1, 0] rfl)
set_option maxHeartbeats 4000000 in
set_option maxRecDepth 100000 in
theorem law_turn {p : Program} {l : Launch} {e : Env} {s : State} {m : MethodId} {below : List Frame} {meth : Method} {c : Code} {b L : Nat} {xs : Nat → Int32} {D : va_G} {cI cZ cA : ClassId} {Z9 : State → Prop} (hfl : l.stackTraces = false) (C0 : LC p s m c b L xs D cI cZ cA) {ax : Nat → Nat} {n i cells slots : Nat} {B : Nat → Nat → Nat} (hB : Bok n B) (hBW : BW n B) (hi : i < 26) {H : Heap} {locs : List Loc} {ls : Array Slot} (hroom : cells + 60 ≤ room_1.cells ∧ slots + 360 ≤ room_1.slots) (hW : LWh D cI cZ cA ax (LA s) n B H) (hS : va_S (LA s) s.heap H locs) (hl : lv_has ls 11 [(0, .ref b), (1, .ref (ax 0)), (2, .int (nI i))]) (kk : KK p l e s m below meth c b D cI cZ cA ax i cells slots Z9) : W p l e room_1 s m #[Value.ref b] below meth c H locs cells slots Z9 (F0 m 16 ls []) := by
  obtain ⟨hx, hb, hml, hown, hts, hX, hbl, hL, hK, hE, hNC⟩ := id C0
  have hA : ∀ q : Nat, s.heap.size ≤ q → LA s q := fun _ h => h
  have hn10 := hB.1
  have h8 := hB.2.2.1
  have h99 := hB.2.1 6
  refine lv_aload_n hx hb dL_law_16 rfl (lv_at hl 0 rfl) ?_
  refine lv_iload_n hx hb dL_law_17 rfl (lv_at hl 2 rfl) ?_
  refine z_C (L := L) (xs := xs) (rest := []) ⟨hx, hb, hml, hown, hts⟩ (va_cwS 2 hts gL_law_L_cell rfl rfl rfl hdL_cell ⟨Nat.le_of_ble_eq_true rfl, Nat.le_of_ble_eq_true rfl⟩) hX hbl (show ¬ LA s b from Nat.not_le.mpr hbl) hS (by omega) (by omega) rfl hl.1 rfl (Nat.le_of_ble_eq_true rfl) dL_law_18 ⟨by omega, by omega⟩ (fun x9 => ?_)
  obtain ⟨V, hV, eV⟩ := ushr_ok x9 (nI 1) (by decide +kernel)
  refine lv_iconst (v := nI 1) hx hb dL_law_21 (by decide +kernel) ?_
  refine lv_iushr (v := nI V) hx hb dL_law_22 eV ?_
  refine lv_istore_n (lv' := [(3, .int (nI V)), (0, .ref b), (1, .ref (ax 0)), (2, .int (nI i))]) hx hb dL_law_23 rfl hl (by decide) rfl (fun ls hl => ?_)
  refine lv_aload_n hx hb dL_law_24 rfl (lv_at hl 2 rfl) ?_
  refine z_Vr (cq := (RX1, TX1, 12)) (As := []) (rest := []) (v := nI n) ⟨hx, hb, hml, hown, hts⟩ (fun Q cn rt wd qf T hQ => kX1_mails l D cI cZ cA ax n B Q cn rt wd qf T) (cwV 0 hts gL_law_X1_mails rfl rfl rfl hdX1_mails ⟨Nat.le_of_ble_eq_true rfl, Nat.le_of_ble_eq_true rfl⟩) hK hW rfl rfl hl.1 rfl (Nat.le_of_ble_eq_true rfl) dL_law_25 ⟨by omega, by omega⟩ ?_
  have join_46 : ∀ (u : Nat), (0 < n → u < n) → ∀ (ls : Array Slot), lv_has ls 11 [(0, .ref b), (1, .ref (ax 0)), (2, .int (nI i)), (3, .int (nI V)), (4, .int (nI u))] → W p l e room_1 s m #[Value.ref b] below meth c H locs (cells) (slots) Z9 (F0 m 46 ls []) := by
    intro u hu ls hl
    refine lv_iload_n hx hb dL_law_46 rfl (lv_at hl 3 rfl) ?_
    refine lv_bipush (v := nI 8) hx hb dL_law_47 (by decide +kernel) ?_
    refine lv_irem hx hb dL_law_49 (nI_ne0 (by omega) (by omega)) ?_
    refine n_top (y := nI (V % 8)) (pk_rem (by omega) (by omega) (by omega)) ?_
    refine lv_iconst (v := nI 2) hx hb dL_law_50 (by decide +kernel) ?_
    refine lv_icmp_lt (tgt := 61) hx hb dL_law_51 (by decide) (fun h => ?_) (fun h => ?_)
    · exact law_A hfl C0 hB hBW hV hroom hW hS (lv_sub hl [0, 1, 2, 3] rfl) kk
    · refine lv_aload_n hx hb dL_law_54 rfl (lv_at hl 1 rfl) ?_
      refine z_Vr (cq := (RX1, TX1, 12)) (As := []) (rest := []) (v := nI n) ⟨hx, hb, hml, hown, hts⟩ (fun Q cn rt wd qf T hQ => kX1_mails l D cI cZ cA ax n B Q cn rt wd qf T) (cwV 0 hts gL_law_X1_mails rfl rfl rfl hdX1_mails ⟨Nat.le_of_ble_eq_true rfl, Nat.le_of_ble_eq_true rfl⟩) hK hW rfl rfl hl.1 rfl (Nat.le_of_ble_eq_true rfl) dL_law_55 ⟨by omega, by omega⟩ ?_
      refine lv_if_ne (tgt := 146) hx hb dL_law_58 (by decide) (fun h => ?_) (fun h => ?_)
      · have hn0 : 0 < n := Nat.pos_of_ne_zero (fun q => h (by rw [q]; decide +kernel))
        refine lv_iload_n hx hb dL_law_146 rfl (lv_at hl 3 rfl) ?_
        refine lv_bipush (v := nI 8) hx hb dL_law_147 (by decide +kernel) ?_
        refine lv_irem hx hb dL_law_149 (nI_ne0 (by omega) (by omega)) ?_
        refine n_top (y := nI (V % 8)) (pk_rem (by omega) (by omega) (by omega)) ?_
        refine lv_bipush (v := nI 7) hx hb dL_law_150 (by decide +kernel) ?_
        refine lv_icmp_ge (tgt := 305) hx hb dL_law_152 (by decide) (fun h => ?_) (fun h => ?_)
        · exact law_C hfl C0 hB hBW (hu hn0) hroom hW hS hl kk
        · exact law_B hfl C0 hB hBW (hu hn0) hV hroom hW hS hl kk
      · exact law_A hfl C0 hB hBW hV hroom hW hS (lv_sub hl [0, 1, 2, 3] rfl) kk
  refine lv_if_le (tgt := 43) hx hb dL_law_28 (by decide) (fun h => ?_) (fun h => ?_)
  · refine lv_iconst (v := nI 0) hx hb dL_law_43 (by decide +kernel) ?_
    refine lv_istore (lv' := [(4, .int (nI 0)), (3, .int (nI V)), (0, .ref b), (1, .ref (ax 0)), (2, .int (nI i))]) hx hb dL_law_44 hl (by decide) rfl (fun ls hl => ?_)
    exact join_46 0 (fun h0 => h0) _ (lv_sub hl [2, 3, 4, 1, 0] rfl)
  · have hn0 : 0 < n := Nat.pos_of_ne_zero (fun q => h (by rw [q]; decide +kernel))
    refine lv_iload_n hx hb dL_law_31 rfl (lv_at hl 0 rfl) ?_
    refine lv_bipush (v := nI 8) hx hb dL_law_32 (by decide +kernel) ?_
    refine lv_idiv hx hb dL_law_34 (nI_ne0 (by omega) (by omega)) ?_
    refine n_top (y := nI (V / 8)) (pk_div (by omega) (by omega) (by omega)) ?_
    refine lv_aload_n hx hb dL_law_35 rfl (lv_at hl 2 rfl) ?_
    refine z_Vr (cq := (RX1, TX1, 12)) (As := []) (rest := [.int (nI (V / 8))]) (v := nI n) ⟨hx, hb, hml, hown, hts⟩ (fun Q cn rt wd qf T hQ => kX1_mails l D cI cZ cA ax n B Q cn rt wd qf T) (cwV 0 hts gL_law_X1_mails rfl rfl rfl hdX1_mails ⟨Nat.le_of_ble_eq_true rfl, Nat.le_of_ble_eq_true rfl⟩) hK hW rfl rfl hl.1 rfl (Nat.le_of_ble_eq_true rfl) dL_law_36 ⟨by omega, by omega⟩ ?_
    refine lv_irem hx hb dL_law_39 (nI_ne0 (by omega) (by omega)) ?_
    refine n_top (y := nI (V / 8 % n)) (pk_rem (by omega) (by omega) (by omega)) ?_
    refine lv_goto (tgt := 44) hx hb dL_law_40 (by decide) ?_
    refine lv_istore (lv' := [(4, .int (nI (V / 8 % n))), (3, .int (nI V)), (0, .ref b), (1, .ref (ax 0)), (2, .int (nI i))]) hx hb dL_law_44 hl (by decide) rfl (fun ls hl => ?_)
    exact join_46 (V / 8 % n) (fun h0 => Nat.mod_lt _ h0) _ (lv_sub hl [2, 3, 4, 1, 0] rfl)
