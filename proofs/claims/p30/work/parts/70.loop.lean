set_option maxHeartbeats 4000000 in
set_option maxRecDepth 100000 in
theorem law_loop {p : Program} {l : Launch} {e : Env} {s : State} {m : MethodId} {below : List Frame} {meth : Method} {c : Code} {b L : Nat} {xs : Nat → Int32} {D : va_G} {cI cZ cA : ClassId} (hfl : l.stackTraces = false) (C0 : LC p s m c b L xs D cI cZ cA) (hr : meth.sig.returnType = ret) (hlocks : meth.locks = false) {ax : Nat → Nat} : ∀ (N i : Nat), 26 - i < N → i ≤ 26 → ∀ (n : Nat) (B : Nat → Nat → Nat), Bok n B → BW n B → ∀ (H : Heap) (locs : List Loc) (ls : Array Slot), LWh D cI cZ cA ax (LA s) n B H → va_S (LA s) s.heap H locs → lv_has ls 11 [(0, .ref b), (1, .ref (ax 0)), (2, .int (nI i))] → W p l e room_1 s m #[Value.ref b] below meth c H locs (100 + 5470 * i) (1000 + 32820 * i) (lw_Z below #[Value.ref b] s) (F0 m 10 ls []) := by
  obtain ⟨hx, hb, hml, hown, hts, hX, hbl, hL, hK, hE, hNC⟩ := id C0
  have hA : ∀ q : Nat, s.heap.size ≤ q → LA s q := fun _ h => h
  intro N
  induction N with
  | zero => intro i h; exact absurd h (Nat.not_lt_zero _)
  | succ N ih =>
    intro i hN hi n B hB hBW H locs ls hW hS hl
    refine lv_iload_n hx hb dL_law_10 rfl (lv_at hl 2 rfl) ?_
    refine lv_bipush (v := nI 26) hx hb dL_law_11 (by decide +kernel) ?_
    refine lv_icmp_ge (tgt := 354) hx hb dL_law_13 (by decide) (fun _ => ?_) (fun h => ?_)
    · refine lv_iconst (v := 1) hx hb dL_law_354 (by decide) ?_
      refine va_forget hS.2.2 ?_
      refine W.widen (k := 1200312) (n := 5491330) (by omega) (by omega) ?_
      exact lw_ret hx hb hr hlocks dL_law_355
    · have hi26 : i < 26 := Nat.lt_of_not_le (fun q => h ((nI_leI (by omega) (by omega)).mpr q))
      refine law_turn hfl C0 hB hBW hi26 ⟨by show _ ≤ 1200312; omega, by show _ ≤ 5491330; omega⟩ hW hS hl (fun n B H locs ls hB hBW hW hS hl => ?_)
      refine lv_aload_n hx hb dL_law_339 rfl (lv_at hl 1 rfl) ?_
      refine z_S (As := [.ref (ax 0)]) (rest := []) ⟨hx, hb, hml, hown, hts⟩ (zL_all l hfl D cI cZ cA ax (LA s) n B hB hBW) (va_cwS 1 hts gL_law_L_all rfl rfl rfl hdL_all ⟨Nat.le_of_ble_eq_true rfl, Nat.le_of_ble_eq_true rfl⟩) hK hW hS hA hE hNC rfl hl.1 rfl (Nat.le_of_ble_eq_true rfl) dL_law_340 ⟨by show _ ≤ 1200312; omega, by show _ ≤ 5491330; omega⟩ (fun H locs hW hS => ?_)
      refine lv_if_ne (tgt := 348) hx hb dL_law_343 (by decide) (fun _ => ?_) (fun h => False.elim (absurd h (by decide +kernel)))
      refine lv_iinc (v := nI (i + 1)) (lv' := [(2, .int (nI (i + 1))), (0, .ref b), (1, .ref (ax 0))]) hx hb dL_law_348 hl (k := 2) rfl (nI_1 _) (by decide) rfl (fun ls hl => ?_)
      refine lv_goto (tgt := 10) hx hb dL_law_351 (by decide) ?_
      refine W.widen (k := 100 + 5470 * (i + 1)) (n := 1000 + 32820 * (i + 1)) (by omega) (by omega) ?_
      exact ih (i + 1) (by omega) (by omega) n B hB hBW H locs ls hW hS (lv_sub hl [1, 2, 0] rfl)
set_option maxHeartbeats 4000000 in
set_option maxRecDepth 100000 in
/-- THE LAW, from its entry -/
theorem whole_start {p : Program} {e : Env} {s : State} {m : MethodId} {below : List Frame} {meth : Method} {c : Code} (l : Launch) (hflags : l.flags = flags0) {b L : Nat} {xs : Nat → Int32} (hL : L ≤ 260) (C0 : lw_At p s m meth c b L xs) : W p l e room_1 s m #[Value.ref b] below meth c s.heap [] 0 0 (lw_Z below #[Value.ref b] s) (entryFrame m ([Value.ref b] : List Value).toArray 11) := by
  obtain ⟨hx, hb, hr, hml, hownL, htT, hX, hbl, hlocks, hgv⟩ := id C0
  have hfl : l.stackTraces = false := by
    unfold Launch.stackTraces
    rw [hflags]
    rfl
  have hown : s.vm.findClass RL = some m.cls := hownL
  have hts : ∀ w ∈ wsL_law, w.before #[Value.ref b] s = true := fun w h => htT w (wsL_law_in w h)
  obtain ⟨D, cI, cZ, cA, hK⟩ := st_K htT
  have hE0 := st_EV htT hgv
  have hNC := st_NC hgv
  have hAO : AOv s := AOv.of (htT (.arrayOver (.array .int)) (by decide +kernel))
  have hb : c.code = cL_law := hb
  have C1 : LC p s m c b L xs D cI cZ cA := ⟨hx, hb, hml, hown, hts, hX, hbl, hL, hK, hE0, hNC⟩
  have hA : ∀ q : Nat, s.heap.size ≤ q → LA s q := fun _ h => h
  have hS : va_S (LA s) s.heap s.heap [] := va_S.rf
  have hP : va_P D vwCl ([] ++ []) s.heap := fun k q h => by simp at h
  have hD : va_D (LA s) ([] ++ []) := ⟨fun i j p q h => by simp at h, fun k q h => by simp at h⟩
  have hl := lv_entry ([.ref b]) (n := 11) (Nat.le_of_ble_eq_true rfl)
  rw [lg_entry_eq]
  generalize (lg_sl ([.ref b]) ++ List.replicate (11 - (lg_sl ([.ref b])).length) Slot.unset).toArray = ls at hl ⊢
  have hl : lv_has ls 11 [(0, .ref b)] := hl
  refine va_new (ci := 3) (fs := [.int (nI 0), .null, .null, .null, .null, .null, .null, .null, .null, .null, .null, .null]) (C := RX1) (T := TX1) (N := 12) hx hb htT inX1 tyX1 tyX1_ok hown (hts (.classLink RL 9 RX1) (by decide +kernel)) (hts (.instantiable RX1 12) (by decide +kernel)) (hts (.initialized RX1) (by decide +kernel)) hK hP hD hS hA rfl (fun j hj => by rcases (show j = 0 ∨ j = 1 ∨ j = 2 ∨ j = 3 ∨ j = 4 ∨ j = 5 ∨ j = 6 ∨ j = 7 ∨ j = 8 ∨ j = 9 ∨ j = 10 ∨ j = 11 by omega) with rfl | rfl | rfl | rfl | rfl | rfl | rfl | rfl | rfl | rfl | rfl | rfl <;> rfl) (Nat.le_of_ble_eq_true rfl) (Nat.le_of_ble_eq_true rfl) dL_law_0 (fun q0 H0 hP hD hS => ?_)
  have hP : va_P D vwCl ([] ++ [(q0, .inr (3, [.int (nI 0), .null, .null, .null, .null, .null, .null, .null, .null, .null, .null, .null]))]) H0 := hP
  have hD : va_D (LA s) ([] ++ [(q0, .inr (3, [.int (nI 0), .null, .null, .null, .null, .null, .null, .null, .null, .null, .null, .null]))]) := hD
  refine lv_dup hx hb dL_law_3 rfl ?_
  refine va_callv (va_runI (As := []) (rest := [.ref q0]) ⟨hx, hb, hml, hown, hts⟩ (kX1_init l D cI cZ cA q0 H0.size) (cwI 0 hts gL_law_X1_init rfl rfl rfl (hts (.initialized RX1) (by decide +kernel)) (hts (.methodLink RL 149 yX1_init) (by decide +kernel)) (hts (.instanceMethod yX1_init) (by decide +kernel)) rfl (by decide +kernel) ⟨Nat.le_of_ble_eq_true rfl, Nat.le_of_ble_eq_true rfl⟩) ⟨PcI_blind _ _ _ _ _, fun U hU hW => ⟨rfl, by rw [hU], by rw [hU]; exact (va_apP hP).2, va_K.moved hW.alike hK, (va_apD hD).2.1.weaken (fun _ _ _ _ => trivial), hAO.warm hW⟩⟩ rfl rfl hl.1 rfl (lv_room (Nat.le_of_ble_eq_true rfl)) dL_law_4 ⟨Nat.le_of_ble_eq_true rfl, Nat.le_of_ble_eq_true rfl⟩) hS (fun q _ h => va_sub2 (wr := []) hD hS hA q h) (va_sub2 (wr := []) hD hS hA) (fun u1 t1 H1 locs1 ht hvm h5 hB hz1 hk1 hS1 => ?_)
  obtain ⟨ax, Q0⟩ := u1
  obtain ⟨p1, -, d1⟩ := hB
  rw [ht] at p1
  obtain ⟨hPn, hDn⟩ := va_join2 (wr := []) hP hD hk1 (va_sub2 (wr := []) hD hS hA) p1 d1
  obtain ⟨h5, hQ0⟩ := h5
  have h5 : ax 0 = q0 := h5
  subst h5
  have hP : va_P D vwCl (wX cI cZ cA ax 0 (fun _ _ => 0) Q0 (fun _ => false) (fun _ => 0) (fun _ => some 0) (fun _ => some 0) (fun _ _ => 0)) H1 := hPn
  have hD : va_D (LA s) (wX cI cZ cA ax 0 (fun _ _ => 0) Q0 (fun _ => false) (fun _ => 0) (fun _ => some 0) (fun _ => some 0) (fun _ _ => 0)) := hDn
  refine lv_astore_n (lv' := [(1, .ref (ax 0)), (0, .ref b)]) hx hb dL_law_7 rfl hl (by decide) rfl (fun ls hl => ?_)
  refine lv_iconst (v := nI 0) hx hb dL_law_8 (by decide +kernel) ?_
  refine lv_istore_n (lv' := [(2, .int (nI 0)), (1, .ref (ax 0)), (0, .ref b)]) hx hb dL_law_9 rfl hl (by decide) rfl (fun ls hl => ?_)
  refine W.widen (k := 100 + 5470 * 0) (n := 1000 + 32820 * 0) (Nat.le_of_ble_eq_true rfl) (Nat.le_of_ble_eq_true rfl) ?_
  exact law_loop hfl C1 hr hlocks 27 0 (by decide) (by decide) 0 (fun _ _ => 0) st_B (fun m k h => absurd h (Nat.not_lt_zero _)) H1 _ ls ⟨_, _, _, _, _, _, st_Q hQ0, st_T, hP, hD⟩ hS1 (lv_sub hl [2, 1, 0] rfl)
