set_option maxHeartbeats 4000000 in
set_option maxRecDepth 100000 in
theorem law_turn {p : Program} {l : Launch} {e : Env} {s : State} {m : MethodId} {below : List Frame} {meth : Method} {c : Code} {b L : Nat} {xs : Nat → Int32} {D : va_G} {cI cZ cA cL cD : ClassId} {Z9 : State → Prop} (hfl : l.stackTraces = false) (C0 : LC p s m c b L xs D cI cZ cA cL cD) {ax ad : Nat → Nat} {o od n : Nat} {B : Nat → Nat → Nat} {k : Nat} (hi : 5 * k + 4 < L) {H : Heap} {locs : List Loc} {cells slots : Nat} {ls : Array Slot} (hroom : cells + 4 ≤ room_1.cells ∧ slots + 24 ≤ room_1.slots) (hst : LSt D cI cZ cA cL cD ax ad o od n B s H locs) (hl : lv_has ls 9 (LV b ax ad o od (5 * k))) (kk : KK p l e s m below meth c b D cI cZ cA cL cD ax ad o od (5 * k) cells slots Z9) (x : Int32) : W p l e room_1 s m #[Value.ref b] below meth c H locs cells slots Z9 (F0 m 44 ls [.int (x &&& 31)]) := by
  obtain ⟨hx, hb, hml, hown, hts, hX, hbl, hL, hK, hE0, hNC⟩ := id C0
  obtain ⟨j, hj, ej⟩ := and31 x
  rw [ej]
  rcases (show j = 0 ∨ j = 1 ∨ j = 2 ∨ j = 3 ∨ j = 4 ∨ j = 5 ∨ j = 6 ∨ j = 7 ∨ j = 8 ∨ j = 9 ∨ j = 10 ∨ j = 11 ∨ j = 12 ∨ j = 13 ∨ j = 14 ∨ j = 15 ∨ j = 16 ∨ j = 17 ∨ j = 18 ∨ j = 19 ∨ j = 20 ∨ j = 21 ∨ j = 22 ∨ j = 23 ∨ j = 24 ∨ j = 25 ∨ j = 26 ∨ 27 ≤ j by omega) with rfl | rfl | rfl | rfl | rfl | rfl | rfl | rfl | rfl | rfl | rfl | rfl | rfl | rfl | rfl | rfl | rfl | rfl | rfl | rfl | rfl | rfl | rfl | rfl | rfl | rfl | rfl | h27
  · refine lv_tableIn (off := 124) (tgt := 168) hx hb dL_law_44 (by decide +kernel) (by decide +kernel) (by decide +kernel) (by decide) ?_
    exact cs_0 hfl C0 (i := 5 * k) (by omega) hroom hst hl kk
  · refine lv_tableIn (off := 216) (tgt := 260) hx hb dL_law_44 (by decide +kernel) (by decide +kernel) (by decide +kernel) (by decide) ?_
    exact cs_1 hfl C0 (i := 5 * k) (by omega) hroom hst hl kk
  · refine lv_tableIn (off := 296) (tgt := 340) hx hb dL_law_44 (by decide +kernel) (by decide +kernel) (by decide +kernel) (by decide) ?_
    exact cs_2 hfl C0 (i := 5 * k) (by omega) hroom hst hl kk
  · refine lv_tableIn (off := 352) (tgt := 396) hx hb dL_law_44 (by decide +kernel) (by decide +kernel) (by decide +kernel) (by decide) ?_
    exact cs_3 hfl C0 (i := 5 * k) (by omega) hroom hst hl kk
  · refine lv_tableIn (off := 365) (tgt := 409) hx hb dL_law_44 (by decide +kernel) (by decide +kernel) (by decide +kernel) (by decide) ?_
    exact cs_4 hfl C0 (i := 5 * k) (by omega) hroom hst hl kk
  · refine lv_tableIn (off := 421) (tgt := 465) hx hb dL_law_44 (by decide +kernel) (by decide +kernel) (by decide +kernel) (by decide) ?_
    exact cs_5 hfl C0 (i := 5 * k) (by omega) hroom hst hl kk
  · refine lv_tableIn (off := 489) (tgt := 533) hx hb dL_law_44 (by decide +kernel) (by decide +kernel) (by decide +kernel) (by decide) ?_
    exact cs_6 hfl C0 (i := 5 * k) (by omega) hroom hst hl kk
  · refine lv_tableIn (off := 545) (tgt := 589) hx hb dL_law_44 (by decide +kernel) (by decide +kernel) (by decide +kernel) (by decide) ?_
    exact cs_7 hfl C0 (i := 5 * k) (by omega) hroom hst hl kk
  · refine lv_tableIn (off := 558) (tgt := 602) hx hb dL_law_44 (by decide +kernel) (by decide +kernel) (by decide +kernel) (by decide) ?_
    exact cs_8 hfl C0 (i := 5 * k) (by omega) hroom hst hl kk
  · refine lv_tableIn (off := 614) (tgt := 658) hx hb dL_law_44 (by decide +kernel) (by decide +kernel) (by decide +kernel) (by decide) ?_
    exact cs_9 hfl C0 (i := 5 * k) (by omega) hroom hst hl kk
  · refine lv_tableIn (off := 670) (tgt := 714) hx hb dL_law_44 (by decide +kernel) (by decide +kernel) (by decide +kernel) (by decide) ?_
    exact cs_10 hfl C0 (i := 5 * k) (by omega) hroom hst hl kk
  · refine lv_tableIn (off := 738) (tgt := 782) hx hb dL_law_44 (by decide +kernel) (by decide +kernel) (by decide +kernel) (by decide) ?_
    exact cs_11 hfl C0 (i := 5 * k) (by omega) hroom hst hl kk
  · refine lv_tableIn (off := 806) (tgt := 850) hx hb dL_law_44 (by decide +kernel) (by decide +kernel) (by decide +kernel) (by decide) ?_
    exact cs_12 hfl C0 (i := 5 * k) (by omega) hroom hst hl kk
  · refine lv_tableIn (off := 874) (tgt := 918) hx hb dL_law_44 (by decide +kernel) (by decide +kernel) (by decide +kernel) (by decide) ?_
    exact cs_13 hfl C0 (i := 5 * k) (by omega) hroom hst hl kk
  · refine lv_tableIn (off := 942) (tgt := 986) hx hb dL_law_44 (by decide +kernel) (by decide +kernel) (by decide +kernel) (by decide) ?_
    exact cs_14 hfl C0 (i := 5 * k) (by omega) hroom hst hl kk
  · refine lv_tableIn (off := 998) (tgt := 1042) hx hb dL_law_44 (by decide +kernel) (by decide +kernel) (by decide +kernel) (by decide) ?_
    exact cs_15 hfl C0 (i := 5 * k) (by omega) hroom hst hl kk
  · refine lv_tableIn (off := 1066) (tgt := 1110) hx hb dL_law_44 (by decide +kernel) (by decide +kernel) (by decide +kernel) (by decide) ?_
    exact cs_16 hfl C0 (i := 5 * k) (by omega) hroom hst hl kk
  · refine lv_tableIn (off := 1134) (tgt := 1178) hx hb dL_law_44 (by decide +kernel) (by decide +kernel) (by decide +kernel) (by decide) ?_
    exact cs_17 hfl C0 (i := 5 * k) (by omega) hroom hst hl kk
  · refine lv_tableIn (off := 1202) (tgt := 1246) hx hb dL_law_44 (by decide +kernel) (by decide +kernel) (by decide +kernel) (by decide) ?_
    exact cs_18 hfl C0 (i := 5 * k) (by omega) hroom hst hl kk
  · refine lv_tableIn (off := 1215) (tgt := 1259) hx hb dL_law_44 (by decide +kernel) (by decide +kernel) (by decide +kernel) (by decide) ?_
    exact cs_19 hfl C0 (i := 5 * k) (by omega) hroom hst hl kk
  · refine lv_tableIn (off := 1228) (tgt := 1272) hx hb dL_law_44 (by decide +kernel) (by decide +kernel) (by decide +kernel) (by decide) ?_
    exact cs_20 hfl C0 (i := 5 * k) (by omega) hroom hst hl kk
  · refine lv_tableIn (off := 1296) (tgt := 1340) hx hb dL_law_44 (by decide +kernel) (by decide +kernel) (by decide +kernel) (by decide) ?_
    exact cs_21 hfl C0 (i := 5 * k) (by omega) hroom hst hl kk
  · refine lv_tableIn (off := 1352) (tgt := 1396) hx hb dL_law_44 (by decide +kernel) (by decide +kernel) (by decide +kernel) (by decide) ?_
    exact cs_22 hfl C0 (i := 5 * k) (by omega) hroom hst hl kk
  · refine lv_tableIn (off := 1408) (tgt := 1452) hx hb dL_law_44 (by decide +kernel) (by decide +kernel) (by decide +kernel) (by decide) ?_
    exact cs_23 hfl C0 (i := 5 * k) (by omega) hroom hst hl kk
  · refine lv_tableIn (off := 1421) (tgt := 1465) hx hb dL_law_44 (by decide +kernel) (by decide +kernel) (by decide +kernel) (by decide) ?_
    exact cs_24 hfl C0 (i := 5 * k) (by omega) hroom hst hl kk
  · refine lv_tableIn (off := 1477) (tgt := 1521) hx hb dL_law_44 (by decide +kernel) (by decide +kernel) (by decide +kernel) (by decide) ?_
    exact cs_25 hfl C0 (i := 5 * k) (by omega) hroom hst hl kk
  · refine lv_tableIn (off := 1543) (tgt := 1587) hx hb dL_law_44 (by decide +kernel) (by decide +kernel) (by decide +kernel) (by decide) ?_
    exact cs_26 hfl C0 (i := 5 * k) (by omega) hroom hst hl kk
  · have e0 : (nI j).toInt = (j : Int) := nI_toInt (by omega)
    refine lv_tableOut (tgt := 1652) hx hb dL_law_44 (Or.inr (by rw [e0]; omega)) (by decide) ?_
    refine W.widen (k := cells + 4) (n := slots + 24) (by omega) (by omega) ?_
    exact kk _ _ _ _ _ hst hl
set_option maxHeartbeats 4000000 in
set_option maxRecDepth 100000 in
theorem law_loop {p : Program} {l : Launch} {e : Env} {s : State} {m : MethodId} {below : List Frame} {meth : Method} {c : Code} {b L : Nat} {xs : Nat → Int32} {D : va_G} {cI cZ cA cL cD : ClassId} (hfl : l.stackTraces = false) (C0 : LC p s m c b L xs D cI cZ cA cL cD) (hr : meth.sig.returnType = ret) (hlocks : meth.locks = false) {ax ad : Nat → Nat} {o od : Nat} : ∀ (d k : Nat), 5 * k ≤ L → L + 1 ≤ 5 * k + d → ∀ (n : Nat) (B : Nat → Nat → Nat) (H : Heap) (locs : List Loc) (ls : Array Slot), LSt D cI cZ cA cL cD ax ad o od n B s H locs → lv_has ls 9 (LV b ax ad o od (5 * k)) → W p l e room_1 s m #[Value.ref b] below meth c H locs (60 + 4 * k) (1000 + 24 * k) (lw_Z below #[Value.ref b] s) (F0 m 28 ls []) := by
  obtain ⟨hx, hb, hml, hown, hts, hX, hbl, hL, hK, hE0, hNC⟩ := id C0
  have hbA : ¬ LA s b := Nat.not_le.mpr hbl
  intro d
  induction d using Nat.strongRecOn with
  | _ d ih =>
    intro k hk hd n B H locs ls hst hl
    have hS : va_S (LA s) s.heap H locs := by obtain ⟨-, -, -, -, -, -, -, -, -, -, -, -, -, -, -, -, h⟩ := hst; exact h
    refine lv_iload hx hb dL_law_28 (lv_at hl 5 rfl) ?_
    refine lv_aload_n hx hb dL_law_30 rfl (lv_at hl 0 rfl) ?_
    refine va_slen hx hb hX hbl hbA hS dL_law_31 ?_
    refine lv_iconst (v := nI 5) hx hb dL_law_32 (by decide +kernel) ?_
    refine lv_isub hx hb dL_law_33 ?_
    refine lv_icmp_gt (tgt := 1658) hx hb dL_law_34 (by decide) (fun _ => ?_) (fun hc => ?_)
    · refine lv_iconst (v := 1) hx hb dL_law_1658 (by decide) ?_
      refine va_forget hS.2.2 ?_
      refine W.widen (k := 613575) (n := 7163220) (by omega) (by omega) ?_
      refine W.base ?_
      exact lw_ret (Drawn.sameBut.refl s.drawn lw_cs) hx hb hr hlocks dL_law_1659
    · have hi := lw_more hL (by omega) hc
      refine lv_aload_n hx hb dL_law_37 rfl (lv_at hl 0 rfl) ?_
      refine lv_iload hx hb dL_law_38 (lv_at hl 5 rfl) ?_
      refine va_sld hx hb hX hbl hbA hS (vp_in_nI (show 5 * k < L by omega) (by omega)) dL_law_40 ?_
      refine lv_bipush (v := 31) hx hb dL_law_41 (by decide +kernel) ?_
      refine lv_iand hx hb dL_law_43 ?_
      refine law_turn hfl C0 (by omega) ⟨by show _ ≤ 613575; omega, by show _ ≤ 7163220; omega⟩ hst hl (fun n1 B1 H1 locs1 ls1 hst1 hl1 => ?_) _
      refine lv_iinc (v := nI (5 * (k + 1))) (lv' := [(5, .int (nI (5 * (k + 1)))), (0, .ref b), (1, .ref (ax 0)), (2, .ref (ad 0)), (3, .ref o), (4, .ref od)]) hx hb dL_law_1652 hl1 (k := 5) rfl (by rw [show (Int32.ofInt 5) = nI 5 from by decide +kernel, nI_add, show 5 * k + 5 = 5 * (k + 1) by omega]) (by decide) rfl (fun ls2 hl2 => ?_)
      refine lv_goto (tgt := 28) hx hb dL_law_1655 (by decide) ?_
      refine W.widen (k := 60 + 4 * (k + 1)) (n := 1000 + 24 * (k + 1)) (by omega) (by omega) ?_
      exact ih (d - 5) (by omega) (k + 1) (by omega) (by omega) n1 B1 H1 locs1 ls2 hst1 (lv_sub hl2 [1, 2, 3, 4, 5, 0] rfl)
set_option maxHeartbeats 4000000 in
set_option maxRecDepth 100000 in
/-- THE LAW, from its entry -/
theorem whole_start {p : Program} {e : Env} {s : State} {m : MethodId} {below : List Frame} {meth : Method} {c : Code} (l : Launch) (hflags : l.flags = flags0) {b L : Nat} {xs : Nat → Int32} (hL : L ≤ 2560) (C0 : lw_At p s m meth c b L xs) : W p l e room_1 s m #[Value.ref b] below meth c s.heap [] 0 0 (lw_Z below #[Value.ref b] s) (entryFrame m ([Value.ref b] : List Value).toArray 9) := by
  obtain ⟨hx, hb, hr, hml, hownL, htT, hX, hbl, hlocks, hgv⟩ := id C0
  have hfl : l.stackTraces = false := by
    unfold Launch.stackTraces
    rw [hflags]
    rfl
  have hown : s.vm.findClass RL = some m.cls := hownL
  have hts : ∀ w ∈ wsL_law, w.before #[Value.ref b] s = true := fun w h => htT w (wsL_law_in w h)
  obtain ⟨D, cI, cZ, cA, cL, cD, hK⟩ := st_K htT
  have hE0 := st_EV htT hgv
  have hNC := st_NC hgv
  have hAO : AOv s := AOv.of (htT (.arrayOver (.array .int)) (by decide +kernel))
  have C1 : LC p s m c b L xs D cI cZ cA cL cD := ⟨hx, hb, hml, hown, hts, hX, hbl, hL, hK, hE0, hNC⟩
  have hb : c.code = cL_law := hb
  have hA : ∀ q : Nat, s.heap.size ≤ q → LA s q := fun _ h => h
  have hS : va_S (LA s) s.heap s.heap [] := va_S.rf
  have hP : va_P D vwCl ([] ++ []) s.heap := fun k q h => by simp at h
  have hD : va_D (LA s) ([] ++ []) := ⟨fun i j p q h => by simp at h, fun k q h => by simp at h⟩
  have hl := lv_entry ([.ref b]) (n := 9) (Nat.le_of_ble_eq_true rfl)
  rw [lg_entry_eq]
  generalize (lg_sl ([.ref b]) ++ List.replicate (9 - (lg_sl ([.ref b])).length) Slot.unset).toArray = ls at hl ⊢
  have hl : lv_has ls 9 [(0, .ref b)] := hl
  refine va_new (ci := 3) (fs := [.int (nI 0), .null, .null, .null, .null, .null, .null, .null, .null, .null, .null, .null]) (C := RX1) (T := TX1) (N := 12) hx hb htT inX1 tyX1 tyX1_ok hown (hts (.classLink RL 8 RX1) (by decide +kernel)) (hts (.instantiable RX1 12) (by decide +kernel)) (hts (.initialized RX1) (by decide +kernel)) hK hP hD hS hA rfl (fun j hj => by rcases (show j = 0 ∨ j = 1 ∨ j = 2 ∨ j = 3 ∨ j = 4 ∨ j = 5 ∨ j = 6 ∨ j = 7 ∨ j = 8 ∨ j = 9 ∨ j = 10 ∨ j = 11 by omega) with rfl | rfl | rfl | rfl | rfl | rfl | rfl | rfl | rfl | rfl | rfl | rfl <;> rfl) (Nat.le_of_ble_eq_true rfl) (Nat.le_of_ble_eq_true rfl) dL_law_0 (fun q0 H0 hP hD hS => ?_)
  have hP : va_P D vwCl ([] ++ [(q0, .inr (3, [.int (nI 0), .null, .null, .null, .null, .null, .null, .null, .null, .null, .null, .null]))]) H0 := hP
  have hD : va_D (LA s) ([] ++ [(q0, .inr (3, [.int (nI 0), .null, .null, .null, .null, .null, .null, .null, .null, .null, .null, .null]))]) := hD
  refine lv_dup hx hb dL_law_3 rfl ?_
  refine va_callv (va_runI (As := []) (rest := [.ref q0]) ⟨hx, hb, hml, hown, hts⟩ (kX1_init l D cI cZ cA q0 H0.size) (cwI 0 hts gL_law_X1_init rfl rfl rfl (hts (.initialized RX1) (by decide +kernel)) (hts (.methodLink RL 94 yX1_init) (by decide +kernel)) (hts (.instanceMethod yX1_init) (by decide +kernel)) rfl (by decide +kernel) ⟨Nat.le_of_ble_eq_true rfl, Nat.le_of_ble_eq_true rfl⟩) ⟨PcI_blind _ _ _ _ _, fun U hU hW => ⟨rfl, by rw [hU], by rw [hU]; exact (va_apP hP).2, va_K.moved hW.alike (hK.sub [0, 1, 2] rfl), (va_apD hD).2.1.weaken (fun _ _ _ _ => trivial), hAO.warm hW⟩⟩ rfl rfl hl.1 rfl (lv_room (Nat.le_of_ble_eq_true rfl)) dL_law_4 ⟨Nat.le_of_ble_eq_true rfl, Nat.le_of_ble_eq_true rfl⟩) hS (fun q _ h => va_sub2 (wr := []) hD hS hA q h) (va_sub2 (wr := []) hD hS hA) (fun u1 t1 H1 locs1 ht hvm h5 hB hz1 hk1 hS1 => ?_)
  obtain ⟨ax, Q0⟩ := u1
  obtain ⟨p1, -, d1⟩ := hB
  rw [ht] at p1
  obtain ⟨hPn, hDn⟩ := va_join2 (wr := []) hP hD hk1 (va_sub2 (wr := []) hD hS hA) p1 d1
  obtain ⟨h5, hQ0⟩ := h5
  have h5 : ax 0 = q0 := h5
  subst h5
  have hP : va_P D vwCl (wX cI cZ cA ax 0 (fun _ _ => 0) Q0 (fun _ => false) (fun _ => 0) (fun _ => some 0) (fun _ => some 0) (fun _ _ => 0)) H1 := hPn
  have hD : va_D (LA s) (wX cI cZ cA ax 0 (fun _ _ => 0) Q0 (fun _ => false) (fun _ => 0) (fun _ => some 0) (fun _ => some 0) (fun _ _ => 0)) := hDn
  refine lv_astore_n (lv' := [(1, .ref (ax 0)), (0, .ref b)]) hx hb dL_law_7 rfl hl (by decide) rfl (fun ls hl => ?_)
  refine va_new (ci := 4) (fs := [.int (nI 0), .int (nI 0), .null, .null, .null, .null, .null, .null, .null, .null, .null]) (C := RX2) (T := TX2) (N := 11) hx hb htT inX2 tyX2 tyX2_ok hown (hts (.classLink RL 95 RX2) (by decide +kernel)) (hts (.instantiable RX2 11) (by decide +kernel)) (hts (.initialized RX2) (by decide +kernel)) hK hP hD hS1 hA rfl (fun j hj => by rcases (show j = 0 ∨ j = 1 ∨ j = 2 ∨ j = 3 ∨ j = 4 ∨ j = 5 ∨ j = 6 ∨ j = 7 ∨ j = 8 ∨ j = 9 ∨ j = 10 by omega) with rfl | rfl | rfl | rfl | rfl | rfl | rfl | rfl | rfl | rfl | rfl <;> rfl) (Nat.le_of_ble_eq_true rfl) (Nat.le_of_ble_eq_true rfl) dL_law_8 (fun q1 H2 hP hD hS => ?_)
  refine lv_dup hx hb dL_law_11 rfl ?_
  refine va_callv (va_runI (As := []) (rest := [.ref q1]) ⟨hx, hb, hml, hown, hts⟩ (kX2_init l D cI q1 H2.size) (cwI 0 hts gL_law_X2_init rfl rfl rfl (hts (.initialized RX2) (by decide +kernel)) (hts (.methodLink RL 97 yX2_init) (by decide +kernel)) (hts (.instanceMethod yX2_init) (by decide +kernel)) rfl (by decide +kernel) ⟨Nat.le_of_ble_eq_true rfl, Nat.le_of_ble_eq_true rfl⟩) ⟨PcM_blind _ _ _ _ _, fun U hU hW => ⟨rfl, by rw [hU], by rw [hU]; exact (va_apP hP).2, va_K.moved hW.alike (hK.sub [0] rfl), (va_apD hD).2.1.weaken (fun _ _ _ _ => trivial)⟩⟩ rfl rfl hl.1 rfl (lv_room (Nat.le_of_ble_eq_true rfl)) dL_law_12 ⟨Nat.le_of_ble_eq_true rfl, Nat.le_of_ble_eq_true rfl⟩) hS (fun q _ h => va_sub2 (wr := (wX cI cZ cA ax 0 (fun _ _ => 0) Q0 (fun _ => false) (fun _ => 0) (fun _ => some 0) (fun _ => some 0) (fun _ _ => 0))) hD hS hA q h) (va_sub2 (wr := (wX cI cZ cA ax 0 (fun _ _ => 0) Q0 (fun _ => false) (fun _ => 0) (fun _ => some 0) (fun _ => some 0) (fun _ _ => 0))) hD hS hA) (fun ad t3 H3 locs3 ht hvm h5 hB hz1 hk1 hS3 => ?_)
  obtain ⟨p1, -, d1⟩ := hB
  rw [ht] at p1
  obtain ⟨hPn, hDn⟩ := va_join2 (wr := (wX cI cZ cA ax 0 (fun _ _ => 0) Q0 (fun _ => false) (fun _ => 0) (fun _ => some 0) (fun _ => some 0) (fun _ _ => 0))) hP hD hk1 (va_sub2 (wr := (wX cI cZ cA ax 0 (fun _ _ => 0) Q0 (fun _ => false) (fun _ => 0) (fun _ => some 0) (fun _ => some 0) (fun _ _ => 0))) hD hS hA) p1 d1
  have h5 : ad 0 = q1 := h5
  subst h5
  have hP : va_P D vwCl ((wX cI cZ cA ax 0 (fun _ _ => 0) Q0 (fun _ => false) (fun _ => 0) (fun _ => some 0) (fun _ => some 0) (fun _ _ => 0)) ++ (wM cI ad 0 0 (fun _ _ => 0) (fun _ => some 0) (fun _ => 0))) H3 := hPn
  have hD : va_D (LA s) ((wX cI cZ cA ax 0 (fun _ _ => 0) Q0 (fun _ => false) (fun _ => 0) (fun _ => some 0) (fun _ => some 0) (fun _ _ => 0)) ++ (wM cI ad 0 0 (fun _ _ => 0) (fun _ => some 0) (fun _ => 0))) := hDn
  refine lv_astore_n (lv' := [(2, .ref (ad 0)), (1, .ref (ax 0)), (0, .ref b)]) hx hb dL_law_15 rfl hl (by decide) rfl (fun ls hl => ?_)
  refine lv_iconst (v := nI 1) hx hb dL_law_16 (by decide +kernel) ?_
  refine va_newa (atype := .long) (ty := .long) hx hb (show (Cond.arrayClass (newarray.typeOf .long)).before _ s = true from htT (.arrayClass .long) (by decide +kernel)) rfl hK hP hD hS3 hA (N' := 1) (a0 := (1, .inr (.inl (fun _ => 0)))) (fun _ => rfl) (nI_nlt (a := 1) (b := 0) (Nat.zero_le _) (by decide)) (nI_clamp (by decide)) (by decide) (by exact Nat.le_of_ble_eq_true rfl) (by exact Nat.le_of_ble_eq_true rfl) dL_law_17 (fun o c4 H4 hK1 hP hD hS => ?_)
  have e4 : cL = c4 := Option.some.inj ((hK.2 3 _ rfl).2.symm.trans (hK1.2 5 (c4, .long) rfl).2)
  subst e4
  refine lv_astore_n (lv' := [(3, .ref o), (2, .ref (ad 0)), (1, .ref (ax 0)), (0, .ref b)]) hx hb dL_law_19 rfl hl (by decide) rfl (fun ls hl => ?_)
  refine lv_iconst (v := nI 1) hx hb dL_law_20 (by decide +kernel) ?_
  refine va_newa (atype := .double) (ty := .double) hx hb (show (Cond.arrayClass (newarray.typeOf .double)).before _ s = true from htT (.arrayClass .double) (by decide +kernel)) rfl hK hP hD hS hA (N' := 1) (a0 := (1, .inr (.inr (.inr (.inl (fun _ => FP.dconst0)))))) (fun _ => rfl) (nI_nlt (a := 1) (b := 0) (Nat.zero_le _) (by decide)) (nI_clamp (by decide)) (by decide) (by exact Nat.le_of_ble_eq_true rfl) (by exact Nat.le_of_ble_eq_true rfl) dL_law_21 (fun od c5 H5 hK2 hP hD hS5 => ?_)
  have e5 : cD = c5 := Option.some.inj ((hK.2 4 _ rfl).2.symm.trans (hK2.2 5 (c5, .double) rfl).2)
  subst e5
  refine lv_astore (lv' := [(4, .ref od), (3, .ref o), (2, .ref (ad 0)), (1, .ref (ax 0)), (0, .ref b)]) hx hb dL_law_23 hl (by decide) rfl (fun ls hl => ?_)
  refine lv_iconst (v := nI 0) hx hb dL_law_25 (by decide +kernel) ?_
  refine lv_istore (lv' := [(5, .int (nI 0)), (4, .ref od), (3, .ref o), (2, .ref (ad 0)), (1, .ref (ax 0)), (0, .ref b)]) hx hb dL_law_26 hl (by decide) rfl (fun ls hl => ?_)
  obtain ⟨hP, hD⟩ := S2A (X := (wX cI cZ cA ax 0 (fun _ _ => 0) Q0 (fun _ => false) (fun _ => 0) (fun _ => some 0) (fun _ => some 0) (fun _ _ => 0))) (M := (wM cI ad 0 0 (fun _ _ => 0) (fun _ => some 0) (fun _ => 0))) (L := [oL o cL 0]) (E := [oD od cD FP.dconst0]) hP hD
  refine W.widen (k := 60 + 4 * 0) (n := 1000 + 24 * 0) (Nat.le_of_ble_eq_true rfl) (Nat.le_of_ble_eq_true rfl) ?_
  exact law_loop hfl C1 hr hlocks (L + 1) 0 (Nat.zero_le _) (by omega) 0 (fun _ _ => 0) H5 _ ls ⟨st_B, _, _, _, _, _, _, _, _, _, _, _, st_Q hQ0, st_T, hP, hD, hS5⟩ (lv_sub hl [5, 4, 3, 2, 1, 0] rfl)
