set_option maxHeartbeats 4000000 in
set_option maxRecDepth 100000 in
theorem cs_21 {p : Program} {l : Launch} {e : Env} {s : State} {m : MethodId} {below : List Frame} {meth : Method} {c : Code} {b L : Nat} {xs : Nat → Int32} {D : va_G} {cI cZ cA cL cD : ClassId} {Z9 : State → Prop} (hfl : l.stackTraces = false) (C0 : LC p s m c b L xs D cI cZ cA cL cD) {ax ad : Nat → Nat} {o od n : Nat} {B : Nat → Nat → Nat} {i : Nat} (hi : i + 4 < L) {H : Heap} {locs : List Loc} {cells slots : Nat} {ls : Array Slot} (hf : cells + 4 ≤ room_1.cells ∧ slots + 24 ≤ room_1.slots) (hst : LSt D cI cZ cA cL cD ax ad o od n B s H locs) (hl : lv_has ls 9 (LV b ax ad o od i)) (kk : KK p l e s m below meth c b D cI cZ cA cL cD ax ad o od i cells slots Z9) : W p l e room_1 s m #[Value.ref b] below meth c H locs cells slots Z9 (F0 m 1340 ls []) := by
  obtain ⟨hx, hb, hml, hown, hts, hX, hbl, hL, hK, hE0, hNC⟩ := id C0
  obtain ⟨hB, Q, cn, rt, wd, qf, T, th, P, bs, vo, vd, hQ, h_T, hP, hD, hS⟩ := hst
  have hA : ∀ q : Nat, s.heap.size ≤ q → LA s q := fun _ h => h
  have hbA : ¬ LA s b := Nat.not_le.mpr hbl
  obtain ⟨z1, e1⟩ : ∃ z, z = xs (nI (i + 1)).toNatClampNeg := ⟨_, rfl⟩
  have hl : lv_has ls 9 [(0, .ref b), (1, .ref (ax 0)), (2, .ref (ad 0)), (3, .ref o), (4, .ref od), (5, .int (nI i))] := hl
  obtain ⟨H0, eH0⟩ : ∃ z, z = H := ⟨_, rfl⟩
  subst eH0
  refine lv_aload_n hx hb dL_law_1340 rfl (lv_at hl 1 rfl) ?_
  refine lv_aload_n hx hb dL_law_1341 rfl (lv_at hl 0 rfl) ?_
  refine lv_iload hx hb dL_law_1342 (lv_at hl 5 rfl) ?_
  refine lv_iconst (v := nI 1) hx hb dL_law_1344 (by decide +kernel) ?_
  refine lv_iadd hx hb dL_law_1345 ?_
  refine n_top (nI_add i 1) ?_
  refine va_sld hx hb hX hbl hbA hS (vp_in_nI (show i + 1 < L by omega) (by omega)) dL_law_1346 ?_
  refine n_top e1.symm ?_
  refine lv_aload_n hx hb dL_law_1347 rfl (lv_at hl 3 rfl) ?_
  have hE := hE0.kept hS.2.1
  refine xw_S (wr := (wM cI ad th n B P bs) ++ [oD od cD vd]) (w := [oL o cL vo] ++ (wX cI cZ cA ax n B Q cn rt wd qf T)) (As := [.ref (ax 0), .int z1, .ref o]) (rest := []) (tys0 := tyL cI cZ cA cL) ⟨hx, hb, hml, hown, hts⟩ (kL_root l hfl D cI cZ cA ax n B Q cn rt wd qf T o cL vo H0.size z1 hB) (vx_cwSW 3 hts gL_law_L_root rfl rfl rfl hdL_root ⟨Nat.le_of_ble_eq_true rfl, Nat.le_of_ble_eq_true rfl⟩) (hK.sub [0, 1, 2, 3] rfl) hP hD hS hA hE hNC rfl hl.1 rfl (Nat.le_of_ble_eq_true rfl) dL_law_1348 ⟨by omega, by omega⟩ (fun r1 v1 H1 locs1 hp1 hP hD hS => ?_)
  obtain ⟨hr1, hv1⟩ := hp1
  subst hr1
  refine lv_istore (lv' := [(6, .int (nI ((s_rtc n B z1).1))), (0, .ref b), (1, .ref (ax 0)), (2, .ref (ad 0)), (3, .ref o), (4, .ref od), (5, .int (nI i))]) hx hb dL_law_1351 hl (by decide) rfl (fun ls hl => ?_)
  obtain ⟨hP, hD⟩ := A2R hP hD
  refine lv_aload_n hx hb dL_law_1353 rfl (lv_at hl 3 rfl) ?_
  refine lv_aload_n hx hb dL_law_1354 rfl (lv_at hl 1 rfl) ?_
  refine lv_iload hx hb dL_law_1355 (lv_at hl 6 rfl) ?_
  refine lv_iconst (v := nI 1) hx hb dL_law_1357 (by decide +kernel) ?_
  refine lv_iadd hx hb dL_law_1358 ?_
  refine n_top (nI_add i 1) ?_
  refine va_sld hx hb hX hbl hbA hS (vp_in_nI (show i + 1 < L by omega) (by omega)) dL_law_1359 ?_
  refine n_top e1.symm ?_
  refine mo2_V (wr := (([oL o cL v1] ++ (wX cI cZ cA ax n B Q cn rt wd qf T)) ++ [oD od cD vd])) (w := (wM cI ad th n B P bs)) (As := [.int z1]) (rest := []) ⟨hx, hb, hml, hown, hts⟩ (kX2_root l D cI ad th n B P bs H1.size z1 hB) (cwV 1 hts gL_law_X2_root rfl rfl rfl hdX2_root ⟨Nat.le_of_ble_eq_true rfl, Nat.le_of_ble_eq_true rfl⟩) (preM (wr := (([oL o cL v1] ++ (wX cI cZ cA ax n B Q cn rt wd qf T)) ++ [oD od cD vd])) (hK.sub [0] rfl) hP hD (ci := 4) rfl (q0 := 26) rfl rfl) hP hD hS hA rfl hl.1 rfl (Nat.le_of_ble_eq_true rfl) dL_law_1360 ⟨by omega, by omega⟩ (fun r2 u2 H2 locs2 hp2 hP hD hS => ?_)
  have hr2 := hp2
  subst hr2
  refine lv_istore (lv' := [(7, .int ((nI ((s_rtc n B z1).2)))), (6, .int (nI ((s_rtc n B z1).1))), (0, .ref b), (1, .ref (ax 0)), (2, .ref (ad 0)), (3, .ref o), (4, .ref od), (5, .int (nI i))]) hx hb dL_law_1363 hl (by decide) rfl (fun ls hl => ?_)
  refine lv_aload_n hx hb dL_law_1365 rfl (lv_at hl 4 rfl) ?_
  refine ro2_V (As := []) (rest := []) ⟨hx, hb, hml, hown, hts⟩ (kX2_thrown l D cI ad ((s_rtc n B z1).1) n B P bs) (cwV 0 hts gL_law_X2_thrown rfl rfl rfl hdX2_thrown ⟨Nat.le_of_ble_eq_true rfl, Nat.le_of_ble_eq_true rfl⟩) (preR (wr := (([oL o cL v1] ++ (wX cI cZ cA ax n B Q cn rt wd qf T)) ++ [oD od cD vd])) (hK.sub [0] rfl) hP (ci := 4) rfl (q0 := 26) rfl rfl) rfl hl.1 rfl (Nat.le_of_ble_eq_true rfl) dL_law_1366 ⟨by omega, by omega⟩ ?_
  refine lv_iload hx hb dL_law_1369 (lv_at hl 1 rfl) ?_
  refine lv_icmp_eq (tgt := 1376) hx hb dL_law_1371 (by decide) (fun _ => ?_) (fun h => absurd rfl h)
  refine lv_iload hx hb dL_law_1376 (lv_at hl 1 rfl) ?_
  refine lv_if_ne (tgt := 1393) hx hb dL_law_1378 (by decide) (fun _ => ?_) (fun h0 => ?_)
  · obtain ⟨hP, hD⟩ := R2A hP hD
    refine lv_goto (tgt := 1652) hx hb dL_law_1393 (by decide) ?_
    refine W.widen (k := cells + 4) (n := slots + 24) (by omega) (by omega) ?_
    exact kk _ _ _ _ _ ⟨hB, _, _, _, _, _, _, _, _, _, _, _, hQ, h_T, hP, hD, hS⟩ (lv_sub hl [2, 3, 4, 5, 6, 7] rfl)
  · have hv := hv1 (nI_0of (b_s_rtc _ _ z1) h0)
    refine lv_aload_n hx hb dL_law_1381 rfl (lv_at hl 5 rfl) ?_
    refine lv_iconst (v := nI 0) hx hb dL_law_1382 (by decide +kernel) ?_
    refine va_lald hx hb hK hP 0 3 rfl rfl (vp_in_nI (by decide) (by decide)) dL_law_1383 ?_
    refine lv_iload hx hb dL_law_1384 (lv_at hl 0 rfl) ?_
    refine lv_i2l (v := ((nI ((s_rtc n B z1).2))).toInt64) hx hb dL_law_1386 rfl ?_
    refine W.lcmp hx hb dL_law_1387 ?_
    refine lv_if_eq (tgt := 1393) hx hb dL_law_1388 (by decide) (fun _ => ?_) (fun h => absurd ((lg_cmp_eq _ _).mpr hv) h)
    refine lv_goto (tgt := 1652) hx hb dL_law_1393 (by decide) ?_
    obtain ⟨hP, hD⟩ := R2A hP hD
    refine W.widen (k := cells + 4) (n := slots + 24) (by omega) (by omega) ?_
    exact kk _ _ _ _ _ ⟨hB, _, _, _, _, _, _, _, _, _, _, _, hQ, h_T, hP, hD, hS⟩ (lv_sub hl [2, 3, 4, 5, 6, 7] rfl)
set_option maxHeartbeats 4000000 in
set_option maxRecDepth 100000 in
theorem cs_22 {p : Program} {l : Launch} {e : Env} {s : State} {m : MethodId} {below : List Frame} {meth : Method} {c : Code} {b L : Nat} {xs : Nat → Int32} {D : va_G} {cI cZ cA cL cD : ClassId} {Z9 : State → Prop} (hfl : l.stackTraces = false) (C0 : LC p s m c b L xs D cI cZ cA cL cD) {ax ad : Nat → Nat} {o od n : Nat} {B : Nat → Nat → Nat} {i : Nat} (hi : i + 4 < L) {H : Heap} {locs : List Loc} {cells slots : Nat} {ls : Array Slot} (hf : cells + 4 ≤ room_1.cells ∧ slots + 24 ≤ room_1.slots) (hst : LSt D cI cZ cA cL cD ax ad o od n B s H locs) (hl : lv_has ls 9 (LV b ax ad o od i)) (kk : KK p l e s m below meth c b D cI cZ cA cL cD ax ad o od i cells slots Z9) : W p l e room_1 s m #[Value.ref b] below meth c H locs cells slots Z9 (F0 m 1396 ls []) := by
  obtain ⟨hx, hb, hml, hown, hts, hX, hbl, hL, hK, hE0, hNC⟩ := id C0
  obtain ⟨hB, Q, cn, rt, wd, qf, T, th, P, bs, vo, vd, hQ, h_T, hP, hD, hS⟩ := hst
  have hA : ∀ q : Nat, s.heap.size ≤ q → LA s q := fun _ h => h
  have hbA : ¬ LA s b := Nat.not_le.mpr hbl
  obtain ⟨z1, e1⟩ : ∃ z, z = xs (nI (i + 1)).toNatClampNeg := ⟨_, rfl⟩
  have hl : lv_has ls 9 [(0, .ref b), (1, .ref (ax 0)), (2, .ref (ad 0)), (3, .ref o), (4, .ref od), (5, .int (nI i))] := hl
  obtain ⟨H0, eH0⟩ : ∃ z, z = H := ⟨_, rfl⟩
  subst eH0
  refine lv_aload_n hx hb dL_law_1396 rfl (lv_at hl 1 rfl) ?_
  refine lv_aload_n hx hb dL_law_1397 rfl (lv_at hl 0 rfl) ?_
  refine lv_iload hx hb dL_law_1398 (lv_at hl 5 rfl) ?_
  refine lv_iconst (v := nI 1) hx hb dL_law_1400 (by decide +kernel) ?_
  refine lv_iadd hx hb dL_law_1401 ?_
  refine n_top (nI_add i 1) ?_
  refine va_sld hx hb hX hbl hbA hS (vp_in_nI (show i + 1 < L by omega) (by omega)) dL_law_1402 ?_
  refine n_top e1.symm ?_
  refine lv_aload_n hx hb dL_law_1403 rfl (lv_at hl 3 rfl) ?_
  have hE := hE0.kept hS.2.1
  refine xw_S (wr := (wM cI ad th n B P bs) ++ [oD od cD vd]) (w := [oL o cL vo] ++ (wX cI cZ cA ax n B Q cn rt wd qf T)) (As := [.ref (ax 0), .int z1, .ref o]) (rest := []) (tys0 := tyL cI cZ cA cL) ⟨hx, hb, hml, hown, hts⟩ (kL_rootByRounds l hfl D cI cZ cA ax n B Q cn rt wd qf T o cL vo H0.size z1 hB) (vx_cwSW 3 hts gL_law_L_rootByRounds rfl rfl rfl hdL_rootByRounds ⟨Nat.le_of_ble_eq_true rfl, Nat.le_of_ble_eq_true rfl⟩) (hK.sub [0, 1, 2, 3] rfl) hP hD hS hA hE hNC rfl hl.1 rfl (Nat.le_of_ble_eq_true rfl) dL_law_1404 ⟨by omega, by omega⟩ (fun r1 v1 H1 locs1 hp1 hP hD hS => ?_)
  obtain ⟨hr1, hv1⟩ := hp1
  subst hr1
  refine lv_istore (lv' := [(6, .int (nI ((s_rtc n B z1).1))), (0, .ref b), (1, .ref (ax 0)), (2, .ref (ad 0)), (3, .ref o), (4, .ref od), (5, .int (nI i))]) hx hb dL_law_1407 hl (by decide) rfl (fun ls hl => ?_)
  obtain ⟨hP, hD⟩ := A2R hP hD
  refine lv_aload_n hx hb dL_law_1409 rfl (lv_at hl 3 rfl) ?_
  refine lv_aload_n hx hb dL_law_1410 rfl (lv_at hl 1 rfl) ?_
  refine lv_iload hx hb dL_law_1411 (lv_at hl 6 rfl) ?_
  refine lv_iconst (v := nI 1) hx hb dL_law_1413 (by decide +kernel) ?_
  refine lv_iadd hx hb dL_law_1414 ?_
  refine n_top (nI_add i 1) ?_
  refine va_sld hx hb hX hbl hbA hS (vp_in_nI (show i + 1 < L by omega) (by omega)) dL_law_1415 ?_
  refine n_top e1.symm ?_
  refine mo2_V (wr := (([oL o cL (v1.1)] ++ (wX cI cZ cA ax n B Q cn v1.2 wd qf T)) ++ [oD od cD vd])) (w := (wM cI ad th n B P bs)) (As := [.int z1]) (rest := []) ⟨hx, hb, hml, hown, hts⟩ (kX2_rootByRounds l D cI ad th n B P bs H1.size z1 hB) (cwV 1 hts gL_law_X2_rootByRounds rfl rfl rfl hdX2_rootByRounds ⟨Nat.le_of_ble_eq_true rfl, Nat.le_of_ble_eq_true rfl⟩) (preM (wr := (([oL o cL (v1.1)] ++ (wX cI cZ cA ax n B Q cn v1.2 wd qf T)) ++ [oD od cD vd])) (hK.sub [0] rfl) hP hD (ci := 4) rfl (q0 := 26) rfl rfl) hP hD hS hA rfl hl.1 rfl (Nat.le_of_ble_eq_true rfl) dL_law_1416 ⟨by omega, by omega⟩ (fun r2 u2 H2 locs2 hp2 hP hD hS => ?_)
  have hr2 := hp2
  subst hr2
  refine lv_istore (lv' := [(7, .int ((nI ((s_rtc n B z1).2)))), (6, .int (nI ((s_rtc n B z1).1))), (0, .ref b), (1, .ref (ax 0)), (2, .ref (ad 0)), (3, .ref o), (4, .ref od), (5, .int (nI i))]) hx hb dL_law_1419 hl (by decide) rfl (fun ls hl => ?_)
  refine lv_aload_n hx hb dL_law_1421 rfl (lv_at hl 4 rfl) ?_
  refine ro2_V (As := []) (rest := []) ⟨hx, hb, hml, hown, hts⟩ (kX2_thrown l D cI ad ((s_rtc n B z1).1) n B P bs) (cwV 0 hts gL_law_X2_thrown rfl rfl rfl hdX2_thrown ⟨Nat.le_of_ble_eq_true rfl, Nat.le_of_ble_eq_true rfl⟩) (preR (wr := (([oL o cL (v1.1)] ++ (wX cI cZ cA ax n B Q cn v1.2 wd qf T)) ++ [oD od cD vd])) (hK.sub [0] rfl) hP (ci := 4) rfl (q0 := 26) rfl rfl) rfl hl.1 rfl (Nat.le_of_ble_eq_true rfl) dL_law_1422 ⟨by omega, by omega⟩ ?_
  refine lv_iload hx hb dL_law_1425 (lv_at hl 1 rfl) ?_
  refine lv_icmp_eq (tgt := 1432) hx hb dL_law_1427 (by decide) (fun _ => ?_) (fun h => absurd rfl h)
  refine lv_iload hx hb dL_law_1432 (lv_at hl 1 rfl) ?_
  refine lv_if_ne (tgt := 1449) hx hb dL_law_1434 (by decide) (fun _ => ?_) (fun h0 => ?_)
  · obtain ⟨hP, hD⟩ := R2A hP hD
    refine lv_goto (tgt := 1652) hx hb dL_law_1449 (by decide) ?_
    refine W.widen (k := cells + 4) (n := slots + 24) (by omega) (by omega) ?_
    exact kk _ _ _ _ _ ⟨hB, _, _, _, _, _, _, _, _, _, _, _, hQ, h_T, hP, hD, hS⟩ (lv_sub hl [2, 3, 4, 5, 6, 7] rfl)
  · have hv := hv1 (nI_0of (b_s_rtc _ _ z1) h0)
    refine lv_aload_n hx hb dL_law_1437 rfl (lv_at hl 5 rfl) ?_
    refine lv_iconst (v := nI 0) hx hb dL_law_1438 (by decide +kernel) ?_
    refine va_lald hx hb hK hP 0 3 rfl rfl (vp_in_nI (by decide) (by decide)) dL_law_1439 ?_
    refine lv_iload hx hb dL_law_1440 (lv_at hl 0 rfl) ?_
    refine lv_i2l (v := ((nI ((s_rtc n B z1).2))).toInt64) hx hb dL_law_1442 rfl ?_
    refine W.lcmp hx hb dL_law_1443 ?_
    refine lv_if_eq (tgt := 1449) hx hb dL_law_1444 (by decide) (fun _ => ?_) (fun h => absurd ((lg_cmp_eq _ _).mpr hv) h)
    refine lv_goto (tgt := 1652) hx hb dL_law_1449 (by decide) ?_
    obtain ⟨hP, hD⟩ := R2A hP hD
    refine W.widen (k := cells + 4) (n := slots + 24) (by omega) (by omega) ?_
    exact kk _ _ _ _ _ ⟨hB, _, _, _, _, _, _, _, _, _, _, _, hQ, h_T, hP, hD, hS⟩ (lv_sub hl [2, 3, 4, 5, 6, 7] rfl)
set_option maxHeartbeats 4000000 in
set_option maxRecDepth 100000 in
theorem cs_23 {p : Program} {l : Launch} {e : Env} {s : State} {m : MethodId} {below : List Frame} {meth : Method} {c : Code} {b L : Nat} {xs : Nat → Int32} {D : va_G} {cI cZ cA cL cD : ClassId} {Z9 : State → Prop} (hfl : l.stackTraces = false) (C0 : LC p s m c b L xs D cI cZ cA cL cD) {ax ad : Nat → Nat} {o od n : Nat} {B : Nat → Nat → Nat} {i : Nat} (hi : i + 4 < L) {H : Heap} {locs : List Loc} {cells slots : Nat} {ls : Array Slot} (hf : cells + 4 ≤ room_1.cells ∧ slots + 24 ≤ room_1.slots) (hst : LSt D cI cZ cA cL cD ax ad o od n B s H locs) (hl : lv_has ls 9 (LV b ax ad o od i)) (kk : KK p l e s m below meth c b D cI cZ cA cL cD ax ad o od i cells slots Z9) : W p l e room_1 s m #[Value.ref b] below meth c H locs cells slots Z9 (F0 m 1452 ls []) := by
  obtain ⟨hx, hb, hml, hown, hts, hX, hbl, hL, hK, hE0, hNC⟩ := id C0
  obtain ⟨hB, Q, cn, rt, wd, qf, T, th, P, bs, vo, vd, hQ, h_T, hP, hD, hS⟩ := hst
  have hA : ∀ q : Nat, s.heap.size ≤ q → LA s q := fun _ h => h
  have hbA : ¬ LA s b := Nat.not_le.mpr hbl
  have hl : lv_has ls 9 [(0, .ref b), (1, .ref (ax 0)), (2, .ref (ad 0)), (3, .ref o), (4, .ref od), (5, .int (nI i))] := hl
  obtain ⟨H0, eH0⟩ : ∃ z, z = H := ⟨_, rfl⟩
  subst eH0
  obtain ⟨hP, hD⟩ := A2X hP hD
  refine lv_aload_n hx hb dL_law_1452 rfl (lv_at hl 1 rfl) ?_
  refine ro2_V (As := []) (rest := []) ⟨hx, hb, hml, hown, hts⟩ (kX1_threads l D cI cZ cA ax n B Q cn rt wd qf T hB) (cwV 0 hts gL_law_X1_threads rfl rfl rfl hdX1_threads ⟨Nat.le_of_ble_eq_true rfl, Nat.le_of_ble_eq_true rfl⟩) (preR (wr := (((wM cI ad th n B P bs) ++ [oD od cD vd]) ++ [oL o cL vo])) (hK.sub [0, 1, 2] rfl) hP (ci := 3) rfl (q0 := 12) rfl rfl) rfl hl.1 rfl (Nat.le_of_ble_eq_true rfl) dL_law_1453 ⟨by omega, by omega⟩ ?_
  obtain ⟨hP, hD⟩ := X2A hP hD
  obtain ⟨hP, hD⟩ := A2R hP hD
  refine lv_aload_n hx hb dL_law_1456 rfl (lv_at hl 2 rfl) ?_
  refine mo2_V (wr := (([oL o cL vo] ++ (wX cI cZ cA ax n B Q cn rt wd qf T)) ++ [oD od cD vd])) (w := (wM cI ad th n B P bs)) (As := []) (rest := [.int ((nI (s_heads n B)))]) ⟨hx, hb, hml, hown, hts⟩ (kX2_threads l D cI ad th n B P bs H0.size  hB) (cwV 0 hts gL_law_X2_threads rfl rfl rfl hdX2_threads ⟨Nat.le_of_ble_eq_true rfl, Nat.le_of_ble_eq_true rfl⟩) (preM (wr := (([oL o cL vo] ++ (wX cI cZ cA ax n B Q cn rt wd qf T)) ++ [oD od cD vd])) (hK.sub [0] rfl) hP hD (ci := 4) rfl (q0 := 26) rfl rfl) hP hD hS hA rfl hl.1 rfl (Nat.le_of_ble_eq_true rfl) dL_law_1457 ⟨by omega, by omega⟩ (fun r2 u2 H1 locs1 hp2 hP hD hS => ?_)
  have hr2 := hp2
  subst hr2
  refine lv_icmp_eq (tgt := 1652) hx hb dL_law_1460 (by decide) (fun _ => ?_) (fun h => absurd rfl h)
  obtain ⟨hP, hD⟩ := R2A hP hD
  refine W.widen (k := cells + 4) (n := slots + 24) (by omega) (by omega) ?_
  exact kk _ _ _ _ _ ⟨hB, _, _, _, _, _, _, _, _, _, _, _, hQ, h_T, hP, hD, hS⟩ (lv_sub hl [0, 1, 2, 3, 4, 5] rfl)
set_option maxHeartbeats 4000000 in
set_option maxRecDepth 100000 in
theorem cs_24 {p : Program} {l : Launch} {e : Env} {s : State} {m : MethodId} {below : List Frame} {meth : Method} {c : Code} {b L : Nat} {xs : Nat → Int32} {D : va_G} {cI cZ cA cL cD : ClassId} {Z9 : State → Prop} (hfl : l.stackTraces = false) (C0 : LC p s m c b L xs D cI cZ cA cL cD) {ax ad : Nat → Nat} {o od n : Nat} {B : Nat → Nat → Nat} {i : Nat} (hi : i + 4 < L) {H : Heap} {locs : List Loc} {cells slots : Nat} {ls : Array Slot} (hf : cells + 4 ≤ room_1.cells ∧ slots + 24 ≤ room_1.slots) (hst : LSt D cI cZ cA cL cD ax ad o od n B s H locs) (hl : lv_has ls 9 (LV b ax ad o od i)) (kk : KK p l e s m below meth c b D cI cZ cA cL cD ax ad o od i cells slots Z9) : W p l e room_1 s m #[Value.ref b] below meth c H locs cells slots Z9 (F0 m 1465 ls []) := by
  obtain ⟨hx, hb, hml, hown, hts, hX, hbl, hL, hK, hE0, hNC⟩ := id C0
  obtain ⟨hB, Q, cn, rt, wd, qf, T, th, P, bs, vo, vd, hQ, h_T, hP, hD, hS⟩ := hst
  have hA : ∀ q : Nat, s.heap.size ≤ q → LA s q := fun _ h => h
  have hbA : ¬ LA s b := Nat.not_le.mpr hbl
  obtain ⟨z1, e1⟩ : ∃ z, z = xs (nI (i + 1)).toNatClampNeg := ⟨_, rfl⟩
  have hl : lv_has ls 9 [(0, .ref b), (1, .ref (ax 0)), (2, .ref (ad 0)), (3, .ref o), (4, .ref od), (5, .int (nI i))] := hl
  obtain ⟨H0, eH0⟩ : ∃ z, z = H := ⟨_, rfl⟩
  subst eH0
  refine lv_aload_n hx hb dL_law_1465 rfl (lv_at hl 1 rfl) ?_
  refine lv_aload_n hx hb dL_law_1466 rfl (lv_at hl 0 rfl) ?_
  refine lv_iload hx hb dL_law_1467 (lv_at hl 5 rfl) ?_
  refine lv_iconst (v := nI 1) hx hb dL_law_1469 (by decide +kernel) ?_
  refine lv_iadd hx hb dL_law_1470 ?_
  refine n_top (nI_add i 1) ?_
  refine va_sld hx hb hX hbl hbA hS (vp_in_nI (show i + 1 < L by omega) (by omega)) dL_law_1471 ?_
  refine n_top e1.symm ?_
  refine lv_aload_n hx hb dL_law_1472 rfl (lv_at hl 3 rfl) ?_
  have hE := hE0.kept hS.2.1
  refine xw_S (wr := (wM cI ad th n B P bs) ++ [oD od cD vd]) (w := [oL o cL vo] ++ (wX cI cZ cA ax n B Q cn rt wd qf T)) (As := [.ref (ax 0), .int z1, .ref o]) (rest := []) (tys0 := tyL cI cZ cA cL) ⟨hx, hb, hml, hown, hts⟩ (kL_size l hfl D cI cZ cA ax n B Q cn rt wd qf T o cL vo H0.size z1 hB) (vx_cwSW 3 hts gL_law_L_size rfl rfl rfl hdL_size ⟨Nat.le_of_ble_eq_true rfl, Nat.le_of_ble_eq_true rfl⟩) (hK.sub [0, 1, 2, 3] rfl) hP hD hS hA hE hNC rfl hl.1 rfl (Nat.le_of_ble_eq_true rfl) dL_law_1473 ⟨by omega, by omega⟩ (fun r1 v1 H1 locs1 hp1 hP hD hS => ?_)
  obtain ⟨hr1, hv1⟩ := hp1
  subst hr1
  refine lv_istore (lv' := [(6, .int (nI ((s_sz n B z1).1))), (0, .ref b), (1, .ref (ax 0)), (2, .ref (ad 0)), (3, .ref o), (4, .ref od), (5, .int (nI i))]) hx hb dL_law_1476 hl (by decide) rfl (fun ls hl => ?_)
  obtain ⟨hP, hD⟩ := A2R hP hD
  refine lv_aload_n hx hb dL_law_1478 rfl (lv_at hl 3 rfl) ?_
  refine lv_aload_n hx hb dL_law_1479 rfl (lv_at hl 1 rfl) ?_
  refine lv_iload hx hb dL_law_1480 (lv_at hl 6 rfl) ?_
  refine lv_iconst (v := nI 1) hx hb dL_law_1482 (by decide +kernel) ?_
  refine lv_iadd hx hb dL_law_1483 ?_
  refine n_top (nI_add i 1) ?_
  refine va_sld hx hb hX hbl hbA hS (vp_in_nI (show i + 1 < L by omega) (by omega)) dL_law_1484 ?_
  refine n_top e1.symm ?_
  refine mo2_V (wr := (([oL o cL v1] ++ (wX cI cZ cA ax n B Q cn rt wd qf T)) ++ [oD od cD vd])) (w := (wM cI ad th n B P bs)) (As := [.int z1]) (rest := []) ⟨hx, hb, hml, hown, hts⟩ (kX2_size l D cI ad th n B P bs H1.size z1 hB) (cwV 1 hts gL_law_X2_size rfl rfl rfl hdX2_size ⟨Nat.le_of_ble_eq_true rfl, Nat.le_of_ble_eq_true rfl⟩) (preM (wr := (([oL o cL v1] ++ (wX cI cZ cA ax n B Q cn rt wd qf T)) ++ [oD od cD vd])) (hK.sub [0] rfl) hP hD (ci := 4) rfl (q0 := 26) rfl rfl) hP hD hS hA rfl hl.1 rfl (Nat.le_of_ble_eq_true rfl) dL_law_1485 ⟨by omega, by omega⟩ (fun r2 u2 H2 locs2 hp2 hP hD hS => ?_)
  have hr2 := hp2
  subst hr2
  refine lv_istore (lv' := [(7, .int ((nI ((s_sz n B z1).2)))), (6, .int (nI ((s_sz n B z1).1))), (0, .ref b), (1, .ref (ax 0)), (2, .ref (ad 0)), (3, .ref o), (4, .ref od), (5, .int (nI i))]) hx hb dL_law_1488 hl (by decide) rfl (fun ls hl => ?_)
  refine lv_aload_n hx hb dL_law_1490 rfl (lv_at hl 4 rfl) ?_
  refine ro2_V (As := []) (rest := []) ⟨hx, hb, hml, hown, hts⟩ (kX2_thrown l D cI ad ((s_sz n B z1).1) n B P bs) (cwV 0 hts gL_law_X2_thrown rfl rfl rfl hdX2_thrown ⟨Nat.le_of_ble_eq_true rfl, Nat.le_of_ble_eq_true rfl⟩) (preR (wr := (([oL o cL v1] ++ (wX cI cZ cA ax n B Q cn rt wd qf T)) ++ [oD od cD vd])) (hK.sub [0] rfl) hP (ci := 4) rfl (q0 := 26) rfl rfl) rfl hl.1 rfl (Nat.le_of_ble_eq_true rfl) dL_law_1491 ⟨by omega, by omega⟩ ?_
  refine lv_iload hx hb dL_law_1494 (lv_at hl 1 rfl) ?_
  refine lv_icmp_eq (tgt := 1501) hx hb dL_law_1496 (by decide) (fun _ => ?_) (fun h => absurd rfl h)
  refine lv_iload hx hb dL_law_1501 (lv_at hl 1 rfl) ?_
  refine lv_if_ne (tgt := 1518) hx hb dL_law_1503 (by decide) (fun _ => ?_) (fun h0 => ?_)
  · obtain ⟨hP, hD⟩ := R2A hP hD
    refine lv_goto (tgt := 1652) hx hb dL_law_1518 (by decide) ?_
    refine W.widen (k := cells + 4) (n := slots + 24) (by omega) (by omega) ?_
    exact kk _ _ _ _ _ ⟨hB, _, _, _, _, _, _, _, _, _, _, _, hQ, h_T, hP, hD, hS⟩ (lv_sub hl [2, 3, 4, 5, 6, 7] rfl)
  · have hv := hv1 (nI_0of (b_s_sz _ _ z1) h0)
    refine lv_aload_n hx hb dL_law_1506 rfl (lv_at hl 5 rfl) ?_
    refine lv_iconst (v := nI 0) hx hb dL_law_1507 (by decide +kernel) ?_
    refine va_lald hx hb hK hP 0 3 rfl rfl (vp_in_nI (by decide) (by decide)) dL_law_1508 ?_
    refine lv_iload hx hb dL_law_1509 (lv_at hl 0 rfl) ?_
    refine lv_i2l (v := ((nI ((s_sz n B z1).2))).toInt64) hx hb dL_law_1511 rfl ?_
    refine W.lcmp hx hb dL_law_1512 ?_
    refine lv_if_eq (tgt := 1518) hx hb dL_law_1513 (by decide) (fun _ => ?_) (fun h => absurd ((lg_cmp_eq _ _).mpr hv) h)
    refine lv_goto (tgt := 1652) hx hb dL_law_1518 (by decide) ?_
    obtain ⟨hP, hD⟩ := R2A hP hD
    refine W.widen (k := cells + 4) (n := slots + 24) (by omega) (by omega) ?_
    exact kk _ _ _ _ _ ⟨hB, _, _, _, _, _, _, _, _, _, _, _, hQ, h_T, hP, hD, hS⟩ (lv_sub hl [2, 3, 4, 5, 6, 7] rfl)
set_option maxHeartbeats 4000000 in
set_option maxRecDepth 100000 in
theorem cs_25 {p : Program} {l : Launch} {e : Env} {s : State} {m : MethodId} {below : List Frame} {meth : Method} {c : Code} {b L : Nat} {xs : Nat → Int32} {D : va_G} {cI cZ cA cL cD : ClassId} {Z9 : State → Prop} (hfl : l.stackTraces = false) (C0 : LC p s m c b L xs D cI cZ cA cL cD) {ax ad : Nat → Nat} {o od n : Nat} {B : Nat → Nat → Nat} {i : Nat} (hi : i + 4 < L) {H : Heap} {locs : List Loc} {cells slots : Nat} {ls : Array Slot} (hf : cells + 4 ≤ room_1.cells ∧ slots + 24 ≤ room_1.slots) (hst : LSt D cI cZ cA cL cD ax ad o od n B s H locs) (hl : lv_has ls 9 (LV b ax ad o od i)) (kk : KK p l e s m below meth c b D cI cZ cA cL cD ax ad o od i cells slots Z9) : W p l e room_1 s m #[Value.ref b] below meth c H locs cells slots Z9 (F0 m 1521 ls []) := by
  obtain ⟨hx, hb, hml, hown, hts, hX, hbl, hL, hK, hE0, hNC⟩ := id C0
  obtain ⟨hB, Q, cn, rt, wd, qf, T, th, P, bs, vo, vd, hQ, h_T, hP, hD, hS⟩ := hst
  have hA : ∀ q : Nat, s.heap.size ≤ q → LA s q := fun _ h => h
  have hbA : ¬ LA s b := Nat.not_le.mpr hbl
  have hl : lv_has ls 9 [(0, .ref b), (1, .ref (ax 0)), (2, .ref (ad 0)), (3, .ref o), (4, .ref od), (5, .int (nI i))] := hl
  obtain ⟨H0, eH0⟩ : ∃ z, z = H := ⟨_, rfl⟩
  subst eH0
  obtain ⟨hP, hD⟩ := A2B hP hD
  refine lv_aload_n hx hb dL_law_1521 rfl (lv_at hl 1 rfl) ?_
  refine lv_aload hx hb dL_law_1522 (lv_at hl 4 rfl) ?_
  have hE := hE0.kept hS.2.1
  refine xw_S (wr := (wM cI ad th n B P bs) ++ [oL o cL vo]) (w := [oD od cD vd] ++ (wX cI cZ cA ax n B Q cn rt wd qf T)) (As := [.ref (ax 0), .ref od]) (rest := []) (tys0 := tyD cI cZ cA cD) ⟨hx, hb, hml, hown, hts⟩ (kL_newShare l hfl D cI cZ cA ax n B Q cn rt wd qf T od cD vd H0.size hB hQ) (vx_cwSW 2 hts gL_law_L_newShare rfl rfl rfl hdL_newShare ⟨Nat.le_of_ble_eq_true rfl, Nat.le_of_ble_eq_true rfl⟩) (hK.sub [0, 1, 2, 4] rfl) hP hD hS hA hE hNC rfl hl.1 rfl (Nat.le_of_ble_eq_true rfl) dL_law_1524 ⟨by omega, by omega⟩ (fun r1 v1 H1 locs1 hp1 hP hD hS => ?_)
  obtain ⟨hr1, hv1⟩ := hp1
  subst hr1
  refine lv_istore (lv' := [(6, .int (nI (if s_sl B n = 0 then 1 else 0))), (0, .ref b), (1, .ref (ax 0)), (2, .ref (ad 0)), (3, .ref o), (4, .ref od), (5, .int (nI i))]) hx hb dL_law_1527 hl (by decide) rfl (fun ls hl => ?_)
  obtain ⟨hP, hD⟩ := A2B hP hD
  obtain ⟨hP, hD⟩ := A2R hP hD
  refine lv_aload_n hx hb dL_law_1529 rfl (lv_at hl 3 rfl) ?_
  refine mo2_Vf (wr := (([oL o cL vo] ++ (wX cI cZ cA ax n B Q cn rt wd qf T)) ++ [oD od cD v1])) (w := (wM cI ad th n B P bs)) (As := []) (rest := []) ⟨hx, hb, hml, hown, hts⟩ (kX2_newShare l D cI ad th n B P bs H1.size  hB) (cwV 0 hts gL_law_X2_newShare rfl rfl rfl hdX2_newShare ⟨Nat.le_of_ble_eq_true rfl, Nat.le_of_ble_eq_true rfl⟩) (preM (wr := (([oL o cL vo] ++ (wX cI cZ cA ax n B Q cn rt wd qf T)) ++ [oD od cD v1])) (hK.sub [0] rfl) hP hD (ci := 4) rfl (q0 := 26) rfl rfl) hP hD hS hA rfl hl.1 rfl (Nat.le_of_ble_eq_true rfl) dL_law_1530 ⟨by omega, by omega⟩ (fun r2 u2 H2 locs2 hp2 hP hD hS => ?_)
  have hr2 := hp2
  subst hr2
  refine lv_fstore (lv' := [(7, .float (if s_sl B n = 0 then FP.fconst0 else s_ns n B)), (6, .int (nI (if s_sl B n = 0 then 1 else 0))), (0, .ref b), (1, .ref (ax 0)), (2, .ref (ad 0)), (3, .ref o), (4, .ref od), (5, .int (nI i))]) hx hb dL_law_1533 hl (by decide) rfl (fun ls hl => ?_)
  refine lv_aload_n hx hb dL_law_1535 rfl (lv_at hl 4 rfl) ?_
  refine ro2_V (As := []) (rest := []) ⟨hx, hb, hml, hown, hts⟩ (kX2_thrown l D cI ad (if s_sl B n = 0 then 1 else 0) n B u2.1 u2.2) (cwV 0 hts gL_law_X2_thrown rfl rfl rfl hdX2_thrown ⟨Nat.le_of_ble_eq_true rfl, Nat.le_of_ble_eq_true rfl⟩) (preR (wr := (([oL o cL vo] ++ (wX cI cZ cA ax n B Q cn rt wd qf T)) ++ [oD od cD v1])) (hK.sub [0] rfl) hP (ci := 4) rfl (q0 := 26) rfl rfl) rfl hl.1 rfl (Nat.le_of_ble_eq_true rfl) dL_law_1536 ⟨by omega, by omega⟩ ?_
  refine lv_iload hx hb dL_law_1539 (lv_at hl 1 rfl) ?_
  refine lv_icmp_eq (tgt := 1546) hx hb dL_law_1541 (by decide) (fun _ => ?_) (fun h => absurd rfl h)
  refine lv_iload hx hb dL_law_1546 (lv_at hl 1 rfl) ?_
  refine lv_if_ne (tgt := 1584) hx hb dL_law_1548 (by decide) (fun _ => ?_) (fun h0 => ?_)
  · obtain ⟨hP, hD⟩ := R2A hP hD
    refine lv_goto (tgt := 1652) hx hb dL_law_1584 (by decide) ?_
    refine W.widen (k := cells + 4) (n := slots + 24) (by omega) (by omega) ?_
    exact kk _ _ _ _ _ ⟨hB, _, _, _, _, _, _, _, _, _, _, _, hQ, h_T, hP, hD, hS⟩ (lv_sub hl [2, 3, 4, 5, 6, 7] rfl)
  · have hz : ¬ s_sl B n = 0 := fun q => by rw [if_pos q] at h0; exact absurd h0 (by decide)
    have hv := hv1 hz
    subst hv
    refine lv_aload hx hb dL_law_1551 (lv_at hl 6 rfl) ?_
    refine lv_iconst (v := nI 0) hx hb dL_law_1553 (by decide +kernel) ?_
    refine va_dald hx hb hK hP 25 4 rfl rfl (vp_in_nI (by decide) (by decide)) dL_law_1554 ?_
    refine lv_fload hx hb dL_law_1555 (lv_at hl 0 rfl) ?_
    rw [if_neg hz]
    refine lv_f2d hx hb dL_law_1557 (ns_f2 hB hz) ?_
    refine lv_dcmp hx hb dL_law_1558 ?_
    refine lv_if_eq (tgt := 1584) hx hb dL_law_1559 (by decide) (fun _ => ?_) (fun h => absurd (ns_eq hB hz) h)
    refine lv_goto (tgt := 1652) hx hb dL_law_1584 (by decide) ?_
    obtain ⟨hP, hD⟩ := R2A hP hD
    refine W.widen (k := cells + 4) (n := slots + 24) (by omega) (by omega) ?_
    exact kk _ _ _ _ _ ⟨hB, _, _, _, _, _, _, _, _, _, _, _, hQ, h_T, hP, hD, hS⟩ (lv_sub hl [2, 3, 4, 5, 6, 7] rfl)
set_option maxHeartbeats 4000000 in
set_option maxRecDepth 100000 in
theorem cs_26 {p : Program} {l : Launch} {e : Env} {s : State} {m : MethodId} {below : List Frame} {meth : Method} {c : Code} {b L : Nat} {xs : Nat → Int32} {D : va_G} {cI cZ cA cL cD : ClassId} {Z9 : State → Prop} (hfl : l.stackTraces = false) (C0 : LC p s m c b L xs D cI cZ cA cL cD) {ax ad : Nat → Nat} {o od n : Nat} {B : Nat → Nat → Nat} {i : Nat} (hi : i + 4 < L) {H : Heap} {locs : List Loc} {cells slots : Nat} {ls : Array Slot} (hf : cells + 4 ≤ room_1.cells ∧ slots + 24 ≤ room_1.slots) (hst : LSt D cI cZ cA cL cD ax ad o od n B s H locs) (hl : lv_has ls 9 (LV b ax ad o od i)) (kk : KK p l e s m below meth c b D cI cZ cA cL cD ax ad o od i cells slots Z9) : W p l e room_1 s m #[Value.ref b] below meth c H locs cells slots Z9 (F0 m 1587 ls []) := by
  obtain ⟨hx, hb, hml, hown, hts, hX, hbl, hL, hK, hE0, hNC⟩ := id C0
  obtain ⟨hB, Q, cn, rt, wd, qf, T, th, P, bs, vo, vd, hQ, h_T, hP, hD, hS⟩ := hst
  have hA : ∀ q : Nat, s.heap.size ≤ q → LA s q := fun _ h => h
  have hbA : ¬ LA s b := Nat.not_le.mpr hbl
  have hl : lv_has ls 9 [(0, .ref b), (1, .ref (ax 0)), (2, .ref (ad 0)), (3, .ref o), (4, .ref od), (5, .int (nI i))] := hl
  obtain ⟨H0, eH0⟩ : ∃ z, z = H := ⟨_, rfl⟩
  subst eH0
  obtain ⟨hP, hD⟩ := A2B hP hD
  refine lv_aload_n hx hb dL_law_1587 rfl (lv_at hl 1 rfl) ?_
  refine lv_aload hx hb dL_law_1588 (lv_at hl 4 rfl) ?_
  have hE := hE0.kept hS.2.1
  refine xw_S (wr := (wM cI ad th n B P bs) ++ [oL o cL vo]) (w := [oD od cD vd] ++ (wX cI cZ cA ax n B Q cn rt wd qf T)) (As := [.ref (ax 0), .ref od]) (rest := []) (tys0 := tyD cI cZ cA cD) ⟨hx, hb, hml, hown, hts⟩ (kL_meanSize l hfl D cI cZ cA ax n B Q cn rt wd qf T od cD vd H0.size hB) (vx_cwSW 2 hts gL_law_L_meanSize rfl rfl rfl hdL_meanSize ⟨Nat.le_of_ble_eq_true rfl, Nat.le_of_ble_eq_true rfl⟩) (hK.sub [0, 1, 2, 4] rfl) hP hD hS hA hE hNC rfl hl.1 rfl (Nat.le_of_ble_eq_true rfl) dL_law_1590 ⟨by omega, by omega⟩ (fun r1 v1 H1 locs1 hp1 hP hD hS => ?_)
  obtain ⟨hr1, hv1⟩ := hp1
  subst hr1
  refine lv_istore (lv' := [(6, .int (nI (if n = 0 then 1 else 0))), (0, .ref b), (1, .ref (ax 0)), (2, .ref (ad 0)), (3, .ref o), (4, .ref od), (5, .int (nI i))]) hx hb dL_law_1593 hl (by decide) rfl (fun ls hl => ?_)
  obtain ⟨hP, hD⟩ := A2B hP hD
  obtain ⟨hP, hD⟩ := A2R hP hD
  refine lv_aload_n hx hb dL_law_1595 rfl (lv_at hl 3 rfl) ?_
  refine mo2_Vd (wr := (([oL o cL vo] ++ (wX cI cZ cA ax n B Q cn rt wd qf T)) ++ [oD od cD v1])) (w := (wM cI ad th n B P bs)) (As := []) (rest := []) ⟨hx, hb, hml, hown, hts⟩ (kX2_meanSize l D cI ad th n B P bs H1.size  hB) (cwV 0 hts gL_law_X2_meanSize rfl rfl rfl hdX2_meanSize ⟨Nat.le_of_ble_eq_true rfl, Nat.le_of_ble_eq_true rfl⟩) (preM (wr := (([oL o cL vo] ++ (wX cI cZ cA ax n B Q cn rt wd qf T)) ++ [oD od cD v1])) (hK.sub [0] rfl) hP hD (ci := 4) rfl (q0 := 26) rfl rfl) hP hD hS hA rfl hl.1 rfl (Nat.le_of_ble_eq_true rfl) dL_law_1596 ⟨by omega, by omega⟩ (fun r2 u2 H2 locs2 hp2 hP hD hS => ?_)
  have hr2 := hp2
  subst hr2
  refine lv_dstore (lv' := [(7, .double (if n = 0 then FP.dconst0 else s_mz n B)), (6, .int (nI (if n = 0 then 1 else 0))), (0, .ref b), (1, .ref (ax 0)), (2, .ref (ad 0)), (3, .ref o), (4, .ref od), (5, .int (nI i))]) hx hb dL_law_1599 hl (by decide) rfl (fun ls hl => ?_)
  refine lv_aload_n hx hb dL_law_1601 rfl (lv_at hl 4 rfl) ?_
  refine ro2_V (As := []) (rest := []) ⟨hx, hb, hml, hown, hts⟩ (kX2_thrown l D cI ad (if n = 0 then 1 else 0) n B P bs) (cwV 0 hts gL_law_X2_thrown rfl rfl rfl hdX2_thrown ⟨Nat.le_of_ble_eq_true rfl, Nat.le_of_ble_eq_true rfl⟩) (preR (wr := (([oL o cL vo] ++ (wX cI cZ cA ax n B Q cn rt wd qf T)) ++ [oD od cD v1])) (hK.sub [0] rfl) hP (ci := 4) rfl (q0 := 26) rfl rfl) rfl hl.1 rfl (Nat.le_of_ble_eq_true rfl) dL_law_1602 ⟨by omega, by omega⟩ ?_
  refine lv_iload hx hb dL_law_1605 (lv_at hl 1 rfl) ?_
  refine lv_icmp_eq (tgt := 1612) hx hb dL_law_1607 (by decide) (fun _ => ?_) (fun h => absurd rfl h)
  refine lv_iload hx hb dL_law_1612 (lv_at hl 1 rfl) ?_
  refine lv_if_ne (tgt := 1649) hx hb dL_law_1614 (by decide) (fun _ => ?_) (fun h0 => ?_)
  · obtain ⟨hP, hD⟩ := R2A hP hD
    refine lv_goto (tgt := 1652) hx hb dL_law_1649 (by decide) ?_
    refine W.widen (k := cells + 4) (n := slots + 24) (by omega) (by omega) ?_
    exact kk _ _ _ _ _ ⟨hB, _, _, _, _, _, _, _, _, _, _, _, hQ, h_T, hP, hD, hS⟩ (lv_sub hl [2, 3, 4, 5, 6, 7] rfl)
  · have hz : ¬ n = 0 := fun q => by rw [if_pos q] at h0; exact absurd h0 (by decide)
    have hv := hv1 hz
    subst hv
    refine lv_aload hx hb dL_law_1617 (lv_at hl 6 rfl) ?_
    refine lv_iconst (v := nI 0) hx hb dL_law_1619 (by decide +kernel) ?_
    refine va_dald hx hb hK hP 25 4 rfl rfl (vp_in_nI (by decide) (by decide)) dL_law_1620 ?_
    refine lv_dload hx hb dL_law_1621 (lv_at hl 0 rfl) ?_
    rw [if_neg hz]
    refine lv_dcmp hx hb dL_law_1623 ?_
    refine lv_if_eq (tgt := 1649) hx hb dL_law_1624 (by decide) (fun _ => ?_) (fun h => absurd (mz_eq hB hz) h)
    refine lv_goto (tgt := 1652) hx hb dL_law_1649 (by decide) ?_
    obtain ⟨hP, hD⟩ := R2A hP hD
    refine W.widen (k := cells + 4) (n := slots + 24) (by omega) (by omega) ?_
    exact kk _ _ _ _ _ ⟨hB, _, _, _, _, _, _, _, _, _, _, _, hQ, h_T, hP, hD, hS⟩ (lv_sub hl [2, 3, 4, 5, 6, 7] rfl)
