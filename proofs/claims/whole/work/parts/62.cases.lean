set_option maxHeartbeats 4000000 in
set_option maxRecDepth 100000 in
theorem cs_7 {p : Program} {l : Launch} {e : Env} {s : State} {m : MethodId} {below : List Frame} {meth : Method} {c : Code} {b L : Nat} {xs : Nat → Int32} {D : va_G} {cI cZ cA cL cD : ClassId} {Z9 : State → Prop} (hfl : l.stackTraces = false) (C0 : LC p s m c b L xs D cI cZ cA cL cD) {ax ad : Nat → Nat} {o od n : Nat} {B : Nat → Nat → Nat} {i : Nat} (hi : i + 4 < L) {H : Heap} {locs : List Loc} {cells slots : Nat} {ls : Array Slot} (hf : cells + 4 ≤ room_1.cells ∧ slots + 24 ≤ room_1.slots) (hst : LSt D cI cZ cA cL cD ax ad o od n B s H locs) (hl : lv_has ls 9 (LV b ax ad o od i)) (kk : KK p l e s m below meth c b D cI cZ cA cL cD ax ad o od i cells slots Z9) : W p l e room_1 s m #[Value.ref b] below meth c H locs cells slots Z9 (F0 m 589 ls []) := by
  obtain ⟨hx, hb, hml, hown, hts, hX, hbl, hL, hK, hE0, hNC⟩ := id C0
  obtain ⟨hB, Q, cn, rt, wd, qf, T, th, P, bs, vo, vd, hQ, h_T, hP, hD, hS⟩ := hst
  have hA : ∀ q : Nat, s.heap.size ≤ q → LA s q := fun _ h => h
  have hbA : ¬ LA s b := Nat.not_le.mpr hbl
  have hl : lv_has ls 9 [(0, .ref b), (1, .ref (ax 0)), (2, .ref (ad 0)), (3, .ref o), (4, .ref od), (5, .int (nI i))] := hl
  obtain ⟨H0, eH0⟩ : ∃ z, z = H := ⟨_, rfl⟩
  subst eH0
  obtain ⟨hP, hD⟩ := A2X hP hD
  refine lv_aload_n hx hb dL_law_589 rfl (lv_at hl 1 rfl) ?_
  refine ro2_V (As := []) (rest := []) ⟨hx, hb, hml, hown, hts⟩ (kX1_missing l D cI cZ cA ax n B Q cn rt wd qf T hB) (cwV 0 hts gL_law_X1_missing rfl rfl rfl hdX1_missing ⟨Nat.le_of_ble_eq_true rfl, Nat.le_of_ble_eq_true rfl⟩) (preR (wr := (((wM cI ad th n B P bs) ++ [oD od cD vd]) ++ [oL o cL vo])) (hK.sub [0, 1, 2] rfl) hP (ci := 3) rfl (q0 := 12) rfl rfl) rfl hl.1 rfl (Nat.le_of_ble_eq_true rfl) dL_law_590 ⟨by omega, by omega⟩ ?_
  obtain ⟨hP, hD⟩ := X2A hP hD
  obtain ⟨hP, hD⟩ := A2R hP hD
  refine lv_aload_n hx hb dL_law_593 rfl (lv_at hl 2 rfl) ?_
  refine mo2_V (wr := (([oL o cL vo] ++ (wX cI cZ cA ax n B Q cn rt wd qf T)) ++ [oD od cD vd])) (w := (wM cI ad th n B P bs)) (As := []) (rest := [.int ((nI (s_ms n B)))]) ⟨hx, hb, hml, hown, hts⟩ (kX2_missing l D cI ad th n B P bs H0.size  hB) (cwV 0 hts gL_law_X2_missing rfl rfl rfl hdX2_missing ⟨Nat.le_of_ble_eq_true rfl, Nat.le_of_ble_eq_true rfl⟩) (preM (wr := (([oL o cL vo] ++ (wX cI cZ cA ax n B Q cn rt wd qf T)) ++ [oD od cD vd])) (hK.sub [0] rfl) hP hD (ci := 4) rfl (q0 := 26) rfl rfl) hP hD hS hA rfl hl.1 rfl (Nat.le_of_ble_eq_true rfl) dL_law_594 ⟨by omega, by omega⟩ (fun r2 u2 H1 locs1 hp2 hP hD hS => ?_)
  have hr2 := hp2
  subst hr2
  refine lv_icmp_eq (tgt := 1652) hx hb dL_law_597 (by decide) (fun _ => ?_) (fun h => absurd rfl h)
  obtain ⟨hP, hD⟩ := R2A hP hD
  refine W.widen (k := cells + 4) (n := slots + 24) (by omega) (by omega) ?_
  exact kk _ _ _ _ _ ⟨hB, _, _, _, _, _, _, _, _, _, _, _, hQ, h_T, hP, hD, hS⟩ (lv_sub hl [0, 1, 2, 3, 4, 5] rfl)
set_option maxHeartbeats 4000000 in
set_option maxRecDepth 100000 in
theorem cs_8 {p : Program} {l : Launch} {e : Env} {s : State} {m : MethodId} {below : List Frame} {meth : Method} {c : Code} {b L : Nat} {xs : Nat → Int32} {D : va_G} {cI cZ cA cL cD : ClassId} {Z9 : State → Prop} (hfl : l.stackTraces = false) (C0 : LC p s m c b L xs D cI cZ cA cL cD) {ax ad : Nat → Nat} {o od n : Nat} {B : Nat → Nat → Nat} {i : Nat} (hi : i + 4 < L) {H : Heap} {locs : List Loc} {cells slots : Nat} {ls : Array Slot} (hf : cells + 4 ≤ room_1.cells ∧ slots + 24 ≤ room_1.slots) (hst : LSt D cI cZ cA cL cD ax ad o od n B s H locs) (hl : lv_has ls 9 (LV b ax ad o od i)) (kk : KK p l e s m below meth c b D cI cZ cA cL cD ax ad o od i cells slots Z9) : W p l e room_1 s m #[Value.ref b] below meth c H locs cells slots Z9 (F0 m 602 ls []) := by
  obtain ⟨hx, hb, hml, hown, hts, hX, hbl, hL, hK, hE0, hNC⟩ := id C0
  obtain ⟨hB, Q, cn, rt, wd, qf, T, th, P, bs, vo, vd, hQ, h_T, hP, hD, hS⟩ := hst
  have hA : ∀ q : Nat, s.heap.size ≤ q → LA s q := fun _ h => h
  have hbA : ¬ LA s b := Nat.not_le.mpr hbl
  obtain ⟨z1, e1⟩ : ∃ z, z = xs (nI (i + 1)).toNatClampNeg := ⟨_, rfl⟩
  have hl : lv_has ls 9 [(0, .ref b), (1, .ref (ax 0)), (2, .ref (ad 0)), (3, .ref o), (4, .ref od), (5, .int (nI i))] := hl
  obtain ⟨H0, eH0⟩ : ∃ z, z = H := ⟨_, rfl⟩
  subst eH0
  refine lv_aload_n hx hb dL_law_602 rfl (lv_at hl 1 rfl) ?_
  refine lv_aload_n hx hb dL_law_603 rfl (lv_at hl 0 rfl) ?_
  refine lv_iload hx hb dL_law_604 (lv_at hl 5 rfl) ?_
  refine lv_iconst (v := nI 1) hx hb dL_law_606 (by decide +kernel) ?_
  refine lv_iadd hx hb dL_law_607 ?_
  refine n_top (nI_add i 1) ?_
  refine va_sld hx hb hX hbl hbA hS (vp_in_nI (show i + 1 < L by omega) (by omega)) dL_law_608 ?_
  refine n_top e1.symm ?_
  refine lv_aload_n hx hb dL_law_609 rfl (lv_at hl 3 rfl) ?_
  have hE := hE0.kept hS.2.1
  refine xw_S (wr := (wM cI ad th n B P bs) ++ [oD od cD vd]) (w := [oL o cL vo] ++ (wX cI cZ cA ax n B Q cn rt wd qf T)) (As := [.ref (ax 0), .int z1, .ref o]) (rest := []) (tys0 := tyL cI cZ cA cL) ⟨hx, hb, hml, hown, hts⟩ (kL_aligned l hfl D cI cZ cA ax n B Q cn rt wd qf T o cL vo H0.size z1 hB h_T) (vx_cwSW 3 hts gL_law_L_aligned rfl rfl rfl hdL_aligned ⟨Nat.le_of_ble_eq_true rfl, Nat.le_of_ble_eq_true rfl⟩) (hK.sub [0, 1, 2, 3] rfl) hP hD hS hA hE hNC rfl hl.1 rfl (Nat.le_of_ble_eq_true rfl) dL_law_610 ⟨by omega, by omega⟩ (fun r1 v1 H1 locs1 hp1 hP hD hS => ?_)
  obtain ⟨hr1, hv1, hq0⟩ := hp1
  subst hr1
  refine lv_istore (lv' := [(6, .int (nI ((s_alc n B z1).1))), (0, .ref b), (1, .ref (ax 0)), (2, .ref (ad 0)), (3, .ref o), (4, .ref od), (5, .int (nI i))]) hx hb dL_law_613 hl (by decide) rfl (fun ls hl => ?_)
  obtain ⟨hP, hD⟩ := A2R hP hD
  refine lv_aload_n hx hb dL_law_615 rfl (lv_at hl 3 rfl) ?_
  refine lv_aload_n hx hb dL_law_616 rfl (lv_at hl 1 rfl) ?_
  refine lv_iload hx hb dL_law_617 (lv_at hl 6 rfl) ?_
  refine lv_iconst (v := nI 1) hx hb dL_law_619 (by decide +kernel) ?_
  refine lv_iadd hx hb dL_law_620 ?_
  refine n_top (nI_add i 1) ?_
  refine va_sld hx hb hX hbl hbA hS (vp_in_nI (show i + 1 < L by omega) (by omega)) dL_law_621 ?_
  refine n_top e1.symm ?_
  refine mo2_V (wr := (([oL o cL (v1.1)] ++ (wX cI cZ cA ax n B Q cn rt v1.2.1 v1.2.2.1 v1.2.2.2)) ++ [oD od cD vd])) (w := (wM cI ad th n B P bs)) (As := [.int z1]) (rest := []) ⟨hx, hb, hml, hown, hts⟩ (kX2_aligned l D cI ad th n B P bs H1.size z1 hB) (cwV 1 hts gL_law_X2_aligned rfl rfl rfl hdX2_aligned ⟨Nat.le_of_ble_eq_true rfl, Nat.le_of_ble_eq_true rfl⟩) (preM (wr := (([oL o cL (v1.1)] ++ (wX cI cZ cA ax n B Q cn rt v1.2.1 v1.2.2.1 v1.2.2.2)) ++ [oD od cD vd])) (hK.sub [0] rfl) hP hD (ci := 4) rfl (q0 := 26) rfl rfl) hP hD hS hA rfl hl.1 rfl (Nat.le_of_ble_eq_true rfl) dL_law_622 ⟨by omega, by omega⟩ (fun r2 u2 H2 locs2 hp2 hP hD hS => ?_)
  have hr2 := hp2
  subst hr2
  refine lv_istore (lv' := [(7, .int ((nI ((s_alc n B z1).2)))), (6, .int (nI ((s_alc n B z1).1))), (0, .ref b), (1, .ref (ax 0)), (2, .ref (ad 0)), (3, .ref o), (4, .ref od), (5, .int (nI i))]) hx hb dL_law_625 hl (by decide) rfl (fun ls hl => ?_)
  refine lv_aload_n hx hb dL_law_627 rfl (lv_at hl 4 rfl) ?_
  refine ro2_V (As := []) (rest := []) ⟨hx, hb, hml, hown, hts⟩ (kX2_thrown l D cI ad ((s_alc n B z1).1) n B u2.1 u2.2) (cwV 0 hts gL_law_X2_thrown rfl rfl rfl hdX2_thrown ⟨Nat.le_of_ble_eq_true rfl, Nat.le_of_ble_eq_true rfl⟩) (preR (wr := (([oL o cL (v1.1)] ++ (wX cI cZ cA ax n B Q cn rt v1.2.1 v1.2.2.1 v1.2.2.2)) ++ [oD od cD vd])) (hK.sub [0] rfl) hP (ci := 4) rfl (q0 := 26) rfl rfl) rfl hl.1 rfl (Nat.le_of_ble_eq_true rfl) dL_law_628 ⟨by omega, by omega⟩ ?_
  refine lv_iload hx hb dL_law_631 (lv_at hl 1 rfl) ?_
  refine lv_icmp_eq (tgt := 638) hx hb dL_law_633 (by decide) (fun _ => ?_) (fun h => absurd rfl h)
  refine lv_iload hx hb dL_law_638 (lv_at hl 1 rfl) ?_
  refine lv_if_ne (tgt := 655) hx hb dL_law_640 (by decide) (fun _ => ?_) (fun h0 => ?_)
  · obtain ⟨hP, hD⟩ := R2A hP hD
    refine lv_goto (tgt := 1652) hx hb dL_law_655 (by decide) ?_
    refine W.widen (k := cells + 4) (n := slots + 24) (by omega) (by omega) ?_
    exact kk _ _ _ _ _ ⟨hB, _, _, _, _, _, _, _, _, _, _, _, hQ, hq0, hP, hD, hS⟩ (lv_sub hl [2, 3, 4, 5, 6, 7] rfl)
  · have hv := hv1 (nI_0of (b_s_alc _ _ z1) h0)
    refine lv_aload_n hx hb dL_law_643 rfl (lv_at hl 5 rfl) ?_
    refine lv_iconst (v := nI 0) hx hb dL_law_644 (by decide +kernel) ?_
    refine va_lald hx hb hK hP 0 3 rfl rfl (vp_in_nI (by decide) (by decide)) dL_law_645 ?_
    refine lv_iload hx hb dL_law_646 (lv_at hl 0 rfl) ?_
    refine lv_i2l (v := ((nI ((s_alc n B z1).2))).toInt64) hx hb dL_law_648 rfl ?_
    refine W.lcmp hx hb dL_law_649 ?_
    refine lv_if_eq (tgt := 655) hx hb dL_law_650 (by decide) (fun _ => ?_) (fun h => absurd ((lg_cmp_eq _ _).mpr hv) h)
    refine lv_goto (tgt := 1652) hx hb dL_law_655 (by decide) ?_
    obtain ⟨hP, hD⟩ := R2A hP hD
    refine W.widen (k := cells + 4) (n := slots + 24) (by omega) (by omega) ?_
    exact kk _ _ _ _ _ ⟨hB, _, _, _, _, _, _, _, _, _, _, _, hQ, hq0, hP, hD, hS⟩ (lv_sub hl [2, 3, 4, 5, 6, 7] rfl)
set_option maxHeartbeats 4000000 in
set_option maxRecDepth 100000 in
theorem cs_9 {p : Program} {l : Launch} {e : Env} {s : State} {m : MethodId} {below : List Frame} {meth : Method} {c : Code} {b L : Nat} {xs : Nat → Int32} {D : va_G} {cI cZ cA cL cD : ClassId} {Z9 : State → Prop} (hfl : l.stackTraces = false) (C0 : LC p s m c b L xs D cI cZ cA cL cD) {ax ad : Nat → Nat} {o od n : Nat} {B : Nat → Nat → Nat} {i : Nat} (hi : i + 4 < L) {H : Heap} {locs : List Loc} {cells slots : Nat} {ls : Array Slot} (hf : cells + 4 ≤ room_1.cells ∧ slots + 24 ≤ room_1.slots) (hst : LSt D cI cZ cA cL cD ax ad o od n B s H locs) (hl : lv_has ls 9 (LV b ax ad o od i)) (kk : KK p l e s m below meth c b D cI cZ cA cL cD ax ad o od i cells slots Z9) : W p l e room_1 s m #[Value.ref b] below meth c H locs cells slots Z9 (F0 m 658 ls []) := by
  obtain ⟨hx, hb, hml, hown, hts, hX, hbl, hL, hK, hE0, hNC⟩ := id C0
  obtain ⟨hB, Q, cn, rt, wd, qf, T, th, P, bs, vo, vd, hQ, h_T, hP, hD, hS⟩ := hst
  have hA : ∀ q : Nat, s.heap.size ≤ q → LA s q := fun _ h => h
  have hbA : ¬ LA s b := Nat.not_le.mpr hbl
  obtain ⟨z1, e1⟩ : ∃ z, z = xs (nI (i + 1)).toNatClampNeg := ⟨_, rfl⟩
  have hl : lv_has ls 9 [(0, .ref b), (1, .ref (ax 0)), (2, .ref (ad 0)), (3, .ref o), (4, .ref od), (5, .int (nI i))] := hl
  obtain ⟨H0, eH0⟩ : ∃ z, z = H := ⟨_, rfl⟩
  subst eH0
  refine lv_aload_n hx hb dL_law_658 rfl (lv_at hl 1 rfl) ?_
  refine lv_aload_n hx hb dL_law_659 rfl (lv_at hl 0 rfl) ?_
  refine lv_iload hx hb dL_law_660 (lv_at hl 5 rfl) ?_
  refine lv_iconst (v := nI 1) hx hb dL_law_662 (by decide +kernel) ?_
  refine lv_iadd hx hb dL_law_663 ?_
  refine n_top (nI_add i 1) ?_
  refine va_sld hx hb hX hbl hbA hS (vp_in_nI (show i + 1 < L by omega) (by omega)) dL_law_664 ?_
  refine n_top e1.symm ?_
  refine lv_aload_n hx hb dL_law_665 rfl (lv_at hl 3 rfl) ?_
  have hE := hE0.kept hS.2.1
  refine xw_S (wr := (wM cI ad th n B P bs) ++ [oD od cD vd]) (w := [oL o cL vo] ++ (wX cI cZ cA ax n B Q cn rt wd qf T)) (As := [.ref (ax 0), .int z1, .ref o]) (rest := []) (tys0 := tyL cI cZ cA cL) ⟨hx, hb, hml, hown, hts⟩ (kL_alignedByTrying l hfl D cI cZ cA ax n B Q cn rt wd qf T o cL vo H0.size z1 hB) (vx_cwSW 3 hts gL_law_L_alignedByTrying rfl rfl rfl hdL_alignedByTrying ⟨Nat.le_of_ble_eq_true rfl, Nat.le_of_ble_eq_true rfl⟩) (hK.sub [0, 1, 2, 3] rfl) hP hD hS hA hE hNC rfl hl.1 rfl (Nat.le_of_ble_eq_true rfl) dL_law_666 ⟨by omega, by omega⟩ (fun r1 v1 H1 locs1 hp1 hP hD hS => ?_)
  obtain ⟨hr1, hv1⟩ := hp1
  subst hr1
  refine lv_istore (lv' := [(6, .int (nI ((s_alc n B z1).1))), (0, .ref b), (1, .ref (ax 0)), (2, .ref (ad 0)), (3, .ref o), (4, .ref od), (5, .int (nI i))]) hx hb dL_law_669 hl (by decide) rfl (fun ls hl => ?_)
  obtain ⟨hP, hD⟩ := A2R hP hD
  refine lv_aload_n hx hb dL_law_671 rfl (lv_at hl 3 rfl) ?_
  refine lv_aload_n hx hb dL_law_672 rfl (lv_at hl 1 rfl) ?_
  refine lv_iload hx hb dL_law_673 (lv_at hl 6 rfl) ?_
  refine lv_iconst (v := nI 1) hx hb dL_law_675 (by decide +kernel) ?_
  refine lv_iadd hx hb dL_law_676 ?_
  refine n_top (nI_add i 1) ?_
  refine va_sld hx hb hX hbl hbA hS (vp_in_nI (show i + 1 < L by omega) (by omega)) dL_law_677 ?_
  refine n_top e1.symm ?_
  refine mo2_V (wr := (([oL o cL (v1.1)] ++ (wX cI cZ cA ax n B Q cn rt v1.2.1 v1.2.2 T)) ++ [oD od cD vd])) (w := (wM cI ad th n B P bs)) (As := [.int z1]) (rest := []) ⟨hx, hb, hml, hown, hts⟩ (kX2_alignedByTrying l D cI ad th n B P bs H1.size z1 hB) (cwV 1 hts gL_law_X2_alignedByTrying rfl rfl rfl hdX2_alignedByTrying ⟨Nat.le_of_ble_eq_true rfl, Nat.le_of_ble_eq_true rfl⟩) (preM (wr := (([oL o cL (v1.1)] ++ (wX cI cZ cA ax n B Q cn rt v1.2.1 v1.2.2 T)) ++ [oD od cD vd])) (hK.sub [0] rfl) hP hD (ci := 4) rfl (q0 := 26) rfl rfl) hP hD hS hA rfl hl.1 rfl (Nat.le_of_ble_eq_true rfl) dL_law_678 ⟨by omega, by omega⟩ (fun r2 u2 H2 locs2 hp2 hP hD hS => ?_)
  have hr2 := hp2
  subst hr2
  refine lv_istore (lv' := [(7, .int ((nI ((s_alc n B z1).2)))), (6, .int (nI ((s_alc n B z1).1))), (0, .ref b), (1, .ref (ax 0)), (2, .ref (ad 0)), (3, .ref o), (4, .ref od), (5, .int (nI i))]) hx hb dL_law_681 hl (by decide) rfl (fun ls hl => ?_)
  refine lv_aload_n hx hb dL_law_683 rfl (lv_at hl 4 rfl) ?_
  refine ro2_V (As := []) (rest := []) ⟨hx, hb, hml, hown, hts⟩ (kX2_thrown l D cI ad ((s_alc n B z1).1) n B u2.1 u2.2) (cwV 0 hts gL_law_X2_thrown rfl rfl rfl hdX2_thrown ⟨Nat.le_of_ble_eq_true rfl, Nat.le_of_ble_eq_true rfl⟩) (preR (wr := (([oL o cL (v1.1)] ++ (wX cI cZ cA ax n B Q cn rt v1.2.1 v1.2.2 T)) ++ [oD od cD vd])) (hK.sub [0] rfl) hP (ci := 4) rfl (q0 := 26) rfl rfl) rfl hl.1 rfl (Nat.le_of_ble_eq_true rfl) dL_law_684 ⟨by omega, by omega⟩ ?_
  refine lv_iload hx hb dL_law_687 (lv_at hl 1 rfl) ?_
  refine lv_icmp_eq (tgt := 694) hx hb dL_law_689 (by decide) (fun _ => ?_) (fun h => absurd rfl h)
  refine lv_iload hx hb dL_law_694 (lv_at hl 1 rfl) ?_
  refine lv_if_ne (tgt := 711) hx hb dL_law_696 (by decide) (fun _ => ?_) (fun h0 => ?_)
  · obtain ⟨hP, hD⟩ := R2A hP hD
    refine lv_goto (tgt := 1652) hx hb dL_law_711 (by decide) ?_
    refine W.widen (k := cells + 4) (n := slots + 24) (by omega) (by omega) ?_
    exact kk _ _ _ _ _ ⟨hB, _, _, _, _, _, _, _, _, _, _, _, hQ, h_T, hP, hD, hS⟩ (lv_sub hl [2, 3, 4, 5, 6, 7] rfl)
  · have hv := hv1 (nI_0of (b_s_alc _ _ z1) h0)
    refine lv_aload_n hx hb dL_law_699 rfl (lv_at hl 5 rfl) ?_
    refine lv_iconst (v := nI 0) hx hb dL_law_700 (by decide +kernel) ?_
    refine va_lald hx hb hK hP 0 3 rfl rfl (vp_in_nI (by decide) (by decide)) dL_law_701 ?_
    refine lv_iload hx hb dL_law_702 (lv_at hl 0 rfl) ?_
    refine lv_i2l (v := ((nI ((s_alc n B z1).2))).toInt64) hx hb dL_law_704 rfl ?_
    refine W.lcmp hx hb dL_law_705 ?_
    refine lv_if_eq (tgt := 711) hx hb dL_law_706 (by decide) (fun _ => ?_) (fun h => absurd ((lg_cmp_eq _ _).mpr hv) h)
    refine lv_goto (tgt := 1652) hx hb dL_law_711 (by decide) ?_
    obtain ⟨hP, hD⟩ := R2A hP hD
    refine W.widen (k := cells + 4) (n := slots + 24) (by omega) (by omega) ?_
    exact kk _ _ _ _ _ ⟨hB, _, _, _, _, _, _, _, _, _, _, _, hQ, h_T, hP, hD, hS⟩ (lv_sub hl [2, 3, 4, 5, 6, 7] rfl)
set_option maxHeartbeats 4000000 in
set_option maxRecDepth 100000 in
theorem cs_10 {p : Program} {l : Launch} {e : Env} {s : State} {m : MethodId} {below : List Frame} {meth : Method} {c : Code} {b L : Nat} {xs : Nat → Int32} {D : va_G} {cI cZ cA cL cD : ClassId} {Z9 : State → Prop} (hfl : l.stackTraces = false) (C0 : LC p s m c b L xs D cI cZ cA cL cD) {ax ad : Nat → Nat} {o od n : Nat} {B : Nat → Nat → Nat} {i : Nat} (hi : i + 4 < L) {H : Heap} {locs : List Loc} {cells slots : Nat} {ls : Array Slot} (hf : cells + 4 ≤ room_1.cells ∧ slots + 24 ≤ room_1.slots) (hst : LSt D cI cZ cA cL cD ax ad o od n B s H locs) (hl : lv_has ls 9 (LV b ax ad o od i)) (kk : KK p l e s m below meth c b D cI cZ cA cL cD ax ad o od i cells slots Z9) : W p l e room_1 s m #[Value.ref b] below meth c H locs cells slots Z9 (F0 m 714 ls []) := by
  obtain ⟨hx, hb, hml, hown, hts, hX, hbl, hL, hK, hE0, hNC⟩ := id C0
  obtain ⟨hB, Q, cn, rt, wd, qf, T, th, P, bs, vo, vd, hQ, h_T, hP, hD, hS⟩ := hst
  have hA : ∀ q : Nat, s.heap.size ≤ q → LA s q := fun _ h => h
  have hbA : ¬ LA s b := Nat.not_le.mpr hbl
  obtain ⟨z1, e1⟩ : ∃ z, z = xs (nI (i + 1)).toNatClampNeg := ⟨_, rfl⟩
  obtain ⟨z2, e2⟩ : ∃ z, z = xs (nI (i + 2)).toNatClampNeg := ⟨_, rfl⟩
  have hl : lv_has ls 9 [(0, .ref b), (1, .ref (ax 0)), (2, .ref (ad 0)), (3, .ref o), (4, .ref od), (5, .int (nI i))] := hl
  obtain ⟨H0, eH0⟩ : ∃ z, z = H := ⟨_, rfl⟩
  subst eH0
  refine lv_aload_n hx hb dL_law_714 rfl (lv_at hl 1 rfl) ?_
  refine lv_aload_n hx hb dL_law_715 rfl (lv_at hl 0 rfl) ?_
  refine lv_iload hx hb dL_law_716 (lv_at hl 5 rfl) ?_
  refine lv_iconst (v := nI 1) hx hb dL_law_718 (by decide +kernel) ?_
  refine lv_iadd hx hb dL_law_719 ?_
  refine n_top (nI_add i 1) ?_
  refine va_sld hx hb hX hbl hbA hS (vp_in_nI (show i + 1 < L by omega) (by omega)) dL_law_720 ?_
  refine n_top e1.symm ?_
  refine lv_aload_n hx hb dL_law_721 rfl (lv_at hl 0 rfl) ?_
  refine lv_iload hx hb dL_law_722 (lv_at hl 5 rfl) ?_
  refine lv_iconst (v := nI 2) hx hb dL_law_724 (by decide +kernel) ?_
  refine lv_iadd hx hb dL_law_725 ?_
  refine n_top (nI_add i 2) ?_
  refine va_sld hx hb hX hbl hbA hS (vp_in_nI (show i + 2 < L by omega) (by omega)) dL_law_726 ?_
  refine n_top e2.symm ?_
  refine lv_aload_n hx hb dL_law_727 rfl (lv_at hl 3 rfl) ?_
  have hE := hE0.kept hS.2.1
  refine xw_S (wr := (wM cI ad th n B P bs) ++ [oD od cD vd]) (w := [oL o cL vo] ++ (wX cI cZ cA ax n B Q cn rt wd qf T)) (As := [.ref (ax 0), .int z1, .int z2, .ref o]) (rest := []) (tys0 := tyL cI cZ cA cL) ⟨hx, hb, hml, hown, hts⟩ (kL_partner l hfl D cI cZ cA ax n B Q cn rt wd qf T o cL vo H0.size z1 z2 hB hQ) (vx_cwSW 4 hts gL_law_L_partner rfl rfl rfl hdL_partner ⟨Nat.le_of_ble_eq_true rfl, Nat.le_of_ble_eq_true rfl⟩) (hK.sub [0, 1, 2, 3] rfl) hP hD hS hA hE hNC rfl hl.1 rfl (Nat.le_of_ble_eq_true rfl) dL_law_728 ⟨by omega, by omega⟩ (fun r1 v1 H1 locs1 hp1 hP hD hS => ?_)
  obtain ⟨hr1, hv1⟩ := hp1
  subst hr1
  refine lv_istore (lv' := [(6, .int (nI ((s_pr n B z1 z2).1))), (0, .ref b), (1, .ref (ax 0)), (2, .ref (ad 0)), (3, .ref o), (4, .ref od), (5, .int (nI i))]) hx hb dL_law_731 hl (by decide) rfl (fun ls hl => ?_)
  obtain ⟨hP, hD⟩ := A2R hP hD
  refine lv_aload_n hx hb dL_law_733 rfl (lv_at hl 3 rfl) ?_
  refine lv_aload_n hx hb dL_law_734 rfl (lv_at hl 1 rfl) ?_
  refine lv_iload hx hb dL_law_735 (lv_at hl 6 rfl) ?_
  refine lv_iconst (v := nI 1) hx hb dL_law_737 (by decide +kernel) ?_
  refine lv_iadd hx hb dL_law_738 ?_
  refine n_top (nI_add i 1) ?_
  refine va_sld hx hb hX hbl hbA hS (vp_in_nI (show i + 1 < L by omega) (by omega)) dL_law_739 ?_
  refine n_top e1.symm ?_
  refine lv_aload_n hx hb dL_law_740 rfl (lv_at hl 1 rfl) ?_
  refine lv_iload hx hb dL_law_741 (lv_at hl 6 rfl) ?_
  refine lv_iconst (v := nI 2) hx hb dL_law_743 (by decide +kernel) ?_
  refine lv_iadd hx hb dL_law_744 ?_
  refine n_top (nI_add i 2) ?_
  refine va_sld hx hb hX hbl hbA hS (vp_in_nI (show i + 2 < L by omega) (by omega)) dL_law_745 ?_
  refine n_top e2.symm ?_
  refine mo2_V (wr := (([oL o cL v1] ++ (wX cI cZ cA ax n B Q cn rt wd qf T)) ++ [oD od cD vd])) (w := (wM cI ad th n B P bs)) (As := [.int z1, .int z2]) (rest := []) ⟨hx, hb, hml, hown, hts⟩ (kX2_partner l D cI ad th n B P bs H1.size z1 z2 hB) (cwV 2 hts gL_law_X2_partner rfl rfl rfl hdX2_partner ⟨Nat.le_of_ble_eq_true rfl, Nat.le_of_ble_eq_true rfl⟩) (preM (wr := (([oL o cL v1] ++ (wX cI cZ cA ax n B Q cn rt wd qf T)) ++ [oD od cD vd])) (hK.sub [0] rfl) hP hD (ci := 4) rfl (q0 := 26) rfl rfl) hP hD hS hA rfl hl.1 rfl (Nat.le_of_ble_eq_true rfl) dL_law_746 ⟨by omega, by omega⟩ (fun r2 u2 H2 locs2 hp2 hP hD hS => ?_)
  have hr2 := hp2
  subst hr2
  refine lv_istore (lv' := [(7, .int ((nI ((s_pr n B z1 z2).2)))), (6, .int (nI ((s_pr n B z1 z2).1))), (0, .ref b), (1, .ref (ax 0)), (2, .ref (ad 0)), (3, .ref o), (4, .ref od), (5, .int (nI i))]) hx hb dL_law_749 hl (by decide) rfl (fun ls hl => ?_)
  refine lv_aload_n hx hb dL_law_751 rfl (lv_at hl 4 rfl) ?_
  refine ro2_V (As := []) (rest := []) ⟨hx, hb, hml, hown, hts⟩ (kX2_thrown l D cI ad ((s_pr n B z1 z2).1) n B u2.1 u2.2) (cwV 0 hts gL_law_X2_thrown rfl rfl rfl hdX2_thrown ⟨Nat.le_of_ble_eq_true rfl, Nat.le_of_ble_eq_true rfl⟩) (preR (wr := (([oL o cL v1] ++ (wX cI cZ cA ax n B Q cn rt wd qf T)) ++ [oD od cD vd])) (hK.sub [0] rfl) hP (ci := 4) rfl (q0 := 26) rfl rfl) rfl hl.1 rfl (Nat.le_of_ble_eq_true rfl) dL_law_752 ⟨by omega, by omega⟩ ?_
  refine lv_iload hx hb dL_law_755 (lv_at hl 1 rfl) ?_
  refine lv_icmp_eq (tgt := 762) hx hb dL_law_757 (by decide) (fun _ => ?_) (fun h => absurd rfl h)
  refine lv_iload hx hb dL_law_762 (lv_at hl 1 rfl) ?_
  refine lv_if_ne (tgt := 779) hx hb dL_law_764 (by decide) (fun _ => ?_) (fun h0 => ?_)
  · obtain ⟨hP, hD⟩ := R2A hP hD
    refine lv_goto (tgt := 1652) hx hb dL_law_779 (by decide) ?_
    refine W.widen (k := cells + 4) (n := slots + 24) (by omega) (by omega) ?_
    exact kk _ _ _ _ _ ⟨hB, _, _, _, _, _, _, _, _, _, _, _, hQ, h_T, hP, hD, hS⟩ (lv_sub hl [2, 3, 4, 5, 6, 7] rfl)
  · have hv := hv1 (nI_0of (b_s_pr _ _ z1 z2) h0)
    refine lv_aload_n hx hb dL_law_767 rfl (lv_at hl 5 rfl) ?_
    refine lv_iconst (v := nI 0) hx hb dL_law_768 (by decide +kernel) ?_
    refine va_lald hx hb hK hP 0 3 rfl rfl (vp_in_nI (by decide) (by decide)) dL_law_769 ?_
    refine lv_iload hx hb dL_law_770 (lv_at hl 0 rfl) ?_
    refine lv_i2l (v := ((nI ((s_pr n B z1 z2).2))).toInt64) hx hb dL_law_772 rfl ?_
    refine W.lcmp hx hb dL_law_773 ?_
    refine lv_if_eq (tgt := 779) hx hb dL_law_774 (by decide) (fun _ => ?_) (fun h => absurd ((lg_cmp_eq _ _).mpr hv) h)
    refine lv_goto (tgt := 1652) hx hb dL_law_779 (by decide) ?_
    obtain ⟨hP, hD⟩ := R2A hP hD
    refine W.widen (k := cells + 4) (n := slots + 24) (by omega) (by omega) ?_
    exact kk _ _ _ _ _ ⟨hB, _, _, _, _, _, _, _, _, _, _, _, hQ, h_T, hP, hD, hS⟩ (lv_sub hl [2, 3, 4, 5, 6, 7] rfl)
set_option maxHeartbeats 4000000 in
set_option maxRecDepth 100000 in
theorem cs_11 {p : Program} {l : Launch} {e : Env} {s : State} {m : MethodId} {below : List Frame} {meth : Method} {c : Code} {b L : Nat} {xs : Nat → Int32} {D : va_G} {cI cZ cA cL cD : ClassId} {Z9 : State → Prop} (hfl : l.stackTraces = false) (C0 : LC p s m c b L xs D cI cZ cA cL cD) {ax ad : Nat → Nat} {o od n : Nat} {B : Nat → Nat → Nat} {i : Nat} (hi : i + 4 < L) {H : Heap} {locs : List Loc} {cells slots : Nat} {ls : Array Slot} (hf : cells + 4 ≤ room_1.cells ∧ slots + 24 ≤ room_1.slots) (hst : LSt D cI cZ cA cL cD ax ad o od n B s H locs) (hl : lv_has ls 9 (LV b ax ad o od i)) (kk : KK p l e s m below meth c b D cI cZ cA cL cD ax ad o od i cells slots Z9) : W p l e room_1 s m #[Value.ref b] below meth c H locs cells slots Z9 (F0 m 782 ls []) := by
  obtain ⟨hx, hb, hml, hown, hts, hX, hbl, hL, hK, hE0, hNC⟩ := id C0
  obtain ⟨hB, Q, cn, rt, wd, qf, T, th, P, bs, vo, vd, hQ, h_T, hP, hD, hS⟩ := hst
  have hA : ∀ q : Nat, s.heap.size ≤ q → LA s q := fun _ h => h
  have hbA : ¬ LA s b := Nat.not_le.mpr hbl
  obtain ⟨z1, e1⟩ : ∃ z, z = xs (nI (i + 1)).toNatClampNeg := ⟨_, rfl⟩
  obtain ⟨z2, e2⟩ : ∃ z, z = xs (nI (i + 2)).toNatClampNeg := ⟨_, rfl⟩
  have hl : lv_has ls 9 [(0, .ref b), (1, .ref (ax 0)), (2, .ref (ad 0)), (3, .ref o), (4, .ref od), (5, .int (nI i))] := hl
  obtain ⟨H0, eH0⟩ : ∃ z, z = H := ⟨_, rfl⟩
  subst eH0
  refine lv_aload_n hx hb dL_law_782 rfl (lv_at hl 1 rfl) ?_
  refine lv_aload_n hx hb dL_law_783 rfl (lv_at hl 0 rfl) ?_
  refine lv_iload hx hb dL_law_784 (lv_at hl 5 rfl) ?_
  refine lv_iconst (v := nI 1) hx hb dL_law_786 (by decide +kernel) ?_
  refine lv_iadd hx hb dL_law_787 ?_
  refine n_top (nI_add i 1) ?_
  refine va_sld hx hb hX hbl hbA hS (vp_in_nI (show i + 1 < L by omega) (by omega)) dL_law_788 ?_
  refine n_top e1.symm ?_
  refine lv_aload_n hx hb dL_law_789 rfl (lv_at hl 0 rfl) ?_
  refine lv_iload hx hb dL_law_790 (lv_at hl 5 rfl) ?_
  refine lv_iconst (v := nI 2) hx hb dL_law_792 (by decide +kernel) ?_
  refine lv_iadd hx hb dL_law_793 ?_
  refine n_top (nI_add i 2) ?_
  refine va_sld hx hb hX hbl hbA hS (vp_in_nI (show i + 2 < L by omega) (by omega)) dL_law_794 ?_
  refine n_top e2.symm ?_
  refine lv_aload_n hx hb dL_law_795 rfl (lv_at hl 3 rfl) ?_
  have hE := hE0.kept hS.2.1
  refine xw_S (wr := (wM cI ad th n B P bs) ++ [oD od cD vd]) (w := [oL o cL vo] ++ (wX cI cZ cA ax n B Q cn rt wd qf T)) (As := [.ref (ax 0), .int z1, .int z2, .ref o]) (rest := []) (tys0 := tyL cI cZ cA cL) ⟨hx, hb, hml, hown, hts⟩ (kL_originMail l hfl D cI cZ cA ax n B Q cn rt wd qf T o cL vo H0.size z1 z2 hB hQ) (vx_cwSW 4 hts gL_law_L_originMail rfl rfl rfl hdL_originMail ⟨Nat.le_of_ble_eq_true rfl, Nat.le_of_ble_eq_true rfl⟩) (hK.sub [0, 1, 2, 3] rfl) hP hD hS hA hE hNC rfl hl.1 rfl (Nat.le_of_ble_eq_true rfl) dL_law_796 ⟨by omega, by omega⟩ (fun r1 v1 H1 locs1 hp1 hP hD hS => ?_)
  obtain ⟨hr1, hv1⟩ := hp1
  subst hr1
  refine lv_istore (lv' := [(6, .int (nI ((s_orc n B z1 z2).1))), (0, .ref b), (1, .ref (ax 0)), (2, .ref (ad 0)), (3, .ref o), (4, .ref od), (5, .int (nI i))]) hx hb dL_law_799 hl (by decide) rfl (fun ls hl => ?_)
  obtain ⟨hP, hD⟩ := A2R hP hD
  refine lv_aload_n hx hb dL_law_801 rfl (lv_at hl 3 rfl) ?_
  refine lv_aload_n hx hb dL_law_802 rfl (lv_at hl 1 rfl) ?_
  refine lv_iload hx hb dL_law_803 (lv_at hl 6 rfl) ?_
  refine lv_iconst (v := nI 1) hx hb dL_law_805 (by decide +kernel) ?_
  refine lv_iadd hx hb dL_law_806 ?_
  refine n_top (nI_add i 1) ?_
  refine va_sld hx hb hX hbl hbA hS (vp_in_nI (show i + 1 < L by omega) (by omega)) dL_law_807 ?_
  refine n_top e1.symm ?_
  refine lv_aload_n hx hb dL_law_808 rfl (lv_at hl 1 rfl) ?_
  refine lv_iload hx hb dL_law_809 (lv_at hl 6 rfl) ?_
  refine lv_iconst (v := nI 2) hx hb dL_law_811 (by decide +kernel) ?_
  refine lv_iadd hx hb dL_law_812 ?_
  refine n_top (nI_add i 2) ?_
  refine va_sld hx hb hX hbl hbA hS (vp_in_nI (show i + 2 < L by omega) (by omega)) dL_law_813 ?_
  refine n_top e2.symm ?_
  refine mo2_V (wr := (([oL o cL v1] ++ (wX cI cZ cA ax n B Q cn rt wd qf T)) ++ [oD od cD vd])) (w := (wM cI ad th n B P bs)) (As := [.int z1, .int z2]) (rest := []) ⟨hx, hb, hml, hown, hts⟩ (kX2_originMail l D cI ad th n B P bs H1.size z1 z2 hB) (cwV 2 hts gL_law_X2_originMail rfl rfl rfl hdX2_originMail ⟨Nat.le_of_ble_eq_true rfl, Nat.le_of_ble_eq_true rfl⟩) (preM (wr := (([oL o cL v1] ++ (wX cI cZ cA ax n B Q cn rt wd qf T)) ++ [oD od cD vd])) (hK.sub [0] rfl) hP hD (ci := 4) rfl (q0 := 26) rfl rfl) hP hD hS hA rfl hl.1 rfl (Nat.le_of_ble_eq_true rfl) dL_law_814 ⟨by omega, by omega⟩ (fun r2 u2 H2 locs2 hp2 hP hD hS => ?_)
  have hr2 := hp2
  subst hr2
  refine lv_istore (lv' := [(7, .int ((nI ((s_orc n B z1 z2).2 / 8)))), (6, .int (nI ((s_orc n B z1 z2).1))), (0, .ref b), (1, .ref (ax 0)), (2, .ref (ad 0)), (3, .ref o), (4, .ref od), (5, .int (nI i))]) hx hb dL_law_817 hl (by decide) rfl (fun ls hl => ?_)
  refine lv_aload_n hx hb dL_law_819 rfl (lv_at hl 4 rfl) ?_
  refine ro2_V (As := []) (rest := []) ⟨hx, hb, hml, hown, hts⟩ (kX2_thrown l D cI ad ((s_orc n B z1 z2).1) n B u2.1 u2.2) (cwV 0 hts gL_law_X2_thrown rfl rfl rfl hdX2_thrown ⟨Nat.le_of_ble_eq_true rfl, Nat.le_of_ble_eq_true rfl⟩) (preR (wr := (([oL o cL v1] ++ (wX cI cZ cA ax n B Q cn rt wd qf T)) ++ [oD od cD vd])) (hK.sub [0] rfl) hP (ci := 4) rfl (q0 := 26) rfl rfl) rfl hl.1 rfl (Nat.le_of_ble_eq_true rfl) dL_law_820 ⟨by omega, by omega⟩ ?_
  refine lv_iload hx hb dL_law_823 (lv_at hl 1 rfl) ?_
  refine lv_icmp_eq (tgt := 830) hx hb dL_law_825 (by decide) (fun _ => ?_) (fun h => absurd rfl h)
  refine lv_iload hx hb dL_law_830 (lv_at hl 1 rfl) ?_
  refine lv_if_ne (tgt := 847) hx hb dL_law_832 (by decide) (fun _ => ?_) (fun h0 => ?_)
  · obtain ⟨hP, hD⟩ := R2A hP hD
    refine lv_goto (tgt := 1652) hx hb dL_law_847 (by decide) ?_
    refine W.widen (k := cells + 4) (n := slots + 24) (by omega) (by omega) ?_
    exact kk _ _ _ _ _ ⟨hB, _, _, _, _, _, _, _, _, _, _, _, hQ, h_T, hP, hD, hS⟩ (lv_sub hl [2, 3, 4, 5, 6, 7] rfl)
  · have hv := hv1 (nI_0of (b_s_orc _ _ z1 z2) h0)
    refine lv_aload_n hx hb dL_law_835 rfl (lv_at hl 5 rfl) ?_
    refine lv_iconst (v := nI 0) hx hb dL_law_836 (by decide +kernel) ?_
    refine va_lald hx hb hK hP 0 3 rfl rfl (vp_in_nI (by decide) (by decide)) dL_law_837 ?_
    refine lv_iload hx hb dL_law_838 (lv_at hl 0 rfl) ?_
    refine lv_i2l (v := ((nI ((s_orc n B z1 z2).2 / 8))).toInt64) hx hb dL_law_840 rfl ?_
    refine W.lcmp hx hb dL_law_841 ?_
    refine lv_if_eq (tgt := 847) hx hb dL_law_842 (by decide) (fun _ => ?_) (fun h => absurd ((lg_cmp_eq _ _).mpr hv) h)
    refine lv_goto (tgt := 1652) hx hb dL_law_847 (by decide) ?_
    obtain ⟨hP, hD⟩ := R2A hP hD
    refine W.widen (k := cells + 4) (n := slots + 24) (by omega) (by omega) ?_
    exact kk _ _ _ _ _ ⟨hB, _, _, _, _, _, _, _, _, _, _, _, hQ, h_T, hP, hD, hS⟩ (lv_sub hl [2, 3, 4, 5, 6, 7] rfl)
set_option maxHeartbeats 4000000 in
set_option maxRecDepth 100000 in
theorem cs_12 {p : Program} {l : Launch} {e : Env} {s : State} {m : MethodId} {below : List Frame} {meth : Method} {c : Code} {b L : Nat} {xs : Nat → Int32} {D : va_G} {cI cZ cA cL cD : ClassId} {Z9 : State → Prop} (hfl : l.stackTraces = false) (C0 : LC p s m c b L xs D cI cZ cA cL cD) {ax ad : Nat → Nat} {o od n : Nat} {B : Nat → Nat → Nat} {i : Nat} (hi : i + 4 < L) {H : Heap} {locs : List Loc} {cells slots : Nat} {ls : Array Slot} (hf : cells + 4 ≤ room_1.cells ∧ slots + 24 ≤ room_1.slots) (hst : LSt D cI cZ cA cL cD ax ad o od n B s H locs) (hl : lv_has ls 9 (LV b ax ad o od i)) (kk : KK p l e s m below meth c b D cI cZ cA cL cD ax ad o od i cells slots Z9) : W p l e room_1 s m #[Value.ref b] below meth c H locs cells slots Z9 (F0 m 850 ls []) := by
  obtain ⟨hx, hb, hml, hown, hts, hX, hbl, hL, hK, hE0, hNC⟩ := id C0
  obtain ⟨hB, Q, cn, rt, wd, qf, T, th, P, bs, vo, vd, hQ, h_T, hP, hD, hS⟩ := hst
  have hA : ∀ q : Nat, s.heap.size ≤ q → LA s q := fun _ h => h
  have hbA : ¬ LA s b := Nat.not_le.mpr hbl
  obtain ⟨z1, e1⟩ : ∃ z, z = xs (nI (i + 1)).toNatClampNeg := ⟨_, rfl⟩
  obtain ⟨z2, e2⟩ : ∃ z, z = xs (nI (i + 2)).toNatClampNeg := ⟨_, rfl⟩
  have hl : lv_has ls 9 [(0, .ref b), (1, .ref (ax 0)), (2, .ref (ad 0)), (3, .ref o), (4, .ref od), (5, .int (nI i))] := hl
  obtain ⟨H0, eH0⟩ : ∃ z, z = H := ⟨_, rfl⟩
  subst eH0
  refine lv_aload_n hx hb dL_law_850 rfl (lv_at hl 1 rfl) ?_
  refine lv_aload_n hx hb dL_law_851 rfl (lv_at hl 0 rfl) ?_
  refine lv_iload hx hb dL_law_852 (lv_at hl 5 rfl) ?_
  refine lv_iconst (v := nI 1) hx hb dL_law_854 (by decide +kernel) ?_
  refine lv_iadd hx hb dL_law_855 ?_
  refine n_top (nI_add i 1) ?_
  refine va_sld hx hb hX hbl hbA hS (vp_in_nI (show i + 1 < L by omega) (by omega)) dL_law_856 ?_
  refine n_top e1.symm ?_
  refine lv_aload_n hx hb dL_law_857 rfl (lv_at hl 0 rfl) ?_
  refine lv_iload hx hb dL_law_858 (lv_at hl 5 rfl) ?_
  refine lv_iconst (v := nI 2) hx hb dL_law_860 (by decide +kernel) ?_
  refine lv_iadd hx hb dL_law_861 ?_
  refine n_top (nI_add i 2) ?_
  refine va_sld hx hb hX hbl hbA hS (vp_in_nI (show i + 2 < L by omega) (by omega)) dL_law_862 ?_
  refine n_top e2.symm ?_
  refine lv_aload_n hx hb dL_law_863 rfl (lv_at hl 3 rfl) ?_
  have hE := hE0.kept hS.2.1
  refine xw_S (wr := (wM cI ad th n B P bs) ++ [oD od cD vd]) (w := [oL o cL vo] ++ (wX cI cZ cA ax n B Q cn rt wd qf T)) (As := [.ref (ax 0), .int z1, .int z2, .ref o]) (rest := []) (tys0 := tyL cI cZ cA cL) ⟨hx, hb, hml, hown, hts⟩ (kL_originLine l hfl D cI cZ cA ax n B Q cn rt wd qf T o cL vo H0.size z1 z2 hB hQ) (vx_cwSW 4 hts gL_law_L_originLine rfl rfl rfl hdL_originLine ⟨Nat.le_of_ble_eq_true rfl, Nat.le_of_ble_eq_true rfl⟩) (hK.sub [0, 1, 2, 3] rfl) hP hD hS hA hE hNC rfl hl.1 rfl (Nat.le_of_ble_eq_true rfl) dL_law_864 ⟨by omega, by omega⟩ (fun r1 v1 H1 locs1 hp1 hP hD hS => ?_)
  obtain ⟨hr1, hv1⟩ := hp1
  subst hr1
  refine lv_istore (lv' := [(6, .int (nI ((s_orc n B z1 z2).1))), (0, .ref b), (1, .ref (ax 0)), (2, .ref (ad 0)), (3, .ref o), (4, .ref od), (5, .int (nI i))]) hx hb dL_law_867 hl (by decide) rfl (fun ls hl => ?_)
  obtain ⟨hP, hD⟩ := A2R hP hD
  refine lv_aload_n hx hb dL_law_869 rfl (lv_at hl 3 rfl) ?_
  refine lv_aload_n hx hb dL_law_870 rfl (lv_at hl 1 rfl) ?_
  refine lv_iload hx hb dL_law_871 (lv_at hl 6 rfl) ?_
  refine lv_iconst (v := nI 1) hx hb dL_law_873 (by decide +kernel) ?_
  refine lv_iadd hx hb dL_law_874 ?_
  refine n_top (nI_add i 1) ?_
  refine va_sld hx hb hX hbl hbA hS (vp_in_nI (show i + 1 < L by omega) (by omega)) dL_law_875 ?_
  refine n_top e1.symm ?_
  refine lv_aload_n hx hb dL_law_876 rfl (lv_at hl 1 rfl) ?_
  refine lv_iload hx hb dL_law_877 (lv_at hl 6 rfl) ?_
  refine lv_iconst (v := nI 2) hx hb dL_law_879 (by decide +kernel) ?_
  refine lv_iadd hx hb dL_law_880 ?_
  refine n_top (nI_add i 2) ?_
  refine va_sld hx hb hX hbl hbA hS (vp_in_nI (show i + 2 < L by omega) (by omega)) dL_law_881 ?_
  refine n_top e2.symm ?_
  refine mo2_V (wr := (([oL o cL v1] ++ (wX cI cZ cA ax n B Q cn rt wd qf T)) ++ [oD od cD vd])) (w := (wM cI ad th n B P bs)) (As := [.int z1, .int z2]) (rest := []) ⟨hx, hb, hml, hown, hts⟩ (kX2_originLine l D cI ad th n B P bs H1.size z1 z2 hB) (cwV 2 hts gL_law_X2_originLine rfl rfl rfl hdX2_originLine ⟨Nat.le_of_ble_eq_true rfl, Nat.le_of_ble_eq_true rfl⟩) (preM (wr := (([oL o cL v1] ++ (wX cI cZ cA ax n B Q cn rt wd qf T)) ++ [oD od cD vd])) (hK.sub [0] rfl) hP hD (ci := 4) rfl (q0 := 26) rfl rfl) hP hD hS hA rfl hl.1 rfl (Nat.le_of_ble_eq_true rfl) dL_law_882 ⟨by omega, by omega⟩ (fun r2 u2 H2 locs2 hp2 hP hD hS => ?_)
  have hr2 := hp2
  subst hr2
  refine lv_istore (lv' := [(7, .int ((nI ((s_orc n B z1 z2).2 % 8)))), (6, .int (nI ((s_orc n B z1 z2).1))), (0, .ref b), (1, .ref (ax 0)), (2, .ref (ad 0)), (3, .ref o), (4, .ref od), (5, .int (nI i))]) hx hb dL_law_885 hl (by decide) rfl (fun ls hl => ?_)
  refine lv_aload_n hx hb dL_law_887 rfl (lv_at hl 4 rfl) ?_
  refine ro2_V (As := []) (rest := []) ⟨hx, hb, hml, hown, hts⟩ (kX2_thrown l D cI ad ((s_orc n B z1 z2).1) n B u2.1 u2.2) (cwV 0 hts gL_law_X2_thrown rfl rfl rfl hdX2_thrown ⟨Nat.le_of_ble_eq_true rfl, Nat.le_of_ble_eq_true rfl⟩) (preR (wr := (([oL o cL v1] ++ (wX cI cZ cA ax n B Q cn rt wd qf T)) ++ [oD od cD vd])) (hK.sub [0] rfl) hP (ci := 4) rfl (q0 := 26) rfl rfl) rfl hl.1 rfl (Nat.le_of_ble_eq_true rfl) dL_law_888 ⟨by omega, by omega⟩ ?_
  refine lv_iload hx hb dL_law_891 (lv_at hl 1 rfl) ?_
  refine lv_icmp_eq (tgt := 898) hx hb dL_law_893 (by decide) (fun _ => ?_) (fun h => absurd rfl h)
  refine lv_iload hx hb dL_law_898 (lv_at hl 1 rfl) ?_
  refine lv_if_ne (tgt := 915) hx hb dL_law_900 (by decide) (fun _ => ?_) (fun h0 => ?_)
  · obtain ⟨hP, hD⟩ := R2A hP hD
    refine lv_goto (tgt := 1652) hx hb dL_law_915 (by decide) ?_
    refine W.widen (k := cells + 4) (n := slots + 24) (by omega) (by omega) ?_
    exact kk _ _ _ _ _ ⟨hB, _, _, _, _, _, _, _, _, _, _, _, hQ, h_T, hP, hD, hS⟩ (lv_sub hl [2, 3, 4, 5, 6, 7] rfl)
  · have hv := hv1 (nI_0of (b_s_orc _ _ z1 z2) h0)
    refine lv_aload_n hx hb dL_law_903 rfl (lv_at hl 5 rfl) ?_
    refine lv_iconst (v := nI 0) hx hb dL_law_904 (by decide +kernel) ?_
    refine va_lald hx hb hK hP 0 3 rfl rfl (vp_in_nI (by decide) (by decide)) dL_law_905 ?_
    refine lv_iload hx hb dL_law_906 (lv_at hl 0 rfl) ?_
    refine lv_i2l (v := ((nI ((s_orc n B z1 z2).2 % 8))).toInt64) hx hb dL_law_908 rfl ?_
    refine W.lcmp hx hb dL_law_909 ?_
    refine lv_if_eq (tgt := 915) hx hb dL_law_910 (by decide) (fun _ => ?_) (fun h => absurd ((lg_cmp_eq _ _).mpr hv) h)
    refine lv_goto (tgt := 1652) hx hb dL_law_915 (by decide) ?_
    obtain ⟨hP, hD⟩ := R2A hP hD
    refine W.widen (k := cells + 4) (n := slots + 24) (by omega) (by omega) ?_
    exact kk _ _ _ _ _ ⟨hB, _, _, _, _, _, _, _, _, _, _, _, hQ, h_T, hP, hD, hS⟩ (lv_sub hl [2, 3, 4, 5, 6, 7] rfl)
set_option maxHeartbeats 4000000 in
set_option maxRecDepth 100000 in
theorem cs_13 {p : Program} {l : Launch} {e : Env} {s : State} {m : MethodId} {below : List Frame} {meth : Method} {c : Code} {b L : Nat} {xs : Nat → Int32} {D : va_G} {cI cZ cA cL cD : ClassId} {Z9 : State → Prop} (hfl : l.stackTraces = false) (C0 : LC p s m c b L xs D cI cZ cA cL cD) {ax ad : Nat → Nat} {o od n : Nat} {B : Nat → Nat → Nat} {i : Nat} (hi : i + 4 < L) {H : Heap} {locs : List Loc} {cells slots : Nat} {ls : Array Slot} (hf : cells + 4 ≤ room_1.cells ∧ slots + 24 ≤ room_1.slots) (hst : LSt D cI cZ cA cL cD ax ad o od n B s H locs) (hl : lv_has ls 9 (LV b ax ad o od i)) (kk : KK p l e s m below meth c b D cI cZ cA cL cD ax ad o od i cells slots Z9) : W p l e room_1 s m #[Value.ref b] below meth c H locs cells slots Z9 (F0 m 918 ls []) := by
  obtain ⟨hx, hb, hml, hown, hts, hX, hbl, hL, hK, hE0, hNC⟩ := id C0
  obtain ⟨hB, Q, cn, rt, wd, qf, T, th, P, bs, vo, vd, hQ, h_T, hP, hD, hS⟩ := hst
  have hA : ∀ q : Nat, s.heap.size ≤ q → LA s q := fun _ h => h
  have hbA : ¬ LA s b := Nat.not_le.mpr hbl
  obtain ⟨z1, e1⟩ : ∃ z, z = xs (nI (i + 1)).toNatClampNeg := ⟨_, rfl⟩
  obtain ⟨z2, e2⟩ : ∃ z, z = xs (nI (i + 2)).toNatClampNeg := ⟨_, rfl⟩
  have hl : lv_has ls 9 [(0, .ref b), (1, .ref (ax 0)), (2, .ref (ad 0)), (3, .ref o), (4, .ref od), (5, .int (nI i))] := hl
  obtain ⟨H0, eH0⟩ : ∃ z, z = H := ⟨_, rfl⟩
  subst eH0
  refine lv_aload_n hx hb dL_law_918 rfl (lv_at hl 1 rfl) ?_
  refine lv_aload_n hx hb dL_law_919 rfl (lv_at hl 0 rfl) ?_
  refine lv_iload hx hb dL_law_920 (lv_at hl 5 rfl) ?_
  refine lv_iconst (v := nI 1) hx hb dL_law_922 (by decide +kernel) ?_
  refine lv_iadd hx hb dL_law_923 ?_
  refine n_top (nI_add i 1) ?_
  refine va_sld hx hb hX hbl hbA hS (vp_in_nI (show i + 1 < L by omega) (by omega)) dL_law_924 ?_
  refine n_top e1.symm ?_
  refine lv_aload_n hx hb dL_law_925 rfl (lv_at hl 0 rfl) ?_
  refine lv_iload hx hb dL_law_926 (lv_at hl 5 rfl) ?_
  refine lv_iconst (v := nI 2) hx hb dL_law_928 (by decide +kernel) ?_
  refine lv_iadd hx hb dL_law_929 ?_
  refine n_top (nI_add i 2) ?_
  refine va_sld hx hb hX hbl hbA hS (vp_in_nI (show i + 2 < L by omega) (by omega)) dL_law_930 ?_
  refine n_top e2.symm ?_
  refine lv_aload_n hx hb dL_law_931 rfl (lv_at hl 3 rfl) ?_
  have hE := hE0.kept hS.2.1
  refine xw_S (wr := (wM cI ad th n B P bs) ++ [oD od cD vd]) (w := [oL o cL vo] ++ (wX cI cZ cA ax n B Q cn rt wd qf T)) (As := [.ref (ax 0), .int z1, .int z2, .ref o]) (rest := []) (tys0 := tyL cI cZ cA cL) ⟨hx, hb, hml, hown, hts⟩ (kL_kind l hfl D cI cZ cA ax n B Q cn rt wd qf T o cL vo H0.size z1 z2 hB hQ) (vx_cwSW 4 hts gL_law_L_kind rfl rfl rfl hdL_kind ⟨Nat.le_of_ble_eq_true rfl, Nat.le_of_ble_eq_true rfl⟩) (hK.sub [0, 1, 2, 3] rfl) hP hD hS hA hE hNC rfl hl.1 rfl (Nat.le_of_ble_eq_true rfl) dL_law_932 ⟨by omega, by omega⟩ (fun r1 v1 H1 locs1 hp1 hP hD hS => ?_)
  obtain ⟨hr1, hv1⟩ := hp1
  subst hr1
  refine lv_istore (lv' := [(6, .int (nI ((s_kd n B z1 z2).1))), (0, .ref b), (1, .ref (ax 0)), (2, .ref (ad 0)), (3, .ref o), (4, .ref od), (5, .int (nI i))]) hx hb dL_law_935 hl (by decide) rfl (fun ls hl => ?_)
  obtain ⟨hP, hD⟩ := A2R hP hD
  refine lv_aload_n hx hb dL_law_937 rfl (lv_at hl 3 rfl) ?_
  refine lv_aload_n hx hb dL_law_938 rfl (lv_at hl 1 rfl) ?_
  refine lv_iload hx hb dL_law_939 (lv_at hl 6 rfl) ?_
  refine lv_iconst (v := nI 1) hx hb dL_law_941 (by decide +kernel) ?_
  refine lv_iadd hx hb dL_law_942 ?_
  refine n_top (nI_add i 1) ?_
  refine va_sld hx hb hX hbl hbA hS (vp_in_nI (show i + 1 < L by omega) (by omega)) dL_law_943 ?_
  refine n_top e1.symm ?_
  refine lv_aload_n hx hb dL_law_944 rfl (lv_at hl 1 rfl) ?_
  refine lv_iload hx hb dL_law_945 (lv_at hl 6 rfl) ?_
  refine lv_iconst (v := nI 2) hx hb dL_law_947 (by decide +kernel) ?_
  refine lv_iadd hx hb dL_law_948 ?_
  refine n_top (nI_add i 2) ?_
  refine va_sld hx hb hX hbl hbA hS (vp_in_nI (show i + 2 < L by omega) (by omega)) dL_law_949 ?_
  refine n_top e2.symm ?_
  refine mo2_V (wr := (([oL o cL v1] ++ (wX cI cZ cA ax n B Q cn rt wd qf T)) ++ [oD od cD vd])) (w := (wM cI ad th n B P bs)) (As := [.int z1, .int z2]) (rest := []) ⟨hx, hb, hml, hown, hts⟩ (kX2_kind l D cI ad th n B P bs H1.size z1 z2 hB) (cwV 2 hts gL_law_X2_kind rfl rfl rfl hdX2_kind ⟨Nat.le_of_ble_eq_true rfl, Nat.le_of_ble_eq_true rfl⟩) (preM (wr := (([oL o cL v1] ++ (wX cI cZ cA ax n B Q cn rt wd qf T)) ++ [oD od cD vd])) (hK.sub [0] rfl) hP hD (ci := 4) rfl (q0 := 26) rfl rfl) hP hD hS hA rfl hl.1 rfl (Nat.le_of_ble_eq_true rfl) dL_law_950 ⟨by omega, by omega⟩ (fun r2 u2 H2 locs2 hp2 hP hD hS => ?_)
  have hr2 := hp2
  subst hr2
  refine lv_istore (lv' := [(7, .int ((nI ((s_kd n B z1 z2).2)))), (6, .int (nI ((s_kd n B z1 z2).1))), (0, .ref b), (1, .ref (ax 0)), (2, .ref (ad 0)), (3, .ref o), (4, .ref od), (5, .int (nI i))]) hx hb dL_law_953 hl (by decide) rfl (fun ls hl => ?_)
  refine lv_aload_n hx hb dL_law_955 rfl (lv_at hl 4 rfl) ?_
  refine ro2_V (As := []) (rest := []) ⟨hx, hb, hml, hown, hts⟩ (kX2_thrown l D cI ad ((s_kd n B z1 z2).1) n B u2.1 u2.2) (cwV 0 hts gL_law_X2_thrown rfl rfl rfl hdX2_thrown ⟨Nat.le_of_ble_eq_true rfl, Nat.le_of_ble_eq_true rfl⟩) (preR (wr := (([oL o cL v1] ++ (wX cI cZ cA ax n B Q cn rt wd qf T)) ++ [oD od cD vd])) (hK.sub [0] rfl) hP (ci := 4) rfl (q0 := 26) rfl rfl) rfl hl.1 rfl (Nat.le_of_ble_eq_true rfl) dL_law_956 ⟨by omega, by omega⟩ ?_
  refine lv_iload hx hb dL_law_959 (lv_at hl 1 rfl) ?_
  refine lv_icmp_eq (tgt := 966) hx hb dL_law_961 (by decide) (fun _ => ?_) (fun h => absurd rfl h)
  refine lv_iload hx hb dL_law_966 (lv_at hl 1 rfl) ?_
  refine lv_if_ne (tgt := 983) hx hb dL_law_968 (by decide) (fun _ => ?_) (fun h0 => ?_)
  · obtain ⟨hP, hD⟩ := R2A hP hD
    refine lv_goto (tgt := 1652) hx hb dL_law_983 (by decide) ?_
    refine W.widen (k := cells + 4) (n := slots + 24) (by omega) (by omega) ?_
    exact kk _ _ _ _ _ ⟨hB, _, _, _, _, _, _, _, _, _, _, _, hQ, h_T, hP, hD, hS⟩ (lv_sub hl [2, 3, 4, 5, 6, 7] rfl)
  · have hv := hv1 (nI_0of (b_s_kd _ _ z1 z2) h0)
    refine lv_aload_n hx hb dL_law_971 rfl (lv_at hl 5 rfl) ?_
    refine lv_iconst (v := nI 0) hx hb dL_law_972 (by decide +kernel) ?_
    refine va_lald hx hb hK hP 0 3 rfl rfl (vp_in_nI (by decide) (by decide)) dL_law_973 ?_
    refine lv_iload hx hb dL_law_974 (lv_at hl 0 rfl) ?_
    refine lv_i2l (v := ((nI ((s_kd n B z1 z2).2))).toInt64) hx hb dL_law_976 rfl ?_
    refine W.lcmp hx hb dL_law_977 ?_
    refine lv_if_eq (tgt := 983) hx hb dL_law_978 (by decide) (fun _ => ?_) (fun h => absurd ((lg_cmp_eq _ _).mpr hv) h)
    refine lv_goto (tgt := 1652) hx hb dL_law_983 (by decide) ?_
    obtain ⟨hP, hD⟩ := R2A hP hD
    refine W.widen (k := cells + 4) (n := slots + 24) (by omega) (by omega) ?_
    exact kk _ _ _ _ _ ⟨hB, _, _, _, _, _, _, _, _, _, _, _, hQ, h_T, hP, hD, hS⟩ (lv_sub hl [2, 3, 4, 5, 6, 7] rfl)
