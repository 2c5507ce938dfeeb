set_option maxHeartbeats 4000000 in
set_option maxRecDepth 100000 in
theorem cs_14 {p : Program} {l : Launch} {e : Env} {s : State} {m : MethodId} {below : List Frame} {meth : Method} {c : Code} {b L : Nat} {xs : Nat → Int32} {D : va_G} {cI cZ cA cL cD : ClassId} {Z9 : State → Prop} (hfl : l.stackTraces = false) (C0 : LC p s m c b L xs D cI cZ cA cL cD) {ax ad : Nat → Nat} {o od n : Nat} {B : Nat → Nat → Nat} {i : Nat} (hi : i + 4 < L) {H : Heap} {locs : List Loc} {cells slots : Nat} {ls : Array Slot} (hf : cells + 4 ≤ room_1.cells ∧ slots + 24 ≤ room_1.slots) (hst : LSt D cI cZ cA cL cD ax ad o od n B s H locs) (hl : lv_has ls 9 (LV b ax ad o od i)) (kk : KK p l e s m below meth c b D cI cZ cA cL cD ax ad o od i cells slots Z9) : W p l e room_1 s m #[Value.ref b] below meth c H locs cells slots Z9 (F0 m 986 ls []) := by
  obtain ⟨hx, hb, hml, hown, hts, hX, hbl, hL, hK, hE0, hNC⟩ := id C0
  obtain ⟨hB, Q, cn, rt, wd, qf, T, th, P, bs, vo, vd, hQ, h_T, hP, hD, hS⟩ := hst
  have hA : ∀ q : Nat, s.heap.size ≤ q → LA s q := fun _ h => h
  have hbA : ¬ LA s b := Nat.not_le.mpr hbl
  obtain ⟨z1, e1⟩ : ∃ z, z = xs (nI (i + 1)).toNatClampNeg := ⟨_, rfl⟩
  have hl : lv_has ls 9 [(0, .ref b), (1, .ref (ax 0)), (2, .ref (ad 0)), (3, .ref o), (4, .ref od), (5, .int (nI i))] := hl
  obtain ⟨H0, eH0⟩ : ∃ z, z = H := ⟨_, rfl⟩
  subst eH0
  refine lv_aload_n hx hb dL_law_986 rfl (lv_at hl 1 rfl) ?_
  refine lv_aload_n hx hb dL_law_987 rfl (lv_at hl 0 rfl) ?_
  refine lv_iload hx hb dL_law_988 (lv_at hl 5 rfl) ?_
  refine lv_iconst (v := nI 1) hx hb dL_law_990 (by decide +kernel) ?_
  refine lv_iadd hx hb dL_law_991 ?_
  refine n_top (nI_add i 1) ?_
  refine va_sld hx hb hX hbl hbA hS (vp_in_nI (show i + 1 < L by omega) (by omega)) dL_law_992 ?_
  refine n_top e1.symm ?_
  refine lv_aload_n hx hb dL_law_993 rfl (lv_at hl 3 rfl) ?_
  have hE := hE0.kept hS.2.1
  refine xw_S (wr := (wM cI ad th n B P bs) ++ [oD od cD vd]) (w := [oL o cL vo] ++ (wX cI cZ cA ax n B Q cn rt wd qf T)) (As := [.ref (ax 0), .int z1, .ref o]) (rest := []) (tys0 := tyL cI cZ cA cL) ⟨hx, hb, hml, hown, hts⟩ (kL_signature l hfl D cI cZ cA ax n B Q cn rt wd qf T o cL vo H0.size z1 hB) (vx_cwSW 3 hts gL_law_L_signature rfl rfl rfl hdL_signature ⟨Nat.le_of_ble_eq_true rfl, Nat.le_of_ble_eq_true rfl⟩) (hK.sub [0, 1, 2, 3] rfl) hP hD hS hA hE hNC rfl hl.1 rfl (Nat.le_of_ble_eq_true rfl) dL_law_994 ⟨by omega, by omega⟩ (fun r1 v1 H1 locs1 hp1 hP hD hS => ?_)
  obtain ⟨hr1, hv1⟩ := hp1
  subst hr1
  refine lv_istore (lv' := [(6, .int (nI ((s_sgc n B z1).1))), (0, .ref b), (1, .ref (ax 0)), (2, .ref (ad 0)), (3, .ref o), (4, .ref od), (5, .int (nI i))]) hx hb dL_law_997 hl (by decide) rfl (fun ls hl => ?_)
  obtain ⟨hP, hD⟩ := A2R hP hD
  refine lv_aload_n hx hb dL_law_999 rfl (lv_at hl 3 rfl) ?_
  refine lv_aload_n hx hb dL_law_1000 rfl (lv_at hl 1 rfl) ?_
  refine lv_iload hx hb dL_law_1001 (lv_at hl 6 rfl) ?_
  refine lv_iconst (v := nI 1) hx hb dL_law_1003 (by decide +kernel) ?_
  refine lv_iadd hx hb dL_law_1004 ?_
  refine n_top (nI_add i 1) ?_
  refine va_sld hx hb hX hbl hbA hS (vp_in_nI (show i + 1 < L by omega) (by omega)) dL_law_1005 ?_
  refine n_top e1.symm ?_
  refine mo2_V (wr := (([oL o cL v1] ++ (wX cI cZ cA ax n B Q cn rt wd qf T)) ++ [oD od cD vd])) (w := (wM cI ad th n B P bs)) (As := [.int z1]) (rest := []) ⟨hx, hb, hml, hown, hts⟩ (kX2_signature l D cI ad th n B P bs H1.size z1 hB) (cwV 1 hts gL_law_X2_signature rfl rfl rfl hdX2_signature ⟨Nat.le_of_ble_eq_true rfl, Nat.le_of_ble_eq_true rfl⟩) (preM (wr := (([oL o cL v1] ++ (wX cI cZ cA ax n B Q cn rt wd qf T)) ++ [oD od cD vd])) (hK.sub [0] rfl) hP hD (ci := 4) rfl (q0 := 26) rfl rfl) hP hD hS hA rfl hl.1 rfl (Nat.le_of_ble_eq_true rfl) dL_law_1006 ⟨by omega, by omega⟩ (fun r2 u2 H2 locs2 hp2 hP hD hS => ?_)
  have hr2 := hp2
  subst hr2
  refine lv_istore (lv' := [(7, .int ((nI ((s_sgc n B z1).2)))), (6, .int (nI ((s_sgc n B z1).1))), (0, .ref b), (1, .ref (ax 0)), (2, .ref (ad 0)), (3, .ref o), (4, .ref od), (5, .int (nI i))]) hx hb dL_law_1009 hl (by decide) rfl (fun ls hl => ?_)
  refine lv_aload_n hx hb dL_law_1011 rfl (lv_at hl 4 rfl) ?_
  refine ro2_V (As := []) (rest := []) ⟨hx, hb, hml, hown, hts⟩ (kX2_thrown l D cI ad ((s_sgc n B z1).1) n B P bs) (cwV 0 hts gL_law_X2_thrown rfl rfl rfl hdX2_thrown ⟨Nat.le_of_ble_eq_true rfl, Nat.le_of_ble_eq_true rfl⟩) (preR (wr := (([oL o cL v1] ++ (wX cI cZ cA ax n B Q cn rt wd qf T)) ++ [oD od cD vd])) (hK.sub [0] rfl) hP (ci := 4) rfl (q0 := 26) rfl rfl) rfl hl.1 rfl (Nat.le_of_ble_eq_true rfl) dL_law_1012 ⟨by omega, by omega⟩ ?_
  refine lv_iload hx hb dL_law_1015 (lv_at hl 1 rfl) ?_
  refine lv_icmp_eq (tgt := 1022) hx hb dL_law_1017 (by decide) (fun _ => ?_) (fun h => absurd rfl h)
  refine lv_iload hx hb dL_law_1022 (lv_at hl 1 rfl) ?_
  refine lv_if_ne (tgt := 1039) hx hb dL_law_1024 (by decide) (fun _ => ?_) (fun h0 => ?_)
  · obtain ⟨hP, hD⟩ := R2A hP hD
    refine lv_goto (tgt := 1652) hx hb dL_law_1039 (by decide) ?_
    refine W.widen (k := cells + 4) (n := slots + 24) (by omega) (by omega) ?_
    exact kk _ _ _ _ _ ⟨hB, _, _, _, _, _, _, _, _, _, _, _, hQ, h_T, hP, hD, hS⟩ (lv_sub hl [2, 3, 4, 5, 6, 7] rfl)
  · have hv := hv1 (nI_0of (b_s_sgc _ _ z1) h0)
    refine lv_aload_n hx hb dL_law_1027 rfl (lv_at hl 5 rfl) ?_
    refine lv_iconst (v := nI 0) hx hb dL_law_1028 (by decide +kernel) ?_
    refine va_lald hx hb hK hP 0 3 rfl rfl (vp_in_nI (by decide) (by decide)) dL_law_1029 ?_
    refine lv_iload hx hb dL_law_1030 (lv_at hl 0 rfl) ?_
    refine lv_i2l (v := ((nI ((s_sgc n B z1).2))).toInt64) hx hb dL_law_1032 rfl ?_
    refine W.lcmp hx hb dL_law_1033 ?_
    refine lv_if_eq (tgt := 1039) hx hb dL_law_1034 (by decide) (fun _ => ?_) (fun h => absurd ((lg_cmp_eq _ _).mpr hv) h)
    refine lv_goto (tgt := 1652) hx hb dL_law_1039 (by decide) ?_
    obtain ⟨hP, hD⟩ := R2A hP hD
    refine W.widen (k := cells + 4) (n := slots + 24) (by omega) (by omega) ?_
    exact kk _ _ _ _ _ ⟨hB, _, _, _, _, _, _, _, _, _, _, _, hQ, h_T, hP, hD, hS⟩ (lv_sub hl [2, 3, 4, 5, 6, 7] rfl)
set_option maxHeartbeats 4000000 in
set_option maxRecDepth 100000 in
theorem cs_15 {p : Program} {l : Launch} {e : Env} {s : State} {m : MethodId} {below : List Frame} {meth : Method} {c : Code} {b L : Nat} {xs : Nat → Int32} {D : va_G} {cI cZ cA cL cD : ClassId} {Z9 : State → Prop} (hfl : l.stackTraces = false) (C0 : LC p s m c b L xs D cI cZ cA cL cD) {ax ad : Nat → Nat} {o od n : Nat} {B : Nat → Nat → Nat} {i : Nat} (hi : i + 4 < L) {H : Heap} {locs : List Loc} {cells slots : Nat} {ls : Array Slot} (hf : cells + 4 ≤ room_1.cells ∧ slots + 24 ≤ room_1.slots) (hst : LSt D cI cZ cA cL cD ax ad o od n B s H locs) (hl : lv_has ls 9 (LV b ax ad o od i)) (kk : KK p l e s m below meth c b D cI cZ cA cL cD ax ad o od i cells slots Z9) : W p l e room_1 s m #[Value.ref b] below meth c H locs cells slots Z9 (F0 m 1042 ls []) := by
  obtain ⟨hx, hb, hml, hown, hts, hX, hbl, hL, hK, hE0, hNC⟩ := id C0
  obtain ⟨hB, Q, cn, rt, wd, qf, T, th, P, bs, vo, vd, hQ, h_T, hP, hD, hS⟩ := hst
  have hA : ∀ q : Nat, s.heap.size ≤ q → LA s q := fun _ h => h
  have hbA : ¬ LA s b := Nat.not_le.mpr hbl
  obtain ⟨z1, e1⟩ : ∃ z, z = xs (nI (i + 1)).toNatClampNeg := ⟨_, rfl⟩
  obtain ⟨z2, e2⟩ : ∃ z, z = xs (nI (i + 2)).toNatClampNeg := ⟨_, rfl⟩
  have hl : lv_has ls 9 [(0, .ref b), (1, .ref (ax 0)), (2, .ref (ad 0)), (3, .ref o), (4, .ref od), (5, .int (nI i))] := hl
  obtain ⟨H0, eH0⟩ : ∃ z, z = H := ⟨_, rfl⟩
  subst eH0
  refine lv_aload_n hx hb dL_law_1042 rfl (lv_at hl 1 rfl) ?_
  refine lv_aload_n hx hb dL_law_1043 rfl (lv_at hl 0 rfl) ?_
  refine lv_iload hx hb dL_law_1044 (lv_at hl 5 rfl) ?_
  refine lv_iconst (v := nI 1) hx hb dL_law_1046 (by decide +kernel) ?_
  refine lv_iadd hx hb dL_law_1047 ?_
  refine n_top (nI_add i 1) ?_
  refine va_sld hx hb hX hbl hbA hS (vp_in_nI (show i + 1 < L by omega) (by omega)) dL_law_1048 ?_
  refine n_top e1.symm ?_
  refine lv_aload_n hx hb dL_law_1049 rfl (lv_at hl 0 rfl) ?_
  refine lv_iload hx hb dL_law_1050 (lv_at hl 5 rfl) ?_
  refine lv_iconst (v := nI 2) hx hb dL_law_1052 (by decide +kernel) ?_
  refine lv_iadd hx hb dL_law_1053 ?_
  refine n_top (nI_add i 2) ?_
  refine va_sld hx hb hX hbl hbA hS (vp_in_nI (show i + 2 < L by omega) (by omega)) dL_law_1054 ?_
  refine n_top e2.symm ?_
  refine lv_aload_n hx hb dL_law_1055 rfl (lv_at hl 3 rfl) ?_
  have hE := hE0.kept hS.2.1
  refine xw_S (wr := (wM cI ad th n B P bs) ++ [oD od cD vd]) (w := [oL o cL vo] ++ (wX cI cZ cA ax n B Q cn rt wd qf T)) (As := [.ref (ax 0), .int z1, .int z2, .ref o]) (rest := []) (tys0 := tyL cI cZ cA cL) ⟨hx, hb, hml, hown, hts⟩ (kL_answersMail l hfl D cI cZ cA ax n B Q cn rt wd qf T o cL vo H0.size z1 z2 hB hQ) (vx_cwSW 4 hts gL_law_L_answersMail rfl rfl rfl hdL_answersMail ⟨Nat.le_of_ble_eq_true rfl, Nat.le_of_ble_eq_true rfl⟩) (hK.sub [0, 1, 2, 3] rfl) hP hD hS hA hE hNC rfl hl.1 rfl (Nat.le_of_ble_eq_true rfl) dL_law_1056 ⟨by omega, by omega⟩ (fun r1 v1 H1 locs1 hp1 hP hD hS => ?_)
  obtain ⟨hr1, hv1⟩ := hp1
  subst hr1
  refine lv_istore (lv' := [(6, .int (nI ((s_ans n B z1 z2).1))), (0, .ref b), (1, .ref (ax 0)), (2, .ref (ad 0)), (3, .ref o), (4, .ref od), (5, .int (nI i))]) hx hb dL_law_1059 hl (by decide) rfl (fun ls hl => ?_)
  obtain ⟨hP, hD⟩ := A2R hP hD
  refine lv_aload_n hx hb dL_law_1061 rfl (lv_at hl 3 rfl) ?_
  refine lv_aload_n hx hb dL_law_1062 rfl (lv_at hl 1 rfl) ?_
  refine lv_iload hx hb dL_law_1063 (lv_at hl 6 rfl) ?_
  refine lv_iconst (v := nI 1) hx hb dL_law_1065 (by decide +kernel) ?_
  refine lv_iadd hx hb dL_law_1066 ?_
  refine n_top (nI_add i 1) ?_
  refine va_sld hx hb hX hbl hbA hS (vp_in_nI (show i + 1 < L by omega) (by omega)) dL_law_1067 ?_
  refine n_top e1.symm ?_
  refine lv_aload_n hx hb dL_law_1068 rfl (lv_at hl 1 rfl) ?_
  refine lv_iload hx hb dL_law_1069 (lv_at hl 6 rfl) ?_
  refine lv_iconst (v := nI 2) hx hb dL_law_1071 (by decide +kernel) ?_
  refine lv_iadd hx hb dL_law_1072 ?_
  refine n_top (nI_add i 2) ?_
  refine va_sld hx hb hX hbl hbA hS (vp_in_nI (show i + 2 < L by omega) (by omega)) dL_law_1073 ?_
  refine n_top e2.symm ?_
  refine mo2_V (wr := (([oL o cL v1] ++ (wX cI cZ cA ax n B Q cn rt wd qf T)) ++ [oD od cD vd])) (w := (wM cI ad th n B P bs)) (As := [.int z1, .int z2]) (rest := []) ⟨hx, hb, hml, hown, hts⟩ (kX2_answersMail l D cI ad th n B P bs H1.size z1 z2 hB) (cwV 2 hts gL_law_X2_answersMail rfl rfl rfl hdX2_answersMail ⟨Nat.le_of_ble_eq_true rfl, Nat.le_of_ble_eq_true rfl⟩) (preM (wr := (([oL o cL v1] ++ (wX cI cZ cA ax n B Q cn rt wd qf T)) ++ [oD od cD vd])) (hK.sub [0] rfl) hP hD (ci := 4) rfl (q0 := 26) rfl rfl) hP hD hS hA rfl hl.1 rfl (Nat.le_of_ble_eq_true rfl) dL_law_1074 ⟨by omega, by omega⟩ (fun r2 u2 H2 locs2 hp2 hP hD hS => ?_)
  have hr2 := hp2
  subst hr2
  refine lv_istore (lv' := [(7, .int ((nI ((s_ans n B z1 z2).2 / 8)))), (6, .int (nI ((s_ans n B z1 z2).1))), (0, .ref b), (1, .ref (ax 0)), (2, .ref (ad 0)), (3, .ref o), (4, .ref od), (5, .int (nI i))]) hx hb dL_law_1077 hl (by decide) rfl (fun ls hl => ?_)
  refine lv_aload_n hx hb dL_law_1079 rfl (lv_at hl 4 rfl) ?_
  refine ro2_V (As := []) (rest := []) ⟨hx, hb, hml, hown, hts⟩ (kX2_thrown l D cI ad ((s_ans n B z1 z2).1) n B u2.1 u2.2) (cwV 0 hts gL_law_X2_thrown rfl rfl rfl hdX2_thrown ⟨Nat.le_of_ble_eq_true rfl, Nat.le_of_ble_eq_true rfl⟩) (preR (wr := (([oL o cL v1] ++ (wX cI cZ cA ax n B Q cn rt wd qf T)) ++ [oD od cD vd])) (hK.sub [0] rfl) hP (ci := 4) rfl (q0 := 26) rfl rfl) rfl hl.1 rfl (Nat.le_of_ble_eq_true rfl) dL_law_1080 ⟨by omega, by omega⟩ ?_
  refine lv_iload hx hb dL_law_1083 (lv_at hl 1 rfl) ?_
  refine lv_icmp_eq (tgt := 1090) hx hb dL_law_1085 (by decide) (fun _ => ?_) (fun h => absurd rfl h)
  refine lv_iload hx hb dL_law_1090 (lv_at hl 1 rfl) ?_
  refine lv_if_ne (tgt := 1107) hx hb dL_law_1092 (by decide) (fun _ => ?_) (fun h0 => ?_)
  · obtain ⟨hP, hD⟩ := R2A hP hD
    refine lv_goto (tgt := 1652) hx hb dL_law_1107 (by decide) ?_
    refine W.widen (k := cells + 4) (n := slots + 24) (by omega) (by omega) ?_
    exact kk _ _ _ _ _ ⟨hB, _, _, _, _, _, _, _, _, _, _, _, hQ, h_T, hP, hD, hS⟩ (lv_sub hl [2, 3, 4, 5, 6, 7] rfl)
  · have hv := hv1 (nI_0of (b_s_ans _ _ z1 z2) h0)
    refine lv_aload_n hx hb dL_law_1095 rfl (lv_at hl 5 rfl) ?_
    refine lv_iconst (v := nI 0) hx hb dL_law_1096 (by decide +kernel) ?_
    refine va_lald hx hb hK hP 0 3 rfl rfl (vp_in_nI (by decide) (by decide)) dL_law_1097 ?_
    refine lv_iload hx hb dL_law_1098 (lv_at hl 0 rfl) ?_
    refine lv_i2l (v := ((nI ((s_ans n B z1 z2).2 / 8))).toInt64) hx hb dL_law_1100 rfl ?_
    refine W.lcmp hx hb dL_law_1101 ?_
    refine lv_if_eq (tgt := 1107) hx hb dL_law_1102 (by decide) (fun _ => ?_) (fun h => absurd ((lg_cmp_eq _ _).mpr hv) h)
    refine lv_goto (tgt := 1652) hx hb dL_law_1107 (by decide) ?_
    obtain ⟨hP, hD⟩ := R2A hP hD
    refine W.widen (k := cells + 4) (n := slots + 24) (by omega) (by omega) ?_
    exact kk _ _ _ _ _ ⟨hB, _, _, _, _, _, _, _, _, _, _, _, hQ, h_T, hP, hD, hS⟩ (lv_sub hl [2, 3, 4, 5, 6, 7] rfl)
set_option maxHeartbeats 4000000 in
set_option maxRecDepth 100000 in
theorem cs_16 {p : Program} {l : Launch} {e : Env} {s : State} {m : MethodId} {below : List Frame} {meth : Method} {c : Code} {b L : Nat} {xs : Nat → Int32} {D : va_G} {cI cZ cA cL cD : ClassId} {Z9 : State → Prop} (hfl : l.stackTraces = false) (C0 : LC p s m c b L xs D cI cZ cA cL cD) {ax ad : Nat → Nat} {o od n : Nat} {B : Nat → Nat → Nat} {i : Nat} (hi : i + 4 < L) {H : Heap} {locs : List Loc} {cells slots : Nat} {ls : Array Slot} (hf : cells + 4 ≤ room_1.cells ∧ slots + 24 ≤ room_1.slots) (hst : LSt D cI cZ cA cL cD ax ad o od n B s H locs) (hl : lv_has ls 9 (LV b ax ad o od i)) (kk : KK p l e s m below meth c b D cI cZ cA cL cD ax ad o od i cells slots Z9) : W p l e room_1 s m #[Value.ref b] below meth c H locs cells slots Z9 (F0 m 1110 ls []) := by
  obtain ⟨hx, hb, hml, hown, hts, hX, hbl, hL, hK, hE0, hNC⟩ := id C0
  obtain ⟨hB, Q, cn, rt, wd, qf, T, th, P, bs, vo, vd, hQ, h_T, hP, hD, hS⟩ := hst
  have hA : ∀ q : Nat, s.heap.size ≤ q → LA s q := fun _ h => h
  have hbA : ¬ LA s b := Nat.not_le.mpr hbl
  obtain ⟨z1, e1⟩ : ∃ z, z = xs (nI (i + 1)).toNatClampNeg := ⟨_, rfl⟩
  obtain ⟨z2, e2⟩ : ∃ z, z = xs (nI (i + 2)).toNatClampNeg := ⟨_, rfl⟩
  have hl : lv_has ls 9 [(0, .ref b), (1, .ref (ax 0)), (2, .ref (ad 0)), (3, .ref o), (4, .ref od), (5, .int (nI i))] := hl
  obtain ⟨H0, eH0⟩ : ∃ z, z = H := ⟨_, rfl⟩
  subst eH0
  refine lv_aload_n hx hb dL_law_1110 rfl (lv_at hl 1 rfl) ?_
  refine lv_aload_n hx hb dL_law_1111 rfl (lv_at hl 0 rfl) ?_
  refine lv_iload hx hb dL_law_1112 (lv_at hl 5 rfl) ?_
  refine lv_iconst (v := nI 1) hx hb dL_law_1114 (by decide +kernel) ?_
  refine lv_iadd hx hb dL_law_1115 ?_
  refine n_top (nI_add i 1) ?_
  refine va_sld hx hb hX hbl hbA hS (vp_in_nI (show i + 1 < L by omega) (by omega)) dL_law_1116 ?_
  refine n_top e1.symm ?_
  refine lv_aload_n hx hb dL_law_1117 rfl (lv_at hl 0 rfl) ?_
  refine lv_iload hx hb dL_law_1118 (lv_at hl 5 rfl) ?_
  refine lv_iconst (v := nI 2) hx hb dL_law_1120 (by decide +kernel) ?_
  refine lv_iadd hx hb dL_law_1121 ?_
  refine n_top (nI_add i 2) ?_
  refine va_sld hx hb hX hbl hbA hS (vp_in_nI (show i + 2 < L by omega) (by omega)) dL_law_1122 ?_
  refine n_top e2.symm ?_
  refine lv_aload_n hx hb dL_law_1123 rfl (lv_at hl 3 rfl) ?_
  have hE := hE0.kept hS.2.1
  refine xw_S (wr := (wM cI ad th n B P bs) ++ [oD od cD vd]) (w := [oL o cL vo] ++ (wX cI cZ cA ax n B Q cn rt wd qf T)) (As := [.ref (ax 0), .int z1, .int z2, .ref o]) (rest := []) (tys0 := tyL cI cZ cA cL) ⟨hx, hb, hml, hown, hts⟩ (kL_answersLine l hfl D cI cZ cA ax n B Q cn rt wd qf T o cL vo H0.size z1 z2 hB hQ) (vx_cwSW 4 hts gL_law_L_answersLine rfl rfl rfl hdL_answersLine ⟨Nat.le_of_ble_eq_true rfl, Nat.le_of_ble_eq_true rfl⟩) (hK.sub [0, 1, 2, 3] rfl) hP hD hS hA hE hNC rfl hl.1 rfl (Nat.le_of_ble_eq_true rfl) dL_law_1124 ⟨by omega, by omega⟩ (fun r1 v1 H1 locs1 hp1 hP hD hS => ?_)
  obtain ⟨hr1, hv1⟩ := hp1
  subst hr1
  refine lv_istore (lv' := [(6, .int (nI ((s_ans n B z1 z2).1))), (0, .ref b), (1, .ref (ax 0)), (2, .ref (ad 0)), (3, .ref o), (4, .ref od), (5, .int (nI i))]) hx hb dL_law_1127 hl (by decide) rfl (fun ls hl => ?_)
  obtain ⟨hP, hD⟩ := A2R hP hD
  refine lv_aload_n hx hb dL_law_1129 rfl (lv_at hl 3 rfl) ?_
  refine lv_aload_n hx hb dL_law_1130 rfl (lv_at hl 1 rfl) ?_
  refine lv_iload hx hb dL_law_1131 (lv_at hl 6 rfl) ?_
  refine lv_iconst (v := nI 1) hx hb dL_law_1133 (by decide +kernel) ?_
  refine lv_iadd hx hb dL_law_1134 ?_
  refine n_top (nI_add i 1) ?_
  refine va_sld hx hb hX hbl hbA hS (vp_in_nI (show i + 1 < L by omega) (by omega)) dL_law_1135 ?_
  refine n_top e1.symm ?_
  refine lv_aload_n hx hb dL_law_1136 rfl (lv_at hl 1 rfl) ?_
  refine lv_iload hx hb dL_law_1137 (lv_at hl 6 rfl) ?_
  refine lv_iconst (v := nI 2) hx hb dL_law_1139 (by decide +kernel) ?_
  refine lv_iadd hx hb dL_law_1140 ?_
  refine n_top (nI_add i 2) ?_
  refine va_sld hx hb hX hbl hbA hS (vp_in_nI (show i + 2 < L by omega) (by omega)) dL_law_1141 ?_
  refine n_top e2.symm ?_
  refine mo2_V (wr := (([oL o cL v1] ++ (wX cI cZ cA ax n B Q cn rt wd qf T)) ++ [oD od cD vd])) (w := (wM cI ad th n B P bs)) (As := [.int z1, .int z2]) (rest := []) ⟨hx, hb, hml, hown, hts⟩ (kX2_answersLine l D cI ad th n B P bs H1.size z1 z2 hB) (cwV 2 hts gL_law_X2_answersLine rfl rfl rfl hdX2_answersLine ⟨Nat.le_of_ble_eq_true rfl, Nat.le_of_ble_eq_true rfl⟩) (preM (wr := (([oL o cL v1] ++ (wX cI cZ cA ax n B Q cn rt wd qf T)) ++ [oD od cD vd])) (hK.sub [0] rfl) hP hD (ci := 4) rfl (q0 := 26) rfl rfl) hP hD hS hA rfl hl.1 rfl (Nat.le_of_ble_eq_true rfl) dL_law_1142 ⟨by omega, by omega⟩ (fun r2 u2 H2 locs2 hp2 hP hD hS => ?_)
  have hr2 := hp2
  subst hr2
  refine lv_istore (lv' := [(7, .int ((nI ((s_ans n B z1 z2).2 % 8)))), (6, .int (nI ((s_ans n B z1 z2).1))), (0, .ref b), (1, .ref (ax 0)), (2, .ref (ad 0)), (3, .ref o), (4, .ref od), (5, .int (nI i))]) hx hb dL_law_1145 hl (by decide) rfl (fun ls hl => ?_)
  refine lv_aload_n hx hb dL_law_1147 rfl (lv_at hl 4 rfl) ?_
  refine ro2_V (As := []) (rest := []) ⟨hx, hb, hml, hown, hts⟩ (kX2_thrown l D cI ad ((s_ans n B z1 z2).1) n B u2.1 u2.2) (cwV 0 hts gL_law_X2_thrown rfl rfl rfl hdX2_thrown ⟨Nat.le_of_ble_eq_true rfl, Nat.le_of_ble_eq_true rfl⟩) (preR (wr := (([oL o cL v1] ++ (wX cI cZ cA ax n B Q cn rt wd qf T)) ++ [oD od cD vd])) (hK.sub [0] rfl) hP (ci := 4) rfl (q0 := 26) rfl rfl) rfl hl.1 rfl (Nat.le_of_ble_eq_true rfl) dL_law_1148 ⟨by omega, by omega⟩ ?_
  refine lv_iload hx hb dL_law_1151 (lv_at hl 1 rfl) ?_
  refine lv_icmp_eq (tgt := 1158) hx hb dL_law_1153 (by decide) (fun _ => ?_) (fun h => absurd rfl h)
  refine lv_iload hx hb dL_law_1158 (lv_at hl 1 rfl) ?_
  refine lv_if_ne (tgt := 1175) hx hb dL_law_1160 (by decide) (fun _ => ?_) (fun h0 => ?_)
  · obtain ⟨hP, hD⟩ := R2A hP hD
    refine lv_goto (tgt := 1652) hx hb dL_law_1175 (by decide) ?_
    refine W.widen (k := cells + 4) (n := slots + 24) (by omega) (by omega) ?_
    exact kk _ _ _ _ _ ⟨hB, _, _, _, _, _, _, _, _, _, _, _, hQ, h_T, hP, hD, hS⟩ (lv_sub hl [2, 3, 4, 5, 6, 7] rfl)
  · have hv := hv1 (nI_0of (b_s_ans _ _ z1 z2) h0)
    refine lv_aload_n hx hb dL_law_1163 rfl (lv_at hl 5 rfl) ?_
    refine lv_iconst (v := nI 0) hx hb dL_law_1164 (by decide +kernel) ?_
    refine va_lald hx hb hK hP 0 3 rfl rfl (vp_in_nI (by decide) (by decide)) dL_law_1165 ?_
    refine lv_iload hx hb dL_law_1166 (lv_at hl 0 rfl) ?_
    refine lv_i2l (v := ((nI ((s_ans n B z1 z2).2 % 8))).toInt64) hx hb dL_law_1168 rfl ?_
    refine W.lcmp hx hb dL_law_1169 ?_
    refine lv_if_eq (tgt := 1175) hx hb dL_law_1170 (by decide) (fun _ => ?_) (fun h => absurd ((lg_cmp_eq _ _).mpr hv) h)
    refine lv_goto (tgt := 1652) hx hb dL_law_1175 (by decide) ?_
    obtain ⟨hP, hD⟩ := R2A hP hD
    refine W.widen (k := cells + 4) (n := slots + 24) (by omega) (by omega) ?_
    exact kk _ _ _ _ _ ⟨hB, _, _, _, _, _, _, _, _, _, _, _, hQ, h_T, hP, hD, hS⟩ (lv_sub hl [2, 3, 4, 5, 6, 7] rfl)
set_option maxHeartbeats 4000000 in
set_option maxRecDepth 100000 in
theorem cs_17 {p : Program} {l : Launch} {e : Env} {s : State} {m : MethodId} {below : List Frame} {meth : Method} {c : Code} {b L : Nat} {xs : Nat → Int32} {D : va_G} {cI cZ cA cL cD : ClassId} {Z9 : State → Prop} (hfl : l.stackTraces = false) (C0 : LC p s m c b L xs D cI cZ cA cL cD) {ax ad : Nat → Nat} {o od n : Nat} {B : Nat → Nat → Nat} {i : Nat} (hi : i + 4 < L) {H : Heap} {locs : List Loc} {cells slots : Nat} {ls : Array Slot} (hf : cells + 4 ≤ room_1.cells ∧ slots + 24 ≤ room_1.slots) (hst : LSt D cI cZ cA cL cD ax ad o od n B s H locs) (hl : lv_has ls 9 (LV b ax ad o od i)) (kk : KK p l e s m below meth c b D cI cZ cA cL cD ax ad o od i cells slots Z9) : W p l e room_1 s m #[Value.ref b] below meth c H locs cells slots Z9 (F0 m 1178 ls []) := by
  obtain ⟨hx, hb, hml, hown, hts, hX, hbl, hL, hK, hE0, hNC⟩ := id C0
  obtain ⟨hB, Q, cn, rt, wd, qf, T, th, P, bs, vo, vd, hQ, h_T, hP, hD, hS⟩ := hst
  have hA : ∀ q : Nat, s.heap.size ≤ q → LA s q := fun _ h => h
  have hbA : ¬ LA s b := Nat.not_le.mpr hbl
  obtain ⟨z1, e1⟩ : ∃ z, z = xs (nI (i + 1)).toNatClampNeg := ⟨_, rfl⟩
  obtain ⟨z2, e2⟩ : ∃ z, z = xs (nI (i + 2)).toNatClampNeg := ⟨_, rfl⟩
  have hl : lv_has ls 9 [(0, .ref b), (1, .ref (ax 0)), (2, .ref (ad 0)), (3, .ref o), (4, .ref od), (5, .int (nI i))] := hl
  obtain ⟨H0, eH0⟩ : ∃ z, z = H := ⟨_, rfl⟩
  subst eH0
  refine lv_aload_n hx hb dL_law_1178 rfl (lv_at hl 1 rfl) ?_
  refine lv_aload_n hx hb dL_law_1179 rfl (lv_at hl 0 rfl) ?_
  refine lv_iload hx hb dL_law_1180 (lv_at hl 5 rfl) ?_
  refine lv_iconst (v := nI 1) hx hb dL_law_1182 (by decide +kernel) ?_
  refine lv_iadd hx hb dL_law_1183 ?_
  refine n_top (nI_add i 1) ?_
  refine va_sld hx hb hX hbl hbA hS (vp_in_nI (show i + 1 < L by omega) (by omega)) dL_law_1184 ?_
  refine n_top e1.symm ?_
  refine lv_aload_n hx hb dL_law_1185 rfl (lv_at hl 0 rfl) ?_
  refine lv_iload hx hb dL_law_1186 (lv_at hl 5 rfl) ?_
  refine lv_iconst (v := nI 2) hx hb dL_law_1188 (by decide +kernel) ?_
  refine lv_iadd hx hb dL_law_1189 ?_
  refine n_top (nI_add i 2) ?_
  refine va_sld hx hb hX hbl hbA hS (vp_in_nI (show i + 2 < L by omega) (by omega)) dL_law_1190 ?_
  refine n_top e2.symm ?_
  refine lv_aload_n hx hb dL_law_1191 rfl (lv_at hl 3 rfl) ?_
  have hE := hE0.kept hS.2.1
  refine xw_S (wr := (wM cI ad th n B P bs) ++ [oD od cD vd]) (w := [oL o cL vo] ++ (wX cI cZ cA ax n B Q cn rt wd qf T)) (As := [.ref (ax 0), .int z1, .int z2, .ref o]) (rest := []) (tys0 := tyL cI cZ cA cL) ⟨hx, hb, hml, hown, hts⟩ (kL_answers l hfl D cI cZ cA ax n B Q cn rt wd qf T o cL vo H0.size z1 z2 hB hQ) (vx_cwSW 4 hts gL_law_L_answers rfl rfl rfl hdL_answers ⟨Nat.le_of_ble_eq_true rfl, Nat.le_of_ble_eq_true rfl⟩) (hK.sub [0, 1, 2, 3] rfl) hP hD hS hA hE hNC rfl hl.1 rfl (Nat.le_of_ble_eq_true rfl) dL_law_1192 ⟨by omega, by omega⟩ (fun r1 v1 H1 locs1 hp1 hP hD hS => ?_)
  obtain ⟨hr1, hv1⟩ := hp1
  subst hr1
  refine lv_istore (lv' := [(6, .int (nI ((s_asn n B z1 z2).1))), (0, .ref b), (1, .ref (ax 0)), (2, .ref (ad 0)), (3, .ref o), (4, .ref od), (5, .int (nI i))]) hx hb dL_law_1195 hl (by decide) rfl (fun ls hl => ?_)
  obtain ⟨hP, hD⟩ := A2R hP hD
  refine lv_aload_n hx hb dL_law_1197 rfl (lv_at hl 3 rfl) ?_
  refine lv_aload_n hx hb dL_law_1198 rfl (lv_at hl 1 rfl) ?_
  refine lv_iload hx hb dL_law_1199 (lv_at hl 6 rfl) ?_
  refine lv_iconst (v := nI 1) hx hb dL_law_1201 (by decide +kernel) ?_
  refine lv_iadd hx hb dL_law_1202 ?_
  refine n_top (nI_add i 1) ?_
  refine va_sld hx hb hX hbl hbA hS (vp_in_nI (show i + 1 < L by omega) (by omega)) dL_law_1203 ?_
  refine n_top e1.symm ?_
  refine lv_aload_n hx hb dL_law_1204 rfl (lv_at hl 1 rfl) ?_
  refine lv_iload hx hb dL_law_1205 (lv_at hl 6 rfl) ?_
  refine lv_iconst (v := nI 2) hx hb dL_law_1207 (by decide +kernel) ?_
  refine lv_iadd hx hb dL_law_1208 ?_
  refine n_top (nI_add i 2) ?_
  refine va_sld hx hb hX hbl hbA hS (vp_in_nI (show i + 2 < L by omega) (by omega)) dL_law_1209 ?_
  refine n_top e2.symm ?_
  refine mo2_V (wr := (([oL o cL v1] ++ (wX cI cZ cA ax n B Q cn rt wd qf T)) ++ [oD od cD vd])) (w := (wM cI ad th n B P bs)) (As := [.int z1, .int z2]) (rest := []) ⟨hx, hb, hml, hown, hts⟩ (kX2_answers l D cI ad th n B P bs H1.size z1 z2 hB) (cwV 2 hts gL_law_X2_answers rfl rfl rfl hdX2_answers ⟨Nat.le_of_ble_eq_true rfl, Nat.le_of_ble_eq_true rfl⟩) (preM (wr := (([oL o cL v1] ++ (wX cI cZ cA ax n B Q cn rt wd qf T)) ++ [oD od cD vd])) (hK.sub [0] rfl) hP hD (ci := 4) rfl (q0 := 26) rfl rfl) hP hD hS hA rfl hl.1 rfl (Nat.le_of_ble_eq_true rfl) dL_law_1210 ⟨by omega, by omega⟩ (fun r2 u2 H2 locs2 hp2 hP hD hS => ?_)
  have hr2 := hp2
  subst hr2
  refine lv_istore (lv' := [(7, .int ((nI ((s_asn n B z1 z2).2)))), (6, .int (nI ((s_asn n B z1 z2).1))), (0, .ref b), (1, .ref (ax 0)), (2, .ref (ad 0)), (3, .ref o), (4, .ref od), (5, .int (nI i))]) hx hb dL_law_1213 hl (by decide) rfl (fun ls hl => ?_)
  refine lv_aload_n hx hb dL_law_1215 rfl (lv_at hl 4 rfl) ?_
  refine ro2_V (As := []) (rest := []) ⟨hx, hb, hml, hown, hts⟩ (kX2_thrown l D cI ad ((s_asn n B z1 z2).1) n B u2.1 u2.2) (cwV 0 hts gL_law_X2_thrown rfl rfl rfl hdX2_thrown ⟨Nat.le_of_ble_eq_true rfl, Nat.le_of_ble_eq_true rfl⟩) (preR (wr := (([oL o cL v1] ++ (wX cI cZ cA ax n B Q cn rt wd qf T)) ++ [oD od cD vd])) (hK.sub [0] rfl) hP (ci := 4) rfl (q0 := 26) rfl rfl) rfl hl.1 rfl (Nat.le_of_ble_eq_true rfl) dL_law_1216 ⟨by omega, by omega⟩ ?_
  refine lv_iload hx hb dL_law_1219 (lv_at hl 1 rfl) ?_
  refine lv_icmp_eq (tgt := 1226) hx hb dL_law_1221 (by decide) (fun _ => ?_) (fun h => absurd rfl h)
  refine lv_iload hx hb dL_law_1226 (lv_at hl 1 rfl) ?_
  refine lv_if_ne (tgt := 1243) hx hb dL_law_1228 (by decide) (fun _ => ?_) (fun h0 => ?_)
  · obtain ⟨hP, hD⟩ := R2A hP hD
    refine lv_goto (tgt := 1652) hx hb dL_law_1243 (by decide) ?_
    refine W.widen (k := cells + 4) (n := slots + 24) (by omega) (by omega) ?_
    exact kk _ _ _ _ _ ⟨hB, _, _, _, _, _, _, _, _, _, _, _, hQ, h_T, hP, hD, hS⟩ (lv_sub hl [2, 3, 4, 5, 6, 7] rfl)
  · have hv := hv1 (nI_0of (b_s_asn _ _ z1 z2) h0)
    refine lv_aload_n hx hb dL_law_1231 rfl (lv_at hl 5 rfl) ?_
    refine lv_iconst (v := nI 0) hx hb dL_law_1232 (by decide +kernel) ?_
    refine va_lald hx hb hK hP 0 3 rfl rfl (vp_in_nI (by decide) (by decide)) dL_law_1233 ?_
    refine lv_iload hx hb dL_law_1234 (lv_at hl 0 rfl) ?_
    refine lv_i2l (v := ((nI ((s_asn n B z1 z2).2))).toInt64) hx hb dL_law_1236 rfl ?_
    refine W.lcmp hx hb dL_law_1237 ?_
    refine lv_if_eq (tgt := 1243) hx hb dL_law_1238 (by decide) (fun _ => ?_) (fun h => absurd ((lg_cmp_eq _ _).mpr hv) h)
    refine lv_goto (tgt := 1652) hx hb dL_law_1243 (by decide) ?_
    obtain ⟨hP, hD⟩ := R2A hP hD
    refine W.widen (k := cells + 4) (n := slots + 24) (by omega) (by omega) ?_
    exact kk _ _ _ _ _ ⟨hB, _, _, _, _, _, _, _, _, _, _, _, hQ, h_T, hP, hD, hS⟩ (lv_sub hl [2, 3, 4, 5, 6, 7] rfl)
set_option maxHeartbeats 4000000 in
set_option maxRecDepth 100000 in
theorem cs_18 {p : Program} {l : Launch} {e : Env} {s : State} {m : MethodId} {below : List Frame} {meth : Method} {c : Code} {b L : Nat} {xs : Nat → Int32} {D : va_G} {cI cZ cA cL cD : ClassId} {Z9 : State → Prop} (hfl : l.stackTraces = false) (C0 : LC p s m c b L xs D cI cZ cA cL cD) {ax ad : Nat → Nat} {o od n : Nat} {B : Nat → Nat → Nat} {i : Nat} (hi : i + 4 < L) {H : Heap} {locs : List Loc} {cells slots : Nat} {ls : Array Slot} (hf : cells + 4 ≤ room_1.cells ∧ slots + 24 ≤ room_1.slots) (hst : LSt D cI cZ cA cL cD ax ad o od n B s H locs) (hl : lv_has ls 9 (LV b ax ad o od i)) (kk : KK p l e s m below meth c b D cI cZ cA cL cD ax ad o od i cells slots Z9) : W p l e room_1 s m #[Value.ref b] below meth c H locs cells slots Z9 (F0 m 1246 ls []) := by
  obtain ⟨hx, hb, hml, hown, hts, hX, hbl, hL, hK, hE0, hNC⟩ := id C0
  obtain ⟨hB, Q, cn, rt, wd, qf, T, th, P, bs, vo, vd, hQ, h_T, hP, hD, hS⟩ := hst
  have hA : ∀ q : Nat, s.heap.size ≤ q → LA s q := fun _ h => h
  have hbA : ¬ LA s b := Nat.not_le.mpr hbl
  have hl : lv_has ls 9 [(0, .ref b), (1, .ref (ax 0)), (2, .ref (ad 0)), (3, .ref o), (4, .ref od), (5, .int (nI i))] := hl
  obtain ⟨H0, eH0⟩ : ∃ z, z = H := ⟨_, rfl⟩
  subst eH0
  obtain ⟨hP, hD⟩ := A2X hP hD
  refine lv_aload_n hx hb dL_law_1246 rfl (lv_at hl 1 rfl) ?_
  refine ro2_V (As := []) (rest := []) ⟨hx, hb, hml, hown, hts⟩ (kX1_talk l D cI cZ cA ax n B Q cn rt wd qf T hB hQ) (cwV 0 hts gL_law_X1_talk rfl rfl rfl hdX1_talk ⟨Nat.le_of_ble_eq_true rfl, Nat.le_of_ble_eq_true rfl⟩) (preR (wr := (((wM cI ad th n B P bs) ++ [oD od cD vd]) ++ [oL o cL vo])) (hK.sub [0, 1, 2] rfl) hP (ci := 3) rfl (q0 := 12) rfl rfl) rfl hl.1 rfl (Nat.le_of_ble_eq_true rfl) dL_law_1247 ⟨by omega, by omega⟩ ?_
  obtain ⟨hP, hD⟩ := X2A hP hD
  obtain ⟨hP, hD⟩ := A2R hP hD
  refine lv_aload_n hx hb dL_law_1250 rfl (lv_at hl 2 rfl) ?_
  refine mo2_V (wr := (([oL o cL vo] ++ (wX cI cZ cA ax n B Q cn rt wd qf T)) ++ [oD od cD vd])) (w := (wM cI ad th n B P bs)) (As := []) (rest := [.int ((nI (s_tk n B)))]) ⟨hx, hb, hml, hown, hts⟩ (kX2_talk l D cI ad th n B P bs H0.size  hB) (cwV 0 hts gL_law_X2_talk rfl rfl rfl hdX2_talk ⟨Nat.le_of_ble_eq_true rfl, Nat.le_of_ble_eq_true rfl⟩) (preM (wr := (([oL o cL vo] ++ (wX cI cZ cA ax n B Q cn rt wd qf T)) ++ [oD od cD vd])) (hK.sub [0] rfl) hP hD (ci := 4) rfl (q0 := 26) rfl rfl) hP hD hS hA rfl hl.1 rfl (Nat.le_of_ble_eq_true rfl) dL_law_1251 ⟨by omega, by omega⟩ (fun r2 u2 H1 locs1 hp2 hP hD hS => ?_)
  have hr2 := hp2
  subst hr2
  refine lv_icmp_eq (tgt := 1652) hx hb dL_law_1254 (by decide) (fun _ => ?_) (fun h => absurd rfl h)
  obtain ⟨hP, hD⟩ := R2A hP hD
  refine W.widen (k := cells + 4) (n := slots + 24) (by omega) (by omega) ?_
  exact kk _ _ _ _ _ ⟨hB, _, _, _, _, _, _, _, _, _, _, _, hQ, h_T, hP, hD, hS⟩ (lv_sub hl [0, 1, 2, 3, 4, 5] rfl)
set_option maxHeartbeats 4000000 in
set_option maxRecDepth 100000 in
theorem cs_19 {p : Program} {l : Launch} {e : Env} {s : State} {m : MethodId} {below : List Frame} {meth : Method} {c : Code} {b L : Nat} {xs : Nat → Int32} {D : va_G} {cI cZ cA cL cD : ClassId} {Z9 : State → Prop} (hfl : l.stackTraces = false) (C0 : LC p s m c b L xs D cI cZ cA cL cD) {ax ad : Nat → Nat} {o od n : Nat} {B : Nat → Nat → Nat} {i : Nat} (hi : i + 4 < L) {H : Heap} {locs : List Loc} {cells slots : Nat} {ls : Array Slot} (hf : cells + 4 ≤ room_1.cells ∧ slots + 24 ≤ room_1.slots) (hst : LSt D cI cZ cA cL cD ax ad o od n B s H locs) (hl : lv_has ls 9 (LV b ax ad o od i)) (kk : KK p l e s m below meth c b D cI cZ cA cL cD ax ad o od i cells slots Z9) : W p l e room_1 s m #[Value.ref b] below meth c H locs cells slots Z9 (F0 m 1259 ls []) := by
  obtain ⟨hx, hb, hml, hown, hts, hX, hbl, hL, hK, hE0, hNC⟩ := id C0
  obtain ⟨hB, Q, cn, rt, wd, qf, T, th, P, bs, vo, vd, hQ, h_T, hP, hD, hS⟩ := hst
  have hA : ∀ q : Nat, s.heap.size ≤ q → LA s q := fun _ h => h
  have hbA : ¬ LA s b := Nat.not_le.mpr hbl
  have hl : lv_has ls 9 [(0, .ref b), (1, .ref (ax 0)), (2, .ref (ad 0)), (3, .ref o), (4, .ref od), (5, .int (nI i))] := hl
  obtain ⟨H0, eH0⟩ : ∃ z, z = H := ⟨_, rfl⟩
  subst eH0
  obtain ⟨hP, hD⟩ := A2X hP hD
  refine lv_aload_n hx hb dL_law_1259 rfl (lv_at hl 1 rfl) ?_
  refine mo2_V (wr := (((wM cI ad th n B P bs) ++ [oD od cD vd]) ++ [oL o cL vo])) (w := (wX cI cZ cA ax n B Q cn rt wd qf T)) (As := []) (rest := []) ⟨hx, hb, hml, hown, hts⟩ (kX1_talkByOrigins l D cI cZ cA ax n B Q cn rt wd qf T H0.size hB hQ) (cwV 0 hts gL_law_X1_talkByOrigins rfl rfl rfl hdX1_talkByOrigins ⟨Nat.le_of_ble_eq_true rfl, Nat.le_of_ble_eq_true rfl⟩) (preM (wr := (((wM cI ad th n B P bs) ++ [oD od cD vd]) ++ [oL o cL vo])) (hK.sub [0, 1, 2] rfl) hP hD (ci := 3) rfl (q0 := 12) rfl rfl) hP hD hS hA rfl hl.1 rfl (Nat.le_of_ble_eq_true rfl) dL_law_1260 ⟨by omega, by omega⟩ (fun r1 u1 H1 locs1 hp1 hP hD hS => ?_)
  have hr1 := hp1
  subst hr1
  obtain ⟨hP, hD⟩ := X2A hP hD
  obtain ⟨hP, hD⟩ := A2R hP hD
  refine lv_aload_n hx hb dL_law_1263 rfl (lv_at hl 2 rfl) ?_
  refine mo2_V (wr := (([oL o cL vo] ++ (wX cI cZ cA ax n B Q u1 rt wd qf T)) ++ [oD od cD vd])) (w := (wM cI ad th n B P bs)) (As := []) (rest := [.int ((nI (s_tk n B)))]) ⟨hx, hb, hml, hown, hts⟩ (kX2_talkByOrigins l D cI ad th n B P bs H1.size  hB) (cwV 0 hts gL_law_X2_talkByOrigins rfl rfl rfl hdX2_talkByOrigins ⟨Nat.le_of_ble_eq_true rfl, Nat.le_of_ble_eq_true rfl⟩) (preM (wr := (([oL o cL vo] ++ (wX cI cZ cA ax n B Q u1 rt wd qf T)) ++ [oD od cD vd])) (hK.sub [0] rfl) hP hD (ci := 4) rfl (q0 := 26) rfl rfl) hP hD hS hA rfl hl.1 rfl (Nat.le_of_ble_eq_true rfl) dL_law_1264 ⟨by omega, by omega⟩ (fun r2 u2 H2 locs2 hp2 hP hD hS => ?_)
  have hr2 := hp2
  subst hr2
  refine lv_icmp_eq (tgt := 1652) hx hb dL_law_1267 (by decide) (fun _ => ?_) (fun h => absurd rfl h)
  obtain ⟨hP, hD⟩ := R2A hP hD
  refine W.widen (k := cells + 4) (n := slots + 24) (by omega) (by omega) ?_
  exact kk _ _ _ _ _ ⟨hB, _, _, _, _, _, _, _, _, _, _, _, hQ, h_T, hP, hD, hS⟩ (lv_sub hl [0, 1, 2, 3, 4, 5] rfl)
set_option maxHeartbeats 4000000 in
set_option maxRecDepth 100000 in
theorem cs_20 {p : Program} {l : Launch} {e : Env} {s : State} {m : MethodId} {below : List Frame} {meth : Method} {c : Code} {b L : Nat} {xs : Nat → Int32} {D : va_G} {cI cZ cA cL cD : ClassId} {Z9 : State → Prop} (hfl : l.stackTraces = false) (C0 : LC p s m c b L xs D cI cZ cA cL cD) {ax ad : Nat → Nat} {o od n : Nat} {B : Nat → Nat → Nat} {i : Nat} (hi : i + 4 < L) {H : Heap} {locs : List Loc} {cells slots : Nat} {ls : Array Slot} (hf : cells + 4 ≤ room_1.cells ∧ slots + 24 ≤ room_1.slots) (hst : LSt D cI cZ cA cL cD ax ad o od n B s H locs) (hl : lv_has ls 9 (LV b ax ad o od i)) (kk : KK p l e s m below meth c b D cI cZ cA cL cD ax ad o od i cells slots Z9) : W p l e room_1 s m #[Value.ref b] below meth c H locs cells slots Z9 (F0 m 1272 ls []) := by
  obtain ⟨hx, hb, hml, hown, hts, hX, hbl, hL, hK, hE0, hNC⟩ := id C0
  obtain ⟨hB, Q, cn, rt, wd, qf, T, th, P, bs, vo, vd, hQ, h_T, hP, hD, hS⟩ := hst
  have hA : ∀ q : Nat, s.heap.size ≤ q → LA s q := fun _ h => h
  have hbA : ¬ LA s b := Nat.not_le.mpr hbl
  obtain ⟨z1, e1⟩ : ∃ z, z = xs (nI (i + 1)).toNatClampNeg := ⟨_, rfl⟩
  obtain ⟨z2, e2⟩ : ∃ z, z = xs (nI (i + 2)).toNatClampNeg := ⟨_, rfl⟩
  have hl : lv_has ls 9 [(0, .ref b), (1, .ref (ax 0)), (2, .ref (ad 0)), (3, .ref o), (4, .ref od), (5, .int (nI i))] := hl
  obtain ⟨H0, eH0⟩ : ∃ z, z = H := ⟨_, rfl⟩
  subst eH0
  refine lv_aload_n hx hb dL_law_1272 rfl (lv_at hl 1 rfl) ?_
  refine lv_aload_n hx hb dL_law_1273 rfl (lv_at hl 0 rfl) ?_
  refine lv_iload hx hb dL_law_1274 (lv_at hl 5 rfl) ?_
  refine lv_iconst (v := nI 1) hx hb dL_law_1276 (by decide +kernel) ?_
  refine lv_iadd hx hb dL_law_1277 ?_
  refine n_top (nI_add i 1) ?_
  refine va_sld hx hb hX hbl hbA hS (vp_in_nI (show i + 1 < L by omega) (by omega)) dL_law_1278 ?_
  refine n_top e1.symm ?_
  refine lv_aload_n hx hb dL_law_1279 rfl (lv_at hl 0 rfl) ?_
  refine lv_iload hx hb dL_law_1280 (lv_at hl 5 rfl) ?_
  refine lv_iconst (v := nI 2) hx hb dL_law_1282 (by decide +kernel) ?_
  refine lv_iadd hx hb dL_law_1283 ?_
  refine n_top (nI_add i 2) ?_
  refine va_sld hx hb hX hbl hbA hS (vp_in_nI (show i + 2 < L by omega) (by omega)) dL_law_1284 ?_
  refine n_top e2.symm ?_
  refine lv_aload_n hx hb dL_law_1285 rfl (lv_at hl 3 rfl) ?_
  have hE := hE0.kept hS.2.1
  refine xw_S (wr := (wM cI ad th n B P bs) ++ [oD od cD vd]) (w := [oL o cL vo] ++ (wX cI cZ cA ax n B Q cn rt wd qf T)) (As := [.ref (ax 0), .int z1, .int z2, .ref o]) (rest := []) (tys0 := tyL cI cZ cA cL) ⟨hx, hb, hml, hown, hts⟩ (kL_copies l hfl D cI cZ cA ax n B Q cn rt wd qf T o cL vo H0.size z1 z2 hB hQ) (vx_cwSW 4 hts gL_law_L_copies rfl rfl rfl hdL_copies ⟨Nat.le_of_ble_eq_true rfl, Nat.le_of_ble_eq_true rfl⟩) (hK.sub [0, 1, 2, 3] rfl) hP hD hS hA hE hNC rfl hl.1 rfl (Nat.le_of_ble_eq_true rfl) dL_law_1286 ⟨by omega, by omega⟩ (fun r1 v1 H1 locs1 hp1 hP hD hS => ?_)
  obtain ⟨hr1, hv1⟩ := hp1
  subst hr1
  refine lv_istore (lv' := [(6, .int (nI ((s_cop n B z1 z2).1))), (0, .ref b), (1, .ref (ax 0)), (2, .ref (ad 0)), (3, .ref o), (4, .ref od), (5, .int (nI i))]) hx hb dL_law_1289 hl (by decide) rfl (fun ls hl => ?_)
  obtain ⟨hP, hD⟩ := A2R hP hD
  refine lv_aload_n hx hb dL_law_1291 rfl (lv_at hl 3 rfl) ?_
  refine lv_aload_n hx hb dL_law_1292 rfl (lv_at hl 1 rfl) ?_
  refine lv_iload hx hb dL_law_1293 (lv_at hl 6 rfl) ?_
  refine lv_iconst (v := nI 1) hx hb dL_law_1295 (by decide +kernel) ?_
  refine lv_iadd hx hb dL_law_1296 ?_
  refine n_top (nI_add i 1) ?_
  refine va_sld hx hb hX hbl hbA hS (vp_in_nI (show i + 1 < L by omega) (by omega)) dL_law_1297 ?_
  refine n_top e1.symm ?_
  refine lv_aload_n hx hb dL_law_1298 rfl (lv_at hl 1 rfl) ?_
  refine lv_iload hx hb dL_law_1299 (lv_at hl 6 rfl) ?_
  refine lv_iconst (v := nI 2) hx hb dL_law_1301 (by decide +kernel) ?_
  refine lv_iadd hx hb dL_law_1302 ?_
  refine n_top (nI_add i 2) ?_
  refine va_sld hx hb hX hbl hbA hS (vp_in_nI (show i + 2 < L by omega) (by omega)) dL_law_1303 ?_
  refine n_top e2.symm ?_
  refine mo2_V (wr := (([oL o cL v1] ++ (wX cI cZ cA ax n B Q cn rt wd qf T)) ++ [oD od cD vd])) (w := (wM cI ad th n B P bs)) (As := [.int z1, .int z2]) (rest := []) ⟨hx, hb, hml, hown, hts⟩ (kX2_copies l D cI ad th n B P bs H1.size z1 z2 hB) (cwV 2 hts gL_law_X2_copies rfl rfl rfl hdX2_copies ⟨Nat.le_of_ble_eq_true rfl, Nat.le_of_ble_eq_true rfl⟩) (preM (wr := (([oL o cL v1] ++ (wX cI cZ cA ax n B Q cn rt wd qf T)) ++ [oD od cD vd])) (hK.sub [0] rfl) hP hD (ci := 4) rfl (q0 := 26) rfl rfl) hP hD hS hA rfl hl.1 rfl (Nat.le_of_ble_eq_true rfl) dL_law_1304 ⟨by omega, by omega⟩ (fun r2 u2 H2 locs2 hp2 hP hD hS => ?_)
  have hr2 := hp2
  subst hr2
  refine lv_istore (lv' := [(7, .int ((nI ((s_cop n B z1 z2).2)))), (6, .int (nI ((s_cop n B z1 z2).1))), (0, .ref b), (1, .ref (ax 0)), (2, .ref (ad 0)), (3, .ref o), (4, .ref od), (5, .int (nI i))]) hx hb dL_law_1307 hl (by decide) rfl (fun ls hl => ?_)
  refine lv_aload_n hx hb dL_law_1309 rfl (lv_at hl 4 rfl) ?_
  refine ro2_V (As := []) (rest := []) ⟨hx, hb, hml, hown, hts⟩ (kX2_thrown l D cI ad ((s_cop n B z1 z2).1) n B u2.1 u2.2) (cwV 0 hts gL_law_X2_thrown rfl rfl rfl hdX2_thrown ⟨Nat.le_of_ble_eq_true rfl, Nat.le_of_ble_eq_true rfl⟩) (preR (wr := (([oL o cL v1] ++ (wX cI cZ cA ax n B Q cn rt wd qf T)) ++ [oD od cD vd])) (hK.sub [0] rfl) hP (ci := 4) rfl (q0 := 26) rfl rfl) rfl hl.1 rfl (Nat.le_of_ble_eq_true rfl) dL_law_1310 ⟨by omega, by omega⟩ ?_
  refine lv_iload hx hb dL_law_1313 (lv_at hl 1 rfl) ?_
  refine lv_icmp_eq (tgt := 1320) hx hb dL_law_1315 (by decide) (fun _ => ?_) (fun h => absurd rfl h)
  refine lv_iload hx hb dL_law_1320 (lv_at hl 1 rfl) ?_
  refine lv_if_ne (tgt := 1337) hx hb dL_law_1322 (by decide) (fun _ => ?_) (fun h0 => ?_)
  · obtain ⟨hP, hD⟩ := R2A hP hD
    refine lv_goto (tgt := 1652) hx hb dL_law_1337 (by decide) ?_
    refine W.widen (k := cells + 4) (n := slots + 24) (by omega) (by omega) ?_
    exact kk _ _ _ _ _ ⟨hB, _, _, _, _, _, _, _, _, _, _, _, hQ, h_T, hP, hD, hS⟩ (lv_sub hl [2, 3, 4, 5, 6, 7] rfl)
  · have hv := hv1 (nI_0of (b_s_cop _ _ z1 z2) h0)
    refine lv_aload_n hx hb dL_law_1325 rfl (lv_at hl 5 rfl) ?_
    refine lv_iconst (v := nI 0) hx hb dL_law_1326 (by decide +kernel) ?_
    refine va_lald hx hb hK hP 0 3 rfl rfl (vp_in_nI (by decide) (by decide)) dL_law_1327 ?_
    refine lv_iload hx hb dL_law_1328 (lv_at hl 0 rfl) ?_
    refine lv_i2l (v := ((nI ((s_cop n B z1 z2).2))).toInt64) hx hb dL_law_1330 rfl ?_
    refine W.lcmp hx hb dL_law_1331 ?_
    refine lv_if_eq (tgt := 1337) hx hb dL_law_1332 (by decide) (fun _ => ?_) (fun h => absurd ((lg_cmp_eq _ _).mpr hv) h)
    refine lv_goto (tgt := 1652) hx hb dL_law_1337 (by decide) ?_
    obtain ⟨hP, hD⟩ := R2A hP hD
    refine W.widen (k := cells + 4) (n := slots + 24) (by omega) (by omega) ?_
    exact kk _ _ _ _ _ ⟨hB, _, _, _, _, _, _, _, _, _, _, _, hQ, h_T, hP, hD, hS⟩ (lv_sub hl [2, 3, 4, 5, 6, 7] rfl)
