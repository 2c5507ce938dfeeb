set_option maxHeartbeats 4000000 in
set_option maxRecDepth 100000 in
theorem cs_0 {p : Program} {l : Launch} {e : Env} {s : State} {m : MethodId} {below : List Frame} {meth : Method} {c : Code} {b L : Nat} {xs : Nat → Int32} {D : va_G} {cI cZ cA cL cD : ClassId} {Z9 : State → Prop} (hfl : l.stackTraces = false) (C0 : LC p s m c b L xs D cI cZ cA cL cD) {ax ad : Nat → Nat} {o od n : Nat} {B : Nat → Nat → Nat} {i : Nat} (hi : i + 4 < L) {H : Heap} {locs : List Loc} {cells slots : Nat} {ls : Array Slot} (hf : cells + 4 ≤ room_1.cells ∧ slots + 24 ≤ room_1.slots) (hst : LSt D cI cZ cA cL cD ax ad o od n B s H locs) (hl : lv_has ls 9 (LV b ax ad o od i)) (kk : KK p l e s m below meth c b D cI cZ cA cL cD ax ad o od i cells slots Z9) : W p l e room_1 s m #[Value.ref b] below meth c H locs cells slots Z9 (F0 m 168 ls []) := by
  obtain ⟨hx, hb, hml, hown, hts, hX, hbl, hL, hK, hE0, hNC⟩ := id C0
  obtain ⟨hB, Q, cn, rt, wd, qf, T, th, P, bs, vo, vd, hQ, h_T, hP, hD, hS⟩ := hst
  have hA : ∀ q : Nat, s.heap.size ≤ q → LA s q := fun _ h => h
  have hbA : ¬ LA s b := Nat.not_le.mpr hbl
  obtain ⟨z1, e1⟩ : ∃ z, z = xs (nI (i + 1)).toNatClampNeg := ⟨_, rfl⟩
  obtain ⟨z2, e2⟩ : ∃ z, z = xs (nI (i + 2)).toNatClampNeg := ⟨_, rfl⟩
  obtain ⟨z3, e3⟩ : ∃ z, z = xs (nI (i + 3)).toNatClampNeg := ⟨_, rfl⟩
  obtain ⟨z4, e4⟩ : ∃ z, z = xs (nI (i + 4)).toNatClampNeg := ⟨_, rfl⟩
  have hl : lv_has ls 9 [(0, .ref b), (1, .ref (ax 0)), (2, .ref (ad 0)), (3, .ref o), (4, .ref od), (5, .int (nI i))] := hl
  obtain ⟨H0, eH0⟩ : ∃ z, z = H := ⟨_, rfl⟩
  subst eH0
  refine lv_aload_n hx hb dL_law_168 rfl (lv_at hl 1 rfl) ?_
  refine lv_aload_n hx hb dL_law_169 rfl (lv_at hl 0 rfl) ?_
  refine lv_iload hx hb dL_law_170 (lv_at hl 5 rfl) ?_
  refine lv_iconst (v := nI 1) hx hb dL_law_172 (by decide +kernel) ?_
  refine lv_iadd hx hb dL_law_173 ?_
  refine n_top (nI_add i 1) ?_
  refine va_sld hx hb hX hbl hbA hS (vp_in_nI (show i + 1 < L by omega) (by omega)) dL_law_174 ?_
  refine n_top e1.symm ?_
  refine lv_aload_n hx hb dL_law_175 rfl (lv_at hl 0 rfl) ?_
  refine lv_iload hx hb dL_law_176 (lv_at hl 5 rfl) ?_
  refine lv_iconst (v := nI 2) hx hb dL_law_178 (by decide +kernel) ?_
  refine lv_iadd hx hb dL_law_179 ?_
  refine n_top (nI_add i 2) ?_
  refine va_sld hx hb hX hbl hbA hS (vp_in_nI (show i + 2 < L by omega) (by omega)) dL_law_180 ?_
  refine n_top e2.symm ?_
  refine lv_aload_n hx hb dL_law_181 rfl (lv_at hl 0 rfl) ?_
  refine lv_iload hx hb dL_law_182 (lv_at hl 5 rfl) ?_
  refine lv_iconst (v := nI 3) hx hb dL_law_184 (by decide +kernel) ?_
  refine lv_iadd hx hb dL_law_185 ?_
  refine n_top (nI_add i 3) ?_
  refine va_sld hx hb hX hbl hbA hS (vp_in_nI (show i + 3 < L by omega) (by omega)) dL_law_186 ?_
  refine n_top e3.symm ?_
  refine lv_aload_n hx hb dL_law_187 rfl (lv_at hl 0 rfl) ?_
  refine lv_iload hx hb dL_law_188 (lv_at hl 5 rfl) ?_
  refine lv_iconst (v := nI 4) hx hb dL_law_190 (by decide +kernel) ?_
  refine lv_iadd hx hb dL_law_191 ?_
  refine n_top (nI_add i 4) ?_
  refine va_sld hx hb hX hbl hbA hS (vp_in_nI (show i + 4 < L by omega) (by omega)) dL_law_192 ?_
  refine n_top e4.symm ?_
  refine lv_aload_n hx hb dL_law_193 rfl (lv_at hl 3 rfl) ?_
  have hE := hE0.kept hS.2.1
  refine xw_S (wr := (wM cI ad th n B P bs) ++ [oD od cD vd]) (w := [oL o cL vo] ++ (wX cI cZ cA ax n B Q cn rt wd qf T)) (As := [.ref (ax 0), .int z1, .int z2, .int z3, .int z4, .ref o]) (rest := []) (tys0 := tyL cI cZ cA cL) ⟨hx, hb, hml, hown, hts⟩ (kL_arrive l hfl D cI cZ cA ax n B Q cn rt wd qf T o cL vo H0.size z1 z2 z3 z4 hB) (vx_cwSW 6 hts gL_law_L_arrive rfl rfl rfl hdL_arrive ⟨Nat.le_of_ble_eq_true rfl, Nat.le_of_ble_eq_true rfl⟩) (hK.sub [0, 1, 2, 3] rfl) hP hD hS hA hE hNC rfl hl.1 rfl (Nat.le_of_ble_eq_true rfl) dL_law_194 ⟨by omega, by omega⟩ (fun r1 v1 H1 locs1 hp1 hP hD hS => ?_)
  obtain ⟨hr1, hv1⟩ := hp1
  subst hr1
  refine lv_istore (lv' := [(6, .int (nI (s_arc n B z1 z2 z3 z4))), (0, .ref b), (1, .ref (ax 0)), (2, .ref (ad 0)), (3, .ref o), (4, .ref od), (5, .int (nI i))]) hx hb dL_law_197 hl (by decide) rfl (fun ls hl => ?_)
  obtain ⟨hP, hD⟩ := A2R hP hD
  refine lv_aload_n hx hb dL_law_199 rfl (lv_at hl 3 rfl) ?_
  refine lv_aload_n hx hb dL_law_200 rfl (lv_at hl 1 rfl) ?_
  refine lv_iload hx hb dL_law_201 (lv_at hl 6 rfl) ?_
  refine lv_iconst (v := nI 1) hx hb dL_law_203 (by decide +kernel) ?_
  refine lv_iadd hx hb dL_law_204 ?_
  refine n_top (nI_add i 1) ?_
  refine va_sld hx hb hX hbl hbA hS (vp_in_nI (show i + 1 < L by omega) (by omega)) dL_law_205 ?_
  refine n_top e1.symm ?_
  refine lv_aload_n hx hb dL_law_206 rfl (lv_at hl 1 rfl) ?_
  refine lv_iload hx hb dL_law_207 (lv_at hl 6 rfl) ?_
  refine lv_iconst (v := nI 2) hx hb dL_law_209 (by decide +kernel) ?_
  refine lv_iadd hx hb dL_law_210 ?_
  refine n_top (nI_add i 2) ?_
  refine va_sld hx hb hX hbl hbA hS (vp_in_nI (show i + 2 < L by omega) (by omega)) dL_law_211 ?_
  refine n_top e2.symm ?_
  refine lv_aload_n hx hb dL_law_212 rfl (lv_at hl 1 rfl) ?_
  refine lv_iload hx hb dL_law_213 (lv_at hl 6 rfl) ?_
  refine lv_iconst (v := nI 3) hx hb dL_law_215 (by decide +kernel) ?_
  refine lv_iadd hx hb dL_law_216 ?_
  refine n_top (nI_add i 3) ?_
  refine va_sld hx hb hX hbl hbA hS (vp_in_nI (show i + 3 < L by omega) (by omega)) dL_law_217 ?_
  refine n_top e3.symm ?_
  refine lv_aload_n hx hb dL_law_218 rfl (lv_at hl 1 rfl) ?_
  refine lv_iload hx hb dL_law_219 (lv_at hl 6 rfl) ?_
  refine lv_iconst (v := nI 4) hx hb dL_law_221 (by decide +kernel) ?_
  refine lv_iadd hx hb dL_law_222 ?_
  refine n_top (nI_add i 4) ?_
  refine va_sld hx hb hX hbl hbA hS (vp_in_nI (show i + 4 < L by omega) (by omega)) dL_law_223 ?_
  refine n_top e4.symm ?_
  refine mo2_V (wr := (([oL o cL (v1)] ++ (wX cI cZ cA ax (s_arn n B z1 z2 z3 z4) (s_arB n B z1 z2 z3 z4) Q cn rt wd qf T)) ++ [oD od cD vd])) (w := (wM cI ad th n B P bs)) (As := [.int z1, .int z2, .int z3, .int z4]) (rest := []) ⟨hx, hb, hml, hown, hts⟩ (kX2_arrive l D cI ad th n B P bs H1.size z1 z2 z3 z4 hB) (cwV 4 hts gL_law_X2_arrive rfl rfl rfl hdX2_arrive ⟨Nat.le_of_ble_eq_true rfl, Nat.le_of_ble_eq_true rfl⟩) (preM (wr := (([oL o cL (v1)] ++ (wX cI cZ cA ax (s_arn n B z1 z2 z3 z4) (s_arB n B z1 z2 z3 z4) Q cn rt wd qf T)) ++ [oD od cD vd])) (hK.sub [0] rfl) hP hD (ci := 4) rfl (q0 := 26) rfl rfl) hP hD hS hA rfl hl.1 rfl (Nat.le_of_ble_eq_true rfl) dL_law_224 ⟨by omega, by omega⟩ (fun r2 u2 H2 locs2 hp2 hP hD hS => ?_)
  have hr2 := hp2
  subst hr2
  refine lv_istore (lv' := [(7, .int ((nI (s_arv n B z1 z2 z3 z4)))), (6, .int (nI (s_arc n B z1 z2 z3 z4))), (0, .ref b), (1, .ref (ax 0)), (2, .ref (ad 0)), (3, .ref o), (4, .ref od), (5, .int (nI i))]) hx hb dL_law_227 hl (by decide) rfl (fun ls hl => ?_)
  refine lv_aload_n hx hb dL_law_229 rfl (lv_at hl 4 rfl) ?_
  refine ro2_V (As := []) (rest := []) ⟨hx, hb, hml, hown, hts⟩ (kX2_thrown l D cI ad (s_arc n B z1 z2 z3 z4) (s_arn n B z1 z2 z3 z4) (s_arB n B z1 z2 z3 z4) P bs) (cwV 0 hts gL_law_X2_thrown rfl rfl rfl hdX2_thrown ⟨Nat.le_of_ble_eq_true rfl, Nat.le_of_ble_eq_true rfl⟩) (preR (wr := (([oL o cL (v1)] ++ (wX cI cZ cA ax (s_arn n B z1 z2 z3 z4) (s_arB n B z1 z2 z3 z4) Q cn rt wd qf T)) ++ [oD od cD vd])) (hK.sub [0] rfl) hP (ci := 4) rfl (q0 := 26) rfl rfl) rfl hl.1 rfl (Nat.le_of_ble_eq_true rfl) dL_law_230 ⟨by omega, by omega⟩ ?_
  refine lv_iload hx hb dL_law_233 (lv_at hl 1 rfl) ?_
  refine lv_icmp_eq (tgt := 240) hx hb dL_law_235 (by decide) (fun _ => ?_) (fun h => absurd rfl h)
  refine lv_iload hx hb dL_law_240 (lv_at hl 1 rfl) ?_
  refine lv_if_ne (tgt := 257) hx hb dL_law_242 (by decide) (fun _ => ?_) (fun h0 => ?_)
  · obtain ⟨hP, hD⟩ := R2A hP hD
    have hbq := ar_all hB hQ z1 z2 z3 z4
    refine lv_goto (tgt := 1652) hx hb dL_law_257 (by decide) ?_
    refine W.widen (k := cells + 4) (n := slots + 24) (by omega) (by omega) ?_
    exact kk _ _ _ _ _ ⟨hbq.1, _, _, _, _, _, _, _, _, _, _, _, hbq.2, h_T, hP, hD, hS⟩ (lv_sub hl [2, 3, 4, 5, 6, 7] rfl)
  · have hv := hv1 (nI_0of (b_s_arc _ _ z1 z2 z3 z4) h0)
    refine lv_aload_n hx hb dL_law_245 rfl (lv_at hl 5 rfl) ?_
    refine lv_iconst (v := nI 0) hx hb dL_law_246 (by decide +kernel) ?_
    refine va_lald hx hb hK hP 0 3 rfl rfl (vp_in_nI (by decide) (by decide)) dL_law_247 ?_
    refine lv_iload hx hb dL_law_248 (lv_at hl 0 rfl) ?_
    refine lv_i2l (v := ((nI (s_arv n B z1 z2 z3 z4))).toInt64) hx hb dL_law_250 rfl ?_
    refine W.lcmp hx hb dL_law_251 ?_
    refine lv_if_eq (tgt := 257) hx hb dL_law_252 (by decide) (fun _ => ?_) (fun h => absurd ((lg_cmp_eq _ _).mpr hv) h)
    refine lv_goto (tgt := 1652) hx hb dL_law_257 (by decide) ?_
    obtain ⟨hP, hD⟩ := R2A hP hD
    have hbq := ar_all hB hQ z1 z2 z3 z4
    refine W.widen (k := cells + 4) (n := slots + 24) (by omega) (by omega) ?_
    exact kk _ _ _ _ _ ⟨hbq.1, _, _, _, _, _, _, _, _, _, _, _, hbq.2, h_T, hP, hD, hS⟩ (lv_sub hl [2, 3, 4, 5, 6, 7] rfl)
set_option maxHeartbeats 4000000 in
set_option maxRecDepth 100000 in
theorem cs_1 {p : Program} {l : Launch} {e : Env} {s : State} {m : MethodId} {below : List Frame} {meth : Method} {c : Code} {b L : Nat} {xs : Nat → Int32} {D : va_G} {cI cZ cA cL cD : ClassId} {Z9 : State → Prop} (hfl : l.stackTraces = false) (C0 : LC p s m c b L xs D cI cZ cA cL cD) {ax ad : Nat → Nat} {o od n : Nat} {B : Nat → Nat → Nat} {i : Nat} (hi : i + 4 < L) {H : Heap} {locs : List Loc} {cells slots : Nat} {ls : Array Slot} (hf : cells + 4 ≤ room_1.cells ∧ slots + 24 ≤ room_1.slots) (hst : LSt D cI cZ cA cL cD ax ad o od n B s H locs) (hl : lv_has ls 9 (LV b ax ad o od i)) (kk : KK p l e s m below meth c b D cI cZ cA cL cD ax ad o od i cells slots Z9) : W p l e room_1 s m #[Value.ref b] below meth c H locs cells slots Z9 (F0 m 260 ls []) := by
  obtain ⟨hx, hb, hml, hown, hts, hX, hbl, hL, hK, hE0, hNC⟩ := id C0
  obtain ⟨hB, Q, cn, rt, wd, qf, T, th, P, bs, vo, vd, hQ, h_T, hP, hD, hS⟩ := hst
  have hA : ∀ q : Nat, s.heap.size ≤ q → LA s q := fun _ h => h
  have hbA : ¬ LA s b := Nat.not_le.mpr hbl
  obtain ⟨z1, e1⟩ : ∃ z, z = xs (nI (i + 1)).toNatClampNeg := ⟨_, rfl⟩
  obtain ⟨z2, e2⟩ : ∃ z, z = xs (nI (i + 2)).toNatClampNeg := ⟨_, rfl⟩
  obtain ⟨z3, e3⟩ : ∃ z, z = xs (nI (i + 3)).toNatClampNeg := ⟨_, rfl⟩
  have hl : lv_has ls 9 [(0, .ref b), (1, .ref (ax 0)), (2, .ref (ad 0)), (3, .ref o), (4, .ref od), (5, .int (nI i))] := hl
  obtain ⟨H0, eH0⟩ : ∃ z, z = H := ⟨_, rfl⟩
  subst eH0
  refine lv_aload_n hx hb dL_law_260 rfl (lv_at hl 1 rfl) ?_
  refine lv_aload_n hx hb dL_law_261 rfl (lv_at hl 0 rfl) ?_
  refine lv_iload hx hb dL_law_262 (lv_at hl 5 rfl) ?_
  refine lv_iconst (v := nI 1) hx hb dL_law_264 (by decide +kernel) ?_
  refine lv_iadd hx hb dL_law_265 ?_
  refine n_top (nI_add i 1) ?_
  refine va_sld hx hb hX hbl hbA hS (vp_in_nI (show i + 1 < L by omega) (by omega)) dL_law_266 ?_
  refine n_top e1.symm ?_
  refine lv_aload_n hx hb dL_law_267 rfl (lv_at hl 0 rfl) ?_
  refine lv_iload hx hb dL_law_268 (lv_at hl 5 rfl) ?_
  refine lv_iconst (v := nI 2) hx hb dL_law_270 (by decide +kernel) ?_
  refine lv_iadd hx hb dL_law_271 ?_
  refine n_top (nI_add i 2) ?_
  refine va_sld hx hb hX hbl hbA hS (vp_in_nI (show i + 2 < L by omega) (by omega)) dL_law_272 ?_
  refine n_top e2.symm ?_
  refine lv_aload_n hx hb dL_law_273 rfl (lv_at hl 0 rfl) ?_
  refine lv_iload hx hb dL_law_274 (lv_at hl 5 rfl) ?_
  refine lv_iconst (v := nI 3) hx hb dL_law_276 (by decide +kernel) ?_
  refine lv_iadd hx hb dL_law_277 ?_
  refine n_top (nI_add i 3) ?_
  refine va_sld hx hb hX hbl hbA hS (vp_in_nI (show i + 3 < L by omega) (by omega)) dL_law_278 ?_
  refine n_top e3.symm ?_
  refine lv_aload_n hx hb dL_law_279 rfl (lv_at hl 3 rfl) ?_
  have hE := hE0.kept hS.2.1
  refine xw_S (wr := (wM cI ad th n B P bs) ++ [oD od cD vd]) (w := [oL o cL vo] ++ (wX cI cZ cA ax n B Q cn rt wd qf T)) (As := [.ref (ax 0), .int z1, .int z2, .int z3, .ref o]) (rest := []) (tys0 := tyL cI cZ cA cL) ⟨hx, hb, hml, hown, hts⟩ (kL_addLine l hfl D cI cZ cA ax n B Q cn rt wd qf T o cL vo H0.size z1 z2 z3 hB hQ h_T) (vx_cwSW 5 hts gL_law_L_addLine rfl rfl rfl hdL_addLine ⟨Nat.le_of_ble_eq_true rfl, Nat.le_of_ble_eq_true rfl⟩) (hK.sub [0, 1, 2, 3] rfl) hP hD hS hA hE hNC rfl hl.1 rfl (Nat.le_of_ble_eq_true rfl) dL_law_280 ⟨by omega, by omega⟩ (fun r1 v1 H1 locs1 hp1 hP hD hS => ?_)
  obtain ⟨hr1, hv1, hq0, hq1, hq2⟩ := hp1
  subst hr1
  refine lv_istore (lv' := [(6, .int (nI (s_adc n B z1 z2 z3))), (0, .ref b), (1, .ref (ax 0)), (2, .ref (ad 0)), (3, .ref o), (4, .ref od), (5, .int (nI i))]) hx hb dL_law_283 hl (by decide) rfl (fun ls hl => ?_)
  obtain ⟨hP, hD⟩ := A2R hP hD
  refine lv_aload_n hx hb dL_law_285 rfl (lv_at hl 3 rfl) ?_
  refine lv_aload_n hx hb dL_law_286 rfl (lv_at hl 1 rfl) ?_
  refine lv_iload hx hb dL_law_287 (lv_at hl 6 rfl) ?_
  refine lv_iconst (v := nI 1) hx hb dL_law_289 (by decide +kernel) ?_
  refine lv_iadd hx hb dL_law_290 ?_
  refine n_top (nI_add i 1) ?_
  refine va_sld hx hb hX hbl hbA hS (vp_in_nI (show i + 1 < L by omega) (by omega)) dL_law_291 ?_
  refine n_top e1.symm ?_
  refine lv_aload_n hx hb dL_law_292 rfl (lv_at hl 1 rfl) ?_
  refine lv_iload hx hb dL_law_293 (lv_at hl 6 rfl) ?_
  refine lv_iconst (v := nI 2) hx hb dL_law_295 (by decide +kernel) ?_
  refine lv_iadd hx hb dL_law_296 ?_
  refine n_top (nI_add i 2) ?_
  refine va_sld hx hb hX hbl hbA hS (vp_in_nI (show i + 2 < L by omega) (by omega)) dL_law_297 ?_
  refine n_top e2.symm ?_
  refine lv_aload_n hx hb dL_law_298 rfl (lv_at hl 1 rfl) ?_
  refine lv_iload hx hb dL_law_299 (lv_at hl 6 rfl) ?_
  refine lv_iconst (v := nI 3) hx hb dL_law_301 (by decide +kernel) ?_
  refine lv_iadd hx hb dL_law_302 ?_
  refine n_top (nI_add i 3) ?_
  refine va_sld hx hb hX hbl hbA hS (vp_in_nI (show i + 3 < L by omega) (by omega)) dL_law_303 ?_
  refine n_top e3.symm ?_
  refine mo2_V (wr := (([oL o cL (v1.1)] ++ (wX cI cZ cA ax n (s_adB n B z1 z2 z3) v1.2.1 cn rt v1.2.2.1 v1.2.2.2.1 v1.2.2.2.2)) ++ [oD od cD vd])) (w := (wM cI ad th n B P bs)) (As := [.int z1, .int z2, .int z3]) (rest := []) ⟨hx, hb, hml, hown, hts⟩ (kX2_addLine l D cI ad th n B P bs H1.size z1 z2 z3 hB) (cwV 3 hts gL_law_X2_addLine rfl rfl rfl hdX2_addLine ⟨Nat.le_of_ble_eq_true rfl, Nat.le_of_ble_eq_true rfl⟩) (preM (wr := (([oL o cL (v1.1)] ++ (wX cI cZ cA ax n (s_adB n B z1 z2 z3) v1.2.1 cn rt v1.2.2.1 v1.2.2.2.1 v1.2.2.2.2)) ++ [oD od cD vd])) (hK.sub [0] rfl) hP hD (ci := 4) rfl (q0 := 26) rfl rfl) hP hD hS hA rfl hl.1 rfl (Nat.le_of_ble_eq_true rfl) dL_law_304 ⟨by omega, by omega⟩ (fun r2 u2 H2 locs2 hp2 hP hD hS => ?_)
  have hr2 := hp2
  subst hr2
  refine lv_istore (lv' := [(7, .int ((nI (s_adv n B z1 z2 z3)))), (6, .int (nI (s_adc n B z1 z2 z3))), (0, .ref b), (1, .ref (ax 0)), (2, .ref (ad 0)), (3, .ref o), (4, .ref od), (5, .int (nI i))]) hx hb dL_law_307 hl (by decide) rfl (fun ls hl => ?_)
  refine lv_aload_n hx hb dL_law_309 rfl (lv_at hl 4 rfl) ?_
  refine ro2_V (As := []) (rest := []) ⟨hx, hb, hml, hown, hts⟩ (kX2_thrown l D cI ad (s_adc n B z1 z2 z3) n (s_adB n B z1 z2 z3) P bs) (cwV 0 hts gL_law_X2_thrown rfl rfl rfl hdX2_thrown ⟨Nat.le_of_ble_eq_true rfl, Nat.le_of_ble_eq_true rfl⟩) (preR (wr := (([oL o cL (v1.1)] ++ (wX cI cZ cA ax n (s_adB n B z1 z2 z3) v1.2.1 cn rt v1.2.2.1 v1.2.2.2.1 v1.2.2.2.2)) ++ [oD od cD vd])) (hK.sub [0] rfl) hP (ci := 4) rfl (q0 := 26) rfl rfl) rfl hl.1 rfl (Nat.le_of_ble_eq_true rfl) dL_law_310 ⟨by omega, by omega⟩ ?_
  refine lv_iload hx hb dL_law_313 (lv_at hl 1 rfl) ?_
  refine lv_icmp_eq (tgt := 320) hx hb dL_law_315 (by decide) (fun _ => ?_) (fun h => absurd rfl h)
  refine lv_iload hx hb dL_law_320 (lv_at hl 1 rfl) ?_
  refine lv_if_ne (tgt := 337) hx hb dL_law_322 (by decide) (fun _ => ?_) (fun h0 => ?_)
  · obtain ⟨hP, hD⟩ := R2A hP hD
    refine lv_goto (tgt := 1652) hx hb dL_law_337 (by decide) ?_
    refine W.widen (k := cells + 4) (n := slots + 24) (by omega) (by omega) ?_
    exact kk _ _ _ _ _ ⟨hq0, _, _, _, _, _, _, _, _, _, _, _, hq1, hq2, hP, hD, hS⟩ (lv_sub hl [2, 3, 4, 5, 6, 7] rfl)
  · have hv := hv1 (nI_0of (b_s_adc _ _ z1 z2 z3) h0)
    refine lv_aload_n hx hb dL_law_325 rfl (lv_at hl 5 rfl) ?_
    refine lv_iconst (v := nI 0) hx hb dL_law_326 (by decide +kernel) ?_
    refine va_lald hx hb hK hP 0 3 rfl rfl (vp_in_nI (by decide) (by decide)) dL_law_327 ?_
    refine lv_iload hx hb dL_law_328 (lv_at hl 0 rfl) ?_
    refine lv_i2l (v := ((nI (s_adv n B z1 z2 z3))).toInt64) hx hb dL_law_330 rfl ?_
    refine W.lcmp hx hb dL_law_331 ?_
    refine lv_if_eq (tgt := 337) hx hb dL_law_332 (by decide) (fun _ => ?_) (fun h => absurd ((lg_cmp_eq _ _).mpr hv) h)
    refine lv_goto (tgt := 1652) hx hb dL_law_337 (by decide) ?_
    obtain ⟨hP, hD⟩ := R2A hP hD
    refine W.widen (k := cells + 4) (n := slots + 24) (by omega) (by omega) ?_
    exact kk _ _ _ _ _ ⟨hq0, _, _, _, _, _, _, _, _, _, _, _, hq1, hq2, hP, hD, hS⟩ (lv_sub hl [2, 3, 4, 5, 6, 7] rfl)
set_option maxHeartbeats 4000000 in
set_option maxRecDepth 100000 in
theorem cs_2 {p : Program} {l : Launch} {e : Env} {s : State} {m : MethodId} {below : List Frame} {meth : Method} {c : Code} {b L : Nat} {xs : Nat → Int32} {D : va_G} {cI cZ cA cL cD : ClassId} {Z9 : State → Prop} (hfl : l.stackTraces = false) (C0 : LC p s m c b L xs D cI cZ cA cL cD) {ax ad : Nat → Nat} {o od n : Nat} {B : Nat → Nat → Nat} {i : Nat} (hi : i + 4 < L) {H : Heap} {locs : List Loc} {cells slots : Nat} {ls : Array Slot} (hf : cells + 4 ≤ room_1.cells ∧ slots + 24 ≤ room_1.slots) (hst : LSt D cI cZ cA cL cD ax ad o od n B s H locs) (hl : lv_has ls 9 (LV b ax ad o od i)) (kk : KK p l e s m below meth c b D cI cZ cA cL cD ax ad o od i cells slots Z9) : W p l e room_1 s m #[Value.ref b] below meth c H locs cells slots Z9 (F0 m 340 ls []) := by
  obtain ⟨hx, hb, hml, hown, hts, hX, hbl, hL, hK, hE0, hNC⟩ := id C0
  obtain ⟨hB, Q, cn, rt, wd, qf, T, th, P, bs, vo, vd, hQ, h_T, hP, hD, hS⟩ := hst
  have hA : ∀ q : Nat, s.heap.size ≤ q → LA s q := fun _ h => h
  have hbA : ¬ LA s b := Nat.not_le.mpr hbl
  obtain ⟨z1, e1⟩ : ∃ z, z = xs (nI (i + 1)).toNatClampNeg := ⟨_, rfl⟩
  have hl : lv_has ls 9 [(0, .ref b), (1, .ref (ax 0)), (2, .ref (ad 0)), (3, .ref o), (4, .ref od), (5, .int (nI i))] := hl
  obtain ⟨H0, eH0⟩ : ∃ z, z = H := ⟨_, rfl⟩
  subst eH0
  refine lv_aload_n hx hb dL_law_340 rfl (lv_at hl 1 rfl) ?_
  refine lv_aload_n hx hb dL_law_341 rfl (lv_at hl 0 rfl) ?_
  refine lv_iload hx hb dL_law_342 (lv_at hl 5 rfl) ?_
  refine lv_iconst (v := nI 1) hx hb dL_law_344 (by decide +kernel) ?_
  refine lv_iadd hx hb dL_law_345 ?_
  refine n_top (nI_add i 1) ?_
  refine va_sld hx hb hX hbl hbA hS (vp_in_nI (show i + 1 < L by omega) (by omega)) dL_law_346 ?_
  refine n_top e1.symm ?_
  refine lv_aload_n hx hb dL_law_347 rfl (lv_at hl 3 rfl) ?_
  have hE := hE0.kept hS.2.1
  refine xw_S (wr := (wM cI ad th n B P bs) ++ [oD od cD vd]) (w := [oL o cL vo] ++ (wX cI cZ cA ax n B Q cn rt wd qf T)) (As := [.ref (ax 0), .int z1, .ref o]) (rest := []) (tys0 := tyL cI cZ cA cL) ⟨hx, hb, hml, hown, hts⟩ (kL_removeLine l hfl D cI cZ cA ax n B Q cn rt wd qf T o cL vo H0.size z1 hB hQ h_T) (vx_cwSW 3 hts gL_law_L_removeLine rfl rfl rfl hdL_removeLine ⟨Nat.le_of_ble_eq_true rfl, Nat.le_of_ble_eq_true rfl⟩) (hK.sub [0, 1, 2, 3] rfl) hP hD hS hA hE hNC rfl hl.1 rfl (Nat.le_of_ble_eq_true rfl) dL_law_348 ⟨by omega, by omega⟩ (fun r1 v1 H1 locs1 hp1 hP hD hS => ?_)
  obtain ⟨hr1, hv1, hq0, hq1, hq2⟩ := hp1
  subst hr1
  refine lv_istore (lv' := [(6, .int (nI (s_rmc n B z1))), (0, .ref b), (1, .ref (ax 0)), (2, .ref (ad 0)), (3, .ref o), (4, .ref od), (5, .int (nI i))]) hx hb dL_law_351 hl (by decide) rfl (fun ls hl => ?_)
  obtain ⟨hP, hD⟩ := A2R hP hD
  refine lv_aload_n hx hb dL_law_353 rfl (lv_at hl 3 rfl) ?_
  refine lv_aload_n hx hb dL_law_354 rfl (lv_at hl 1 rfl) ?_
  refine lv_iload hx hb dL_law_355 (lv_at hl 6 rfl) ?_
  refine lv_iconst (v := nI 1) hx hb dL_law_357 (by decide +kernel) ?_
  refine lv_iadd hx hb dL_law_358 ?_
  refine n_top (nI_add i 1) ?_
  refine va_sld hx hb hX hbl hbA hS (vp_in_nI (show i + 1 < L by omega) (by omega)) dL_law_359 ?_
  refine n_top e1.symm ?_
  refine mo2_V (wr := (([oL o cL (v1.1)] ++ (wX cI cZ cA ax n (s_rmB n B z1) v1.2.1 cn rt v1.2.2.1 v1.2.2.2.1 v1.2.2.2.2)) ++ [oD od cD vd])) (w := (wM cI ad th n B P bs)) (As := [.int z1]) (rest := []) ⟨hx, hb, hml, hown, hts⟩ (kX2_removeLine l D cI ad th n B P bs H1.size z1 hB) (cwV 1 hts gL_law_X2_removeLine rfl rfl rfl hdX2_removeLine ⟨Nat.le_of_ble_eq_true rfl, Nat.le_of_ble_eq_true rfl⟩) (preM (wr := (([oL o cL (v1.1)] ++ (wX cI cZ cA ax n (s_rmB n B z1) v1.2.1 cn rt v1.2.2.1 v1.2.2.2.1 v1.2.2.2.2)) ++ [oD od cD vd])) (hK.sub [0] rfl) hP hD (ci := 4) rfl (q0 := 26) rfl rfl) hP hD hS hA rfl hl.1 rfl (Nat.le_of_ble_eq_true rfl) dL_law_360 ⟨by omega, by omega⟩ (fun r2 u2 H2 locs2 hp2 hP hD hS => ?_)
  have hr2 := hp2
  subst hr2
  refine lv_istore (lv' := [(7, .int ((nI (s_rmv n B z1)))), (6, .int (nI (s_rmc n B z1))), (0, .ref b), (1, .ref (ax 0)), (2, .ref (ad 0)), (3, .ref o), (4, .ref od), (5, .int (nI i))]) hx hb dL_law_363 hl (by decide) rfl (fun ls hl => ?_)
  refine lv_aload_n hx hb dL_law_365 rfl (lv_at hl 4 rfl) ?_
  refine ro2_V (As := []) (rest := []) ⟨hx, hb, hml, hown, hts⟩ (kX2_thrown l D cI ad (s_rmc n B z1) n (s_rmB n B z1) P bs) (cwV 0 hts gL_law_X2_thrown rfl rfl rfl hdX2_thrown ⟨Nat.le_of_ble_eq_true rfl, Nat.le_of_ble_eq_true rfl⟩) (preR (wr := (([oL o cL (v1.1)] ++ (wX cI cZ cA ax n (s_rmB n B z1) v1.2.1 cn rt v1.2.2.1 v1.2.2.2.1 v1.2.2.2.2)) ++ [oD od cD vd])) (hK.sub [0] rfl) hP (ci := 4) rfl (q0 := 26) rfl rfl) rfl hl.1 rfl (Nat.le_of_ble_eq_true rfl) dL_law_366 ⟨by omega, by omega⟩ ?_
  refine lv_iload hx hb dL_law_369 (lv_at hl 1 rfl) ?_
  refine lv_icmp_eq (tgt := 376) hx hb dL_law_371 (by decide) (fun _ => ?_) (fun h => absurd rfl h)
  refine lv_iload hx hb dL_law_376 (lv_at hl 1 rfl) ?_
  refine lv_if_ne (tgt := 393) hx hb dL_law_378 (by decide) (fun _ => ?_) (fun h0 => ?_)
  · obtain ⟨hP, hD⟩ := R2A hP hD
    refine lv_goto (tgt := 1652) hx hb dL_law_393 (by decide) ?_
    refine W.widen (k := cells + 4) (n := slots + 24) (by omega) (by omega) ?_
    exact kk _ _ _ _ _ ⟨hq0, _, _, _, _, _, _, _, _, _, _, _, hq1, hq2, hP, hD, hS⟩ (lv_sub hl [2, 3, 4, 5, 6, 7] rfl)
  · have hv := hv1 (nI_0of (b_s_rmc _ _ z1) h0)
    refine lv_aload_n hx hb dL_law_381 rfl (lv_at hl 5 rfl) ?_
    refine lv_iconst (v := nI 0) hx hb dL_law_382 (by decide +kernel) ?_
    refine va_lald hx hb hK hP 0 3 rfl rfl (vp_in_nI (by decide) (by decide)) dL_law_383 ?_
    refine lv_iload hx hb dL_law_384 (lv_at hl 0 rfl) ?_
    refine lv_i2l (v := ((nI (s_rmv n B z1))).toInt64) hx hb dL_law_386 rfl ?_
    refine W.lcmp hx hb dL_law_387 ?_
    refine lv_if_eq (tgt := 393) hx hb dL_law_388 (by decide) (fun _ => ?_) (fun h => absurd ((lg_cmp_eq _ _).mpr hv) h)
    refine lv_goto (tgt := 1652) hx hb dL_law_393 (by decide) ?_
    obtain ⟨hP, hD⟩ := R2A hP hD
    refine W.widen (k := cells + 4) (n := slots + 24) (by omega) (by omega) ?_
    exact kk _ _ _ _ _ ⟨hq0, _, _, _, _, _, _, _, _, _, _, _, hq1, hq2, hP, hD, hS⟩ (lv_sub hl [2, 3, 4, 5, 6, 7] rfl)
set_option maxHeartbeats 4000000 in
set_option maxRecDepth 100000 in
theorem cs_3 {p : Program} {l : Launch} {e : Env} {s : State} {m : MethodId} {below : List Frame} {meth : Method} {c : Code} {b L : Nat} {xs : Nat → Int32} {D : va_G} {cI cZ cA cL cD : ClassId} {Z9 : State → Prop} (hfl : l.stackTraces = false) (C0 : LC p s m c b L xs D cI cZ cA cL cD) {ax ad : Nat → Nat} {o od n : Nat} {B : Nat → Nat → Nat} {i : Nat} (hi : i + 4 < L) {H : Heap} {locs : List Loc} {cells slots : Nat} {ls : Array Slot} (hf : cells + 4 ≤ room_1.cells ∧ slots + 24 ≤ room_1.slots) (hst : LSt D cI cZ cA cL cD ax ad o od n B s H locs) (hl : lv_has ls 9 (LV b ax ad o od i)) (kk : KK p l e s m below meth c b D cI cZ cA cL cD ax ad o od i cells slots Z9) : W p l e room_1 s m #[Value.ref b] below meth c H locs cells slots Z9 (F0 m 396 ls []) := by
  obtain ⟨hx, hb, hml, hown, hts, hX, hbl, hL, hK, hE0, hNC⟩ := id C0
  obtain ⟨hB, Q, cn, rt, wd, qf, T, th, P, bs, vo, vd, hQ, h_T, hP, hD, hS⟩ := hst
  have hA : ∀ q : Nat, s.heap.size ≤ q → LA s q := fun _ h => h
  have hbA : ¬ LA s b := Nat.not_le.mpr hbl
  have hl : lv_has ls 9 [(0, .ref b), (1, .ref (ax 0)), (2, .ref (ad 0)), (3, .ref o), (4, .ref od), (5, .int (nI i))] := hl
  obtain ⟨H0, eH0⟩ : ∃ z, z = H := ⟨_, rfl⟩
  subst eH0
  obtain ⟨hP, hD⟩ := A2X hP hD
  refine lv_aload_n hx hb dL_law_396 rfl (lv_at hl 1 rfl) ?_
  refine ro2_V (As := []) (rest := []) ⟨hx, hb, hml, hown, hts⟩ (kX1_mails l D cI cZ cA ax n B Q cn rt wd qf T ) (cwV 0 hts gL_law_X1_mails rfl rfl rfl hdX1_mails ⟨Nat.le_of_ble_eq_true rfl, Nat.le_of_ble_eq_true rfl⟩) (preR (wr := (((wM cI ad th n B P bs) ++ [oD od cD vd]) ++ [oL o cL vo])) (hK.sub [0, 1, 2] rfl) hP (ci := 3) rfl (q0 := 12) rfl rfl) rfl hl.1 rfl (Nat.le_of_ble_eq_true rfl) dL_law_397 ⟨by omega, by omega⟩ ?_
  obtain ⟨hP, hD⟩ := X2A hP hD
  obtain ⟨hP, hD⟩ := A2R hP hD
  refine lv_aload_n hx hb dL_law_400 rfl (lv_at hl 2 rfl) ?_
  refine mo2_V (wr := (([oL o cL vo] ++ (wX cI cZ cA ax n B Q cn rt wd qf T)) ++ [oD od cD vd])) (w := (wM cI ad th n B P bs)) (As := []) (rest := [.int ((nI (n)))]) ⟨hx, hb, hml, hown, hts⟩ (kX2_mails l D cI ad th n B P bs H0.size  ) (cwV 0 hts gL_law_X2_mails rfl rfl rfl hdX2_mails ⟨Nat.le_of_ble_eq_true rfl, Nat.le_of_ble_eq_true rfl⟩) (preM (wr := (([oL o cL vo] ++ (wX cI cZ cA ax n B Q cn rt wd qf T)) ++ [oD od cD vd])) (hK.sub [0] rfl) hP hD (ci := 4) rfl (q0 := 26) rfl rfl) hP hD hS hA rfl hl.1 rfl (Nat.le_of_ble_eq_true rfl) dL_law_401 ⟨by omega, by omega⟩ (fun r2 u2 H1 locs1 hp2 hP hD hS => ?_)
  have hr2 := hp2
  subst hr2
  refine lv_icmp_eq (tgt := 1652) hx hb dL_law_404 (by decide) (fun _ => ?_) (fun h => absurd rfl h)
  obtain ⟨hP, hD⟩ := R2A hP hD
  refine W.widen (k := cells + 4) (n := slots + 24) (by omega) (by omega) ?_
  exact kk _ _ _ _ _ ⟨hB, _, _, _, _, _, _, _, _, _, _, _, hQ, h_T, hP, hD, hS⟩ (lv_sub hl [0, 1, 2, 3, 4, 5] rfl)
set_option maxHeartbeats 4000000 in
set_option maxRecDepth 100000 in
theorem cs_4 {p : Program} {l : Launch} {e : Env} {s : State} {m : MethodId} {below : List Frame} {meth : Method} {c : Code} {b L : Nat} {xs : Nat → Int32} {D : va_G} {cI cZ cA cL cD : ClassId} {Z9 : State → Prop} (hfl : l.stackTraces = false) (C0 : LC p s m c b L xs D cI cZ cA cL cD) {ax ad : Nat → Nat} {o od n : Nat} {B : Nat → Nat → Nat} {i : Nat} (hi : i + 4 < L) {H : Heap} {locs : List Loc} {cells slots : Nat} {ls : Array Slot} (hf : cells + 4 ≤ room_1.cells ∧ slots + 24 ≤ room_1.slots) (hst : LSt D cI cZ cA cL cD ax ad o od n B s H locs) (hl : lv_has ls 9 (LV b ax ad o od i)) (kk : KK p l e s m below meth c b D cI cZ cA cL cD ax ad o od i cells slots Z9) : W p l e room_1 s m #[Value.ref b] below meth c H locs cells slots Z9 (F0 m 409 ls []) := by
  obtain ⟨hx, hb, hml, hown, hts, hX, hbl, hL, hK, hE0, hNC⟩ := id C0
  obtain ⟨hB, Q, cn, rt, wd, qf, T, th, P, bs, vo, vd, hQ, h_T, hP, hD, hS⟩ := hst
  have hA : ∀ q : Nat, s.heap.size ≤ q → LA s q := fun _ h => h
  have hbA : ¬ LA s b := Nat.not_le.mpr hbl
  obtain ⟨z1, e1⟩ : ∃ z, z = xs (nI (i + 1)).toNatClampNeg := ⟨_, rfl⟩
  have hl : lv_has ls 9 [(0, .ref b), (1, .ref (ax 0)), (2, .ref (ad 0)), (3, .ref o), (4, .ref od), (5, .int (nI i))] := hl
  obtain ⟨H0, eH0⟩ : ∃ z, z = H := ⟨_, rfl⟩
  subst eH0
  refine lv_aload_n hx hb dL_law_409 rfl (lv_at hl 1 rfl) ?_
  refine lv_aload_n hx hb dL_law_410 rfl (lv_at hl 0 rfl) ?_
  refine lv_iload hx hb dL_law_411 (lv_at hl 5 rfl) ?_
  refine lv_iconst (v := nI 1) hx hb dL_law_413 (by decide +kernel) ?_
  refine lv_iadd hx hb dL_law_414 ?_
  refine n_top (nI_add i 1) ?_
  refine va_sld hx hb hX hbl hbA hS (vp_in_nI (show i + 1 < L by omega) (by omega)) dL_law_415 ?_
  refine n_top e1.symm ?_
  refine lv_aload_n hx hb dL_law_416 rfl (lv_at hl 3 rfl) ?_
  have hE := hE0.kept hS.2.1
  refine xw_S (wr := (wM cI ad th n B P bs) ++ [oD od cD vd]) (w := [oL o cL vo] ++ (wX cI cZ cA ax n B Q cn rt wd qf T)) (As := [.ref (ax 0), .int z1, .ref o]) (rest := []) (tys0 := tyL cI cZ cA cL) ⟨hx, hb, hml, hown, hts⟩ (kL_lines l hfl D cI cZ cA ax n B Q cn rt wd qf T o cL vo H0.size z1 hB) (vx_cwSW 3 hts gL_law_L_lines rfl rfl rfl hdL_lines ⟨Nat.le_of_ble_eq_true rfl, Nat.le_of_ble_eq_true rfl⟩) (hK.sub [0, 1, 2, 3] rfl) hP hD hS hA hE hNC rfl hl.1 rfl (Nat.le_of_ble_eq_true rfl) dL_law_417 ⟨by omega, by omega⟩ (fun r1 v1 H1 locs1 hp1 hP hD hS => ?_)
  obtain ⟨hr1, hv1⟩ := hp1
  subst hr1
  refine lv_istore (lv' := [(6, .int (nI ((s_lines n B z1).1))), (0, .ref b), (1, .ref (ax 0)), (2, .ref (ad 0)), (3, .ref o), (4, .ref od), (5, .int (nI i))]) hx hb dL_law_420 hl (by decide) rfl (fun ls hl => ?_)
  obtain ⟨hP, hD⟩ := A2R hP hD
  refine lv_aload_n hx hb dL_law_422 rfl (lv_at hl 3 rfl) ?_
  refine lv_aload_n hx hb dL_law_423 rfl (lv_at hl 1 rfl) ?_
  refine lv_iload hx hb dL_law_424 (lv_at hl 6 rfl) ?_
  refine lv_iconst (v := nI 1) hx hb dL_law_426 (by decide +kernel) ?_
  refine lv_iadd hx hb dL_law_427 ?_
  refine n_top (nI_add i 1) ?_
  refine va_sld hx hb hX hbl hbA hS (vp_in_nI (show i + 1 < L by omega) (by omega)) dL_law_428 ?_
  refine n_top e1.symm ?_
  refine mo2_V (wr := (([oL o cL v1] ++ (wX cI cZ cA ax n B Q cn rt wd qf T)) ++ [oD od cD vd])) (w := (wM cI ad th n B P bs)) (As := [.int z1]) (rest := []) ⟨hx, hb, hml, hown, hts⟩ (kX2_lines l D cI ad th n B P bs H1.size z1 hB) (cwV 1 hts gL_law_X2_lines rfl rfl rfl hdX2_lines ⟨Nat.le_of_ble_eq_true rfl, Nat.le_of_ble_eq_true rfl⟩) (preM (wr := (([oL o cL v1] ++ (wX cI cZ cA ax n B Q cn rt wd qf T)) ++ [oD od cD vd])) (hK.sub [0] rfl) hP hD (ci := 4) rfl (q0 := 26) rfl rfl) hP hD hS hA rfl hl.1 rfl (Nat.le_of_ble_eq_true rfl) dL_law_429 ⟨by omega, by omega⟩ (fun r2 u2 H2 locs2 hp2 hP hD hS => ?_)
  have hr2 := hp2
  subst hr2
  refine lv_istore (lv' := [(7, .int ((nI ((s_lines n B z1).2)))), (6, .int (nI ((s_lines n B z1).1))), (0, .ref b), (1, .ref (ax 0)), (2, .ref (ad 0)), (3, .ref o), (4, .ref od), (5, .int (nI i))]) hx hb dL_law_432 hl (by decide) rfl (fun ls hl => ?_)
  refine lv_aload_n hx hb dL_law_434 rfl (lv_at hl 4 rfl) ?_
  refine ro2_V (As := []) (rest := []) ⟨hx, hb, hml, hown, hts⟩ (kX2_thrown l D cI ad ((s_lines n B z1).1) n B P bs) (cwV 0 hts gL_law_X2_thrown rfl rfl rfl hdX2_thrown ⟨Nat.le_of_ble_eq_true rfl, Nat.le_of_ble_eq_true rfl⟩) (preR (wr := (([oL o cL v1] ++ (wX cI cZ cA ax n B Q cn rt wd qf T)) ++ [oD od cD vd])) (hK.sub [0] rfl) hP (ci := 4) rfl (q0 := 26) rfl rfl) rfl hl.1 rfl (Nat.le_of_ble_eq_true rfl) dL_law_435 ⟨by omega, by omega⟩ ?_
  refine lv_iload hx hb dL_law_438 (lv_at hl 1 rfl) ?_
  refine lv_icmp_eq (tgt := 445) hx hb dL_law_440 (by decide) (fun _ => ?_) (fun h => absurd rfl h)
  refine lv_iload hx hb dL_law_445 (lv_at hl 1 rfl) ?_
  refine lv_if_ne (tgt := 462) hx hb dL_law_447 (by decide) (fun _ => ?_) (fun h0 => ?_)
  · obtain ⟨hP, hD⟩ := R2A hP hD
    refine lv_goto (tgt := 1652) hx hb dL_law_462 (by decide) ?_
    refine W.widen (k := cells + 4) (n := slots + 24) (by omega) (by omega) ?_
    exact kk _ _ _ _ _ ⟨hB, _, _, _, _, _, _, _, _, _, _, _, hQ, h_T, hP, hD, hS⟩ (lv_sub hl [2, 3, 4, 5, 6, 7] rfl)
  · have hv := hv1 (nI_0of (b_s_lines _ _ z1) h0)
    refine lv_aload_n hx hb dL_law_450 rfl (lv_at hl 5 rfl) ?_
    refine lv_iconst (v := nI 0) hx hb dL_law_451 (by decide +kernel) ?_
    refine va_lald hx hb hK hP 0 3 rfl rfl (vp_in_nI (by decide) (by decide)) dL_law_452 ?_
    refine lv_iload hx hb dL_law_453 (lv_at hl 0 rfl) ?_
    refine lv_i2l (v := ((nI ((s_lines n B z1).2))).toInt64) hx hb dL_law_455 rfl ?_
    refine W.lcmp hx hb dL_law_456 ?_
    refine lv_if_eq (tgt := 462) hx hb dL_law_457 (by decide) (fun _ => ?_) (fun h => absurd ((lg_cmp_eq _ _).mpr hv) h)
    refine lv_goto (tgt := 1652) hx hb dL_law_462 (by decide) ?_
    obtain ⟨hP, hD⟩ := R2A hP hD
    refine W.widen (k := cells + 4) (n := slots + 24) (by omega) (by omega) ?_
    exact kk _ _ _ _ _ ⟨hB, _, _, _, _, _, _, _, _, _, _, _, hQ, h_T, hP, hD, hS⟩ (lv_sub hl [2, 3, 4, 5, 6, 7] rfl)
set_option maxHeartbeats 4000000 in
set_option maxRecDepth 100000 in
theorem cs_5 {p : Program} {l : Launch} {e : Env} {s : State} {m : MethodId} {below : List Frame} {meth : Method} {c : Code} {b L : Nat} {xs : Nat → Int32} {D : va_G} {cI cZ cA cL cD : ClassId} {Z9 : State → Prop} (hfl : l.stackTraces = false) (C0 : LC p s m c b L xs D cI cZ cA cL cD) {ax ad : Nat → Nat} {o od n : Nat} {B : Nat → Nat → Nat} {i : Nat} (hi : i + 4 < L) {H : Heap} {locs : List Loc} {cells slots : Nat} {ls : Array Slot} (hf : cells + 4 ≤ room_1.cells ∧ slots + 24 ≤ room_1.slots) (hst : LSt D cI cZ cA cL cD ax ad o od n B s H locs) (hl : lv_has ls 9 (LV b ax ad o od i)) (kk : KK p l e s m below meth c b D cI cZ cA cL cD ax ad o od i cells slots Z9) : W p l e room_1 s m #[Value.ref b] below meth c H locs cells slots Z9 (F0 m 465 ls []) := by
  obtain ⟨hx, hb, hml, hown, hts, hX, hbl, hL, hK, hE0, hNC⟩ := id C0
  obtain ⟨hB, Q, cn, rt, wd, qf, T, th, P, bs, vo, vd, hQ, h_T, hP, hD, hS⟩ := hst
  have hA : ∀ q : Nat, s.heap.size ≤ q → LA s q := fun _ h => h
  have hbA : ¬ LA s b := Nat.not_le.mpr hbl
  obtain ⟨z1, e1⟩ : ∃ z, z = xs (nI (i + 1)).toNatClampNeg := ⟨_, rfl⟩
  obtain ⟨z2, e2⟩ : ∃ z, z = xs (nI (i + 2)).toNatClampNeg := ⟨_, rfl⟩
  have hl : lv_has ls 9 [(0, .ref b), (1, .ref (ax 0)), (2, .ref (ad 0)), (3, .ref o), (4, .ref od), (5, .int (nI i))] := hl
  obtain ⟨H0, eH0⟩ : ∃ z, z = H := ⟨_, rfl⟩
  subst eH0
  refine lv_aload_n hx hb dL_law_465 rfl (lv_at hl 1 rfl) ?_
  refine lv_aload_n hx hb dL_law_466 rfl (lv_at hl 0 rfl) ?_
  refine lv_iload hx hb dL_law_467 (lv_at hl 5 rfl) ?_
  refine lv_iconst (v := nI 1) hx hb dL_law_469 (by decide +kernel) ?_
  refine lv_iadd hx hb dL_law_470 ?_
  refine n_top (nI_add i 1) ?_
  refine va_sld hx hb hX hbl hbA hS (vp_in_nI (show i + 1 < L by omega) (by omega)) dL_law_471 ?_
  refine n_top e1.symm ?_
  refine lv_aload_n hx hb dL_law_472 rfl (lv_at hl 0 rfl) ?_
  refine lv_iload hx hb dL_law_473 (lv_at hl 5 rfl) ?_
  refine lv_iconst (v := nI 2) hx hb dL_law_475 (by decide +kernel) ?_
  refine lv_iadd hx hb dL_law_476 ?_
  refine n_top (nI_add i 2) ?_
  refine va_sld hx hb hX hbl hbA hS (vp_in_nI (show i + 2 < L by omega) (by omega)) dL_law_477 ?_
  refine n_top e2.symm ?_
  refine lv_aload_n hx hb dL_law_478 rfl (lv_at hl 3 rfl) ?_
  have hE := hE0.kept hS.2.1
  refine xw_S (wr := (wM cI ad th n B P bs) ++ [oD od cD vd]) (w := [oL o cL vo] ++ (wX cI cZ cA ax n B Q cn rt wd qf T)) (As := [.ref (ax 0), .int z1, .int z2, .ref o]) (rest := []) (tys0 := tyL cI cZ cA cL) ⟨hx, hb, hml, hown, hts⟩ (kL_word l hfl D cI cZ cA ax n B Q cn rt wd qf T o cL vo H0.size z1 z2 hB) (vx_cwSW 4 hts gL_law_L_word rfl rfl rfl hdL_word ⟨Nat.le_of_ble_eq_true rfl, Nat.le_of_ble_eq_true rfl⟩) (hK.sub [0, 1, 2, 3] rfl) hP hD hS hA hE hNC rfl hl.1 rfl (Nat.le_of_ble_eq_true rfl) dL_law_479 ⟨by omega, by omega⟩ (fun r1 v1 H1 locs1 hp1 hP hD hS => ?_)
  obtain ⟨hr1, hv1⟩ := hp1
  subst hr1
  refine lv_istore (lv' := [(6, .int (nI ((s_word n B z1 z2).1))), (0, .ref b), (1, .ref (ax 0)), (2, .ref (ad 0)), (3, .ref o), (4, .ref od), (5, .int (nI i))]) hx hb dL_law_482 hl (by decide) rfl (fun ls hl => ?_)
  obtain ⟨hP, hD⟩ := A2R hP hD
  refine lv_aload_n hx hb dL_law_484 rfl (lv_at hl 3 rfl) ?_
  refine lv_aload_n hx hb dL_law_485 rfl (lv_at hl 1 rfl) ?_
  refine lv_iload hx hb dL_law_486 (lv_at hl 6 rfl) ?_
  refine lv_iconst (v := nI 1) hx hb dL_law_488 (by decide +kernel) ?_
  refine lv_iadd hx hb dL_law_489 ?_
  refine n_top (nI_add i 1) ?_
  refine va_sld hx hb hX hbl hbA hS (vp_in_nI (show i + 1 < L by omega) (by omega)) dL_law_490 ?_
  refine n_top e1.symm ?_
  refine lv_aload_n hx hb dL_law_491 rfl (lv_at hl 1 rfl) ?_
  refine lv_iload hx hb dL_law_492 (lv_at hl 6 rfl) ?_
  refine lv_iconst (v := nI 2) hx hb dL_law_494 (by decide +kernel) ?_
  refine lv_iadd hx hb dL_law_495 ?_
  refine n_top (nI_add i 2) ?_
  refine va_sld hx hb hX hbl hbA hS (vp_in_nI (show i + 2 < L by omega) (by omega)) dL_law_496 ?_
  refine n_top e2.symm ?_
  refine mo2_V (wr := (([oL o cL v1] ++ (wX cI cZ cA ax n B Q cn rt wd qf T)) ++ [oD od cD vd])) (w := (wM cI ad th n B P bs)) (As := [.int z1, .int z2]) (rest := []) ⟨hx, hb, hml, hown, hts⟩ (kX2_word l D cI ad th n B P bs H1.size z1 z2 hB) (cwV 2 hts gL_law_X2_word rfl rfl rfl hdX2_word ⟨Nat.le_of_ble_eq_true rfl, Nat.le_of_ble_eq_true rfl⟩) (preM (wr := (([oL o cL v1] ++ (wX cI cZ cA ax n B Q cn rt wd qf T)) ++ [oD od cD vd])) (hK.sub [0] rfl) hP hD (ci := 4) rfl (q0 := 26) rfl rfl) hP hD hS hA rfl hl.1 rfl (Nat.le_of_ble_eq_true rfl) dL_law_497 ⟨by omega, by omega⟩ (fun r2 u2 H2 locs2 hp2 hP hD hS => ?_)
  have hr2 := hp2
  subst hr2
  refine lv_istore (lv' := [(7, .int ((nI ((s_word n B z1 z2).2)))), (6, .int (nI ((s_word n B z1 z2).1))), (0, .ref b), (1, .ref (ax 0)), (2, .ref (ad 0)), (3, .ref o), (4, .ref od), (5, .int (nI i))]) hx hb dL_law_500 hl (by decide) rfl (fun ls hl => ?_)
  refine lv_aload_n hx hb dL_law_502 rfl (lv_at hl 4 rfl) ?_
  refine ro2_V (As := []) (rest := []) ⟨hx, hb, hml, hown, hts⟩ (kX2_thrown l D cI ad ((s_word n B z1 z2).1) n B P bs) (cwV 0 hts gL_law_X2_thrown rfl rfl rfl hdX2_thrown ⟨Nat.le_of_ble_eq_true rfl, Nat.le_of_ble_eq_true rfl⟩) (preR (wr := (([oL o cL v1] ++ (wX cI cZ cA ax n B Q cn rt wd qf T)) ++ [oD od cD vd])) (hK.sub [0] rfl) hP (ci := 4) rfl (q0 := 26) rfl rfl) rfl hl.1 rfl (Nat.le_of_ble_eq_true rfl) dL_law_503 ⟨by omega, by omega⟩ ?_
  refine lv_iload hx hb dL_law_506 (lv_at hl 1 rfl) ?_
  refine lv_icmp_eq (tgt := 513) hx hb dL_law_508 (by decide) (fun _ => ?_) (fun h => absurd rfl h)
  refine lv_iload hx hb dL_law_513 (lv_at hl 1 rfl) ?_
  refine lv_if_ne (tgt := 530) hx hb dL_law_515 (by decide) (fun _ => ?_) (fun h0 => ?_)
  · obtain ⟨hP, hD⟩ := R2A hP hD
    refine lv_goto (tgt := 1652) hx hb dL_law_530 (by decide) ?_
    refine W.widen (k := cells + 4) (n := slots + 24) (by omega) (by omega) ?_
    exact kk _ _ _ _ _ ⟨hB, _, _, _, _, _, _, _, _, _, _, _, hQ, h_T, hP, hD, hS⟩ (lv_sub hl [2, 3, 4, 5, 6, 7] rfl)
  · have hv := hv1 (nI_0of (b_s_word _ _ z1 z2) h0)
    refine lv_aload_n hx hb dL_law_518 rfl (lv_at hl 5 rfl) ?_
    refine lv_iconst (v := nI 0) hx hb dL_law_519 (by decide +kernel) ?_
    refine va_lald hx hb hK hP 0 3 rfl rfl (vp_in_nI (by decide) (by decide)) dL_law_520 ?_
    refine lv_iload hx hb dL_law_521 (lv_at hl 0 rfl) ?_
    refine lv_i2l (v := ((nI ((s_word n B z1 z2).2))).toInt64) hx hb dL_law_523 rfl ?_
    refine W.lcmp hx hb dL_law_524 ?_
    refine lv_if_eq (tgt := 530) hx hb dL_law_525 (by decide) (fun _ => ?_) (fun h => absurd ((lg_cmp_eq _ _).mpr hv) h)
    refine lv_goto (tgt := 1652) hx hb dL_law_530 (by decide) ?_
    obtain ⟨hP, hD⟩ := R2A hP hD
    refine W.widen (k := cells + 4) (n := slots + 24) (by omega) (by omega) ?_
    exact kk _ _ _ _ _ ⟨hB, _, _, _, _, _, _, _, _, _, _, _, hQ, h_T, hP, hD, hS⟩ (lv_sub hl [2, 3, 4, 5, 6, 7] rfl)
set_option maxHeartbeats 4000000 in
set_option maxRecDepth 100000 in
theorem cs_6 {p : Program} {l : Launch} {e : Env} {s : State} {m : MethodId} {below : List Frame} {meth : Method} {c : Code} {b L : Nat} {xs : Nat → Int32} {D : va_G} {cI cZ cA cL cD : ClassId} {Z9 : State → Prop} (hfl : l.stackTraces = false) (C0 : LC p s m c b L xs D cI cZ cA cL cD) {ax ad : Nat → Nat} {o od n : Nat} {B : Nat → Nat → Nat} {i : Nat} (hi : i + 4 < L) {H : Heap} {locs : List Loc} {cells slots : Nat} {ls : Array Slot} (hf : cells + 4 ≤ room_1.cells ∧ slots + 24 ≤ room_1.slots) (hst : LSt D cI cZ cA cL cD ax ad o od n B s H locs) (hl : lv_has ls 9 (LV b ax ad o od i)) (kk : KK p l e s m below meth c b D cI cZ cA cL cD ax ad o od i cells slots Z9) : W p l e room_1 s m #[Value.ref b] below meth c H locs cells slots Z9 (F0 m 533 ls []) := by
  obtain ⟨hx, hb, hml, hown, hts, hX, hbl, hL, hK, hE0, hNC⟩ := id C0
  obtain ⟨hB, Q, cn, rt, wd, qf, T, th, P, bs, vo, vd, hQ, h_T, hP, hD, hS⟩ := hst
  have hA : ∀ q : Nat, s.heap.size ≤ q → LA s q := fun _ h => h
  have hbA : ¬ LA s b := Nat.not_le.mpr hbl
  obtain ⟨z1, e1⟩ : ∃ z, z = xs (nI (i + 1)).toNatClampNeg := ⟨_, rfl⟩
  have hl : lv_has ls 9 [(0, .ref b), (1, .ref (ax 0)), (2, .ref (ad 0)), (3, .ref o), (4, .ref od), (5, .int (nI i))] := hl
  obtain ⟨H0, eH0⟩ : ∃ z, z = H := ⟨_, rfl⟩
  subst eH0
  refine lv_aload_n hx hb dL_law_533 rfl (lv_at hl 1 rfl) ?_
  refine lv_aload_n hx hb dL_law_534 rfl (lv_at hl 0 rfl) ?_
  refine lv_iload hx hb dL_law_535 (lv_at hl 5 rfl) ?_
  refine lv_iconst (v := nI 1) hx hb dL_law_537 (by decide +kernel) ?_
  refine lv_iadd hx hb dL_law_538 ?_
  refine n_top (nI_add i 1) ?_
  refine va_sld hx hb hX hbl hbA hS (vp_in_nI (show i + 1 < L by omega) (by omega)) dL_law_539 ?_
  refine n_top e1.symm ?_
  refine lv_aload_n hx hb dL_law_540 rfl (lv_at hl 3 rfl) ?_
  have hE := hE0.kept hS.2.1
  refine xw_S (wr := (wM cI ad th n B P bs) ++ [oD od cD vd]) (w := [oL o cL vo] ++ (wX cI cZ cA ax n B Q cn rt wd qf T)) (As := [.ref (ax 0), .int z1, .ref o]) (rest := []) (tys0 := tyL cI cZ cA cL) ⟨hx, hb, hml, hown, hts⟩ (kL_parent l hfl D cI cZ cA ax n B Q cn rt wd qf T o cL vo H0.size z1 hB) (vx_cwSW 3 hts gL_law_L_parent rfl rfl rfl hdL_parent ⟨Nat.le_of_ble_eq_true rfl, Nat.le_of_ble_eq_true rfl⟩) (hK.sub [0, 1, 2, 3] rfl) hP hD hS hA hE hNC rfl hl.1 rfl (Nat.le_of_ble_eq_true rfl) dL_law_541 ⟨by omega, by omega⟩ (fun r1 v1 H1 locs1 hp1 hP hD hS => ?_)
  obtain ⟨hr1, hv1⟩ := hp1
  subst hr1
  refine lv_istore (lv' := [(6, .int (nI ((s_parent n B z1).1))), (0, .ref b), (1, .ref (ax 0)), (2, .ref (ad 0)), (3, .ref o), (4, .ref od), (5, .int (nI i))]) hx hb dL_law_544 hl (by decide) rfl (fun ls hl => ?_)
  obtain ⟨hP, hD⟩ := A2R hP hD
  refine lv_aload_n hx hb dL_law_546 rfl (lv_at hl 3 rfl) ?_
  refine lv_aload_n hx hb dL_law_547 rfl (lv_at hl 1 rfl) ?_
  refine lv_iload hx hb dL_law_548 (lv_at hl 6 rfl) ?_
  refine lv_iconst (v := nI 1) hx hb dL_law_550 (by decide +kernel) ?_
  refine lv_iadd hx hb dL_law_551 ?_
  refine n_top (nI_add i 1) ?_
  refine va_sld hx hb hX hbl hbA hS (vp_in_nI (show i + 1 < L by omega) (by omega)) dL_law_552 ?_
  refine n_top e1.symm ?_
  refine mo2_V (wr := (([oL o cL v1] ++ (wX cI cZ cA ax n B Q cn rt wd qf T)) ++ [oD od cD vd])) (w := (wM cI ad th n B P bs)) (As := [.int z1]) (rest := []) ⟨hx, hb, hml, hown, hts⟩ (kX2_parent l D cI ad th n B P bs H1.size z1 hB) (cwV 1 hts gL_law_X2_parent rfl rfl rfl hdX2_parent ⟨Nat.le_of_ble_eq_true rfl, Nat.le_of_ble_eq_true rfl⟩) (preM (wr := (([oL o cL v1] ++ (wX cI cZ cA ax n B Q cn rt wd qf T)) ++ [oD od cD vd])) (hK.sub [0] rfl) hP hD (ci := 4) rfl (q0 := 26) rfl rfl) hP hD hS hA rfl hl.1 rfl (Nat.le_of_ble_eq_true rfl) dL_law_553 ⟨by omega, by omega⟩ (fun r2 u2 H2 locs2 hp2 hP hD hS => ?_)
  have hr2 := hp2
  subst hr2
  refine lv_istore (lv' := [(7, .int ((nI ((s_parent n B z1).2)))), (6, .int (nI ((s_parent n B z1).1))), (0, .ref b), (1, .ref (ax 0)), (2, .ref (ad 0)), (3, .ref o), (4, .ref od), (5, .int (nI i))]) hx hb dL_law_556 hl (by decide) rfl (fun ls hl => ?_)
  refine lv_aload_n hx hb dL_law_558 rfl (lv_at hl 4 rfl) ?_
  refine ro2_V (As := []) (rest := []) ⟨hx, hb, hml, hown, hts⟩ (kX2_thrown l D cI ad ((s_parent n B z1).1) n B P bs) (cwV 0 hts gL_law_X2_thrown rfl rfl rfl hdX2_thrown ⟨Nat.le_of_ble_eq_true rfl, Nat.le_of_ble_eq_true rfl⟩) (preR (wr := (([oL o cL v1] ++ (wX cI cZ cA ax n B Q cn rt wd qf T)) ++ [oD od cD vd])) (hK.sub [0] rfl) hP (ci := 4) rfl (q0 := 26) rfl rfl) rfl hl.1 rfl (Nat.le_of_ble_eq_true rfl) dL_law_559 ⟨by omega, by omega⟩ ?_
  refine lv_iload hx hb dL_law_562 (lv_at hl 1 rfl) ?_
  refine lv_icmp_eq (tgt := 569) hx hb dL_law_564 (by decide) (fun _ => ?_) (fun h => absurd rfl h)
  refine lv_iload hx hb dL_law_569 (lv_at hl 1 rfl) ?_
  refine lv_if_ne (tgt := 586) hx hb dL_law_571 (by decide) (fun _ => ?_) (fun h0 => ?_)
  · obtain ⟨hP, hD⟩ := R2A hP hD
    refine lv_goto (tgt := 1652) hx hb dL_law_586 (by decide) ?_
    refine W.widen (k := cells + 4) (n := slots + 24) (by omega) (by omega) ?_
    exact kk _ _ _ _ _ ⟨hB, _, _, _, _, _, _, _, _, _, _, _, hQ, h_T, hP, hD, hS⟩ (lv_sub hl [2, 3, 4, 5, 6, 7] rfl)
  · have hv := hv1 (nI_0of (b_s_parent _ _ z1) h0)
    refine lv_aload_n hx hb dL_law_574 rfl (lv_at hl 5 rfl) ?_
    refine lv_iconst (v := nI 0) hx hb dL_law_575 (by decide +kernel) ?_
    refine va_lald hx hb hK hP 0 3 rfl rfl (vp_in_nI (by decide) (by decide)) dL_law_576 ?_
    refine lv_iload hx hb dL_law_577 (lv_at hl 0 rfl) ?_
    refine lv_i2l (v := ((nI ((s_parent n B z1).2))).toInt64) hx hb dL_law_579 rfl ?_
    refine W.lcmp hx hb dL_law_580 ?_
    refine lv_if_eq (tgt := 586) hx hb dL_law_581 (by decide) (fun _ => ?_) (fun h => absurd ((lg_cmp_eq _ _).mpr hv) h)
    refine lv_goto (tgt := 1652) hx hb dL_law_586 (by decide) ?_
    obtain ⟨hP, hD⟩ := R2A hP hD
    refine W.widen (k := cells + 4) (n := slots + 24) (by omega) (by omega) ?_
    exact kk _ _ _ _ _ ⟨hB, _, _, _, _, _, _, _, _, _, _, _, hQ, h_T, hP, hD, hS⟩ (lv_sub hl [2, 3, 4, 5, 6, 7] rfl)
